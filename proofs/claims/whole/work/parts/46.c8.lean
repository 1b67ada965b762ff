abbrev rmX5_standsAsTold : Room := { frames := 6, cells := 0, slots := 0, locals := 133 }
set_option maxHeartbeats 4000000 in
set_option maxRecDepth 100000 in
theorem kX5_standsAsTold (l : Launch) (g : GG) (n : Nat) (v : SV) (N : Nat) (w : SV) (X : Nat → Int32) (hv : v = stW w 14 X) (hX : okC X N) (sx Z r : Nat) (hs : sx < 4) (hZ : Z ≤ 40) (hZ1 : v.1 (44 + 2 * sx) 1 = nI Z) (hr : r < N) : Met l yX5_standsAsTold wsX5_standsAsTold rmX5_standsAsTold (PW g n v [.ref (gA g 0), .ref (gA g (44 + 2 * sx)), .int (nI r)]) (QU g n (tolC X (v.1 (44 + 2 * sx + 1)) Z r) v) 0 0 (wA g n) := by
  refine Met.begin RX5 rfl (by decide) rfl (Nat.le_of_ble_eq_true rfl) ?_
  intro p e s m args below meth c ls ha C hP hS hl
  have hn : 64 ≤ n := C.2.1.1.2.1
  have hi0 : ∀ w ∈ u_ws RX0 TX0 6, w ∈ wsX5_standsAsTold := by decide +kernel
  have hi1 : ∀ w ∈ u_ws RX1 TX1 3, w ∈ wsX5_standsAsTold := by decide +kernel
  have hi2 : ∀ w ∈ u_ws RX2 TX2 11, w ∈ wsX5_standsAsTold := by decide +kernel
  have hi5 : ∀ w ∈ u_ws RX5 TX5 8, w ∈ wsX5_standsAsTold := by decide +kernel
  have hl : lv_has ls 5 [(0, .ref (gA g 0)), (1, .ref (gA g (44 + 2 * sx))), (2, .int (nI r))] := hl
  have h8 := hX.1
  rw [hv] at hP
  have hZw : w.1 (44 + 2 * sx) 1 = nI Z := by rw [← hZ1, hv]; exact (congrFun (st_far (by omega)) _).symm
  obtain ⟨f, hf⟩ : ∃ f, f = v.1 (44 + 2 * sx + 1) := ⟨_, rfl⟩
  have hfw : w.1 (44 + 2 * sx + 1) = f := by rw [hf, hv]; exact (st_far (by omega)).symm
  refine lv_iconst (v := 0) C.1.1 C.1.2.1 dX5_standsAsTold_0 rfl ?_
  refine lv_istore_n (lv' := [(3, .int 0), (0, .ref (gA g 0)), (1, .ref (gA g (44 + 2 * sx))), (2, .int (nI r))]) C.1.1 C.1.2.1 dX5_standsAsTold_1 rfl hl (by decide) rfl (fun ls hl => ?_)
  have lp_2 : ∀ (k_2 i : Nat), i ≤ Z → Z + 1 ≤ i + k_2 → ∀ (H : Heap) (locs : List Loc) (ls : Array Slot), (∀ t, t < i → (f t = -1 ∨ f t = rowM (daysM X t) r 4)) → va_P g.1 vwCl (wl g n (stW w 14 (daysM X (i - 1)))) H → va_S (wA g n) s.heap H locs → lv_has ls 5 [(0, .ref (gA g 0)), (1, .ref (gA g (44 + 2 * sx))), (2, .int (nI r)), (3, .int (nI i))] → W p l e rmX5_standsAsTold s m args below meth c H locs 0 0 (MQ below (QU g n (tolC X (v.1 (44 + 2 * sx + 1)) Z r) v) args s 0 0 (wA g n)) (F0 m 2 ls []) := by
    clear hP hS hl
    intro k_2
    induction k_2 with
    | zero => exact fun i h1 h2 => absurd h2 (by omega)
    | succ k_2 ih_2 =>
      intro i hi_2 hk_2 H locs ls hno hP hS hl
      refine lv_iload_n C.1.1 C.1.2.1 dX5_standsAsTold_2 rfl (lv_at hl 3 rfl) ?_
      refine lv_aload_n C.1.1 C.1.2.1 dX5_standsAsTold_3 rfl (lv_at hl 1 rfl) ?_
      refine r_get C hP (44 + 2 * sx) 1 (by omega) (kd_sh sx (by omega)).1 (by decide) rfl hi1 1 (by decide) (List.mem_of_getElem? (i := 1) rfl) rfl (val := .int ((stW w 14 (daysM X (i - 1))).1 (44 + 2 * sx) 1)) rfl dX5_standsAsTold_4 ?_
      refine lv_topE (nI Z) ((congrFun (st_far (by omega)) _).trans hZw) ?_
      refine lv_icmp_ge (tgt := 60) C.1.1 C.1.2.1 dX5_standsAsTold_7 (by decide) (fun c_1 => ?_) (fun c_1 => ?_)
      · rw [show (nI Z ≤ nI i) = (Z ≤ i) from propext (nI_leI (a := Z) (b := i) (by omega) (by omega))] at c_1
        refine lv_iconst (v := 1) C.1.1 C.1.2.1 dX5_standsAsTold_60 rfl ?_
        exact t_U1 C rfl hP hS (by rw [← hf]; exact fun t ht => hno t (by omega)) (by rw [hv]; exact sam_w _ _ _) dX5_standsAsTold_61
      · rw [show (nI Z ≤ nI i) = (Z ≤ i) from propext (nI_leI (a := Z) (b := i) (by omega) (by omega))] at c_1
        refine lv_iload_n C.1.1 C.1.2.1 dX5_standsAsTold_10 rfl (lv_at hl 3 rfl) ?_
        refine lv_if_le (tgt := 21) C.1.1 C.1.2.1 dX5_standsAsTold_11 (by decide) (fun c_2 => ?_) (fun c_2 => ?_)
        · rw [show (nI i ≤ 0) = (i ≤ 0) from propext (nI_leI (a := i) (b := 0) (by omega) (by omega))] at c_2
          rw [show daysM X (i - 1) = daysM X i from by rw [show i = 0 by omega]] at hP
          refine lv_aload_n C.1.1 C.1.2.1 dX5_standsAsTold_21 rfl (lv_at hl 1 rfl) ?_
          refine r_get C hP (44 + 2 * sx) 1 (by omega) (kd_sh sx (by omega)).1 (by decide) rfl hi1 2 (by decide) (List.mem_of_getElem? (i := 3) rfl) rfl (val := .ref (gA g ((44 + 2 * sx) + 1))) rfl dX5_standsAsTold_22 ?_
          refine lv_iload_n C.1.1 C.1.2.1 dX5_standsAsTold_25 rfl (lv_at hl 3 rfl) ?_
          refine r_iald C hP ((44 + 2 * sx) + 1) (by omega) (kd_sh sx (by omega)).2.1 i rfl (N := 40) (kd_sh sx (by omega)).2.2 (by decide) (by omega) dX5_standsAsTold_26 ?_
          refine lv_topE (f i) (congrFun ((st_far (by omega)).trans hfw) _) ?_
          refine lv_istore (lv' := [(4, .int (f i)), (0, .ref (gA g 0)), (1, .ref (gA g (44 + 2 * sx))), (2, .int (nI r)), (3, .int (nI i))]) C.1.1 C.1.2.1 dX5_standsAsTold_27 hl (by decide) rfl (fun ls hl => ?_)
          refine lv_iload C.1.1 C.1.2.1 dX5_standsAsTold_29 (lv_at hl 0 rfl) ?_
          refine lv_iconst (v := (-1)) C.1.1 C.1.2.1 dX5_standsAsTold_31 rfl ?_
          refine lv_icmp_eq (tgt := 54) C.1.1 C.1.2.1 dX5_standsAsTold_32 (by decide) (fun c_3 => ?_) (fun c_3 => ?_)
          · skip
            refine lv_iinc (v := nI (i + 1)) (lv' := [(3, .int (nI (i + 1))), (4, .int (f i)), (0, .ref (gA g 0)), (1, .ref (gA g (44 + 2 * sx))), (2, .int (nI r))]) C.1.1 C.1.2.1 dX5_standsAsTold_54 hl (k := 4) rfl (nI_1 i) (by decide) rfl (fun ls hl => ?_)
            refine lv_goto (tgt := 2) C.1.1 C.1.2.1 dX5_standsAsTold_57 (by decide) ?_
            exact ih_2 (i + 1) (by omega) (by omega) _ _ _ (fun t ht => if h9 : t < i then hno t h9 else by rw [show t = i by omega]; exact Or.inl c_3) (by rw [Nat.add_sub_cancel]; exact hP) hS (lv_sub hl [2, 3, 4, 0] rfl)
          · skip
            refine lv_iload C.1.1 C.1.2.1 dX5_standsAsTold_35 (lv_at hl 0 rfl) ?_
            refine lv_aload_n C.1.1 C.1.2.1 dX5_standsAsTold_37 rfl (lv_at hl 1 rfl) ?_
            refine r_get C hP 0 5 (Nat.lt_of_lt_of_le (by decide) hn) rfl (by decide) rfl hi5 1 (by decide) (List.mem_of_getElem? (i := 2) rfl) rfl (val := .ref (gA g 14)) rfl dX5_standsAsTold_38 ?_
            refine r_get C hP 14 2 (Nat.lt_of_lt_of_le (by decide) hn) rfl (by decide) rfl hi2 9 (by decide) (List.mem_of_getElem? (i := 4) rfl) rfl (val := .ref (gA g 17)) rfl dX5_standsAsTold_41 ?_
            refine lv_iload_n C.1.1 C.1.2.1 dX5_standsAsTold_44 rfl (lv_at hl 3 rfl) ?_
            refine r_aald C hP 17 (Nat.lt_of_lt_of_le (by decide) hn) rfl r rfl (by omega) dX5_standsAsTold_45 ?_
            refine r_get C hP (14 + 5 + r) 0 (by omega) (kd_stR 14 (Or.inr (Or.inl rfl)) r (by omega)) (by decide) rfl hi0 4 (by decide) (List.mem_of_getElem? (i := 5) rfl) rfl (val := .int ((stW w 14 (daysM X i)).1 (14 + 5 + r) 4)) rfl dX5_standsAsTold_46 ?_
            refine lv_topE (rowM (daysM X i) r 4) (st_at (i := 25 + 8 * 4 + r) (sl_5 (r := r) (w := 4) (by omega) (by decide)) (by omega)) ?_
            refine lv_icmp_eq (tgt := 54) C.1.1 C.1.2.1 dX5_standsAsTold_49 (by decide) (fun c_4 => ?_) (fun c_4 => ?_)
            · skip
              refine lv_iinc (v := nI (i + 1)) (lv' := [(3, .int (nI (i + 1))), (4, .int (f i)), (0, .ref (gA g 0)), (1, .ref (gA g (44 + 2 * sx))), (2, .int (nI r))]) C.1.1 C.1.2.1 dX5_standsAsTold_54 hl (k := 4) rfl (nI_1 i) (by decide) rfl (fun ls hl => ?_)
              refine lv_goto (tgt := 2) C.1.1 C.1.2.1 dX5_standsAsTold_57 (by decide) ?_
              exact ih_2 (i + 1) (by omega) (by omega) _ _ _ (fun t ht => if h9 : t < i then hno t h9 else by rw [show t = i by omega]; exact Or.inr c_4) (by rw [Nat.add_sub_cancel]; exact hP) hS (lv_sub hl [2, 3, 4, 0] rfl)
            · skip
              refine lv_iconst (v := 0) C.1.1 C.1.2.1 dX5_standsAsTold_52 rfl ?_
              exact t_U0 C rfl hP hS (by rw [← hf]; exact fun h => (h i (by omega)).elim c_3 c_4) (by rw [hv]; exact sam_w _ _ _) dX5_standsAsTold_53
        · rw [show (nI i ≤ 0) = (i ≤ 0) from propext (nI_leI (a := i) (b := 0) (by omega) (by omega))] at c_2
          refine lv_aload_n C.1.1 C.1.2.1 dX5_standsAsTold_14 rfl (lv_at hl 0 rfl) ?_
          refine r_get C hP 0 5 (Nat.lt_of_lt_of_le (by decide) hn) rfl (by decide) rfl hi5 1 (by decide) (List.mem_of_getElem? (i := 2) rfl) rfl (val := .ref (gA g 14)) rfl dX5_standsAsTold_15 ?_
          refine a_G hS (run_V C hP hS hl.1 14 2 (Nat.lt_of_lt_of_le (by decide) hn) rfl (by decide) rfl [] (kX2_passDay l g n (stW w 14 (daysM X (i - 1))) w 14 (daysM X (i - 1)) N (Or.inr (Or.inl rfl)) rfl (okC_days hX _)) gX5_standsAsTold_X2_passDay rfl hdX2_passDay rfl ⟨rfl, rfl⟩ ⟨Nat.le_of_ble_eq_true rfl, Nat.le_of_ble_eq_true rfl⟩ rfl [] rfl (Nat.le_of_ble_eq_true rfl) dX5_standsAsTold_18 ⟨Nat.zero_le _, Nat.zero_le _⟩) (fun H locs hP hS => ?_)
          rw [day_pred (show 0 < i by omega)] at hP
          refine lv_aload_n C.1.1 C.1.2.1 dX5_standsAsTold_21 rfl (lv_at hl 1 rfl) ?_
          refine r_get C hP (44 + 2 * sx) 1 (by omega) (kd_sh sx (by omega)).1 (by decide) rfl hi1 2 (by decide) (List.mem_of_getElem? (i := 3) rfl) rfl (val := .ref (gA g ((44 + 2 * sx) + 1))) rfl dX5_standsAsTold_22 ?_
          refine lv_iload_n C.1.1 C.1.2.1 dX5_standsAsTold_25 rfl (lv_at hl 3 rfl) ?_
          refine r_iald C hP ((44 + 2 * sx) + 1) (by omega) (kd_sh sx (by omega)).2.1 i rfl (N := 40) (kd_sh sx (by omega)).2.2 (by decide) (by omega) dX5_standsAsTold_26 ?_
          refine lv_topE (f i) (congrFun ((st_far (by omega)).trans hfw) _) ?_
          refine lv_istore (lv' := [(4, .int (f i)), (0, .ref (gA g 0)), (1, .ref (gA g (44 + 2 * sx))), (2, .int (nI r)), (3, .int (nI i))]) C.1.1 C.1.2.1 dX5_standsAsTold_27 hl (by decide) rfl (fun ls hl => ?_)
          refine lv_iload C.1.1 C.1.2.1 dX5_standsAsTold_29 (lv_at hl 0 rfl) ?_
          refine lv_iconst (v := (-1)) C.1.1 C.1.2.1 dX5_standsAsTold_31 rfl ?_
          refine lv_icmp_eq (tgt := 54) C.1.1 C.1.2.1 dX5_standsAsTold_32 (by decide) (fun c_5 => ?_) (fun c_5 => ?_)
          · skip
            refine lv_iinc (v := nI (i + 1)) (lv' := [(3, .int (nI (i + 1))), (4, .int (f i)), (0, .ref (gA g 0)), (1, .ref (gA g (44 + 2 * sx))), (2, .int (nI r))]) C.1.1 C.1.2.1 dX5_standsAsTold_54 hl (k := 4) rfl (nI_1 i) (by decide) rfl (fun ls hl => ?_)
            refine lv_goto (tgt := 2) C.1.1 C.1.2.1 dX5_standsAsTold_57 (by decide) ?_
            exact ih_2 (i + 1) (by omega) (by omega) _ _ _ (fun t ht => if h9 : t < i then hno t h9 else by rw [show t = i by omega]; exact Or.inl c_5) (by rw [Nat.add_sub_cancel]; exact hP) hS (lv_sub hl [2, 3, 4, 0] rfl)
          · skip
            refine lv_iload C.1.1 C.1.2.1 dX5_standsAsTold_35 (lv_at hl 0 rfl) ?_
            refine lv_aload_n C.1.1 C.1.2.1 dX5_standsAsTold_37 rfl (lv_at hl 1 rfl) ?_
            refine r_get C hP 0 5 (Nat.lt_of_lt_of_le (by decide) hn) rfl (by decide) rfl hi5 1 (by decide) (List.mem_of_getElem? (i := 2) rfl) rfl (val := .ref (gA g 14)) rfl dX5_standsAsTold_38 ?_
            refine r_get C hP 14 2 (Nat.lt_of_lt_of_le (by decide) hn) rfl (by decide) rfl hi2 9 (by decide) (List.mem_of_getElem? (i := 4) rfl) rfl (val := .ref (gA g 17)) rfl dX5_standsAsTold_41 ?_
            refine lv_iload_n C.1.1 C.1.2.1 dX5_standsAsTold_44 rfl (lv_at hl 3 rfl) ?_
            refine r_aald C hP 17 (Nat.lt_of_lt_of_le (by decide) hn) rfl r rfl (by omega) dX5_standsAsTold_45 ?_
            refine r_get C hP (14 + 5 + r) 0 (by omega) (kd_stR 14 (Or.inr (Or.inl rfl)) r (by omega)) (by decide) rfl hi0 4 (by decide) (List.mem_of_getElem? (i := 5) rfl) rfl (val := .int ((stW w 14 (daysM X i)).1 (14 + 5 + r) 4)) rfl dX5_standsAsTold_46 ?_
            refine lv_topE (rowM (daysM X i) r 4) (st_at (i := 25 + 8 * 4 + r) (sl_5 (r := r) (w := 4) (by omega) (by decide)) (by omega)) ?_
            refine lv_icmp_eq (tgt := 54) C.1.1 C.1.2.1 dX5_standsAsTold_49 (by decide) (fun c_6 => ?_) (fun c_6 => ?_)
            · skip
              refine lv_iinc (v := nI (i + 1)) (lv' := [(3, .int (nI (i + 1))), (4, .int (f i)), (0, .ref (gA g 0)), (1, .ref (gA g (44 + 2 * sx))), (2, .int (nI r))]) C.1.1 C.1.2.1 dX5_standsAsTold_54 hl (k := 4) rfl (nI_1 i) (by decide) rfl (fun ls hl => ?_)
              refine lv_goto (tgt := 2) C.1.1 C.1.2.1 dX5_standsAsTold_57 (by decide) ?_
              exact ih_2 (i + 1) (by omega) (by omega) _ _ _ (fun t ht => if h9 : t < i then hno t h9 else by rw [show t = i by omega]; exact Or.inr c_6) (by rw [Nat.add_sub_cancel]; exact hP) hS (lv_sub hl [2, 3, 4, 0] rfl)
            · skip
              refine lv_iconst (v := 0) C.1.1 C.1.2.1 dX5_standsAsTold_52 rfl ?_
              exact t_U0 C rfl hP hS (by rw [← hf]; exact fun h => (h i (by omega)).elim c_5 c_6) (by rw [hv]; exact sam_w _ _ _) dX5_standsAsTold_53
  exact lp_2 (Z + 1) 0 (Nat.zero_le _) (by omega) _ _ _ (fun t ht => absurd ht (Nat.not_lt_zero t)) hP hS (lv_sub hl [1, 2, 3, 0] rfl)

abbrev rmX5_fits : Room := { frames := 7, cells := 0, slots := 0, locals := 157 }
set_option maxHeartbeats 4000000 in
set_option maxRecDepth 100000 in
theorem kX5_fits (l : Launch) (g : GG) (n : Nat) (v : SV) (x y : Int32) (N : Nat) (hR : Rl v N) : Met l yX5_fits wsX5_fits rmX5_fits (PW g n v [.ref (gA g 0), .int x, .int y]) (QP g n v (fun u => fitsM u x y)) 0 0 (wA g n) := by
  refine Met.begin RX5 rfl (by decide) rfl (Nat.le_of_ble_eq_true rfl) ?_
  intro p e s m args below meth c ls ha C hP hS hl
  have hn : 64 ≤ n := C.2.1.1.2.1
  have hi0 : ∀ w ∈ u_ws RX0 TX0 6, w ∈ wsX5_fits := by decide +kernel
  have hi1 : ∀ w ∈ u_ws RX1 TX1 3, w ∈ wsX5_fits := by decide +kernel
  have hi2 : ∀ w ∈ u_ws RX2 TX2 11, w ∈ wsX5_fits := by decide +kernel
  have hi5 : ∀ w ∈ u_ws RX5 TX5 8, w ∈ wsX5_fits := by decide +kernel
  have hl : lv_has ls 6 [(0, .ref (gA g 0)), (1, .int x), (2, .int y)] := hl
  have hC := hR.1.1
  have hA := hR.1.2
  have h8 := hC.1
  have hD : okC (v.1 54) N := okC_agr (agr_symm hA) hC
  have hM := okC_M hD
  refine lv_aload_n C.1.1 C.1.2.1 dX5_fits_0 rfl (lv_at hl 0 rfl) ?_
  refine lv_iload_n C.1.1 C.1.2.1 dX5_fits_1 rfl (lv_at hl 1 rfl) ?_
  refine lv_iload_n C.1.1 C.1.2.1 dX5_fits_2 rfl (lv_at hl 2 rfl) ?_
  refine a_F hS (run_V C hP hS hl.1 0 5 (Nat.lt_of_lt_of_le (by decide) hn) rfl (by decide) rfl [.int x, .int y] (kX5_wrongWithStandings l g n v x y N hR) gX5_fits_X5_wrongWithStandings rfl hdX5_wrongWithStandings rfl ⟨rfl, rfl⟩ ⟨Nat.le_of_ble_eq_true rfl, Nat.le_of_ble_eq_true rfl⟩ rfl [] rfl (Nat.le_of_ble_eq_true rfl) dX5_fits_3 ⟨Nat.zero_le _, Nat.zero_le _⟩) (fun H locs hP hS => ?_)
  refine lv_istore_n (lv' := [(3, .int (wnF v x y N)), (0, .ref (gA g 0)), (1, .int x), (2, .int y)]) C.1.1 C.1.2.1 dX5_fits_6 rfl hl (by decide) rfl (fun ls hl => ?_)
  refine lv_iload_n C.1.1 C.1.2.1 dX5_fits_7 rfl (lv_at hl 0 rfl) ?_
  refine lv_if_eq (tgt := 17) C.1.1 C.1.2.1 dX5_fits_8 (by decide) (fun c_1 => ?_) (fun c_1 => ?_)
  · skip
    obtain ⟨jx, hjx, ejx, jy, hjy, ejy, hwy⟩ := wn_0 hR c_1
    subst ejx ejy
    obtain ⟨q60, ⟨Z, hZ, hZ1, hZ2⟩, q62⟩ := hR.2.2.2.1 jx hjx
    refine lv_iconst (v := 0) C.1.1 C.1.2.1 dX5_fits_17 rfl ?_
    refine lv_istore (lv' := [(4, .int 0), (3, .int (wnF v (nI jx) (nI jy) N)), (0, .ref (gA g 0)), (1, .int (nI jx)), (2, .int (nI jy))]) C.1.1 C.1.2.1 dX5_fits_18 hl (by decide) rfl (fun ls hl => ?_)
    refine lv_iconst (v := 0) C.1.1 C.1.2.1 dX5_fits_20 rfl ?_
    refine lv_istore (lv' := [(5, .int 0), (4, .int 0), (3, .int (wnF v (nI jx) (nI jy) N)), (0, .ref (gA g 0)), (1, .int (nI jx)), (2, .int (nI jy))]) C.1.1 C.1.2.1 dX5_fits_21 hl (by decide) rfl (fun ls hl => ?_)
    have lp_23 : ∀ (k_23 i : Nat), i ≤ 12 → 12 + 1 ≤ i + k_23 → ∀ (H : Heap) (locs : List Loc) (ls : Array Slot) (u : SV), (sam v u) → va_P g.1 vwCl (wl g n u) H → va_S (wA g n) s.heap H locs → lv_has ls 6 [(0, .ref (gA g 0)), (1, .int (nI jx)), (2, .int (nI jy)), (3, .int (wnF v (nI jx) (nI jy) N)), (4, .int (ftM (v.1 54) (v.1 62) Z jx jy i)), (5, .int (nI i))] → W p l e rmX5_fits s m args below meth c H locs 0 0 (MQ below (QP g n v (fun u => fitsM u (nI jx) (nI jy))) args s 0 0 (wA g n)) (F0 m 23 ls []) := by
      clear hP hS hl
      intro k_23
      induction k_23 with
      | zero => exact fun i h1 h2 => absurd h2 (by omega)
      | succ k_23 ih_23 =>
        intro i hi_23 hk_23 H locs ls u hu hP hS hl
        refine lv_iload C.1.1 C.1.2.1 dX5_fits_23 (lv_at hl 5 rfl) ?_
        refine lv_bipush (v := 12) C.1.1 C.1.2.1 dX5_fits_25 rfl ?_
        refine lv_icmp_ge (tgt := 86) C.1.1 C.1.2.1 dX5_fits_27 (by decide) (fun c_2 => ?_) (fun c_2 => ?_)
        · rw [show (12 ≤ nI i) = (12 ≤ i) from propext (nI_leI (a := 12) (b := i) (by omega) (by omega))] at c_2
          refine lv_iload C.1.1 C.1.2.1 dX5_fits_86 (lv_at hl 4 rfl) ?_
          have e54_3 : (u).1 54 = v.1 54 := (sam54 hu)
          exact t_P C rfl hP hS (ps_eq (u := u) hR (show fitsM u (nI jx) (nI jy) = (ftM (v.1 54) (v.1 62) Z jx jy 12, asideM u) from by simp only [fitsM, nM_of e54_3 hM, e54_3, tn_nI (show jx < 2 ^ 31 by omega), tn_nI (show jy < 2 ^ 31 by omega), whyN_cong (v := v) (u := u) (nI jx) (nI jy) N (hu.2.1 60 (by decide) (by decide)), hwy, if_pos (show (-1 : Int32) < 0 by decide), show u.1 61 jx = nI Z from (congrFun (hu.2.1 61 (by decide) (by decide)) _).trans hZ2, show u.1 62 = v.1 62 from (hu.2.1 62 (by decide) (by decide)), tn_nI (show Z < 2 ^ 31 by omega)]) (by rw [show i = 12 by omega]) (sam_trans hu (sam_aside _))) hu.2 dX5_fits_88
        · rw [show (12 ≤ nI i) = (12 ≤ i) from propext (nI_leI (a := 12) (b := i) (by omega) (by omega))] at c_2
          obtain ⟨m1, hm1, em1⟩ := one_sh i (by omega)
          refine lv_aload_n C.1.1 C.1.2.1 dX5_fits_30 rfl (lv_at hl 0 rfl) ?_
          refine r_get C hP 0 5 (Nat.lt_of_lt_of_le (by decide) hn) rfl (by decide) rfl hi5 1 (by decide) (List.mem_of_getElem? (i := 1) rfl) rfl (val := .ref (gA g 14)) rfl dX5_fits_31 ?_
          refine lv_aload_n C.1.1 C.1.2.1 dX5_fits_34 rfl (lv_at hl 0 rfl) ?_
          refine r_get C hP 0 5 (Nat.lt_of_lt_of_le (by decide) hn) rfl (by decide) rfl hi5 0 (by decide) (List.mem_of_getElem? (i := 2) rfl) rfl (val := .ref (gA g 1)) rfl dX5_fits_35 ?_
          refine a_G hS (run_V C hP hS hl.1 14 2 (Nat.lt_of_lt_of_le (by decide) hn) rfl (by decide) rfl [.ref (gA g 1)] (kX2_become l g n u u 14 (stR u 14) 1 N (Or.inr (Or.inl rfl)) (Or.inl rfl) (by decide) (st_self _ 14).symm (by rw [scr_1 hu.1]; exact hC)) gX5_fits_X2_become rfl hdX2_become rfl ⟨rfl, rfl⟩ ⟨Nat.le_of_ble_eq_true rfl, Nat.le_of_ble_eq_true rfl⟩ rfl [] rfl (Nat.le_of_ble_eq_true rfl) dX5_fits_38 ⟨Nat.zero_le _, Nat.zero_le _⟩) (fun H locs hP hS => ?_)
          obtain ⟨X_0, hX_0⟩ : ∃ zz, zz = becM (stR u 14) (stR u 1) N := ⟨_, rfl⟩
          rw [← hX_0] at hP
          have aX_0 : agr N (stR v 1) X_0 := by rw [hX_0, scr_1 hu.1]; exact bec_agr _ _ _
          have cX_0 : okC X_0 N := okC_agr aX_0 hC
          refine lv_aload_n C.1.1 C.1.2.1 dX5_fits_41 rfl (lv_at hl 0 rfl) ?_
          refine r_get C hP 0 5 (Nat.lt_of_lt_of_le (by decide) hn) rfl (by decide) rfl hi5 1 (by decide) (List.mem_of_getElem? (i := 1) rfl) rfl (val := .ref (gA g 14)) rfl dX5_fits_42 ?_
          refine r_get C hP 14 2 (Nat.lt_of_lt_of_le (by decide) hn) rfl (by decide) rfl hi2 9 (by decide) (List.mem_of_getElem? (i := 3) rfl) rfl (val := .ref (gA g 17)) rfl dX5_fits_45 ?_
          refine lv_iload_n C.1.1 C.1.2.1 dX5_fits_48 rfl (lv_at hl 2 rfl) ?_
          refine r_aald C hP 17 (Nat.lt_of_lt_of_le (by decide) hn) rfl jy rfl (by omega) dX5_fits_49 ?_
          refine lv_iconst (v := 1) C.1.1 C.1.2.1 dX5_fits_50 rfl ?_
          refine lv_iload C.1.1 C.1.2.1 dX5_fits_51 (lv_at hl 5 rfl) ?_
          refine lv_ishl C.1.1 C.1.2.1 dX5_fits_53 ?_
          refine r_put C hP hS (14 + 5 + jy) 0 (by omega) (kd_stR 14 (Or.inr (Or.inl rfl)) jy (by omega)) (by decide) rfl hi0 tyX0 tyX0_ok nmX0 2 (by decide) (List.mem_of_getElem? (i := 4) rfl) rfl rfl rfl rfl rfl (Nat.le_of_ble_eq_true rfl) dX5_fits_54 (fun H locs hP hS => ?_)
          rw [show up (stW u 14 X_0) (14 + 5 + jy) 2 (1 <<< ((nI i) &&& 31)) = stW u 14 (upd X_0 (25 + 8 * 2 + jy) (1 <<< ((nI i) &&& 31))) from st_up (i := 25 + 8 * 2 + jy) (sl_5 (r := jy) (w := 2) (by omega) (by decide)) (by omega)] at hP
          refine lv_aload_n C.1.1 C.1.2.1 dX5_fits_57 rfl (lv_at hl 0 rfl) ?_
          refine lv_aload_n C.1.1 C.1.2.1 dX5_fits_58 rfl (lv_at hl 0 rfl) ?_
          refine r_get C hP 0 5 (Nat.lt_of_lt_of_le (by decide) hn) rfl (by decide) rfl hi5 6 (by decide) (List.mem_of_getElem? (i := 5) rfl) rfl (val := .ref (gA g 43)) rfl dX5_fits_59 ?_
          refine lv_iload_n C.1.1 C.1.2.1 dX5_fits_62 rfl (lv_at hl 1 rfl) ?_
          refine r_aaldS C hP 43 (Nat.lt_of_lt_of_le (by decide) hn) rfl jx rfl (by omega) dX5_fits_63 ?_
          refine lv_iload_n C.1.1 C.1.2.1 dX5_fits_64 rfl (lv_at hl 2 rfl) ?_
          refine a_U hS (run_V C hP hS hl.1 0 5 (Nat.lt_of_lt_of_le (by decide) hn) rfl (by decide) rfl [.ref (gA g (44 + 2 * jx)), .int (nI jy)] (kX5_standsAsTold l g n (stW u 14 (upd X_0 (25 + 8 * 2 + jy) (1 <<< ((nI i) &&& 31)))) N u (upd X_0 (25 + 8 * 2 + jy) (1 <<< ((nI i) &&& 31))) rfl (okC_res cX_0 (by decide) (by omega) hm1 em1) jx Z jy hjx hZ ((congrFun ((st_far (by omega)).trans (hu.1.1 _ (by omega) (by omega) (by omega) (by omega))) _).trans hZ1) hjy) gX5_fits_X5_standsAsTold rfl hdX5_standsAsTold rfl ⟨rfl, rfl⟩ ⟨Nat.le_of_ble_eq_true rfl, Nat.le_of_ble_eq_true rfl⟩ rfl [] rfl (Nat.le_of_ble_eq_true rfl) dX5_fits_65 ⟨Nat.zero_le _, Nat.zero_le _⟩) (fun u_6 hu_6 b_5 H locs hP hS => ?_) (fun u_6 hu_6 b_5 H locs hP hS => ?_)
          · skip
            have hu_6 := sam_trans (sam_trans hu (sam_14 _ _)) hu_6
            have hT := (tol_iff (e := upd (v.1 54) (25 + 8 * 2 + jy) (1 <<< ((nI i) &&& 31))) (h := v.1 62) (s := jx) (X := upd X_0 (25 + 8 * 2 + jy) (1 <<< ((nI i) &&& 31))) (okC_res cX_0 (by decide) (by omega) hm1 em1) (agr_upd (agr_symm (agr_trans hA aX_0)) rfl) hjy (fun i hi => (congrFun ((st_far (by omega)).trans (hu.1.1 _ (by omega) (by omega) (by omega) (by omega))) _).trans (q62 i hi)) hZ).mp b_5
            refine lv_if_eq (tgt := 80) C.1.1 C.1.2.1 dX5_fits_68 (by decide) (fun c_7 => absurd c_7 (by decide)) (fun _ => ?_)
            refine lv_iload C.1.1 C.1.2.1 dX5_fits_71 (lv_at hl 4 rfl) ?_
            refine lv_iconst (v := 1) C.1.1 C.1.2.1 dX5_fits_73 rfl ?_
            refine lv_iload C.1.1 C.1.2.1 dX5_fits_74 (lv_at hl 5 rfl) ?_
            refine lv_ishl C.1.1 C.1.2.1 dX5_fits_76 ?_
            refine lv_ior C.1.1 C.1.2.1 dX5_fits_77 ?_
            refine lv_istore (lv' := [(4, .int ((ftM (v.1 54) (v.1 62) Z jx jy i) ||| (1 <<< ((nI i) &&& 31)))), (0, .ref (gA g 0)), (1, .int (nI jx)), (2, .int (nI jy)), (3, .int (wnF v (nI jx) (nI jy) N)), (5, .int (nI i))]) C.1.1 C.1.2.1 dX5_fits_78 hl (by decide) rfl (fun ls hl => ?_)
            refine lv_iinc (v := nI (i + 1)) (lv' := [(5, .int (nI (i + 1))), (4, .int ((ftM (v.1 54) (v.1 62) Z jx jy i) ||| (1 <<< ((nI i) &&& 31)))), (0, .ref (gA g 0)), (1, .int (nI jx)), (2, .int (nI jy)), (3, .int (wnF v (nI jx) (nI jy) N))]) C.1.1 C.1.2.1 dX5_fits_80 hl (k := 5) rfl (nI_1 i) (by decide) rfl (fun ls hl => ?_)
            refine lv_goto (tgt := 23) C.1.1 C.1.2.1 dX5_fits_83 (by decide) ?_
            exact ih_23 (i + 1) (by omega) (by omega) _ _ _ u_6 hu_6 hP hS (by rw [ft_1 hT]; exact lv_sub hl [2, 3, 4, 5, 1, 0] rfl)
          · skip
            have hu_6 := sam_trans (sam_trans hu (sam_14 _ _)) hu_6
            have hT := fun h => b_5 ((tol_iff (e := upd (v.1 54) (25 + 8 * 2 + jy) (1 <<< ((nI i) &&& 31))) (h := v.1 62) (s := jx) (X := upd X_0 (25 + 8 * 2 + jy) (1 <<< ((nI i) &&& 31))) (okC_res cX_0 (by decide) (by omega) hm1 em1) (agr_upd (agr_symm (agr_trans hA aX_0)) rfl) hjy (fun i hi => (congrFun ((st_far (by omega)).trans (hu.1.1 _ (by omega) (by omega) (by omega) (by omega))) _).trans (q62 i hi)) hZ).mpr h)
            refine lv_if_eq (tgt := 80) C.1.1 C.1.2.1 dX5_fits_68 (by decide) (fun _ => ?_) (fun c_8 => absurd c_8 (by decide))
            refine lv_iinc (v := nI (i + 1)) (lv' := [(5, .int (nI (i + 1))), (0, .ref (gA g 0)), (1, .int (nI jx)), (2, .int (nI jy)), (3, .int (wnF v (nI jx) (nI jy) N)), (4, .int (ftM (v.1 54) (v.1 62) Z jx jy i))]) C.1.1 C.1.2.1 dX5_fits_80 hl (k := 5) rfl (nI_1 i) (by decide) rfl (fun ls hl => ?_)
            refine lv_goto (tgt := 23) C.1.1 C.1.2.1 dX5_fits_83 (by decide) ?_
            exact ih_23 (i + 1) (by omega) (by omega) _ _ _ u_6 hu_6 hP hS (by rw [ft_0 hT]; exact lv_sub hl [1, 2, 3, 4, 5, 0] rfl)
    exact lp_23 (12 + 1) 0 (Nat.zero_le _) (by omega) _ _ _ v (sam_rfl v) hP hS (lv_sub hl [3, 4, 5, 2, 1, 0] rfl)
  · skip
    obtain ⟨jw, hjw, hxw, hwy⟩ := wn_n hR c_1
    refine lv_aload_n C.1.1 C.1.2.1 dX5_fits_11 rfl (lv_at hl 1 rfl) ?_
    refine lv_iload_n C.1.1 C.1.2.1 dX5_fits_12 rfl (lv_at hl 0 rfl) ?_
    refine a_F hS (run_V C hP hS hl.1 0 5 (Nat.lt_of_lt_of_le (by decide) hn) rfl (by decide) rfl [.int (wnF v x y N)] (kX5_finding l g n v jw hjw (wnF v x y N) hxw) gX5_fits_X5_finding rfl hdX5_finding rfl ⟨rfl, rfl⟩ ⟨Nat.le_of_ble_eq_true rfl, Nat.le_of_ble_eq_true rfl⟩ rfl [] rfl (Nat.le_of_ble_eq_true rfl) dX5_fits_13 ⟨Nat.zero_le _, Nat.zero_le _⟩) (fun H locs hP hS => ?_)
    exact t_P C rfl hP hS (ps_fd (f := fun u => fitsM u x y) hR (sam_rfl v) hjw (by simp only [fitsM, nM_of (show (fnC v jw).1 54 = v.1 54 from (upw_ne _ _ (by omega))) hM, whyN_cong (v := v) (u := fnC v jw) x y N (upw_ne _ _ (by omega)), hwy, if_neg (nI_n0 hjw), fdW, tn_nI (show jw < 2 ^ 31 by omega)]) hxw) (rsc_trans (rsc_rfl v) (rsc_w _ _ (by decide))) dX5_fits_16

abbrev rmX5_kinds : Room := { frames := 7, cells := 0, slots := 0, locals := 157 }
set_option maxHeartbeats 4000000 in
set_option maxRecDepth 100000 in
theorem kX5_kinds (l : Launch) (g : GG) (n : Nat) (v : SV) (x y : Int32) (N : Nat) (hR : Rl v N) : Met l yX5_kinds wsX5_kinds rmX5_kinds (PW g n v [.ref (gA g 0), .int x, .int y]) (QP g n v (fun u => kindsM u x y)) 0 0 (wA g n) := by
  refine Met.begin RX5 rfl (by decide) rfl (Nat.le_of_ble_eq_true rfl) ?_
  intro p e s m args below meth c ls ha C hP hS hl
  have hn : 64 ≤ n := C.2.1.1.2.1
  have hi0 : ∀ w ∈ u_ws RX0 TX0 6, w ∈ wsX5_kinds := by decide +kernel
  have hi1 : ∀ w ∈ u_ws RX1 TX1 3, w ∈ wsX5_kinds := by decide +kernel
  have hi2 : ∀ w ∈ u_ws RX2 TX2 11, w ∈ wsX5_kinds := by decide +kernel
  have hi5 : ∀ w ∈ u_ws RX5 TX5 8, w ∈ wsX5_kinds := by decide +kernel
  have hl : lv_has ls 6 [(0, .ref (gA g 0)), (1, .int x), (2, .int y)] := hl
  have hC := hR.1.1
  have hA := hR.1.2
  have h8 := hC.1
  have hD : okC (v.1 54) N := okC_agr (agr_symm hA) hC
  have hM := okC_M hD
  refine lv_aload_n C.1.1 C.1.2.1 dX5_kinds_0 rfl (lv_at hl 0 rfl) ?_
  refine lv_iload_n C.1.1 C.1.2.1 dX5_kinds_1 rfl (lv_at hl 1 rfl) ?_
  refine lv_iload_n C.1.1 C.1.2.1 dX5_kinds_2 rfl (lv_at hl 2 rfl) ?_
  refine a_F hS (run_V C hP hS hl.1 0 5 (Nat.lt_of_lt_of_le (by decide) hn) rfl (by decide) rfl [.int x, .int y] (kX5_wrongWithStandings l g n v x y N hR) gX5_kinds_X5_wrongWithStandings rfl hdX5_wrongWithStandings rfl ⟨rfl, rfl⟩ ⟨Nat.le_of_ble_eq_true rfl, Nat.le_of_ble_eq_true rfl⟩ rfl [] rfl (Nat.le_of_ble_eq_true rfl) dX5_kinds_3 ⟨Nat.zero_le _, Nat.zero_le _⟩) (fun H locs hP hS => ?_)
  refine lv_istore_n (lv' := [(3, .int (wnF v x y N)), (0, .ref (gA g 0)), (1, .int x), (2, .int y)]) C.1.1 C.1.2.1 dX5_kinds_6 rfl hl (by decide) rfl (fun ls hl => ?_)
  refine lv_iload_n C.1.1 C.1.2.1 dX5_kinds_7 rfl (lv_at hl 0 rfl) ?_
  refine lv_if_eq (tgt := 17) C.1.1 C.1.2.1 dX5_kinds_8 (by decide) (fun c_1 => ?_) (fun c_1 => ?_)
  · skip
    obtain ⟨jx, hjx, ejx, jy, hjy, ejy, hwy⟩ := wn_0 hR c_1
    subst ejx ejy
    obtain ⟨q60, ⟨Z, hZ, hZ1, hZ2⟩, q62⟩ := hR.2.2.2.1 jx hjx
    refine lv_iconst (v := 0) C.1.1 C.1.2.1 dX5_kinds_17 rfl ?_
    refine lv_istore (lv' := [(4, .int 0), (3, .int (wnF v (nI jx) (nI jy) N)), (0, .ref (gA g 0)), (1, .int (nI jx)), (2, .int (nI jy))]) C.1.1 C.1.2.1 dX5_kinds_18 hl (by decide) rfl (fun ls hl => ?_)
    refine lv_iconst (v := 0) C.1.1 C.1.2.1 dX5_kinds_20 rfl ?_
    refine lv_istore (lv' := [(5, .int 0), (4, .int 0), (3, .int (wnF v (nI jx) (nI jy) N)), (0, .ref (gA g 0)), (1, .int (nI jx)), (2, .int (nI jy))]) C.1.1 C.1.2.1 dX5_kinds_21 hl (by decide) rfl (fun ls hl => ?_)
    have lp_23 : ∀ (k_23 i : Nat), i ≤ 7 → 7 + 1 ≤ i + k_23 → ∀ (H : Heap) (locs : List Loc) (ls : Array Slot) (u : SV), (sam v u) → va_P g.1 vwCl (wl g n u) H → va_S (wA g n) s.heap H locs → lv_has ls 6 [(0, .ref (gA g 0)), (1, .int (nI jx)), (2, .int (nI jy)), (3, .int (wnF v (nI jx) (nI jy) N)), (4, .int (ksM (v.1 54) (v.1 62) Z jx jy i)), (5, .int (nI i))] → W p l e rmX5_kinds s m args below meth c H locs 0 0 (MQ below (QP g n v (fun u => kindsM u (nI jx) (nI jy))) args s 0 0 (wA g n)) (F0 m 23 ls []) := by
      clear hP hS hl
      intro k_23
      induction k_23 with
      | zero => exact fun i h1 h2 => absurd h2 (by omega)
      | succ k_23 ih_23 =>
        intro i hi_23 hk_23 H locs ls u hu hP hS hl
        refine lv_iload C.1.1 C.1.2.1 dX5_kinds_23 (lv_at hl 5 rfl) ?_
        refine lv_bipush (v := 7) C.1.1 C.1.2.1 dX5_kinds_25 rfl ?_
        refine lv_icmp_ge (tgt := 84) C.1.1 C.1.2.1 dX5_kinds_27 (by decide) (fun c_2 => ?_) (fun c_2 => ?_)
        · rw [show (7 ≤ nI i) = (7 ≤ i) from propext (nI_leI (a := 7) (b := i) (by omega) (by omega))] at c_2
          refine lv_iload C.1.1 C.1.2.1 dX5_kinds_84 (lv_at hl 4 rfl) ?_
          have e54_3 : (u).1 54 = v.1 54 := (sam54 hu)
          exact t_P C rfl hP hS (ps_eq (u := u) hR (show kindsM u (nI jx) (nI jy) = (ksM (v.1 54) (v.1 62) Z jx jy 7, asideM u) from by simp only [kindsM, nM_of e54_3 hM, e54_3, tn_nI (show jx < 2 ^ 31 by omega), tn_nI (show jy < 2 ^ 31 by omega), whyN_cong (v := v) (u := u) (nI jx) (nI jy) N (hu.2.1 60 (by decide) (by decide)), hwy, if_pos (show (-1 : Int32) < 0 by decide), show u.1 61 jx = nI Z from (congrFun (hu.2.1 61 (by decide) (by decide)) _).trans hZ2, show u.1 62 = v.1 62 from (hu.2.1 62 (by decide) (by decide)), tn_nI (show Z < 2 ^ 31 by omega)]) (by rw [show i = 7 by omega]) (sam_trans hu (sam_aside _))) hu.2 dX5_kinds_86
        · rw [show (7 ≤ nI i) = (7 ≤ i) from propext (nI_leI (a := 7) (b := i) (by omega) (by omega))] at c_2
          refine lv_aload_n C.1.1 C.1.2.1 dX5_kinds_30 rfl (lv_at hl 0 rfl) ?_
          refine r_get C hP 0 5 (Nat.lt_of_lt_of_le (by decide) hn) rfl (by decide) rfl hi5 1 (by decide) (List.mem_of_getElem? (i := 1) rfl) rfl (val := .ref (gA g 14)) rfl dX5_kinds_31 ?_
          refine lv_aload_n C.1.1 C.1.2.1 dX5_kinds_34 rfl (lv_at hl 0 rfl) ?_
          refine r_get C hP 0 5 (Nat.lt_of_lt_of_le (by decide) hn) rfl (by decide) rfl hi5 0 (by decide) (List.mem_of_getElem? (i := 2) rfl) rfl (val := .ref (gA g 1)) rfl dX5_kinds_35 ?_
          refine a_G hS (run_V C hP hS hl.1 14 2 (Nat.lt_of_lt_of_le (by decide) hn) rfl (by decide) rfl [.ref (gA g 1)] (kX2_become l g n u u 14 (stR u 14) 1 N (Or.inr (Or.inl rfl)) (Or.inl rfl) (by decide) (st_self _ 14).symm (by rw [scr_1 hu.1]; exact hC)) gX5_kinds_X2_become rfl hdX2_become rfl ⟨rfl, rfl⟩ ⟨Nat.le_of_ble_eq_true rfl, Nat.le_of_ble_eq_true rfl⟩ rfl [] rfl (Nat.le_of_ble_eq_true rfl) dX5_kinds_38 ⟨Nat.zero_le _, Nat.zero_le _⟩) (fun H locs hP hS => ?_)
          obtain ⟨X_0, hX_0⟩ : ∃ zz, zz = becM (stR u 14) (stR u 1) N := ⟨_, rfl⟩
          rw [← hX_0] at hP
          have aX_0 : agr N (stR v 1) X_0 := by rw [hX_0, scr_1 hu.1]; exact bec_agr _ _ _
          have cX_0 : okC X_0 N := okC_agr aX_0 hC
          refine lv_aload_n C.1.1 C.1.2.1 dX5_kinds_41 rfl (lv_at hl 0 rfl) ?_
          refine r_get C hP 0 5 (Nat.lt_of_lt_of_le (by decide) hn) rfl (by decide) rfl hi5 1 (by decide) (List.mem_of_getElem? (i := 1) rfl) rfl (val := .ref (gA g 14)) rfl dX5_kinds_42 ?_
          refine r_get C hP 14 2 (Nat.lt_of_lt_of_le (by decide) hn) rfl (by decide) rfl hi2 9 (by decide) (List.mem_of_getElem? (i := 3) rfl) rfl (val := .ref (gA g 17)) rfl dX5_kinds_45 ?_
          refine lv_iload_n C.1.1 C.1.2.1 dX5_kinds_48 rfl (lv_at hl 2 rfl) ?_
          refine r_aald C hP 17 (Nat.lt_of_lt_of_le (by decide) hn) rfl jy rfl (by omega) dX5_kinds_49 ?_
          refine lv_iload C.1.1 C.1.2.1 dX5_kinds_50 (lv_at hl 5 rfl) ?_
          refine r_put C hP hS (14 + 5 + jy) 0 (by omega) (kd_stR 14 (Or.inr (Or.inl rfl)) jy (by omega)) (by decide) rfl hi0 tyX0 tyX0_ok nmX0 0 (by decide) (List.mem_of_getElem? (i := 4) rfl) rfl rfl rfl rfl rfl (Nat.le_of_ble_eq_true rfl) dX5_kinds_52 (fun H locs hP hS => ?_)
          rw [show up (stW u 14 X_0) (14 + 5 + jy) 0 (nI i) = stW u 14 (upd X_0 (25 + 8 * 0 + jy) (nI i)) from st_up (i := 25 + 8 * 0 + jy) (sl_5 (r := jy) (w := 0) (by omega) (by decide)) (by omega)] at hP
          refine lv_aload_n C.1.1 C.1.2.1 dX5_kinds_55 rfl (lv_at hl 0 rfl) ?_
          refine lv_aload_n C.1.1 C.1.2.1 dX5_kinds_56 rfl (lv_at hl 0 rfl) ?_
          refine r_get C hP 0 5 (Nat.lt_of_lt_of_le (by decide) hn) rfl (by decide) rfl hi5 6 (by decide) (List.mem_of_getElem? (i := 5) rfl) rfl (val := .ref (gA g 43)) rfl dX5_kinds_57 ?_
          refine lv_iload_n C.1.1 C.1.2.1 dX5_kinds_60 rfl (lv_at hl 1 rfl) ?_
          refine r_aaldS C hP 43 (Nat.lt_of_lt_of_le (by decide) hn) rfl jx rfl (by omega) dX5_kinds_61 ?_
          refine lv_iload_n C.1.1 C.1.2.1 dX5_kinds_62 rfl (lv_at hl 2 rfl) ?_
          refine a_U hS (run_V C hP hS hl.1 0 5 (Nat.lt_of_lt_of_le (by decide) hn) rfl (by decide) rfl [.ref (gA g (44 + 2 * jx)), .int (nI jy)] (kX5_standsAsTold l g n (stW u 14 (upd X_0 (25 + 8 * 0 + jy) (nI i))) N u (upd X_0 (25 + 8 * 0 + jy) (nI i)) rfl (okC_res (m := i) cX_0 (by decide) (by omega) (by show i < 7; omega) rfl) jx Z jy hjx hZ ((congrFun ((st_far (by omega)).trans (hu.1.1 _ (by omega) (by omega) (by omega) (by omega))) _).trans hZ1) hjy) gX5_kinds_X5_standsAsTold rfl hdX5_standsAsTold rfl ⟨rfl, rfl⟩ ⟨Nat.le_of_ble_eq_true rfl, Nat.le_of_ble_eq_true rfl⟩ rfl [] rfl (Nat.le_of_ble_eq_true rfl) dX5_kinds_63 ⟨Nat.zero_le _, Nat.zero_le _⟩) (fun u_6 hu_6 b_5 H locs hP hS => ?_) (fun u_6 hu_6 b_5 H locs hP hS => ?_)
          · skip
            have hu_6 := sam_trans (sam_trans hu (sam_14 _ _)) hu_6
            have hT := (tol_iff (e := upd (v.1 54) (25 + 8 * 0 + jy) (nI i)) (h := v.1 62) (s := jx) (X := upd X_0 (25 + 8 * 0 + jy) (nI i)) (okC_res (m := i) cX_0 (by decide) (by omega) (by show i < 7; omega) rfl) (agr_upd (agr_symm (agr_trans hA aX_0)) rfl) hjy (fun i hi => (congrFun ((st_far (by omega)).trans (hu.1.1 _ (by omega) (by omega) (by omega) (by omega))) _).trans (q62 i hi)) hZ).mp b_5
            refine lv_if_eq (tgt := 78) C.1.1 C.1.2.1 dX5_kinds_66 (by decide) (fun c_7 => absurd c_7 (by decide)) (fun _ => ?_)
            refine lv_iload C.1.1 C.1.2.1 dX5_kinds_69 (lv_at hl 4 rfl) ?_
            refine lv_iconst (v := 1) C.1.1 C.1.2.1 dX5_kinds_71 rfl ?_
            refine lv_iload C.1.1 C.1.2.1 dX5_kinds_72 (lv_at hl 5 rfl) ?_
            refine lv_ishl C.1.1 C.1.2.1 dX5_kinds_74 ?_
            refine lv_ior C.1.1 C.1.2.1 dX5_kinds_75 ?_
            refine lv_istore (lv' := [(4, .int ((ksM (v.1 54) (v.1 62) Z jx jy i) ||| (1 <<< ((nI i) &&& 31)))), (0, .ref (gA g 0)), (1, .int (nI jx)), (2, .int (nI jy)), (3, .int (wnF v (nI jx) (nI jy) N)), (5, .int (nI i))]) C.1.1 C.1.2.1 dX5_kinds_76 hl (by decide) rfl (fun ls hl => ?_)
            refine lv_iinc (v := nI (i + 1)) (lv' := [(5, .int (nI (i + 1))), (4, .int ((ksM (v.1 54) (v.1 62) Z jx jy i) ||| (1 <<< ((nI i) &&& 31)))), (0, .ref (gA g 0)), (1, .int (nI jx)), (2, .int (nI jy)), (3, .int (wnF v (nI jx) (nI jy) N))]) C.1.1 C.1.2.1 dX5_kinds_78 hl (k := 5) rfl (nI_1 i) (by decide) rfl (fun ls hl => ?_)
            refine lv_goto (tgt := 23) C.1.1 C.1.2.1 dX5_kinds_81 (by decide) ?_
            exact ih_23 (i + 1) (by omega) (by omega) _ _ _ u_6 hu_6 hP hS (by rw [ks_1 hT]; exact lv_sub hl [2, 3, 4, 5, 1, 0] rfl)
          · skip
            have hu_6 := sam_trans (sam_trans hu (sam_14 _ _)) hu_6
            have hT := fun h => b_5 ((tol_iff (e := upd (v.1 54) (25 + 8 * 0 + jy) (nI i)) (h := v.1 62) (s := jx) (X := upd X_0 (25 + 8 * 0 + jy) (nI i)) (okC_res (m := i) cX_0 (by decide) (by omega) (by show i < 7; omega) rfl) (agr_upd (agr_symm (agr_trans hA aX_0)) rfl) hjy (fun i hi => (congrFun ((st_far (by omega)).trans (hu.1.1 _ (by omega) (by omega) (by omega) (by omega))) _).trans (q62 i hi)) hZ).mpr h)
            refine lv_if_eq (tgt := 78) C.1.1 C.1.2.1 dX5_kinds_66 (by decide) (fun _ => ?_) (fun c_8 => absurd c_8 (by decide))
            refine lv_iinc (v := nI (i + 1)) (lv' := [(5, .int (nI (i + 1))), (0, .ref (gA g 0)), (1, .int (nI jx)), (2, .int (nI jy)), (3, .int (wnF v (nI jx) (nI jy) N)), (4, .int (ksM (v.1 54) (v.1 62) Z jx jy i))]) C.1.1 C.1.2.1 dX5_kinds_78 hl (k := 5) rfl (nI_1 i) (by decide) rfl (fun ls hl => ?_)
            refine lv_goto (tgt := 23) C.1.1 C.1.2.1 dX5_kinds_81 (by decide) ?_
            exact ih_23 (i + 1) (by omega) (by omega) _ _ _ u_6 hu_6 hP hS (by rw [ks_0 hT]; exact lv_sub hl [1, 2, 3, 4, 5, 0] rfl)
    exact lp_23 (7 + 1) 0 (Nat.zero_le _) (by omega) _ _ _ v (sam_rfl v) hP hS (lv_sub hl [3, 4, 5, 2, 1, 0] rfl)
  · skip
    obtain ⟨jw, hjw, hxw, hwy⟩ := wn_n hR c_1
    refine lv_aload_n C.1.1 C.1.2.1 dX5_kinds_11 rfl (lv_at hl 1 rfl) ?_
    refine lv_iload_n C.1.1 C.1.2.1 dX5_kinds_12 rfl (lv_at hl 0 rfl) ?_
    refine a_F hS (run_V C hP hS hl.1 0 5 (Nat.lt_of_lt_of_le (by decide) hn) rfl (by decide) rfl [.int (wnF v x y N)] (kX5_finding l g n v jw hjw (wnF v x y N) hxw) gX5_kinds_X5_finding rfl hdX5_finding rfl ⟨rfl, rfl⟩ ⟨Nat.le_of_ble_eq_true rfl, Nat.le_of_ble_eq_true rfl⟩ rfl [] rfl (Nat.le_of_ble_eq_true rfl) dX5_kinds_13 ⟨Nat.zero_le _, Nat.zero_le _⟩) (fun H locs hP hS => ?_)
    exact t_P C rfl hP hS (ps_fd (f := fun u => kindsM u x y) hR (sam_rfl v) hjw (by simp only [kindsM, nM_of (show (fnC v jw).1 54 = v.1 54 from (upw_ne _ _ (by omega))) hM, whyN_cong (v := v) (u := fnC v jw) x y N (upw_ne _ _ (by omega)), hwy, if_neg (nI_n0 hjw), fdW, tn_nI (show jw < 2 ^ 31 by omega)]) hxw) (rsc_trans (rsc_rfl v) (rsc_w _ _ (by decide))) dX5_kinds_16

