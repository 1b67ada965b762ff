abbrev rmX4_readItems : Room := { frames := 8, cells := 0, slots := 0, locals := 174 }
set_option maxHeartbeats 4000000 in
set_option maxRecDepth 100000 in
theorem kX4_readItems (l : Launch) (g : GG) (n : Nat) (v : SV) (B : Nat → Int32) (T : Nat) (hT : T ≤ 120) (hL : v.1 41 1 = nI T) (hB : ∀ j, j < T → v.1 42 j = B j) (hB1 : ∀ j, T ≤ j → B j = -1) (hn65 : 64 < n) (h0 : v.1 64 2 = 0) (N0 : Nat) (d : Nat → Int32) (hD0 : okC (stR v 14) N0) (hA0 : agr N0 d (stR v 14)) : Met l yX4_readItems wsX4_readItems rmX4_readItems (PW g n v [.ref (gA g 64)]) (QI g n (IQ v B T d)) 0 0 (wA g n) := by
  refine Met.begin RX4 rfl (by decide) rfl (Nat.le_of_ble_eq_true rfl) ?_
  intro p e s m args below meth c ls ha C hP hS hl
  have hn : 64 ≤ n := C.2.1.1.2.1
  have hi0 : ∀ w ∈ u_ws RX0 TX0 6, w ∈ wsX4_readItems := by decide +kernel
  have hi2 : ∀ w ∈ u_ws RX2 TX2 11, w ∈ wsX4_readItems := by decide +kernel
  have hi3 : ∀ w ∈ u_ws RX3 TX3 6, w ∈ wsX4_readItems := by decide +kernel
  have hi4 : ∀ w ∈ u_ws RX4 TX4 4, w ∈ wsX4_readItems := by decide +kernel
  have hl : lv_has ls 1 [(0, .ref (gA g 64))] := hl
  refine lv_aload_n C.1.1 C.1.2.1 dX4_readItems_0 rfl (lv_at hl 0 rfl) ?_
  refine r_get C hP 64 4 hn65 rfl (by decide) rfl hi4 0 (by decide) (List.mem_of_getElem? (i := 1) rfl) rfl (val := .ref (gA g 41)) rfl dX4_readItems_1 ?_
  refine a_G hS (run_V C hP hS hl.1 41 3 (Nat.lt_of_lt_of_le (by decide) hn) rfl (by decide) rfl [] (kX3_readFirst l g n v B T hT hL hB hB1) gX4_readItems_X3_readFirst rfl hdX3_readFirst rfl ⟨rfl, rfl⟩ ⟨Nat.le_of_ble_eq_true rfl, Nat.le_of_ble_eq_true rfl⟩ rfl [] rfl (Nat.le_of_ble_eq_true rfl) dX4_readItems_4 ⟨Nat.zero_le _, Nat.zero_le _⟩) (fun H locs hP hS => ?_)
  rw [show ctV v B T (skp B T 0) = stW (rcW v B T (itP B T d 0).1 (nI 0) (v.1 64 3)) 14 (stR v 14) from rc_start0 h0] at hP
  have lp_7 : ∀ (k_7 i : Nat), i ≤ 120 → 120 + 1 ≤ i + k_7 → ∀ (H : Heap) (locs : List Loc) (ls : Array Slot) (nm : Int32) (D : Nat → Int32) (N : Nat), (∀ t, t < i → itC B T (itS B T d t)) → ((itP B T d i).2.1 = -1) → (okC D N) → (agr N (itP B T d i).2.2 D) → va_P g.1 vwCl (wl g n (stW (rcW v B T (itP B T d i).1 (nI i) nm) 14 D)) H → va_S (wA g n) s.heap H locs → lv_has ls 1 [(0, .ref (gA g 64))] → W p l e rmX4_readItems s m args below meth c H locs 0 0 (MQ below (QI g n (IQ v B T d)) args s 0 0 (wA g n)) (F0 m 7 ls []) := by
    clear hP hS hl
    intro k_7
    induction k_7 with
    | zero => exact fun i h1 h2 => absurd h2 (by omega)
    | succ k_7 ih_7 =>
      intro i hi_7 hk_7 H locs ls nm D N hC hfa hD hA hP hS hl
      refine lv_aload_n C.1.1 C.1.2.1 dX4_readItems_7 rfl (lv_at hl 0 rfl) ?_
      refine r_get C hP 64 4 hn65 rfl (by decide) rfl hi4 2 (by decide) (List.mem_of_getElem? (i := 2) rfl) rfl (val := .int ((stW (rcW v B T (itP B T d i).1 (nI i) nm) 14 D).1 64 2)) rfl dX4_readItems_8 ?_
      refine lv_topE (nI i) (congrFun rc_64 _) ?_
      refine lv_bipush (v := 120) C.1.1 C.1.2.1 dX4_readItems_11 rfl ?_
      refine lv_icmp_ge (tgt := 72) C.1.1 C.1.2.1 dX4_readItems_13 (by decide) (fun c_1 => ?_) (fun c_1 => ?_)
      · rw [show (120 ≤ nI i) = (120 ≤ i) from propext (nI_leI (a := 120) (b := i) (by omega) (by omega))] at c_1
        refine lv_iconst (v := 0) C.1.1 C.1.2.1 dX4_readItems_72 rfl ?_
        exact r_zret C rfl hP hS rfl (by have e9 : i = 120 := (by omega); subst e9; exact iq_120 hT hC hfa) dX4_readItems_73
      · rw [show (120 ≤ nI i) = (120 ≤ i) from propext (nI_leI (a := 120) (b := i) (by omega) (by omega))] at c_1
        refine lv_aload_n C.1.1 C.1.2.1 dX4_readItems_16 rfl (lv_at hl 0 rfl) ?_
        refine a_I hS (run_V C hP hS hl.1 64 4 hn65 rfl (by decide) rfl [] (kX4_readItem l g n (stW (rcW v B T (itP B T d i).1 (nI i) nm) 14 D) v B T hT hL hB hB1 ((itP B T d i).1) (itP_le i) (nI i) nm D rfl hn65 N (itP B T d i).2.2 hD hA) gX4_readItems_X4_readItem rfl hdX4_readItem rfl ⟨rfl, rfl⟩ ⟨Nat.le_of_ble_eq_true rfl, Nat.le_of_ble_eq_true rfl⟩ rfl [] rfl (Nat.le_of_ble_eq_true rfl) dX4_readItems_17 ⟨Nat.zero_le _, Nat.zero_le _⟩) (fun r u H locs hq hP hS => ?_)
        rw [itS_Q hfa] at hq
        obtain ⟨hqT, ⟨rfl, hf, nm1, D1, N1, rfl, hD1, hA1⟩ | ⟨rfl, hf, nm1, D1, rfl⟩⟩ := hq
        · skip
          refine lv_if_ne (tgt := 25) C.1.1 C.1.2.1 dX4_readItems_20 (by decide) (fun _ => ?_) (fun c_2 => absurd c_2 (by decide))
          refine lv_aload_n C.1.1 C.1.2.1 dX4_readItems_25 rfl (lv_at hl 0 rfl) ?_
          refine lv_dup C.1.1 C.1.2.1 dX4_readItems_26 rfl ?_
          refine r_get C hP 64 4 hn65 rfl (by decide) rfl hi4 2 (by decide) (List.mem_of_getElem? (i := 2) rfl) rfl (val := .int ((stW (rcW v B T ((itS B T d i).1) (nI i) nm1) 14 D1).1 64 2)) rfl dX4_readItems_27 ?_
          refine lv_topE (nI i) (congrFun rc_64 _) ?_
          refine lv_iconst (v := 1) C.1.1 C.1.2.1 dX4_readItems_30 rfl ?_
          refine lv_iadd C.1.1 C.1.2.1 dX4_readItems_31 ?_
          refine lv_topE (nI (i + 1)) (nI_add i 1) ?_
          refine r_put C hP hS 64 4 hn65 rfl (by decide) rfl hi4 tyX4 tyX4_ok nmX4 2 (by decide) (List.mem_of_getElem? (i := 2) rfl) rfl rfl rfl rfl rfl (Nat.le_of_ble_eq_true rfl) dX4_readItems_32 (fun H locs hP hS => ?_)
          rw [show up (stW (rcW v B T ((itS B T d i).1) (nI i) nm1) 14 D1) 64 2 (nI (i + 1)) = stW (rcW v B T ((itS B T d i).1) (nI (i + 1)) nm1) 14 D1 from rc_2] at hP
          refine lv_aload_n C.1.1 C.1.2.1 dX4_readItems_35 rfl (lv_at hl 0 rfl) ?_
          refine r_get C hP 64 4 hn65 rfl (by decide) rfl hi4 0 (by decide) (List.mem_of_getElem? (i := 1) rfl) rfl (val := .ref (gA g 41)) rfl dX4_readItems_36 ?_
          refine r_get C hP 41 3 (Nat.lt_of_lt_of_le (by decide) hn) rfl (by decide) rfl hi3 2 (by decide) (List.mem_of_getElem? (i := 3) rfl) rfl (val := .int ((stW (rcW v B T ((itS B T d i).1) (nI (i + 1)) nm1) 14 D1).1 41 2)) rfl dX4_readItems_39 ?_
          refine lv_topE (tkK B T ((itS B T d i).1)) rc_2t ?_
          refine lv_iconst (v := 3) C.1.1 C.1.2.1 dX4_readItems_42 rfl ?_
          refine lv_icmp_eq (tgt := 62) C.1.1 C.1.2.1 dX4_readItems_43 (by decide) (fun c_4 => ?_) (fun c_4 => ?_)
          · skip
            refine lv_aload_n C.1.1 C.1.2.1 dX4_readItems_62 rfl (lv_at hl 0 rfl) ?_
            refine r_get C hP 64 4 hn65 rfl (by decide) rfl hi4 0 (by decide) (List.mem_of_getElem? (i := 1) rfl) rfl (val := .ref (gA g 41)) rfl dX4_readItems_63 ?_
            refine a_G hS (run_V C hP hS hl.1 41 3 (Nat.lt_of_lt_of_le (by decide) hn) rfl (by decide) rfl [] (kX3_readNext l g n (stW (rcW v B T ((itS B T d i).1) (nI (i + 1)) nm1) 14 D1) B T hT (rc_L hL) (rc_b hB) hB1 (tnE B T ((itS B T d i).1)) (tnE_le (itS_le i)) rc_5t) gX4_readItems_X3_readNext rfl hdX3_readNext rfl ⟨rfl, rfl⟩ ⟨Nat.le_of_ble_eq_true rfl, Nat.le_of_ble_eq_true rfl⟩ rfl [] rfl (Nat.le_of_ble_eq_true rfl) dX4_readItems_66 ⟨Nat.zero_le _, Nat.zero_le _⟩) (fun H locs hP hS => ?_)
            rw [show ctV (stW (rcW v B T ((itS B T d i).1) (nI (i + 1)) nm1) 14 D1) B T (skp B T (tnE B T ((itS B T d i).1))) = stW (rcW v B T (nx B T ((itS B T d i).1)) (nI (i + 1)) nm1) 14 D1 from by rw [tn_nx c_4 (by decide), rc_ct]] at hP
            refine lv_goto (tgt := 7) C.1.1 C.1.2.1 dX4_readItems_69 (by decide) ?_
            exact ih_7 (i + 1) (by omega) (by omega) _ _ _ nm1 D1 N1 (fun t ht => if h9 : t < i then hC t h9 else by rw [show t = i by omega]; exact ⟨by rw [hf]; decide, c_4⟩) hf hD1 hA1 hP hS (lv_sub hl [0] rfl)
          · skip
            refine lv_aload_n C.1.1 C.1.2.1 dX4_readItems_46 rfl (lv_at hl 0 rfl) ?_
            refine r_get C hP 64 4 hn65 rfl (by decide) rfl hi4 0 (by decide) (List.mem_of_getElem? (i := 1) rfl) rfl (val := .ref (gA g 41)) rfl dX4_readItems_47 ?_
            refine r_get C hP 41 3 (Nat.lt_of_lt_of_le (by decide) hn) rfl (by decide) rfl hi3 2 (by decide) (List.mem_of_getElem? (i := 3) rfl) rfl (val := .int ((stW (rcW v B T ((itS B T d i).1) (nI (i + 1)) nm1) 14 D1).1 41 2)) rfl dX4_readItems_50 ?_
            refine lv_topE (tkK B T ((itS B T d i).1)) rc_2t ?_
            refine lv_if_ne (tgt := 60) C.1.1 C.1.2.1 dX4_readItems_53 (by decide) (fun c_5 => ?_) (fun c_5 => ?_)
            · skip
              refine lv_iconst (v := 0) C.1.1 C.1.2.1 dX4_readItems_60 rfl ?_
              exact r_zret C rfl hP hS rfl (iq_more hC hf c_4 c_5) dX4_readItems_61
            · skip
              refine lv_iconst (v := 1) C.1.1 C.1.2.1 dX4_readItems_56 rfl ?_
              refine lv_goto (tgt := 61) C.1.1 C.1.2.1 dX4_readItems_57 (by decide) ?_
              exact r_zret C rfl hP hS rfl (iq_end hC hf c_5 hD1 hA1) dX4_readItems_61
        · skip
          refine lv_if_ne (tgt := 25) C.1.1 C.1.2.1 dX4_readItems_20 (by decide) (fun c_6 => absurd c_6 (by decide)) (fun _ => ?_)
          refine lv_iconst (v := 0) C.1.1 C.1.2.1 dX4_readItems_23 rfl ?_
          exact r_zret C rfl hP hS rfl (iq_fault hT hC hf) dX4_readItems_24
  exact lp_7 (120 + 1) 0 (Nat.zero_le _) (by omega) _ _ _ (v.1 64 3) (stR v 14) N0 (fun t ht => absurd ht (Nat.not_lt_zero t)) rfl hD0 hA0 hP hS (lv_sub hl [0] rfl)

