abbrev rmX6_cover : Room := { frames := 2, cells := 0, slots := 0, locals := 45 }
set_option maxHeartbeats 4000000 in
set_option maxRecDepth 100000 in
theorem kX6_cover (l : Launch) (g : GG) (n : Nat) (v : SV) (x : Int32) (N : Nat) (hM : okM (v.1 54) N) : Met l yX6_cover wsX6_cover rmX6_cover (PW g n v [.ref (gA g 53), .int x]) (QF g n ((coverM v x).1) ((coverM v x).2)) 0 0 (wA g n) := by
  refine Met.begin RX6 rfl (by decide) rfl (Nat.le_of_ble_eq_true rfl) ?_
  intro p e s m args below meth c ls ha C hP hS hl
  have hn : 64 ≤ n := C.2.1.1.2.1
  have hi6 : ∀ w ∈ u_ws RX6 TX6 17, w ∈ wsX6_cover := by decide +kernel
  have hl : lv_has ls 6 [(0, .ref (gA g 53)), (1, .int x)] := hl
  have h8 := hM.1
  obtain ⟨M, hM2⟩ : ∃ zz, zz = 2 ^ N := ⟨_, rfl⟩
  have hM3 : M ≤ 256 := by rw [hM2]; exact pow8 h8
  refine lv_iload_n C.1.1 C.1.2.1 dX6_cover_0 rfl (lv_at hl 1 rfl) ?_
  refine a_B hS (run_S C hP hS hl.1 [.int x] (kX6_areGoods l g n v x) gX6_cover_X6_areGoods hdX6_areGoods rfl ⟨rfl, rfl⟩ ⟨Nat.le_of_ble_eq_true rfl, Nat.le_of_ble_eq_true rfl⟩ rfl [] rfl (Nat.le_of_ble_eq_true rfl) dX6_cover_1 ⟨Nat.zero_le _, Nat.zero_le _⟩) (fun b_1 H locs hP hS => ?_) (fun b_1 H locs hP hS => ?_)
  · skip
    obtain ⟨jx, hjx, rfl⟩ := b_1
    refine lv_if_ne (tgt := 13) C.1.1 C.1.2.1 dX6_cover_4 (by decide) (fun _ => ?_) (fun c_2 => absurd c_2 (by decide))
    refine lv_iconst (v := (-1)) C.1.1 C.1.2.1 dX6_cover_13 rfl ?_
    refine lv_istore_n (lv' := [(2, .int (-1)), (0, .ref (gA g 53)), (1, .int (nI jx))]) C.1.1 C.1.2.1 dX6_cover_14 rfl hl (by decide) rfl (fun ls hl => ?_)
    refine lv_iconst (v := 0) C.1.1 C.1.2.1 dX6_cover_15 rfl ?_
    refine lv_istore_n (lv' := [(3, .int 0), (2, .int (-1)), (0, .ref (gA g 53)), (1, .int (nI jx))]) C.1.1 C.1.2.1 dX6_cover_16 rfl hl (by decide) rfl (fun ls hl => ?_)
    have lp_17 : ∀ (k_17 i : Nat), i ≤ M → M + 1 ≤ i + k_17 → ∀ (H : Heap) (locs : List Loc) (ls : Array Slot), va_P g.1 vwCl (wl g n v) H → va_S (wA g n) s.heap H locs → lv_has ls 6 [(0, .ref (gA g 53)), (1, .int (nI jx)), (2, .int (cvM (v.1 54) (nI jx) N i)), (3, .int (nI i))] → W p l e rmX6_cover s m args below meth c H locs 0 0 (MQ below (QF g n ((coverM v (nI jx)).1) ((coverM v (nI jx)).2)) args s 0 0 (wA g n)) (F0 m 17 ls []) := by
      clear hP hS hl
      intro k_17
      induction k_17 with
      | zero => exact fun i h1 h2 => absurd h2 (by omega)
      | succ k_17 ih_17 =>
        intro i hi_17 hk_17 H locs ls hP hS hl
        refine lv_iload_n C.1.1 C.1.2.1 dX6_cover_17 rfl (lv_at hl 3 rfl) ?_
        refine lv_iconst (v := 1) C.1.1 C.1.2.1 dX6_cover_18 rfl ?_
        refine lv_aload_n C.1.1 C.1.2.1 dX6_cover_19 rfl (lv_at hl 0 rfl) ?_
        refine r_get C hP 53 6 (Nat.lt_of_lt_of_le (by decide) hn) rfl (by decide) rfl hi6 0 (by decide) (List.mem_of_getElem? (i := 1) rfl) rfl (val := .ref (gA g 54)) rfl dX6_cover_20 ?_
        refine lv_iconst (v := 0) C.1.1 C.1.2.1 dX6_cover_23 rfl ?_
        refine r_iald C hP 54 (Nat.lt_of_lt_of_le (by decide) hn) rfl 0 rfl (N := 83) rfl (by decide) (by omega) dX6_cover_24 ?_
        refine lv_topE (nI N) hM.2.1 ?_
        refine lv_ishl C.1.1 C.1.2.1 dX6_cover_25 ?_
        refine lv_topE (nI M) ((shl1 h8).trans (by rw [hM2])) ?_
        refine lv_icmp_ge (tgt := 112) C.1.1 C.1.2.1 dX6_cover_26 (by decide) (fun c_3 => ?_) (fun c_3 => ?_)
        · rw [show (nI M ≤ nI i) = (M ≤ i) from propext (nI_leI (a := M) (b := i) (by omega) (by omega))] at c_3
          have hiM : i = M := by omega
          refine lv_iload_n C.1.1 C.1.2.1 dX6_cover_112 rfl (lv_at hl 2 rfl) ?_
          refine lv_if_ge (tgt := 124) C.1.1 C.1.2.1 dX6_cover_113 (by decide) (fun c_4 => ?_) (fun c_4 => ?_)
          · skip
            refine lv_iload_n C.1.1 C.1.2.1 dX6_cover_124 rfl (lv_at hl 2 rfl) ?_
            exact t_F C rfl hP hS (by rw [coverM, nM_eq hM, cif_pos ⟨jx, hjx, rfl⟩, ← hM2, ← hiM, if_neg (fa_le_nlt c_4)]) (by rw [coverM, nM_eq hM, cif_pos ⟨jx, hjx, rfl⟩, ← hM2, ← hiM, if_neg (fa_le_nlt c_4)]) dX6_cover_125
          · skip
            refine lv_aload_n C.1.1 C.1.2.1 dX6_cover_116 rfl (lv_at hl 0 rfl) ?_
            refine lv_iconst (v := 3) C.1.1 C.1.2.1 dX6_cover_117 rfl ?_
            refine a_F hS (run_V C hP hS hl.1 53 6 (Nat.lt_of_lt_of_le (by decide) hn) rfl (by decide) rfl [.int 3] (kX6_finds l g n v 3 (by decide)) gX6_cover_X6_finds rfl hdX6_finds rfl ⟨rfl, rfl⟩ ⟨Nat.le_of_ble_eq_true rfl, Nat.le_of_ble_eq_true rfl⟩ rfl [] rfl (Nat.le_of_ble_eq_true rfl) dX6_cover_118 ⟨Nat.zero_le _, Nat.zero_le _⟩) (fun H locs hP hS => ?_)
            obtain ⟨v_5, hv_5⟩ : ∃ zz, zz = fnd v 3 := ⟨_, rfl⟩
            rw [← hv_5] at hP
            refine lv_goto (tgt := 125) C.1.1 C.1.2.1 dX6_cover_121 (by decide) ?_
            exact t_F C rfl hP hS (by rw [coverM, nM_eq hM, cif_pos ⟨jx, hjx, rfl⟩, ← hM2, ← hiM, if_pos (fa_nle c_4)]; rfl) (by rw [coverM, nM_eq hM, cif_pos ⟨jx, hjx, rfl⟩, ← hM2, ← hiM, if_pos (fa_nle c_4), hv_5]; rfl) dX6_cover_125
        · rw [show (nI M ≤ nI i) = (M ≤ i) from propext (nI_leI (a := M) (b := i) (by omega) (by omega))] at c_3
          refine lv_iload_n C.1.1 C.1.2.1 dX6_cover_29 rfl (lv_at hl 1 rfl) ?_
          refine lv_istore (lv' := [(4, .int (nI jx)), (0, .ref (gA g 53)), (1, .int (nI jx)), (2, .int (cvM (v.1 54) (nI jx) N i)), (3, .int (nI i))]) C.1.1 C.1.2.1 dX6_cover_30 hl (by decide) rfl (fun ls hl => ?_)
          refine lv_iconst (v := 0) C.1.1 C.1.2.1 dX6_cover_32 rfl ?_
          refine lv_istore (lv' := [(5, .int 0), (4, .int (nI jx)), (0, .ref (gA g 53)), (1, .int (nI jx)), (2, .int (cvM (v.1 54) (nI jx) N i)), (3, .int (nI i))]) C.1.1 C.1.2.1 dX6_cover_33 hl (by decide) rfl (fun ls hl => ?_)
          have lp_35 : ∀ (k_35 r : Nat), r ≤ N → N + 1 ≤ r + k_35 → ∀ (H : Heap) (locs : List Loc) (ls : Array Slot), va_P g.1 vwCl (wl g n v) H → va_S (wA g n) s.heap H locs → lv_has ls 6 [(0, .ref (gA g 53)), (1, .int (nI jx)), (2, .int (cvM (v.1 54) (nI jx) N i)), (3, .int (nI i)), (4, .int (leftM (v.1 54) (nI jx) (nI i) r)), (5, .int (nI r))] → W p l e rmX6_cover s m args below meth c H locs 0 0 (MQ below (QF g n ((coverM v (nI jx)).1) ((coverM v (nI jx)).2)) args s 0 0 (wA g n)) (F0 m 35 ls []) := by
            clear hP hS hl
            intro k_35
            induction k_35 with
            | zero => exact fun r h1 h2 => absurd h2 (by omega)
            | succ k_35 ih_35 =>
              intro r hi_35 hk_35 H locs ls hP hS hl
              refine lv_iload C.1.1 C.1.2.1 dX6_cover_35 (lv_at hl 5 rfl) ?_
              refine lv_aload_n C.1.1 C.1.2.1 dX6_cover_37 rfl (lv_at hl 0 rfl) ?_
              refine r_get C hP 53 6 (Nat.lt_of_lt_of_le (by decide) hn) rfl (by decide) rfl hi6 0 (by decide) (List.mem_of_getElem? (i := 1) rfl) rfl (val := .ref (gA g 54)) rfl dX6_cover_38 ?_
              refine lv_iconst (v := 0) C.1.1 C.1.2.1 dX6_cover_41 rfl ?_
              refine r_iald C hP 54 (Nat.lt_of_lt_of_le (by decide) hn) rfl 0 rfl (N := 83) rfl (by decide) (by omega) dX6_cover_42 ?_
              refine lv_topE (nI N) hM.2.1 ?_
              refine lv_icmp_ge (tgt := 80) C.1.1 C.1.2.1 dX6_cover_43 (by decide) (fun c_6 => ?_) (fun c_6 => ?_)
              · rw [show (nI N ≤ nI r) = (N ≤ r) from propext (nI_leI (a := N) (b := r) (by omega) (by omega))] at c_6
                have hrN : r = N := by omega
                rw [hrN] at hl
                have jn_7 : ∀ (H : Heap) (locs : List Loc) (ls : Array Slot), va_P g.1 vwCl (wl g n v) H → va_S (wA g n) s.heap H locs → lv_has ls 6 [(0, .ref (gA g 53)), (1, .int (nI jx)), (2, .int (cvM (v.1 54) (nI jx) N i)), (3, .int (nI i)), (4, .int (leftM (v.1 54) (nI jx) (nI i) (N))), (5, .int (nI (N)))] → W p l e rmX6_cover s m args below meth c H locs 0 0 (MQ below (QF g n ((coverM v (nI jx)).1) ((coverM v (nI jx)).2)) args s 0 0 (wA g n)) (F0 m 105 ls [.int (if leftM (v.1 54) (nI jx) (nI i) N = 0 ∧ (cvM (v.1 54) (nI jx) N i < 0 ∨ onesF (nI i) 12 < onesF (cvM (v.1 54) (nI jx) N i) 12) then nI i else cvM (v.1 54) (nI jx) N i)]) := by
                  clear hP hS hl
                  intro H locs ls hP hS hl
                  refine lv_istore_n (lv' := [(2, .int (if leftM (v.1 54) (nI jx) (nI i) N = 0 ∧ (cvM (v.1 54) (nI jx) N i < 0 ∨ onesF (nI i) 12 < onesF (cvM (v.1 54) (nI jx) N i) 12) then nI i else cvM (v.1 54) (nI jx) N i)), (0, .ref (gA g 53)), (1, .int (nI jx)), (3, .int (nI i)), (4, .int (leftM (v.1 54) (nI jx) (nI i) (N))), (5, .int (nI (N)))]) C.1.1 C.1.2.1 dX6_cover_105 rfl hl (by decide) rfl (fun ls hl => ?_)
                  refine lv_iinc (v := nI (i + 1)) (lv' := [(3, .int (nI (i + 1))), (2, .int (if leftM (v.1 54) (nI jx) (nI i) N = 0 ∧ (cvM (v.1 54) (nI jx) N i < 0 ∨ onesF (nI i) 12 < onesF (cvM (v.1 54) (nI jx) N i) 12) then nI i else cvM (v.1 54) (nI jx) N i)), (0, .ref (gA g 53)), (1, .int (nI jx)), (4, .int (leftM (v.1 54) (nI jx) (nI i) (N))), (5, .int (nI (N)))]) C.1.1 C.1.2.1 dX6_cover_106 hl (k := 3) rfl (nI_1 i) (by decide) rfl (fun ls hl => ?_)
                  refine lv_goto (tgt := 17) C.1.1 C.1.2.1 dX6_cover_109 (by decide) ?_
                  exact ih_17 (i + 1) (by omega) (by omega) _ _ _ hP hS (lv_sub hl [2, 3, 1, 0] rfl)
                refine lv_iload C.1.1 C.1.2.1 dX6_cover_80 (lv_at hl 4 rfl) ?_
                refine lv_if_ne (tgt := 104) C.1.1 C.1.2.1 dX6_cover_82 (by decide) (fun c_8 => ?_) (fun c_8 => ?_)
                · skip
                  refine lv_iload_n C.1.1 C.1.2.1 dX6_cover_104 rfl (lv_at hl 2 rfl) ?_
                  exact lv_topE (if leftM (v.1 54) (nI jx) (nI i) N = 0 ∧ (cvM (v.1 54) (nI jx) N i < 0 ∨ onesF (nI i) 12 < onesF (cvM (v.1 54) (nI jx) N i) 12) then nI i else cvM (v.1 54) (nI jx) N i) (by rw [if_neg (by first | exact fun h => absurd h.1 (by assumption) | exact fun h => h.2.elim (by assumption) (fa_le_nlt (by assumption)))]) (jn_7 _ _ _ hP hS (lv_sub hl [0, 1, 2, 3, 4, 5] rfl))
                · skip
                  refine lv_iload_n C.1.1 C.1.2.1 dX6_cover_85 rfl (lv_at hl 2 rfl) ?_
                  refine lv_if_lt (tgt := 100) C.1.1 C.1.2.1 dX6_cover_86 (by decide) (fun c_9 => ?_) (fun c_9 => ?_)
                  · skip
                    refine lv_iload_n C.1.1 C.1.2.1 dX6_cover_100 rfl (lv_at hl 3 rfl) ?_
                    refine lv_goto (tgt := 105) C.1.1 C.1.2.1 dX6_cover_101 (by decide) ?_
                    exact lv_topE (if leftM (v.1 54) (nI jx) (nI i) N = 0 ∧ (cvM (v.1 54) (nI jx) N i < 0 ∨ onesF (nI i) 12 < onesF (cvM (v.1 54) (nI jx) N i) 12) then nI i else cvM (v.1 54) (nI jx) N i) (by rw [if_pos (by first | exact ⟨by assumption, Or.inl (by assumption)⟩ | exact ⟨by assumption, Or.inr (fa_nle (by assumption))⟩)]) (jn_7 _ _ _ hP hS (lv_sub hl [0, 1, 2, 3, 4, 5] rfl))
                  · skip
                    refine lv_iload_n C.1.1 C.1.2.1 dX6_cover_89 rfl (lv_at hl 3 rfl) ?_
                    refine a_F hS (run_S C hP hS hl.1 [.int (nI i)] (kX6_ones l g n v (nI i)) gX6_cover_X6_ones hdX6_ones rfl ⟨rfl, rfl⟩ ⟨Nat.le_of_ble_eq_true rfl, Nat.le_of_ble_eq_true rfl⟩ rfl [] rfl (Nat.le_of_ble_eq_true rfl) dX6_cover_90 ⟨Nat.zero_le _, Nat.zero_le _⟩) (fun H locs hP hS => ?_)
                    refine lv_iload_n C.1.1 C.1.2.1 dX6_cover_93 rfl (lv_at hl 2 rfl) ?_
                    refine a_F hS (run_S C hP hS hl.1 [.int (cvM (v.1 54) (nI jx) N i)] (kX6_ones l g n v (cvM (v.1 54) (nI jx) N i)) gX6_cover_X6_ones hdX6_ones rfl ⟨rfl, rfl⟩ ⟨Nat.le_of_ble_eq_true rfl, Nat.le_of_ble_eq_true rfl⟩ rfl [.int (onesF (nI i) 12)] rfl (Nat.le_of_ble_eq_true rfl) dX6_cover_94 ⟨Nat.zero_le _, Nat.zero_le _⟩) (fun H locs hP hS => ?_)
                    refine lv_icmp_ge (tgt := 104) C.1.1 C.1.2.1 dX6_cover_97 (by decide) (fun c_10 => ?_) (fun c_10 => ?_)
                    · skip
                      refine lv_iload_n C.1.1 C.1.2.1 dX6_cover_104 rfl (lv_at hl 2 rfl) ?_
                      exact lv_topE (if leftM (v.1 54) (nI jx) (nI i) N = 0 ∧ (cvM (v.1 54) (nI jx) N i < 0 ∨ onesF (nI i) 12 < onesF (cvM (v.1 54) (nI jx) N i) 12) then nI i else cvM (v.1 54) (nI jx) N i) (by rw [if_neg (by first | exact fun h => absurd h.1 (by assumption) | exact fun h => h.2.elim (by assumption) (fa_le_nlt (by assumption)))]) (jn_7 _ _ _ hP hS (lv_sub hl [0, 1, 2, 3, 4, 5] rfl))
                    · skip
                      refine lv_iload_n C.1.1 C.1.2.1 dX6_cover_100 rfl (lv_at hl 3 rfl) ?_
                      refine lv_goto (tgt := 105) C.1.1 C.1.2.1 dX6_cover_101 (by decide) ?_
                      exact lv_topE (if leftM (v.1 54) (nI jx) (nI i) N = 0 ∧ (cvM (v.1 54) (nI jx) N i < 0 ∨ onesF (nI i) 12 < onesF (cvM (v.1 54) (nI jx) N i) 12) then nI i else cvM (v.1 54) (nI jx) N i) (by rw [if_pos (by first | exact ⟨by assumption, Or.inl (by assumption)⟩ | exact ⟨by assumption, Or.inr (fa_nle (by assumption))⟩)]) (jn_7 _ _ _ hP hS (lv_sub hl [0, 1, 2, 3, 4, 5] rfl))
              · rw [show (nI N ≤ nI r) = (N ≤ r) from propext (nI_leI (a := N) (b := r) (by omega) (by omega))] at c_6
                refine lv_iload C.1.1 C.1.2.1 dX6_cover_46 (lv_at hl 4 rfl) ?_
                refine lv_iload_n C.1.1 C.1.2.1 dX6_cover_48 rfl (lv_at hl 3 rfl) ?_
                refine lv_iload C.1.1 C.1.2.1 dX6_cover_49 (lv_at hl 5 rfl) ?_
                refine lv_ishr C.1.1 C.1.2.1 dX6_cover_51 ?_
                refine lv_iconst (v := 1) C.1.1 C.1.2.1 dX6_cover_52 rfl ?_
                refine lv_iand C.1.1 C.1.2.1 dX6_cover_53 ?_
                refine lv_iconst (v := 1) C.1.1 C.1.2.1 dX6_cover_54 rfl ?_
                have jn_11 : ∀ (H : Heap) (locs : List Loc) (ls : Array Slot), va_P g.1 vwCl (wl g n v) H → va_S (wA g n) s.heap H locs → lv_has ls 6 [(0, .ref (gA g 53)), (1, .int (nI jx)), (2, .int (cvM (v.1 54) (nI jx) N i)), (3, .int (nI i)), (4, .int (leftM (v.1 54) (nI jx) (nI i) r)), (5, .int (nI r))] → W p l e rmX6_cover s m args below meth c H locs 0 0 (MQ below (QF g n ((coverM v (nI jx)).1) ((coverM v (nI jx)).2)) args s 0 0 (wA g n)) (F0 m 71 ls [.int (if (((nI i) >>> ((nI r) &&& 31)) &&& 1) = 1 then rowM (v.1 54) r 2 ^^^ (-1) else (-1)), .int (leftM (v.1 54) (nI jx) (nI i) r)]) := by
                  clear hP hS hl
                  intro H locs ls hP hS hl
                  refine lv_iand C.1.1 C.1.2.1 dX6_cover_71 ?_
                  refine lv_istore (lv' := [(4, .int ((leftM (v.1 54) (nI jx) (nI i) r) &&& (if (((nI i) >>> ((nI r) &&& 31)) &&& 1) = 1 then rowM (v.1 54) r 2 ^^^ (-1) else (-1)))), (0, .ref (gA g 53)), (1, .int (nI jx)), (2, .int (cvM (v.1 54) (nI jx) N i)), (3, .int (nI i)), (5, .int (nI r))]) C.1.1 C.1.2.1 dX6_cover_72 hl (by decide) rfl (fun ls hl => ?_)
                  refine lv_iinc (v := nI (r + 1)) (lv' := [(5, .int (nI (r + 1))), (4, .int ((leftM (v.1 54) (nI jx) (nI i) r) &&& (if (((nI i) >>> ((nI r) &&& 31)) &&& 1) = 1 then rowM (v.1 54) r 2 ^^^ (-1) else (-1)))), (0, .ref (gA g 53)), (1, .int (nI jx)), (2, .int (cvM (v.1 54) (nI jx) N i)), (3, .int (nI i))]) C.1.1 C.1.2.1 dX6_cover_74 hl (k := 5) rfl (nI_1 r) (by decide) rfl (fun ls hl => ?_)
                  refine lv_goto (tgt := 35) C.1.1 C.1.2.1 dX6_cover_77 (by decide) ?_
                  exact ih_35 (r + 1) (by omega) (by omega) _ _ _ hP hS (lv_sub hl [2, 3, 4, 5, 1, 0] rfl)
                refine lv_icmp_ne (tgt := 70) C.1.1 C.1.2.1 dX6_cover_55 (by decide) (fun c_12 => ?_) (fun c_12 => ?_)
                · skip
                  refine lv_iconst (v := (-1)) C.1.1 C.1.2.1 dX6_cover_70 rfl ?_
                  exact lv_topE (if (((nI i) >>> ((nI r) &&& 31)) &&& 1) = 1 then rowM (v.1 54) r 2 ^^^ (-1) else (-1)) (by rw [if_neg c_12]) (jn_11 _ _ _ hP hS (lv_sub hl [0, 1, 2, 3, 4, 5] rfl))
                · skip
                  refine lv_aload_n C.1.1 C.1.2.1 dX6_cover_58 rfl (lv_at hl 0 rfl) ?_
                  refine lv_iload C.1.1 C.1.2.1 dX6_cover_59 (lv_at hl 5 rfl) ?_
                  refine lv_iconst (v := 2) C.1.1 C.1.2.1 dX6_cover_61 rfl ?_
                  refine a_F hS (run_V C hP hS hl.1 53 6 (Nat.lt_of_lt_of_le (by decide) hn) rfl (by decide) rfl [.int (nI r), .int 2] (kX6_its l g n v r 2 (by omega) (by omega)) gX6_cover_X6_its rfl hdX6_its rfl ⟨rfl, rfl⟩ ⟨Nat.le_of_ble_eq_true rfl, Nat.le_of_ble_eq_true rfl⟩ rfl [.int (leftM (v.1 54) (nI jx) (nI i) r)] rfl (Nat.le_of_ble_eq_true rfl) dX6_cover_62 ⟨Nat.zero_le _, Nat.zero_le _⟩) (fun H locs hP hS => ?_)
                  refine lv_iconst (v := (-1)) C.1.1 C.1.2.1 dX6_cover_65 rfl ?_
                  refine lv_ixor C.1.1 C.1.2.1 dX6_cover_66 ?_
                  refine lv_goto (tgt := 71) C.1.1 C.1.2.1 dX6_cover_67 (by decide) ?_
                  exact lv_topE (if (((nI i) >>> ((nI r) &&& 31)) &&& 1) = 1 then rowM (v.1 54) r 2 ^^^ (-1) else (-1)) (by rw [if_pos c_12]) (jn_11 _ _ _ hP hS (lv_sub hl [0, 1, 2, 3, 4, 5] rfl))
          exact lp_35 (N + 1) 0 (Nat.zero_le _) (by omega) _ _ _ hP hS (lv_sub hl [2, 3, 4, 5, 1, 0] rfl)
    exact lp_17 (M + 1) 0 (Nat.zero_le _) (by omega) _ _ _ hP hS (lv_sub hl [2, 3, 1, 0] rfl)
  · skip
    refine lv_if_ne (tgt := 13) C.1.1 C.1.2.1 dX6_cover_4 (by decide) (fun c_13 => absurd c_13 (by decide)) (fun _ => ?_)
    refine lv_aload_n C.1.1 C.1.2.1 dX6_cover_7 rfl (lv_at hl 0 rfl) ?_
    refine lv_iconst (v := 0) C.1.1 C.1.2.1 dX6_cover_8 rfl ?_
    refine a_F hS (run_V C hP hS hl.1 53 6 (Nat.lt_of_lt_of_le (by decide) hn) rfl (by decide) rfl [.int 0] (kX6_finds l g n v 0 (by decide)) gX6_cover_X6_finds rfl hdX6_finds rfl ⟨rfl, rfl⟩ ⟨Nat.le_of_ble_eq_true rfl, Nat.le_of_ble_eq_true rfl⟩ rfl [] rfl (Nat.le_of_ble_eq_true rfl) dX6_cover_9 ⟨Nat.zero_le _, Nat.zero_le _⟩) (fun H locs hP hS => ?_)
    obtain ⟨v_14, hv_14⟩ : ∃ zz, zz = fnd v 0 := ⟨_, rfl⟩
    rw [← hv_14] at hP
    exact t_F C rfl hP hS (by (rw [coverM, nM_eq hM]; rw [cif_neg b_1]) <;> try simp only [fdM, upw_same, eq_self, if_true, if_false, ite_true, ite_false, ↓reduceIte, hv_14, nM_eq hM]) (by (rw [coverM, nM_eq hM]; rw [cif_neg b_1]) <;> try simp only [fdM, upw_same, eq_self, if_true, if_false, ite_true, ite_false, ↓reduceIte, hv_14, nM_eq hM]) dX6_cover_12

abbrev rmX6_empty : Room := { frames := 6, cells := 0, slots := 0, locals := 135 }
set_option maxHeartbeats 4000000 in
set_option maxRecDepth 100000 in
theorem kX6_empty (l : Launch) (g : GG) (n : Nat) (v : SV) (x : Int32) (N : Nat) (hM : okM (v.1 54) N) : Met l yX6_empty wsX6_empty rmX6_empty (PW g n v [.ref (gA g 53), .int x]) (QF g n ((emptyM v x).1) ((emptyM v x).2)) 0 0 (wA g n) := by
  refine Met.begin RX6 rfl (by decide) rfl (Nat.le_of_ble_eq_true rfl) ?_
  intro p e s m args below meth c ls ha C hP hS hl
  have hn : 64 ≤ n := C.2.1.1.2.1
  have hi6 : ∀ w ∈ u_ws RX6 TX6 17, w ∈ wsX6_empty := by decide +kernel
  have hl : lv_has ls 5 [(0, .ref (gA g 53)), (1, .int x)] := hl
  have h8 := hM.1
  obtain ⟨M, hM2⟩ : ∃ zz, zz = 2 ^ N := ⟨_, rfl⟩
  have hM3 : M ≤ 256 := by rw [hM2]; exact pow8 h8
  refine lv_iload_n C.1.1 C.1.2.1 dX6_empty_0 rfl (lv_at hl 1 rfl) ?_
  refine lv_i2l (v := x.toInt64) C.1.1 C.1.2.1 dX6_empty_1 rfl ?_
  refine lv_lconst (v := 0) C.1.1 C.1.2.1 dX6_empty_2 rfl ?_
  refine lv_ldc2 (v := 20) C.1.1 C.1.2.1 C.1.2.2.2.1 (C.1.2.2.2.2 _ (List.mem_of_getElem? (i := 1) rfl)) dX6_empty_3 ?_
  refine a_B hS (run_S C hP hS hl.1 [.long x.toInt64, .long 0, .long 20] (kX6_in l g n v x.toInt64 0 20) gX6_empty_X6_in hdX6_in rfl ⟨rfl, rfl⟩ ⟨Nat.le_of_ble_eq_true rfl, Nat.le_of_ble_eq_true rfl⟩ rfl [] rfl (Nat.le_of_ble_eq_true rfl) dX6_empty_6 ⟨Nat.zero_le _, Nat.zero_le _⟩) (fun b_1 H locs hP hS => ?_) (fun b_1 H locs hP hS => ?_)
  · skip
    have b_1 := (in_iff 21 (by decide) (by decide)).mp b_1
    obtain ⟨jx, hjx, rfl⟩ := b_1
    refine lv_if_ne (tgt := 18) C.1.1 C.1.2.1 dX6_empty_9 (by decide) (fun _ => ?_) (fun c_2 => absurd c_2 (by decide))
    refine lv_aload_n C.1.1 C.1.2.1 dX6_empty_18 rfl (lv_at hl 0 rfl) ?_
    refine r_get C hP 53 6 (Nat.lt_of_lt_of_le (by decide) hn) rfl (by decide) rfl hi6 0 (by decide) (List.mem_of_getElem? (i := 2) rfl) rfl (val := .ref (gA g 54)) rfl dX6_empty_19 ?_
    refine lv_aload_n C.1.1 C.1.2.1 dX6_empty_22 rfl (lv_at hl 0 rfl) ?_
    refine r_get C hP 53 6 (Nat.lt_of_lt_of_le (by decide) hn) rfl (by decide) rfl hi6 2 (by decide) (List.mem_of_getElem? (i := 3) rfl) rfl (val := .ref (gA g 56)) rfl dX6_empty_23 ?_
    refine a_G hS (run_S C hP hS hl.1 [.ref (gA g 54), .ref (gA g 56)] (kX6_copies l g n v 54 56 (by decide) (by decide) (by decide)) gX6_empty_X6_copies hdX6_copies rfl ⟨rfl, rfl⟩ ⟨Nat.le_of_ble_eq_true rfl, Nat.le_of_ble_eq_true rfl⟩ rfl [] rfl (Nat.le_of_ble_eq_true rfl) dX6_empty_26 ⟨Nat.zero_le _, Nat.zero_le _⟩) (fun H locs hP hS => ?_)
    obtain ⟨v_3, hv_3⟩ : ∃ zz, zz = upw v 56 (cpyM (v.1 54) (v.1 56) 83) := ⟨_, rfl⟩
    rw [← hv_3] at hP
    rw [show v_3 = asideM v from hv_3] at hP
    refine lv_iconst (v := (-1)) C.1.1 C.1.2.1 dX6_empty_29 rfl ?_
    refine lv_istore_n (lv' := [(2, .int (-1)), (0, .ref (gA g 53)), (1, .int (nI jx))]) C.1.1 C.1.2.1 dX6_empty_30 rfl hl (by decide) rfl (fun ls hl => ?_)
    refine lv_iconst (v := 0) C.1.1 C.1.2.1 dX6_empty_31 rfl ?_
    refine lv_istore_n (lv' := [(3, .int 0), (2, .int (-1)), (0, .ref (gA g 53)), (1, .int (nI jx))]) C.1.1 C.1.2.1 dX6_empty_32 rfl hl (by decide) rfl (fun ls hl => ?_)
    have lp_33 : ∀ (k_33 i : Nat), i ≤ M → M + 1 ≤ i + k_33 → ∀ (H : Heap) (locs : List Loc) (ls : Array Slot), va_P g.1 vwCl (wl g n (asideM v)) H → va_S (wA g n) s.heap H locs → lv_has ls 5 [(0, .ref (gA g 53)), (1, .int (nI jx)), (2, .int (emM (v.1 54) jx N i)), (3, .int (nI i))] → W p l e rmX6_empty s m args below meth c H locs 0 0 (MQ below (QF g n ((emptyM v (nI jx)).1) ((emptyM v (nI jx)).2)) args s 0 0 (wA g n)) (F0 m 33 ls []) := by
      clear hP hS hl
      intro k_33
      induction k_33 with
      | zero => exact fun i h1 h2 => absurd h2 (by omega)
      | succ k_33 ih_33 =>
        intro i hi_33 hk_33 H locs ls hP hS hl
        refine lv_iload_n C.1.1 C.1.2.1 dX6_empty_33 rfl (lv_at hl 3 rfl) ?_
        refine lv_iconst (v := 1) C.1.1 C.1.2.1 dX6_empty_34 rfl ?_
        refine lv_aload_n C.1.1 C.1.2.1 dX6_empty_35 rfl (lv_at hl 0 rfl) ?_
        refine r_get C hP 53 6 (Nat.lt_of_lt_of_le (by decide) hn) rfl (by decide) rfl hi6 0 (by decide) (List.mem_of_getElem? (i := 2) rfl) rfl (val := .ref (gA g 54)) rfl dX6_empty_36 ?_
        refine lv_iconst (v := 0) C.1.1 C.1.2.1 dX6_empty_39 rfl ?_
        refine r_iald C hP 54 (Nat.lt_of_lt_of_le (by decide) hn) rfl 0 rfl (N := 83) rfl (by decide) (by omega) dX6_empty_40 ?_
        refine lv_topE (nI N) ((okA hM).2.1) ?_
        refine lv_ishl C.1.1 C.1.2.1 dX6_empty_41 ?_
        refine lv_topE (nI M) ((shl1 h8).trans (by rw [hM2])) ?_
        refine lv_icmp_ge (tgt := 133) C.1.1 C.1.2.1 dX6_empty_42 (by decide) (fun c_4 => ?_) (fun c_4 => ?_)
        · rw [show (nI M ≤ nI i) = (M ≤ i) from propext (nI_leI (a := M) (b := i) (by omega) (by omega))] at c_4
          have hiM : i = M := by omega
          refine lv_iload_n C.1.1 C.1.2.1 dX6_empty_133 rfl (lv_at hl 2 rfl) ?_
          refine lv_if_ge (tgt := 145) C.1.1 C.1.2.1 dX6_empty_134 (by decide) (fun c_5 => ?_) (fun c_5 => ?_)
          · skip
            refine lv_iload_n C.1.1 C.1.2.1 dX6_empty_145 rfl (lv_at hl 2 rfl) ?_
            exact t_F C rfl hP hS (by rw [emptyM, nM_eq hM, cif_pos ⟨jx, hjx, rfl⟩, tn_nI (show jx < 2 ^ 31 by omega), ← hM2, ← hiM, if_neg (fa_le_nlt c_5)]) (by rw [emptyM, nM_eq hM, cif_pos ⟨jx, hjx, rfl⟩, tn_nI (show jx < 2 ^ 31 by omega), ← hM2, ← hiM, if_neg (fa_le_nlt c_5)]) dX6_empty_146
          · skip
            refine lv_aload_n C.1.1 C.1.2.1 dX6_empty_137 rfl (lv_at hl 0 rfl) ?_
            refine lv_iconst (v := 3) C.1.1 C.1.2.1 dX6_empty_138 rfl ?_
            refine a_F hS (run_V C hP hS hl.1 53 6 (Nat.lt_of_lt_of_le (by decide) hn) rfl (by decide) rfl [.int 3] (kX6_finds l g n (asideM v) 3 (by decide)) gX6_empty_X6_finds rfl hdX6_finds rfl ⟨rfl, rfl⟩ ⟨Nat.le_of_ble_eq_true rfl, Nat.le_of_ble_eq_true rfl⟩ rfl [] rfl (Nat.le_of_ble_eq_true rfl) dX6_empty_139 ⟨Nat.zero_le _, Nat.zero_le _⟩) (fun H locs hP hS => ?_)
            obtain ⟨v_6, hv_6⟩ : ∃ zz, zz = fnd (asideM v) 3 := ⟨_, rfl⟩
            rw [← hv_6] at hP
            refine lv_goto (tgt := 146) C.1.1 C.1.2.1 dX6_empty_142 (by decide) ?_
            exact t_F C rfl hP hS (by rw [emptyM, nM_eq hM, cif_pos ⟨jx, hjx, rfl⟩, tn_nI (show jx < 2 ^ 31 by omega), ← hM2, ← hiM, if_pos (fa_nle c_5)]; rfl) (by rw [emptyM, nM_eq hM, cif_pos ⟨jx, hjx, rfl⟩, tn_nI (show jx < 2 ^ 31 by omega), ← hM2, ← hiM, if_pos (fa_nle c_5), hv_6]; rfl) dX6_empty_146
        · rw [show (nI M ≤ nI i) = (M ≤ i) from propext (nI_leI (a := M) (b := i) (by omega) (by omega))] at c_4
          refine lv_iload_n C.1.1 C.1.2.1 dX6_empty_45 rfl (lv_at hl 2 rfl) ?_
          refine lv_if_lt (tgt := 63) C.1.1 C.1.2.1 dX6_empty_46 (by decide) (fun c_7 => ?_) (fun c_7 => ?_)
          · skip
            refine lv_iconst (v := 0) C.1.1 C.1.2.1 dX6_empty_63 rfl ?_
            refine lv_istore (lv' := [(4, .int 0), (0, .ref (gA g 53)), (1, .int (nI jx)), (2, .int (emM (v.1 54) jx N i)), (3, .int (nI i))]) C.1.1 C.1.2.1 dX6_empty_64 hl (by decide) rfl (fun ls hl => ?_)
            have lp_66 : ∀ (k_66 r : Nat), r ≤ N → N + 1 ≤ r + k_66 → ∀ (H : Heap) (locs : List Loc) (ls : Array Slot), va_P g.1 vwCl (wl g n (upw (asideM v) 54 (awM (v.1 54) (nI i) r))) H → va_S (wA g n) s.heap H locs → lv_has ls 5 [(0, .ref (gA g 53)), (1, .int (nI jx)), (2, .int (emM (v.1 54) jx N i)), (3, .int (nI i)), (4, .int (nI r))] → W p l e rmX6_empty s m args below meth c H locs 0 0 (MQ below (QF g n ((emptyM v (nI jx)).1) ((emptyM v (nI jx)).2)) args s 0 0 (wA g n)) (F0 m 66 ls []) := by
              clear hP hS hl
              intro k_66
              induction k_66 with
              | zero => exact fun r h1 h2 => absurd h2 (by omega)
              | succ k_66 ih_66 =>
                intro r hi_66 hk_66 H locs ls hP hS hl
                refine lv_iload C.1.1 C.1.2.1 dX6_empty_66 (lv_at hl 4 rfl) ?_
                refine lv_aload_n C.1.1 C.1.2.1 dX6_empty_68 rfl (lv_at hl 0 rfl) ?_
                refine r_get C hP 53 6 (Nat.lt_of_lt_of_le (by decide) hn) rfl (by decide) rfl hi6 0 (by decide) (List.mem_of_getElem? (i := 2) rfl) rfl (val := .ref (gA g 54)) rfl dX6_empty_69 ?_
                refine lv_iconst (v := 0) C.1.1 C.1.2.1 dX6_empty_72 rfl ?_
                refine r_iald C hP 54 (Nat.lt_of_lt_of_le (by decide) hn) rfl 0 rfl (N := 83) rfl (by decide) (by omega) dX6_empty_73 ?_
                refine lv_topE (nI N) (by rw [upw_same, awM_lo (by decide)]; exact hM.2.1) ?_
                refine lv_icmp_ge (tgt := 104) C.1.1 C.1.2.1 dX6_empty_74 (by decide) (fun c_8 => ?_) (fun c_8 => ?_)
                · rw [show (nI N ≤ nI r) = (N ≤ r) from propext (nI_leI (a := N) (b := r) (by omega) (by omega))] at c_8
                  have hrN : r = N := by omega
                  rw [hrN] at hl hP
                  refine lv_aload_n C.1.1 C.1.2.1 dX6_empty_104 rfl (lv_at hl 0 rfl) ?_
                  refine lv_iload_n C.1.1 C.1.2.1 dX6_empty_105 rfl (lv_at hl 1 rfl) ?_
                  refine lv_bipush (v := 6) C.1.1 C.1.2.1 dX6_empty_106 rfl ?_
                  refine a_F hS (run_V C hP hS hl.1 53 6 (Nat.lt_of_lt_of_le (by decide) hn) rfl (by decide) rfl [.int (nI jx), .int 6] (kX6_behind l g n (upw (asideM v) 54 (awM (v.1 54) (nI i) N)) jx 6 (by omega) (by omega) N (by rw [upw_same]; exact okM_aw hM (Nat.le_refl N))) gX6_empty_X6_behind rfl hdX6_behind rfl ⟨rfl, rfl⟩ ⟨Nat.le_of_ble_eq_true rfl, Nat.le_of_ble_eq_true rfl⟩ rfl [] rfl (Nat.le_of_ble_eq_true rfl) dX6_empty_108 ⟨Nat.zero_le _, Nat.zero_le _⟩) (fun H locs hP hS => ?_)
                  obtain ⟨v_9, hv_9⟩ : ∃ zz, zz = upw (upw (asideM v) 54 (awM (v.1 54) (nI i) N)) 54 (cpyM ((upw (asideM v) 54 (awM (v.1 54) (nI i) N)).1 56) (daysM ((upw (asideM v) 54 (awM (v.1 54) (nI i) N)).1 54) jx) 83) := ⟨_, rfl⟩
                  rw [← hv_9] at hP
                  refine lv_topE (daysM (awM (v.1 54) (nI i) N) jx 6) (by rw [upw_same]) ?_
                  rw [show v_9 = asideM v from by rw [hv_9]; exact restoreC (fun j hj => by rw [daysM_hi (okM_aw hM (Nat.le_refl N)) hj]; exact awM_hi hj h8)] at hP
                  refine lv_aload_n C.1.1 C.1.2.1 dX6_empty_111 rfl (lv_at hl 0 rfl) ?_
                  refine r_get C hP 53 6 (Nat.lt_of_lt_of_le (by decide) hn) rfl (by decide) rfl hi6 0 (by decide) (List.mem_of_getElem? (i := 2) rfl) rfl (val := .ref (gA g 54)) rfl dX6_empty_112 ?_
                  refine lv_bipush (v := 6) C.1.1 C.1.2.1 dX6_empty_115 rfl ?_
                  refine r_iald C hP 54 (Nat.lt_of_lt_of_le (by decide) hn) rfl 6 rfl (N := 83) rfl (by decide) (by omega) dX6_empty_117 ?_
                  refine lv_topE (v.1 54 6) (by rw [asideM_54]) ?_
                  have jn_10 : ∀ (H : Heap) (locs : List Loc) (ls : Array Slot), va_P g.1 vwCl (wl g n (asideM v)) H → va_S (wA g n) s.heap H locs → lv_has ls 5 [(0, .ref (gA g 53)), (1, .int (nI jx)), (2, .int (emM (v.1 54) jx N i)), (3, .int (nI i)), (4, .int (nI (N)))] → W p l e rmX6_empty s m args below meth c H locs 0 0 (MQ below (QF g n ((emptyM v (nI jx)).1) ((emptyM v (nI jx)).2)) args s 0 0 (wA g n)) (F0 m 126 ls [.int (if (daysM (awM (v.1 54) (nI i) N) jx 6) = (v.1 54 6) then nI i else emM (v.1 54) jx N i)]) := by
                    clear hP hS hl
                    intro H locs ls hP hS hl
                    refine lv_istore_n (lv' := [(2, .int (if (daysM (awM (v.1 54) (nI i) N) jx 6) = (v.1 54 6) then nI i else emM (v.1 54) jx N i)), (0, .ref (gA g 53)), (1, .int (nI jx)), (3, .int (nI i)), (4, .int (nI (N)))]) C.1.1 C.1.2.1 dX6_empty_126 rfl hl (by decide) rfl (fun ls hl => ?_)
                    refine lv_iinc (v := nI (i + 1)) (lv' := [(3, .int (nI (i + 1))), (2, .int (if (daysM (awM (v.1 54) (nI i) N) jx 6) = (v.1 54 6) then nI i else emM (v.1 54) jx N i)), (0, .ref (gA g 53)), (1, .int (nI jx)), (4, .int (nI (N)))]) C.1.1 C.1.2.1 dX6_empty_127 hl (k := 3) rfl (nI_1 i) (by decide) rfl (fun ls hl => ?_)
                    refine lv_goto (tgt := 33) C.1.1 C.1.2.1 dX6_empty_130 (by decide) ?_
                    exact ih_33 (i + 1) (by omega) (by omega) _ _ _ hP hS (by have h9 := lv_sub hl [2, 3, 1, 0] rfl; rw [show emM (v.1 54) jx N (i + 1) = _ from emM_go (by first | exact Or.inl c_7 | exact Or.inr c_7)]; exact h9)
                  refine lv_icmp_ne (tgt := 125) C.1.1 C.1.2.1 dX6_empty_118 (by decide) (fun c_11 => ?_) (fun c_11 => ?_)
                  · skip
                    refine lv_iload_n C.1.1 C.1.2.1 dX6_empty_125 rfl (lv_at hl 2 rfl) ?_
                    exact lv_topE (if (daysM (awM (v.1 54) (nI i) N) jx 6) = (v.1 54 6) then nI i else emM (v.1 54) jx N i) (by rw [if_neg c_11]) (jn_10 _ _ _ hP hS (lv_sub hl [0, 1, 2, 3, 4] rfl))
                  · skip
                    refine lv_iload_n C.1.1 C.1.2.1 dX6_empty_121 rfl (lv_at hl 3 rfl) ?_
                    refine lv_goto (tgt := 126) C.1.1 C.1.2.1 dX6_empty_122 (by decide) ?_
                    exact lv_topE (if (daysM (awM (v.1 54) (nI i) N) jx 6) = (v.1 54 6) then nI i else emM (v.1 54) jx N i) (by rw [if_pos c_11]) (jn_10 _ _ _ hP hS (lv_sub hl [0, 1, 2, 3, 4] rfl))
                · rw [show (nI N ≤ nI r) = (N ≤ r) from propext (nI_leI (a := N) (b := r) (by omega) (by omega))] at c_8
                  refine lv_aload_n C.1.1 C.1.2.1 dX6_empty_77 rfl (lv_at hl 0 rfl) ?_
                  refine lv_iload C.1.1 C.1.2.1 dX6_empty_78 (lv_at hl 4 rfl) ?_
                  refine lv_iconst (v := 5) C.1.1 C.1.2.1 dX6_empty_80 rfl ?_
                  refine lv_aload_n C.1.1 C.1.2.1 dX6_empty_81 rfl (lv_at hl 0 rfl) ?_
                  refine lv_iload C.1.1 C.1.2.1 dX6_empty_82 (lv_at hl 4 rfl) ?_
                  refine lv_iconst (v := 5) C.1.1 C.1.2.1 dX6_empty_84 rfl ?_
                  refine a_F hS (run_V C hP hS hl.1 53 6 (Nat.lt_of_lt_of_le (by decide) hn) rfl (by decide) rfl [.int (nI r), .int 5] (kX6_its l g n (upw (asideM v) 54 (awM (v.1 54) (nI i) r)) r 5 (by omega) (by omega)) gX6_empty_X6_its rfl hdX6_its rfl ⟨rfl, rfl⟩ ⟨Nat.le_of_ble_eq_true rfl, Nat.le_of_ble_eq_true rfl⟩ rfl [.int 5, .int (nI r), .ref (gA g 53)] rfl (Nat.le_of_ble_eq_true rfl) dX6_empty_85 ⟨Nat.zero_le _, Nat.zero_le _⟩) (fun H locs hP hS => ?_)
                  refine lv_topE (rowM (awM (v.1 54) (nI i) r) r 5) (by rw [upw_same]) ?_
                  refine lv_iload_n C.1.1 C.1.2.1 dX6_empty_88 rfl (lv_at hl 3 rfl) ?_
                  refine lv_iload C.1.1 C.1.2.1 dX6_empty_89 (lv_at hl 4 rfl) ?_
                  refine lv_ishr C.1.1 C.1.2.1 dX6_empty_91 ?_
                  refine lv_iconst (v := 1) C.1.1 C.1.2.1 dX6_empty_92 rfl ?_
                  refine lv_iand C.1.1 C.1.2.1 dX6_empty_93 ?_
                  refine lv_ior C.1.1 C.1.2.1 dX6_empty_94 ?_
                  refine a_G hS (run_V C hP hS hl.1 53 6 (Nat.lt_of_lt_of_le (by decide) hn) rfl (by decide) rfl [.int (nI r), .int 5, .int ((rowM (awM (v.1 54) (nI i) r) r 5) ||| (((nI i) >>> ((nI r) &&& 31)) &&& 1))] (kX6_sets l g n (upw (asideM v) 54 (awM (v.1 54) (nI i) r)) r 5 ((rowM (awM (v.1 54) (nI i) r) r 5) ||| (((nI i) >>> ((nI r) &&& 31)) &&& 1)) (by omega) (by omega)) gX6_empty_X6_sets rfl hdX6_sets rfl ⟨rfl, rfl⟩ ⟨Nat.le_of_ble_eq_true rfl, Nat.le_of_ble_eq_true rfl⟩ rfl [] rfl (Nat.le_of_ble_eq_true rfl) dX6_empty_95 ⟨Nat.zero_le _, Nat.zero_le _⟩) (fun H locs hP hS => ?_)
                  obtain ⟨v_12, hv_12⟩ : ∃ zz, zz = up (upw (asideM v) 54 (awM (v.1 54) (nI i) r)) 54 (25 + 8 * 5 + r) ((rowM (awM (v.1 54) (nI i) r) r 5) ||| (((nI i) >>> ((nI r) &&& 31)) &&& 1)) := ⟨_, rfl⟩
                  rw [← hv_12] at hP
                  refine lv_iinc (v := nI (r + 1)) (lv' := [(4, .int (nI (r + 1))), (0, .ref (gA g 53)), (1, .int (nI jx)), (2, .int (emM (v.1 54) jx N i)), (3, .int (nI i))]) C.1.1 C.1.2.1 dX6_empty_98 hl (k := 4) rfl (nI_1 r) (by decide) rfl (fun ls hl => ?_)
                  refine lv_goto (tgt := 66) C.1.1 C.1.2.1 dX6_empty_101 (by decide) ?_
                  exact ih_66 (r + 1) (by omega) (by omega) _ _ _ (by rw [hv_12, upw_up] at hP; exact hP) hS (lv_sub hl [1, 2, 3, 4, 0] rfl)
            exact lp_66 (N + 1) 0 (Nat.zero_le _) (by omega) _ _ _ (by rw [show awM (v.1 54) (nI i) 0 = (asideM v).1 54 from (asideM_54 v).symm, upw_self]; exact hP) hS (lv_sub hl [1, 2, 3, 4, 0] rfl)
          · skip
            refine lv_iload_n C.1.1 C.1.2.1 dX6_empty_49 rfl (lv_at hl 3 rfl) ?_
            refine a_F hS (run_S C hP hS hl.1 [.int (nI i)] (kX6_ones l g n (asideM v) (nI i)) gX6_empty_X6_ones hdX6_ones rfl ⟨rfl, rfl⟩ ⟨Nat.le_of_ble_eq_true rfl, Nat.le_of_ble_eq_true rfl⟩ rfl [] rfl (Nat.le_of_ble_eq_true rfl) dX6_empty_50 ⟨Nat.zero_le _, Nat.zero_le _⟩) (fun H locs hP hS => ?_)
            refine lv_iload_n C.1.1 C.1.2.1 dX6_empty_53 rfl (lv_at hl 2 rfl) ?_
            refine a_F hS (run_S C hP hS hl.1 [.int (emM (v.1 54) jx N i)] (kX6_ones l g n (asideM v) (emM (v.1 54) jx N i)) gX6_empty_X6_ones hdX6_ones rfl ⟨rfl, rfl⟩ ⟨Nat.le_of_ble_eq_true rfl, Nat.le_of_ble_eq_true rfl⟩ rfl [.int (onesF (nI i) 12)] rfl (Nat.le_of_ble_eq_true rfl) dX6_empty_54 ⟨Nat.zero_le _, Nat.zero_le _⟩) (fun H locs hP hS => ?_)
            refine lv_icmp_lt (tgt := 63) C.1.1 C.1.2.1 dX6_empty_57 (by decide) (fun c_13 => ?_) (fun c_13 => ?_)
            · skip
              refine lv_iconst (v := 0) C.1.1 C.1.2.1 dX6_empty_63 rfl ?_
              refine lv_istore (lv' := [(4, .int 0), (0, .ref (gA g 53)), (1, .int (nI jx)), (2, .int (emM (v.1 54) jx N i)), (3, .int (nI i))]) C.1.1 C.1.2.1 dX6_empty_64 hl (by decide) rfl (fun ls hl => ?_)
              have lp_66 : ∀ (k_66 r : Nat), r ≤ N → N + 1 ≤ r + k_66 → ∀ (H : Heap) (locs : List Loc) (ls : Array Slot), va_P g.1 vwCl (wl g n (upw (asideM v) 54 (awM (v.1 54) (nI i) r))) H → va_S (wA g n) s.heap H locs → lv_has ls 5 [(0, .ref (gA g 53)), (1, .int (nI jx)), (2, .int (emM (v.1 54) jx N i)), (3, .int (nI i)), (4, .int (nI r))] → W p l e rmX6_empty s m args below meth c H locs 0 0 (MQ below (QF g n ((emptyM v (nI jx)).1) ((emptyM v (nI jx)).2)) args s 0 0 (wA g n)) (F0 m 66 ls []) := by
                clear hP hS hl
                intro k_66
                induction k_66 with
                | zero => exact fun r h1 h2 => absurd h2 (by omega)
                | succ k_66 ih_66 =>
                  intro r hi_66 hk_66 H locs ls hP hS hl
                  refine lv_iload C.1.1 C.1.2.1 dX6_empty_66 (lv_at hl 4 rfl) ?_
                  refine lv_aload_n C.1.1 C.1.2.1 dX6_empty_68 rfl (lv_at hl 0 rfl) ?_
                  refine r_get C hP 53 6 (Nat.lt_of_lt_of_le (by decide) hn) rfl (by decide) rfl hi6 0 (by decide) (List.mem_of_getElem? (i := 2) rfl) rfl (val := .ref (gA g 54)) rfl dX6_empty_69 ?_
                  refine lv_iconst (v := 0) C.1.1 C.1.2.1 dX6_empty_72 rfl ?_
                  refine r_iald C hP 54 (Nat.lt_of_lt_of_le (by decide) hn) rfl 0 rfl (N := 83) rfl (by decide) (by omega) dX6_empty_73 ?_
                  refine lv_topE (nI N) (by rw [upw_same, awM_lo (by decide)]; exact hM.2.1) ?_
                  refine lv_icmp_ge (tgt := 104) C.1.1 C.1.2.1 dX6_empty_74 (by decide) (fun c_14 => ?_) (fun c_14 => ?_)
                  · rw [show (nI N ≤ nI r) = (N ≤ r) from propext (nI_leI (a := N) (b := r) (by omega) (by omega))] at c_14
                    have hrN : r = N := by omega
                    rw [hrN] at hl hP
                    refine lv_aload_n C.1.1 C.1.2.1 dX6_empty_104 rfl (lv_at hl 0 rfl) ?_
                    refine lv_iload_n C.1.1 C.1.2.1 dX6_empty_105 rfl (lv_at hl 1 rfl) ?_
                    refine lv_bipush (v := 6) C.1.1 C.1.2.1 dX6_empty_106 rfl ?_
                    refine a_F hS (run_V C hP hS hl.1 53 6 (Nat.lt_of_lt_of_le (by decide) hn) rfl (by decide) rfl [.int (nI jx), .int 6] (kX6_behind l g n (upw (asideM v) 54 (awM (v.1 54) (nI i) N)) jx 6 (by omega) (by omega) N (by rw [upw_same]; exact okM_aw hM (Nat.le_refl N))) gX6_empty_X6_behind rfl hdX6_behind rfl ⟨rfl, rfl⟩ ⟨Nat.le_of_ble_eq_true rfl, Nat.le_of_ble_eq_true rfl⟩ rfl [] rfl (Nat.le_of_ble_eq_true rfl) dX6_empty_108 ⟨Nat.zero_le _, Nat.zero_le _⟩) (fun H locs hP hS => ?_)
                    obtain ⟨v_15, hv_15⟩ : ∃ zz, zz = upw (upw (asideM v) 54 (awM (v.1 54) (nI i) N)) 54 (cpyM ((upw (asideM v) 54 (awM (v.1 54) (nI i) N)).1 56) (daysM ((upw (asideM v) 54 (awM (v.1 54) (nI i) N)).1 54) jx) 83) := ⟨_, rfl⟩
                    rw [← hv_15] at hP
                    refine lv_topE (daysM (awM (v.1 54) (nI i) N) jx 6) (by rw [upw_same]) ?_
                    rw [show v_15 = asideM v from by rw [hv_15]; exact restoreC (fun j hj => by rw [daysM_hi (okM_aw hM (Nat.le_refl N)) hj]; exact awM_hi hj h8)] at hP
                    refine lv_aload_n C.1.1 C.1.2.1 dX6_empty_111 rfl (lv_at hl 0 rfl) ?_
                    refine r_get C hP 53 6 (Nat.lt_of_lt_of_le (by decide) hn) rfl (by decide) rfl hi6 0 (by decide) (List.mem_of_getElem? (i := 2) rfl) rfl (val := .ref (gA g 54)) rfl dX6_empty_112 ?_
                    refine lv_bipush (v := 6) C.1.1 C.1.2.1 dX6_empty_115 rfl ?_
                    refine r_iald C hP 54 (Nat.lt_of_lt_of_le (by decide) hn) rfl 6 rfl (N := 83) rfl (by decide) (by omega) dX6_empty_117 ?_
                    refine lv_topE (v.1 54 6) (by rw [asideM_54]) ?_
                    have jn_16 : ∀ (H : Heap) (locs : List Loc) (ls : Array Slot), va_P g.1 vwCl (wl g n (asideM v)) H → va_S (wA g n) s.heap H locs → lv_has ls 5 [(0, .ref (gA g 53)), (1, .int (nI jx)), (2, .int (emM (v.1 54) jx N i)), (3, .int (nI i)), (4, .int (nI (N)))] → W p l e rmX6_empty s m args below meth c H locs 0 0 (MQ below (QF g n ((emptyM v (nI jx)).1) ((emptyM v (nI jx)).2)) args s 0 0 (wA g n)) (F0 m 126 ls [.int (if (daysM (awM (v.1 54) (nI i) N) jx 6) = (v.1 54 6) then nI i else emM (v.1 54) jx N i)]) := by
                      clear hP hS hl
                      intro H locs ls hP hS hl
                      refine lv_istore_n (lv' := [(2, .int (if (daysM (awM (v.1 54) (nI i) N) jx 6) = (v.1 54 6) then nI i else emM (v.1 54) jx N i)), (0, .ref (gA g 53)), (1, .int (nI jx)), (3, .int (nI i)), (4, .int (nI (N)))]) C.1.1 C.1.2.1 dX6_empty_126 rfl hl (by decide) rfl (fun ls hl => ?_)
                      refine lv_iinc (v := nI (i + 1)) (lv' := [(3, .int (nI (i + 1))), (2, .int (if (daysM (awM (v.1 54) (nI i) N) jx 6) = (v.1 54 6) then nI i else emM (v.1 54) jx N i)), (0, .ref (gA g 53)), (1, .int (nI jx)), (4, .int (nI (N)))]) C.1.1 C.1.2.1 dX6_empty_127 hl (k := 3) rfl (nI_1 i) (by decide) rfl (fun ls hl => ?_)
                      refine lv_goto (tgt := 33) C.1.1 C.1.2.1 dX6_empty_130 (by decide) ?_
                      exact ih_33 (i + 1) (by omega) (by omega) _ _ _ hP hS (by have h9 := lv_sub hl [2, 3, 1, 0] rfl; rw [show emM (v.1 54) jx N (i + 1) = _ from emM_go (by first | exact Or.inl c_13 | exact Or.inr c_13)]; exact h9)
                    refine lv_icmp_ne (tgt := 125) C.1.1 C.1.2.1 dX6_empty_118 (by decide) (fun c_17 => ?_) (fun c_17 => ?_)
                    · skip
                      refine lv_iload_n C.1.1 C.1.2.1 dX6_empty_125 rfl (lv_at hl 2 rfl) ?_
                      exact lv_topE (if (daysM (awM (v.1 54) (nI i) N) jx 6) = (v.1 54 6) then nI i else emM (v.1 54) jx N i) (by rw [if_neg c_17]) (jn_16 _ _ _ hP hS (lv_sub hl [0, 1, 2, 3, 4] rfl))
                    · skip
                      refine lv_iload_n C.1.1 C.1.2.1 dX6_empty_121 rfl (lv_at hl 3 rfl) ?_
                      refine lv_goto (tgt := 126) C.1.1 C.1.2.1 dX6_empty_122 (by decide) ?_
                      exact lv_topE (if (daysM (awM (v.1 54) (nI i) N) jx 6) = (v.1 54 6) then nI i else emM (v.1 54) jx N i) (by rw [if_pos c_17]) (jn_16 _ _ _ hP hS (lv_sub hl [0, 1, 2, 3, 4] rfl))
                  · rw [show (nI N ≤ nI r) = (N ≤ r) from propext (nI_leI (a := N) (b := r) (by omega) (by omega))] at c_14
                    refine lv_aload_n C.1.1 C.1.2.1 dX6_empty_77 rfl (lv_at hl 0 rfl) ?_
                    refine lv_iload C.1.1 C.1.2.1 dX6_empty_78 (lv_at hl 4 rfl) ?_
                    refine lv_iconst (v := 5) C.1.1 C.1.2.1 dX6_empty_80 rfl ?_
                    refine lv_aload_n C.1.1 C.1.2.1 dX6_empty_81 rfl (lv_at hl 0 rfl) ?_
                    refine lv_iload C.1.1 C.1.2.1 dX6_empty_82 (lv_at hl 4 rfl) ?_
                    refine lv_iconst (v := 5) C.1.1 C.1.2.1 dX6_empty_84 rfl ?_
                    refine a_F hS (run_V C hP hS hl.1 53 6 (Nat.lt_of_lt_of_le (by decide) hn) rfl (by decide) rfl [.int (nI r), .int 5] (kX6_its l g n (upw (asideM v) 54 (awM (v.1 54) (nI i) r)) r 5 (by omega) (by omega)) gX6_empty_X6_its rfl hdX6_its rfl ⟨rfl, rfl⟩ ⟨Nat.le_of_ble_eq_true rfl, Nat.le_of_ble_eq_true rfl⟩ rfl [.int 5, .int (nI r), .ref (gA g 53)] rfl (Nat.le_of_ble_eq_true rfl) dX6_empty_85 ⟨Nat.zero_le _, Nat.zero_le _⟩) (fun H locs hP hS => ?_)
                    refine lv_topE (rowM (awM (v.1 54) (nI i) r) r 5) (by rw [upw_same]) ?_
                    refine lv_iload_n C.1.1 C.1.2.1 dX6_empty_88 rfl (lv_at hl 3 rfl) ?_
                    refine lv_iload C.1.1 C.1.2.1 dX6_empty_89 (lv_at hl 4 rfl) ?_
                    refine lv_ishr C.1.1 C.1.2.1 dX6_empty_91 ?_
                    refine lv_iconst (v := 1) C.1.1 C.1.2.1 dX6_empty_92 rfl ?_
                    refine lv_iand C.1.1 C.1.2.1 dX6_empty_93 ?_
                    refine lv_ior C.1.1 C.1.2.1 dX6_empty_94 ?_
                    refine a_G hS (run_V C hP hS hl.1 53 6 (Nat.lt_of_lt_of_le (by decide) hn) rfl (by decide) rfl [.int (nI r), .int 5, .int ((rowM (awM (v.1 54) (nI i) r) r 5) ||| (((nI i) >>> ((nI r) &&& 31)) &&& 1))] (kX6_sets l g n (upw (asideM v) 54 (awM (v.1 54) (nI i) r)) r 5 ((rowM (awM (v.1 54) (nI i) r) r 5) ||| (((nI i) >>> ((nI r) &&& 31)) &&& 1)) (by omega) (by omega)) gX6_empty_X6_sets rfl hdX6_sets rfl ⟨rfl, rfl⟩ ⟨Nat.le_of_ble_eq_true rfl, Nat.le_of_ble_eq_true rfl⟩ rfl [] rfl (Nat.le_of_ble_eq_true rfl) dX6_empty_95 ⟨Nat.zero_le _, Nat.zero_le _⟩) (fun H locs hP hS => ?_)
                    obtain ⟨v_18, hv_18⟩ : ∃ zz, zz = up (upw (asideM v) 54 (awM (v.1 54) (nI i) r)) 54 (25 + 8 * 5 + r) ((rowM (awM (v.1 54) (nI i) r) r 5) ||| (((nI i) >>> ((nI r) &&& 31)) &&& 1)) := ⟨_, rfl⟩
                    rw [← hv_18] at hP
                    refine lv_iinc (v := nI (r + 1)) (lv' := [(4, .int (nI (r + 1))), (0, .ref (gA g 53)), (1, .int (nI jx)), (2, .int (emM (v.1 54) jx N i)), (3, .int (nI i))]) C.1.1 C.1.2.1 dX6_empty_98 hl (k := 4) rfl (nI_1 r) (by decide) rfl (fun ls hl => ?_)
                    refine lv_goto (tgt := 66) C.1.1 C.1.2.1 dX6_empty_101 (by decide) ?_
                    exact ih_66 (r + 1) (by omega) (by omega) _ _ _ (by rw [hv_18, upw_up] at hP; exact hP) hS (lv_sub hl [1, 2, 3, 4, 0] rfl)
              exact lp_66 (N + 1) 0 (Nat.zero_le _) (by omega) _ _ _ (by rw [show awM (v.1 54) (nI i) 0 = (asideM v).1 54 from (asideM_54 v).symm, upw_self]; exact hP) hS (lv_sub hl [1, 2, 3, 4, 0] rfl)
            · skip
              refine lv_goto (tgt := 127) C.1.1 C.1.2.1 dX6_empty_60 (by decide) ?_
              refine lv_iinc (v := nI (i + 1)) (lv' := [(3, .int (nI (i + 1))), (0, .ref (gA g 53)), (1, .int (nI jx)), (2, .int (emM (v.1 54) jx N i))]) C.1.1 C.1.2.1 dX6_empty_127 hl (k := 3) rfl (nI_1 i) (by decide) rfl (fun ls hl => ?_)
              refine lv_goto (tgt := 33) C.1.1 C.1.2.1 dX6_empty_130 (by decide) ?_
              exact ih_33 (i + 1) (by omega) (by omega) _ _ _ hP hS (by have h9 := lv_sub hl [1, 2, 3, 0] rfl; rw [show emM (v.1 54) jx N (i + 1) = _ from emM_skip c_7 c_13]; exact h9)
    exact lp_33 (M + 1) 0 (Nat.zero_le _) (by omega) _ _ _ hP hS (lv_sub hl [2, 3, 1, 0] rfl)
  · skip
    have b_1 := fun h => b_1 ((in_iff 21 (by decide) (by decide)).mpr h)
    refine lv_if_ne (tgt := 18) C.1.1 C.1.2.1 dX6_empty_9 (by decide) (fun c_19 => absurd c_19 (by decide)) (fun _ => ?_)
    refine lv_aload_n C.1.1 C.1.2.1 dX6_empty_12 rfl (lv_at hl 0 rfl) ?_
    refine lv_iconst (v := 0) C.1.1 C.1.2.1 dX6_empty_13 rfl ?_
    refine a_F hS (run_V C hP hS hl.1 53 6 (Nat.lt_of_lt_of_le (by decide) hn) rfl (by decide) rfl [.int 0] (kX6_finds l g n v 0 (by decide)) gX6_empty_X6_finds rfl hdX6_finds rfl ⟨rfl, rfl⟩ ⟨Nat.le_of_ble_eq_true rfl, Nat.le_of_ble_eq_true rfl⟩ rfl [] rfl (Nat.le_of_ble_eq_true rfl) dX6_empty_14 ⟨Nat.zero_le _, Nat.zero_le _⟩) (fun H locs hP hS => ?_)
    obtain ⟨v_20, hv_20⟩ : ∃ zz, zz = fnd v 0 := ⟨_, rfl⟩
    rw [← hv_20] at hP
    exact t_F C rfl hP hS (by (rw [emptyM, nM_eq hM]; rw [cif_neg b_1]) <;> try simp only [fdM, upw_same, eq_self, if_true, if_false, ite_true, ite_false, ↓reduceIte, hv_20, nM_eq hM]) (by (rw [emptyM, nM_eq hM]; rw [cif_neg b_1]) <;> try simp only [fdM, upw_same, eq_self, if_true, if_false, ite_true, ite_false, ↓reduceIte, hv_20, nM_eq hM]) dX6_empty_17

