abbrev rmX6_hawk : Room := { frames := 4, cells := 0, slots := 0, locals := 90 }
set_option maxHeartbeats 4000000 in
set_option maxRecDepth 100000 in
theorem kX6_hawk (l : Launch) (g : GG) (n : Nat) (v : SV) (x : Int32) (N : Nat) (hM : okM (v.1 54) N) : Met l yX6_hawk wsX6_hawk rmX6_hawk (PW g n v [.ref (gA g 53), .int x]) (QF g n ((hawkM v x).1) ((hawkM v x).2)) 0 0 (wA g n) := by
  refine Met.begin RX6 rfl (by decide) rfl (Nat.le_of_ble_eq_true rfl) ?_
  intro p e s m args below meth c ls ha C hP hS hl
  have hn : 64 ≤ n := C.2.1.1.2.1
  have hi6 : ∀ w ∈ u_ws RX6 TX6 17, w ∈ wsX6_hawk := by decide +kernel
  have hl : lv_has ls 3 [(0, .ref (gA g 53)), (1, .int x)] := hl
  have h8 := hM.1
  obtain ⟨D, hD, eD⟩ := hM.2.2.1
  refine lv_iload_n C.1.1 C.1.2.1 dX6_hawk_0 rfl (lv_at hl 1 rfl) ?_
  refine lv_i2l (v := x.toInt64) C.1.1 C.1.2.1 dX6_hawk_1 rfl ?_
  refine lv_lconst (v := 1) C.1.1 C.1.2.1 dX6_hawk_2 rfl ?_
  refine lv_ldc2 (v := 20) C.1.1 C.1.2.1 C.1.2.2.2.1 (C.1.2.2.2.2 _ (List.mem_of_getElem? (i := 1) rfl)) dX6_hawk_3 ?_
  refine a_B hS (run_S C hP hS hl.1 [.long x.toInt64, .long 1, .long 20] (kX6_in l g n v x.toInt64 1 20) gX6_hawk_X6_in hdX6_in rfl ⟨rfl, rfl⟩ ⟨Nat.le_of_ble_eq_true rfl, Nat.le_of_ble_eq_true rfl⟩ rfl [] rfl (Nat.le_of_ble_eq_true rfl) dX6_hawk_6 ⟨Nat.zero_le _, Nat.zero_le _⟩) (fun b_1 H locs hP hS => ?_) (fun b_1 H locs hP hS => ?_)
  · skip
    have b_1 := (in_iff2 1 21 (by decide) (by decide) (by decide)).mp b_1
    obtain ⟨jx, hljx, hjx, rfl⟩ := b_1
    refine lv_if_ne (tgt := 18) C.1.1 C.1.2.1 dX6_hawk_9 (by decide) (fun _ => ?_) (fun c_2 => absurd c_2 (by decide))
    refine lv_aload_n C.1.1 C.1.2.1 dX6_hawk_18 rfl (lv_at hl 0 rfl) ?_
    refine r_get C hP 53 6 (Nat.lt_of_lt_of_le (by decide) hn) rfl (by decide) rfl hi6 0 (by decide) (List.mem_of_getElem? (i := 2) rfl) rfl (val := .ref (gA g 54)) rfl dX6_hawk_19 ?_
    refine lv_iconst (v := 1) C.1.1 C.1.2.1 dX6_hawk_22 rfl ?_
    refine r_iald C hP 54 (Nat.lt_of_lt_of_le (by decide) hn) rfl 1 rfl (N := 83) rfl (by decide) (by omega) dX6_hawk_23 ?_
    refine lv_topE (nI D) eD ?_
    refine lv_iload_n C.1.1 C.1.2.1 dX6_hawk_24 rfl (lv_at hl 1 rfl) ?_
    refine lv_iadd C.1.1 C.1.2.1 dX6_hawk_25 ?_
    refine lv_topE (nI (D + jx)) (nI_add D jx) ?_
    refine lv_ldc (v := 99999) C.1.1 C.1.2.1 C.1.2.2.2.1 (C.1.2.2.2.2 _ (List.mem_of_getElem? (i := 3) rfl)) dX6_hawk_26 ?_
    refine lv_icmp_le (tgt := 37) C.1.1 C.1.2.1 dX6_hawk_28 (by decide) (fun c_3 => ?_) (fun c_3 => ?_)
    · rw [show (nI (D + jx) ≤ 99999) = (D + jx ≤ 99999) from propext (nI_leI (a := D + jx) (b := 99999) (by omega) (by omega))] at c_3
      refine lv_iconst (v := 0) C.1.1 C.1.2.1 dX6_hawk_37 rfl ?_
      refine lv_istore_n (lv' := [(2, .int 0), (0, .ref (gA g 53)), (1, .int (nI jx))]) C.1.1 C.1.2.1 dX6_hawk_38 rfl hl (by decide) rfl (fun ls hl => ?_)
      have lp_39 : ∀ (k_39 i : Nat), i ≤ jx → jx + 1 ≤ i + k_39 → ∀ (H : Heap) (locs : List Loc) (ls : Array Slot), va_P g.1 vwCl (wl g n (upw v 54 (hkM (v.1 54) i))) H → va_S (wA g n) s.heap H locs → lv_has ls 3 [(0, .ref (gA g 53)), (1, .int (nI jx)), (2, .int (nI i))] → W p l e rmX6_hawk s m args below meth c H locs 0 0 (MQ below (QF g n ((hawkM v (nI jx)).1) ((hawkM v (nI jx)).2)) args s 0 0 (wA g n)) (F0 m 39 ls []) := by
        clear hP hS hl
        intro k_39
        induction k_39 with
        | zero => exact fun i h1 h2 => absurd h2 (by omega)
        | succ k_39 ih_39 =>
          intro i hi_39 hk_39 H locs ls hP hS hl
          have hMi := okM_hk hM i
          obtain ⟨dd, hdd⟩ : ∃ zz, zz = hkM (v.1 54) i := ⟨_, rfl⟩
          rw [← hdd] at hP hMi
          obtain ⟨Di, hDi, eDi⟩ := hMi.2.2.1
          refine lv_iload_n C.1.1 C.1.2.1 dX6_hawk_39 rfl (lv_at hl 2 rfl) ?_
          refine lv_iload_n C.1.1 C.1.2.1 dX6_hawk_40 rfl (lv_at hl 1 rfl) ?_
          refine lv_icmp_ge (tgt := 91) C.1.1 C.1.2.1 dX6_hawk_41 (by decide) (fun c_4 => ?_) (fun c_4 => ?_)
          · rw [show (nI jx ≤ nI i) = (jx ≤ i) from propext (nI_leI (a := jx) (b := i) (by omega) (by omega))] at c_4
            have hix : i = jx := by omega
            refine lv_aload_n C.1.1 C.1.2.1 dX6_hawk_91 rfl (lv_at hl 0 rfl) ?_
            refine r_get C hP 53 6 (Nat.lt_of_lt_of_le (by decide) hn) rfl (by decide) rfl hi6 0 (by decide) (List.mem_of_getElem? (i := 2) rfl) rfl (val := .ref (gA g 54)) rfl dX6_hawk_92 ?_
            refine lv_bipush (v := 6) C.1.1 C.1.2.1 dX6_hawk_95 rfl ?_
            refine r_iald C hP 54 (Nat.lt_of_lt_of_le (by decide) hn) rfl 6 rfl (N := 83) rfl (by decide) (by omega) dX6_hawk_97 ?_
            refine lv_topE (dd 6) rfl ?_
            exact t_F C rfl hP hS (by rw [hawkM, cif_pos ⟨jx, hljx, hjx, rfl⟩, eD, tn_nI (show D < 2 ^ 31 by omega), tn_nI (show jx < 2 ^ 31 by omega), if_pos c_3, ← hix, ← hdd]) (by rw [hawkM, cif_pos ⟨jx, hljx, hjx, rfl⟩, eD, tn_nI (show D < 2 ^ 31 by omega), tn_nI (show jx < 2 ^ 31 by omega), if_pos c_3, ← hix, ← hdd]) dX6_hawk_98
          · rw [show (nI jx ≤ nI i) = (jx ≤ i) from propext (nI_leI (a := jx) (b := i) (by omega) (by omega))] at c_4
            refine lv_aload_n C.1.1 C.1.2.1 dX6_hawk_44 rfl (lv_at hl 0 rfl) ?_
            refine r_get C hP 53 6 (Nat.lt_of_lt_of_le (by decide) hn) rfl (by decide) rfl hi6 0 (by decide) (List.mem_of_getElem? (i := 2) rfl) rfl (val := .ref (gA g 54)) rfl dX6_hawk_45 ?_
            refine lv_bipush (v := 7) C.1.1 C.1.2.1 dX6_hawk_48 rfl ?_
            refine lv_aload_n C.1.1 C.1.2.1 dX6_hawk_50 rfl (lv_at hl 0 rfl) ?_
            refine r_get C hP 53 6 (Nat.lt_of_lt_of_le (by decide) hn) rfl (by decide) rfl hi6 0 (by decide) (List.mem_of_getElem? (i := 2) rfl) rfl (val := .ref (gA g 54)) rfl dX6_hawk_51 ?_
            refine lv_iconst (v := 1) C.1.1 C.1.2.1 dX6_hawk_54 rfl ?_
            refine r_iald C hP 54 (Nat.lt_of_lt_of_le (by decide) hn) rfl 1 rfl (N := 83) rfl (by decide) (by omega) dX6_hawk_55 ?_
            refine lv_topE (dd 1) rfl ?_
            refine lv_topE (nI Di) eDi ?_
            refine lv_bipush (v := 6) C.1.1 C.1.2.1 dX6_hawk_56 rfl ?_
            refine lv_irem C.1.1 C.1.2.1 dX6_hawk_58 (by decide) ?_
            refine lv_topE (nI (Di % 6)) (pk_rem (by omega) (by decide) (by decide)) ?_
            refine lv_iadd C.1.1 C.1.2.1 dX6_hawk_59 ?_
            refine lv_topE (nI (7 + (Di % 6))) (nI_add 7 (Di % 6)) ?_
            refine lv_aload_n C.1.1 C.1.2.1 dX6_hawk_60 rfl (lv_at hl 0 rfl) ?_
            refine a_F hS (run_V C hP hS hl.1 53 6 (Nat.lt_of_lt_of_le (by decide) hn) rfl (by decide) rfl [] (kX6_draw l g n (upw v 54 dd) ) gX6_hawk_X6_draw rfl hdX6_draw rfl ⟨rfl, rfl⟩ ⟨Nat.le_of_ble_eq_true rfl, Nat.le_of_ble_eq_true rfl⟩ rfl [.int (nI (7 + (Di % 6))), .ref (gA g 54)] rfl (Nat.le_of_ble_eq_true rfl) dX6_hawk_61 ⟨Nat.zero_le _, Nat.zero_le _⟩) (fun H locs hP hS => ?_)
            obtain ⟨d_5, hd_5⟩ : ∃ zz, zz = upd dd 2 (lcgF (dd 2)) := ⟨_, rfl⟩
            rw [show up (upw v 54 dd) 54 2 (lcgF ((upw v 54 dd).1 54 2)) = upw v 54 d_5 from by rw [hd_5]; exact upw_up _ _ _ _ _] at hP
            refine lv_topE (ushF (lcgF (dd 2)) 8) rfl ?_
            refine lv_bipush (v := 12) C.1.1 C.1.2.1 dX6_hawk_64 rfl ?_
            refine lv_irem C.1.1 C.1.2.1 dX6_hawk_66 (by decide) ?_
            refine lv_topE (nI (uq (lcgF (dd 2)) % 12)) (by rw [uq_eq]; exact pk_rem (Nat.lt_trans (uq_lt _) (by decide)) (by decide) (by decide)) ?_
            refine r_iast C hP hS 54 (Nat.lt_of_lt_of_le (by decide) hn) rfl (7 + (Di % 6)) rfl (N := 83) rfl (by decide) (by omega) dX6_hawk_67 (fun H locs hP hS => ?_)
            obtain ⟨d_6, hd_6⟩ : ∃ zz, zz = upd d_5 (7 + (Di % 6)) (nI (uq (lcgF (dd 2)) % 12)) := ⟨_, rfl⟩
            rw [show up (upw v 54 d_5) 54 (7 + (Di % 6)) (nI (uq (lcgF (dd 2)) % 12)) = upw v 54 d_6 from by rw [hd_6]; exact upw_up _ _ _ _ _] at hP
            refine lv_aload_n C.1.1 C.1.2.1 dX6_hawk_68 rfl (lv_at hl 0 rfl) ?_
            refine r_get C hP 53 6 (Nat.lt_of_lt_of_le (by decide) hn) rfl (by decide) rfl hi6 0 (by decide) (List.mem_of_getElem? (i := 2) rfl) rfl (val := .ref (gA g 54)) rfl dX6_hawk_69 ?_
            refine lv_iconst (v := 5) C.1.1 C.1.2.1 dX6_hawk_72 rfl ?_
            refine lv_aload_n C.1.1 C.1.2.1 dX6_hawk_73 rfl (lv_at hl 0 rfl) ?_
            refine a_F hS (run_V C hP hS hl.1 53 6 (Nat.lt_of_lt_of_le (by decide) hn) rfl (by decide) rfl [] (kX6_draw l g n (upw v 54 d_6) ) gX6_hawk_X6_draw rfl hdX6_draw rfl ⟨rfl, rfl⟩ ⟨Nat.le_of_ble_eq_true rfl, Nat.le_of_ble_eq_true rfl⟩ rfl [.int 5, .ref (gA g 54)] rfl (Nat.le_of_ble_eq_true rfl) dX6_hawk_74 ⟨Nat.zero_le _, Nat.zero_le _⟩) (fun H locs hP hS => ?_)
            obtain ⟨d_7, hd_7⟩ : ∃ zz, zz = upd d_6 2 (lcgF (d_6 2)) := ⟨_, rfl⟩
            rw [show up (upw v 54 d_6) 54 2 (lcgF ((upw v 54 d_6).1 54 2)) = upw v 54 d_7 from by rw [hd_7]; exact upw_up _ _ _ _ _] at hP
            refine lv_topE (ushF (lcgF (d_6 2)) 8) rfl ?_
            refine lv_bipush (v := 10) C.1.1 C.1.2.1 dX6_hawk_77 rfl ?_
            refine lv_irem C.1.1 C.1.2.1 dX6_hawk_79 (by decide) ?_
            refine lv_topE (nI (uq (lcgF (d_6 2)) % 10)) (by rw [uq_eq]; exact pk_rem (Nat.lt_trans (uq_lt _) (by decide)) (by decide) (by decide)) ?_
            refine r_iast C hP hS 54 (Nat.lt_of_lt_of_le (by decide) hn) rfl 5 rfl (N := 83) rfl (by decide) (by omega) dX6_hawk_80 (fun H locs hP hS => ?_)
            obtain ⟨d_8, hd_8⟩ : ∃ zz, zz = upd d_7 5 (nI (uq (lcgF (d_6 2)) % 10)) := ⟨_, rfl⟩
            rw [show up (upw v 54 d_7) 54 5 (nI (uq (lcgF (d_6 2)) % 10)) = upw v 54 d_8 from by rw [hd_8]; exact upw_up _ _ _ _ _] at hP
            have okHK : okM d_8 N := by rw [hd_8, hd_7, hd_6, hd_5]; exact okM_at (okM_at (okM_list (okM_at hMi (by decide) (Or.inl (by decide))) (Nat.mod_lt _ (by decide)) (Nat.mod_lt _ (by decide))) (by decide) (Or.inl (by decide))) (by decide) (Or.inl (by decide))
            refine lv_aload_n C.1.1 C.1.2.1 dX6_hawk_81 rfl (lv_at hl 0 rfl) ?_
            refine a_G hS (run_V C hP hS hl.1 53 6 (Nat.lt_of_lt_of_le (by decide) hn) rfl (by decide) rfl [] (kX6_dayGoes l g n (upw v 54 d_8) N (by rw [upw_same]; exact okHK)) gX6_hawk_X6_dayGoes rfl hdX6_dayGoes rfl ⟨rfl, rfl⟩ ⟨Nat.le_of_ble_eq_true rfl, Nat.le_of_ble_eq_true rfl⟩ rfl [] rfl (Nat.le_of_ble_eq_true rfl) dX6_hawk_82 ⟨Nat.zero_le _, Nat.zero_le _⟩) (fun H locs hP hS => ?_)
            obtain ⟨v_9, hv_9⟩ : ∃ zz, zz = upw (upw v 54 d_8) 54 (dayM ((upw v 54 d_8).1 54)) := ⟨_, rfl⟩
            rw [← hv_9] at hP
            have ehk : dayM d_8 = hkM (v.1 54) (i + 1) := by rw [hkM, ← hdd, hkS, eDi, tn_nI (show Di < 2 ^ 31 by omega), hd_8, hd_7, hd_6, hd_5]
            rw [show v_9 = upw v 54 (hkM (v.1 54) (i + 1)) from by rw [hv_9, upw_same, upw_upw, ehk]] at hP
            refine lv_iinc (v := nI (i + 1)) (lv' := [(2, .int (nI (i + 1))), (0, .ref (gA g 53)), (1, .int (nI jx))]) C.1.1 C.1.2.1 dX6_hawk_85 hl (k := 2) rfl (nI_1 i) (by decide) rfl (fun ls hl => ?_)
            refine lv_goto (tgt := 39) C.1.1 C.1.2.1 dX6_hawk_88 (by decide) ?_
            exact ih_39 (i + 1) (by omega) (by omega) _ _ _ hP hS (lv_sub hl [1, 2, 0] rfl)
      exact lp_39 (jx + 1) 0 (Nat.zero_le _) (by omega) _ _ _ (by rw [show hkM (v.1 54) 0 = v.1 54 from rfl, upw_self]; exact hP) hS (lv_sub hl [1, 2, 0] rfl)
    · rw [show (nI (D + jx) ≤ 99999) = (D + jx ≤ 99999) from propext (nI_leI (a := D + jx) (b := 99999) (by omega) (by omega))] at c_3
      refine lv_aload_n C.1.1 C.1.2.1 dX6_hawk_31 rfl (lv_at hl 0 rfl) ?_
      refine lv_iconst (v := 4) C.1.1 C.1.2.1 dX6_hawk_32 rfl ?_
      refine a_F hS (run_V C hP hS hl.1 53 6 (Nat.lt_of_lt_of_le (by decide) hn) rfl (by decide) rfl [.int 4] (kX6_finds l g n v 4 (by decide)) gX6_hawk_X6_finds rfl hdX6_finds rfl ⟨rfl, rfl⟩ ⟨Nat.le_of_ble_eq_true rfl, Nat.le_of_ble_eq_true rfl⟩ rfl [] rfl (Nat.le_of_ble_eq_true rfl) dX6_hawk_33 ⟨Nat.zero_le _, Nat.zero_le _⟩) (fun H locs hP hS => ?_)
      obtain ⟨v_10, hv_10⟩ : ∃ zz, zz = fnd v 4 := ⟨_, rfl⟩
      rw [← hv_10] at hP
      exact t_F C rfl hP hS (by (rw [hawkM]; rw [cif_pos ⟨jx, hljx, hjx, rfl⟩]) <;> try simp only [fdM, upw_same, eq_self, if_true, if_false, ite_true, ite_false, ↓reduceIte, c_3, tn_nI (show jx < 2 ^ 31 by omega), hv_10, eD, tn_nI (show D < 2 ^ 31 by omega)]) (by (rw [hawkM]; rw [cif_pos ⟨jx, hljx, hjx, rfl⟩]) <;> try simp only [fdM, upw_same, eq_self, if_true, if_false, ite_true, ite_false, ↓reduceIte, c_3, tn_nI (show jx < 2 ^ 31 by omega), hv_10, eD, tn_nI (show D < 2 ^ 31 by omega)]) dX6_hawk_36
  · skip
    have b_1 := fun h => b_1 ((in_iff2 1 21 (by decide) (by decide) (by decide)).mpr h)
    refine lv_if_ne (tgt := 18) C.1.1 C.1.2.1 dX6_hawk_9 (by decide) (fun c_11 => absurd c_11 (by decide)) (fun _ => ?_)
    refine lv_aload_n C.1.1 C.1.2.1 dX6_hawk_12 rfl (lv_at hl 0 rfl) ?_
    refine lv_iconst (v := 0) C.1.1 C.1.2.1 dX6_hawk_13 rfl ?_
    refine a_F hS (run_V C hP hS hl.1 53 6 (Nat.lt_of_lt_of_le (by decide) hn) rfl (by decide) rfl [.int 0] (kX6_finds l g n v 0 (by decide)) gX6_hawk_X6_finds rfl hdX6_finds rfl ⟨rfl, rfl⟩ ⟨Nat.le_of_ble_eq_true rfl, Nat.le_of_ble_eq_true rfl⟩ rfl [] rfl (Nat.le_of_ble_eq_true rfl) dX6_hawk_14 ⟨Nat.zero_le _, Nat.zero_le _⟩) (fun H locs hP hS => ?_)
    obtain ⟨v_12, hv_12⟩ : ∃ zz, zz = fnd v 0 := ⟨_, rfl⟩
    rw [← hv_12] at hP
    exact t_F C rfl hP hS (by (rw [hawkM]; rw [cif_neg b_1]) <;> try simp only [fdM, upw_same, eq_self, if_true, if_false, ite_true, ite_false, ↓reduceIte, hv_12, eD, tn_nI (show D < 2 ^ 31 by omega)]) (by (rw [hawkM]; rw [cif_neg b_1]) <;> try simp only [fdM, upw_same, eq_self, if_true, if_false, ite_true, ite_false, ↓reduceIte, hv_12, eD, tn_nI (show D < 2 ^ 31 by omega)]) dX6_hawk_17

abbrev rmX6_common : Room := { frames := 0, cells := 0, slots := 0, locals := 0 }
set_option maxHeartbeats 4000000 in
set_option maxRecDepth 100000 in
theorem kX6_common (l : Launch) (g : GG) (n : Nat) (v : SV) (A : Nat) (hA : A ≤ 12) : Met l yX6_common wsX6_common rmX6_common (PW g n v [.int (nI A), .int 12]) (QF g n (nI (Nat.gcd A 12)) v) 0 0 (wA g n) := by
  refine Met.begin RX6 rfl (by decide) rfl (Nat.le_of_ble_eq_true rfl) ?_
  intro p e s m args below meth c ls ha C hP hS hl
  have h13 : A = 0 ∨ A = 1 ∨ A = 2 ∨ A = 3 ∨ A = 4 ∨ A = 5 ∨ A = 6 ∨ A = 7 ∨ A = 8 ∨ A = 9 ∨ A = 10 ∨ A = 11 ∨ A = 12 := by omega
  rcases h13 with rfl | rfl | rfl | rfl | rfl | rfl | rfl | rfl | rfl | rfl | rfl | rfl | rfl
  · have hl : lv_has ls 5 [(0, .int 0), (1, .int 12)] := hl
    refine lv_iload_n C.1.1 C.1.2.1 dX6_common_0 rfl (lv_at hl 0 rfl) ?_
    refine lv_istore_n (lv' := [(2, .int 0), (0, .int 0), (1, .int 12)]) C.1.1 C.1.2.1 dX6_common_1 rfl hl (by decide) rfl (fun ls hl => ?_)
    refine lv_iload_n C.1.1 C.1.2.1 dX6_common_2 rfl (lv_at hl 2 rfl) ?_
    refine lv_istore_n (lv' := [(3, .int 12), (2, .int 0), (0, .int 0), (1, .int 12)]) C.1.1 C.1.2.1 dX6_common_3 rfl hl (by decide) rfl (fun ls hl => ?_)
    refine lv_iload_n C.1.1 C.1.2.1 dX6_common_4 rfl (lv_at hl 0 rfl) ?_
    refine lv_if_eq (tgt := 21) C.1.1 C.1.2.1 dX6_common_5 (by decide) (fun c_1 => absurd c_1 (by decide)) (fun _ => ?_)
    refine lv_iload_n C.1.1 C.1.2.1 dX6_common_8 rfl (lv_at hl 1 rfl) ?_
    refine lv_iload_n C.1.1 C.1.2.1 dX6_common_9 rfl (lv_at hl 0 rfl) ?_
    refine lv_irem C.1.1 C.1.2.1 dX6_common_10 (by decide) ?_
    refine lv_topE 0 (by decide) ?_
    refine lv_istore (lv' := [(4, .int 0), (3, .int 12), (2, .int 0), (0, .int 0), (1, .int 12)]) C.1.1 C.1.2.1 dX6_common_11 hl (by decide) rfl (fun ls hl => ?_)
    refine lv_iload_n C.1.1 C.1.2.1 dX6_common_13 rfl (lv_at hl 1 rfl) ?_
    refine lv_istore_n (lv' := [(2, .int 12), (4, .int 0), (3, .int 12), (0, .int 0), (1, .int 12)]) C.1.1 C.1.2.1 dX6_common_14 rfl hl (by decide) rfl (fun ls hl => ?_)
    refine lv_iload C.1.1 C.1.2.1 dX6_common_15 (lv_at hl 1 rfl) ?_
    refine lv_istore_n (lv' := [(3, .int 0), (2, .int 12), (4, .int 0), (0, .int 0), (1, .int 12)]) C.1.1 C.1.2.1 dX6_common_17 rfl hl (by decide) rfl (fun ls hl => ?_)
    refine lv_goto (tgt := 4) C.1.1 C.1.2.1 dX6_common_18 (by decide) ?_
    refine lv_iload_n C.1.1 C.1.2.1 dX6_common_4 rfl (lv_at hl 0 rfl) ?_
    refine lv_if_eq (tgt := 21) C.1.1 C.1.2.1 dX6_common_5 (by decide) (fun _ => ?_) (fun c_2 => absurd c_2 (by decide))
    refine lv_iload_n C.1.1 C.1.2.1 dX6_common_21 rfl (lv_at hl 1 rfl) ?_
    exact t_F C rfl hP hS rfl rfl dX6_common_22
  · have hl : lv_has ls 5 [(0, .int 1), (1, .int 12)] := hl
    refine lv_iload_n C.1.1 C.1.2.1 dX6_common_0 rfl (lv_at hl 0 rfl) ?_
    refine lv_istore_n (lv' := [(2, .int 1), (0, .int 1), (1, .int 12)]) C.1.1 C.1.2.1 dX6_common_1 rfl hl (by decide) rfl (fun ls hl => ?_)
    refine lv_iload_n C.1.1 C.1.2.1 dX6_common_2 rfl (lv_at hl 2 rfl) ?_
    refine lv_istore_n (lv' := [(3, .int 12), (2, .int 1), (0, .int 1), (1, .int 12)]) C.1.1 C.1.2.1 dX6_common_3 rfl hl (by decide) rfl (fun ls hl => ?_)
    refine lv_iload_n C.1.1 C.1.2.1 dX6_common_4 rfl (lv_at hl 0 rfl) ?_
    refine lv_if_eq (tgt := 21) C.1.1 C.1.2.1 dX6_common_5 (by decide) (fun c_3 => absurd c_3 (by decide)) (fun _ => ?_)
    refine lv_iload_n C.1.1 C.1.2.1 dX6_common_8 rfl (lv_at hl 1 rfl) ?_
    refine lv_iload_n C.1.1 C.1.2.1 dX6_common_9 rfl (lv_at hl 0 rfl) ?_
    refine lv_irem C.1.1 C.1.2.1 dX6_common_10 (by decide) ?_
    refine lv_topE 1 (by decide) ?_
    refine lv_istore (lv' := [(4, .int 1), (3, .int 12), (2, .int 1), (0, .int 1), (1, .int 12)]) C.1.1 C.1.2.1 dX6_common_11 hl (by decide) rfl (fun ls hl => ?_)
    refine lv_iload_n C.1.1 C.1.2.1 dX6_common_13 rfl (lv_at hl 1 rfl) ?_
    refine lv_istore_n (lv' := [(2, .int 12), (4, .int 1), (3, .int 12), (0, .int 1), (1, .int 12)]) C.1.1 C.1.2.1 dX6_common_14 rfl hl (by decide) rfl (fun ls hl => ?_)
    refine lv_iload C.1.1 C.1.2.1 dX6_common_15 (lv_at hl 1 rfl) ?_
    refine lv_istore_n (lv' := [(3, .int 1), (2, .int 12), (4, .int 1), (0, .int 1), (1, .int 12)]) C.1.1 C.1.2.1 dX6_common_17 rfl hl (by decide) rfl (fun ls hl => ?_)
    refine lv_goto (tgt := 4) C.1.1 C.1.2.1 dX6_common_18 (by decide) ?_
    refine lv_iload_n C.1.1 C.1.2.1 dX6_common_4 rfl (lv_at hl 0 rfl) ?_
    refine lv_if_eq (tgt := 21) C.1.1 C.1.2.1 dX6_common_5 (by decide) (fun c_4 => absurd c_4 (by decide)) (fun _ => ?_)
    refine lv_iload_n C.1.1 C.1.2.1 dX6_common_8 rfl (lv_at hl 1 rfl) ?_
    refine lv_iload_n C.1.1 C.1.2.1 dX6_common_9 rfl (lv_at hl 0 rfl) ?_
    refine lv_irem C.1.1 C.1.2.1 dX6_common_10 (by decide) ?_
    refine lv_topE 0 (by decide) ?_
    refine lv_istore (lv' := [(4, .int 0), (3, .int 1), (2, .int 12), (0, .int 1), (1, .int 12)]) C.1.1 C.1.2.1 dX6_common_11 hl (by decide) rfl (fun ls hl => ?_)
    refine lv_iload_n C.1.1 C.1.2.1 dX6_common_13 rfl (lv_at hl 1 rfl) ?_
    refine lv_istore_n (lv' := [(2, .int 1), (4, .int 0), (3, .int 1), (0, .int 1), (1, .int 12)]) C.1.1 C.1.2.1 dX6_common_14 rfl hl (by decide) rfl (fun ls hl => ?_)
    refine lv_iload C.1.1 C.1.2.1 dX6_common_15 (lv_at hl 1 rfl) ?_
    refine lv_istore_n (lv' := [(3, .int 0), (2, .int 1), (4, .int 0), (0, .int 1), (1, .int 12)]) C.1.1 C.1.2.1 dX6_common_17 rfl hl (by decide) rfl (fun ls hl => ?_)
    refine lv_goto (tgt := 4) C.1.1 C.1.2.1 dX6_common_18 (by decide) ?_
    refine lv_iload_n C.1.1 C.1.2.1 dX6_common_4 rfl (lv_at hl 0 rfl) ?_
    refine lv_if_eq (tgt := 21) C.1.1 C.1.2.1 dX6_common_5 (by decide) (fun _ => ?_) (fun c_5 => absurd c_5 (by decide))
    refine lv_iload_n C.1.1 C.1.2.1 dX6_common_21 rfl (lv_at hl 1 rfl) ?_
    exact t_F C rfl hP hS rfl rfl dX6_common_22
  · have hl : lv_has ls 5 [(0, .int 2), (1, .int 12)] := hl
    refine lv_iload_n C.1.1 C.1.2.1 dX6_common_0 rfl (lv_at hl 0 rfl) ?_
    refine lv_istore_n (lv' := [(2, .int 2), (0, .int 2), (1, .int 12)]) C.1.1 C.1.2.1 dX6_common_1 rfl hl (by decide) rfl (fun ls hl => ?_)
    refine lv_iload_n C.1.1 C.1.2.1 dX6_common_2 rfl (lv_at hl 2 rfl) ?_
    refine lv_istore_n (lv' := [(3, .int 12), (2, .int 2), (0, .int 2), (1, .int 12)]) C.1.1 C.1.2.1 dX6_common_3 rfl hl (by decide) rfl (fun ls hl => ?_)
    refine lv_iload_n C.1.1 C.1.2.1 dX6_common_4 rfl (lv_at hl 0 rfl) ?_
    refine lv_if_eq (tgt := 21) C.1.1 C.1.2.1 dX6_common_5 (by decide) (fun c_6 => absurd c_6 (by decide)) (fun _ => ?_)
    refine lv_iload_n C.1.1 C.1.2.1 dX6_common_8 rfl (lv_at hl 1 rfl) ?_
    refine lv_iload_n C.1.1 C.1.2.1 dX6_common_9 rfl (lv_at hl 0 rfl) ?_
    refine lv_irem C.1.1 C.1.2.1 dX6_common_10 (by decide) ?_
    refine lv_topE 2 (by decide) ?_
    refine lv_istore (lv' := [(4, .int 2), (3, .int 12), (2, .int 2), (0, .int 2), (1, .int 12)]) C.1.1 C.1.2.1 dX6_common_11 hl (by decide) rfl (fun ls hl => ?_)
    refine lv_iload_n C.1.1 C.1.2.1 dX6_common_13 rfl (lv_at hl 1 rfl) ?_
    refine lv_istore_n (lv' := [(2, .int 12), (4, .int 2), (3, .int 12), (0, .int 2), (1, .int 12)]) C.1.1 C.1.2.1 dX6_common_14 rfl hl (by decide) rfl (fun ls hl => ?_)
    refine lv_iload C.1.1 C.1.2.1 dX6_common_15 (lv_at hl 1 rfl) ?_
    refine lv_istore_n (lv' := [(3, .int 2), (2, .int 12), (4, .int 2), (0, .int 2), (1, .int 12)]) C.1.1 C.1.2.1 dX6_common_17 rfl hl (by decide) rfl (fun ls hl => ?_)
    refine lv_goto (tgt := 4) C.1.1 C.1.2.1 dX6_common_18 (by decide) ?_
    refine lv_iload_n C.1.1 C.1.2.1 dX6_common_4 rfl (lv_at hl 0 rfl) ?_
    refine lv_if_eq (tgt := 21) C.1.1 C.1.2.1 dX6_common_5 (by decide) (fun c_7 => absurd c_7 (by decide)) (fun _ => ?_)
    refine lv_iload_n C.1.1 C.1.2.1 dX6_common_8 rfl (lv_at hl 1 rfl) ?_
    refine lv_iload_n C.1.1 C.1.2.1 dX6_common_9 rfl (lv_at hl 0 rfl) ?_
    refine lv_irem C.1.1 C.1.2.1 dX6_common_10 (by decide) ?_
    refine lv_topE 0 (by decide) ?_
    refine lv_istore (lv' := [(4, .int 0), (3, .int 2), (2, .int 12), (0, .int 2), (1, .int 12)]) C.1.1 C.1.2.1 dX6_common_11 hl (by decide) rfl (fun ls hl => ?_)
    refine lv_iload_n C.1.1 C.1.2.1 dX6_common_13 rfl (lv_at hl 1 rfl) ?_
    refine lv_istore_n (lv' := [(2, .int 2), (4, .int 0), (3, .int 2), (0, .int 2), (1, .int 12)]) C.1.1 C.1.2.1 dX6_common_14 rfl hl (by decide) rfl (fun ls hl => ?_)
    refine lv_iload C.1.1 C.1.2.1 dX6_common_15 (lv_at hl 1 rfl) ?_
    refine lv_istore_n (lv' := [(3, .int 0), (2, .int 2), (4, .int 0), (0, .int 2), (1, .int 12)]) C.1.1 C.1.2.1 dX6_common_17 rfl hl (by decide) rfl (fun ls hl => ?_)
    refine lv_goto (tgt := 4) C.1.1 C.1.2.1 dX6_common_18 (by decide) ?_
    refine lv_iload_n C.1.1 C.1.2.1 dX6_common_4 rfl (lv_at hl 0 rfl) ?_
    refine lv_if_eq (tgt := 21) C.1.1 C.1.2.1 dX6_common_5 (by decide) (fun _ => ?_) (fun c_8 => absurd c_8 (by decide))
    refine lv_iload_n C.1.1 C.1.2.1 dX6_common_21 rfl (lv_at hl 1 rfl) ?_
    exact t_F C rfl hP hS rfl rfl dX6_common_22
  · have hl : lv_has ls 5 [(0, .int 3), (1, .int 12)] := hl
    refine lv_iload_n C.1.1 C.1.2.1 dX6_common_0 rfl (lv_at hl 0 rfl) ?_
    refine lv_istore_n (lv' := [(2, .int 3), (0, .int 3), (1, .int 12)]) C.1.1 C.1.2.1 dX6_common_1 rfl hl (by decide) rfl (fun ls hl => ?_)
    refine lv_iload_n C.1.1 C.1.2.1 dX6_common_2 rfl (lv_at hl 2 rfl) ?_
    refine lv_istore_n (lv' := [(3, .int 12), (2, .int 3), (0, .int 3), (1, .int 12)]) C.1.1 C.1.2.1 dX6_common_3 rfl hl (by decide) rfl (fun ls hl => ?_)
    refine lv_iload_n C.1.1 C.1.2.1 dX6_common_4 rfl (lv_at hl 0 rfl) ?_
    refine lv_if_eq (tgt := 21) C.1.1 C.1.2.1 dX6_common_5 (by decide) (fun c_9 => absurd c_9 (by decide)) (fun _ => ?_)
    refine lv_iload_n C.1.1 C.1.2.1 dX6_common_8 rfl (lv_at hl 1 rfl) ?_
    refine lv_iload_n C.1.1 C.1.2.1 dX6_common_9 rfl (lv_at hl 0 rfl) ?_
    refine lv_irem C.1.1 C.1.2.1 dX6_common_10 (by decide) ?_
    refine lv_topE 3 (by decide) ?_
    refine lv_istore (lv' := [(4, .int 3), (3, .int 12), (2, .int 3), (0, .int 3), (1, .int 12)]) C.1.1 C.1.2.1 dX6_common_11 hl (by decide) rfl (fun ls hl => ?_)
    refine lv_iload_n C.1.1 C.1.2.1 dX6_common_13 rfl (lv_at hl 1 rfl) ?_
    refine lv_istore_n (lv' := [(2, .int 12), (4, .int 3), (3, .int 12), (0, .int 3), (1, .int 12)]) C.1.1 C.1.2.1 dX6_common_14 rfl hl (by decide) rfl (fun ls hl => ?_)
    refine lv_iload C.1.1 C.1.2.1 dX6_common_15 (lv_at hl 1 rfl) ?_
    refine lv_istore_n (lv' := [(3, .int 3), (2, .int 12), (4, .int 3), (0, .int 3), (1, .int 12)]) C.1.1 C.1.2.1 dX6_common_17 rfl hl (by decide) rfl (fun ls hl => ?_)
    refine lv_goto (tgt := 4) C.1.1 C.1.2.1 dX6_common_18 (by decide) ?_
    refine lv_iload_n C.1.1 C.1.2.1 dX6_common_4 rfl (lv_at hl 0 rfl) ?_
    refine lv_if_eq (tgt := 21) C.1.1 C.1.2.1 dX6_common_5 (by decide) (fun c_10 => absurd c_10 (by decide)) (fun _ => ?_)
    refine lv_iload_n C.1.1 C.1.2.1 dX6_common_8 rfl (lv_at hl 1 rfl) ?_
    refine lv_iload_n C.1.1 C.1.2.1 dX6_common_9 rfl (lv_at hl 0 rfl) ?_
    refine lv_irem C.1.1 C.1.2.1 dX6_common_10 (by decide) ?_
    refine lv_topE 0 (by decide) ?_
    refine lv_istore (lv' := [(4, .int 0), (3, .int 3), (2, .int 12), (0, .int 3), (1, .int 12)]) C.1.1 C.1.2.1 dX6_common_11 hl (by decide) rfl (fun ls hl => ?_)
    refine lv_iload_n C.1.1 C.1.2.1 dX6_common_13 rfl (lv_at hl 1 rfl) ?_
    refine lv_istore_n (lv' := [(2, .int 3), (4, .int 0), (3, .int 3), (0, .int 3), (1, .int 12)]) C.1.1 C.1.2.1 dX6_common_14 rfl hl (by decide) rfl (fun ls hl => ?_)
    refine lv_iload C.1.1 C.1.2.1 dX6_common_15 (lv_at hl 1 rfl) ?_
    refine lv_istore_n (lv' := [(3, .int 0), (2, .int 3), (4, .int 0), (0, .int 3), (1, .int 12)]) C.1.1 C.1.2.1 dX6_common_17 rfl hl (by decide) rfl (fun ls hl => ?_)
    refine lv_goto (tgt := 4) C.1.1 C.1.2.1 dX6_common_18 (by decide) ?_
    refine lv_iload_n C.1.1 C.1.2.1 dX6_common_4 rfl (lv_at hl 0 rfl) ?_
    refine lv_if_eq (tgt := 21) C.1.1 C.1.2.1 dX6_common_5 (by decide) (fun _ => ?_) (fun c_11 => absurd c_11 (by decide))
    refine lv_iload_n C.1.1 C.1.2.1 dX6_common_21 rfl (lv_at hl 1 rfl) ?_
    exact t_F C rfl hP hS rfl rfl dX6_common_22
  · have hl : lv_has ls 5 [(0, .int 4), (1, .int 12)] := hl
    refine lv_iload_n C.1.1 C.1.2.1 dX6_common_0 rfl (lv_at hl 0 rfl) ?_
    refine lv_istore_n (lv' := [(2, .int 4), (0, .int 4), (1, .int 12)]) C.1.1 C.1.2.1 dX6_common_1 rfl hl (by decide) rfl (fun ls hl => ?_)
    refine lv_iload_n C.1.1 C.1.2.1 dX6_common_2 rfl (lv_at hl 2 rfl) ?_
    refine lv_istore_n (lv' := [(3, .int 12), (2, .int 4), (0, .int 4), (1, .int 12)]) C.1.1 C.1.2.1 dX6_common_3 rfl hl (by decide) rfl (fun ls hl => ?_)
    refine lv_iload_n C.1.1 C.1.2.1 dX6_common_4 rfl (lv_at hl 0 rfl) ?_
    refine lv_if_eq (tgt := 21) C.1.1 C.1.2.1 dX6_common_5 (by decide) (fun c_12 => absurd c_12 (by decide)) (fun _ => ?_)
    refine lv_iload_n C.1.1 C.1.2.1 dX6_common_8 rfl (lv_at hl 1 rfl) ?_
    refine lv_iload_n C.1.1 C.1.2.1 dX6_common_9 rfl (lv_at hl 0 rfl) ?_
    refine lv_irem C.1.1 C.1.2.1 dX6_common_10 (by decide) ?_
    refine lv_topE 4 (by decide) ?_
    refine lv_istore (lv' := [(4, .int 4), (3, .int 12), (2, .int 4), (0, .int 4), (1, .int 12)]) C.1.1 C.1.2.1 dX6_common_11 hl (by decide) rfl (fun ls hl => ?_)
    refine lv_iload_n C.1.1 C.1.2.1 dX6_common_13 rfl (lv_at hl 1 rfl) ?_
    refine lv_istore_n (lv' := [(2, .int 12), (4, .int 4), (3, .int 12), (0, .int 4), (1, .int 12)]) C.1.1 C.1.2.1 dX6_common_14 rfl hl (by decide) rfl (fun ls hl => ?_)
    refine lv_iload C.1.1 C.1.2.1 dX6_common_15 (lv_at hl 1 rfl) ?_
    refine lv_istore_n (lv' := [(3, .int 4), (2, .int 12), (4, .int 4), (0, .int 4), (1, .int 12)]) C.1.1 C.1.2.1 dX6_common_17 rfl hl (by decide) rfl (fun ls hl => ?_)
    refine lv_goto (tgt := 4) C.1.1 C.1.2.1 dX6_common_18 (by decide) ?_
    refine lv_iload_n C.1.1 C.1.2.1 dX6_common_4 rfl (lv_at hl 0 rfl) ?_
    refine lv_if_eq (tgt := 21) C.1.1 C.1.2.1 dX6_common_5 (by decide) (fun c_13 => absurd c_13 (by decide)) (fun _ => ?_)
    refine lv_iload_n C.1.1 C.1.2.1 dX6_common_8 rfl (lv_at hl 1 rfl) ?_
    refine lv_iload_n C.1.1 C.1.2.1 dX6_common_9 rfl (lv_at hl 0 rfl) ?_
    refine lv_irem C.1.1 C.1.2.1 dX6_common_10 (by decide) ?_
    refine lv_topE 0 (by decide) ?_
    refine lv_istore (lv' := [(4, .int 0), (3, .int 4), (2, .int 12), (0, .int 4), (1, .int 12)]) C.1.1 C.1.2.1 dX6_common_11 hl (by decide) rfl (fun ls hl => ?_)
    refine lv_iload_n C.1.1 C.1.2.1 dX6_common_13 rfl (lv_at hl 1 rfl) ?_
    refine lv_istore_n (lv' := [(2, .int 4), (4, .int 0), (3, .int 4), (0, .int 4), (1, .int 12)]) C.1.1 C.1.2.1 dX6_common_14 rfl hl (by decide) rfl (fun ls hl => ?_)
    refine lv_iload C.1.1 C.1.2.1 dX6_common_15 (lv_at hl 1 rfl) ?_
    refine lv_istore_n (lv' := [(3, .int 0), (2, .int 4), (4, .int 0), (0, .int 4), (1, .int 12)]) C.1.1 C.1.2.1 dX6_common_17 rfl hl (by decide) rfl (fun ls hl => ?_)
    refine lv_goto (tgt := 4) C.1.1 C.1.2.1 dX6_common_18 (by decide) ?_
    refine lv_iload_n C.1.1 C.1.2.1 dX6_common_4 rfl (lv_at hl 0 rfl) ?_
    refine lv_if_eq (tgt := 21) C.1.1 C.1.2.1 dX6_common_5 (by decide) (fun _ => ?_) (fun c_14 => absurd c_14 (by decide))
    refine lv_iload_n C.1.1 C.1.2.1 dX6_common_21 rfl (lv_at hl 1 rfl) ?_
    exact t_F C rfl hP hS rfl rfl dX6_common_22
  · have hl : lv_has ls 5 [(0, .int 5), (1, .int 12)] := hl
    refine lv_iload_n C.1.1 C.1.2.1 dX6_common_0 rfl (lv_at hl 0 rfl) ?_
    refine lv_istore_n (lv' := [(2, .int 5), (0, .int 5), (1, .int 12)]) C.1.1 C.1.2.1 dX6_common_1 rfl hl (by decide) rfl (fun ls hl => ?_)
    refine lv_iload_n C.1.1 C.1.2.1 dX6_common_2 rfl (lv_at hl 2 rfl) ?_
    refine lv_istore_n (lv' := [(3, .int 12), (2, .int 5), (0, .int 5), (1, .int 12)]) C.1.1 C.1.2.1 dX6_common_3 rfl hl (by decide) rfl (fun ls hl => ?_)
    refine lv_iload_n C.1.1 C.1.2.1 dX6_common_4 rfl (lv_at hl 0 rfl) ?_
    refine lv_if_eq (tgt := 21) C.1.1 C.1.2.1 dX6_common_5 (by decide) (fun c_15 => absurd c_15 (by decide)) (fun _ => ?_)
    refine lv_iload_n C.1.1 C.1.2.1 dX6_common_8 rfl (lv_at hl 1 rfl) ?_
    refine lv_iload_n C.1.1 C.1.2.1 dX6_common_9 rfl (lv_at hl 0 rfl) ?_
    refine lv_irem C.1.1 C.1.2.1 dX6_common_10 (by decide) ?_
    refine lv_topE 5 (by decide) ?_
    refine lv_istore (lv' := [(4, .int 5), (3, .int 12), (2, .int 5), (0, .int 5), (1, .int 12)]) C.1.1 C.1.2.1 dX6_common_11 hl (by decide) rfl (fun ls hl => ?_)
    refine lv_iload_n C.1.1 C.1.2.1 dX6_common_13 rfl (lv_at hl 1 rfl) ?_
    refine lv_istore_n (lv' := [(2, .int 12), (4, .int 5), (3, .int 12), (0, .int 5), (1, .int 12)]) C.1.1 C.1.2.1 dX6_common_14 rfl hl (by decide) rfl (fun ls hl => ?_)
    refine lv_iload C.1.1 C.1.2.1 dX6_common_15 (lv_at hl 1 rfl) ?_
    refine lv_istore_n (lv' := [(3, .int 5), (2, .int 12), (4, .int 5), (0, .int 5), (1, .int 12)]) C.1.1 C.1.2.1 dX6_common_17 rfl hl (by decide) rfl (fun ls hl => ?_)
    refine lv_goto (tgt := 4) C.1.1 C.1.2.1 dX6_common_18 (by decide) ?_
    refine lv_iload_n C.1.1 C.1.2.1 dX6_common_4 rfl (lv_at hl 0 rfl) ?_
    refine lv_if_eq (tgt := 21) C.1.1 C.1.2.1 dX6_common_5 (by decide) (fun c_16 => absurd c_16 (by decide)) (fun _ => ?_)
    refine lv_iload_n C.1.1 C.1.2.1 dX6_common_8 rfl (lv_at hl 1 rfl) ?_
    refine lv_iload_n C.1.1 C.1.2.1 dX6_common_9 rfl (lv_at hl 0 rfl) ?_
    refine lv_irem C.1.1 C.1.2.1 dX6_common_10 (by decide) ?_
    refine lv_topE 2 (by decide) ?_
    refine lv_istore (lv' := [(4, .int 2), (3, .int 5), (2, .int 12), (0, .int 5), (1, .int 12)]) C.1.1 C.1.2.1 dX6_common_11 hl (by decide) rfl (fun ls hl => ?_)
    refine lv_iload_n C.1.1 C.1.2.1 dX6_common_13 rfl (lv_at hl 1 rfl) ?_
    refine lv_istore_n (lv' := [(2, .int 5), (4, .int 2), (3, .int 5), (0, .int 5), (1, .int 12)]) C.1.1 C.1.2.1 dX6_common_14 rfl hl (by decide) rfl (fun ls hl => ?_)
    refine lv_iload C.1.1 C.1.2.1 dX6_common_15 (lv_at hl 1 rfl) ?_
    refine lv_istore_n (lv' := [(3, .int 2), (2, .int 5), (4, .int 2), (0, .int 5), (1, .int 12)]) C.1.1 C.1.2.1 dX6_common_17 rfl hl (by decide) rfl (fun ls hl => ?_)
    refine lv_goto (tgt := 4) C.1.1 C.1.2.1 dX6_common_18 (by decide) ?_
    refine lv_iload_n C.1.1 C.1.2.1 dX6_common_4 rfl (lv_at hl 0 rfl) ?_
    refine lv_if_eq (tgt := 21) C.1.1 C.1.2.1 dX6_common_5 (by decide) (fun c_17 => absurd c_17 (by decide)) (fun _ => ?_)
    refine lv_iload_n C.1.1 C.1.2.1 dX6_common_8 rfl (lv_at hl 1 rfl) ?_
    refine lv_iload_n C.1.1 C.1.2.1 dX6_common_9 rfl (lv_at hl 0 rfl) ?_
    refine lv_irem C.1.1 C.1.2.1 dX6_common_10 (by decide) ?_
    refine lv_topE 1 (by decide) ?_
    refine lv_istore (lv' := [(4, .int 1), (3, .int 2), (2, .int 5), (0, .int 5), (1, .int 12)]) C.1.1 C.1.2.1 dX6_common_11 hl (by decide) rfl (fun ls hl => ?_)
    refine lv_iload_n C.1.1 C.1.2.1 dX6_common_13 rfl (lv_at hl 1 rfl) ?_
    refine lv_istore_n (lv' := [(2, .int 2), (4, .int 1), (3, .int 2), (0, .int 5), (1, .int 12)]) C.1.1 C.1.2.1 dX6_common_14 rfl hl (by decide) rfl (fun ls hl => ?_)
    refine lv_iload C.1.1 C.1.2.1 dX6_common_15 (lv_at hl 1 rfl) ?_
    refine lv_istore_n (lv' := [(3, .int 1), (2, .int 2), (4, .int 1), (0, .int 5), (1, .int 12)]) C.1.1 C.1.2.1 dX6_common_17 rfl hl (by decide) rfl (fun ls hl => ?_)
    refine lv_goto (tgt := 4) C.1.1 C.1.2.1 dX6_common_18 (by decide) ?_
    refine lv_iload_n C.1.1 C.1.2.1 dX6_common_4 rfl (lv_at hl 0 rfl) ?_
    refine lv_if_eq (tgt := 21) C.1.1 C.1.2.1 dX6_common_5 (by decide) (fun c_18 => absurd c_18 (by decide)) (fun _ => ?_)
    refine lv_iload_n C.1.1 C.1.2.1 dX6_common_8 rfl (lv_at hl 1 rfl) ?_
    refine lv_iload_n C.1.1 C.1.2.1 dX6_common_9 rfl (lv_at hl 0 rfl) ?_
    refine lv_irem C.1.1 C.1.2.1 dX6_common_10 (by decide) ?_
    refine lv_topE 0 (by decide) ?_
    refine lv_istore (lv' := [(4, .int 0), (3, .int 1), (2, .int 2), (0, .int 5), (1, .int 12)]) C.1.1 C.1.2.1 dX6_common_11 hl (by decide) rfl (fun ls hl => ?_)
    refine lv_iload_n C.1.1 C.1.2.1 dX6_common_13 rfl (lv_at hl 1 rfl) ?_
    refine lv_istore_n (lv' := [(2, .int 1), (4, .int 0), (3, .int 1), (0, .int 5), (1, .int 12)]) C.1.1 C.1.2.1 dX6_common_14 rfl hl (by decide) rfl (fun ls hl => ?_)
    refine lv_iload C.1.1 C.1.2.1 dX6_common_15 (lv_at hl 1 rfl) ?_
    refine lv_istore_n (lv' := [(3, .int 0), (2, .int 1), (4, .int 0), (0, .int 5), (1, .int 12)]) C.1.1 C.1.2.1 dX6_common_17 rfl hl (by decide) rfl (fun ls hl => ?_)
    refine lv_goto (tgt := 4) C.1.1 C.1.2.1 dX6_common_18 (by decide) ?_
    refine lv_iload_n C.1.1 C.1.2.1 dX6_common_4 rfl (lv_at hl 0 rfl) ?_
    refine lv_if_eq (tgt := 21) C.1.1 C.1.2.1 dX6_common_5 (by decide) (fun _ => ?_) (fun c_19 => absurd c_19 (by decide))
    refine lv_iload_n C.1.1 C.1.2.1 dX6_common_21 rfl (lv_at hl 1 rfl) ?_
    exact t_F C rfl hP hS rfl rfl dX6_common_22
  · have hl : lv_has ls 5 [(0, .int 6), (1, .int 12)] := hl
    refine lv_iload_n C.1.1 C.1.2.1 dX6_common_0 rfl (lv_at hl 0 rfl) ?_
    refine lv_istore_n (lv' := [(2, .int 6), (0, .int 6), (1, .int 12)]) C.1.1 C.1.2.1 dX6_common_1 rfl hl (by decide) rfl (fun ls hl => ?_)
    refine lv_iload_n C.1.1 C.1.2.1 dX6_common_2 rfl (lv_at hl 2 rfl) ?_
    refine lv_istore_n (lv' := [(3, .int 12), (2, .int 6), (0, .int 6), (1, .int 12)]) C.1.1 C.1.2.1 dX6_common_3 rfl hl (by decide) rfl (fun ls hl => ?_)
    refine lv_iload_n C.1.1 C.1.2.1 dX6_common_4 rfl (lv_at hl 0 rfl) ?_
    refine lv_if_eq (tgt := 21) C.1.1 C.1.2.1 dX6_common_5 (by decide) (fun c_20 => absurd c_20 (by decide)) (fun _ => ?_)
    refine lv_iload_n C.1.1 C.1.2.1 dX6_common_8 rfl (lv_at hl 1 rfl) ?_
    refine lv_iload_n C.1.1 C.1.2.1 dX6_common_9 rfl (lv_at hl 0 rfl) ?_
    refine lv_irem C.1.1 C.1.2.1 dX6_common_10 (by decide) ?_
    refine lv_topE 6 (by decide) ?_
    refine lv_istore (lv' := [(4, .int 6), (3, .int 12), (2, .int 6), (0, .int 6), (1, .int 12)]) C.1.1 C.1.2.1 dX6_common_11 hl (by decide) rfl (fun ls hl => ?_)
    refine lv_iload_n C.1.1 C.1.2.1 dX6_common_13 rfl (lv_at hl 1 rfl) ?_
    refine lv_istore_n (lv' := [(2, .int 12), (4, .int 6), (3, .int 12), (0, .int 6), (1, .int 12)]) C.1.1 C.1.2.1 dX6_common_14 rfl hl (by decide) rfl (fun ls hl => ?_)
    refine lv_iload C.1.1 C.1.2.1 dX6_common_15 (lv_at hl 1 rfl) ?_
    refine lv_istore_n (lv' := [(3, .int 6), (2, .int 12), (4, .int 6), (0, .int 6), (1, .int 12)]) C.1.1 C.1.2.1 dX6_common_17 rfl hl (by decide) rfl (fun ls hl => ?_)
    refine lv_goto (tgt := 4) C.1.1 C.1.2.1 dX6_common_18 (by decide) ?_
    refine lv_iload_n C.1.1 C.1.2.1 dX6_common_4 rfl (lv_at hl 0 rfl) ?_
    refine lv_if_eq (tgt := 21) C.1.1 C.1.2.1 dX6_common_5 (by decide) (fun c_21 => absurd c_21 (by decide)) (fun _ => ?_)
    refine lv_iload_n C.1.1 C.1.2.1 dX6_common_8 rfl (lv_at hl 1 rfl) ?_
    refine lv_iload_n C.1.1 C.1.2.1 dX6_common_9 rfl (lv_at hl 0 rfl) ?_
    refine lv_irem C.1.1 C.1.2.1 dX6_common_10 (by decide) ?_
    refine lv_topE 0 (by decide) ?_
    refine lv_istore (lv' := [(4, .int 0), (3, .int 6), (2, .int 12), (0, .int 6), (1, .int 12)]) C.1.1 C.1.2.1 dX6_common_11 hl (by decide) rfl (fun ls hl => ?_)
    refine lv_iload_n C.1.1 C.1.2.1 dX6_common_13 rfl (lv_at hl 1 rfl) ?_
    refine lv_istore_n (lv' := [(2, .int 6), (4, .int 0), (3, .int 6), (0, .int 6), (1, .int 12)]) C.1.1 C.1.2.1 dX6_common_14 rfl hl (by decide) rfl (fun ls hl => ?_)
    refine lv_iload C.1.1 C.1.2.1 dX6_common_15 (lv_at hl 1 rfl) ?_
    refine lv_istore_n (lv' := [(3, .int 0), (2, .int 6), (4, .int 0), (0, .int 6), (1, .int 12)]) C.1.1 C.1.2.1 dX6_common_17 rfl hl (by decide) rfl (fun ls hl => ?_)
    refine lv_goto (tgt := 4) C.1.1 C.1.2.1 dX6_common_18 (by decide) ?_
    refine lv_iload_n C.1.1 C.1.2.1 dX6_common_4 rfl (lv_at hl 0 rfl) ?_
    refine lv_if_eq (tgt := 21) C.1.1 C.1.2.1 dX6_common_5 (by decide) (fun _ => ?_) (fun c_22 => absurd c_22 (by decide))
    refine lv_iload_n C.1.1 C.1.2.1 dX6_common_21 rfl (lv_at hl 1 rfl) ?_
    exact t_F C rfl hP hS rfl rfl dX6_common_22
  · have hl : lv_has ls 5 [(0, .int 7), (1, .int 12)] := hl
    refine lv_iload_n C.1.1 C.1.2.1 dX6_common_0 rfl (lv_at hl 0 rfl) ?_
    refine lv_istore_n (lv' := [(2, .int 7), (0, .int 7), (1, .int 12)]) C.1.1 C.1.2.1 dX6_common_1 rfl hl (by decide) rfl (fun ls hl => ?_)
    refine lv_iload_n C.1.1 C.1.2.1 dX6_common_2 rfl (lv_at hl 2 rfl) ?_
    refine lv_istore_n (lv' := [(3, .int 12), (2, .int 7), (0, .int 7), (1, .int 12)]) C.1.1 C.1.2.1 dX6_common_3 rfl hl (by decide) rfl (fun ls hl => ?_)
    refine lv_iload_n C.1.1 C.1.2.1 dX6_common_4 rfl (lv_at hl 0 rfl) ?_
    refine lv_if_eq (tgt := 21) C.1.1 C.1.2.1 dX6_common_5 (by decide) (fun c_23 => absurd c_23 (by decide)) (fun _ => ?_)
    refine lv_iload_n C.1.1 C.1.2.1 dX6_common_8 rfl (lv_at hl 1 rfl) ?_
    refine lv_iload_n C.1.1 C.1.2.1 dX6_common_9 rfl (lv_at hl 0 rfl) ?_
    refine lv_irem C.1.1 C.1.2.1 dX6_common_10 (by decide) ?_
    refine lv_topE 7 (by decide) ?_
    refine lv_istore (lv' := [(4, .int 7), (3, .int 12), (2, .int 7), (0, .int 7), (1, .int 12)]) C.1.1 C.1.2.1 dX6_common_11 hl (by decide) rfl (fun ls hl => ?_)
    refine lv_iload_n C.1.1 C.1.2.1 dX6_common_13 rfl (lv_at hl 1 rfl) ?_
    refine lv_istore_n (lv' := [(2, .int 12), (4, .int 7), (3, .int 12), (0, .int 7), (1, .int 12)]) C.1.1 C.1.2.1 dX6_common_14 rfl hl (by decide) rfl (fun ls hl => ?_)
    refine lv_iload C.1.1 C.1.2.1 dX6_common_15 (lv_at hl 1 rfl) ?_
    refine lv_istore_n (lv' := [(3, .int 7), (2, .int 12), (4, .int 7), (0, .int 7), (1, .int 12)]) C.1.1 C.1.2.1 dX6_common_17 rfl hl (by decide) rfl (fun ls hl => ?_)
    refine lv_goto (tgt := 4) C.1.1 C.1.2.1 dX6_common_18 (by decide) ?_
    refine lv_iload_n C.1.1 C.1.2.1 dX6_common_4 rfl (lv_at hl 0 rfl) ?_
    refine lv_if_eq (tgt := 21) C.1.1 C.1.2.1 dX6_common_5 (by decide) (fun c_24 => absurd c_24 (by decide)) (fun _ => ?_)
    refine lv_iload_n C.1.1 C.1.2.1 dX6_common_8 rfl (lv_at hl 1 rfl) ?_
    refine lv_iload_n C.1.1 C.1.2.1 dX6_common_9 rfl (lv_at hl 0 rfl) ?_
    refine lv_irem C.1.1 C.1.2.1 dX6_common_10 (by decide) ?_
    refine lv_topE 5 (by decide) ?_
    refine lv_istore (lv' := [(4, .int 5), (3, .int 7), (2, .int 12), (0, .int 7), (1, .int 12)]) C.1.1 C.1.2.1 dX6_common_11 hl (by decide) rfl (fun ls hl => ?_)
    refine lv_iload_n C.1.1 C.1.2.1 dX6_common_13 rfl (lv_at hl 1 rfl) ?_
    refine lv_istore_n (lv' := [(2, .int 7), (4, .int 5), (3, .int 7), (0, .int 7), (1, .int 12)]) C.1.1 C.1.2.1 dX6_common_14 rfl hl (by decide) rfl (fun ls hl => ?_)
    refine lv_iload C.1.1 C.1.2.1 dX6_common_15 (lv_at hl 1 rfl) ?_
    refine lv_istore_n (lv' := [(3, .int 5), (2, .int 7), (4, .int 5), (0, .int 7), (1, .int 12)]) C.1.1 C.1.2.1 dX6_common_17 rfl hl (by decide) rfl (fun ls hl => ?_)
    refine lv_goto (tgt := 4) C.1.1 C.1.2.1 dX6_common_18 (by decide) ?_
    refine lv_iload_n C.1.1 C.1.2.1 dX6_common_4 rfl (lv_at hl 0 rfl) ?_
    refine lv_if_eq (tgt := 21) C.1.1 C.1.2.1 dX6_common_5 (by decide) (fun c_25 => absurd c_25 (by decide)) (fun _ => ?_)
    refine lv_iload_n C.1.1 C.1.2.1 dX6_common_8 rfl (lv_at hl 1 rfl) ?_
    refine lv_iload_n C.1.1 C.1.2.1 dX6_common_9 rfl (lv_at hl 0 rfl) ?_
    refine lv_irem C.1.1 C.1.2.1 dX6_common_10 (by decide) ?_
    refine lv_topE 2 (by decide) ?_
    refine lv_istore (lv' := [(4, .int 2), (3, .int 5), (2, .int 7), (0, .int 7), (1, .int 12)]) C.1.1 C.1.2.1 dX6_common_11 hl (by decide) rfl (fun ls hl => ?_)
    refine lv_iload_n C.1.1 C.1.2.1 dX6_common_13 rfl (lv_at hl 1 rfl) ?_
    refine lv_istore_n (lv' := [(2, .int 5), (4, .int 2), (3, .int 5), (0, .int 7), (1, .int 12)]) C.1.1 C.1.2.1 dX6_common_14 rfl hl (by decide) rfl (fun ls hl => ?_)
    refine lv_iload C.1.1 C.1.2.1 dX6_common_15 (lv_at hl 1 rfl) ?_
    refine lv_istore_n (lv' := [(3, .int 2), (2, .int 5), (4, .int 2), (0, .int 7), (1, .int 12)]) C.1.1 C.1.2.1 dX6_common_17 rfl hl (by decide) rfl (fun ls hl => ?_)
    refine lv_goto (tgt := 4) C.1.1 C.1.2.1 dX6_common_18 (by decide) ?_
    refine lv_iload_n C.1.1 C.1.2.1 dX6_common_4 rfl (lv_at hl 0 rfl) ?_
    refine lv_if_eq (tgt := 21) C.1.1 C.1.2.1 dX6_common_5 (by decide) (fun c_26 => absurd c_26 (by decide)) (fun _ => ?_)
    refine lv_iload_n C.1.1 C.1.2.1 dX6_common_8 rfl (lv_at hl 1 rfl) ?_
    refine lv_iload_n C.1.1 C.1.2.1 dX6_common_9 rfl (lv_at hl 0 rfl) ?_
    refine lv_irem C.1.1 C.1.2.1 dX6_common_10 (by decide) ?_
    refine lv_topE 1 (by decide) ?_
    refine lv_istore (lv' := [(4, .int 1), (3, .int 2), (2, .int 5), (0, .int 7), (1, .int 12)]) C.1.1 C.1.2.1 dX6_common_11 hl (by decide) rfl (fun ls hl => ?_)
    refine lv_iload_n C.1.1 C.1.2.1 dX6_common_13 rfl (lv_at hl 1 rfl) ?_
    refine lv_istore_n (lv' := [(2, .int 2), (4, .int 1), (3, .int 2), (0, .int 7), (1, .int 12)]) C.1.1 C.1.2.1 dX6_common_14 rfl hl (by decide) rfl (fun ls hl => ?_)
    refine lv_iload C.1.1 C.1.2.1 dX6_common_15 (lv_at hl 1 rfl) ?_
    refine lv_istore_n (lv' := [(3, .int 1), (2, .int 2), (4, .int 1), (0, .int 7), (1, .int 12)]) C.1.1 C.1.2.1 dX6_common_17 rfl hl (by decide) rfl (fun ls hl => ?_)
    refine lv_goto (tgt := 4) C.1.1 C.1.2.1 dX6_common_18 (by decide) ?_
    refine lv_iload_n C.1.1 C.1.2.1 dX6_common_4 rfl (lv_at hl 0 rfl) ?_
    refine lv_if_eq (tgt := 21) C.1.1 C.1.2.1 dX6_common_5 (by decide) (fun c_27 => absurd c_27 (by decide)) (fun _ => ?_)
    refine lv_iload_n C.1.1 C.1.2.1 dX6_common_8 rfl (lv_at hl 1 rfl) ?_
    refine lv_iload_n C.1.1 C.1.2.1 dX6_common_9 rfl (lv_at hl 0 rfl) ?_
    refine lv_irem C.1.1 C.1.2.1 dX6_common_10 (by decide) ?_
    refine lv_topE 0 (by decide) ?_
    refine lv_istore (lv' := [(4, .int 0), (3, .int 1), (2, .int 2), (0, .int 7), (1, .int 12)]) C.1.1 C.1.2.1 dX6_common_11 hl (by decide) rfl (fun ls hl => ?_)
    refine lv_iload_n C.1.1 C.1.2.1 dX6_common_13 rfl (lv_at hl 1 rfl) ?_
    refine lv_istore_n (lv' := [(2, .int 1), (4, .int 0), (3, .int 1), (0, .int 7), (1, .int 12)]) C.1.1 C.1.2.1 dX6_common_14 rfl hl (by decide) rfl (fun ls hl => ?_)
    refine lv_iload C.1.1 C.1.2.1 dX6_common_15 (lv_at hl 1 rfl) ?_
    refine lv_istore_n (lv' := [(3, .int 0), (2, .int 1), (4, .int 0), (0, .int 7), (1, .int 12)]) C.1.1 C.1.2.1 dX6_common_17 rfl hl (by decide) rfl (fun ls hl => ?_)
    refine lv_goto (tgt := 4) C.1.1 C.1.2.1 dX6_common_18 (by decide) ?_
    refine lv_iload_n C.1.1 C.1.2.1 dX6_common_4 rfl (lv_at hl 0 rfl) ?_
    refine lv_if_eq (tgt := 21) C.1.1 C.1.2.1 dX6_common_5 (by decide) (fun _ => ?_) (fun c_28 => absurd c_28 (by decide))
    refine lv_iload_n C.1.1 C.1.2.1 dX6_common_21 rfl (lv_at hl 1 rfl) ?_
    exact t_F C rfl hP hS rfl rfl dX6_common_22
  · have hl : lv_has ls 5 [(0, .int 8), (1, .int 12)] := hl
    refine lv_iload_n C.1.1 C.1.2.1 dX6_common_0 rfl (lv_at hl 0 rfl) ?_
    refine lv_istore_n (lv' := [(2, .int 8), (0, .int 8), (1, .int 12)]) C.1.1 C.1.2.1 dX6_common_1 rfl hl (by decide) rfl (fun ls hl => ?_)
    refine lv_iload_n C.1.1 C.1.2.1 dX6_common_2 rfl (lv_at hl 2 rfl) ?_
    refine lv_istore_n (lv' := [(3, .int 12), (2, .int 8), (0, .int 8), (1, .int 12)]) C.1.1 C.1.2.1 dX6_common_3 rfl hl (by decide) rfl (fun ls hl => ?_)
    refine lv_iload_n C.1.1 C.1.2.1 dX6_common_4 rfl (lv_at hl 0 rfl) ?_
    refine lv_if_eq (tgt := 21) C.1.1 C.1.2.1 dX6_common_5 (by decide) (fun c_29 => absurd c_29 (by decide)) (fun _ => ?_)
    refine lv_iload_n C.1.1 C.1.2.1 dX6_common_8 rfl (lv_at hl 1 rfl) ?_
    refine lv_iload_n C.1.1 C.1.2.1 dX6_common_9 rfl (lv_at hl 0 rfl) ?_
    refine lv_irem C.1.1 C.1.2.1 dX6_common_10 (by decide) ?_
    refine lv_topE 8 (by decide) ?_
    refine lv_istore (lv' := [(4, .int 8), (3, .int 12), (2, .int 8), (0, .int 8), (1, .int 12)]) C.1.1 C.1.2.1 dX6_common_11 hl (by decide) rfl (fun ls hl => ?_)
    refine lv_iload_n C.1.1 C.1.2.1 dX6_common_13 rfl (lv_at hl 1 rfl) ?_
    refine lv_istore_n (lv' := [(2, .int 12), (4, .int 8), (3, .int 12), (0, .int 8), (1, .int 12)]) C.1.1 C.1.2.1 dX6_common_14 rfl hl (by decide) rfl (fun ls hl => ?_)
    refine lv_iload C.1.1 C.1.2.1 dX6_common_15 (lv_at hl 1 rfl) ?_
    refine lv_istore_n (lv' := [(3, .int 8), (2, .int 12), (4, .int 8), (0, .int 8), (1, .int 12)]) C.1.1 C.1.2.1 dX6_common_17 rfl hl (by decide) rfl (fun ls hl => ?_)
    refine lv_goto (tgt := 4) C.1.1 C.1.2.1 dX6_common_18 (by decide) ?_
    refine lv_iload_n C.1.1 C.1.2.1 dX6_common_4 rfl (lv_at hl 0 rfl) ?_
    refine lv_if_eq (tgt := 21) C.1.1 C.1.2.1 dX6_common_5 (by decide) (fun c_30 => absurd c_30 (by decide)) (fun _ => ?_)
    refine lv_iload_n C.1.1 C.1.2.1 dX6_common_8 rfl (lv_at hl 1 rfl) ?_
    refine lv_iload_n C.1.1 C.1.2.1 dX6_common_9 rfl (lv_at hl 0 rfl) ?_
    refine lv_irem C.1.1 C.1.2.1 dX6_common_10 (by decide) ?_
    refine lv_topE 4 (by decide) ?_
    refine lv_istore (lv' := [(4, .int 4), (3, .int 8), (2, .int 12), (0, .int 8), (1, .int 12)]) C.1.1 C.1.2.1 dX6_common_11 hl (by decide) rfl (fun ls hl => ?_)
    refine lv_iload_n C.1.1 C.1.2.1 dX6_common_13 rfl (lv_at hl 1 rfl) ?_
    refine lv_istore_n (lv' := [(2, .int 8), (4, .int 4), (3, .int 8), (0, .int 8), (1, .int 12)]) C.1.1 C.1.2.1 dX6_common_14 rfl hl (by decide) rfl (fun ls hl => ?_)
    refine lv_iload C.1.1 C.1.2.1 dX6_common_15 (lv_at hl 1 rfl) ?_
    refine lv_istore_n (lv' := [(3, .int 4), (2, .int 8), (4, .int 4), (0, .int 8), (1, .int 12)]) C.1.1 C.1.2.1 dX6_common_17 rfl hl (by decide) rfl (fun ls hl => ?_)
    refine lv_goto (tgt := 4) C.1.1 C.1.2.1 dX6_common_18 (by decide) ?_
    refine lv_iload_n C.1.1 C.1.2.1 dX6_common_4 rfl (lv_at hl 0 rfl) ?_
    refine lv_if_eq (tgt := 21) C.1.1 C.1.2.1 dX6_common_5 (by decide) (fun c_31 => absurd c_31 (by decide)) (fun _ => ?_)
    refine lv_iload_n C.1.1 C.1.2.1 dX6_common_8 rfl (lv_at hl 1 rfl) ?_
    refine lv_iload_n C.1.1 C.1.2.1 dX6_common_9 rfl (lv_at hl 0 rfl) ?_
    refine lv_irem C.1.1 C.1.2.1 dX6_common_10 (by decide) ?_
    refine lv_topE 0 (by decide) ?_
    refine lv_istore (lv' := [(4, .int 0), (3, .int 4), (2, .int 8), (0, .int 8), (1, .int 12)]) C.1.1 C.1.2.1 dX6_common_11 hl (by decide) rfl (fun ls hl => ?_)
    refine lv_iload_n C.1.1 C.1.2.1 dX6_common_13 rfl (lv_at hl 1 rfl) ?_
    refine lv_istore_n (lv' := [(2, .int 4), (4, .int 0), (3, .int 4), (0, .int 8), (1, .int 12)]) C.1.1 C.1.2.1 dX6_common_14 rfl hl (by decide) rfl (fun ls hl => ?_)
    refine lv_iload C.1.1 C.1.2.1 dX6_common_15 (lv_at hl 1 rfl) ?_
    refine lv_istore_n (lv' := [(3, .int 0), (2, .int 4), (4, .int 0), (0, .int 8), (1, .int 12)]) C.1.1 C.1.2.1 dX6_common_17 rfl hl (by decide) rfl (fun ls hl => ?_)
    refine lv_goto (tgt := 4) C.1.1 C.1.2.1 dX6_common_18 (by decide) ?_
    refine lv_iload_n C.1.1 C.1.2.1 dX6_common_4 rfl (lv_at hl 0 rfl) ?_
    refine lv_if_eq (tgt := 21) C.1.1 C.1.2.1 dX6_common_5 (by decide) (fun _ => ?_) (fun c_32 => absurd c_32 (by decide))
    refine lv_iload_n C.1.1 C.1.2.1 dX6_common_21 rfl (lv_at hl 1 rfl) ?_
    exact t_F C rfl hP hS rfl rfl dX6_common_22
  · have hl : lv_has ls 5 [(0, .int 9), (1, .int 12)] := hl
    refine lv_iload_n C.1.1 C.1.2.1 dX6_common_0 rfl (lv_at hl 0 rfl) ?_
    refine lv_istore_n (lv' := [(2, .int 9), (0, .int 9), (1, .int 12)]) C.1.1 C.1.2.1 dX6_common_1 rfl hl (by decide) rfl (fun ls hl => ?_)
    refine lv_iload_n C.1.1 C.1.2.1 dX6_common_2 rfl (lv_at hl 2 rfl) ?_
    refine lv_istore_n (lv' := [(3, .int 12), (2, .int 9), (0, .int 9), (1, .int 12)]) C.1.1 C.1.2.1 dX6_common_3 rfl hl (by decide) rfl (fun ls hl => ?_)
    refine lv_iload_n C.1.1 C.1.2.1 dX6_common_4 rfl (lv_at hl 0 rfl) ?_
    refine lv_if_eq (tgt := 21) C.1.1 C.1.2.1 dX6_common_5 (by decide) (fun c_33 => absurd c_33 (by decide)) (fun _ => ?_)
    refine lv_iload_n C.1.1 C.1.2.1 dX6_common_8 rfl (lv_at hl 1 rfl) ?_
    refine lv_iload_n C.1.1 C.1.2.1 dX6_common_9 rfl (lv_at hl 0 rfl) ?_
    refine lv_irem C.1.1 C.1.2.1 dX6_common_10 (by decide) ?_
    refine lv_topE 9 (by decide) ?_
    refine lv_istore (lv' := [(4, .int 9), (3, .int 12), (2, .int 9), (0, .int 9), (1, .int 12)]) C.1.1 C.1.2.1 dX6_common_11 hl (by decide) rfl (fun ls hl => ?_)
    refine lv_iload_n C.1.1 C.1.2.1 dX6_common_13 rfl (lv_at hl 1 rfl) ?_
    refine lv_istore_n (lv' := [(2, .int 12), (4, .int 9), (3, .int 12), (0, .int 9), (1, .int 12)]) C.1.1 C.1.2.1 dX6_common_14 rfl hl (by decide) rfl (fun ls hl => ?_)
    refine lv_iload C.1.1 C.1.2.1 dX6_common_15 (lv_at hl 1 rfl) ?_
    refine lv_istore_n (lv' := [(3, .int 9), (2, .int 12), (4, .int 9), (0, .int 9), (1, .int 12)]) C.1.1 C.1.2.1 dX6_common_17 rfl hl (by decide) rfl (fun ls hl => ?_)
    refine lv_goto (tgt := 4) C.1.1 C.1.2.1 dX6_common_18 (by decide) ?_
    refine lv_iload_n C.1.1 C.1.2.1 dX6_common_4 rfl (lv_at hl 0 rfl) ?_
    refine lv_if_eq (tgt := 21) C.1.1 C.1.2.1 dX6_common_5 (by decide) (fun c_34 => absurd c_34 (by decide)) (fun _ => ?_)
    refine lv_iload_n C.1.1 C.1.2.1 dX6_common_8 rfl (lv_at hl 1 rfl) ?_
    refine lv_iload_n C.1.1 C.1.2.1 dX6_common_9 rfl (lv_at hl 0 rfl) ?_
    refine lv_irem C.1.1 C.1.2.1 dX6_common_10 (by decide) ?_
    refine lv_topE 3 (by decide) ?_
    refine lv_istore (lv' := [(4, .int 3), (3, .int 9), (2, .int 12), (0, .int 9), (1, .int 12)]) C.1.1 C.1.2.1 dX6_common_11 hl (by decide) rfl (fun ls hl => ?_)
    refine lv_iload_n C.1.1 C.1.2.1 dX6_common_13 rfl (lv_at hl 1 rfl) ?_
    refine lv_istore_n (lv' := [(2, .int 9), (4, .int 3), (3, .int 9), (0, .int 9), (1, .int 12)]) C.1.1 C.1.2.1 dX6_common_14 rfl hl (by decide) rfl (fun ls hl => ?_)
    refine lv_iload C.1.1 C.1.2.1 dX6_common_15 (lv_at hl 1 rfl) ?_
    refine lv_istore_n (lv' := [(3, .int 3), (2, .int 9), (4, .int 3), (0, .int 9), (1, .int 12)]) C.1.1 C.1.2.1 dX6_common_17 rfl hl (by decide) rfl (fun ls hl => ?_)
    refine lv_goto (tgt := 4) C.1.1 C.1.2.1 dX6_common_18 (by decide) ?_
    refine lv_iload_n C.1.1 C.1.2.1 dX6_common_4 rfl (lv_at hl 0 rfl) ?_
    refine lv_if_eq (tgt := 21) C.1.1 C.1.2.1 dX6_common_5 (by decide) (fun c_35 => absurd c_35 (by decide)) (fun _ => ?_)
    refine lv_iload_n C.1.1 C.1.2.1 dX6_common_8 rfl (lv_at hl 1 rfl) ?_
    refine lv_iload_n C.1.1 C.1.2.1 dX6_common_9 rfl (lv_at hl 0 rfl) ?_
    refine lv_irem C.1.1 C.1.2.1 dX6_common_10 (by decide) ?_
    refine lv_topE 0 (by decide) ?_
    refine lv_istore (lv' := [(4, .int 0), (3, .int 3), (2, .int 9), (0, .int 9), (1, .int 12)]) C.1.1 C.1.2.1 dX6_common_11 hl (by decide) rfl (fun ls hl => ?_)
    refine lv_iload_n C.1.1 C.1.2.1 dX6_common_13 rfl (lv_at hl 1 rfl) ?_
    refine lv_istore_n (lv' := [(2, .int 3), (4, .int 0), (3, .int 3), (0, .int 9), (1, .int 12)]) C.1.1 C.1.2.1 dX6_common_14 rfl hl (by decide) rfl (fun ls hl => ?_)
    refine lv_iload C.1.1 C.1.2.1 dX6_common_15 (lv_at hl 1 rfl) ?_
    refine lv_istore_n (lv' := [(3, .int 0), (2, .int 3), (4, .int 0), (0, .int 9), (1, .int 12)]) C.1.1 C.1.2.1 dX6_common_17 rfl hl (by decide) rfl (fun ls hl => ?_)
    refine lv_goto (tgt := 4) C.1.1 C.1.2.1 dX6_common_18 (by decide) ?_
    refine lv_iload_n C.1.1 C.1.2.1 dX6_common_4 rfl (lv_at hl 0 rfl) ?_
    refine lv_if_eq (tgt := 21) C.1.1 C.1.2.1 dX6_common_5 (by decide) (fun _ => ?_) (fun c_36 => absurd c_36 (by decide))
    refine lv_iload_n C.1.1 C.1.2.1 dX6_common_21 rfl (lv_at hl 1 rfl) ?_
    exact t_F C rfl hP hS rfl rfl dX6_common_22
  · have hl : lv_has ls 5 [(0, .int 10), (1, .int 12)] := hl
    refine lv_iload_n C.1.1 C.1.2.1 dX6_common_0 rfl (lv_at hl 0 rfl) ?_
    refine lv_istore_n (lv' := [(2, .int 10), (0, .int 10), (1, .int 12)]) C.1.1 C.1.2.1 dX6_common_1 rfl hl (by decide) rfl (fun ls hl => ?_)
    refine lv_iload_n C.1.1 C.1.2.1 dX6_common_2 rfl (lv_at hl 2 rfl) ?_
    refine lv_istore_n (lv' := [(3, .int 12), (2, .int 10), (0, .int 10), (1, .int 12)]) C.1.1 C.1.2.1 dX6_common_3 rfl hl (by decide) rfl (fun ls hl => ?_)
    refine lv_iload_n C.1.1 C.1.2.1 dX6_common_4 rfl (lv_at hl 0 rfl) ?_
    refine lv_if_eq (tgt := 21) C.1.1 C.1.2.1 dX6_common_5 (by decide) (fun c_37 => absurd c_37 (by decide)) (fun _ => ?_)
    refine lv_iload_n C.1.1 C.1.2.1 dX6_common_8 rfl (lv_at hl 1 rfl) ?_
    refine lv_iload_n C.1.1 C.1.2.1 dX6_common_9 rfl (lv_at hl 0 rfl) ?_
    refine lv_irem C.1.1 C.1.2.1 dX6_common_10 (by decide) ?_
    refine lv_topE 10 (by decide) ?_
    refine lv_istore (lv' := [(4, .int 10), (3, .int 12), (2, .int 10), (0, .int 10), (1, .int 12)]) C.1.1 C.1.2.1 dX6_common_11 hl (by decide) rfl (fun ls hl => ?_)
    refine lv_iload_n C.1.1 C.1.2.1 dX6_common_13 rfl (lv_at hl 1 rfl) ?_
    refine lv_istore_n (lv' := [(2, .int 12), (4, .int 10), (3, .int 12), (0, .int 10), (1, .int 12)]) C.1.1 C.1.2.1 dX6_common_14 rfl hl (by decide) rfl (fun ls hl => ?_)
    refine lv_iload C.1.1 C.1.2.1 dX6_common_15 (lv_at hl 1 rfl) ?_
    refine lv_istore_n (lv' := [(3, .int 10), (2, .int 12), (4, .int 10), (0, .int 10), (1, .int 12)]) C.1.1 C.1.2.1 dX6_common_17 rfl hl (by decide) rfl (fun ls hl => ?_)
    refine lv_goto (tgt := 4) C.1.1 C.1.2.1 dX6_common_18 (by decide) ?_
    refine lv_iload_n C.1.1 C.1.2.1 dX6_common_4 rfl (lv_at hl 0 rfl) ?_
    refine lv_if_eq (tgt := 21) C.1.1 C.1.2.1 dX6_common_5 (by decide) (fun c_38 => absurd c_38 (by decide)) (fun _ => ?_)
    refine lv_iload_n C.1.1 C.1.2.1 dX6_common_8 rfl (lv_at hl 1 rfl) ?_
    refine lv_iload_n C.1.1 C.1.2.1 dX6_common_9 rfl (lv_at hl 0 rfl) ?_
    refine lv_irem C.1.1 C.1.2.1 dX6_common_10 (by decide) ?_
    refine lv_topE 2 (by decide) ?_
    refine lv_istore (lv' := [(4, .int 2), (3, .int 10), (2, .int 12), (0, .int 10), (1, .int 12)]) C.1.1 C.1.2.1 dX6_common_11 hl (by decide) rfl (fun ls hl => ?_)
    refine lv_iload_n C.1.1 C.1.2.1 dX6_common_13 rfl (lv_at hl 1 rfl) ?_
    refine lv_istore_n (lv' := [(2, .int 10), (4, .int 2), (3, .int 10), (0, .int 10), (1, .int 12)]) C.1.1 C.1.2.1 dX6_common_14 rfl hl (by decide) rfl (fun ls hl => ?_)
    refine lv_iload C.1.1 C.1.2.1 dX6_common_15 (lv_at hl 1 rfl) ?_
    refine lv_istore_n (lv' := [(3, .int 2), (2, .int 10), (4, .int 2), (0, .int 10), (1, .int 12)]) C.1.1 C.1.2.1 dX6_common_17 rfl hl (by decide) rfl (fun ls hl => ?_)
    refine lv_goto (tgt := 4) C.1.1 C.1.2.1 dX6_common_18 (by decide) ?_
    refine lv_iload_n C.1.1 C.1.2.1 dX6_common_4 rfl (lv_at hl 0 rfl) ?_
    refine lv_if_eq (tgt := 21) C.1.1 C.1.2.1 dX6_common_5 (by decide) (fun c_39 => absurd c_39 (by decide)) (fun _ => ?_)
    refine lv_iload_n C.1.1 C.1.2.1 dX6_common_8 rfl (lv_at hl 1 rfl) ?_
    refine lv_iload_n C.1.1 C.1.2.1 dX6_common_9 rfl (lv_at hl 0 rfl) ?_
    refine lv_irem C.1.1 C.1.2.1 dX6_common_10 (by decide) ?_
    refine lv_topE 0 (by decide) ?_
    refine lv_istore (lv' := [(4, .int 0), (3, .int 2), (2, .int 10), (0, .int 10), (1, .int 12)]) C.1.1 C.1.2.1 dX6_common_11 hl (by decide) rfl (fun ls hl => ?_)
    refine lv_iload_n C.1.1 C.1.2.1 dX6_common_13 rfl (lv_at hl 1 rfl) ?_
    refine lv_istore_n (lv' := [(2, .int 2), (4, .int 0), (3, .int 2), (0, .int 10), (1, .int 12)]) C.1.1 C.1.2.1 dX6_common_14 rfl hl (by decide) rfl (fun ls hl => ?_)
    refine lv_iload C.1.1 C.1.2.1 dX6_common_15 (lv_at hl 1 rfl) ?_
    refine lv_istore_n (lv' := [(3, .int 0), (2, .int 2), (4, .int 0), (0, .int 10), (1, .int 12)]) C.1.1 C.1.2.1 dX6_common_17 rfl hl (by decide) rfl (fun ls hl => ?_)
    refine lv_goto (tgt := 4) C.1.1 C.1.2.1 dX6_common_18 (by decide) ?_
    refine lv_iload_n C.1.1 C.1.2.1 dX6_common_4 rfl (lv_at hl 0 rfl) ?_
    refine lv_if_eq (tgt := 21) C.1.1 C.1.2.1 dX6_common_5 (by decide) (fun _ => ?_) (fun c_40 => absurd c_40 (by decide))
    refine lv_iload_n C.1.1 C.1.2.1 dX6_common_21 rfl (lv_at hl 1 rfl) ?_
    exact t_F C rfl hP hS rfl rfl dX6_common_22
  · have hl : lv_has ls 5 [(0, .int 11), (1, .int 12)] := hl
    refine lv_iload_n C.1.1 C.1.2.1 dX6_common_0 rfl (lv_at hl 0 rfl) ?_
    refine lv_istore_n (lv' := [(2, .int 11), (0, .int 11), (1, .int 12)]) C.1.1 C.1.2.1 dX6_common_1 rfl hl (by decide) rfl (fun ls hl => ?_)
    refine lv_iload_n C.1.1 C.1.2.1 dX6_common_2 rfl (lv_at hl 2 rfl) ?_
    refine lv_istore_n (lv' := [(3, .int 12), (2, .int 11), (0, .int 11), (1, .int 12)]) C.1.1 C.1.2.1 dX6_common_3 rfl hl (by decide) rfl (fun ls hl => ?_)
    refine lv_iload_n C.1.1 C.1.2.1 dX6_common_4 rfl (lv_at hl 0 rfl) ?_
    refine lv_if_eq (tgt := 21) C.1.1 C.1.2.1 dX6_common_5 (by decide) (fun c_41 => absurd c_41 (by decide)) (fun _ => ?_)
    refine lv_iload_n C.1.1 C.1.2.1 dX6_common_8 rfl (lv_at hl 1 rfl) ?_
    refine lv_iload_n C.1.1 C.1.2.1 dX6_common_9 rfl (lv_at hl 0 rfl) ?_
    refine lv_irem C.1.1 C.1.2.1 dX6_common_10 (by decide) ?_
    refine lv_topE 11 (by decide) ?_
    refine lv_istore (lv' := [(4, .int 11), (3, .int 12), (2, .int 11), (0, .int 11), (1, .int 12)]) C.1.1 C.1.2.1 dX6_common_11 hl (by decide) rfl (fun ls hl => ?_)
    refine lv_iload_n C.1.1 C.1.2.1 dX6_common_13 rfl (lv_at hl 1 rfl) ?_
    refine lv_istore_n (lv' := [(2, .int 12), (4, .int 11), (3, .int 12), (0, .int 11), (1, .int 12)]) C.1.1 C.1.2.1 dX6_common_14 rfl hl (by decide) rfl (fun ls hl => ?_)
    refine lv_iload C.1.1 C.1.2.1 dX6_common_15 (lv_at hl 1 rfl) ?_
    refine lv_istore_n (lv' := [(3, .int 11), (2, .int 12), (4, .int 11), (0, .int 11), (1, .int 12)]) C.1.1 C.1.2.1 dX6_common_17 rfl hl (by decide) rfl (fun ls hl => ?_)
    refine lv_goto (tgt := 4) C.1.1 C.1.2.1 dX6_common_18 (by decide) ?_
    refine lv_iload_n C.1.1 C.1.2.1 dX6_common_4 rfl (lv_at hl 0 rfl) ?_
    refine lv_if_eq (tgt := 21) C.1.1 C.1.2.1 dX6_common_5 (by decide) (fun c_42 => absurd c_42 (by decide)) (fun _ => ?_)
    refine lv_iload_n C.1.1 C.1.2.1 dX6_common_8 rfl (lv_at hl 1 rfl) ?_
    refine lv_iload_n C.1.1 C.1.2.1 dX6_common_9 rfl (lv_at hl 0 rfl) ?_
    refine lv_irem C.1.1 C.1.2.1 dX6_common_10 (by decide) ?_
    refine lv_topE 1 (by decide) ?_
    refine lv_istore (lv' := [(4, .int 1), (3, .int 11), (2, .int 12), (0, .int 11), (1, .int 12)]) C.1.1 C.1.2.1 dX6_common_11 hl (by decide) rfl (fun ls hl => ?_)
    refine lv_iload_n C.1.1 C.1.2.1 dX6_common_13 rfl (lv_at hl 1 rfl) ?_
    refine lv_istore_n (lv' := [(2, .int 11), (4, .int 1), (3, .int 11), (0, .int 11), (1, .int 12)]) C.1.1 C.1.2.1 dX6_common_14 rfl hl (by decide) rfl (fun ls hl => ?_)
    refine lv_iload C.1.1 C.1.2.1 dX6_common_15 (lv_at hl 1 rfl) ?_
    refine lv_istore_n (lv' := [(3, .int 1), (2, .int 11), (4, .int 1), (0, .int 11), (1, .int 12)]) C.1.1 C.1.2.1 dX6_common_17 rfl hl (by decide) rfl (fun ls hl => ?_)
    refine lv_goto (tgt := 4) C.1.1 C.1.2.1 dX6_common_18 (by decide) ?_
    refine lv_iload_n C.1.1 C.1.2.1 dX6_common_4 rfl (lv_at hl 0 rfl) ?_
    refine lv_if_eq (tgt := 21) C.1.1 C.1.2.1 dX6_common_5 (by decide) (fun c_43 => absurd c_43 (by decide)) (fun _ => ?_)
    refine lv_iload_n C.1.1 C.1.2.1 dX6_common_8 rfl (lv_at hl 1 rfl) ?_
    refine lv_iload_n C.1.1 C.1.2.1 dX6_common_9 rfl (lv_at hl 0 rfl) ?_
    refine lv_irem C.1.1 C.1.2.1 dX6_common_10 (by decide) ?_
    refine lv_topE 0 (by decide) ?_
    refine lv_istore (lv' := [(4, .int 0), (3, .int 1), (2, .int 11), (0, .int 11), (1, .int 12)]) C.1.1 C.1.2.1 dX6_common_11 hl (by decide) rfl (fun ls hl => ?_)
    refine lv_iload_n C.1.1 C.1.2.1 dX6_common_13 rfl (lv_at hl 1 rfl) ?_
    refine lv_istore_n (lv' := [(2, .int 1), (4, .int 0), (3, .int 1), (0, .int 11), (1, .int 12)]) C.1.1 C.1.2.1 dX6_common_14 rfl hl (by decide) rfl (fun ls hl => ?_)
    refine lv_iload C.1.1 C.1.2.1 dX6_common_15 (lv_at hl 1 rfl) ?_
    refine lv_istore_n (lv' := [(3, .int 0), (2, .int 1), (4, .int 0), (0, .int 11), (1, .int 12)]) C.1.1 C.1.2.1 dX6_common_17 rfl hl (by decide) rfl (fun ls hl => ?_)
    refine lv_goto (tgt := 4) C.1.1 C.1.2.1 dX6_common_18 (by decide) ?_
    refine lv_iload_n C.1.1 C.1.2.1 dX6_common_4 rfl (lv_at hl 0 rfl) ?_
    refine lv_if_eq (tgt := 21) C.1.1 C.1.2.1 dX6_common_5 (by decide) (fun _ => ?_) (fun c_44 => absurd c_44 (by decide))
    refine lv_iload_n C.1.1 C.1.2.1 dX6_common_21 rfl (lv_at hl 1 rfl) ?_
    exact t_F C rfl hP hS rfl rfl dX6_common_22
  · have hl : lv_has ls 5 [(0, .int 12), (1, .int 12)] := hl
    refine lv_iload_n C.1.1 C.1.2.1 dX6_common_0 rfl (lv_at hl 0 rfl) ?_
    refine lv_istore_n (lv' := [(2, .int 12), (0, .int 12), (1, .int 12)]) C.1.1 C.1.2.1 dX6_common_1 rfl hl (by decide) rfl (fun ls hl => ?_)
    refine lv_iload_n C.1.1 C.1.2.1 dX6_common_2 rfl (lv_at hl 2 rfl) ?_
    refine lv_istore_n (lv' := [(3, .int 12), (2, .int 12), (0, .int 12), (1, .int 12)]) C.1.1 C.1.2.1 dX6_common_3 rfl hl (by decide) rfl (fun ls hl => ?_)
    refine lv_iload_n C.1.1 C.1.2.1 dX6_common_4 rfl (lv_at hl 0 rfl) ?_
    refine lv_if_eq (tgt := 21) C.1.1 C.1.2.1 dX6_common_5 (by decide) (fun c_45 => absurd c_45 (by decide)) (fun _ => ?_)
    refine lv_iload_n C.1.1 C.1.2.1 dX6_common_8 rfl (lv_at hl 1 rfl) ?_
    refine lv_iload_n C.1.1 C.1.2.1 dX6_common_9 rfl (lv_at hl 0 rfl) ?_
    refine lv_irem C.1.1 C.1.2.1 dX6_common_10 (by decide) ?_
    refine lv_topE 0 (by decide) ?_
    refine lv_istore (lv' := [(4, .int 0), (3, .int 12), (2, .int 12), (0, .int 12), (1, .int 12)]) C.1.1 C.1.2.1 dX6_common_11 hl (by decide) rfl (fun ls hl => ?_)
    refine lv_iload_n C.1.1 C.1.2.1 dX6_common_13 rfl (lv_at hl 1 rfl) ?_
    refine lv_istore_n (lv' := [(2, .int 12), (4, .int 0), (3, .int 12), (0, .int 12), (1, .int 12)]) C.1.1 C.1.2.1 dX6_common_14 rfl hl (by decide) rfl (fun ls hl => ?_)
    refine lv_iload C.1.1 C.1.2.1 dX6_common_15 (lv_at hl 1 rfl) ?_
    refine lv_istore_n (lv' := [(3, .int 0), (2, .int 12), (4, .int 0), (0, .int 12), (1, .int 12)]) C.1.1 C.1.2.1 dX6_common_17 rfl hl (by decide) rfl (fun ls hl => ?_)
    refine lv_goto (tgt := 4) C.1.1 C.1.2.1 dX6_common_18 (by decide) ?_
    refine lv_iload_n C.1.1 C.1.2.1 dX6_common_4 rfl (lv_at hl 0 rfl) ?_
    refine lv_if_eq (tgt := 21) C.1.1 C.1.2.1 dX6_common_5 (by decide) (fun _ => ?_) (fun c_46 => absurd c_46 (by decide))
    refine lv_iload_n C.1.1 C.1.2.1 dX6_common_21 rfl (lv_at hl 1 rfl) ?_
    exact t_F C rfl hP hS rfl rfl dX6_common_22

abbrev rmX6_feed : Room := { frames := 1, cells := 0, slots := 0, locals := 25 }
set_option maxHeartbeats 4000000 in
set_option maxRecDepth 100000 in
theorem kX6_feed (l : Launch) (g : GG) (n : Nat) (v : SV) (x y : Int32) (T : Nat) (hT : v.1 53 7 = nI T) (hT2 : T ≤ 120) : Met l yX6_feed wsX6_feed rmX6_feed (PW g n v [.ref (gA g 53), .int x, .int y]) (QF g n ((feedM v x y).1) ((feedM v x y).2)) 0 0 (wA g n) := by
  refine Met.begin RX6 rfl (by decide) rfl (Nat.le_of_ble_eq_true rfl) ?_
  intro p e s m args below meth c ls ha C hP hS hl
  have hn : 64 ≤ n := C.2.1.1.2.1
  have hi6 : ∀ w ∈ u_ws RX6 TX6 17, w ∈ wsX6_feed := by decide +kernel
  have hl : lv_has ls 4 [(0, .ref (gA g 53)), (1, .int x), (2, .int y)] := hl
  refine lv_iload_n C.1.1 C.1.2.1 dX6_feed_0 rfl (lv_at hl 2 rfl) ?_
  refine lv_i2l (v := y.toInt64) C.1.1 C.1.2.1 dX6_feed_1 rfl ?_
  refine lv_lconst (v := 1) C.1.1 C.1.2.1 dX6_feed_2 rfl ?_
  refine lv_ldc2 (v := 4) C.1.1 C.1.2.1 C.1.2.2.2.1 (C.1.2.2.2.2 _ (List.mem_of_getElem? (i := 1) rfl)) dX6_feed_3 ?_
  refine a_B hS (run_S C hP hS hl.1 [.long y.toInt64, .long 1, .long 4] (kX6_in l g n v y.toInt64 1 4) gX6_feed_X6_in hdX6_in rfl ⟨rfl, rfl⟩ ⟨Nat.le_of_ble_eq_true rfl, Nat.le_of_ble_eq_true rfl⟩ rfl [] rfl (Nat.le_of_ble_eq_true rfl) dX6_feed_6 ⟨Nat.zero_le _, Nat.zero_le _⟩) (fun b_1 H locs hP hS => ?_) (fun b_1 H locs hP hS => ?_)
  · skip
    have b_1 := (in_iff2 1 5 (by decide) (by decide) (by decide)).mp b_1
    obtain ⟨jy, hljy, hjy, rfl⟩ := b_1
    refine lv_if_ne (tgt := 18) C.1.1 C.1.2.1 dX6_feed_9 (by decide) (fun _ => ?_) (fun c_2 => absurd c_2 (by decide))
    refine lv_aload_n C.1.1 C.1.2.1 dX6_feed_18 rfl (lv_at hl 0 rfl) ?_
    refine r_get C hP 53 6 (Nat.lt_of_lt_of_le (by decide) hn) rfl (by decide) rfl hi6 7 (by decide) (List.mem_of_getElem? (i := 2) rfl) rfl (val := .int (v.1 53 7)) rfl dX6_feed_19 ?_
    refine lv_topE (nI T) hT ?_
    refine lv_iload_n C.1.1 C.1.2.1 dX6_feed_22 rfl (lv_at hl 2 rfl) ?_
    refine lv_iadd C.1.1 C.1.2.1 dX6_feed_23 ?_
    refine lv_topE (nI (T + jy)) (nI_add T jy) ?_
    refine lv_bipush (v := 120) C.1.1 C.1.2.1 dX6_feed_24 rfl ?_
    refine lv_icmp_le (tgt := 35) C.1.1 C.1.2.1 dX6_feed_26 (by decide) (fun c_3 => ?_) (fun c_3 => ?_)
    · rw [show (nI (T + jy) ≤ 120) = (T + jy ≤ 120) from propext (nI_leI (a := T + jy) (b := 120) (by omega) (by omega))] at c_3
      have h14 : jy = 1 ∨ jy = 2 ∨ jy = 3 ∨ jy = 4 := by omega
      rcases h14 with rfl | rfl | rfl | rfl
      · have hl : lv_has ls 4 [(0, .ref (gA g 53)), (1, .int x), (2, .int 1)] := hl
        refine lv_iload_n C.1.1 C.1.2.1 dX6_feed_35 rfl (lv_at hl 2 rfl) ?_
        refine lv_iconst (v := 1) C.1.1 C.1.2.1 dX6_feed_36 rfl ?_
        refine lv_isub C.1.1 C.1.2.1 dX6_feed_37 ?_
        refine lv_topE 0 (by decide) ?_
        refine lv_istore_n (lv' := [(3, .int 0), (0, .ref (gA g 53)), (1, .int x), (2, .int 1)]) C.1.1 C.1.2.1 dX6_feed_38 rfl hl (by decide) rfl (fun ls hl => ?_)
        refine lv_iload_n C.1.1 C.1.2.1 dX6_feed_39 rfl (lv_at hl 0 rfl) ?_
        refine lv_if_lt (tgt := 75) C.1.1 C.1.2.1 dX6_feed_40 (by decide) (fun c_4 => absurd c_4 (by decide)) (fun _ => ?_)
        refine lv_aload_n C.1.1 C.1.2.1 dX6_feed_43 rfl (lv_at hl 1 rfl) ?_
        refine r_get C hP 53 6 (Nat.lt_of_lt_of_le (by decide) hn) rfl (by decide) rfl hi6 6 (by decide) (List.mem_of_getElem? (i := 3) rfl) rfl (val := .ref (gA g 59)) rfl dX6_feed_44 ?_
        refine lv_aload_n C.1.1 C.1.2.1 dX6_feed_47 rfl (lv_at hl 1 rfl) ?_
        refine r_get C hP 53 6 (Nat.lt_of_lt_of_le (by decide) hn) rfl (by decide) rfl hi6 7 (by decide) (List.mem_of_getElem? (i := 2) rfl) rfl (val := .int (v.1 53 7)) rfl dX6_feed_48 ?_
        refine lv_topE (nI T) hT ?_
        refine lv_iload_n C.1.1 C.1.2.1 dX6_feed_51 rfl (lv_at hl 2 rfl) ?_
        refine lv_bipush (v := 8) C.1.1 C.1.2.1 dX6_feed_52 rfl ?_
        refine lv_iload_n C.1.1 C.1.2.1 dX6_feed_54 rfl (lv_at hl 0 rfl) ?_
        refine lv_imul C.1.1 C.1.2.1 dX6_feed_55 ?_
        refine lv_topE 0 (by decide) ?_
        refine lv_ishr C.1.1 C.1.2.1 dX6_feed_56 ?_
        refine lv_i2b (v := (x >>> (0 &&& 31)).toInt8.toInt32) C.1.1 C.1.2.1 dX6_feed_57 rfl ?_
        refine r_bast C hP hS 59 (Nat.lt_of_lt_of_le (by decide) hn) rfl T rfl (N := 120) rfl (by decide) (by omega) (fb_byte_twice _) dX6_feed_58 (fun H locs hP hS => ?_)
        obtain ⟨v_5, hv_5⟩ : ∃ zz, zz = up v 59 T ((x >>> (0 &&& 31)).toInt8.toInt32) := ⟨_, rfl⟩
        rw [← hv_5] at hP
        refine lv_aload_n C.1.1 C.1.2.1 dX6_feed_59 rfl (lv_at hl 1 rfl) ?_
        refine lv_dup C.1.1 C.1.2.1 dX6_feed_60 rfl ?_
        refine r_get C hP 53 6 (Nat.lt_of_lt_of_le (by decide) hn) rfl (by decide) rfl hi6 7 (by decide) (List.mem_of_getElem? (i := 2) rfl) rfl (val := .int (v_5.1 53 7)) rfl dX6_feed_61 ?_
        refine lv_topE (nI T) (by simp [hv_5, upw, va_up, upd, hT, nI_1]) ?_
        refine lv_iconst (v := 1) C.1.1 C.1.2.1 dX6_feed_64 rfl ?_
        refine lv_iadd C.1.1 C.1.2.1 dX6_feed_65 ?_
        refine lv_topE (nI (T + 1)) (nI_add T 1) ?_
        refine r_put C hP hS 53 6 (Nat.lt_of_lt_of_le (by decide) hn) rfl (by decide) rfl hi6 tyX6 tyX6_ok nmX6 7 (by decide) (List.mem_of_getElem? (i := 2) rfl) rfl rfl rfl rfl rfl (Nat.le_of_ble_eq_true rfl) dX6_feed_66 (fun H locs hP hS => ?_)
        obtain ⟨v_7, hv_7⟩ : ∃ zz, zz = up v_5 53 7 (nI (T + 1)) := ⟨_, rfl⟩
        rw [← hv_7] at hP
        refine lv_iinc (v := (-1)) (lv' := [(3, .int (-1)), (0, .ref (gA g 53)), (1, .int x), (2, .int 1)]) C.1.1 C.1.2.1 dX6_feed_69 hl (k := 0) rfl (by decide) (by decide) rfl (fun ls hl => ?_)
        refine lv_goto (tgt := 39) C.1.1 C.1.2.1 dX6_feed_72 (by decide) ?_
        refine lv_iload_n C.1.1 C.1.2.1 dX6_feed_39 rfl (lv_at hl 0 rfl) ?_
        refine lv_if_lt (tgt := 75) C.1.1 C.1.2.1 dX6_feed_40 (by decide) (fun _ => ?_) (fun c_8 => absurd c_8 (by decide))
        refine lv_aload_n C.1.1 C.1.2.1 dX6_feed_75 rfl (lv_at hl 1 rfl) ?_
        refine r_get C hP 53 6 (Nat.lt_of_lt_of_le (by decide) hn) rfl (by decide) rfl hi6 7 (by decide) (List.mem_of_getElem? (i := 2) rfl) rfl (val := .int (v_7.1 53 7)) rfl dX6_feed_76 ?_
        refine lv_topE (nI (T + 1)) (by simp [hv_5, hv_7, upw, va_up, upd, hT, nI_1]) ?_
        exact t_F C rfl hP hS (by rw [feedM, cif_pos ⟨1, by decide, by decide, rfl⟩, hT, tn_nI (show T < 2 ^ 31 by omega), if_pos (by exact c_3)]; rfl) (by rw [feedM, cif_pos ⟨1, by decide, by decide, rfl⟩, hT, tn_nI (show T < 2 ^ 31 by omega), if_pos (by exact c_3), hv_7, hv_5]; rfl) dX6_feed_79
      · have hl : lv_has ls 4 [(0, .ref (gA g 53)), (1, .int x), (2, .int 2)] := hl
        refine lv_iload_n C.1.1 C.1.2.1 dX6_feed_35 rfl (lv_at hl 2 rfl) ?_
        refine lv_iconst (v := 1) C.1.1 C.1.2.1 dX6_feed_36 rfl ?_
        refine lv_isub C.1.1 C.1.2.1 dX6_feed_37 ?_
        refine lv_topE 1 (by decide) ?_
        refine lv_istore_n (lv' := [(3, .int 1), (0, .ref (gA g 53)), (1, .int x), (2, .int 2)]) C.1.1 C.1.2.1 dX6_feed_38 rfl hl (by decide) rfl (fun ls hl => ?_)
        refine lv_iload_n C.1.1 C.1.2.1 dX6_feed_39 rfl (lv_at hl 0 rfl) ?_
        refine lv_if_lt (tgt := 75) C.1.1 C.1.2.1 dX6_feed_40 (by decide) (fun c_9 => absurd c_9 (by decide)) (fun _ => ?_)
        refine lv_aload_n C.1.1 C.1.2.1 dX6_feed_43 rfl (lv_at hl 1 rfl) ?_
        refine r_get C hP 53 6 (Nat.lt_of_lt_of_le (by decide) hn) rfl (by decide) rfl hi6 6 (by decide) (List.mem_of_getElem? (i := 3) rfl) rfl (val := .ref (gA g 59)) rfl dX6_feed_44 ?_
        refine lv_aload_n C.1.1 C.1.2.1 dX6_feed_47 rfl (lv_at hl 1 rfl) ?_
        refine r_get C hP 53 6 (Nat.lt_of_lt_of_le (by decide) hn) rfl (by decide) rfl hi6 7 (by decide) (List.mem_of_getElem? (i := 2) rfl) rfl (val := .int (v.1 53 7)) rfl dX6_feed_48 ?_
        refine lv_topE (nI T) hT ?_
        refine lv_iload_n C.1.1 C.1.2.1 dX6_feed_51 rfl (lv_at hl 2 rfl) ?_
        refine lv_bipush (v := 8) C.1.1 C.1.2.1 dX6_feed_52 rfl ?_
        refine lv_iload_n C.1.1 C.1.2.1 dX6_feed_54 rfl (lv_at hl 0 rfl) ?_
        refine lv_imul C.1.1 C.1.2.1 dX6_feed_55 ?_
        refine lv_topE 8 (by decide) ?_
        refine lv_ishr C.1.1 C.1.2.1 dX6_feed_56 ?_
        refine lv_i2b (v := (x >>> (8 &&& 31)).toInt8.toInt32) C.1.1 C.1.2.1 dX6_feed_57 rfl ?_
        refine r_bast C hP hS 59 (Nat.lt_of_lt_of_le (by decide) hn) rfl T rfl (N := 120) rfl (by decide) (by omega) (fb_byte_twice _) dX6_feed_58 (fun H locs hP hS => ?_)
        obtain ⟨v_10, hv_10⟩ : ∃ zz, zz = up v 59 T ((x >>> (8 &&& 31)).toInt8.toInt32) := ⟨_, rfl⟩
        rw [← hv_10] at hP
        refine lv_aload_n C.1.1 C.1.2.1 dX6_feed_59 rfl (lv_at hl 1 rfl) ?_
        refine lv_dup C.1.1 C.1.2.1 dX6_feed_60 rfl ?_
        refine r_get C hP 53 6 (Nat.lt_of_lt_of_le (by decide) hn) rfl (by decide) rfl hi6 7 (by decide) (List.mem_of_getElem? (i := 2) rfl) rfl (val := .int (v_10.1 53 7)) rfl dX6_feed_61 ?_
        refine lv_topE (nI T) (by simp [hv_10, upw, va_up, upd, hT, nI_1]) ?_
        refine lv_iconst (v := 1) C.1.1 C.1.2.1 dX6_feed_64 rfl ?_
        refine lv_iadd C.1.1 C.1.2.1 dX6_feed_65 ?_
        refine lv_topE (nI (T + 1)) (nI_add T 1) ?_
        refine r_put C hP hS 53 6 (Nat.lt_of_lt_of_le (by decide) hn) rfl (by decide) rfl hi6 tyX6 tyX6_ok nmX6 7 (by decide) (List.mem_of_getElem? (i := 2) rfl) rfl rfl rfl rfl rfl (Nat.le_of_ble_eq_true rfl) dX6_feed_66 (fun H locs hP hS => ?_)
        obtain ⟨v_12, hv_12⟩ : ∃ zz, zz = up v_10 53 7 (nI (T + 1)) := ⟨_, rfl⟩
        rw [← hv_12] at hP
        refine lv_iinc (v := 0) (lv' := [(3, .int 0), (0, .ref (gA g 53)), (1, .int x), (2, .int 2)]) C.1.1 C.1.2.1 dX6_feed_69 hl (k := 0) rfl (by decide) (by decide) rfl (fun ls hl => ?_)
        refine lv_goto (tgt := 39) C.1.1 C.1.2.1 dX6_feed_72 (by decide) ?_
        refine lv_iload_n C.1.1 C.1.2.1 dX6_feed_39 rfl (lv_at hl 0 rfl) ?_
        refine lv_if_lt (tgt := 75) C.1.1 C.1.2.1 dX6_feed_40 (by decide) (fun c_13 => absurd c_13 (by decide)) (fun _ => ?_)
        refine lv_aload_n C.1.1 C.1.2.1 dX6_feed_43 rfl (lv_at hl 1 rfl) ?_
        refine r_get C hP 53 6 (Nat.lt_of_lt_of_le (by decide) hn) rfl (by decide) rfl hi6 6 (by decide) (List.mem_of_getElem? (i := 3) rfl) rfl (val := .ref (gA g 59)) rfl dX6_feed_44 ?_
        refine lv_aload_n C.1.1 C.1.2.1 dX6_feed_47 rfl (lv_at hl 1 rfl) ?_
        refine r_get C hP 53 6 (Nat.lt_of_lt_of_le (by decide) hn) rfl (by decide) rfl hi6 7 (by decide) (List.mem_of_getElem? (i := 2) rfl) rfl (val := .int (v_12.1 53 7)) rfl dX6_feed_48 ?_
        refine lv_topE (nI (T + 1)) (by simp [hv_10, hv_12, upw, va_up, upd, hT, nI_1]) ?_
        refine lv_iload_n C.1.1 C.1.2.1 dX6_feed_51 rfl (lv_at hl 2 rfl) ?_
        refine lv_bipush (v := 8) C.1.1 C.1.2.1 dX6_feed_52 rfl ?_
        refine lv_iload_n C.1.1 C.1.2.1 dX6_feed_54 rfl (lv_at hl 0 rfl) ?_
        refine lv_imul C.1.1 C.1.2.1 dX6_feed_55 ?_
        refine lv_topE 0 (by decide) ?_
        refine lv_ishr C.1.1 C.1.2.1 dX6_feed_56 ?_
        refine lv_i2b (v := (x >>> (0 &&& 31)).toInt8.toInt32) C.1.1 C.1.2.1 dX6_feed_57 rfl ?_
        refine r_bast C hP hS 59 (Nat.lt_of_lt_of_le (by decide) hn) rfl (T + 1) rfl (N := 120) rfl (by decide) (by omega) (fb_byte_twice _) dX6_feed_58 (fun H locs hP hS => ?_)
        obtain ⟨v_14, hv_14⟩ : ∃ zz, zz = up v_12 59 (T + 1) ((x >>> (0 &&& 31)).toInt8.toInt32) := ⟨_, rfl⟩
        rw [← hv_14] at hP
        refine lv_aload_n C.1.1 C.1.2.1 dX6_feed_59 rfl (lv_at hl 1 rfl) ?_
        refine lv_dup C.1.1 C.1.2.1 dX6_feed_60 rfl ?_
        refine r_get C hP 53 6 (Nat.lt_of_lt_of_le (by decide) hn) rfl (by decide) rfl hi6 7 (by decide) (List.mem_of_getElem? (i := 2) rfl) rfl (val := .int (v_14.1 53 7)) rfl dX6_feed_61 ?_
        refine lv_topE (nI (T + 1)) (by simp [hv_10, hv_12, hv_14, upw, va_up, upd, hT, nI_1]) ?_
        refine lv_iconst (v := 1) C.1.1 C.1.2.1 dX6_feed_64 rfl ?_
        refine lv_iadd C.1.1 C.1.2.1 dX6_feed_65 ?_
        refine lv_topE (nI ((T + 1) + 1)) (nI_add (T + 1) 1) ?_
        refine r_put C hP hS 53 6 (Nat.lt_of_lt_of_le (by decide) hn) rfl (by decide) rfl hi6 tyX6 tyX6_ok nmX6 7 (by decide) (List.mem_of_getElem? (i := 2) rfl) rfl rfl rfl rfl rfl (Nat.le_of_ble_eq_true rfl) dX6_feed_66 (fun H locs hP hS => ?_)
        obtain ⟨v_16, hv_16⟩ : ∃ zz, zz = up v_14 53 7 (nI ((T + 1) + 1)) := ⟨_, rfl⟩
        rw [← hv_16] at hP
        refine lv_iinc (v := (-1)) (lv' := [(3, .int (-1)), (0, .ref (gA g 53)), (1, .int x), (2, .int 2)]) C.1.1 C.1.2.1 dX6_feed_69 hl (k := 0) rfl (by decide) (by decide) rfl (fun ls hl => ?_)
        refine lv_goto (tgt := 39) C.1.1 C.1.2.1 dX6_feed_72 (by decide) ?_
        refine lv_iload_n C.1.1 C.1.2.1 dX6_feed_39 rfl (lv_at hl 0 rfl) ?_
        refine lv_if_lt (tgt := 75) C.1.1 C.1.2.1 dX6_feed_40 (by decide) (fun _ => ?_) (fun c_17 => absurd c_17 (by decide))
        refine lv_aload_n C.1.1 C.1.2.1 dX6_feed_75 rfl (lv_at hl 1 rfl) ?_
        refine r_get C hP 53 6 (Nat.lt_of_lt_of_le (by decide) hn) rfl (by decide) rfl hi6 7 (by decide) (List.mem_of_getElem? (i := 2) rfl) rfl (val := .int (v_16.1 53 7)) rfl dX6_feed_76 ?_
        refine lv_topE (nI (T + 1 + 1)) (by simp [hv_10, hv_12, hv_14, hv_16, upw, va_up, upd, hT, nI_1]) ?_
        exact t_F C rfl hP hS (by rw [feedM, cif_pos ⟨2, by decide, by decide, rfl⟩, hT, tn_nI (show T < 2 ^ 31 by omega), if_pos (by exact c_3)]; rfl) (by rw [feedM, cif_pos ⟨2, by decide, by decide, rfl⟩, hT, tn_nI (show T < 2 ^ 31 by omega), if_pos (by exact c_3), hv_16, hv_14, hv_12, hv_10]; rfl) dX6_feed_79
      · have hl : lv_has ls 4 [(0, .ref (gA g 53)), (1, .int x), (2, .int 3)] := hl
        refine lv_iload_n C.1.1 C.1.2.1 dX6_feed_35 rfl (lv_at hl 2 rfl) ?_
        refine lv_iconst (v := 1) C.1.1 C.1.2.1 dX6_feed_36 rfl ?_
        refine lv_isub C.1.1 C.1.2.1 dX6_feed_37 ?_
        refine lv_topE 2 (by decide) ?_
        refine lv_istore_n (lv' := [(3, .int 2), (0, .ref (gA g 53)), (1, .int x), (2, .int 3)]) C.1.1 C.1.2.1 dX6_feed_38 rfl hl (by decide) rfl (fun ls hl => ?_)
        refine lv_iload_n C.1.1 C.1.2.1 dX6_feed_39 rfl (lv_at hl 0 rfl) ?_
        refine lv_if_lt (tgt := 75) C.1.1 C.1.2.1 dX6_feed_40 (by decide) (fun c_18 => absurd c_18 (by decide)) (fun _ => ?_)
        refine lv_aload_n C.1.1 C.1.2.1 dX6_feed_43 rfl (lv_at hl 1 rfl) ?_
        refine r_get C hP 53 6 (Nat.lt_of_lt_of_le (by decide) hn) rfl (by decide) rfl hi6 6 (by decide) (List.mem_of_getElem? (i := 3) rfl) rfl (val := .ref (gA g 59)) rfl dX6_feed_44 ?_
        refine lv_aload_n C.1.1 C.1.2.1 dX6_feed_47 rfl (lv_at hl 1 rfl) ?_
        refine r_get C hP 53 6 (Nat.lt_of_lt_of_le (by decide) hn) rfl (by decide) rfl hi6 7 (by decide) (List.mem_of_getElem? (i := 2) rfl) rfl (val := .int (v.1 53 7)) rfl dX6_feed_48 ?_
        refine lv_topE (nI T) hT ?_
        refine lv_iload_n C.1.1 C.1.2.1 dX6_feed_51 rfl (lv_at hl 2 rfl) ?_
        refine lv_bipush (v := 8) C.1.1 C.1.2.1 dX6_feed_52 rfl ?_
        refine lv_iload_n C.1.1 C.1.2.1 dX6_feed_54 rfl (lv_at hl 0 rfl) ?_
        refine lv_imul C.1.1 C.1.2.1 dX6_feed_55 ?_
        refine lv_topE 16 (by decide) ?_
        refine lv_ishr C.1.1 C.1.2.1 dX6_feed_56 ?_
        refine lv_i2b (v := (x >>> (16 &&& 31)).toInt8.toInt32) C.1.1 C.1.2.1 dX6_feed_57 rfl ?_
        refine r_bast C hP hS 59 (Nat.lt_of_lt_of_le (by decide) hn) rfl T rfl (N := 120) rfl (by decide) (by omega) (fb_byte_twice _) dX6_feed_58 (fun H locs hP hS => ?_)
        obtain ⟨v_19, hv_19⟩ : ∃ zz, zz = up v 59 T ((x >>> (16 &&& 31)).toInt8.toInt32) := ⟨_, rfl⟩
        rw [← hv_19] at hP
        refine lv_aload_n C.1.1 C.1.2.1 dX6_feed_59 rfl (lv_at hl 1 rfl) ?_
        refine lv_dup C.1.1 C.1.2.1 dX6_feed_60 rfl ?_
        refine r_get C hP 53 6 (Nat.lt_of_lt_of_le (by decide) hn) rfl (by decide) rfl hi6 7 (by decide) (List.mem_of_getElem? (i := 2) rfl) rfl (val := .int (v_19.1 53 7)) rfl dX6_feed_61 ?_
        refine lv_topE (nI T) (by simp [hv_19, upw, va_up, upd, hT, nI_1]) ?_
        refine lv_iconst (v := 1) C.1.1 C.1.2.1 dX6_feed_64 rfl ?_
        refine lv_iadd C.1.1 C.1.2.1 dX6_feed_65 ?_
        refine lv_topE (nI (T + 1)) (nI_add T 1) ?_
        refine r_put C hP hS 53 6 (Nat.lt_of_lt_of_le (by decide) hn) rfl (by decide) rfl hi6 tyX6 tyX6_ok nmX6 7 (by decide) (List.mem_of_getElem? (i := 2) rfl) rfl rfl rfl rfl rfl (Nat.le_of_ble_eq_true rfl) dX6_feed_66 (fun H locs hP hS => ?_)
        obtain ⟨v_21, hv_21⟩ : ∃ zz, zz = up v_19 53 7 (nI (T + 1)) := ⟨_, rfl⟩
        rw [← hv_21] at hP
        refine lv_iinc (v := 1) (lv' := [(3, .int 1), (0, .ref (gA g 53)), (1, .int x), (2, .int 3)]) C.1.1 C.1.2.1 dX6_feed_69 hl (k := 0) rfl (by decide) (by decide) rfl (fun ls hl => ?_)
        refine lv_goto (tgt := 39) C.1.1 C.1.2.1 dX6_feed_72 (by decide) ?_
        refine lv_iload_n C.1.1 C.1.2.1 dX6_feed_39 rfl (lv_at hl 0 rfl) ?_
        refine lv_if_lt (tgt := 75) C.1.1 C.1.2.1 dX6_feed_40 (by decide) (fun c_22 => absurd c_22 (by decide)) (fun _ => ?_)
        refine lv_aload_n C.1.1 C.1.2.1 dX6_feed_43 rfl (lv_at hl 1 rfl) ?_
        refine r_get C hP 53 6 (Nat.lt_of_lt_of_le (by decide) hn) rfl (by decide) rfl hi6 6 (by decide) (List.mem_of_getElem? (i := 3) rfl) rfl (val := .ref (gA g 59)) rfl dX6_feed_44 ?_
        refine lv_aload_n C.1.1 C.1.2.1 dX6_feed_47 rfl (lv_at hl 1 rfl) ?_
        refine r_get C hP 53 6 (Nat.lt_of_lt_of_le (by decide) hn) rfl (by decide) rfl hi6 7 (by decide) (List.mem_of_getElem? (i := 2) rfl) rfl (val := .int (v_21.1 53 7)) rfl dX6_feed_48 ?_
        refine lv_topE (nI (T + 1)) (by simp [hv_19, hv_21, upw, va_up, upd, hT, nI_1]) ?_
        refine lv_iload_n C.1.1 C.1.2.1 dX6_feed_51 rfl (lv_at hl 2 rfl) ?_
        refine lv_bipush (v := 8) C.1.1 C.1.2.1 dX6_feed_52 rfl ?_
        refine lv_iload_n C.1.1 C.1.2.1 dX6_feed_54 rfl (lv_at hl 0 rfl) ?_
        refine lv_imul C.1.1 C.1.2.1 dX6_feed_55 ?_
        refine lv_topE 8 (by decide) ?_
        refine lv_ishr C.1.1 C.1.2.1 dX6_feed_56 ?_
        refine lv_i2b (v := (x >>> (8 &&& 31)).toInt8.toInt32) C.1.1 C.1.2.1 dX6_feed_57 rfl ?_
        refine r_bast C hP hS 59 (Nat.lt_of_lt_of_le (by decide) hn) rfl (T + 1) rfl (N := 120) rfl (by decide) (by omega) (fb_byte_twice _) dX6_feed_58 (fun H locs hP hS => ?_)
        obtain ⟨v_23, hv_23⟩ : ∃ zz, zz = up v_21 59 (T + 1) ((x >>> (8 &&& 31)).toInt8.toInt32) := ⟨_, rfl⟩
        rw [← hv_23] at hP
        refine lv_aload_n C.1.1 C.1.2.1 dX6_feed_59 rfl (lv_at hl 1 rfl) ?_
        refine lv_dup C.1.1 C.1.2.1 dX6_feed_60 rfl ?_
        refine r_get C hP 53 6 (Nat.lt_of_lt_of_le (by decide) hn) rfl (by decide) rfl hi6 7 (by decide) (List.mem_of_getElem? (i := 2) rfl) rfl (val := .int (v_23.1 53 7)) rfl dX6_feed_61 ?_
        refine lv_topE (nI (T + 1)) (by simp [hv_19, hv_21, hv_23, upw, va_up, upd, hT, nI_1]) ?_
        refine lv_iconst (v := 1) C.1.1 C.1.2.1 dX6_feed_64 rfl ?_
        refine lv_iadd C.1.1 C.1.2.1 dX6_feed_65 ?_
        refine lv_topE (nI ((T + 1) + 1)) (nI_add (T + 1) 1) ?_
        refine r_put C hP hS 53 6 (Nat.lt_of_lt_of_le (by decide) hn) rfl (by decide) rfl hi6 tyX6 tyX6_ok nmX6 7 (by decide) (List.mem_of_getElem? (i := 2) rfl) rfl rfl rfl rfl rfl (Nat.le_of_ble_eq_true rfl) dX6_feed_66 (fun H locs hP hS => ?_)
        obtain ⟨v_25, hv_25⟩ : ∃ zz, zz = up v_23 53 7 (nI ((T + 1) + 1)) := ⟨_, rfl⟩
        rw [← hv_25] at hP
        refine lv_iinc (v := 0) (lv' := [(3, .int 0), (0, .ref (gA g 53)), (1, .int x), (2, .int 3)]) C.1.1 C.1.2.1 dX6_feed_69 hl (k := 0) rfl (by decide) (by decide) rfl (fun ls hl => ?_)
        refine lv_goto (tgt := 39) C.1.1 C.1.2.1 dX6_feed_72 (by decide) ?_
        refine lv_iload_n C.1.1 C.1.2.1 dX6_feed_39 rfl (lv_at hl 0 rfl) ?_
        refine lv_if_lt (tgt := 75) C.1.1 C.1.2.1 dX6_feed_40 (by decide) (fun c_26 => absurd c_26 (by decide)) (fun _ => ?_)
        refine lv_aload_n C.1.1 C.1.2.1 dX6_feed_43 rfl (lv_at hl 1 rfl) ?_
        refine r_get C hP 53 6 (Nat.lt_of_lt_of_le (by decide) hn) rfl (by decide) rfl hi6 6 (by decide) (List.mem_of_getElem? (i := 3) rfl) rfl (val := .ref (gA g 59)) rfl dX6_feed_44 ?_
        refine lv_aload_n C.1.1 C.1.2.1 dX6_feed_47 rfl (lv_at hl 1 rfl) ?_
        refine r_get C hP 53 6 (Nat.lt_of_lt_of_le (by decide) hn) rfl (by decide) rfl hi6 7 (by decide) (List.mem_of_getElem? (i := 2) rfl) rfl (val := .int (v_25.1 53 7)) rfl dX6_feed_48 ?_
        refine lv_topE (nI (T + 1 + 1)) (by simp [hv_19, hv_21, hv_23, hv_25, upw, va_up, upd, hT, nI_1]) ?_
        refine lv_iload_n C.1.1 C.1.2.1 dX6_feed_51 rfl (lv_at hl 2 rfl) ?_
        refine lv_bipush (v := 8) C.1.1 C.1.2.1 dX6_feed_52 rfl ?_
        refine lv_iload_n C.1.1 C.1.2.1 dX6_feed_54 rfl (lv_at hl 0 rfl) ?_
        refine lv_imul C.1.1 C.1.2.1 dX6_feed_55 ?_
        refine lv_topE 0 (by decide) ?_
        refine lv_ishr C.1.1 C.1.2.1 dX6_feed_56 ?_
        refine lv_i2b (v := (x >>> (0 &&& 31)).toInt8.toInt32) C.1.1 C.1.2.1 dX6_feed_57 rfl ?_
        refine r_bast C hP hS 59 (Nat.lt_of_lt_of_le (by decide) hn) rfl (T + 1 + 1) rfl (N := 120) rfl (by decide) (by omega) (fb_byte_twice _) dX6_feed_58 (fun H locs hP hS => ?_)
        obtain ⟨v_27, hv_27⟩ : ∃ zz, zz = up v_25 59 (T + 1 + 1) ((x >>> (0 &&& 31)).toInt8.toInt32) := ⟨_, rfl⟩
        rw [← hv_27] at hP
        refine lv_aload_n C.1.1 C.1.2.1 dX6_feed_59 rfl (lv_at hl 1 rfl) ?_
        refine lv_dup C.1.1 C.1.2.1 dX6_feed_60 rfl ?_
        refine r_get C hP 53 6 (Nat.lt_of_lt_of_le (by decide) hn) rfl (by decide) rfl hi6 7 (by decide) (List.mem_of_getElem? (i := 2) rfl) rfl (val := .int (v_27.1 53 7)) rfl dX6_feed_61 ?_
        refine lv_topE (nI (T + 1 + 1)) (by simp [hv_19, hv_21, hv_23, hv_25, hv_27, upw, va_up, upd, hT, nI_1]) ?_
        refine lv_iconst (v := 1) C.1.1 C.1.2.1 dX6_feed_64 rfl ?_
        refine lv_iadd C.1.1 C.1.2.1 dX6_feed_65 ?_
        refine lv_topE (nI ((T + 1 + 1) + 1)) (nI_add (T + 1 + 1) 1) ?_
        refine r_put C hP hS 53 6 (Nat.lt_of_lt_of_le (by decide) hn) rfl (by decide) rfl hi6 tyX6 tyX6_ok nmX6 7 (by decide) (List.mem_of_getElem? (i := 2) rfl) rfl rfl rfl rfl rfl (Nat.le_of_ble_eq_true rfl) dX6_feed_66 (fun H locs hP hS => ?_)
        obtain ⟨v_29, hv_29⟩ : ∃ zz, zz = up v_27 53 7 (nI ((T + 1 + 1) + 1)) := ⟨_, rfl⟩
        rw [← hv_29] at hP
        refine lv_iinc (v := (-1)) (lv' := [(3, .int (-1)), (0, .ref (gA g 53)), (1, .int x), (2, .int 3)]) C.1.1 C.1.2.1 dX6_feed_69 hl (k := 0) rfl (by decide) (by decide) rfl (fun ls hl => ?_)
        refine lv_goto (tgt := 39) C.1.1 C.1.2.1 dX6_feed_72 (by decide) ?_
        refine lv_iload_n C.1.1 C.1.2.1 dX6_feed_39 rfl (lv_at hl 0 rfl) ?_
        refine lv_if_lt (tgt := 75) C.1.1 C.1.2.1 dX6_feed_40 (by decide) (fun _ => ?_) (fun c_30 => absurd c_30 (by decide))
        refine lv_aload_n C.1.1 C.1.2.1 dX6_feed_75 rfl (lv_at hl 1 rfl) ?_
        refine r_get C hP 53 6 (Nat.lt_of_lt_of_le (by decide) hn) rfl (by decide) rfl hi6 7 (by decide) (List.mem_of_getElem? (i := 2) rfl) rfl (val := .int (v_29.1 53 7)) rfl dX6_feed_76 ?_
        refine lv_topE (nI (T + 1 + 1 + 1)) (by simp [hv_19, hv_21, hv_23, hv_25, hv_27, hv_29, upw, va_up, upd, hT, nI_1]) ?_
        exact t_F C rfl hP hS (by rw [feedM, cif_pos ⟨3, by decide, by decide, rfl⟩, hT, tn_nI (show T < 2 ^ 31 by omega), if_pos (by exact c_3)]; rfl) (by rw [feedM, cif_pos ⟨3, by decide, by decide, rfl⟩, hT, tn_nI (show T < 2 ^ 31 by omega), if_pos (by exact c_3), hv_29, hv_27, hv_25, hv_23, hv_21, hv_19]; rfl) dX6_feed_79
      · have hl : lv_has ls 4 [(0, .ref (gA g 53)), (1, .int x), (2, .int 4)] := hl
        refine lv_iload_n C.1.1 C.1.2.1 dX6_feed_35 rfl (lv_at hl 2 rfl) ?_
        refine lv_iconst (v := 1) C.1.1 C.1.2.1 dX6_feed_36 rfl ?_
        refine lv_isub C.1.1 C.1.2.1 dX6_feed_37 ?_
        refine lv_topE 3 (by decide) ?_
        refine lv_istore_n (lv' := [(3, .int 3), (0, .ref (gA g 53)), (1, .int x), (2, .int 4)]) C.1.1 C.1.2.1 dX6_feed_38 rfl hl (by decide) rfl (fun ls hl => ?_)
        refine lv_iload_n C.1.1 C.1.2.1 dX6_feed_39 rfl (lv_at hl 0 rfl) ?_
        refine lv_if_lt (tgt := 75) C.1.1 C.1.2.1 dX6_feed_40 (by decide) (fun c_31 => absurd c_31 (by decide)) (fun _ => ?_)
        refine lv_aload_n C.1.1 C.1.2.1 dX6_feed_43 rfl (lv_at hl 1 rfl) ?_
        refine r_get C hP 53 6 (Nat.lt_of_lt_of_le (by decide) hn) rfl (by decide) rfl hi6 6 (by decide) (List.mem_of_getElem? (i := 3) rfl) rfl (val := .ref (gA g 59)) rfl dX6_feed_44 ?_
        refine lv_aload_n C.1.1 C.1.2.1 dX6_feed_47 rfl (lv_at hl 1 rfl) ?_
        refine r_get C hP 53 6 (Nat.lt_of_lt_of_le (by decide) hn) rfl (by decide) rfl hi6 7 (by decide) (List.mem_of_getElem? (i := 2) rfl) rfl (val := .int (v.1 53 7)) rfl dX6_feed_48 ?_
        refine lv_topE (nI T) hT ?_
        refine lv_iload_n C.1.1 C.1.2.1 dX6_feed_51 rfl (lv_at hl 2 rfl) ?_
        refine lv_bipush (v := 8) C.1.1 C.1.2.1 dX6_feed_52 rfl ?_
        refine lv_iload_n C.1.1 C.1.2.1 dX6_feed_54 rfl (lv_at hl 0 rfl) ?_
        refine lv_imul C.1.1 C.1.2.1 dX6_feed_55 ?_
        refine lv_topE 24 (by decide) ?_
        refine lv_ishr C.1.1 C.1.2.1 dX6_feed_56 ?_
        refine lv_i2b (v := (x >>> (24 &&& 31)).toInt8.toInt32) C.1.1 C.1.2.1 dX6_feed_57 rfl ?_
        refine r_bast C hP hS 59 (Nat.lt_of_lt_of_le (by decide) hn) rfl T rfl (N := 120) rfl (by decide) (by omega) (fb_byte_twice _) dX6_feed_58 (fun H locs hP hS => ?_)
        obtain ⟨v_32, hv_32⟩ : ∃ zz, zz = up v 59 T ((x >>> (24 &&& 31)).toInt8.toInt32) := ⟨_, rfl⟩
        rw [← hv_32] at hP
        refine lv_aload_n C.1.1 C.1.2.1 dX6_feed_59 rfl (lv_at hl 1 rfl) ?_
        refine lv_dup C.1.1 C.1.2.1 dX6_feed_60 rfl ?_
        refine r_get C hP 53 6 (Nat.lt_of_lt_of_le (by decide) hn) rfl (by decide) rfl hi6 7 (by decide) (List.mem_of_getElem? (i := 2) rfl) rfl (val := .int (v_32.1 53 7)) rfl dX6_feed_61 ?_
        refine lv_topE (nI T) (by simp [hv_32, upw, va_up, upd, hT, nI_1]) ?_
        refine lv_iconst (v := 1) C.1.1 C.1.2.1 dX6_feed_64 rfl ?_
        refine lv_iadd C.1.1 C.1.2.1 dX6_feed_65 ?_
        refine lv_topE (nI (T + 1)) (nI_add T 1) ?_
        refine r_put C hP hS 53 6 (Nat.lt_of_lt_of_le (by decide) hn) rfl (by decide) rfl hi6 tyX6 tyX6_ok nmX6 7 (by decide) (List.mem_of_getElem? (i := 2) rfl) rfl rfl rfl rfl rfl (Nat.le_of_ble_eq_true rfl) dX6_feed_66 (fun H locs hP hS => ?_)
        obtain ⟨v_34, hv_34⟩ : ∃ zz, zz = up v_32 53 7 (nI (T + 1)) := ⟨_, rfl⟩
        rw [← hv_34] at hP
        refine lv_iinc (v := 2) (lv' := [(3, .int 2), (0, .ref (gA g 53)), (1, .int x), (2, .int 4)]) C.1.1 C.1.2.1 dX6_feed_69 hl (k := 0) rfl (by decide) (by decide) rfl (fun ls hl => ?_)
        refine lv_goto (tgt := 39) C.1.1 C.1.2.1 dX6_feed_72 (by decide) ?_
        refine lv_iload_n C.1.1 C.1.2.1 dX6_feed_39 rfl (lv_at hl 0 rfl) ?_
        refine lv_if_lt (tgt := 75) C.1.1 C.1.2.1 dX6_feed_40 (by decide) (fun c_35 => absurd c_35 (by decide)) (fun _ => ?_)
        refine lv_aload_n C.1.1 C.1.2.1 dX6_feed_43 rfl (lv_at hl 1 rfl) ?_
        refine r_get C hP 53 6 (Nat.lt_of_lt_of_le (by decide) hn) rfl (by decide) rfl hi6 6 (by decide) (List.mem_of_getElem? (i := 3) rfl) rfl (val := .ref (gA g 59)) rfl dX6_feed_44 ?_
        refine lv_aload_n C.1.1 C.1.2.1 dX6_feed_47 rfl (lv_at hl 1 rfl) ?_
        refine r_get C hP 53 6 (Nat.lt_of_lt_of_le (by decide) hn) rfl (by decide) rfl hi6 7 (by decide) (List.mem_of_getElem? (i := 2) rfl) rfl (val := .int (v_34.1 53 7)) rfl dX6_feed_48 ?_
        refine lv_topE (nI (T + 1)) (by simp [hv_32, hv_34, upw, va_up, upd, hT, nI_1]) ?_
        refine lv_iload_n C.1.1 C.1.2.1 dX6_feed_51 rfl (lv_at hl 2 rfl) ?_
        refine lv_bipush (v := 8) C.1.1 C.1.2.1 dX6_feed_52 rfl ?_
        refine lv_iload_n C.1.1 C.1.2.1 dX6_feed_54 rfl (lv_at hl 0 rfl) ?_
        refine lv_imul C.1.1 C.1.2.1 dX6_feed_55 ?_
        refine lv_topE 16 (by decide) ?_
        refine lv_ishr C.1.1 C.1.2.1 dX6_feed_56 ?_
        refine lv_i2b (v := (x >>> (16 &&& 31)).toInt8.toInt32) C.1.1 C.1.2.1 dX6_feed_57 rfl ?_
        refine r_bast C hP hS 59 (Nat.lt_of_lt_of_le (by decide) hn) rfl (T + 1) rfl (N := 120) rfl (by decide) (by omega) (fb_byte_twice _) dX6_feed_58 (fun H locs hP hS => ?_)
        obtain ⟨v_36, hv_36⟩ : ∃ zz, zz = up v_34 59 (T + 1) ((x >>> (16 &&& 31)).toInt8.toInt32) := ⟨_, rfl⟩
        rw [← hv_36] at hP
        refine lv_aload_n C.1.1 C.1.2.1 dX6_feed_59 rfl (lv_at hl 1 rfl) ?_
        refine lv_dup C.1.1 C.1.2.1 dX6_feed_60 rfl ?_
        refine r_get C hP 53 6 (Nat.lt_of_lt_of_le (by decide) hn) rfl (by decide) rfl hi6 7 (by decide) (List.mem_of_getElem? (i := 2) rfl) rfl (val := .int (v_36.1 53 7)) rfl dX6_feed_61 ?_
        refine lv_topE (nI (T + 1)) (by simp [hv_32, hv_34, hv_36, upw, va_up, upd, hT, nI_1]) ?_
        refine lv_iconst (v := 1) C.1.1 C.1.2.1 dX6_feed_64 rfl ?_
        refine lv_iadd C.1.1 C.1.2.1 dX6_feed_65 ?_
        refine lv_topE (nI ((T + 1) + 1)) (nI_add (T + 1) 1) ?_
        refine r_put C hP hS 53 6 (Nat.lt_of_lt_of_le (by decide) hn) rfl (by decide) rfl hi6 tyX6 tyX6_ok nmX6 7 (by decide) (List.mem_of_getElem? (i := 2) rfl) rfl rfl rfl rfl rfl (Nat.le_of_ble_eq_true rfl) dX6_feed_66 (fun H locs hP hS => ?_)
        obtain ⟨v_38, hv_38⟩ : ∃ zz, zz = up v_36 53 7 (nI ((T + 1) + 1)) := ⟨_, rfl⟩
        rw [← hv_38] at hP
        refine lv_iinc (v := 1) (lv' := [(3, .int 1), (0, .ref (gA g 53)), (1, .int x), (2, .int 4)]) C.1.1 C.1.2.1 dX6_feed_69 hl (k := 0) rfl (by decide) (by decide) rfl (fun ls hl => ?_)
        refine lv_goto (tgt := 39) C.1.1 C.1.2.1 dX6_feed_72 (by decide) ?_
        refine lv_iload_n C.1.1 C.1.2.1 dX6_feed_39 rfl (lv_at hl 0 rfl) ?_
        refine lv_if_lt (tgt := 75) C.1.1 C.1.2.1 dX6_feed_40 (by decide) (fun c_39 => absurd c_39 (by decide)) (fun _ => ?_)
        refine lv_aload_n C.1.1 C.1.2.1 dX6_feed_43 rfl (lv_at hl 1 rfl) ?_
        refine r_get C hP 53 6 (Nat.lt_of_lt_of_le (by decide) hn) rfl (by decide) rfl hi6 6 (by decide) (List.mem_of_getElem? (i := 3) rfl) rfl (val := .ref (gA g 59)) rfl dX6_feed_44 ?_
        refine lv_aload_n C.1.1 C.1.2.1 dX6_feed_47 rfl (lv_at hl 1 rfl) ?_
        refine r_get C hP 53 6 (Nat.lt_of_lt_of_le (by decide) hn) rfl (by decide) rfl hi6 7 (by decide) (List.mem_of_getElem? (i := 2) rfl) rfl (val := .int (v_38.1 53 7)) rfl dX6_feed_48 ?_
        refine lv_topE (nI (T + 1 + 1)) (by simp [hv_32, hv_34, hv_36, hv_38, upw, va_up, upd, hT, nI_1]) ?_
        refine lv_iload_n C.1.1 C.1.2.1 dX6_feed_51 rfl (lv_at hl 2 rfl) ?_
        refine lv_bipush (v := 8) C.1.1 C.1.2.1 dX6_feed_52 rfl ?_
        refine lv_iload_n C.1.1 C.1.2.1 dX6_feed_54 rfl (lv_at hl 0 rfl) ?_
        refine lv_imul C.1.1 C.1.2.1 dX6_feed_55 ?_
        refine lv_topE 8 (by decide) ?_
        refine lv_ishr C.1.1 C.1.2.1 dX6_feed_56 ?_
        refine lv_i2b (v := (x >>> (8 &&& 31)).toInt8.toInt32) C.1.1 C.1.2.1 dX6_feed_57 rfl ?_
        refine r_bast C hP hS 59 (Nat.lt_of_lt_of_le (by decide) hn) rfl (T + 1 + 1) rfl (N := 120) rfl (by decide) (by omega) (fb_byte_twice _) dX6_feed_58 (fun H locs hP hS => ?_)
        obtain ⟨v_40, hv_40⟩ : ∃ zz, zz = up v_38 59 (T + 1 + 1) ((x >>> (8 &&& 31)).toInt8.toInt32) := ⟨_, rfl⟩
        rw [← hv_40] at hP
        refine lv_aload_n C.1.1 C.1.2.1 dX6_feed_59 rfl (lv_at hl 1 rfl) ?_
        refine lv_dup C.1.1 C.1.2.1 dX6_feed_60 rfl ?_
        refine r_get C hP 53 6 (Nat.lt_of_lt_of_le (by decide) hn) rfl (by decide) rfl hi6 7 (by decide) (List.mem_of_getElem? (i := 2) rfl) rfl (val := .int (v_40.1 53 7)) rfl dX6_feed_61 ?_
        refine lv_topE (nI (T + 1 + 1)) (by simp [hv_32, hv_34, hv_36, hv_38, hv_40, upw, va_up, upd, hT, nI_1]) ?_
        refine lv_iconst (v := 1) C.1.1 C.1.2.1 dX6_feed_64 rfl ?_
        refine lv_iadd C.1.1 C.1.2.1 dX6_feed_65 ?_
        refine lv_topE (nI ((T + 1 + 1) + 1)) (nI_add (T + 1 + 1) 1) ?_
        refine r_put C hP hS 53 6 (Nat.lt_of_lt_of_le (by decide) hn) rfl (by decide) rfl hi6 tyX6 tyX6_ok nmX6 7 (by decide) (List.mem_of_getElem? (i := 2) rfl) rfl rfl rfl rfl rfl (Nat.le_of_ble_eq_true rfl) dX6_feed_66 (fun H locs hP hS => ?_)
        obtain ⟨v_42, hv_42⟩ : ∃ zz, zz = up v_40 53 7 (nI ((T + 1 + 1) + 1)) := ⟨_, rfl⟩
        rw [← hv_42] at hP
        refine lv_iinc (v := 0) (lv' := [(3, .int 0), (0, .ref (gA g 53)), (1, .int x), (2, .int 4)]) C.1.1 C.1.2.1 dX6_feed_69 hl (k := 0) rfl (by decide) (by decide) rfl (fun ls hl => ?_)
        refine lv_goto (tgt := 39) C.1.1 C.1.2.1 dX6_feed_72 (by decide) ?_
        refine lv_iload_n C.1.1 C.1.2.1 dX6_feed_39 rfl (lv_at hl 0 rfl) ?_
        refine lv_if_lt (tgt := 75) C.1.1 C.1.2.1 dX6_feed_40 (by decide) (fun c_43 => absurd c_43 (by decide)) (fun _ => ?_)
        refine lv_aload_n C.1.1 C.1.2.1 dX6_feed_43 rfl (lv_at hl 1 rfl) ?_
        refine r_get C hP 53 6 (Nat.lt_of_lt_of_le (by decide) hn) rfl (by decide) rfl hi6 6 (by decide) (List.mem_of_getElem? (i := 3) rfl) rfl (val := .ref (gA g 59)) rfl dX6_feed_44 ?_
        refine lv_aload_n C.1.1 C.1.2.1 dX6_feed_47 rfl (lv_at hl 1 rfl) ?_
        refine r_get C hP 53 6 (Nat.lt_of_lt_of_le (by decide) hn) rfl (by decide) rfl hi6 7 (by decide) (List.mem_of_getElem? (i := 2) rfl) rfl (val := .int (v_42.1 53 7)) rfl dX6_feed_48 ?_
        refine lv_topE (nI (T + 1 + 1 + 1)) (by simp [hv_32, hv_34, hv_36, hv_38, hv_40, hv_42, upw, va_up, upd, hT, nI_1]) ?_
        refine lv_iload_n C.1.1 C.1.2.1 dX6_feed_51 rfl (lv_at hl 2 rfl) ?_
        refine lv_bipush (v := 8) C.1.1 C.1.2.1 dX6_feed_52 rfl ?_
        refine lv_iload_n C.1.1 C.1.2.1 dX6_feed_54 rfl (lv_at hl 0 rfl) ?_
        refine lv_imul C.1.1 C.1.2.1 dX6_feed_55 ?_
        refine lv_topE 0 (by decide) ?_
        refine lv_ishr C.1.1 C.1.2.1 dX6_feed_56 ?_
        refine lv_i2b (v := (x >>> (0 &&& 31)).toInt8.toInt32) C.1.1 C.1.2.1 dX6_feed_57 rfl ?_
        refine r_bast C hP hS 59 (Nat.lt_of_lt_of_le (by decide) hn) rfl (T + 1 + 1 + 1) rfl (N := 120) rfl (by decide) (by omega) (fb_byte_twice _) dX6_feed_58 (fun H locs hP hS => ?_)
        obtain ⟨v_44, hv_44⟩ : ∃ zz, zz = up v_42 59 (T + 1 + 1 + 1) ((x >>> (0 &&& 31)).toInt8.toInt32) := ⟨_, rfl⟩
        rw [← hv_44] at hP
        refine lv_aload_n C.1.1 C.1.2.1 dX6_feed_59 rfl (lv_at hl 1 rfl) ?_
        refine lv_dup C.1.1 C.1.2.1 dX6_feed_60 rfl ?_
        refine r_get C hP 53 6 (Nat.lt_of_lt_of_le (by decide) hn) rfl (by decide) rfl hi6 7 (by decide) (List.mem_of_getElem? (i := 2) rfl) rfl (val := .int (v_44.1 53 7)) rfl dX6_feed_61 ?_
        refine lv_topE (nI (T + 1 + 1 + 1)) (by simp [hv_32, hv_34, hv_36, hv_38, hv_40, hv_42, hv_44, upw, va_up, upd, hT, nI_1]) ?_
        refine lv_iconst (v := 1) C.1.1 C.1.2.1 dX6_feed_64 rfl ?_
        refine lv_iadd C.1.1 C.1.2.1 dX6_feed_65 ?_
        refine lv_topE (nI ((T + 1 + 1 + 1) + 1)) (nI_add (T + 1 + 1 + 1) 1) ?_
        refine r_put C hP hS 53 6 (Nat.lt_of_lt_of_le (by decide) hn) rfl (by decide) rfl hi6 tyX6 tyX6_ok nmX6 7 (by decide) (List.mem_of_getElem? (i := 2) rfl) rfl rfl rfl rfl rfl (Nat.le_of_ble_eq_true rfl) dX6_feed_66 (fun H locs hP hS => ?_)
        obtain ⟨v_46, hv_46⟩ : ∃ zz, zz = up v_44 53 7 (nI ((T + 1 + 1 + 1) + 1)) := ⟨_, rfl⟩
        rw [← hv_46] at hP
        refine lv_iinc (v := (-1)) (lv' := [(3, .int (-1)), (0, .ref (gA g 53)), (1, .int x), (2, .int 4)]) C.1.1 C.1.2.1 dX6_feed_69 hl (k := 0) rfl (by decide) (by decide) rfl (fun ls hl => ?_)
        refine lv_goto (tgt := 39) C.1.1 C.1.2.1 dX6_feed_72 (by decide) ?_
        refine lv_iload_n C.1.1 C.1.2.1 dX6_feed_39 rfl (lv_at hl 0 rfl) ?_
        refine lv_if_lt (tgt := 75) C.1.1 C.1.2.1 dX6_feed_40 (by decide) (fun _ => ?_) (fun c_47 => absurd c_47 (by decide))
        refine lv_aload_n C.1.1 C.1.2.1 dX6_feed_75 rfl (lv_at hl 1 rfl) ?_
        refine r_get C hP 53 6 (Nat.lt_of_lt_of_le (by decide) hn) rfl (by decide) rfl hi6 7 (by decide) (List.mem_of_getElem? (i := 2) rfl) rfl (val := .int (v_46.1 53 7)) rfl dX6_feed_76 ?_
        refine lv_topE (nI (T + 1 + 1 + 1 + 1)) (by simp [hv_32, hv_34, hv_36, hv_38, hv_40, hv_42, hv_44, hv_46, upw, va_up, upd, hT, nI_1]) ?_
        exact t_F C rfl hP hS (by rw [feedM, cif_pos ⟨4, by decide, by decide, rfl⟩, hT, tn_nI (show T < 2 ^ 31 by omega), if_pos (by exact c_3)]; rfl) (by rw [feedM, cif_pos ⟨4, by decide, by decide, rfl⟩, hT, tn_nI (show T < 2 ^ 31 by omega), if_pos (by exact c_3), hv_46, hv_44, hv_42, hv_40, hv_38, hv_36, hv_34, hv_32]; rfl) dX6_feed_79
    · rw [show (nI (T + jy) ≤ 120) = (T + jy ≤ 120) from propext (nI_leI (a := T + jy) (b := 120) (by omega) (by omega))] at c_3
      refine lv_aload_n C.1.1 C.1.2.1 dX6_feed_29 rfl (lv_at hl 0 rfl) ?_
      refine lv_iconst (v := 1) C.1.1 C.1.2.1 dX6_feed_30 rfl ?_
      refine a_F hS (run_V C hP hS hl.1 53 6 (Nat.lt_of_lt_of_le (by decide) hn) rfl (by decide) rfl [.int 1] (kX6_finds l g n v 1 (by decide)) gX6_feed_X6_finds rfl hdX6_finds rfl ⟨rfl, rfl⟩ ⟨Nat.le_of_ble_eq_true rfl, Nat.le_of_ble_eq_true rfl⟩ rfl [] rfl (Nat.le_of_ble_eq_true rfl) dX6_feed_31 ⟨Nat.zero_le _, Nat.zero_le _⟩) (fun H locs hP hS => ?_)
      obtain ⟨v_48, hv_48⟩ : ∃ zz, zz = fnd v 1 := ⟨_, rfl⟩
      rw [← hv_48] at hP
      exact t_F C rfl hP hS (by (rw [feedM]; rw [cif_pos ⟨jy, hljy, hjy, rfl⟩]) <;> try simp only [fdM, upw_same, eq_self, if_true, if_false, ite_true, ite_false, ↓reduceIte, c_3, tn_nI (show jy < 2 ^ 31 by omega), hv_48, hT, tn_nI (show T < 2 ^ 31 by omega)]) (by (rw [feedM]; rw [cif_pos ⟨jy, hljy, hjy, rfl⟩]) <;> try simp only [fdM, upw_same, eq_self, if_true, if_false, ite_true, ite_false, ↓reduceIte, c_3, tn_nI (show jy < 2 ^ 31 by omega), hv_48, hT, tn_nI (show T < 2 ^ 31 by omega)]) dX6_feed_34
  · skip
    have b_1 := fun h => b_1 ((in_iff2 1 5 (by decide) (by decide) (by decide)).mpr h)
    refine lv_if_ne (tgt := 18) C.1.1 C.1.2.1 dX6_feed_9 (by decide) (fun c_49 => absurd c_49 (by decide)) (fun _ => ?_)
    refine lv_aload_n C.1.1 C.1.2.1 dX6_feed_12 rfl (lv_at hl 0 rfl) ?_
    refine lv_iconst (v := 0) C.1.1 C.1.2.1 dX6_feed_13 rfl ?_
    refine a_F hS (run_V C hP hS hl.1 53 6 (Nat.lt_of_lt_of_le (by decide) hn) rfl (by decide) rfl [.int 0] (kX6_finds l g n v 0 (by decide)) gX6_feed_X6_finds rfl hdX6_finds rfl ⟨rfl, rfl⟩ ⟨Nat.le_of_ble_eq_true rfl, Nat.le_of_ble_eq_true rfl⟩ rfl [] rfl (Nat.le_of_ble_eq_true rfl) dX6_feed_14 ⟨Nat.zero_le _, Nat.zero_le _⟩) (fun H locs hP hS => ?_)
    obtain ⟨v_50, hv_50⟩ : ∃ zz, zz = fnd v 0 := ⟨_, rfl⟩
    rw [← hv_50] at hP
    exact t_F C rfl hP hS (by (rw [feedM]; rw [cif_neg b_1]) <;> try simp only [fdM, upw_same, eq_self, if_true, if_false, ite_true, ite_false, ↓reduceIte, hv_50, hT, tn_nI (show T < 2 ^ 31 by omega)]) (by (rw [feedM]; rw [cif_neg b_1]) <;> try simp only [fdM, upw_same, eq_self, if_true, if_false, ite_true, ite_false, ↓reduceIte, hv_50, hT, tn_nI (show T < 2 ^ 31 by omega)]) dX6_feed_17

abbrev rmX6_odds : Room := { frames := 2, cells := 0, slots := 0, locals := 46 }
set_option maxHeartbeats 4000000 in
set_option maxRecDepth 100000 in
theorem kX6_odds (l : Launch) (g : GG) (n : Nat) (v : SV) (x y z : Int32) (N : Nat) (hM : okM (v.1 54) N) : Met l yX6_odds wsX6_odds rmX6_odds (PW g n v [.ref (gA g 53), .int x, .int y, .int z]) (QJ g n ((oddsM v x y z).1) ((oddsM v x y z).2)) 0 0 (wA g n) := by
  refine Met.begin RX6 rfl (by decide) rfl (Nat.le_of_ble_eq_true rfl) ?_
  intro p e s m args below meth c ls ha C hP hS hl
  have hn : 64 ≤ n := C.2.1.1.2.1
  have hi6 : ∀ w ∈ u_ws RX6 TX6 17, w ∈ wsX6_odds := by decide +kernel
  have hl : lv_has ls 9 [(0, .ref (gA g 53)), (1, .int x), (2, .int y), (3, .int z)] := hl
  have h8 := hM.1
  refine lv_aload_n C.1.1 C.1.2.1 dX6_odds_0 rfl (lv_at hl 0 rfl) ?_
  refine lv_iload_n C.1.1 C.1.2.1 dX6_odds_1 rfl (lv_at hl 1 rfl) ?_
  refine a_B hS (run_V C hP hS hl.1 53 6 (Nat.lt_of_lt_of_le (by decide) hn) rfl (by decide) rfl [.int x] (kX6_isResident l g n v x N hM) gX6_odds_X6_isResident rfl hdX6_isResident rfl ⟨rfl, rfl⟩ ⟨Nat.le_of_ble_eq_true rfl, Nat.le_of_ble_eq_true rfl⟩ rfl [] rfl (Nat.le_of_ble_eq_true rfl) dX6_odds_2 ⟨Nat.zero_le _, Nat.zero_le _⟩) (fun b_1 H locs hP hS => ?_) (fun b_1 H locs hP hS => ?_)
  · skip
    obtain ⟨jx, hjx, rfl⟩ := b_1
    refine lv_if_eq (tgt := 30) C.1.1 C.1.2.1 dX6_odds_5 (by decide) (fun c_2 => absurd c_2 (by decide)) (fun _ => ?_)
    refine lv_iload_n C.1.1 C.1.2.1 dX6_odds_8 rfl (lv_at hl 2 rfl) ?_
    refine lv_i2l (v := y.toInt64) C.1.1 C.1.2.1 dX6_odds_9 rfl ?_
    refine lv_lconst (v := 0) C.1.1 C.1.2.1 dX6_odds_10 rfl ?_
    refine lv_ldc2 (v := 17) C.1.1 C.1.2.1 C.1.2.2.2.1 (C.1.2.2.2.2 _ (List.mem_of_getElem? (i := 1) rfl)) dX6_odds_11 ?_
    refine a_B hS (run_S C hP hS hl.1 [.long y.toInt64, .long 0, .long 17] (kX6_in l g n v y.toInt64 0 17) gX6_odds_X6_in hdX6_in rfl ⟨rfl, rfl⟩ ⟨Nat.le_of_ble_eq_true rfl, Nat.le_of_ble_eq_true rfl⟩ rfl [] rfl (Nat.le_of_ble_eq_true rfl) dX6_odds_14 ⟨Nat.zero_le _, Nat.zero_le _⟩) (fun b_3 H locs hP hS => ?_) (fun b_3 H locs hP hS => ?_)
    · skip
      have b_3 := (in_iff 18 (by decide) (by decide)).mp b_3
      obtain ⟨jy, hjy, rfl⟩ := b_3
      refine lv_if_eq (tgt := 30) C.1.1 C.1.2.1 dX6_odds_17 (by decide) (fun c_4 => absurd c_4 (by decide)) (fun _ => ?_)
      refine lv_iload_n C.1.1 C.1.2.1 dX6_odds_20 rfl (lv_at hl 3 rfl) ?_
      refine lv_i2l (v := z.toInt64) C.1.1 C.1.2.1 dX6_odds_21 rfl ?_
      refine lv_lconst (v := 0) C.1.1 C.1.2.1 dX6_odds_22 rfl ?_
      refine lv_lconst (v := 1) C.1.1 C.1.2.1 dX6_odds_23 rfl ?_
      refine a_B hS (run_S C hP hS hl.1 [.long z.toInt64, .long 0, .long 1] (kX6_in l g n v z.toInt64 0 1) gX6_odds_X6_in hdX6_in rfl ⟨rfl, rfl⟩ ⟨Nat.le_of_ble_eq_true rfl, Nat.le_of_ble_eq_true rfl⟩ rfl [] rfl (Nat.le_of_ble_eq_true rfl) dX6_odds_24 ⟨Nat.zero_le _, Nat.zero_le _⟩) (fun b_5 H locs hP hS => ?_) (fun b_5 H locs hP hS => ?_)
      · skip
        have b_5 := (in_iff 2 (by decide) (by decide)).mp b_5
        obtain ⟨jz, hjz, rfl⟩ := b_5
        refine lv_if_ne (tgt := 37) C.1.1 C.1.2.1 dX6_odds_27 (by decide) (fun _ => ?_) (fun c_6 => absurd c_6 (by decide))
        refine lv_aload_n C.1.1 C.1.2.1 dX6_odds_37 rfl (lv_at hl 0 rfl) ?_
        refine lv_iload_n C.1.1 C.1.2.1 dX6_odds_38 rfl (lv_at hl 1 rfl) ?_
        refine lv_iconst (v := 2) C.1.1 C.1.2.1 dX6_odds_39 rfl ?_
        refine a_F hS (run_V C hP hS hl.1 53 6 (Nat.lt_of_lt_of_le (by decide) hn) rfl (by decide) rfl [.int (nI jx), .int 2] (kX6_its l g n v jx 2 (by omega) (by omega)) gX6_odds_X6_its rfl hdX6_its rfl ⟨rfl, rfl⟩ ⟨Nat.le_of_ble_eq_true rfl, Nat.le_of_ble_eq_true rfl⟩ rfl [] rfl (Nat.le_of_ble_eq_true rfl) dX6_odds_40 ⟨Nat.zero_le _, Nat.zero_le _⟩) (fun H locs hP hS => ?_)
        refine a_F hS (run_S C hP hS hl.1 [.int (rowM (v.1 54) jx 2)] (kX6_ones l g n v (rowM (v.1 54) jx 2)) gX6_odds_X6_ones hdX6_ones rfl ⟨rfl, rfl⟩ ⟨Nat.le_of_ble_eq_true rfl, Nat.le_of_ble_eq_true rfl⟩ rfl [] rfl (Nat.le_of_ble_eq_true rfl) dX6_odds_43 ⟨Nat.zero_le _, Nat.zero_le _⟩) (fun H locs hP hS => ?_)
        obtain ⟨A, hA, eA⟩ := ones_nat (rowM (v.1 54) jx 2) 12
        have eA2 : A = (onesF (rowM (v.1 54) jx 2) 12).toNatClampNeg := by rw [eA, tn_nI (by omega)]
        refine lv_topE (nI A) eA ?_
        have hG : 0 < Nat.gcd A 12 := Nat.gcd_pos_of_pos_right A (by decide)
        have hG2 : Nat.gcd A 12 ≤ 12 := Nat.le_of_dvd (by decide) (Nat.gcd_dvd_right A 12)
        refine lv_istore (lv' := [(4, .int (nI A)), (0, .ref (gA g 53)), (1, .int (nI jx)), (2, .int (nI jy)), (3, .int (nI jz))]) C.1.1 C.1.2.1 dX6_odds_46 hl (by decide) rfl (fun ls hl => ?_)
        refine lv_iload C.1.1 C.1.2.1 dX6_odds_48 (lv_at hl 0 rfl) ?_
        refine lv_bipush (v := 12) C.1.1 C.1.2.1 dX6_odds_50 rfl ?_
        refine a_F hS (run_S C hP hS hl.1 [.int (nI A), .int 12] (kX6_common l g n v A (by omega)) gX6_odds_X6_common hdX6_common rfl ⟨rfl, rfl⟩ ⟨Nat.le_of_ble_eq_true rfl, Nat.le_of_ble_eq_true rfl⟩ rfl [] rfl (Nat.le_of_ble_eq_true rfl) dX6_odds_52 ⟨Nat.zero_le _, Nat.zero_le _⟩) (fun H locs hP hS => ?_)
        refine lv_istore (lv' := [(5, .int (nI (Nat.gcd A 12))), (4, .int (nI A)), (0, .ref (gA g 53)), (1, .int (nI jx)), (2, .int (nI jy)), (3, .int (nI jz))]) C.1.1 C.1.2.1 dX6_odds_55 hl (by decide) rfl (fun ls hl => ?_)
        refine lv_lconst (v := 1) C.1.1 C.1.2.1 dX6_odds_57 rfl ?_
        refine lv_lstore (lv' := [(6, .long 1), (5, .int (nI (Nat.gcd A 12))), (4, .int (nI A)), (0, .ref (gA g 53)), (1, .int (nI jx)), (2, .int (nI jy)), (3, .int (nI jz))]) C.1.1 C.1.2.1 dX6_odds_58 hl (by decide) rfl (fun ls hl => ?_)
        refine lv_iconst (v := 0) C.1.1 C.1.2.1 dX6_odds_60 rfl ?_
        refine lv_istore (lv' := [(8, .int 0), (6, .long 1), (5, .int (nI (Nat.gcd A 12))), (4, .int (nI A)), (0, .ref (gA g 53)), (1, .int (nI jx)), (2, .int (nI jy)), (3, .int (nI jz))]) C.1.1 C.1.2.1 dX6_odds_61 hl (by decide) rfl (fun ls hl => ?_)
        have lp_63 : ∀ (k_63 i : Nat), i ≤ jy → jy + 1 ≤ i + k_63 → ∀ (H : Heap) (locs : List Loc) (ls : Array Slot), va_P g.1 vwCl (wl g n v) H → va_S (wA g n) s.heap H locs → lv_has ls 9 [(0, .ref (gA g 53)), (1, .int (nI jx)), (2, .int (nI jy)), (3, .int (nI jz)), (4, .int (nI A)), (5, .int (nI (Nat.gcd A 12))), (6, .long (powL (fracF A (nI jz)) i)), (8, .int (nI i))] → W p l e rmX6_odds s m args below meth c H locs 0 0 (MQ below (QJ g n ((oddsM v (nI jx) (nI jy) (nI jz)).1) ((oddsM v (nI jx) (nI jy) (nI jz)).2)) args s 0 0 (wA g n)) (F0 m 63 ls []) := by
          clear hP hS hl
          intro k_63
          induction k_63 with
          | zero => exact fun i h1 h2 => absurd h2 (by omega)
          | succ k_63 ih_63 =>
            intro i hi_63 hk_63 H locs ls hP hS hl
            refine lv_iload C.1.1 C.1.2.1 dX6_odds_63 (lv_at hl 7 rfl) ?_
            refine lv_iload_n C.1.1 C.1.2.1 dX6_odds_65 rfl (lv_at hl 2 rfl) ?_
            refine lv_icmp_ge (tgt := 99) C.1.1 C.1.2.1 dX6_odds_66 (by decide) (fun c_7 => ?_) (fun c_7 => ?_)
            · rw [show (nI jy ≤ nI i) = (jy ≤ i) from propext (nI_leI (a := jy) (b := i) (by omega) (by omega))] at c_7
              have hiy : i = jy := by omega
              refine lv_lload C.1.1 C.1.2.1 dX6_odds_99 (lv_at hl 6 rfl) ?_
              exact t_J C rfl hP hS (by rw [oddsM, nM_eq hM, cif_pos ⟨jx, hjx, rfl⟩, cif_pos ⟨jy, hjy, rfl⟩, cif_pos ⟨jz, hjz, rfl⟩, tn_nI (show jx < 2 ^ 31 by omega), tn_nI (show jy < 2 ^ 31 by omega), ← eA2, hiy]) (by rw [oddsM, nM_eq hM, cif_pos ⟨jx, hjx, rfl⟩, cif_pos ⟨jy, hjy, rfl⟩, cif_pos ⟨jz, hjz, rfl⟩, tn_nI (show jx < 2 ^ 31 by omega), tn_nI (show jy < 2 ^ 31 by omega)]) dX6_odds_101
            · rw [show (nI jy ≤ nI i) = (jy ≤ i) from propext (nI_leI (a := jy) (b := i) (by omega) (by omega))] at c_7
              refine lv_lload C.1.1 C.1.2.1 dX6_odds_69 (lv_at hl 6 rfl) ?_
              refine lv_iload_n C.1.1 C.1.2.1 dX6_odds_71 rfl (lv_at hl 3 rfl) ?_
              refine lv_if_ne (tgt := 84) C.1.1 C.1.2.1 dX6_odds_72 (by decide) (fun c_8 => ?_) (fun c_8 => ?_)
              · rw [show (nI jz = 0) = (jz = 0) from propext (nI_eq (a := jz) (b := 0) (by omega) (by omega))] at c_8
                refine lv_bipush (v := 12) C.1.1 C.1.2.1 dX6_odds_84 rfl ?_
                refine lv_iload C.1.1 C.1.2.1 dX6_odds_86 (lv_at hl 5 rfl) ?_
                refine lv_idiv C.1.1 C.1.2.1 dX6_odds_88 (nI_ne0 hG (by omega)) ?_
                refine lv_topE (nI (12 / Nat.gcd A 12)) (pk_div (a := 12) (by decide) hG (by omega)) ?_
                refine lv_i2l (v := (nI (12 / Nat.gcd A 12)).toInt64) C.1.1 C.1.2.1 dX6_odds_89 rfl ?_
                refine lv_lmul C.1.1 C.1.2.1 dX6_odds_90 ?_
                refine lv_lstore (lv' := [(6, .long ((powL (fracF A (nI jz)) i) * ((nI (12 / Nat.gcd A 12)).toInt64))), (0, .ref (gA g 53)), (1, .int (nI jx)), (2, .int (nI jy)), (3, .int (nI jz)), (4, .int (nI A)), (5, .int (nI (Nat.gcd A 12))), (8, .int (nI i))]) C.1.1 C.1.2.1 dX6_odds_91 hl (by decide) rfl (fun ls hl => ?_)
                refine lv_iinc (v := nI (i + 1)) (lv' := [(8, .int (nI (i + 1))), (6, .long ((powL (fracF A (nI jz)) i) * ((nI (12 / Nat.gcd A 12)).toInt64))), (0, .ref (gA g 53)), (1, .int (nI jx)), (2, .int (nI jy)), (3, .int (nI jz)), (4, .int (nI A)), (5, .int (nI (Nat.gcd A 12)))]) C.1.1 C.1.2.1 dX6_odds_93 hl (k := 7) rfl (nI_1 i) (by decide) rfl (fun ls hl => ?_)
                refine lv_goto (tgt := 63) C.1.1 C.1.2.1 dX6_odds_96 (by decide) ?_
                exact ih_63 (i + 1) (by omega) (by omega) _ _ _ hP hS (by have h9 := lv_sub hl [2, 3, 4, 5, 6, 7, 1, 0] rfl; rw [powL_s (A := A) (z := nI jz) (b := (nI (12 / Nat.gcd A 12)).toInt64) (if_neg (nI_ne0 (by omega) (by omega)))]; exact h9)
              · rw [show (nI jz = 0) = (jz = 0) from propext (nI_eq (a := jz) (b := 0) (by omega) (by omega))] at c_8
                refine lv_iload C.1.1 C.1.2.1 dX6_odds_75 (lv_at hl 4 rfl) ?_
                refine lv_iload C.1.1 C.1.2.1 dX6_odds_77 (lv_at hl 5 rfl) ?_
                refine lv_idiv C.1.1 C.1.2.1 dX6_odds_79 (nI_ne0 hG (by omega)) ?_
                refine lv_topE (nI (A / Nat.gcd A 12)) (pk_div (by omega) hG (by omega)) ?_
                refine lv_i2l (v := (nI (A / Nat.gcd A 12)).toInt64) C.1.1 C.1.2.1 dX6_odds_80 rfl ?_
                refine lv_goto (tgt := 90) C.1.1 C.1.2.1 dX6_odds_81 (by decide) ?_
                refine lv_lmul C.1.1 C.1.2.1 dX6_odds_90 ?_
                refine lv_lstore (lv' := [(6, .long ((powL (fracF A (nI jz)) i) * ((nI (A / Nat.gcd A 12)).toInt64))), (0, .ref (gA g 53)), (1, .int (nI jx)), (2, .int (nI jy)), (3, .int (nI jz)), (4, .int (nI A)), (5, .int (nI (Nat.gcd A 12))), (8, .int (nI i))]) C.1.1 C.1.2.1 dX6_odds_91 hl (by decide) rfl (fun ls hl => ?_)
                refine lv_iinc (v := nI (i + 1)) (lv' := [(8, .int (nI (i + 1))), (6, .long ((powL (fracF A (nI jz)) i) * ((nI (A / Nat.gcd A 12)).toInt64))), (0, .ref (gA g 53)), (1, .int (nI jx)), (2, .int (nI jy)), (3, .int (nI jz)), (4, .int (nI A)), (5, .int (nI (Nat.gcd A 12)))]) C.1.1 C.1.2.1 dX6_odds_93 hl (k := 7) rfl (nI_1 i) (by decide) rfl (fun ls hl => ?_)
                refine lv_goto (tgt := 63) C.1.1 C.1.2.1 dX6_odds_96 (by decide) ?_
                exact ih_63 (i + 1) (by omega) (by omega) _ _ _ hP hS (by have h9 := lv_sub hl [2, 3, 4, 5, 6, 7, 1, 0] rfl; rw [powL_s (A := A) (z := nI jz) (b := (nI (A / Nat.gcd A 12)).toInt64) (if_pos (by rw [c_8]; rfl))]; exact h9)
        exact lp_63 (jy + 1) 0 (Nat.zero_le _) (by omega) _ _ _ hP hS (lv_sub hl [4, 5, 6, 7, 3, 2, 1, 0] rfl)
      · skip
        have b_5 := fun h => b_5 ((in_iff 2 (by decide) (by decide)).mpr h)
        refine lv_if_ne (tgt := 37) C.1.1 C.1.2.1 dX6_odds_27 (by decide) (fun c_9 => absurd c_9 (by decide)) (fun _ => ?_)
        refine lv_aload_n C.1.1 C.1.2.1 dX6_odds_30 rfl (lv_at hl 0 rfl) ?_
        refine lv_iconst (v := 0) C.1.1 C.1.2.1 dX6_odds_31 rfl ?_
        refine a_F hS (run_V C hP hS hl.1 53 6 (Nat.lt_of_lt_of_le (by decide) hn) rfl (by decide) rfl [.int 0] (kX6_finds l g n v 0 (by decide)) gX6_odds_X6_finds rfl hdX6_finds rfl ⟨rfl, rfl⟩ ⟨Nat.le_of_ble_eq_true rfl, Nat.le_of_ble_eq_true rfl⟩ rfl [] rfl (Nat.le_of_ble_eq_true rfl) dX6_odds_32 ⟨Nat.zero_le _, Nat.zero_le _⟩) (fun H locs hP hS => ?_)
        obtain ⟨v_10, hv_10⟩ : ∃ zz, zz = fnd v 0 := ⟨_, rfl⟩
        rw [← hv_10] at hP
        refine lv_i2l (v := (-1000001 - nI 0).toInt64) C.1.1 C.1.2.1 dX6_odds_35 rfl ?_
        exact t_J C rfl hP hS (by rw [oddsM, nM_eq hM, cif_pos ⟨jx, hjx, rfl⟩, cif_pos ⟨jy, hjy, rfl⟩, cif_neg b_5] <;> rfl) (by rw [oddsM, nM_eq hM, cif_pos ⟨jx, hjx, rfl⟩, cif_pos ⟨jy, hjy, rfl⟩, cif_neg b_5, hv_10] <;> rfl) dX6_odds_36
    · skip
      have b_3 := fun h => b_3 ((in_iff 18 (by decide) (by decide)).mpr h)
      refine lv_if_eq (tgt := 30) C.1.1 C.1.2.1 dX6_odds_17 (by decide) (fun _ => ?_) (fun c_11 => absurd c_11 (by decide))
      refine lv_aload_n C.1.1 C.1.2.1 dX6_odds_30 rfl (lv_at hl 0 rfl) ?_
      refine lv_iconst (v := 0) C.1.1 C.1.2.1 dX6_odds_31 rfl ?_
      refine a_F hS (run_V C hP hS hl.1 53 6 (Nat.lt_of_lt_of_le (by decide) hn) rfl (by decide) rfl [.int 0] (kX6_finds l g n v 0 (by decide)) gX6_odds_X6_finds rfl hdX6_finds rfl ⟨rfl, rfl⟩ ⟨Nat.le_of_ble_eq_true rfl, Nat.le_of_ble_eq_true rfl⟩ rfl [] rfl (Nat.le_of_ble_eq_true rfl) dX6_odds_32 ⟨Nat.zero_le _, Nat.zero_le _⟩) (fun H locs hP hS => ?_)
      obtain ⟨v_12, hv_12⟩ : ∃ zz, zz = fnd v 0 := ⟨_, rfl⟩
      rw [← hv_12] at hP
      refine lv_i2l (v := (-1000001 - nI 0).toInt64) C.1.1 C.1.2.1 dX6_odds_35 rfl ?_
      exact t_J C rfl hP hS (by rw [oddsM, nM_eq hM, cif_pos ⟨jx, hjx, rfl⟩, cif_neg b_3] <;> rfl) (by rw [oddsM, nM_eq hM, cif_pos ⟨jx, hjx, rfl⟩, cif_neg b_3, hv_12] <;> rfl) dX6_odds_36
  · skip
    refine lv_if_eq (tgt := 30) C.1.1 C.1.2.1 dX6_odds_5 (by decide) (fun _ => ?_) (fun c_13 => absurd c_13 (by decide))
    refine lv_aload_n C.1.1 C.1.2.1 dX6_odds_30 rfl (lv_at hl 0 rfl) ?_
    refine lv_iconst (v := 0) C.1.1 C.1.2.1 dX6_odds_31 rfl ?_
    refine a_F hS (run_V C hP hS hl.1 53 6 (Nat.lt_of_lt_of_le (by decide) hn) rfl (by decide) rfl [.int 0] (kX6_finds l g n v 0 (by decide)) gX6_odds_X6_finds rfl hdX6_finds rfl ⟨rfl, rfl⟩ ⟨Nat.le_of_ble_eq_true rfl, Nat.le_of_ble_eq_true rfl⟩ rfl [] rfl (Nat.le_of_ble_eq_true rfl) dX6_odds_32 ⟨Nat.zero_le _, Nat.zero_le _⟩) (fun H locs hP hS => ?_)
    obtain ⟨v_14, hv_14⟩ : ∃ zz, zz = fnd v 0 := ⟨_, rfl⟩
    rw [← hv_14] at hP
    refine lv_i2l (v := (-1000001 - nI 0).toInt64) C.1.1 C.1.2.1 dX6_odds_35 rfl ?_
    exact t_J C rfl hP hS (by rw [oddsM, nM_eq hM, cif_neg b_1] <;> rfl) (by rw [oddsM, nM_eq hM, cif_neg b_1, hv_14] <;> rfl) dX6_odds_36

abbrev rmX6_copy : Room := { frames := 2, cells := 0, slots := 0, locals := 45 }
set_option maxHeartbeats 4000000 in
set_option maxRecDepth 100000 in
theorem kX6_copy (l : Launch) (g : GG) (n : Nat) (v : SV) (x y z a b : Int32) (hSz : ∀ i, i < 4 → ∃ z, z ≤ 40 ∧ v.1 61 i = nI z) : Met l yX6_copy wsX6_copy rmX6_copy (PW g n v [.ref (gA g 53), .int x, .int y, .int z, .int a, .int b]) (QF g n ((copyM v x y z a b).1) ((copyM v x y z a b).2)) 0 0 (wA g n) := by
  refine Met.begin RX6 rfl (by decide) rfl (Nat.le_of_ble_eq_true rfl) ?_
  intro p e s m args below meth c ls ha C hP hS hl
  have hn : 64 ≤ n := C.2.1.1.2.1
  have hi6 : ∀ w ∈ u_ws RX6 TX6 17, w ∈ wsX6_copy := by decide +kernel
  have hl : lv_has ls 7 [(0, .ref (gA g 53)), (1, .int x), (2, .int y), (3, .int z), (4, .int a), (5, .int b)] := hl
  refine lv_iload_n C.1.1 C.1.2.1 dX6_copy_0 rfl (lv_at hl 1 rfl) ?_
  refine a_B hS (run_S C hP hS hl.1 [.int x] (kX6_isSheet l g n v x) gX6_copy_X6_isSheet hdX6_isSheet rfl ⟨rfl, rfl⟩ ⟨Nat.le_of_ble_eq_true rfl, Nat.le_of_ble_eq_true rfl⟩ rfl [] rfl (Nat.le_of_ble_eq_true rfl) dX6_copy_1 ⟨Nat.zero_le _, Nat.zero_le _⟩) (fun b_1 H locs hP hS => ?_) (fun b_1 H locs hP hS => ?_)
  · skip
    obtain ⟨jx, hjx, rfl⟩ := b_1
    refine lv_if_eq (tgt := 14) C.1.1 C.1.2.1 dX6_copy_4 (by decide) (fun c_2 => absurd c_2 (by decide)) (fun _ => ?_)
    refine lv_iload_n C.1.1 C.1.2.1 dX6_copy_7 rfl (lv_at hl 3 rfl) ?_
    refine a_B hS (run_S C hP hS hl.1 [.int z] (kX6_isSheet l g n v z) gX6_copy_X6_isSheet hdX6_isSheet rfl ⟨rfl, rfl⟩ ⟨Nat.le_of_ble_eq_true rfl, Nat.le_of_ble_eq_true rfl⟩ rfl [] rfl (Nat.le_of_ble_eq_true rfl) dX6_copy_8 ⟨Nat.zero_le _, Nat.zero_le _⟩) (fun b_3 H locs hP hS => ?_) (fun b_3 H locs hP hS => ?_)
    · skip
      obtain ⟨jz, hjz, rfl⟩ := b_3
      refine lv_if_ne (tgt := 20) C.1.1 C.1.2.1 dX6_copy_11 (by decide) (fun _ => ?_) (fun c_4 => absurd c_4 (by decide))
      refine lv_aload_n C.1.1 C.1.2.1 dX6_copy_20 rfl (lv_at hl 0 rfl) ?_
      refine r_get C hP 53 6 (Nat.lt_of_lt_of_le (by decide) hn) rfl (by decide) rfl hi6 13 (by decide) (List.mem_of_getElem? (i := 1) rfl) rfl (val := .ref (gA g 60)) rfl dX6_copy_21 ?_
      refine lv_iload_n C.1.1 C.1.2.1 dX6_copy_24 rfl (lv_at hl 1 rfl) ?_
      refine r_iald C hP 60 (Nat.lt_of_lt_of_le (by decide) hn) rfl jx rfl (N := 4) rfl (by decide) (by omega) dX6_copy_25 ?_
      refine lv_if_eq (tgt := 38) C.1.1 C.1.2.1 dX6_copy_26 (by decide) (fun c_5 => ?_) (fun c_5 => ?_)
      · skip
        refine lv_aload_n C.1.1 C.1.2.1 dX6_copy_38 rfl (lv_at hl 0 rfl) ?_
        refine lv_iconst (v := 5) C.1.1 C.1.2.1 dX6_copy_39 rfl ?_
        refine a_F hS (run_V C hP hS hl.1 53 6 (Nat.lt_of_lt_of_le (by decide) hn) rfl (by decide) rfl [.int 5] (kX6_finds l g n v 5 (by decide)) gX6_copy_X6_finds rfl hdX6_finds rfl ⟨rfl, rfl⟩ ⟨Nat.le_of_ble_eq_true rfl, Nat.le_of_ble_eq_true rfl⟩ rfl [] rfl (Nat.le_of_ble_eq_true rfl) dX6_copy_40 ⟨Nat.zero_le _, Nat.zero_le _⟩) (fun H locs hP hS => ?_)
        obtain ⟨v_6, hv_6⟩ : ∃ zz, zz = fnd v 5 := ⟨_, rfl⟩
        rw [← hv_6] at hP
        exact t_F C rfl hP hS (by rw [copyM, cif_pos ⟨jx, hjx, rfl⟩, cif_pos ⟨jz, hjz, rfl⟩, tn_nI (show jx < 2 ^ 31 by omega), tn_nI (show jz < 2 ^ 31 by omega), if_pos c_5] <;> rfl) (by rw [copyM, cif_pos ⟨jx, hjx, rfl⟩, cif_pos ⟨jz, hjz, rfl⟩, tn_nI (show jx < 2 ^ 31 by omega), tn_nI (show jz < 2 ^ 31 by omega), if_pos c_5, hv_6] <;> rfl) dX6_copy_43
      · skip
        refine lv_aload_n C.1.1 C.1.2.1 dX6_copy_29 rfl (lv_at hl 0 rfl) ?_
        refine r_get C hP 53 6 (Nat.lt_of_lt_of_le (by decide) hn) rfl (by decide) rfl hi6 13 (by decide) (List.mem_of_getElem? (i := 1) rfl) rfl (val := .ref (gA g 60)) rfl dX6_copy_30 ?_
        refine lv_iload_n C.1.1 C.1.2.1 dX6_copy_33 rfl (lv_at hl 3 rfl) ?_
        refine r_iald C hP 60 (Nat.lt_of_lt_of_le (by decide) hn) rfl jz rfl (N := 4) rfl (by decide) (by omega) dX6_copy_34 ?_
        refine lv_if_ne (tgt := 44) C.1.1 C.1.2.1 dX6_copy_35 (by decide) (fun c_7 => ?_) (fun c_7 => ?_)
        · skip
          refine lv_aload_n C.1.1 C.1.2.1 dX6_copy_44 rfl (lv_at hl 0 rfl) ?_
          refine r_get C hP 53 6 (Nat.lt_of_lt_of_le (by decide) hn) rfl (by decide) rfl hi6 13 (by decide) (List.mem_of_getElem? (i := 1) rfl) rfl (val := .ref (gA g 60)) rfl dX6_copy_45 ?_
          refine lv_iload_n C.1.1 C.1.2.1 dX6_copy_48 rfl (lv_at hl 1 rfl) ?_
          refine r_iald C hP 60 (Nat.lt_of_lt_of_le (by decide) hn) rfl jx rfl (N := 4) rfl (by decide) (by omega) dX6_copy_49 ?_
          refine lv_aload_n C.1.1 C.1.2.1 dX6_copy_50 rfl (lv_at hl 0 rfl) ?_
          refine r_get C hP 53 6 (Nat.lt_of_lt_of_le (by decide) hn) rfl (by decide) rfl hi6 13 (by decide) (List.mem_of_getElem? (i := 1) rfl) rfl (val := .ref (gA g 60)) rfl dX6_copy_51 ?_
          refine lv_iload_n C.1.1 C.1.2.1 dX6_copy_54 rfl (lv_at hl 3 rfl) ?_
          refine r_iald C hP 60 (Nat.lt_of_lt_of_le (by decide) hn) rfl jz rfl (N := 4) rfl (by decide) (by omega) dX6_copy_55 ?_
          refine lv_icmp_eq (tgt := 65) C.1.1 C.1.2.1 dX6_copy_56 (by decide) (fun c_8 => ?_) (fun c_8 => ?_)
          · skip
            refine lv_iload_n C.1.1 C.1.2.1 dX6_copy_65 rfl (lv_at hl 2 rfl) ?_
            refine lv_if_lt (tgt := 114) C.1.1 C.1.2.1 dX6_copy_66 (by decide) (fun c_9 => ?_) (fun c_9 => ?_)
            · skip
              refine lv_aload_n C.1.1 C.1.2.1 dX6_copy_114 rfl (lv_at hl 0 rfl) ?_
              refine lv_iconst (v := 0) C.1.1 C.1.2.1 dX6_copy_115 rfl ?_
              refine a_F hS (run_V C hP hS hl.1 53 6 (Nat.lt_of_lt_of_le (by decide) hn) rfl (by decide) rfl [.int 0] (kX6_finds l g n v 0 (by decide)) gX6_copy_X6_finds rfl hdX6_finds rfl ⟨rfl, rfl⟩ ⟨Nat.le_of_ble_eq_true rfl, Nat.le_of_ble_eq_true rfl⟩ rfl [] rfl (Nat.le_of_ble_eq_true rfl) dX6_copy_116 ⟨Nat.zero_le _, Nat.zero_le _⟩) (fun H locs hP hS => ?_)
              obtain ⟨v_10, hv_10⟩ : ∃ zz, zz = fnd v 0 := ⟨_, rfl⟩
              rw [← hv_10] at hP
              exact t_F C rfl hP hS (by rw [copyM, cif_pos ⟨jx, hjx, rfl⟩, cif_pos ⟨jz, hjz, rfl⟩, tn_nI (show jx < 2 ^ 31 by omega), tn_nI (show jz < 2 ^ 31 by omega), if_neg c_5, if_neg c_7, if_pos c_8, if_pos c_9] <;> rfl) (by rw [copyM, cif_pos ⟨jx, hjx, rfl⟩, cif_pos ⟨jz, hjz, rfl⟩, tn_nI (show jx < 2 ^ 31 by omega), tn_nI (show jz < 2 ^ 31 by omega), if_neg c_5, if_neg c_7, if_pos c_8, if_pos c_9, hv_10] <;> rfl) dX6_copy_119
            · skip
              obtain ⟨jy, hjy, rfl⟩ := nI_of c_9
              refine lv_iload C.1.1 C.1.2.1 dX6_copy_69 (lv_at hl 4 rfl) ?_
              refine lv_if_lt (tgt := 114) C.1.1 C.1.2.1 dX6_copy_71 (by decide) (fun c_11 => ?_) (fun c_11 => ?_)
              · skip
                refine lv_aload_n C.1.1 C.1.2.1 dX6_copy_114 rfl (lv_at hl 0 rfl) ?_
                refine lv_iconst (v := 0) C.1.1 C.1.2.1 dX6_copy_115 rfl ?_
                refine a_F hS (run_V C hP hS hl.1 53 6 (Nat.lt_of_lt_of_le (by decide) hn) rfl (by decide) rfl [.int 0] (kX6_finds l g n v 0 (by decide)) gX6_copy_X6_finds rfl hdX6_finds rfl ⟨rfl, rfl⟩ ⟨Nat.le_of_ble_eq_true rfl, Nat.le_of_ble_eq_true rfl⟩ rfl [] rfl (Nat.le_of_ble_eq_true rfl) dX6_copy_116 ⟨Nat.zero_le _, Nat.zero_le _⟩) (fun H locs hP hS => ?_)
                obtain ⟨v_12, hv_12⟩ : ∃ zz, zz = fnd v 0 := ⟨_, rfl⟩
                rw [← hv_12] at hP
                exact t_F C rfl hP hS (by rw [copyM, cif_pos ⟨jx, hjx, rfl⟩, cif_pos ⟨jz, hjz, rfl⟩, tn_nI (show jx < 2 ^ 31 by omega), tn_nI (show jz < 2 ^ 31 by omega), if_neg c_5, if_neg c_7, if_pos c_8, if_neg (nI_pos hjy), if_pos c_11] <;> rfl) (by rw [copyM, cif_pos ⟨jx, hjx, rfl⟩, cif_pos ⟨jz, hjz, rfl⟩, tn_nI (show jx < 2 ^ 31 by omega), tn_nI (show jz < 2 ^ 31 by omega), if_neg c_5, if_neg c_7, if_pos c_8, if_neg (nI_pos hjy), if_pos c_11, hv_12] <;> rfl) dX6_copy_119
              · skip
                obtain ⟨ja, hja, rfl⟩ := nI_of c_11
                refine lv_iload C.1.1 C.1.2.1 dX6_copy_74 (lv_at hl 5 rfl) ?_
                refine lv_if_lt (tgt := 114) C.1.1 C.1.2.1 dX6_copy_76 (by decide) (fun c_13 => ?_) (fun c_13 => ?_)
                · skip
                  refine lv_aload_n C.1.1 C.1.2.1 dX6_copy_114 rfl (lv_at hl 0 rfl) ?_
                  refine lv_iconst (v := 0) C.1.1 C.1.2.1 dX6_copy_115 rfl ?_
                  refine a_F hS (run_V C hP hS hl.1 53 6 (Nat.lt_of_lt_of_le (by decide) hn) rfl (by decide) rfl [.int 0] (kX6_finds l g n v 0 (by decide)) gX6_copy_X6_finds rfl hdX6_finds rfl ⟨rfl, rfl⟩ ⟨Nat.le_of_ble_eq_true rfl, Nat.le_of_ble_eq_true rfl⟩ rfl [] rfl (Nat.le_of_ble_eq_true rfl) dX6_copy_116 ⟨Nat.zero_le _, Nat.zero_le _⟩) (fun H locs hP hS => ?_)
                  obtain ⟨v_14, hv_14⟩ : ∃ zz, zz = fnd v 0 := ⟨_, rfl⟩
                  rw [← hv_14] at hP
                  exact t_F C rfl hP hS (by rw [copyM, cif_pos ⟨jx, hjx, rfl⟩, cif_pos ⟨jz, hjz, rfl⟩, tn_nI (show jx < 2 ^ 31 by omega), tn_nI (show jz < 2 ^ 31 by omega), if_neg c_5, if_neg c_7, if_pos c_8, if_neg (nI_pos hjy), if_neg (nI_pos hja), if_pos c_13] <;> rfl) (by rw [copyM, cif_pos ⟨jx, hjx, rfl⟩, cif_pos ⟨jz, hjz, rfl⟩, tn_nI (show jx < 2 ^ 31 by omega), tn_nI (show jz < 2 ^ 31 by omega), if_neg c_5, if_neg c_7, if_pos c_8, if_neg (nI_pos hjy), if_neg (nI_pos hja), if_pos c_13, hv_14] <;> rfl) dX6_copy_119
                · skip
                  obtain ⟨jb, hjb, rfl⟩ := nI_of c_13
                  obtain ⟨Zx, hZx, eZx⟩ := hSz jx hjx
                  obtain ⟨Zz, hZz, eZz⟩ := hSz jz hjz
                  refine lv_iload_n C.1.1 C.1.2.1 dX6_copy_79 rfl (lv_at hl 2 rfl) ?_
                  refine lv_i2l (v := (nI jy).toInt64) C.1.1 C.1.2.1 dX6_copy_80 rfl ?_
                  refine lv_iload C.1.1 C.1.2.1 dX6_copy_81 (lv_at hl 5 rfl) ?_
                  refine lv_i2l (v := (nI jb).toInt64) C.1.1 C.1.2.1 dX6_copy_83 rfl ?_
                  refine lv_ladd C.1.1 C.1.2.1 dX6_copy_84 ?_
                  refine lv_aload_n C.1.1 C.1.2.1 dX6_copy_85 rfl (lv_at hl 0 rfl) ?_
                  refine r_get C hP 53 6 (Nat.lt_of_lt_of_le (by decide) hn) rfl (by decide) rfl hi6 14 (by decide) (List.mem_of_getElem? (i := 2) rfl) rfl (val := .ref (gA g 61)) rfl dX6_copy_86 ?_
                  refine lv_iload_n C.1.1 C.1.2.1 dX6_copy_89 rfl (lv_at hl 1 rfl) ?_
                  refine r_iald C hP 61 (Nat.lt_of_lt_of_le (by decide) hn) rfl jx rfl (N := 4) rfl (by decide) (by omega) dX6_copy_90 ?_
                  refine lv_topE (nI Zx) eZx ?_
                  refine lv_i2l (v := (nI Zx).toInt64) C.1.1 C.1.2.1 dX6_copy_91 rfl ?_
                  refine W.lcmp C.1.1 C.1.2.1 dX6_copy_92 ?_
                  refine lv_if_gt (tgt := 114) C.1.1 C.1.2.1 dX6_copy_93 (by decide) (fun c_15 => ?_) (fun c_15 => ?_)
                  · rw [lg_cmp_gt] at c_15
                    refine lv_aload_n C.1.1 C.1.2.1 dX6_copy_114 rfl (lv_at hl 0 rfl) ?_
                    refine lv_iconst (v := 0) C.1.1 C.1.2.1 dX6_copy_115 rfl ?_
                    refine a_F hS (run_V C hP hS hl.1 53 6 (Nat.lt_of_lt_of_le (by decide) hn) rfl (by decide) rfl [.int 0] (kX6_finds l g n v 0 (by decide)) gX6_copy_X6_finds rfl hdX6_finds rfl ⟨rfl, rfl⟩ ⟨Nat.le_of_ble_eq_true rfl, Nat.le_of_ble_eq_true rfl⟩ rfl [] rfl (Nat.le_of_ble_eq_true rfl) dX6_copy_116 ⟨Nat.zero_le _, Nat.zero_le _⟩) (fun H locs hP hS => ?_)
                    obtain ⟨v_16, hv_16⟩ : ∃ zz, zz = fnd v 0 := ⟨_, rfl⟩
                    rw [← hv_16] at hP
                    exact t_F C rfl hP hS (by rw [copyM, cif_pos ⟨jx, hjx, rfl⟩, cif_pos ⟨jz, hjz, rfl⟩, tn_nI (show jx < 2 ^ 31 by omega), tn_nI (show jz < 2 ^ 31 by omega), if_neg c_5, if_neg c_7, if_pos c_8, if_neg (nI_pos hjy), if_neg (nI_pos hja), if_neg (nI_pos hjb), eZx, if_pos c_15] <;> rfl) (by rw [copyM, cif_pos ⟨jx, hjx, rfl⟩, cif_pos ⟨jz, hjz, rfl⟩, tn_nI (show jx < 2 ^ 31 by omega), tn_nI (show jz < 2 ^ 31 by omega), if_neg c_5, if_neg c_7, if_pos c_8, if_neg (nI_pos hjy), if_neg (nI_pos hja), if_neg (nI_pos hjb), eZx, if_pos c_15, hv_16] <;> rfl) dX6_copy_119
                  · rw [lg_cmp_gt] at c_15
                    have hlx := long_le c_15 (by omega)
                    refine lv_iload C.1.1 C.1.2.1 dX6_copy_96 (lv_at hl 4 rfl) ?_
                    refine lv_i2l (v := (nI ja).toInt64) C.1.1 C.1.2.1 dX6_copy_98 rfl ?_
                    refine lv_iload C.1.1 C.1.2.1 dX6_copy_99 (lv_at hl 5 rfl) ?_
                    refine lv_i2l (v := (nI jb).toInt64) C.1.1 C.1.2.1 dX6_copy_101 rfl ?_
                    refine lv_ladd C.1.1 C.1.2.1 dX6_copy_102 ?_
                    refine lv_aload_n C.1.1 C.1.2.1 dX6_copy_103 rfl (lv_at hl 0 rfl) ?_
                    refine r_get C hP 53 6 (Nat.lt_of_lt_of_le (by decide) hn) rfl (by decide) rfl hi6 14 (by decide) (List.mem_of_getElem? (i := 2) rfl) rfl (val := .ref (gA g 61)) rfl dX6_copy_104 ?_
                    refine lv_iload_n C.1.1 C.1.2.1 dX6_copy_107 rfl (lv_at hl 3 rfl) ?_
                    refine r_iald C hP 61 (Nat.lt_of_lt_of_le (by decide) hn) rfl jz rfl (N := 4) rfl (by decide) (by omega) dX6_copy_108 ?_
                    refine lv_topE (nI Zz) eZz ?_
                    refine lv_i2l (v := (nI Zz).toInt64) C.1.1 C.1.2.1 dX6_copy_109 rfl ?_
                    refine W.lcmp C.1.1 C.1.2.1 dX6_copy_110 ?_
                    refine lv_if_le (tgt := 120) C.1.1 C.1.2.1 dX6_copy_111 (by decide) (fun c_17 => ?_) (fun c_17 => ?_)
                    · rw [lg_cmp_le] at c_17
                      have c_17 := fa_le_nlt64 c_17
                      have hlz := long_le c_17 (by omega)
                      refine lv_iconst (v := 0) C.1.1 C.1.2.1 dX6_copy_120 rfl ?_
                      refine lv_istore (lv' := [(6, .int 0), (0, .ref (gA g 53)), (1, .int (nI jx)), (2, .int (nI jy)), (3, .int (nI jz)), (4, .int (nI ja)), (5, .int (nI jb))]) C.1.1 C.1.2.1 dX6_copy_121 hl (by decide) rfl (fun ls hl => ?_)
                      have lp_123 : ∀ (k_123 i : Nat), i ≤ jb → jb + 1 ≤ i + k_123 → ∀ (H : Heap) (locs : List Loc) (ls : Array Slot), va_P g.1 vwCl (wl g n (upw v 63 (psF (v.1 63) (v.1 62) (40 * jx + jy) i))) H → va_S (wA g n) s.heap H locs → lv_has ls 7 [(0, .ref (gA g 53)), (1, .int (nI jx)), (2, .int (nI jy)), (3, .int (nI jz)), (4, .int (nI ja)), (5, .int (nI jb)), (6, .int (nI i))] → W p l e rmX6_copy s m args below meth c H locs 0 0 (MQ below (QF g n ((copyM v (nI jx) (nI jy) (nI jz) (nI ja) (nI jb)).1) ((copyM v (nI jx) (nI jy) (nI jz) (nI ja) (nI jb)).2)) args s 0 0 (wA g n)) (F0 m 123 ls []) := by
                        clear hP hS hl
                        intro k_123
                        induction k_123 with
                        | zero => exact fun i h1 h2 => absurd h2 (by omega)
                        | succ k_123 ih_123 =>
                          intro i hi_123 hk_123 H locs ls hP hS hl
                          refine lv_iload C.1.1 C.1.2.1 dX6_copy_123 (lv_at hl 6 rfl) ?_
                          refine lv_iload C.1.1 C.1.2.1 dX6_copy_125 (lv_at hl 5 rfl) ?_
                          refine lv_icmp_ge (tgt := 157) C.1.1 C.1.2.1 dX6_copy_127 (by decide) (fun c_18 => ?_) (fun c_18 => ?_)
                          · rw [show (nI jb ≤ nI i) = (jb ≤ i) from propext (nI_leI (a := jb) (b := i) (by omega) (by omega))] at c_18
                            have hjbi : i = jb := by omega
                            obtain ⟨PP, hPP⟩ : ∃ zz, zz = psF (v.1 63) (v.1 62) (40 * jx + jy) i := ⟨_, rfl⟩
                            rw [← hPP] at hP
                            refine lv_iconst (v := 0) C.1.1 C.1.2.1 dX6_copy_157 rfl ?_
                            refine lv_istore (lv' := [(6, .int 0), (0, .ref (gA g 53)), (1, .int (nI jx)), (2, .int (nI jy)), (3, .int (nI jz)), (4, .int (nI ja)), (5, .int (nI jb))]) C.1.1 C.1.2.1 dX6_copy_158 hl (by decide) rfl (fun ls hl => ?_)
                            have lp_160 : ∀ (k_160 i2 : Nat), i2 ≤ jb → jb + 1 ≤ i2 + k_160 → ∀ (H : Heap) (locs : List Loc) (ls : Array Slot), va_P g.1 vwCl (wl g n (upw (upw v 63 PP) 62 (cqF (v.1 62) PP (40 * jz + ja) i2))) H → va_S (wA g n) s.heap H locs → lv_has ls 7 [(0, .ref (gA g 53)), (1, .int (nI jx)), (2, .int (nI jy)), (3, .int (nI jz)), (4, .int (nI ja)), (5, .int (nI jb)), (6, .int (nI i2))] → W p l e rmX6_copy s m args below meth c H locs 0 0 (MQ below (QF g n ((copyM v (nI jx) (nI jy) (nI jz) (nI ja) (nI jb)).1) ((copyM v (nI jx) (nI jy) (nI jz) (nI ja) (nI jb)).2)) args s 0 0 (wA g n)) (F0 m 160 ls []) := by
                              clear hP hS hl
                              intro k_160
                              induction k_160 with
                              | zero => exact fun i2 h1 h2 => absurd h2 (by omega)
                              | succ k_160 ih_160 =>
                                intro i2 hi_160 hk_160 H locs ls hP hS hl
                                refine lv_iload C.1.1 C.1.2.1 dX6_copy_160 (lv_at hl 6 rfl) ?_
                                refine lv_iload C.1.1 C.1.2.1 dX6_copy_162 (lv_at hl 5 rfl) ?_
                                refine lv_icmp_ge (tgt := 195) C.1.1 C.1.2.1 dX6_copy_164 (by decide) (fun c_19 => ?_) (fun c_19 => ?_)
                                · rw [show (nI jb ≤ nI i2) = (jb ≤ i2) from propext (nI_leI (a := jb) (b := i2) (by omega) (by omega))] at c_19
                                  have hjbk : i2 = jb := by omega
                                  refine lv_iload C.1.1 C.1.2.1 dX6_copy_195 (lv_at hl 5 rfl) ?_
                                  exact t_F C rfl hP hS (by rw [copyM, cif_pos ⟨jx, hjx, rfl⟩, cif_pos ⟨jz, hjz, rfl⟩, tn_nI (show jx < 2 ^ 31 by omega), tn_nI (show jz < 2 ^ 31 by omega), if_neg c_5, if_neg c_7, if_pos c_8, if_neg (nI_pos hjy), if_neg (nI_pos hja), if_neg (nI_pos hjb), eZx, eZz, if_neg c_15, if_neg c_17]) (by rw [copyM, cif_pos ⟨jx, hjx, rfl⟩, cif_pos ⟨jz, hjz, rfl⟩, tn_nI (show jx < 2 ^ 31 by omega), tn_nI (show jz < 2 ^ 31 by omega), if_neg c_5, if_neg c_7, if_pos c_8, if_neg (nI_pos hjy), if_neg (nI_pos hja), if_neg (nI_pos hjb), eZx, eZz, if_neg c_15, if_neg c_17, copyS, tn_nI hjy, tn_nI hja, tn_nI hjb, ← hjbi, ← hPP, hjbk.trans hjbi.symm]) dX6_copy_197
                                · rw [show (nI jb ≤ nI i2) = (jb ≤ i2) from propext (nI_leI (a := jb) (b := i2) (by omega) (by omega))] at c_19
                                  refine lv_aload_n C.1.1 C.1.2.1 dX6_copy_167 rfl (lv_at hl 0 rfl) ?_
                                  refine r_get C hP 53 6 (Nat.lt_of_lt_of_le (by decide) hn) rfl (by decide) rfl hi6 15 (by decide) (List.mem_of_getElem? (i := 4) rfl) rfl (val := .ref (gA g 62)) rfl dX6_copy_168 ?_
                                  refine lv_bipush (v := 40) C.1.1 C.1.2.1 dX6_copy_171 rfl ?_
                                  refine lv_iload_n C.1.1 C.1.2.1 dX6_copy_173 rfl (lv_at hl 3 rfl) ?_
                                  refine lv_imul C.1.1 C.1.2.1 dX6_copy_174 ?_
                                  refine lv_topE (nI (40 * jz)) (pk_mul 40 jz) ?_
                                  refine lv_iload C.1.1 C.1.2.1 dX6_copy_175 (lv_at hl 4 rfl) ?_
                                  refine lv_iadd C.1.1 C.1.2.1 dX6_copy_177 ?_
                                  refine lv_topE (nI ((40 * jz) + ja)) (nI_add (40 * jz) ja) ?_
                                  refine lv_iload C.1.1 C.1.2.1 dX6_copy_178 (lv_at hl 6 rfl) ?_
                                  refine lv_iadd C.1.1 C.1.2.1 dX6_copy_180 ?_
                                  refine lv_topE (nI (((40 * jz) + ja) + i2)) (nI_add ((40 * jz) + ja) i2) ?_
                                  refine lv_aload_n C.1.1 C.1.2.1 dX6_copy_181 rfl (lv_at hl 0 rfl) ?_
                                  refine r_get C hP 53 6 (Nat.lt_of_lt_of_le (by decide) hn) rfl (by decide) rfl hi6 16 (by decide) (List.mem_of_getElem? (i := 3) rfl) rfl (val := .ref (gA g 63)) rfl dX6_copy_182 ?_
                                  refine lv_iload C.1.1 C.1.2.1 dX6_copy_185 (lv_at hl 6 rfl) ?_
                                  refine r_iald C hP 63 (Nat.lt_of_lt_of_le (by decide) hn) rfl i2 rfl (N := 40) rfl (by decide) (by omega) dX6_copy_187 ?_
                                  refine lv_topE (PP i2) (by rw [upw_ne _ _ (by decide), upw_same]) ?_
                                  refine r_iast C hP hS 62 (Nat.lt_of_lt_of_le (by decide) hn) rfl (((40 * jz) + ja) + i2) rfl (N := 160) rfl (by decide) (by omega) dX6_copy_188 (fun H locs hP hS => ?_)
                                  obtain ⟨v_20, hv_20⟩ : ∃ zz, zz = up (upw (upw v 63 PP) 62 (cqF (v.1 62) PP (40 * jz + ja) i2)) 62 (((40 * jz) + ja) + i2) (PP i2) := ⟨_, rfl⟩
                                  rw [← hv_20] at hP
                                  refine lv_iinc (v := nI (i2 + 1)) (lv' := [(6, .int (nI (i2 + 1))), (0, .ref (gA g 53)), (1, .int (nI jx)), (2, .int (nI jy)), (3, .int (nI jz)), (4, .int (nI ja)), (5, .int (nI jb))]) C.1.1 C.1.2.1 dX6_copy_189 hl (k := 6) rfl (nI_1 i2) (by decide) rfl (fun ls hl => ?_)
                                  refine lv_goto (tgt := 160) C.1.1 C.1.2.1 dX6_copy_192 (by decide) ?_
                                  exact ih_160 (i2 + 1) (by omega) (by omega) _ _ _ (by rw [hv_20, upw_up] at hP; exact hP) hS (lv_sub hl [1, 2, 3, 4, 5, 6, 0] rfl)
                            exact lp_160 (jb + 1) 0 (Nat.zero_le _) (by omega) _ _ _ (by rw [show cqF (v.1 62) PP (40 * jz + ja) 0 = (upw v 63 PP).1 62 from (upw_ne v _ (by decide)).symm, upw_self]; exact hP) hS (lv_sub hl [1, 2, 3, 4, 5, 6, 0] rfl)
                          · rw [show (nI jb ≤ nI i) = (jb ≤ i) from propext (nI_leI (a := jb) (b := i) (by omega) (by omega))] at c_18
                            refine lv_aload_n C.1.1 C.1.2.1 dX6_copy_130 rfl (lv_at hl 0 rfl) ?_
                            refine r_get C hP 53 6 (Nat.lt_of_lt_of_le (by decide) hn) rfl (by decide) rfl hi6 16 (by decide) (List.mem_of_getElem? (i := 3) rfl) rfl (val := .ref (gA g 63)) rfl dX6_copy_131 ?_
                            refine lv_iload C.1.1 C.1.2.1 dX6_copy_134 (lv_at hl 6 rfl) ?_
                            refine lv_aload_n C.1.1 C.1.2.1 dX6_copy_136 rfl (lv_at hl 0 rfl) ?_
                            refine r_get C hP 53 6 (Nat.lt_of_lt_of_le (by decide) hn) rfl (by decide) rfl hi6 15 (by decide) (List.mem_of_getElem? (i := 4) rfl) rfl (val := .ref (gA g 62)) rfl dX6_copy_137 ?_
                            refine lv_bipush (v := 40) C.1.1 C.1.2.1 dX6_copy_140 rfl ?_
                            refine lv_iload_n C.1.1 C.1.2.1 dX6_copy_142 rfl (lv_at hl 1 rfl) ?_
                            refine lv_imul C.1.1 C.1.2.1 dX6_copy_143 ?_
                            refine lv_topE (nI (40 * jx)) (pk_mul 40 jx) ?_
                            refine lv_iload_n C.1.1 C.1.2.1 dX6_copy_144 rfl (lv_at hl 2 rfl) ?_
                            refine lv_iadd C.1.1 C.1.2.1 dX6_copy_145 ?_
                            refine lv_topE (nI ((40 * jx) + jy)) (nI_add (40 * jx) jy) ?_
                            refine lv_iload C.1.1 C.1.2.1 dX6_copy_146 (lv_at hl 6 rfl) ?_
                            refine lv_iadd C.1.1 C.1.2.1 dX6_copy_148 ?_
                            refine lv_topE (nI (((40 * jx) + jy) + i)) (nI_add ((40 * jx) + jy) i) ?_
                            refine r_iald C hP 62 (Nat.lt_of_lt_of_le (by decide) hn) rfl (((40 * jx) + jy) + i) rfl (N := 160) rfl (by decide) (by omega) dX6_copy_149 ?_
                            refine lv_topE (v.1 62 (40 * jx + jy + i)) (by rw [upw_ne _ _ (by decide)]) ?_
                            refine r_iast C hP hS 63 (Nat.lt_of_lt_of_le (by decide) hn) rfl i rfl (N := 40) rfl (by decide) (by omega) dX6_copy_150 (fun H locs hP hS => ?_)
                            obtain ⟨v_21, hv_21⟩ : ∃ zz, zz = up (upw v 63 (psF (v.1 63) (v.1 62) (40 * jx + jy) i)) 63 i (v.1 62 (40 * jx + jy + i)) := ⟨_, rfl⟩
                            rw [← hv_21] at hP
                            refine lv_iinc (v := nI (i + 1)) (lv' := [(6, .int (nI (i + 1))), (0, .ref (gA g 53)), (1, .int (nI jx)), (2, .int (nI jy)), (3, .int (nI jz)), (4, .int (nI ja)), (5, .int (nI jb))]) C.1.1 C.1.2.1 dX6_copy_151 hl (k := 6) rfl (nI_1 i) (by decide) rfl (fun ls hl => ?_)
                            refine lv_goto (tgt := 123) C.1.1 C.1.2.1 dX6_copy_154 (by decide) ?_
                            exact ih_123 (i + 1) (by omega) (by omega) _ _ _ (by rw [hv_21, upw_up] at hP; exact hP) hS (lv_sub hl [1, 2, 3, 4, 5, 6, 0] rfl)
                      exact lp_123 (jb + 1) 0 (Nat.zero_le _) (by omega) _ _ _ (by rw [show psF (v.1 63) (v.1 62) (40 * jx + jy) 0 = v.1 63 from rfl, upw_self]; exact hP) hS (lv_sub hl [1, 2, 3, 4, 5, 6, 0] rfl)
                    · rw [lg_cmp_le] at c_17
                      have c_17 := fa_nle64 c_17
                      refine lv_aload_n C.1.1 C.1.2.1 dX6_copy_114 rfl (lv_at hl 0 rfl) ?_
                      refine lv_iconst (v := 0) C.1.1 C.1.2.1 dX6_copy_115 rfl ?_
                      refine a_F hS (run_V C hP hS hl.1 53 6 (Nat.lt_of_lt_of_le (by decide) hn) rfl (by decide) rfl [.int 0] (kX6_finds l g n v 0 (by decide)) gX6_copy_X6_finds rfl hdX6_finds rfl ⟨rfl, rfl⟩ ⟨Nat.le_of_ble_eq_true rfl, Nat.le_of_ble_eq_true rfl⟩ rfl [] rfl (Nat.le_of_ble_eq_true rfl) dX6_copy_116 ⟨Nat.zero_le _, Nat.zero_le _⟩) (fun H locs hP hS => ?_)
                      obtain ⟨v_22, hv_22⟩ : ∃ zz, zz = fnd v 0 := ⟨_, rfl⟩
                      rw [← hv_22] at hP
                      exact t_F C rfl hP hS (by rw [copyM, cif_pos ⟨jx, hjx, rfl⟩, cif_pos ⟨jz, hjz, rfl⟩, tn_nI (show jx < 2 ^ 31 by omega), tn_nI (show jz < 2 ^ 31 by omega), if_neg c_5, if_neg c_7, if_pos c_8, if_neg (nI_pos hjy), if_neg (nI_pos hja), if_neg (nI_pos hjb), eZx, eZz, if_neg c_15, if_pos c_17] <;> rfl) (by rw [copyM, cif_pos ⟨jx, hjx, rfl⟩, cif_pos ⟨jz, hjz, rfl⟩, tn_nI (show jx < 2 ^ 31 by omega), tn_nI (show jz < 2 ^ 31 by omega), if_neg c_5, if_neg c_7, if_pos c_8, if_neg (nI_pos hjy), if_neg (nI_pos hja), if_neg (nI_pos hjb), eZx, eZz, if_neg c_15, if_pos c_17, hv_22] <;> rfl) dX6_copy_119
          · skip
            refine lv_aload_n C.1.1 C.1.2.1 dX6_copy_59 rfl (lv_at hl 0 rfl) ?_
            refine lv_iconst (v := 2) C.1.1 C.1.2.1 dX6_copy_60 rfl ?_
            refine a_F hS (run_V C hP hS hl.1 53 6 (Nat.lt_of_lt_of_le (by decide) hn) rfl (by decide) rfl [.int 2] (kX6_finds l g n v 2 (by decide)) gX6_copy_X6_finds rfl hdX6_finds rfl ⟨rfl, rfl⟩ ⟨Nat.le_of_ble_eq_true rfl, Nat.le_of_ble_eq_true rfl⟩ rfl [] rfl (Nat.le_of_ble_eq_true rfl) dX6_copy_61 ⟨Nat.zero_le _, Nat.zero_le _⟩) (fun H locs hP hS => ?_)
            obtain ⟨v_23, hv_23⟩ : ∃ zz, zz = fnd v 2 := ⟨_, rfl⟩
            rw [← hv_23] at hP
            exact t_F C rfl hP hS (by rw [copyM, cif_pos ⟨jx, hjx, rfl⟩, cif_pos ⟨jz, hjz, rfl⟩, tn_nI (show jx < 2 ^ 31 by omega), tn_nI (show jz < 2 ^ 31 by omega), if_neg c_5, if_neg c_7, if_neg c_8] <;> rfl) (by rw [copyM, cif_pos ⟨jx, hjx, rfl⟩, cif_pos ⟨jz, hjz, rfl⟩, tn_nI (show jx < 2 ^ 31 by omega), tn_nI (show jz < 2 ^ 31 by omega), if_neg c_5, if_neg c_7, if_neg c_8, hv_23] <;> rfl) dX6_copy_64
        · skip
          refine lv_aload_n C.1.1 C.1.2.1 dX6_copy_38 rfl (lv_at hl 0 rfl) ?_
          refine lv_iconst (v := 5) C.1.1 C.1.2.1 dX6_copy_39 rfl ?_
          refine a_F hS (run_V C hP hS hl.1 53 6 (Nat.lt_of_lt_of_le (by decide) hn) rfl (by decide) rfl [.int 5] (kX6_finds l g n v 5 (by decide)) gX6_copy_X6_finds rfl hdX6_finds rfl ⟨rfl, rfl⟩ ⟨Nat.le_of_ble_eq_true rfl, Nat.le_of_ble_eq_true rfl⟩ rfl [] rfl (Nat.le_of_ble_eq_true rfl) dX6_copy_40 ⟨Nat.zero_le _, Nat.zero_le _⟩) (fun H locs hP hS => ?_)
          obtain ⟨v_24, hv_24⟩ : ∃ zz, zz = fnd v 5 := ⟨_, rfl⟩
          rw [← hv_24] at hP
          exact t_F C rfl hP hS (by rw [copyM, cif_pos ⟨jx, hjx, rfl⟩, cif_pos ⟨jz, hjz, rfl⟩, tn_nI (show jx < 2 ^ 31 by omega), tn_nI (show jz < 2 ^ 31 by omega), if_neg c_5, if_pos c_7] <;> rfl) (by rw [copyM, cif_pos ⟨jx, hjx, rfl⟩, cif_pos ⟨jz, hjz, rfl⟩, tn_nI (show jx < 2 ^ 31 by omega), tn_nI (show jz < 2 ^ 31 by omega), if_neg c_5, if_pos c_7, hv_24] <;> rfl) dX6_copy_43
    · skip
      refine lv_if_ne (tgt := 20) C.1.1 C.1.2.1 dX6_copy_11 (by decide) (fun c_25 => absurd c_25 (by decide)) (fun _ => ?_)
      refine lv_aload_n C.1.1 C.1.2.1 dX6_copy_14 rfl (lv_at hl 0 rfl) ?_
      refine lv_iconst (v := 0) C.1.1 C.1.2.1 dX6_copy_15 rfl ?_
      refine a_F hS (run_V C hP hS hl.1 53 6 (Nat.lt_of_lt_of_le (by decide) hn) rfl (by decide) rfl [.int 0] (kX6_finds l g n v 0 (by decide)) gX6_copy_X6_finds rfl hdX6_finds rfl ⟨rfl, rfl⟩ ⟨Nat.le_of_ble_eq_true rfl, Nat.le_of_ble_eq_true rfl⟩ rfl [] rfl (Nat.le_of_ble_eq_true rfl) dX6_copy_16 ⟨Nat.zero_le _, Nat.zero_le _⟩) (fun H locs hP hS => ?_)
      obtain ⟨v_26, hv_26⟩ : ∃ zz, zz = fnd v 0 := ⟨_, rfl⟩
      rw [← hv_26] at hP
      exact t_F C rfl hP hS (by rw [copyM, cif_pos ⟨jx, hjx, rfl⟩, cif_neg b_3] <;> rfl) (by rw [copyM, cif_pos ⟨jx, hjx, rfl⟩, cif_neg b_3, hv_26] <;> rfl) dX6_copy_19
  · skip
    refine lv_if_eq (tgt := 14) C.1.1 C.1.2.1 dX6_copy_4 (by decide) (fun _ => ?_) (fun c_27 => absurd c_27 (by decide))
    refine lv_aload_n C.1.1 C.1.2.1 dX6_copy_14 rfl (lv_at hl 0 rfl) ?_
    refine lv_iconst (v := 0) C.1.1 C.1.2.1 dX6_copy_15 rfl ?_
    refine a_F hS (run_V C hP hS hl.1 53 6 (Nat.lt_of_lt_of_le (by decide) hn) rfl (by decide) rfl [.int 0] (kX6_finds l g n v 0 (by decide)) gX6_copy_X6_finds rfl hdX6_finds rfl ⟨rfl, rfl⟩ ⟨Nat.le_of_ble_eq_true rfl, Nat.le_of_ble_eq_true rfl⟩ rfl [] rfl (Nat.le_of_ble_eq_true rfl) dX6_copy_16 ⟨Nat.zero_le _, Nat.zero_le _⟩) (fun H locs hP hS => ?_)
    obtain ⟨v_28, hv_28⟩ : ∃ zz, zz = fnd v 0 := ⟨_, rfl⟩
    rw [← hv_28] at hP
    exact t_F C rfl hP hS (by rw [copyM, cif_neg b_1] <;> rfl) (by rw [copyM, cif_neg b_1, hv_28] <;> rfl) dX6_copy_19

