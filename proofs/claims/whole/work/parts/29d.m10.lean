abbrev rmX6_hawk : Room := { frames := 4, cells := 0, slots := 0, locals := 90 }
set_option maxHeartbeats 4000000 in
set_option maxRecDepth 100000 in
theorem kX6_hawk (l : Launch) (g : GG) (n : Nat) (v : SV) (x : Int32) (N : Nat) (hM : okM (v.1 54) N) : Met l yX6_hawk wsX6_hawk rmX6_hawk (PW g n v [.ref (gA g 53), .int x]) (QF g n ((hawkM v x).1) ((hawkM v x).2)) 0 0 (wA g n) := by
  refine Met.begin RX6 rfl (by decide) rfl (Nat.le_of_ble_eq_true rfl) ?_
  intro p e s m args below meth c ls ha C hP hS hl
  have hn : 64 ≤ n := C.2.1.1.2.1
  have hi6 : ∀ w ∈ u_ws RX6 TX6 17, w ∈ wsX6_hawk := by decide +kernel
  have hl : lv_has ls 3 [(0, .ref (gA g 53)), (1, .int x)] := hl
  have h8 := hM.1
  obtain ⟨D, hD, eD⟩ := hM.2.2.1
  refine lv_iload_n C.1.1 C.1.2.1 dX6_hawk_0 rfl (lv_at hl 1 rfl) ?_
  refine lv_i2l (v := x.toInt64) C.1.1 C.1.2.1 dX6_hawk_1 rfl ?_
  refine lv_lconst (v := 1) C.1.1 C.1.2.1 dX6_hawk_2 rfl ?_
  refine lv_ldc2 (v := 20) C.1.1 C.1.2.1 C.1.2.2.2.1 (C.1.2.2.2.2 _ (List.mem_of_getElem? (i := 1) rfl)) dX6_hawk_3 ?_
  refine a_B hS (run_S C hP hS hl.1 [.long x.toInt64, .long 1, .long 20] (kX6_in l g n v x.toInt64 1 20) gX6_hawk_X6_in hdX6_in rfl ⟨rfl, rfl⟩ ⟨Nat.le_of_ble_eq_true rfl, Nat.le_of_ble_eq_true rfl⟩ rfl [] rfl (Nat.le_of_ble_eq_true rfl) dX6_hawk_6 ⟨Nat.zero_le _, Nat.zero_le _⟩) (fun b_1 H locs hP hS => ?_) (fun b_1 H locs hP hS => ?_)
  · skip
    have b_1 := (in_iff2 1 21 (by decide) (by decide) (by decide)).mp b_1
    obtain ⟨jx, hljx, hjx, rfl⟩ := b_1
    refine lv_if_ne (tgt := 18) C.1.1 C.1.2.1 dX6_hawk_9 (by decide) (fun _ => ?_) (fun c_2 => absurd c_2 (by decide))
    refine lv_aload_n C.1.1 C.1.2.1 dX6_hawk_18 rfl (lv_at hl 0 rfl) ?_
    refine r_get C hP 53 6 (Nat.lt_of_lt_of_le (by decide) hn) rfl (by decide) rfl hi6 0 (by decide) (List.mem_of_getElem? (i := 2) rfl) rfl (val := .ref (gA g 54)) rfl dX6_hawk_19 ?_
    refine lv_iconst (v := 1) C.1.1 C.1.2.1 dX6_hawk_22 rfl ?_
    refine r_iald C hP 54 (Nat.lt_of_lt_of_le (by decide) hn) rfl 1 rfl (N := 83) rfl (by decide) (by omega) dX6_hawk_23 ?_
    refine lv_topE (nI D) eD ?_
    refine lv_iload_n C.1.1 C.1.2.1 dX6_hawk_24 rfl (lv_at hl 1 rfl) ?_
    refine lv_iadd C.1.1 C.1.2.1 dX6_hawk_25 ?_
    refine lv_topE (nI (D + jx)) (nI_add D jx) ?_
    refine lv_ldc (v := 99999) C.1.1 C.1.2.1 C.1.2.2.2.1 (C.1.2.2.2.2 _ (List.mem_of_getElem? (i := 3) rfl)) dX6_hawk_26 ?_
    refine lv_icmp_le (tgt := 37) C.1.1 C.1.2.1 dX6_hawk_28 (by decide) (fun c_3 => ?_) (fun c_3 => ?_)
    · rw [show (nI (D + jx) ≤ 99999) = (D + jx ≤ 99999) from propext (nI_leI (a := D + jx) (b := 99999) (by omega) (by omega))] at c_3
      refine lv_iconst (v := 0) C.1.1 C.1.2.1 dX6_hawk_37 rfl ?_
      refine lv_istore_n (lv' := [(2, .int 0), (0, .ref (gA g 53)), (1, .int (nI jx))]) C.1.1 C.1.2.1 dX6_hawk_38 rfl hl (by decide) rfl (fun ls hl => ?_)
      have lp_39 : ∀ (k_39 i : Nat), i ≤ jx → jx + 1 ≤ i + k_39 → ∀ (H : Heap) (locs : List Loc) (ls : Array Slot), va_P g.1 vwCl (wl g n (upw v 54 (hkM (v.1 54) i))) H → va_S (wA g n) s.heap H locs → lv_has ls 3 [(0, .ref (gA g 53)), (1, .int (nI jx)), (2, .int (nI i))] → W p l e rmX6_hawk s m args below meth c H locs 0 0 (MQ below (QF g n ((hawkM v (nI jx)).1) ((hawkM v (nI jx)).2)) args s 0 0 (wA g n)) (F0 m 39 ls []) := by
        clear hP hS hl
        intro k_39
        induction k_39 with
        | zero => exact fun i h1 h2 => absurd h2 (by omega)
        | succ k_39 ih_39 =>
          intro i hi_39 hk_39 H locs ls hP hS hl
          have hMi := okM_hk hM i
          obtain ⟨dd, hdd⟩ : ∃ zz, zz = hkM (v.1 54) i := ⟨_, rfl⟩
          rw [← hdd] at hP hMi
          obtain ⟨Di, hDi, eDi⟩ := hMi.2.2.1
          refine lv_iload_n C.1.1 C.1.2.1 dX6_hawk_39 rfl (lv_at hl 2 rfl) ?_
          refine lv_iload_n C.1.1 C.1.2.1 dX6_hawk_40 rfl (lv_at hl 1 rfl) ?_
          refine lv_icmp_ge (tgt := 91) C.1.1 C.1.2.1 dX6_hawk_41 (by decide) (fun c_4 => ?_) (fun c_4 => ?_)
          · rw [show (nI jx ≤ nI i) = (jx ≤ i) from propext (nI_leI (a := jx) (b := i) (by omega) (by omega))] at c_4
            have hix : i = jx := by omega
            refine lv_aload_n C.1.1 C.1.2.1 dX6_hawk_91 rfl (lv_at hl 0 rfl) ?_
            refine r_get C hP 53 6 (Nat.lt_of_lt_of_le (by decide) hn) rfl (by decide) rfl hi6 0 (by decide) (List.mem_of_getElem? (i := 2) rfl) rfl (val := .ref (gA g 54)) rfl dX6_hawk_92 ?_
            refine lv_bipush (v := 6) C.1.1 C.1.2.1 dX6_hawk_95 rfl ?_
            refine r_iald C hP 54 (Nat.lt_of_lt_of_le (by decide) hn) rfl 6 rfl (N := 83) rfl (by decide) (by omega) dX6_hawk_97 ?_
            refine lv_topE (dd 6) rfl ?_
            exact t_F C rfl hP hS (by rw [hawkM, cif_pos ⟨jx, hljx, hjx, rfl⟩, eD, tn_nI (show D < 2 ^ 31 by omega), tn_nI (show jx < 2 ^ 31 by omega), if_pos c_3, ← hix, ← hdd]) (by rw [hawkM, cif_pos ⟨jx, hljx, hjx, rfl⟩, eD, tn_nI (show D < 2 ^ 31 by omega), tn_nI (show jx < 2 ^ 31 by omega), if_pos c_3, ← hix, ← hdd]) dX6_hawk_98
          · rw [show (nI jx ≤ nI i) = (jx ≤ i) from propext (nI_leI (a := jx) (b := i) (by omega) (by omega))] at c_4
            refine lv_aload_n C.1.1 C.1.2.1 dX6_hawk_44 rfl (lv_at hl 0 rfl) ?_
            refine r_get C hP 53 6 (Nat.lt_of_lt_of_le (by decide) hn) rfl (by decide) rfl hi6 0 (by decide) (List.mem_of_getElem? (i := 2) rfl) rfl (val := .ref (gA g 54)) rfl dX6_hawk_45 ?_
            refine lv_bipush (v := 7) C.1.1 C.1.2.1 dX6_hawk_48 rfl ?_
            refine lv_aload_n C.1.1 C.1.2.1 dX6_hawk_50 rfl (lv_at hl 0 rfl) ?_
            refine r_get C hP 53 6 (Nat.lt_of_lt_of_le (by decide) hn) rfl (by decide) rfl hi6 0 (by decide) (List.mem_of_getElem? (i := 2) rfl) rfl (val := .ref (gA g 54)) rfl dX6_hawk_51 ?_
            refine lv_iconst (v := 1) C.1.1 C.1.2.1 dX6_hawk_54 rfl ?_
            refine r_iald C hP 54 (Nat.lt_of_lt_of_le (by decide) hn) rfl 1 rfl (N := 83) rfl (by decide) (by omega) dX6_hawk_55 ?_
            refine lv_topE (dd 1) rfl ?_
            refine lv_topE (nI Di) eDi ?_
            refine lv_bipush (v := 6) C.1.1 C.1.2.1 dX6_hawk_56 rfl ?_
            refine lv_irem C.1.1 C.1.2.1 dX6_hawk_58 (by decide) ?_
            refine lv_topE (nI (Di % 6)) (pk_rem (by omega) (by decide) (by decide)) ?_
            refine lv_iadd C.1.1 C.1.2.1 dX6_hawk_59 ?_
            refine lv_topE (nI (7 + (Di % 6))) (nI_add 7 (Di % 6)) ?_
            refine lv_aload_n C.1.1 C.1.2.1 dX6_hawk_60 rfl (lv_at hl 0 rfl) ?_
            refine a_F hS (run_V C hP hS hl.1 53 6 (Nat.lt_of_lt_of_le (by decide) hn) rfl (by decide) rfl [] (kX6_draw l g n (upw v 54 dd) ) gX6_hawk_X6_draw rfl hdX6_draw rfl ⟨rfl, rfl⟩ ⟨Nat.le_of_ble_eq_true rfl, Nat.le_of_ble_eq_true rfl⟩ rfl [.int (nI (7 + (Di % 6))), .ref (gA g 54)] rfl (Nat.le_of_ble_eq_true rfl) dX6_hawk_61 ⟨Nat.zero_le _, Nat.zero_le _⟩) (fun H locs hP hS => ?_)
            obtain ⟨d_5, hd_5⟩ : ∃ zz, zz = upd dd 2 (lcgF (dd 2)) := ⟨_, rfl⟩
            rw [show up (upw v 54 dd) 54 2 (lcgF ((upw v 54 dd).1 54 2)) = upw v 54 d_5 from by rw [hd_5]; exact upw_up _ _ _ _ _] at hP
            refine lv_topE (ushF (lcgF (dd 2)) 8) rfl ?_
            refine lv_bipush (v := 12) C.1.1 C.1.2.1 dX6_hawk_64 rfl ?_
            refine lv_irem C.1.1 C.1.2.1 dX6_hawk_66 (by decide) ?_
            refine lv_topE (nI (uq (lcgF (dd 2)) % 12)) (by rw [uq_eq]; exact pk_rem (Nat.lt_trans (uq_lt _) (by decide)) (by decide) (by decide)) ?_
            refine r_iast C hP hS 54 (Nat.lt_of_lt_of_le (by decide) hn) rfl (7 + (Di % 6)) rfl (N := 83) rfl (by decide) (by omega) dX6_hawk_67 (fun H locs hP hS => ?_)
            obtain ⟨d_6, hd_6⟩ : ∃ zz, zz = upd d_5 (7 + (Di % 6)) (nI (uq (lcgF (dd 2)) % 12)) := ⟨_, rfl⟩
            rw [show up (upw v 54 d_5) 54 (7 + (Di % 6)) (nI (uq (lcgF (dd 2)) % 12)) = upw v 54 d_6 from by rw [hd_6]; exact upw_up _ _ _ _ _] at hP
            refine lv_aload_n C.1.1 C.1.2.1 dX6_hawk_68 rfl (lv_at hl 0 rfl) ?_
            refine r_get C hP 53 6 (Nat.lt_of_lt_of_le (by decide) hn) rfl (by decide) rfl hi6 0 (by decide) (List.mem_of_getElem? (i := 2) rfl) rfl (val := .ref (gA g 54)) rfl dX6_hawk_69 ?_
            refine lv_iconst (v := 5) C.1.1 C.1.2.1 dX6_hawk_72 rfl ?_
            refine lv_aload_n C.1.1 C.1.2.1 dX6_hawk_73 rfl (lv_at hl 0 rfl) ?_
            refine a_F hS (run_V C hP hS hl.1 53 6 (Nat.lt_of_lt_of_le (by decide) hn) rfl (by decide) rfl [] (kX6_draw l g n (upw v 54 d_6) ) gX6_hawk_X6_draw rfl hdX6_draw rfl ⟨rfl, rfl⟩ ⟨Nat.le_of_ble_eq_true rfl, Nat.le_of_ble_eq_true rfl⟩ rfl [.int 5, .ref (gA g 54)] rfl (Nat.le_of_ble_eq_true rfl) dX6_hawk_74 ⟨Nat.zero_le _, Nat.zero_le _⟩) (fun H locs hP hS => ?_)
            obtain ⟨d_7, hd_7⟩ : ∃ zz, zz = upd d_6 2 (lcgF (d_6 2)) := ⟨_, rfl⟩
            rw [show up (upw v 54 d_6) 54 2 (lcgF ((upw v 54 d_6).1 54 2)) = upw v 54 d_7 from by rw [hd_7]; exact upw_up _ _ _ _ _] at hP
            refine lv_topE (ushF (lcgF (d_6 2)) 8) rfl ?_
            refine lv_bipush (v := 10) C.1.1 C.1.2.1 dX6_hawk_77 rfl ?_
            refine lv_irem C.1.1 C.1.2.1 dX6_hawk_79 (by decide) ?_
            refine lv_topE (nI (uq (lcgF (d_6 2)) % 10)) (by rw [uq_eq]; exact pk_rem (Nat.lt_trans (uq_lt _) (by decide)) (by decide) (by decide)) ?_
            refine r_iast C hP hS 54 (Nat.lt_of_lt_of_le (by decide) hn) rfl 5 rfl (N := 83) rfl (by decide) (by omega) dX6_hawk_80 (fun H locs hP hS => ?_)
            obtain ⟨d_8, hd_8⟩ : ∃ zz, zz = upd d_7 5 (nI (uq (lcgF (d_6 2)) % 10)) := ⟨_, rfl⟩
            rw [show up (upw v 54 d_7) 54 5 (nI (uq (lcgF (d_6 2)) % 10)) = upw v 54 d_8 from by rw [hd_8]; exact upw_up _ _ _ _ _] at hP
            have okHK : okM d_8 N := by rw [hd_8, hd_7, hd_6, hd_5]; exact okM_at (okM_at (okM_list (okM_at hMi (by decide) (Or.inl (by decide))) (Nat.mod_lt _ (by decide)) (Nat.mod_lt _ (by decide))) (by decide) (Or.inl (by decide))) (by decide) (Or.inl (by decide))
            refine lv_aload_n C.1.1 C.1.2.1 dX6_hawk_81 rfl (lv_at hl 0 rfl) ?_
            refine a_G hS (run_V C hP hS hl.1 53 6 (Nat.lt_of_lt_of_le (by decide) hn) rfl (by decide) rfl [] (kX6_dayGoes l g n (upw v 54 d_8) N (by rw [upw_same]; exact okHK)) gX6_hawk_X6_dayGoes rfl hdX6_dayGoes rfl ⟨rfl, rfl⟩ ⟨Nat.le_of_ble_eq_true rfl, Nat.le_of_ble_eq_true rfl⟩ rfl [] rfl (Nat.le_of_ble_eq_true rfl) dX6_hawk_82 ⟨Nat.zero_le _, Nat.zero_le _⟩) (fun H locs hP hS => ?_)
            obtain ⟨v_9, hv_9⟩ : ∃ zz, zz = upw (upw v 54 d_8) 54 (dayM ((upw v 54 d_8).1 54)) := ⟨_, rfl⟩
            rw [← hv_9] at hP
            have ehk : dayM d_8 = hkM (v.1 54) (i + 1) := by rw [hkM, ← hdd, hkS, eDi, tn_nI (show Di < 2 ^ 31 by omega), hd_8, hd_7, hd_6, hd_5]
            rw [show v_9 = upw v 54 (hkM (v.1 54) (i + 1)) from by rw [hv_9, upw_same, upw_upw, ehk]] at hP
            refine lv_iinc (v := nI (i + 1)) (lv' := [(2, .int (nI (i + 1))), (0, .ref (gA g 53)), (1, .int (nI jx))]) C.1.1 C.1.2.1 dX6_hawk_85 hl (k := 2) rfl (nI_1 i) (by decide) rfl (fun ls hl => ?_)
            refine lv_goto (tgt := 39) C.1.1 C.1.2.1 dX6_hawk_88 (by decide) ?_
            exact ih_39 (i + 1) (by omega) (by omega) _ _ _ hP hS (lv_sub hl [1, 2, 0] rfl)
      exact lp_39 (jx + 1) 0 (Nat.zero_le _) (by omega) _ _ _ (by rw [show hkM (v.1 54) 0 = v.1 54 from rfl, upw_self]; exact hP) hS (lv_sub hl [1, 2, 0] rfl)
    · rw [show (nI (D + jx) ≤ 99999) = (D + jx ≤ 99999) from propext (nI_leI (a := D + jx) (b := 99999) (by omega) (by omega))] at c_3
      refine lv_aload_n C.1.1 C.1.2.1 dX6_hawk_31 rfl (lv_at hl 0 rfl) ?_
      refine lv_iconst (v := 4) C.1.1 C.1.2.1 dX6_hawk_32 rfl ?_
      refine a_F hS (run_V C hP hS hl.1 53 6 (Nat.lt_of_lt_of_le (by decide) hn) rfl (by decide) rfl [.int 4] (kX6_finds l g n v 4 (by decide)) gX6_hawk_X6_finds rfl hdX6_finds rfl ⟨rfl, rfl⟩ ⟨Nat.le_of_ble_eq_true rfl, Nat.le_of_ble_eq_true rfl⟩ rfl [] rfl (Nat.le_of_ble_eq_true rfl) dX6_hawk_33 ⟨Nat.zero_le _, Nat.zero_le _⟩) (fun H locs hP hS => ?_)
      obtain ⟨v_10, hv_10⟩ : ∃ zz, zz = fnd v 4 := ⟨_, rfl⟩
      rw [← hv_10] at hP
      exact t_F C rfl hP hS (by (rw [hawkM]; rw [cif_pos ⟨jx, hljx, hjx, rfl⟩]) <;> try simp only [fdM, upw_same, eq_self, if_true, if_false, ite_true, ite_false, ↓reduceIte, c_3, tn_nI (show jx < 2 ^ 31 by omega), hv_10, eD, tn_nI (show D < 2 ^ 31 by omega)]) (by (rw [hawkM]; rw [cif_pos ⟨jx, hljx, hjx, rfl⟩]) <;> try simp only [fdM, upw_same, eq_self, if_true, if_false, ite_true, ite_false, ↓reduceIte, c_3, tn_nI (show jx < 2 ^ 31 by omega), hv_10, eD, tn_nI (show D < 2 ^ 31 by omega)]) dX6_hawk_36
  · skip
    have b_1 := fun h => b_1 ((in_iff2 1 21 (by decide) (by decide) (by decide)).mpr h)
    refine lv_if_ne (tgt := 18) C.1.1 C.1.2.1 dX6_hawk_9 (by decide) (fun c_11 => absurd c_11 (by decide)) (fun _ => ?_)
    refine lv_aload_n C.1.1 C.1.2.1 dX6_hawk_12 rfl (lv_at hl 0 rfl) ?_
    refine lv_iconst (v := 0) C.1.1 C.1.2.1 dX6_hawk_13 rfl ?_
    refine a_F hS (run_V C hP hS hl.1 53 6 (Nat.lt_of_lt_of_le (by decide) hn) rfl (by decide) rfl [.int 0] (kX6_finds l g n v 0 (by decide)) gX6_hawk_X6_finds rfl hdX6_finds rfl ⟨rfl, rfl⟩ ⟨Nat.le_of_ble_eq_true rfl, Nat.le_of_ble_eq_true rfl⟩ rfl [] rfl (Nat.le_of_ble_eq_true rfl) dX6_hawk_14 ⟨Nat.zero_le _, Nat.zero_le _⟩) (fun H locs hP hS => ?_)
    obtain ⟨v_12, hv_12⟩ : ∃ zz, zz = fnd v 0 := ⟨_, rfl⟩
    rw [← hv_12] at hP
    exact t_F C rfl hP hS (by (rw [hawkM]; rw [cif_neg b_1]) <;> try simp only [fdM, upw_same, eq_self, if_true, if_false, ite_true, ite_false, ↓reduceIte, hv_12, eD, tn_nI (show D < 2 ^ 31 by omega)]) (by (rw [hawkM]; rw [cif_neg b_1]) <;> try simp only [fdM, upw_same, eq_self, if_true, if_false, ite_true, ite_false, ↓reduceIte, hv_12, eD, tn_nI (show D < 2 ^ 31 by omega)]) dX6_hawk_17

abbrev rmX6_common : Room := { frames := 0, cells := 0, slots := 0, locals := 0 }
set_option maxHeartbeats 4000000 in
set_option maxRecDepth 100000 in
theorem kX6_common (l : Launch) (g : GG) (n : Nat) (v : SV) (A : Nat) (hA : A ≤ 12) : Met l yX6_common wsX6_common rmX6_common (PW g n v [.int (nI A), .int 12]) (QF g n (nI (Nat.gcd A 12)) v) 0 0 (wA g n) := by
  refine Met.begin RX6 rfl (by decide) rfl (Nat.le_of_ble_eq_true rfl) ?_
  intro p e s m args below meth c ls ha C hP hS hl
  have h13 : A = 0 ∨ A = 1 ∨ A = 2 ∨ A = 3 ∨ A = 4 ∨ A = 5 ∨ A = 6 ∨ A = 7 ∨ A = 8 ∨ A = 9 ∨ A = 10 ∨ A = 11 ∨ A = 12 := by omega
  rcases h13 with rfl | rfl | rfl | rfl | rfl | rfl | rfl | rfl | rfl | rfl | rfl | rfl | rfl
  · have hl : lv_has ls 5 [(0, .int 0), (1, .int 12)] := hl
    refine lv_iload_n C.1.1 C.1.2.1 dX6_common_0 rfl (lv_at hl 0 rfl) ?_
    refine lv_istore_n (lv' := [(2, .int 0), (0, .int 0), (1, .int 12)]) C.1.1 C.1.2.1 dX6_common_1 rfl hl (by decide) rfl (fun ls hl => ?_)
    refine lv_iload_n C.1.1 C.1.2.1 dX6_common_2 rfl (lv_at hl 2 rfl) ?_
    refine lv_istore_n (lv' := [(3, .int 12), (2, .int 0), (0, .int 0), (1, .int 12)]) C.1.1 C.1.2.1 dX6_common_3 rfl hl (by decide) rfl (fun ls hl => ?_)
    refine lv_iload_n C.1.1 C.1.2.1 dX6_common_4 rfl (lv_at hl 0 rfl) ?_
    refine lv_if_eq (tgt := 21) C.1.1 C.1.2.1 dX6_common_5 (by decide) (fun c_1 => absurd c_1 (by decide)) (fun _ => ?_)
    refine lv_iload_n C.1.1 C.1.2.1 dX6_common_8 rfl (lv_at hl 1 rfl) ?_
    refine lv_iload_n C.1.1 C.1.2.1 dX6_common_9 rfl (lv_at hl 0 rfl) ?_
    refine lv_irem C.1.1 C.1.2.1 dX6_common_10 (by decide) ?_
    refine lv_topE 0 (by decide) ?_
    refine lv_istore (lv' := [(4, .int 0), (3, .int 12), (2, .int 0), (0, .int 0), (1, .int 12)]) C.1.1 C.1.2.1 dX6_common_11 hl (by decide) rfl (fun ls hl => ?_)
    refine lv_iload_n C.1.1 C.1.2.1 dX6_common_13 rfl (lv_at hl 1 rfl) ?_
    refine lv_istore_n (lv' := [(2, .int 12), (4, .int 0), (3, .int 12), (0, .int 0), (1, .int 12)]) C.1.1 C.1.2.1 dX6_common_14 rfl hl (by decide) rfl (fun ls hl => ?_)
    refine lv_iload C.1.1 C.1.2.1 dX6_common_15 (lv_at hl 1 rfl) ?_
    refine lv_istore_n (lv' := [(3, .int 0), (2, .int 12), (4, .int 0), (0, .int 0), (1, .int 12)]) C.1.1 C.1.2.1 dX6_common_17 rfl hl (by decide) rfl (fun ls hl => ?_)
    refine lv_goto (tgt := 4) C.1.1 C.1.2.1 dX6_common_18 (by decide) ?_
    refine lv_iload_n C.1.1 C.1.2.1 dX6_common_4 rfl (lv_at hl 0 rfl) ?_
    refine lv_if_eq (tgt := 21) C.1.1 C.1.2.1 dX6_common_5 (by decide) (fun _ => ?_) (fun c_2 => absurd c_2 (by decide))
    refine lv_iload_n C.1.1 C.1.2.1 dX6_common_21 rfl (lv_at hl 1 rfl) ?_
    exact t_F C rfl hP hS rfl rfl dX6_common_22
  · have hl : lv_has ls 5 [(0, .int 1), (1, .int 12)] := hl
    refine lv_iload_n C.1.1 C.1.2.1 dX6_common_0 rfl (lv_at hl 0 rfl) ?_
    refine lv_istore_n (lv' := [(2, .int 1), (0, .int 1), (1, .int 12)]) C.1.1 C.1.2.1 dX6_common_1 rfl hl (by decide) rfl (fun ls hl => ?_)
    refine lv_iload_n C.1.1 C.1.2.1 dX6_common_2 rfl (lv_at hl 2 rfl) ?_
    refine lv_istore_n (lv' := [(3, .int 12), (2, .int 1), (0, .int 1), (1, .int 12)]) C.1.1 C.1.2.1 dX6_common_3 rfl hl (by decide) rfl (fun ls hl => ?_)
    refine lv_iload_n C.1.1 C.1.2.1 dX6_common_4 rfl (lv_at hl 0 rfl) ?_
    refine lv_if_eq (tgt := 21) C.1.1 C.1.2.1 dX6_common_5 (by decide) (fun c_3 => absurd c_3 (by decide)) (fun _ => ?_)
    refine lv_iload_n C.1.1 C.1.2.1 dX6_common_8 rfl (lv_at hl 1 rfl) ?_
    refine lv_iload_n C.1.1 C.1.2.1 dX6_common_9 rfl (lv_at hl 0 rfl) ?_
    refine lv_irem C.1.1 C.1.2.1 dX6_common_10 (by decide) ?_
    refine lv_topE 1 (by decide) ?_
    refine lv_istore (lv' := [(4, .int 1), (3, .int 12), (2, .int 1), (0, .int 1), (1, .int 12)]) C.1.1 C.1.2.1 dX6_common_11 hl (by decide) rfl (fun ls hl => ?_)
    refine lv_iload_n C.1.1 C.1.2.1 dX6_common_13 rfl (lv_at hl 1 rfl) ?_
    refine lv_istore_n (lv' := [(2, .int 12), (4, .int 1), (3, .int 12), (0, .int 1), (1, .int 12)]) C.1.1 C.1.2.1 dX6_common_14 rfl hl (by decide) rfl (fun ls hl => ?_)
    refine lv_iload C.1.1 C.1.2.1 dX6_common_15 (lv_at hl 1 rfl) ?_
    refine lv_istore_n (lv' := [(3, .int 1), (2, .int 12), (4, .int 1), (0, .int 1), (1, .int 12)]) C.1.1 C.1.2.1 dX6_common_17 rfl hl (by decide) rfl (fun ls hl => ?_)
    refine lv_goto (tgt := 4) C.1.1 C.1.2.1 dX6_common_18 (by decide) ?_
    refine lv_iload_n C.1.1 C.1.2.1 dX6_common_4 rfl (lv_at hl 0 rfl) ?_
    refine lv_if_eq (tgt := 21) C.1.1 C.1.2.1 dX6_common_5 (by decide) (fun c_4 => absurd c_4 (by decide)) (fun _ => ?_)
    refine lv_iload_n C.1.1 C.1.2.1 dX6_common_8 rfl (lv_at hl 1 rfl) ?_
    refine lv_iload_n C.1.1 C.1.2.1 dX6_common_9 rfl (lv_at hl 0 rfl) ?_
    refine lv_irem C.1.1 C.1.2.1 dX6_common_10 (by decide) ?_
    refine lv_topE 0 (by decide) ?_
    refine lv_istore (lv' := [(4, .int 0), (3, .int 1), (2, .int 12), (0, .int 1), (1, .int 12)]) C.1.1 C.1.2.1 dX6_common_11 hl (by decide) rfl (fun ls hl => ?_)
    refine lv_iload_n C.1.1 C.1.2.1 dX6_common_13 rfl (lv_at hl 1 rfl) ?_
    refine lv_istore_n (lv' := [(2, .int 1), (4, .int 0), (3, .int 1), (0, .int 1), (1, .int 12)]) C.1.1 C.1.2.1 dX6_common_14 rfl hl (by decide) rfl (fun ls hl => ?_)
    refine lv_iload C.1.1 C.1.2.1 dX6_common_15 (lv_at hl 1 rfl) ?_
    refine lv_istore_n (lv' := [(3, .int 0), (2, .int 1), (4, .int 0), (0, .int 1), (1, .int 12)]) C.1.1 C.1.2.1 dX6_common_17 rfl hl (by decide) rfl (fun ls hl => ?_)
    refine lv_goto (tgt := 4) C.1.1 C.1.2.1 dX6_common_18 (by decide) ?_
    refine lv_iload_n C.1.1 C.1.2.1 dX6_common_4 rfl (lv_at hl 0 rfl) ?_
    refine lv_if_eq (tgt := 21) C.1.1 C.1.2.1 dX6_common_5 (by decide) (fun _ => ?_) (fun c_5 => absurd c_5 (by decide))
    refine lv_iload_n C.1.1 C.1.2.1 dX6_common_21 rfl (lv_at hl 1 rfl) ?_
    exact t_F C rfl hP hS rfl rfl dX6_common_22
  · have hl : lv_has ls 5 [(0, .int 2), (1, .int 12)] := hl
    refine lv_iload_n C.1.1 C.1.2.1 dX6_common_0 rfl (lv_at hl 0 rfl) ?_
    refine lv_istore_n (lv' := [(2, .int 2), (0, .int 2), (1, .int 12)]) C.1.1 C.1.2.1 dX6_common_1 rfl hl (by decide) rfl (fun ls hl => ?_)
    refine lv_iload_n C.1.1 C.1.2.1 dX6_common_2 rfl (lv_at hl 2 rfl) ?_
    refine lv_istore_n (lv' := [(3, .int 12), (2, .int 2), (0, .int 2), (1, .int 12)]) C.1.1 C.1.2.1 dX6_common_3 rfl hl (by decide) rfl (fun ls hl => ?_)
    refine lv_iload_n C.1.1 C.1.2.1 dX6_common_4 rfl (lv_at hl 0 rfl) ?_
    refine lv_if_eq (tgt := 21) C.1.1 C.1.2.1 dX6_common_5 (by decide) (fun c_6 => absurd c_6 (by decide)) (fun _ => ?_)
    refine lv_iload_n C.1.1 C.1.2.1 dX6_common_8 rfl (lv_at hl 1 rfl) ?_
    refine lv_iload_n C.1.1 C.1.2.1 dX6_common_9 rfl (lv_at hl 0 rfl) ?_
    refine lv_irem C.1.1 C.1.2.1 dX6_common_10 (by decide) ?_
    refine lv_topE 2 (by decide) ?_
    refine lv_istore (lv' := [(4, .int 2), (3, .int 12), (2, .int 2), (0, .int 2), (1, .int 12)]) C.1.1 C.1.2.1 dX6_common_11 hl (by decide) rfl (fun ls hl => ?_)
    refine lv_iload_n C.1.1 C.1.2.1 dX6_common_13 rfl (lv_at hl 1 rfl) ?_
    refine lv_istore_n (lv' := [(2, .int 12), (4, .int 2), (3, .int 12), (0, .int 2), (1, .int 12)]) C.1.1 C.1.2.1 dX6_common_14 rfl hl (by decide) rfl (fun ls hl => ?_)
    refine lv_iload C.1.1 C.1.2.1 dX6_common_15 (lv_at hl 1 rfl) ?_
    refine lv_istore_n (lv' := [(3, .int 2), (2, .int 12), (4, .int 2), (0, .int 2), (1, .int 12)]) C.1.1 C.1.2.1 dX6_common_17 rfl hl (by decide) rfl (fun ls hl => ?_)
    refine lv_goto (tgt := 4) C.1.1 C.1.2.1 dX6_common_18 (by decide) ?_
    refine lv_iload_n C.1.1 C.1.2.1 dX6_common_4 rfl (lv_at hl 0 rfl) ?_
    refine lv_if_eq (tgt := 21) C.1.1 C.1.2.1 dX6_common_5 (by decide) (fun c_7 => absurd c_7 (by decide)) (fun _ => ?_)
    refine lv_iload_n C.1.1 C.1.2.1 dX6_common_8 rfl (lv_at hl 1 rfl) ?_
    refine lv_iload_n C.1.1 C.1.2.1 dX6_common_9 rfl (lv_at hl 0 rfl) ?_
    refine lv_irem C.1.1 C.1.2.1 dX6_common_10 (by decide) ?_
    refine lv_topE 0 (by decide) ?_
    refine lv_istore (lv' := [(4, .int 0), (3, .int 2), (2, .int 12), (0, .int 2), (1, .int 12)]) C.1.1 C.1.2.1 dX6_common_11 hl (by decide) rfl (fun ls hl => ?_)
    refine lv_iload_n C.1.1 C.1.2.1 dX6_common_13 rfl (lv_at hl 1 rfl) ?_
    refine lv_istore_n (lv' := [(2, .int 2), (4, .int 0), (3, .int 2), (0, .int 2), (1, .int 12)]) C.1.1 C.1.2.1 dX6_common_14 rfl hl (by decide) rfl (fun ls hl => ?_)
    refine lv_iload C.1.1 C.1.2.1 dX6_common_15 (lv_at hl 1 rfl) ?_
    refine lv_istore_n (lv' := [(3, .int 0), (2, .int 2), (4, .int 0), (0, .int 2), (1, .int 12)]) C.1.1 C.1.2.1 dX6_common_17 rfl hl (by decide) rfl (fun ls hl => ?_)
    refine lv_goto (tgt := 4) C.1.1 C.1.2.1 dX6_common_18 (by decide) ?_
    refine lv_iload_n C.1.1 C.1.2.1 dX6_common_4 rfl (lv_at hl 0 rfl) ?_
    refine lv_if_eq (tgt := 21) C.1.1 C.1.2.1 dX6_common_5 (by decide) (fun _ => ?_) (fun c_8 => absurd c_8 (by decide))
    refine lv_iload_n C.1.1 C.1.2.1 dX6_common_21 rfl (lv_at hl 1 rfl) ?_
    exact t_F C rfl hP hS rfl rfl dX6_common_22
  · have hl : lv_has ls 5 [(0, .int 3), (1, .int 12)] := hl
    refine lv_iload_n C.1.1 C.1.2.1 dX6_common_0 rfl (lv_at hl 0 rfl) ?_
    refine lv_istore_n (lv' := [(2, .int 3), (0, .int 3), (1, .int 12)]) C.1.1 C.1.2.1 dX6_common_1 rfl hl (by decide) rfl (fun ls hl => ?_)
    refine lv_iload_n C.1.1 C.1.2.1 dX6_common_2 rfl (lv_at hl 2 rfl) ?_
    refine lv_istore_n (lv' := [(3, .int 12), (2, .int 3), (0, .int 3), (1, .int 12)]) C.1.1 C.1.2.1 dX6_common_3 rfl hl (by decide) rfl (fun ls hl => ?_)
    refine lv_iload_n C.1.1 C.1.2.1 dX6_common_4 rfl (lv_at hl 0 rfl) ?_
    refine lv_if_eq (tgt := 21) C.1.1 C.1.2.1 dX6_common_5 (by decide) (fun c_9 => absurd c_9 (by decide)) (fun _ => ?_)
    refine lv_iload_n C.1.1 C.1.2.1 dX6_common_8 rfl (lv_at hl 1 rfl) ?_
    refine lv_iload_n C.1.1 C.1.2.1 dX6_common_9 rfl (lv_at hl 0 rfl) ?_
    refine lv_irem C.1.1 C.1.2.1 dX6_common_10 (by decide) ?_
    refine lv_topE 3 (by decide) ?_
    refine lv_istore (lv' := [(4, .int 3), (3, .int 12), (2, .int 3), (0, .int 3), (1, .int 12)]) C.1.1 C.1.2.1 dX6_common_11 hl (by decide) rfl (fun ls hl => ?_)
    refine lv_iload_n C.1.1 C.1.2.1 dX6_common_13 rfl (lv_at hl 1 rfl) ?_
    refine lv_istore_n (lv' := [(2, .int 12), (4, .int 3), (3, .int 12), (0, .int 3), (1, .int 12)]) C.1.1 C.1.2.1 dX6_common_14 rfl hl (by decide) rfl (fun ls hl => ?_)
    refine lv_iload C.1.1 C.1.2.1 dX6_common_15 (lv_at hl 1 rfl) ?_
    refine lv_istore_n (lv' := [(3, .int 3), (2, .int 12), (4, .int 3), (0, .int 3), (1, .int 12)]) C.1.1 C.1.2.1 dX6_common_17 rfl hl (by decide) rfl (fun ls hl => ?_)
    refine lv_goto (tgt := 4) C.1.1 C.1.2.1 dX6_common_18 (by decide) ?_
    refine lv_iload_n C.1.1 C.1.2.1 dX6_common_4 rfl (lv_at hl 0 rfl) ?_
    refine lv_if_eq (tgt := 21) C.1.1 C.1.2.1 dX6_common_5 (by decide) (fun c_10 => absurd c_10 (by decide)) (fun _ => ?_)
    refine lv_iload_n C.1.1 C.1.2.1 dX6_common_8 rfl (lv_at hl 1 rfl) ?_
    refine lv_iload_n C.1.1 C.1.2.1 dX6_common_9 rfl (lv_at hl 0 rfl) ?_
    refine lv_irem C.1.1 C.1.2.1 dX6_common_10 (by decide) ?_
    refine lv_topE 0 (by decide) ?_
    refine lv_istore (lv' := [(4, .int 0), (3, .int 3), (2, .int 12), (0, .int 3), (1, .int 12)]) C.1.1 C.1.2.1 dX6_common_11 hl (by decide) rfl (fun ls hl => ?_)
    refine lv_iload_n C.1.1 C.1.2.1 dX6_common_13 rfl (lv_at hl 1 rfl) ?_
    refine lv_istore_n (lv' := [(2, .int 3), (4, .int 0), (3, .int 3), (0, .int 3), (1, .int 12)]) C.1.1 C.1.2.1 dX6_common_14 rfl hl (by decide) rfl (fun ls hl => ?_)
    refine lv_iload C.1.1 C.1.2.1 dX6_common_15 (lv_at hl 1 rfl) ?_
    refine lv_istore_n (lv' := [(3, .int 0), (2, .int 3), (4, .int 0), (0, .int 3), (1, .int 12)]) C.1.1 C.1.2.1 dX6_common_17 rfl hl (by decide) rfl (fun ls hl => ?_)
    refine lv_goto (tgt := 4) C.1.1 C.1.2.1 dX6_common_18 (by decide) ?_
    refine lv_iload_n C.1.1 C.1.2.1 dX6_common_4 rfl (lv_at hl 0 rfl) ?_
    refine lv_if_eq (tgt := 21) C.1.1 C.1.2.1 dX6_common_5 (by decide) (fun _ => ?_) (fun c_11 => absurd c_11 (by decide))
    refine lv_iload_n C.1.1 C.1.2.1 dX6_common_21 rfl (lv_at hl 1 rfl) ?_
    exact t_F C rfl hP hS rfl rfl dX6_common_22
  · have hl : lv_has ls 5 [(0, .int 4), (1, .int 12)] := hl
    refine lv_iload_n C.1.1 C.1.2.1 dX6_common_0 rfl (lv_at hl 0 rfl) ?_
    refine lv_istore_n (lv' := [(2, .int 4), (0, .int 4), (1, .int 12)]) C.1.1 C.1.2.1 dX6_common_1 rfl hl (by decide) rfl (fun ls hl => ?_)
    refine lv_iload_n C.1.1 C.1.2.1 dX6_common_2 rfl (lv_at hl 2 rfl) ?_
    refine lv_istore_n (lv' := [(3, .int 12), (2, .int 4), (0, .int 4), (1, .int 12)]) C.1.1 C.1.2.1 dX6_common_3 rfl hl (by decide) rfl (fun ls hl => ?_)
    refine lv_iload_n C.1.1 C.1.2.1 dX6_common_4 rfl (lv_at hl 0 rfl) ?_
    refine lv_if_eq (tgt := 21) C.1.1 C.1.2.1 dX6_common_5 (by decide) (fun c_12 => absurd c_12 (by decide)) (fun _ => ?_)
    refine lv_iload_n C.1.1 C.1.2.1 dX6_common_8 rfl (lv_at hl 1 rfl) ?_
    refine lv_iload_n C.1.1 C.1.2.1 dX6_common_9 rfl (lv_at hl 0 rfl) ?_
    refine lv_irem C.1.1 C.1.2.1 dX6_common_10 (by decide) ?_
    refine lv_topE 4 (by decide) ?_
    refine lv_istore (lv' := [(4, .int 4), (3, .int 12), (2, .int 4), (0, .int 4), (1, .int 12)]) C.1.1 C.1.2.1 dX6_common_11 hl (by decide) rfl (fun ls hl => ?_)
    refine lv_iload_n C.1.1 C.1.2.1 dX6_common_13 rfl (lv_at hl 1 rfl) ?_
    refine lv_istore_n (lv' := [(2, .int 12), (4, .int 4), (3, .int 12), (0, .int 4), (1, .int 12)]) C.1.1 C.1.2.1 dX6_common_14 rfl hl (by decide) rfl (fun ls hl => ?_)
    refine lv_iload C.1.1 C.1.2.1 dX6_common_15 (lv_at hl 1 rfl) ?_
    refine lv_istore_n (lv' := [(3, .int 4), (2, .int 12), (4, .int 4), (0, .int 4), (1, .int 12)]) C.1.1 C.1.2.1 dX6_common_17 rfl hl (by decide) rfl (fun ls hl => ?_)
    refine lv_goto (tgt := 4) C.1.1 C.1.2.1 dX6_common_18 (by decide) ?_
    refine lv_iload_n C.1.1 C.1.2.1 dX6_common_4 rfl (lv_at hl 0 rfl) ?_
    refine lv_if_eq (tgt := 21) C.1.1 C.1.2.1 dX6_common_5 (by decide) (fun c_13 => absurd c_13 (by decide)) (fun _ => ?_)
    refine lv_iload_n C.1.1 C.1.2.1 dX6_common_8 rfl (lv_at hl 1 rfl) ?_
    refine lv_iload_n C.1.1 C.1.2.1 dX6_common_9 rfl (lv_at hl 0 rfl) ?_
    refine lv_irem C.1.1 C.1.2.1 dX6_common_10 (by decide) ?_
    refine lv_topE 0 (by decide) ?_
    refine lv_istore (lv' := [(4, .int 0), (3, .int 4), (2, .int 12), (0, .int 4), (1, .int 12)]) C.1.1 C.1.2.1 dX6_common_11 hl (by decide) rfl (fun ls hl => ?_)
    refine lv_iload_n C.1.1 C.1.2.1 dX6_common_13 rfl (lv_at hl 1 rfl) ?_
    refine lv_istore_n (lv' := [(2, .int 4), (4, .int 0), (3, .int 4), (0, .int 4), (1, .int 12)]) C.1.1 C.1.2.1 dX6_common_14 rfl hl (by decide) rfl (fun ls hl => ?_)
    refine lv_iload C.1.1 C.1.2.1 dX6_common_15 (lv_at hl 1 rfl) ?_
    refine lv_istore_n (lv' := [(3, .int 0), (2, .int 4), (4, .int 0), (0, .int 4), (1, .int 12)]) C.1.1 C.1.2.1 dX6_common_17 rfl hl (by decide) rfl (fun ls hl => ?_)
    refine lv_goto (tgt := 4) C.1.1 C.1.2.1 dX6_common_18 (by decide) ?_
    refine lv_iload_n C.1.1 C.1.2.1 dX6_common_4 rfl (lv_at hl 0 rfl) ?_
    refine lv_if_eq (tgt := 21) C.1.1 C.1.2.1 dX6_common_5 (by decide) (fun _ => ?_) (fun c_14 => absurd c_14 (by decide))
    refine lv_iload_n C.1.1 C.1.2.1 dX6_common_21 rfl (lv_at hl 1 rfl) ?_
    exact t_F C rfl hP hS rfl rfl dX6_common_22
  · have hl : lv_has ls 5 [(0, .int 5), (1, .int 12)] := hl
    refine lv_iload_n C.1.1 C.1.2.1 dX6_common_0 rfl (lv_at hl 0 rfl) ?_
    refine lv_istore_n (lv' := [(2, .int 5), (0, .int 5), (1, .int 12)]) C.1.1 C.1.2.1 dX6_common_1 rfl hl (by decide) rfl (fun ls hl => ?_)
    refine lv_iload_n C.1.1 C.1.2.1 dX6_common_2 rfl (lv_at hl 2 rfl) ?_
    refine lv_istore_n (lv' := [(3, .int 12), (2, .int 5), (0, .int 5), (1, .int 12)]) C.1.1 C.1.2.1 dX6_common_3 rfl hl (by decide) rfl (fun ls hl => ?_)
    refine lv_iload_n C.1.1 C.1.2.1 dX6_common_4 rfl (lv_at hl 0 rfl) ?_
    refine lv_if_eq (tgt := 21) C.1.1 C.1.2.1 dX6_common_5 (by decide) (fun c_15 => absurd c_15 (by decide)) (fun _ => ?_)
    refine lv_iload_n C.1.1 C.1.2.1 dX6_common_8 rfl (lv_at hl 1 rfl) ?_
    refine lv_iload_n C.1.1 C.1.2.1 dX6_common_9 rfl (lv_at hl 0 rfl) ?_
    refine lv_irem C.1.1 C.1.2.1 dX6_common_10 (by decide) ?_
    refine lv_topE 5 (by decide) ?_
    refine lv_istore (lv' := [(4, .int 5), (3, .int 12), (2, .int 5), (0, .int 5), (1, .int 12)]) C.1.1 C.1.2.1 dX6_common_11 hl (by decide) rfl (fun ls hl => ?_)
    refine lv_iload_n C.1.1 C.1.2.1 dX6_common_13 rfl (lv_at hl 1 rfl) ?_
    refine lv_istore_n (lv' := [(2, .int 12), (4, .int 5), (3, .int 12), (0, .int 5), (1, .int 12)]) C.1.1 C.1.2.1 dX6_common_14 rfl hl (by decide) rfl (fun ls hl => ?_)
    refine lv_iload C.1.1 C.1.2.1 dX6_common_15 (lv_at hl 1 rfl) ?_
    refine lv_istore_n (lv' := [(3, .int 5), (2, .int 12), (4, .int 5), (0, .int 5), (1, .int 12)]) C.1.1 C.1.2.1 dX6_common_17 rfl hl (by decide) rfl (fun ls hl => ?_)
    refine lv_goto (tgt := 4) C.1.1 C.1.2.1 dX6_common_18 (by decide) ?_
    refine lv_iload_n C.1.1 C.1.2.1 dX6_common_4 rfl (lv_at hl 0 rfl) ?_
    refine lv_if_eq (tgt := 21) C.1.1 C.1.2.1 dX6_common_5 (by decide) (fun c_16 => absurd c_16 (by decide)) (fun _ => ?_)
    refine lv_iload_n C.1.1 C.1.2.1 dX6_common_8 rfl (lv_at hl 1 rfl) ?_
    refine lv_iload_n C.1.1 C.1.2.1 dX6_common_9 rfl (lv_at hl 0 rfl) ?_
    refine lv_irem C.1.1 C.1.2.1 dX6_common_10 (by decide) ?_
    refine lv_topE 2 (by decide) ?_
    refine lv_istore (lv' := [(4, .int 2), (3, .int 5), (2, .int 12), (0, .int 5), (1, .int 12)]) C.1.1 C.1.2.1 dX6_common_11 hl (by decide) rfl (fun ls hl => ?_)
    refine lv_iload_n C.1.1 C.1.2.1 dX6_common_13 rfl (lv_at hl 1 rfl) ?_
    refine lv_istore_n (lv' := [(2, .int 5), (4, .int 2), (3, .int 5), (0, .int 5), (1, .int 12)]) C.1.1 C.1.2.1 dX6_common_14 rfl hl (by decide) rfl (fun ls hl => ?_)
    refine lv_iload C.1.1 C.1.2.1 dX6_common_15 (lv_at hl 1 rfl) ?_
    refine lv_istore_n (lv' := [(3, .int 2), (2, .int 5), (4, .int 2), (0, .int 5), (1, .int 12)]) C.1.1 C.1.2.1 dX6_common_17 rfl hl (by decide) rfl (fun ls hl => ?_)
    refine lv_goto (tgt := 4) C.1.1 C.1.2.1 dX6_common_18 (by decide) ?_
    refine lv_iload_n C.1.1 C.1.2.1 dX6_common_4 rfl (lv_at hl 0 rfl) ?_
    refine lv_if_eq (tgt := 21) C.1.1 C.1.2.1 dX6_common_5 (by decide) (fun c_17 => absurd c_17 (by decide)) (fun _ => ?_)
    refine lv_iload_n C.1.1 C.1.2.1 dX6_common_8 rfl (lv_at hl 1 rfl) ?_
    refine lv_iload_n C.1.1 C.1.2.1 dX6_common_9 rfl (lv_at hl 0 rfl) ?_
    refine lv_irem C.1.1 C.1.2.1 dX6_common_10 (by decide) ?_
    refine lv_topE 1 (by decide) ?_
    refine lv_istore (lv' := [(4, .int 1), (3, .int 2), (2, .int 5), (0, .int 5), (1, .int 12)]) C.1.1 C.1.2.1 dX6_common_11 hl (by decide) rfl (fun ls hl => ?_)
    refine lv_iload_n C.1.1 C.1.2.1 dX6_common_13 rfl (lv_at hl 1 rfl) ?_
    refine lv_istore_n (lv' := [(2, .int 2), (4, .int 1), (3, .int 2), (0, .int 5), (1, .int 12)]) C.1.1 C.1.2.1 dX6_common_14 rfl hl (by decide) rfl (fun ls hl => ?_)
    refine lv_iload C.1.1 C.1.2.1 dX6_common_15 (lv_at hl 1 rfl) ?_
    refine lv_istore_n (lv' := [(3, .int 1), (2, .int 2), (4, .int 1), (0, .int 5), (1, .int 12)]) C.1.1 C.1.2.1 dX6_common_17 rfl hl (by decide) rfl (fun ls hl => ?_)
    refine lv_goto (tgt := 4) C.1.1 C.1.2.1 dX6_common_18 (by decide) ?_
    refine lv_iload_n C.1.1 C.1.2.1 dX6_common_4 rfl (lv_at hl 0 rfl) ?_
    refine lv_if_eq (tgt := 21) C.1.1 C.1.2.1 dX6_common_5 (by decide) (fun c_18 => absurd c_18 (by decide)) (fun _ => ?_)
    refine lv_iload_n C.1.1 C.1.2.1 dX6_common_8 rfl (lv_at hl 1 rfl) ?_
    refine lv_iload_n C.1.1 C.1.2.1 dX6_common_9 rfl (lv_at hl 0 rfl) ?_
    refine lv_irem C.1.1 C.1.2.1 dX6_common_10 (by decide) ?_
    refine lv_topE 0 (by decide) ?_
    refine lv_istore (lv' := [(4, .int 0), (3, .int 1), (2, .int 2), (0, .int 5), (1, .int 12)]) C.1.1 C.1.2.1 dX6_common_11 hl (by decide) rfl (fun ls hl => ?_)
    refine lv_iload_n C.1.1 C.1.2.1 dX6_common_13 rfl (lv_at hl 1 rfl) ?_
    refine lv_istore_n (lv' := [(2, .int 1), (4, .int 0), (3, .int 1), (0, .int 5), (1, .int 12)]) C.1.1 C.1.2.1 dX6_common_14 rfl hl (by decide) rfl (fun ls hl => ?_)
    refine lv_iload C.1.1 C.1.2.1 dX6_common_15 (lv_at hl 1 rfl) ?_
    refine lv_istore_n (lv' := [(3, .int 0), (2, .int 1), (4, .int 0), (0, .int 5), (1, .int 12)]) C.1.1 C.1.2.1 dX6_common_17 rfl hl (by decide) rfl (fun ls hl => ?_)
    refine lv_goto (tgt := 4) C.1.1 C.1.2.1 dX6_common_18 (by decide) ?_
    refine lv_iload_n C.1.1 C.1.2.1 dX6_common_4 rfl (lv_at hl 0 rfl) ?_
    refine lv_if_eq (tgt := 21) C.1.1 C.1.2.1 dX6_common_5 (by decide) (fun _ => ?_) (fun c_19 => absurd c_19 (by decide))
    refine lv_iload_n C.1.1 C.1.2.1 dX6_common_21 rfl (lv_at hl 1 rfl) ?_
    exact t_F C rfl hP hS rfl rfl dX6_common_22
  · have hl : lv_has ls 5 [(0, .int 6), (1, .int 12)] := hl
    refine lv_iload_n C.1.1 C.1.2.1 dX6_common_0 rfl (lv_at hl 0 rfl) ?_
    refine lv_istore_n (lv' := [(2, .int 6), (0, .int 6), (1, .int 12)]) C.1.1 C.1.2.1 dX6_common_1 rfl hl (by decide) rfl (fun ls hl => ?_)
    refine lv_iload_n C.1.1 C.1.2.1 dX6_common_2 rfl (lv_at hl 2 rfl) ?_
    refine lv_istore_n (lv' := [(3, .int 12), (2, .int 6), (0, .int 6), (1, .int 12)]) C.1.1 C.1.2.1 dX6_common_3 rfl hl (by decide) rfl (fun ls hl => ?_)
    refine lv_iload_n C.1.1 C.1.2.1 dX6_common_4 rfl (lv_at hl 0 rfl) ?_
    refine lv_if_eq (tgt := 21) C.1.1 C.1.2.1 dX6_common_5 (by decide) (fun c_20 => absurd c_20 (by decide)) (fun _ => ?_)
    refine lv_iload_n C.1.1 C.1.2.1 dX6_common_8 rfl (lv_at hl 1 rfl) ?_
    refine lv_iload_n C.1.1 C.1.2.1 dX6_common_9 rfl (lv_at hl 0 rfl) ?_
    refine lv_irem C.1.1 C.1.2.1 dX6_common_10 (by decide) ?_
    refine lv_topE 6 (by decide) ?_
    refine lv_istore (lv' := [(4, .int 6), (3, .int 12), (2, .int 6), (0, .int 6), (1, .int 12)]) C.1.1 C.1.2.1 dX6_common_11 hl (by decide) rfl (fun ls hl => ?_)
    refine lv_iload_n C.1.1 C.1.2.1 dX6_common_13 rfl (lv_at hl 1 rfl) ?_
    refine lv_istore_n (lv' := [(2, .int 12), (4, .int 6), (3, .int 12), (0, .int 6), (1, .int 12)]) C.1.1 C.1.2.1 dX6_common_14 rfl hl (by decide) rfl (fun ls hl => ?_)
    refine lv_iload C.1.1 C.1.2.1 dX6_common_15 (lv_at hl 1 rfl) ?_
    refine lv_istore_n (lv' := [(3, .int 6), (2, .int 12), (4, .int 6), (0, .int 6), (1, .int 12)]) C.1.1 C.1.2.1 dX6_common_17 rfl hl (by decide) rfl (fun ls hl => ?_)
    refine lv_goto (tgt := 4) C.1.1 C.1.2.1 dX6_common_18 (by decide) ?_
    refine lv_iload_n C.1.1 C.1.2.1 dX6_common_4 rfl (lv_at hl 0 rfl) ?_
    refine lv_if_eq (tgt := 21) C.1.1 C.1.2.1 dX6_common_5 (by decide) (fun c_21 => absurd c_21 (by decide)) (fun _ => ?_)
    refine lv_iload_n C.1.1 C.1.2.1 dX6_common_8 rfl (lv_at hl 1 rfl) ?_
    refine lv_iload_n C.1.1 C.1.2.1 dX6_common_9 rfl (lv_at hl 0 rfl) ?_
    refine lv_irem C.1.1 C.1.2.1 dX6_common_10 (by decide) ?_
    refine lv_topE 0 (by decide) ?_
    refine lv_istore (lv' := [(4, .int 0), (3, .int 6), (2, .int 12), (0, .int 6), (1, .int 12)]) C.1.1 C.1.2.1 dX6_common_11 hl (by decide) rfl (fun ls hl => ?_)
    refine lv_iload_n C.1.1 C.1.2.1 dX6_common_13 rfl (lv_at hl 1 rfl) ?_
    refine lv_istore_n (lv' := [(2, .int 6), (4, .int 0), (3, .int 6), (0, .int 6), (1, .int 12)]) C.1.1 C.1.2.1 dX6_common_14 rfl hl (by decide) rfl (fun ls hl => ?_)
    refine lv_iload C.1.1 C.1.2.1 dX6_common_15 (lv_at hl 1 rfl) ?_
    refine lv_istore_n (lv' := [(3, .int 0), (2, .int 6), (4, .int 0), (0, .int 6), (1, .int 12)]) C.1.1 C.1.2.1 dX6_common_17 rfl hl (by decide) rfl (fun ls hl => ?_)
    refine lv_goto (tgt := 4) C.1.1 C.1.2.1 dX6_common_18 (by decide) ?_
    refine lv_iload_n C.1.1 C.1.2.1 dX6_common_4 rfl (lv_at hl 0 rfl) ?_
    refine lv_if_eq (tgt := 21) C.1.1 C.1.2.1 dX6_common_5 (by decide) (fun _ => ?_) (fun c_22 => absurd c_22 (by decide))
    refine lv_iload_n C.1.1 C.1.2.1 dX6_common_21 rfl (lv_at hl 1 rfl) ?_
    exact t_F C rfl hP hS rfl rfl dX6_common_22
  · have hl : lv_has ls 5 [(0, .int 7), (1, .int 12)] := hl
    refine lv_iload_n C.1.1 C.1.2.1 dX6_common_0 rfl (lv_at hl 0 rfl) ?_
    refine lv_istore_n (lv' := [(2, .int 7), (0, .int 7), (1, .int 12)]) C.1.1 C.1.2.1 dX6_common_1 rfl hl (by decide) rfl (fun ls hl => ?_)
    refine lv_iload_n C.1.1 C.1.2.1 dX6_common_2 rfl (lv_at hl 2 rfl) ?_
    refine lv_istore_n (lv' := [(3, .int 12), (2, .int 7), (0, .int 7), (1, .int 12)]) C.1.1 C.1.2.1 dX6_common_3 rfl hl (by decide) rfl (fun ls hl => ?_)
    refine lv_iload_n C.1.1 C.1.2.1 dX6_common_4 rfl (lv_at hl 0 rfl) ?_
    refine lv_if_eq (tgt := 21) C.1.1 C.1.2.1 dX6_common_5 (by decide) (fun c_23 => absurd c_23 (by decide)) (fun _ => ?_)
    refine lv_iload_n C.1.1 C.1.2.1 dX6_common_8 rfl (lv_at hl 1 rfl) ?_
    refine lv_iload_n C.1.1 C.1.2.1 dX6_common_9 rfl (lv_at hl 0 rfl) ?_
    refine lv_irem C.1.1 C.1.2.1 dX6_common_10 (by decide) ?_
    refine lv_topE 7 (by decide) ?_
    refine lv_istore (lv' := [(4, .int 7), (3, .int 12), (2, .int 7), (0, .int 7), (1, .int 12)]) C.1.1 C.1.2.1 dX6_common_11 hl (by decide) rfl (fun ls hl => ?_)
    refine lv_iload_n C.1.1 C.1.2.1 dX6_common_13 rfl (lv_at hl 1 rfl) ?_
    refine lv_istore_n (lv' := [(2, .int 12), (4, .int 7), (3, .int 12), (0, .int 7), (1, .int 12)]) C.1.1 C.1.2.1 dX6_common_14 rfl hl (by decide) rfl (fun ls hl => ?_)
    refine lv_iload C.1.1 C.1.2.1 dX6_common_15 (lv_at hl 1 rfl) ?_
    refine lv_istore_n (lv' := [(3, .int 7), (2, .int 12), (4, .int 7), (0, .int 7), (1, .int 12)]) C.1.1 C.1.2.1 dX6_common_17 rfl hl (by decide) rfl (fun ls hl => ?_)
    refine lv_goto (tgt := 4) C.1.1 C.1.2.1 dX6_common_18 (by decide) ?_
    refine lv_iload_n C.1.1 C.1.2.1 dX6_common_4 rfl (lv_at hl 0 rfl) ?_
    refine lv_if_eq (tgt := 21) C.1.1 C.1.2.1 dX6_common_5 (by decide) (fun c_24 => absurd c_24 (by decide)) (fun _ => ?_)
    refine lv_iload_n C.1.1 C.1.2.1 dX6_common_8 rfl (lv_at hl 1 rfl) ?_
    refine lv_iload_n C.1.1 C.1.2.1 dX6_common_9 rfl (lv_at hl 0 rfl) ?_
    refine lv_irem C.1.1 C.1.2.1 dX6_common_10 (by decide) ?_
    refine lv_topE 5 (by decide) ?_
    refine lv_istore (lv' := [(4, .int 5), (3, .int 7), (2, .int 12), (0, .int 7), (1, .int 12)]) C.1.1 C.1.2.1 dX6_common_11 hl (by decide) rfl (fun ls hl => ?_)
    refine lv_iload_n C.1.1 C.1.2.1 dX6_common_13 rfl (lv_at hl 1 rfl) ?_
    refine lv_istore_n (lv' := [(2, .int 7), (4, .int 5), (3, .int 7), (0, .int 7), (1, .int 12)]) C.1.1 C.1.2.1 dX6_common_14 rfl hl (by decide) rfl (fun ls hl => ?_)
    refine lv_iload C.1.1 C.1.2.1 dX6_common_15 (lv_at hl 1 rfl) ?_
    refine lv_istore_n (lv' := [(3, .int 5), (2, .int 7), (4, .int 5), (0, .int 7), (1, .int 12)]) C.1.1 C.1.2.1 dX6_common_17 rfl hl (by decide) rfl (fun ls hl => ?_)
    refine lv_goto (tgt := 4) C.1.1 C.1.2.1 dX6_common_18 (by decide) ?_
    refine lv_iload_n C.1.1 C.1.2.1 dX6_common_4 rfl (lv_at hl 0 rfl) ?_
    refine lv_if_eq (tgt := 21) C.1.1 C.1.2.1 dX6_common_5 (by decide) (fun c_25 => absurd c_25 (by decide)) (fun _ => ?_)
    refine lv_iload_n C.1.1 C.1.2.1 dX6_common_8 rfl (lv_at hl 1 rfl) ?_
    refine lv_iload_n C.1.1 C.1.2.1 dX6_common_9 rfl (lv_at hl 0 rfl) ?_
    refine lv_irem C.1.1 C.1.2.1 dX6_common_10 (by decide) ?_
    refine lv_topE 2 (by decide) ?_
    refine lv_istore (lv' := [(4, .int 2), (3, .int 5), (2, .int 7), (0, .int 7), (1, .int 12)]) C.1.1 C.1.2.1 dX6_common_11 hl (by decide) rfl (fun ls hl => ?_)
    refine lv_iload_n C.1.1 C.1.2.1 dX6_common_13 rfl (lv_at hl 1 rfl) ?_
    refine lv_istore_n (lv' := [(2, .int 5), (4, .int 2), (3, .int 5), (0, .int 7), (1, .int 12)]) C.1.1 C.1.2.1 dX6_common_14 rfl hl (by decide) rfl (fun ls hl => ?_)
    refine lv_iload C.1.1 C.1.2.1 dX6_common_15 (lv_at hl 1 rfl) ?_
    refine lv_istore_n (lv' := [(3, .int 2), (2, .int 5), (4, .int 2), (0, .int 7), (1, .int 12)]) C.1.1 C.1.2.1 dX6_common_17 rfl hl (by decide) rfl (fun ls hl => ?_)
    refine lv_goto (tgt := 4) C.1.1 C.1.2.1 dX6_common_18 (by decide) ?_
    refine lv_iload_n C.1.1 C.1.2.1 dX6_common_4 rfl (lv_at hl 0 rfl) ?_
    refine lv_if_eq (tgt := 21) C.1.1 C.1.2.1 dX6_common_5 (by decide) (fun c_26 => absurd c_26 (by decide)) (fun _ => ?_)
    refine lv_iload_n C.1.1 C.1.2.1 dX6_common_8 rfl (lv_at hl 1 rfl) ?_
    refine lv_iload_n C.1.1 C.1.2.1 dX6_common_9 rfl (lv_at hl 0 rfl) ?_
    refine lv_irem C.1.1 C.1.2.1 dX6_common_10 (by decide) ?_
    refine lv_topE 1 (by decide) ?_
    refine lv_istore (lv' := [(4, .int 1), (3, .int 2), (2, .int 5), (0, .int 7), (1, .int 12)]) C.1.1 C.1.2.1 dX6_common_11 hl (by decide) rfl (fun ls hl => ?_)
    refine lv_iload_n C.1.1 C.1.2.1 dX6_common_13 rfl (lv_at hl 1 rfl) ?_
    refine lv_istore_n (lv' := [(2, .int 2), (4, .int 1), (3, .int 2), (0, .int 7), (1, .int 12)]) C.1.1 C.1.2.1 dX6_common_14 rfl hl (by decide) rfl (fun ls hl => ?_)
    refine lv_iload C.1.1 C.1.2.1 dX6_common_15 (lv_at hl 1 rfl) ?_
    refine lv_istore_n (lv' := [(3, .int 1), (2, .int 2), (4, .int 1), (0, .int 7), (1, .int 12)]) C.1.1 C.1.2.1 dX6_common_17 rfl hl (by decide) rfl (fun ls hl => ?_)
    refine lv_goto (tgt := 4) C.1.1 C.1.2.1 dX6_common_18 (by decide) ?_
    refine lv_iload_n C.1.1 C.1.2.1 dX6_common_4 rfl (lv_at hl 0 rfl) ?_
    refine lv_if_eq (tgt := 21) C.1.1 C.1.2.1 dX6_common_5 (by decide) (fun c_27 => absurd c_27 (by decide)) (fun _ => ?_)
    refine lv_iload_n C.1.1 C.1.2.1 dX6_common_8 rfl (lv_at hl 1 rfl) ?_
    refine lv_iload_n C.1.1 C.1.2.1 dX6_common_9 rfl (lv_at hl 0 rfl) ?_
    refine lv_irem C.1.1 C.1.2.1 dX6_common_10 (by decide) ?_
    refine lv_topE 0 (by decide) ?_
    refine lv_istore (lv' := [(4, .int 0), (3, .int 1), (2, .int 2), (0, .int 7), (1, .int 12)]) C.1.1 C.1.2.1 dX6_common_11 hl (by decide) rfl (fun ls hl => ?_)
    refine lv_iload_n C.1.1 C.1.2.1 dX6_common_13 rfl (lv_at hl 1 rfl) ?_
    refine lv_istore_n (lv' := [(2, .int 1), (4, .int 0), (3, .int 1), (0, .int 7), (1, .int 12)]) C.1.1 C.1.2.1 dX6_common_14 rfl hl (by decide) rfl (fun ls hl => ?_)
    refine lv_iload C.1.1 C.1.2.1 dX6_common_15 (lv_at hl 1 rfl) ?_
    refine lv_istore_n (lv' := [(3, .int 0), (2, .int 1), (4, .int 0), (0, .int 7), (1, .int 12)]) C.1.1 C.1.2.1 dX6_common_17 rfl hl (by decide) rfl (fun ls hl => ?_)
    refine lv_goto (tgt := 4) C.1.1 C.1.2.1 dX6_common_18 (by decide) ?_
    refine lv_iload_n C.1.1 C.1.2.1 dX6_common_4 rfl (lv_at hl 0 rfl) ?_
    refine lv_if_eq (tgt := 21) C.1.1 C.1.2.1 dX6_common_5 (by decide) (fun _ => ?_) (fun c_28 => absurd c_28 (by decide))
    refine lv_iload_n C.1.1 C.1.2.1 dX6_common_21 rfl (lv_at hl 1 rfl) ?_
    exact t_F C rfl hP hS rfl rfl dX6_common_22
  · have hl : lv_has ls 5 [(0, .int 8), (1, .int 12)] := hl
    refine lv_iload_n C.1.1 C.1.2.1 dX6_common_0 rfl (lv_at hl 0 rfl) ?_
    refine lv_istore_n (lv' := [(2, .int 8), (0, .int 8), (1, .int 12)]) C.1.1 C.1.2.1 dX6_common_1 rfl hl (by decide) rfl (fun ls hl => ?_)
    refine lv_iload_n C.1.1 C.1.2.1 dX6_common_2 rfl (lv_at hl 2 rfl) ?_
    refine lv_istore_n (lv' := [(3, .int 12), (2, .int 8), (0, .int 8), (1, .int 12)]) C.1.1 C.1.2.1 dX6_common_3 rfl hl (by decide) rfl (fun ls hl => ?_)
    refine lv_iload_n C.1.1 C.1.2.1 dX6_common_4 rfl (lv_at hl 0 rfl) ?_
    refine lv_if_eq (tgt := 21) C.1.1 C.1.2.1 dX6_common_5 (by decide) (fun c_29 => absurd c_29 (by decide)) (fun _ => ?_)
    refine lv_iload_n C.1.1 C.1.2.1 dX6_common_8 rfl (lv_at hl 1 rfl) ?_
    refine lv_iload_n C.1.1 C.1.2.1 dX6_common_9 rfl (lv_at hl 0 rfl) ?_
    refine lv_irem C.1.1 C.1.2.1 dX6_common_10 (by decide) ?_
    refine lv_topE 8 (by decide) ?_
    refine lv_istore (lv' := [(4, .int 8), (3, .int 12), (2, .int 8), (0, .int 8), (1, .int 12)]) C.1.1 C.1.2.1 dX6_common_11 hl (by decide) rfl (fun ls hl => ?_)
    refine lv_iload_n C.1.1 C.1.2.1 dX6_common_13 rfl (lv_at hl 1 rfl) ?_
    refine lv_istore_n (lv' := [(2, .int 12), (4, .int 8), (3, .int 12), (0, .int 8), (1, .int 12)]) C.1.1 C.1.2.1 dX6_common_14 rfl hl (by decide) rfl (fun ls hl => ?_)
    refine lv_iload C.1.1 C.1.2.1 dX6_common_15 (lv_at hl 1 rfl) ?_
    refine lv_istore_n (lv' := [(3, .int 8), (2, .int 12), (4, .int 8), (0, .int 8), (1, .int 12)]) C.1.1 C.1.2.1 dX6_common_17 rfl hl (by decide) rfl (fun ls hl => ?_)
    refine lv_goto (tgt := 4) C.1.1 C.1.2.1 dX6_common_18 (by decide) ?_
    refine lv_iload_n C.1.1 C.1.2.1 dX6_common_4 rfl (lv_at hl 0 rfl) ?_
    refine lv_if_eq (tgt := 21) C.1.1 C.1.2.1 dX6_common_5 (by decide) (fun c_30 => absurd c_30 (by decide)) (fun _ => ?_)
    refine lv_iload_n C.1.1 C.1.2.1 dX6_common_8 rfl (lv_at hl 1 rfl) ?_
    refine lv_iload_n C.1.1 C.1.2.1 dX6_common_9 rfl (lv_at hl 0 rfl) ?_
    refine lv_irem C.1.1 C.1.2.1 dX6_common_10 (by decide) ?_
    refine lv_topE 4 (by decide) ?_
    refine lv_istore (lv' := [(4, .int 4), (3, .int 8), (2, .int 12), (0, .int 8), (1, .int 12)]) C.1.1 C.1.2.1 dX6_common_11 hl (by decide) rfl (fun ls hl => ?_)
    refine lv_iload_n C.1.1 C.1.2.1 dX6_common_13 rfl (lv_at hl 1 rfl) ?_
    refine lv_istore_n (lv' := [(2, .int 8), (4, .int 4), (3, .int 8), (0, .int 8), (1, .int 12)]) C.1.1 C.1.2.1 dX6_common_14 rfl hl (by decide) rfl (fun ls hl => ?_)
    refine lv_iload C.1.1 C.1.2.1 dX6_common_15 (lv_at hl 1 rfl) ?_
    refine lv_istore_n (lv' := [(3, .int 4), (2, .int 8), (4, .int 4), (0, .int 8), (1, .int 12)]) C.1.1 C.1.2.1 dX6_common_17 rfl hl (by decide) rfl (fun ls hl => ?_)
    refine lv_goto (tgt := 4) C.1.1 C.1.2.1 dX6_common_18 (by decide) ?_
    refine lv_iload_n C.1.1 C.1.2.1 dX6_common_4 rfl (lv_at hl 0 rfl) ?_
    refine lv_if_eq (tgt := 21) C.1.1 C.1.2.1 dX6_common_5 (by decide) (fun c_31 => absurd c_31 (by decide)) (fun _ => ?_)
    refine lv_iload_n C.1.1 C.1.2.1 dX6_common_8 rfl (lv_at hl 1 rfl) ?_
    refine lv_iload_n C.1.1 C.1.2.1 dX6_common_9 rfl (lv_at hl 0 rfl) ?_
    refine lv_irem C.1.1 C.1.2.1 dX6_common_10 (by decide) ?_
    refine lv_topE 0 (by decide) ?_
    refine lv_istore (lv' := [(4, .int 0), (3, .int 4), (2, .int 8), (0, .int 8), (1, .int 12)]) C.1.1 C.1.2.1 dX6_common_11 hl (by decide) rfl (fun ls hl => ?_)
    refine lv_iload_n C.1.1 C.1.2.1 dX6_common_13 rfl (lv_at hl 1 rfl) ?_
    refine lv_istore_n (lv' := [(2, .int 4), (4, .int 0), (3, .int 4), (0, .int 8), (1, .int 12)]) C.1.1 C.1.2.1 dX6_common_14 rfl hl (by decide) rfl (fun ls hl => ?_)
    refine lv_iload C.1.1 C.1.2.1 dX6_common_15 (lv_at hl 1 rfl) ?_
    refine lv_istore_n (lv' := [(3, .int 0), (2, .int 4), (4, .int 0), (0, .int 8), (1, .int 12)]) C.1.1 C.1.2.1 dX6_common_17 rfl hl (by decide) rfl (fun ls hl => ?_)
    refine lv_goto (tgt := 4) C.1.1 C.1.2.1 dX6_common_18 (by decide) ?_
    refine lv_iload_n C.1.1 C.1.2.1 dX6_common_4 rfl (lv_at hl 0 rfl) ?_
    refine lv_if_eq (tgt := 21) C.1.1 C.1.2.1 dX6_common_5 (by decide) (fun _ => ?_) (fun c_32 => absurd c_32 (by decide))
    refine lv_iload_n C.1.1 C.1.2.1 dX6_common_21 rfl (lv_at hl 1 rfl) ?_
    exact t_F C rfl hP hS rfl rfl dX6_common_22
  · have hl : lv_has ls 5 [(0, .int 9), (1, .int 12)] := hl
    refine lv_iload_n C.1.1 C.1.2.1 dX6_common_0 rfl (lv_at hl 0 rfl) ?_
    refine lv_istore_n (lv' := [(2, .int 9), (0, .int 9), (1, .int 12)]) C.1.1 C.1.2.1 dX6_common_1 rfl hl (by decide) rfl (fun ls hl => ?_)
    refine lv_iload_n C.1.1 C.1.2.1 dX6_common_2 rfl (lv_at hl 2 rfl) ?_
    refine lv_istore_n (lv' := [(3, .int 12), (2, .int 9), (0, .int 9), (1, .int 12)]) C.1.1 C.1.2.1 dX6_common_3 rfl hl (by decide) rfl (fun ls hl => ?_)
    refine lv_iload_n C.1.1 C.1.2.1 dX6_common_4 rfl (lv_at hl 0 rfl) ?_
    refine lv_if_eq (tgt := 21) C.1.1 C.1.2.1 dX6_common_5 (by decide) (fun c_33 => absurd c_33 (by decide)) (fun _ => ?_)
    refine lv_iload_n C.1.1 C.1.2.1 dX6_common_8 rfl (lv_at hl 1 rfl) ?_
    refine lv_iload_n C.1.1 C.1.2.1 dX6_common_9 rfl (lv_at hl 0 rfl) ?_
    refine lv_irem C.1.1 C.1.2.1 dX6_common_10 (by decide) ?_
    refine lv_topE 9 (by decide) ?_
    refine lv_istore (lv' := [(4, .int 9), (3, .int 12), (2, .int 9), (0, .int 9), (1, .int 12)]) C.1.1 C.1.2.1 dX6_common_11 hl (by decide) rfl (fun ls hl => ?_)
    refine lv_iload_n C.1.1 C.1.2.1 dX6_common_13 rfl (lv_at hl 1 rfl) ?_
    refine lv_istore_n (lv' := [(2, .int 12), (4, .int 9), (3, .int 12), (0, .int 9), (1, .int 12)]) C.1.1 C.1.2.1 dX6_common_14 rfl hl (by decide) rfl (fun ls hl => ?_)
    refine lv_iload C.1.1 C.1.2.1 dX6_common_15 (lv_at hl 1 rfl) ?_
    refine lv_istore_n (lv' := [(3, .int 9), (2, .int 12), (4, .int 9), (0, .int 9), (1, .int 12)]) C.1.1 C.1.2.1 dX6_common_17 rfl hl (by decide) rfl (fun ls hl => ?_)
    refine lv_goto (tgt := 4) C.1.1 C.1.2.1 dX6_common_18 (by decide) ?_
    refine lv_iload_n C.1.1 C.1.2.1 dX6_common_4 rfl (lv_at hl 0 rfl) ?_
    refine lv_if_eq (tgt := 21) C.1.1 C.1.2.1 dX6_common_5 (by decide) (fun c_34 => absurd c_34 (by decide)) (fun _ => ?_)
    refine lv_iload_n C.1.1 C.1.2.1 dX6_common_8 rfl (lv_at hl 1 rfl) ?_
    refine lv_iload_n C.1.1 C.1.2.1 dX6_common_9 rfl (lv_at hl 0 rfl) ?_
    refine lv_irem C.1.1 C.1.2.1 dX6_common_10 (by decide) ?_
    refine lv_topE 3 (by decide) ?_
    refine lv_istore (lv' := [(4, .int 3), (3, .int 9), (2, .int 12), (0, .int 9), (1, .int 12)]) C.1.1 C.1.2.1 dX6_common_11 hl (by decide) rfl (fun ls hl => ?_)
    refine lv_iload_n C.1.1 C.1.2.1 dX6_common_13 rfl (lv_at hl 1 rfl) ?_
    refine lv_istore_n (lv' := [(2, .int 9), (4, .int 3), (3, .int 9), (0, .int 9), (1, .int 12)]) C.1.1 C.1.2.1 dX6_common_14 rfl hl (by decide) rfl (fun ls hl => ?_)
    refine lv_iload C.1.1 C.1.2.1 dX6_common_15 (lv_at hl 1 rfl) ?_
    refine lv_istore_n (lv' := [(3, .int 3), (2, .int 9), (4, .int 3), (0, .int 9), (1, .int 12)]) C.1.1 C.1.2.1 dX6_common_17 rfl hl (by decide) rfl (fun ls hl => ?_)
    refine lv_goto (tgt := 4) C.1.1 C.1.2.1 dX6_common_18 (by decide) ?_
    refine lv_iload_n C.1.1 C.1.2.1 dX6_common_4 rfl (lv_at hl 0 rfl) ?_
    refine lv_if_eq (tgt := 21) C.1.1 C.1.2.1 dX6_common_5 (by decide) (fun c_35 => absurd c_35 (by decide)) (fun _ => ?_)
    refine lv_iload_n C.1.1 C.1.2.1 dX6_common_8 rfl (lv_at hl 1 rfl) ?_
    refine lv_iload_n C.1.1 C.1.2.1 dX6_common_9 rfl (lv_at hl 0 rfl) ?_
    refine lv_irem C.1.1 C.1.2.1 dX6_common_10 (by decide) ?_
    refine lv_topE 0 (by decide) ?_
    refine lv_istore (lv' := [(4, .int 0), (3, .int 3), (2, .int 9), (0, .int 9), (1, .int 12)]) C.1.1 C.1.2.1 dX6_common_11 hl (by decide) rfl (fun ls hl => ?_)
    refine lv_iload_n C.1.1 C.1.2.1 dX6_common_13 rfl (lv_at hl 1 rfl) ?_
    refine lv_istore_n (lv' := [(2, .int 3), (4, .int 0), (3, .int 3), (0, .int 9), (1, .int 12)]) C.1.1 C.1.2.1 dX6_common_14 rfl hl (by decide) rfl (fun ls hl => ?_)
    refine lv_iload C.1.1 C.1.2.1 dX6_common_15 (lv_at hl 1 rfl) ?_
    refine lv_istore_n (lv' := [(3, .int 0), (2, .int 3), (4, .int 0), (0, .int 9), (1, .int 12)]) C.1.1 C.1.2.1 dX6_common_17 rfl hl (by decide) rfl (fun ls hl => ?_)
    refine lv_goto (tgt := 4) C.1.1 C.1.2.1 dX6_common_18 (by decide) ?_
    refine lv_iload_n C.1.1 C.1.2.1 dX6_common_4 rfl (lv_at hl 0 rfl) ?_
    refine lv_if_eq (tgt := 21) C.1.1 C.1.2.1 dX6_common_5 (by decide) (fun _ => ?_) (fun c_36 => absurd c_36 (by decide))
    refine lv_iload_n C.1.1 C.1.2.1 dX6_common_21 rfl (lv_at hl 1 rfl) ?_
    exact t_F C rfl hP hS rfl rfl dX6_common_22
  · have hl : lv_has ls 5 [(0, .int 10), (1, .int 12)] := hl
    refine lv_iload_n C.1.1 C.1.2.1 dX6_common_0 rfl (lv_at hl 0 rfl) ?_
    refine lv_istore_n (lv' := [(2, .int 10), (0, .int 10), (1, .int 12)]) C.1.1 C.1.2.1 dX6_common_1 rfl hl (by decide) rfl (fun ls hl => ?_)
    refine lv_iload_n C.1.1 C.1.2.1 dX6_common_2 rfl (lv_at hl 2 rfl) ?_
    refine lv_istore_n (lv' := [(3, .int 12), (2, .int 10), (0, .int 10), (1, .int 12)]) C.1.1 C.1.2.1 dX6_common_3 rfl hl (by decide) rfl (fun ls hl => ?_)
    refine lv_iload_n C.1.1 C.1.2.1 dX6_common_4 rfl (lv_at hl 0 rfl) ?_
    refine lv_if_eq (tgt := 21) C.1.1 C.1.2.1 dX6_common_5 (by decide) (fun c_37 => absurd c_37 (by decide)) (fun _ => ?_)
    refine lv_iload_n C.1.1 C.1.2.1 dX6_common_8 rfl (lv_at hl 1 rfl) ?_
    refine lv_iload_n C.1.1 C.1.2.1 dX6_common_9 rfl (lv_at hl 0 rfl) ?_
    refine lv_irem C.1.1 C.1.2.1 dX6_common_10 (by decide) ?_
    refine lv_topE 10 (by decide) ?_
    refine lv_istore (lv' := [(4, .int 10), (3, .int 12), (2, .int 10), (0, .int 10), (1, .int 12)]) C.1.1 C.1.2.1 dX6_common_11 hl (by decide) rfl (fun ls hl => ?_)
    refine lv_iload_n C.1.1 C.1.2.1 dX6_common_13 rfl (lv_at hl 1 rfl) ?_
    refine lv_istore_n (lv' := [(2, .int 12), (4, .int 10), (3, .int 12), (0, .int 10), (1, .int 12)]) C.1.1 C.1.2.1 dX6_common_14 rfl hl (by decide) rfl (fun ls hl => ?_)
    refine lv_iload C.1.1 C.1.2.1 dX6_common_15 (lv_at hl 1 rfl) ?_
    refine lv_istore_n (lv' := [(3, .int 10), (2, .int 12), (4, .int 10), (0, .int 10), (1, .int 12)]) C.1.1 C.1.2.1 dX6_common_17 rfl hl (by decide) rfl (fun ls hl => ?_)
    refine lv_goto (tgt := 4) C.1.1 C.1.2.1 dX6_common_18 (by decide) ?_
    refine lv_iload_n C.1.1 C.1.2.1 dX6_common_4 rfl (lv_at hl 0 rfl) ?_
    refine lv_if_eq (tgt := 21) C.1.1 C.1.2.1 dX6_common_5 (by decide) (fun c_38 => absurd c_38 (by decide)) (fun _ => ?_)
    refine lv_iload_n C.1.1 C.1.2.1 dX6_common_8 rfl (lv_at hl 1 rfl) ?_
    refine lv_iload_n C.1.1 C.1.2.1 dX6_common_9 rfl (lv_at hl 0 rfl) ?_
    refine lv_irem C.1.1 C.1.2.1 dX6_common_10 (by decide) ?_
    refine lv_topE 2 (by decide) ?_
    refine lv_istore (lv' := [(4, .int 2), (3, .int 10), (2, .int 12), (0, .int 10), (1, .int 12)]) C.1.1 C.1.2.1 dX6_common_11 hl (by decide) rfl (fun ls hl => ?_)
    refine lv_iload_n C.1.1 C.1.2.1 dX6_common_13 rfl (lv_at hl 1 rfl) ?_
    refine lv_istore_n (lv' := [(2, .int 10), (4, .int 2), (3, .int 10), (0, .int 10), (1, .int 12)]) C.1.1 C.1.2.1 dX6_common_14 rfl hl (by decide) rfl (fun ls hl => ?_)
    refine lv_iload C.1.1 C.1.2.1 dX6_common_15 (lv_at hl 1 rfl) ?_
    refine lv_istore_n (lv' := [(3, .int 2), (2, .int 10), (4, .int 2), (0, .int 10), (1, .int 12)]) C.1.1 C.1.2.1 dX6_common_17 rfl hl (by decide) rfl (fun ls hl => ?_)
    refine lv_goto (tgt := 4) C.1.1 C.1.2.1 dX6_common_18 (by decide) ?_
    refine lv_iload_n C.1.1 C.1.2.1 dX6_common_4 rfl (lv_at hl 0 rfl) ?_
    refine lv_if_eq (tgt := 21) C.1.1 C.1.2.1 dX6_common_5 (by decide) (fun c_39 => absurd c_39 (by decide)) (fun _ => ?_)
    refine lv_iload_n C.1.1 C.1.2.1 dX6_common_8 rfl (lv_at hl 1 rfl) ?_
    refine lv_iload_n C.1.1 C.1.2.1 dX6_common_9 rfl (lv_at hl 0 rfl) ?_
    refine lv_irem C.1.1 C.1.2.1 dX6_common_10 (by decide) ?_
    refine lv_topE 0 (by decide) ?_
    refine lv_istore (lv' := [(4, .int 0), (3, .int 2), (2, .int 10), (0, .int 10), (1, .int 12)]) C.1.1 C.1.2.1 dX6_common_11 hl (by decide) rfl (fun ls hl => ?_)
    refine lv_iload_n C.1.1 C.1.2.1 dX6_common_13 rfl (lv_at hl 1 rfl) ?_
    refine lv_istore_n (lv' := [(2, .int 2), (4, .int 0), (3, .int 2), (0, .int 10), (1, .int 12)]) C.1.1 C.1.2.1 dX6_common_14 rfl hl (by decide) rfl (fun ls hl => ?_)
    refine lv_iload C.1.1 C.1.2.1 dX6_common_15 (lv_at hl 1 rfl) ?_
    refine lv_istore_n (lv' := [(3, .int 0), (2, .int 2), (4, .int 0), (0, .int 10), (1, .int 12)]) C.1.1 C.1.2.1 dX6_common_17 rfl hl (by decide) rfl (fun ls hl => ?_)
    refine lv_goto (tgt := 4) C.1.1 C.1.2.1 dX6_common_18 (by decide) ?_
    refine lv_iload_n C.1.1 C.1.2.1 dX6_common_4 rfl (lv_at hl 0 rfl) ?_
    refine lv_if_eq (tgt := 21) C.1.1 C.1.2.1 dX6_common_5 (by decide) (fun _ => ?_) (fun c_40 => absurd c_40 (by decide))
    refine lv_iload_n C.1.1 C.1.2.1 dX6_common_21 rfl (lv_at hl 1 rfl) ?_
    exact t_F C rfl hP hS rfl rfl dX6_common_22
  · have hl : lv_has ls 5 [(0, .int 11), (1, .int 12)] := hl
    refine lv_iload_n C.1.1 C.1.2.1 dX6_common_0 rfl (lv_at hl 0 rfl) ?_
    refine lv_istore_n (lv' := [(2, .int 11), (0, .int 11), (1, .int 12)]) C.1.1 C.1.2.1 dX6_common_1 rfl hl (by decide) rfl (fun ls hl => ?_)
    refine lv_iload_n C.1.1 C.1.2.1 dX6_common_2 rfl (lv_at hl 2 rfl) ?_
    refine lv_istore_n (lv' := [(3, .int 12), (2, .int 11), (0, .int 11), (1, .int 12)]) C.1.1 C.1.2.1 dX6_common_3 rfl hl (by decide) rfl (fun ls hl => ?_)
    refine lv_iload_n C.1.1 C.1.2.1 dX6_common_4 rfl (lv_at hl 0 rfl) ?_
    refine lv_if_eq (tgt := 21) C.1.1 C.1.2.1 dX6_common_5 (by decide) (fun c_41 => absurd c_41 (by decide)) (fun _ => ?_)
    refine lv_iload_n C.1.1 C.1.2.1 dX6_common_8 rfl (lv_at hl 1 rfl) ?_
    refine lv_iload_n C.1.1 C.1.2.1 dX6_common_9 rfl (lv_at hl 0 rfl) ?_
    refine lv_irem C.1.1 C.1.2.1 dX6_common_10 (by decide) ?_
    refine lv_topE 11 (by decide) ?_
    refine lv_istore (lv' := [(4, .int 11), (3, .int 12), (2, .int 11), (0, .int 11), (1, .int 12)]) C.1.1 C.1.2.1 dX6_common_11 hl (by decide) rfl (fun ls hl => ?_)
    refine lv_iload_n C.1.1 C.1.2.1 dX6_common_13 rfl (lv_at hl 1 rfl) ?_
    refine lv_istore_n (lv' := [(2, .int 12), (4, .int 11), (3, .int 12), (0, .int 11), (1, .int 12)]) C.1.1 C.1.2.1 dX6_common_14 rfl hl (by decide) rfl (fun ls hl => ?_)
    refine lv_iload C.1.1 C.1.2.1 dX6_common_15 (lv_at hl 1 rfl) ?_
    refine lv_istore_n (lv' := [(3, .int 11), (2, .int 12), (4, .int 11), (0, .int 11), (1, .int 12)]) C.1.1 C.1.2.1 dX6_common_17 rfl hl (by decide) rfl (fun ls hl => ?_)
    refine lv_goto (tgt := 4) C.1.1 C.1.2.1 dX6_common_18 (by decide) ?_
    refine lv_iload_n C.1.1 C.1.2.1 dX6_common_4 rfl (lv_at hl 0 rfl) ?_
    refine lv_if_eq (tgt := 21) C.1.1 C.1.2.1 dX6_common_5 (by decide) (fun c_42 => absurd c_42 (by decide)) (fun _ => ?_)
    refine lv_iload_n C.1.1 C.1.2.1 dX6_common_8 rfl (lv_at hl 1 rfl) ?_
    refine lv_iload_n C.1.1 C.1.2.1 dX6_common_9 rfl (lv_at hl 0 rfl) ?_
    refine lv_irem C.1.1 C.1.2.1 dX6_common_10 (by decide) ?_
    refine lv_topE 1 (by decide) ?_
    refine lv_istore (lv' := [(4, .int 1), (3, .int 11), (2, .int 12), (0, .int 11), (1, .int 12)]) C.1.1 C.1.2.1 dX6_common_11 hl (by decide) rfl (fun ls hl => ?_)
    refine lv_iload_n C.1.1 C.1.2.1 dX6_common_13 rfl (lv_at hl 1 rfl) ?_
    refine lv_istore_n (lv' := [(2, .int 11), (4, .int 1), (3, .int 11), (0, .int 11), (1, .int 12)]) C.1.1 C.1.2.1 dX6_common_14 rfl hl (by decide) rfl (fun ls hl => ?_)
    refine lv_iload C.1.1 C.1.2.1 dX6_common_15 (lv_at hl 1 rfl) ?_
    refine lv_istore_n (lv' := [(3, .int 1), (2, .int 11), (4, .int 1), (0, .int 11), (1, .int 12)]) C.1.1 C.1.2.1 dX6_common_17 rfl hl (by decide) rfl (fun ls hl => ?_)
    refine lv_goto (tgt := 4) C.1.1 C.1.2.1 dX6_common_18 (by decide) ?_
    refine lv_iload_n C.1.1 C.1.2.1 dX6_common_4 rfl (lv_at hl 0 rfl) ?_
    refine lv_if_eq (tgt := 21) C.1.1 C.1.2.1 dX6_common_5 (by decide) (fun c_43 => absurd c_43 (by decide)) (fun _ => ?_)
    refine lv_iload_n C.1.1 C.1.2.1 dX6_common_8 rfl (lv_at hl 1 rfl) ?_
    refine lv_iload_n C.1.1 C.1.2.1 dX6_common_9 rfl (lv_at hl 0 rfl) ?_
    refine lv_irem C.1.1 C.1.2.1 dX6_common_10 (by decide) ?_
    refine lv_topE 0 (by decide) ?_
    refine lv_istore (lv' := [(4, .int 0), (3, .int 1), (2, .int 11), (0, .int 11), (1, .int 12)]) C.1.1 C.1.2.1 dX6_common_11 hl (by decide) rfl (fun ls hl => ?_)
    refine lv_iload_n C.1.1 C.1.2.1 dX6_common_13 rfl (lv_at hl 1 rfl) ?_
    refine lv_istore_n (lv' := [(2, .int 1), (4, .int 0), (3, .int 1), (0, .int 11), (1, .int 12)]) C.1.1 C.1.2.1 dX6_common_14 rfl hl (by decide) rfl (fun ls hl => ?_)
    refine lv_iload C.1.1 C.1.2.1 dX6_common_15 (lv_at hl 1 rfl) ?_
    refine lv_istore_n (lv' := [(3, .int 0), (2, .int 1), (4, .int 0), (0, .int 11), (1, .int 12)]) C.1.1 C.1.2.1 dX6_common_17 rfl hl (by decide) rfl (fun ls hl => ?_)
    refine lv_goto (tgt := 4) C.1.1 C.1.2.1 dX6_common_18 (by decide) ?_
    refine lv_iload_n C.1.1 C.1.2.1 dX6_common_4 rfl (lv_at hl 0 rfl) ?_
    refine lv_if_eq (tgt := 21) C.1.1 C.1.2.1 dX6_common_5 (by decide) (fun _ => ?_) (fun c_44 => absurd c_44 (by decide))
    refine lv_iload_n C.1.1 C.1.2.1 dX6_common_21 rfl (lv_at hl 1 rfl) ?_
    exact t_F C rfl hP hS rfl rfl dX6_common_22
  · have hl : lv_has ls 5 [(0, .int 12), (1, .int 12)] := hl
    refine lv_iload_n C.1.1 C.1.2.1 dX6_common_0 rfl (lv_at hl 0 rfl) ?_
    refine lv_istore_n (lv' := [(2, .int 12), (0, .int 12), (1, .int 12)]) C.1.1 C.1.2.1 dX6_common_1 rfl hl (by decide) rfl (fun ls hl => ?_)
    refine lv_iload_n C.1.1 C.1.2.1 dX6_common_2 rfl (lv_at hl 2 rfl) ?_
    refine lv_istore_n (lv' := [(3, .int 12), (2, .int 12), (0, .int 12), (1, .int 12)]) C.1.1 C.1.2.1 dX6_common_3 rfl hl (by decide) rfl (fun ls hl => ?_)
    refine lv_iload_n C.1.1 C.1.2.1 dX6_common_4 rfl (lv_at hl 0 rfl) ?_
    refine lv_if_eq (tgt := 21) C.1.1 C.1.2.1 dX6_common_5 (by decide) (fun c_45 => absurd c_45 (by decide)) (fun _ => ?_)
    refine lv_iload_n C.1.1 C.1.2.1 dX6_common_8 rfl (lv_at hl 1 rfl) ?_
    refine lv_iload_n C.1.1 C.1.2.1 dX6_common_9 rfl (lv_at hl 0 rfl) ?_
    refine lv_irem C.1.1 C.1.2.1 dX6_common_10 (by decide) ?_
    refine lv_topE 0 (by decide) ?_
    refine lv_istore (lv' := [(4, .int 0), (3, .int 12), (2, .int 12), (0, .int 12), (1, .int 12)]) C.1.1 C.1.2.1 dX6_common_11 hl (by decide) rfl (fun ls hl => ?_)
    refine lv_iload_n C.1.1 C.1.2.1 dX6_common_13 rfl (lv_at hl 1 rfl) ?_
    refine lv_istore_n (lv' := [(2, .int 12), (4, .int 0), (3, .int 12), (0, .int 12), (1, .int 12)]) C.1.1 C.1.2.1 dX6_common_14 rfl hl (by decide) rfl (fun ls hl => ?_)
    refine lv_iload C.1.1 C.1.2.1 dX6_common_15 (lv_at hl 1 rfl) ?_
    refine lv_istore_n (lv' := [(3, .int 0), (2, .int 12), (4, .int 0), (0, .int 12), (1, .int 12)]) C.1.1 C.1.2.1 dX6_common_17 rfl hl (by decide) rfl (fun ls hl => ?_)
    refine lv_goto (tgt := 4) C.1.1 C.1.2.1 dX6_common_18 (by decide) ?_
    refine lv_iload_n C.1.1 C.1.2.1 dX6_common_4 rfl (lv_at hl 0 rfl) ?_
    refine lv_if_eq (tgt := 21) C.1.1 C.1.2.1 dX6_common_5 (by decide) (fun _ => ?_) (fun c_46 => absurd c_46 (by decide))
    refine lv_iload_n C.1.1 C.1.2.1 dX6_common_21 rfl (lv_at hl 1 rfl) ?_
    exact t_F C rfl hP hS rfl rfl dX6_common_22

