abbrev rmX5_text : Room := { frames := 9, cells := 1, slots := 4, locals := 194 }
set_option maxHeartbeats 4000000 in
set_option maxRecDepth 100000 in
theorem text_tail (l : Launch) (g : GG) (n : Nat) (hn65 : 64 < n) (v : SV) (N T : Nat) (hR : Rl v N) (hT : T ≤ 120) (hT7 : v.1 53 7 = nI T) (hT1 : v.1 41 1 = nI T) (hTB : ∀ j, j < T → v.1 42 j = v.1 59 j) (X_0 : Nat → Int32) (cX : okC X_0 N) (aX : agr N (v.1 54) X_0) {p : Program} {e : Env} {s : State} {m : MethodId} {args : Array Value} {below : List Frame} {meth : Method} {c : Code} {H : Heap} {locs : List Loc} {Q : State → Prop} {ls : Array Slot} (C : Cx g n p s m meth c args cX5_text 4 (some .int) wsX5_text RX5) (hP : va_P g.1 vwCl (wl g n (upw (stW v 14 X_0) 64 (fun _ => 0))) H) (hS : va_S (wA g n) s.heap H locs) (hl : lv_has ls 4 [(0, .ref (gA g 0))]) (kret : ∀ (x : Int32) (u : SV) (H : Heap) (locs : List Loc) (ls : Array Slot), (Ps x (textM u) ∧ rsc v u) → va_P g.1 vwCl (wl g n u) H → va_S (wA g n) s.heap H locs → W p l e rmX5_text s m args below meth c H locs 1 4 Q (F0 m 76 ls [.int x])) : W p l e rmX5_text s m args below meth c H locs 1 4 Q (F0 m 26 ls [.ref (gA g 64)]) := by
  have hn : 64 ≤ n := by omega
  have hi0 : ∀ w ∈ u_ws RX0 TX0 6, w ∈ wsX5_text := by decide +kernel
  have hi2 : ∀ w ∈ u_ws RX2 TX2 11, w ∈ wsX5_text := by decide +kernel
  have hi3 : ∀ w ∈ u_ws RX3 TX3 6, w ∈ wsX5_text := by decide +kernel
  have hi4 : ∀ w ∈ u_ws RX4 TX4 4, w ∈ wsX5_text := by decide +kernel
  have hi5 : ∀ w ∈ u_ws RX5 TX5 8, w ∈ wsX5_text := by decide +kernel
  obtain ⟨v2, hv2⟩ : ∃ z, z = upw (stW v 14 X_0) 64 (fun _ => 0) := ⟨_, rfl⟩
  rw [← hv2] at hP
  obtain ⟨B, hBe⟩ : ∃ z, z = bB v T := ⟨_, rfl⟩
  have hL : v2.1 41 1 = nI T := by rw [hv2, upw_ne _ _ (by decide), st_far (by decide)]; exact hT1
  have hB : ∀ j, j < T → v2.1 42 j = B j := fun j hj => by rw [hv2, upw_ne _ _ (by decide), st_far (by decide), hTB j hj, hBe, bB, if_pos hj]
  have hB1 : ∀ j, T ≤ j → B j = -1 := fun j hj => by rw [hBe, bB, if_neg (by omega)]
  have h0 : v2.1 64 2 = 0 := by rw [hv2, upw_same]
  have s2 : ∀ j, j < 83 → stR v2 14 j = X_0 j := fun j hj => by rw [hv2, stR_upw (by omega), st_rst hj]
  have hD0 : okC (stR v2 14) N := okC_agr (fun j hj _ => (s2 j hj).symm) cX
  have hA0 : agr N (v.1 54) (stR v2 14) := fun j h1 h2 => (aX j h1 h2).trans (s2 j h1).symm
  refine lv_astore_n (lv' := [(1, .ref (gA g 64)), (0, .ref (gA g 0))]) C.1.1 C.1.2.1 dX5_text_26 rfl hl (by decide) rfl (fun ls hl => ?_)
  refine lv_aload_n C.1.1 C.1.2.1 dX5_text_27 rfl (lv_at hl 0 rfl) ?_
  refine a_I hS (run_V C hP hS hl.1 64 4 hn65 rfl (by decide) rfl [] (kX4_readItems l g n v2 B T hT hL hB hB1 hn65 h0 N (v.1 54) hD0 hA0) gX5_text_X4_readItems rfl hdX4_readItems rfl ⟨rfl, rfl⟩ ⟨Nat.le_of_ble_eq_true rfl, Nat.le_of_ble_eq_true rfl⟩ rfl [] rfl (Nat.le_of_ble_eq_true rfl) dX5_text_28 ⟨Nat.le_of_ble_eq_true rfl, Nat.le_of_ble_eq_true rfl⟩) (fun r u H locs hq hP hS => ?_)
  rcases hq with ⟨rfl, hq1, nm, D, N1, hu, okD, agD⟩ | ⟨rfl, hq1, hcT, it, nm, D, hu⟩
  · skip
    have ulo : ∀ c, c < 53 → ¬ (14 ≤ c ∧ c < 27) → c ≠ 41 → u.1 c = v.1 c := fun c h1 h2 h3 => by rw [hu, rc_far h3 (by omega) (by omega), hv2, upw_ne _ _ (by omega), st_far (by omega)]
    have uhi : ∀ c, 53 ≤ c → c < 64 → u.1 c = v.1 c := fun c h1 h2 => by rw [hu, rc_far (by omega) (by omega) (by omega), hv2, upw_ne _ _ (by omega), st_far (by omega)]
    have hur : rsc v u := ⟨fun c h1 h2 => uhi c (by omega) (by omega), uhi 54 (by decide) (by decide), congrFun (uhi 53 (by decide) (by decide)) _, congrFun (uhi 53 (by decide) (by decide)) _⟩
    have u64 : u.1 64 2 = (nI (itL B T (v.1 54) + 1)) := by rw [hu]; exact congrFun rc_64 _
    have u41 : u.1 41 3 = nI (itQ B T (v.1 54)).1 := by rw [hu]; exact rc_3t
    have s14 : ∀ j, j < 83 → stR u 14 j = D j := fun j hj => by rw [hu, st_rst hj]
    have okU : okC (stR u 14) N1 := okC_agr (fun j hj _ => (s14 j hj).symm) okD
    refine lv_istore_n (lv' := [(2, .int 1), (1, .ref (gA g 64)), (0, .ref (gA g 0))]) C.1.1 C.1.2.1 dX5_text_31 rfl hl (by decide) rfl (fun ls hl => ?_)
    refine lv_iload_n C.1.1 C.1.2.1 dX5_text_32 rfl (lv_at hl 0 rfl) ?_
    refine lv_if_eq (tgt := 43) C.1.1 C.1.2.1 dX5_text_33 (by decide) (fun c_1 => absurd c_1 (by decide)) (fun _ => ?_)
    refine lv_aload_n C.1.1 C.1.2.1 dX5_text_36 rfl (lv_at hl 1 rfl) ?_
    refine r_get C hP 64 4 hn65 rfl (by decide) rfl hi4 2 (by decide) (List.mem_of_getElem? (i := 7) rfl) rfl (val := .int (u.1 64 2)) rfl dX5_text_37 ?_
    refine lv_topE (nI (itL B T (v.1 54) + 1)) u64 ?_
    refine lv_goto (tgt := 52) C.1.1 C.1.2.1 dX5_text_40 (by decide) ?_
    refine lv_istore_n (lv' := [(3, .int (nI (itL B T (v.1 54) + 1))), (2, .int 1), (1, .ref (gA g 64)), (0, .ref (gA g 0))]) C.1.1 C.1.2.1 dX5_text_52 rfl hl (by decide) rfl (fun ls hl => ?_)
    refine lv_iload_n C.1.1 C.1.2.1 dX5_text_53 rfl (lv_at hl 1 rfl) ?_
    refine lv_if_eq (tgt := 68) C.1.1 C.1.2.1 dX5_text_54 (by decide) (fun c_2 => absurd c_2 (by decide)) (fun _ => ?_)
    refine lv_aload_n C.1.1 C.1.2.1 dX5_text_57 rfl (lv_at hl 3 rfl) ?_
    refine r_get C hP 0 5 (Nat.lt_of_lt_of_le (by decide) hn) rfl (by decide) rfl hi5 0 (by decide) (List.mem_of_getElem? (i := 2) rfl) rfl (val := .ref (gA g 1)) rfl dX5_text_58 ?_
    refine lv_aload_n C.1.1 C.1.2.1 dX5_text_61 rfl (lv_at hl 3 rfl) ?_
    refine r_get C hP 0 5 (Nat.lt_of_lt_of_le (by decide) hn) rfl (by decide) rfl hi5 1 (by decide) (List.mem_of_getElem? (i := 1) rfl) rfl (val := .ref (gA g 14)) rfl dX5_text_62 ?_
    refine a_G hS (run_V C hP hS hl.1 1 2 (Nat.lt_of_lt_of_le (by decide) hn) rfl (by decide) rfl [.ref (gA g 14)] (kX2_become l g n u u 1 (stR u 1) 14 N1 (Or.inl rfl) (Or.inr (Or.inl rfl)) (by decide) (st_self _ 1).symm okU) gX5_text_X2_become rfl hdX2_become rfl ⟨rfl, rfl⟩ ⟨Nat.le_of_ble_eq_true rfl, Nat.le_of_ble_eq_true rfl⟩ rfl [] rfl (Nat.le_of_ble_eq_true rfl) dX5_text_65 ⟨Nat.le_of_ble_eq_true rfl, Nat.le_of_ble_eq_true rfl⟩) (fun H locs hP hS => ?_)
    refine lv_aload_n C.1.1 C.1.2.1 dX5_text_68 rfl (lv_at hl 3 rfl) ?_
    refine r_get C hP 0 5 (Nat.lt_of_lt_of_le (by decide) hn) rfl (by decide) rfl hi5 5 (by decide) (List.mem_of_getElem? (i := 6) rfl) rfl (val := .ref (gA g 41)) rfl dX5_text_69 ?_
    refine a_G hS (run_V C hP hS hl.1 41 3 (Nat.lt_of_lt_of_le (by decide) hn) rfl (by decide) rfl [] (kX3_clear l g n (stW u 1 (becM (stR u 1) (stR u 14) N1)) ) gX5_text_X3_clear rfl hdX3_clear rfl ⟨rfl, rfl⟩ ⟨Nat.le_of_ble_eq_true rfl, Nat.le_of_ble_eq_true rfl⟩ rfl [] rfl (Nat.le_of_ble_eq_true rfl) dX5_text_72 ⟨Nat.le_of_ble_eq_true rfl, Nat.le_of_ble_eq_true rfl⟩) (fun H locs hP hS => ?_)
    refine lv_iload_n C.1.1 C.1.2.1 dX5_text_75 rfl (lv_at hl 0 rfl) ?_
    refine kret _ _ _ _ _ ⟨(by rw [hBe]; exact tx_yes hR hT7 hT (fun c h1 h2 h3 h4 => by rw [upw_ne _ _ h4, st_far (by omega), ulo c h1 (by omega) h4]) (fun c h1 h2 => by rw [upw_ne _ _ (by omega), st_far (by omega), uhi c h1 h2]) (upup _ _ _ _) (fun j hj => by rw [stR_upw (by omega), st_rst hj]) (hBe ▸ hq1) (E := becM (stR u 1) (stR u 14) N1) (okC_agr (bec_agr _ _ _) okU) (fun j h1 h2 => by rw [← hBe]; exact ((agD j h1 h2).trans (s14 j h1).symm).trans (bec_agr _ _ _ j h1 h2))), rsc_trans hur (rsc_trans (rsc_st _ _ (by decide)) (rsc_w _ _ (by decide)))⟩ hP hS
  · skip
    have ulo : ∀ c, c < 53 → ¬ (14 ≤ c ∧ c < 27) → c ≠ 41 → u.1 c = v.1 c := fun c h1 h2 h3 => by rw [hu, rc_far h3 (by omega) (by omega), hv2, upw_ne _ _ (by omega), st_far (by omega)]
    have uhi : ∀ c, 53 ≤ c → c < 64 → u.1 c = v.1 c := fun c h1 h2 => by rw [hu, rc_far (by omega) (by omega) (by omega), hv2, upw_ne _ _ (by omega), st_far (by omega)]
    have hur : rsc v u := ⟨fun c h1 h2 => uhi c (by omega) (by omega), uhi 54 (by decide) (by decide), congrFun (uhi 53 (by decide) (by decide)) _, congrFun (uhi 53 (by decide) (by decide)) _⟩
    have u64 : u.1 64 2 = it := by rw [hu]; exact congrFun rc_64 _
    have u41 : u.1 41 3 = nI (itQ B T (v.1 54)).1 := by rw [hu]; exact rc_3t
    refine lv_istore_n (lv' := [(2, .int 0), (1, .ref (gA g 64)), (0, .ref (gA g 0))]) C.1.1 C.1.2.1 dX5_text_31 rfl hl (by decide) rfl (fun ls hl => ?_)
    refine lv_iload_n C.1.1 C.1.2.1 dX5_text_32 rfl (lv_at hl 0 rfl) ?_
    refine lv_if_eq (tgt := 43) C.1.1 C.1.2.1 dX5_text_33 (by decide) (fun _ => ?_) (fun c_3 => absurd c_3 (by decide))
    refine lv_iconst (v := (-1)) C.1.1 C.1.2.1 dX5_text_43 rfl ?_
    refine lv_aload_n C.1.1 C.1.2.1 dX5_text_44 rfl (lv_at hl 2 rfl) ?_
    refine r_get C hP 0 5 (Nat.lt_of_lt_of_le (by decide) hn) rfl (by decide) rfl hi5 5 (by decide) (List.mem_of_getElem? (i := 6) rfl) rfl (val := .ref (gA g 41)) rfl dX5_text_45 ?_
    refine r_get C hP 41 3 (Nat.lt_of_lt_of_le (by decide) hn) rfl (by decide) rfl hi3 3 (by decide) (List.mem_of_getElem? (i := 8) rfl) rfl (val := .int (u.1 41 3)) rfl dX5_text_48 ?_
    refine lv_topE (nI ((itQ B T (v.1 54)).1)) u41 ?_
    refine lv_isub C.1.1 C.1.2.1 dX5_text_51 ?_
    refine lv_istore_n (lv' := [(3, .int ((-1) - (nI ((itQ B T (v.1 54)).1)))), (2, .int 0), (1, .ref (gA g 64)), (0, .ref (gA g 0))]) C.1.1 C.1.2.1 dX5_text_52 rfl hl (by decide) rfl (fun ls hl => ?_)
    refine lv_iload_n C.1.1 C.1.2.1 dX5_text_53 rfl (lv_at hl 1 rfl) ?_
    refine lv_if_eq (tgt := 68) C.1.1 C.1.2.1 dX5_text_54 (by decide) (fun _ => ?_) (fun c_4 => absurd c_4 (by decide))
    refine lv_aload_n C.1.1 C.1.2.1 dX5_text_68 rfl (lv_at hl 3 rfl) ?_
    refine r_get C hP 0 5 (Nat.lt_of_lt_of_le (by decide) hn) rfl (by decide) rfl hi5 5 (by decide) (List.mem_of_getElem? (i := 6) rfl) rfl (val := .ref (gA g 41)) rfl dX5_text_69 ?_
    refine a_G hS (run_V C hP hS hl.1 41 3 (Nat.lt_of_lt_of_le (by decide) hn) rfl (by decide) rfl [] (kX3_clear l g n u ) gX5_text_X3_clear rfl hdX3_clear rfl ⟨rfl, rfl⟩ ⟨Nat.le_of_ble_eq_true rfl, Nat.le_of_ble_eq_true rfl⟩ rfl [] rfl (Nat.le_of_ble_eq_true rfl) dX5_text_72 ⟨Nat.le_of_ble_eq_true rfl, Nat.le_of_ble_eq_true rfl⟩) (fun H locs hP hS => ?_)
    refine lv_iload_n C.1.1 C.1.2.1 dX5_text_75 rfl (lv_at hl 0 rfl) ?_
    refine kret _ _ _ _ _ ⟨tx_no (cq := (itQ B T (v.1 54)).1) hR hT7 hT (fun c h1 h2 h3 h4 => by rw [upw_ne _ _ h4, ulo c h1 h2 h4]) (fun c h1 h2 => by rw [upw_ne _ _ (by omega), uhi c h1 h2]) (upup _ _ _ _) (by omega) (hBe ▸ hq1), rsc_trans hur (rsc_w _ _ (by decide))⟩ hP hS

set_option maxHeartbeats 4000000 in
set_option maxRecDepth 100000 in
theorem kX5_text (l : Launch) (g : GG) (v : SV) (N : Nat) (hR : Rl v N) (N0 : Nat) : Met l yX5_text wsX5_text rmX5_text (fun a s => PW g 64 v [.ref (gA g 0)] a s ∧ s.heap.size = N0) (va_Qi (fun x u => Ps x (textM u) ∧ rsc v u) (fun u t => Wd g 64 u t) (fun q => wA g 64 q ∨ N0 ≤ q)) 1 4 (fun q => wA g 64 q ∨ N0 ≤ q) := by
  refine Met.ofW (cc := cX5_text) (maxL := 4) (ret := some .int) (by decide) rfl ?_
  intro p e s m args below meth c s₁ B0 hml hv
  obtain ⟨⟨ha, hP, hZ⟩, hsz⟩ := hv
  have hts := atoms_spec (ws := wsX5_text) B0.pre
  have hown : s.vm.findClass RX5 = some m.cls := findClass_of_methodNamed B0.named
  subst ha
  rw [lg_entry_eq]
  have C : Cx g 64 p s m meth c [Value.ref (gA g 0)].toArray cX5_text 4 (some .int) wsX5_text RX5 := ⟨⟨B0.exec, B0.bytes, hml, hown, hts⟩, hZ, B0.returns, B0.notSynchronized⟩
  have hS : va_S (wA g 64) s.heap s.heap [] := va_S.rf
  have hl := lv_entry [Value.ref (gA g 0)] (n := 4) (Nat.le_of_ble_eq_true rfl)
  generalize (lg_sl ([Value.ref (gA g 0)]) ++ List.replicate (4 - (lg_sl ([Value.ref (gA g 0)])).length) Slot.unset).toArray = ls at hl ⊢
  have hl : lv_has ls 4 [(0, .ref (gA g 0))] := hl
  generalize hargs : [Value.ref (gA g 0)].toArray = args at C ⊢
  show W p l e rmX5_text s m args below meth c s.heap [] 0 0 _ (F0 m 0 ls [])
  have hn : 64 ≤ 64 := Nat.le_refl 64
  have hi0 : ∀ w ∈ u_ws RX0 TX0 6, w ∈ wsX5_text := by decide +kernel
  have hi2 : ∀ w ∈ u_ws RX2 TX2 11, w ∈ wsX5_text := by decide +kernel
  have hi3 : ∀ w ∈ u_ws RX3 TX3 6, w ∈ wsX5_text := by decide +kernel
  have hi4 : ∀ w ∈ u_ws RX4 TX4 4, w ∈ wsX5_text := by decide +kernel
  have hi5 : ∀ w ∈ u_ws RX5 TX5 8, w ∈ wsX5_text := by decide +kernel
  have hC := hR.1.1
  have hA := hR.1.2
  have h8 := hC.1
  have hD : okC (v.1 54) N := okC_agr (agr_symm hA) hC
  have hM := okC_M hD
  obtain ⟨T, hT, hT1, hT2, hT3⟩ := hR.2.2.1
  refine lv_aload_n C.1.1 C.1.2.1 dX5_text_0 rfl (lv_at hl 0 rfl) ?_
  refine r_get C hP 0 5 (Nat.lt_of_lt_of_le (by decide) hn) rfl (by decide) rfl hi5 1 (by decide) (List.mem_of_getElem? (i := 1) rfl) rfl (val := .ref (gA g 14)) rfl dX5_text_1 ?_
  refine lv_aload_n C.1.1 C.1.2.1 dX5_text_4 rfl (lv_at hl 0 rfl) ?_
  refine r_get C hP 0 5 (Nat.lt_of_lt_of_le (by decide) hn) rfl (by decide) rfl hi5 0 (by decide) (List.mem_of_getElem? (i := 2) rfl) rfl (val := .ref (gA g 1)) rfl dX5_text_5 ?_
  refine a_G hS (run_V C hP hS hl.1 14 2 (Nat.lt_of_lt_of_le (by decide) hn) rfl (by decide) rfl [.ref (gA g 1)] (kX2_become l g 64 v v 14 (stR v 14) 1 N (Or.inr (Or.inl rfl)) (Or.inl rfl) (by decide) (st_self _ 14).symm (by rw [scr_1 (sam_rfl v).1]; exact hC)) gX5_text_X2_become rfl hdX2_become rfl ⟨rfl, rfl⟩ ⟨Nat.le_of_ble_eq_true rfl, Nat.le_of_ble_eq_true rfl⟩ rfl [] rfl (Nat.le_of_ble_eq_true rfl) dX5_text_8 ⟨Nat.zero_le _, Nat.zero_le _⟩) (fun H locs hP hS => ?_)
  obtain ⟨X_0, hX_0⟩ : ∃ zz, zz = becM (stR v 14) (stR v 1) N := ⟨_, rfl⟩
  rw [← hX_0] at hP
  have aX_0 : agr N (stR v 1) X_0 := by rw [hX_0, scr_1 (sam_rfl v).1]; exact bec_agr _ _ _
  have cX_0 : okC X_0 N := okC_agr aX_0 hC
  have hJ := C.2.1.1
  have hD0 : va_D (fun q => wA g 64 q ∨ N0 ≤ q) (wl g 64 (stW v 14 X_0)) := (wl_D hJ.1 _).weaken (fun _ _ _ h => Or.inl h)
  have hSw : va_S (fun q => wA g 64 q ∨ N0 ≤ q) s.heap H locs := ⟨hS.1, fun q h1 h2 => hS.2.1 q h1 (fun z => h2 (Or.inl z)), fun l hl => Or.inl (hS.2.2 l hl)⟩
  have hlo := hS.2.2
  refine va_new (ci := 4) (fs := [.null, .null, .int 0, .int 0]) (C := RX4) (T := TX4) (N := 4) C.1.1 C.1.2.1 C.1.2.2.2.2 hi4 tyX4 tyX4_ok C.1.2.2.2.1 (C.1.2.2.2.2 _ (List.mem_of_getElem? (i := 3) rfl)) (C.1.2.2.2.2 _ (List.mem_of_getElem? (i := 4) rfl)) (C.1.2.2.2.2 _ (List.mem_of_getElem? (i := 5) rfl)) C.2.1.2.1 hP hD0 hSw (fun q h => Or.inr (by rw [← hsz]; exact h)) rfl (by decide +kernel) (Nat.le_of_ble_eq_true rfl) (Nat.le_of_ble_eq_true rfl) dX5_text_11 (fun q H1 hP1 hD1 hS1 => ?_)
  have hlen : (wl g 64 (stW v 14 X_0)).length = 64 := by simp [wl]
  have hlast : (wl g 64 (stW v 14 X_0) ++ [(q, (.inr (4, [.null, .null, .int 0, .int 0]) : va_E))])[64]? = some (q, .inr (4, [.null, .null, .int 0, .int 0])) := by rw [List.getElem?_append_right (by omega), hlen]; rfl
  have hat : ∀ k, k < 64 → (wl g 64 (stW v 14 X_0) ++ [(q, (.inr (4, [.null, .null, .int 0, .int 0]) : va_E))])[k]? = some (gA g k, cE g (stW v 14 X_0) k) := fun k hk => by rw [List.getElem?_append_left (by omega)]; exact wl_get hk
  have hqne : ∀ k, k < 64 → q ≠ gA g k := fun k hk z => by
    have := hD1.1 k 64 _ _ (hat k hk) hlast z.symm
    omega
  have hqN : N0 ≤ q := (hD1.2 64 _ hlast).resolve_left (fun ⟨k, hk, e⟩ => hqne k hk e)
  have hP64 : va_P g.1 vwCl (wl g 64 (stW v 14 X_0)) H1 := fun k z hz => by
    have hk : k < 64 := (wl_fst hz).1
    rw [wl_get hk] at hz
    cases hz
    exact hP1 k _ (hat k hk)
  have hPq : va_P g.1 vwCl [(q, .inr (4, [.null, .null, .int 0, .int 0]))] H1 := fun k z hz => by
    have h1 := (List.getElem?_eq_some_iff.mp hz).1
    simp at h1
    subst h1
    cases hz
    exact hP1 64 _ hlast
  have hS2 : va_S (wA (gR g q) 65) s.heap H1 locs := ⟨hS1.1, fun r h1 h2 => hS1.2.1 r h1 (fun z => z.elim (fun ⟨k, hk, e⟩ => h2 ⟨k, by omega, by rw [gR_lo g q k hk]; exact e⟩) (fun y => by omega)), fun b hb => by
    obtain ⟨k, hk, e⟩ := hlo b hb
    exact ⟨k, by omega, by rw [gR_lo g q k hk]; exact e⟩⟩
  refine lv_dup C.1.1 C.1.2.1 dX5_text_14 rfl ?_
  refine lv_aload_n C.1.1 C.1.2.1 dX5_text_15 rfl (lv_at hl 0 rfl) ?_
  refine r_get C hP64 0 5 (by decide) rfl (by decide) rfl hi5 5 (by decide) (List.mem_of_getElem? (i := 6) rfl) rfl (val := .ref (gA g 41)) rfl dX5_text_16 ?_
  refine lv_aload_n C.1.1 C.1.2.1 dX5_text_19 rfl (lv_at hl 0 rfl) ?_
  refine r_get C hP64 0 5 (by decide) rfl (by decide) rfl hi5 1 (by decide) (List.mem_of_getElem? (i := 1) rfl) rfl (val := .ref (gA g 14)) rfl dX5_text_20 ?_
  refine va_callv (A0 := wA (gR g q) 65) (va_runI (As := [.ref (gA g 41), .ref (gA g 14)]) (rest := [.ref q]) C.1 (iX4 l g q (gA g 41) (gA g 14)) (cwI 2 C.1.2.2.2.2 gX5_text_X4_init rfl rfl rfl (C.1.2.2.2.2 _ (List.mem_of_getElem? (i := 5) rfl)) (C.1.2.2.2.2 _ (List.mem_of_getElem? (i := 40) rfl)) (C.1.2.2.2.2 _ (List.mem_of_getElem? (i := 41) rfl)) rfl hdX4_init ⟨Nat.le_of_ble_eq_true rfl, Nat.le_of_ble_eq_true rfl⟩) ⟨fun a U f mk h => ⟨h.1, h.2.1, h.2.2.moved (u := U) (U := U.calling f mk a) (Vm.Alike.refl U.vm)⟩, fun U hU hW => ⟨rfl, by rw [hU]; exact hPq, C.2.1.2.1.moved hW.alike⟩⟩ rfl rfl hl.1 rfl (lv_room (Nat.le_of_ble_eq_true rfl)) dX5_text_23 ⟨Nat.le_of_ble_eq_true rfl, Nat.le_of_ble_eq_true rfl⟩) hS2 (fun r _ h => ⟨64, by decide, h⟩) (fun r h => ⟨64, by decide, h⟩) (fun _ t H2 locs2 ht hvm hw hB hz hk hS3 => ?_)
  have hB2 : va_P g.1 vwCl [(q, .inr (4, [.ref (gA g 41), .ref (gA g 14), .int 0, .int 0]))] H2 := by rw [← ht]; exact hB
  have hP64b : va_P g.1 vwCl (wl g 64 (stW v 14 X_0)) H2 := hP64.kept (fun k z hz => hk z.1 ((hP64 k z hz).lt) (fun e => by
    have hk2 := wl_fst hz
    exact hqne k hk2.1 (e.symm.trans hk2.2)))
  have hP65 : va_P (gR g q).1 vwCl (wl (gR g q) 65 (upw (stW v 14 X_0) 64 (fun _ => 0))) H2 := P65 (v := stW v 14 X_0) (fun k hk => upw_ne _ _ (by omega)) rfl hP64b (by rw [upw_same]; exact hB2)
  have hin : Inj (gR g q) 65 := fun i j hi hj e => by
    by_cases ci : i < 64
    · by_cases cj : j < 64
      · exact hJ.1 i j ci cj (by rw [← gR_lo g q i ci, ← gR_lo g q j cj]; exact e)
      · have : j = 64 := by omega
        subst this
        exact absurd ((gR_lo g q i ci).symm.trans e) (fun z => hqne i ci z.symm)
    · have : i = 64 := by omega
      subst this
      by_cases cj : j < 64
      · exact absurd (e.trans (gR_lo g q j cj)) (hqne j cj)
      · omega
  have hwide : ∀ r, wA (gR g q) 65 r → wA g 64 r ∨ s.heap.size ≤ r := fun r ⟨k, hk, e⟩ => by
    by_cases ck : k < 64
    · exact Or.inl ⟨k, ck, by rw [← gR_lo g q k ck]; exact e⟩
    · have : k = 64 := by omega
      subst this
      exact Or.inr (by rw [hsz, show r = q from e]; exact hqN)
  have C2 : Cx (gR g q) 65 p s m meth c args cX5_text 4 (some .int) wsX5_text RX5 := ⟨C.1, ⟨⟨hin, by decide, by decide⟩, C.2.1.2.1, wide_Zh hwide rfl rfl rfl C.2.1.2.2.1, C.2.1.2.2.2⟩, C.2.2⟩
  refine text_tail l (gR g q) 65 (by decide) v N T hR hT hT1 hT2 hT3 X_0 cX_0 (agr_trans hA aX_0) C2 hP65 hS3 (lv_sub hl [0] rfl) (fun x u H3 locs3 ls3 hps hP3 hS4 => ?_)
  obtain ⟨⟨hx, hb, hml, hown, hts⟩, ⟨z1, z2, z3, z4⟩, hret, hlocks⟩ := C
  have hkeep : ∀ r, r < s.heap.size → ¬ wA g 64 r → H3[r]? = s.heap[r]? := fun r h1 h2 => hS4.2.1 r h1 (fun z => (hwide r z).elim h2 (fun y => by omega))
  refine W.iret hx hb hret (fun t ht hW => ⟨⟨x, u, rfl, hps, ⟨by rw [ht]; exact P64 hP3, z1, z2.moved hW.alike, ?_, z4.warm hW⟩⟩, ⟨by rw [ht]; exact hS4.1, fun r h1 h2 => by rw [ht]; exact hkeep r h1 (fun z => h2 (Or.inl z))⟩⟩) (fun b hb2 => ?_) dX5_text_76 hlocks
  · obtain ⟨k, hk, e⟩ := hS4.2.2 b hb2
    by_cases ck : k < 64
    · exact Or.inl ⟨k, ck, by rw [← gR_lo g q k ck]; exact e⟩
    · have : k = 64 := by omega
      subst this
      exact Or.inr (by rw [show b.base = q from e]; exact hqN)
  · rw [ht]
    exact (z3.kept (fun a h5 h6 => hkeep a h5 h6)).moved hW.alike

