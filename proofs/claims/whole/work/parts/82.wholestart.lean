set_option maxHeartbeats 8000000 in
set_option maxRecDepth 100000 in
theorem whole_start {p : Program} {e : Env} {s : State} {m : MethodId} {below : List Frame} {meth : Method} {c : Code} (l : Launch) (hflags : l.flags = flags0) {b L : Nat} {xs : Nat → Int32} (hL : L ≤ 3072) (C0 : lw_At p s m meth c b L xs) : W p l e room_1 s m #[Value.ref b] below meth c s.heap [] 0 0 (lw_Z below #[Value.ref b] s) (entryFrame m ([Value.ref b] : List Value).toArray 4) := by
  obtain ⟨hx, hb, hr, hml, hown, hts, hX, hbl, hlocks, hgv⟩ := id C0
  obtain ⟨g, hK, hZ, hN⟩ := law_statics hts hgv
  have htl : ∀ w ∈ wsL_law, w.before #[Value.ref b] s = true := fun w h => hts w (wsL_law_in w h)
  have S0 : CallFix p m c cL_law 4 s #[Value.ref b] wsL_law RL := ⟨hx, hb, hml, hown, htl⟩
  have hA : ∀ q : Nat, s.heap.size ≤ q → lwA s q := fun _ h => h
  have hS : va_S (lwA s) s.heap s.heap [] := va_S.rf
  have hP : va_P g.1 vwCl [] s.heap := fun k q h => by simp at h
  have hD : va_D (lwA s) [] := ⟨fun i j p q h => by simp at h, fun k q h => by simp at h⟩
  have hl := lv_entry ([Value.ref b]) (n := 4) (Nat.le_of_ble_eq_true rfl)
  rw [lg_entry_eq]
  generalize (lg_sl ([Value.ref b]) ++ List.replicate (4 - (lg_sl ([Value.ref b])).length) Slot.unset).toArray = ls at hl ⊢
  have hl : lv_has ls 4 [(0, .ref b)] := hl
  refine va_new (ci := 5) (fs := [.null, .null, .null, .int 0, .null, .null, .null, .null]) (C := RX5) (T := TX5) (N := 8) hx hb htl inlX5 tyX5 tyX5_ok hown (hts (.classLink RL 7 RX5) (by decide +kernel)) (hts (.instantiable RX5 8) (by decide +kernel)) (hts (.initialized RX5) (by decide +kernel)) hK hP hD hS hA rfl (by decide +kernel) (Nat.le_of_ble_eq_true rfl) (Nat.le_of_ble_eq_true rfl) dL_law_0 (fun q0 H hP hD hS => ?_)
  refine W.widen (k := 1) (n := 8) (by omega) (by omega) ?_
  refine lv_dup hx hb dL_law_3 rfl ?_
  have hq0 : s.heap.size ≤ q0 := hD.2 0 _ rfl
  have hF0 : ∀ r, va_A [(q0, .inr (5, [.null, .null, .null, .int 0, .null, .null, .null, .null]))] H.size r → lwA s r := fun r h => by
    rcases h with ⟨j, e, hj⟩ | h
    · have hj0 : j = 0 := by have := (List.getElem?_eq_some_iff.mp hj).1; simp at this; omega
      subst hj0
      have e1 : (q0, (.inr (5, [.null, .null, .null, .int 0, .null, .null, .null, .null]) : va_E)) = (r, e) := Option.some.inj hj
      rw [← (Prod.mk.inj e1).1]
      exact hq0
    · exact Nat.le_trans hS.1 h
  refine va_callv (va_runI (As := []) (rest := [.ref q0]) S0 (iX5 l g H.size q0) (cwI 0 htl gL_law_X5_init rfl rfl rfl (hts (.initialized RX5) (by decide +kernel)) (hts (.methodLink RL 9 yX5_init) (by decide +kernel)) (hts (.instanceMethod yX5_init) (by decide +kernel)) rfl hdX5_init ⟨Nat.le_of_ble_eq_true rfl, Nat.le_of_ble_eq_true rfl⟩) ⟨PIn_blind g H.size q0 _ _, fun U hU hW => ⟨rfl, by rw [hU], by rw [hU]; exact hP, hK.moved hW.alike, hN.warm hW⟩⟩ rfl rfl hl.1 rfl (lv_room (Nat.le_of_ble_eq_true rfl)) dL_law_4 ⟨Nat.le_of_ble_eq_true rfl, Nat.le_of_ble_eq_true rfl⟩) hS (fun r _ h => hF0 r h) hF0 (fun w1 tt H1 locs1 htt _ hw hB _ hk1 hS => ?_)
  obtain ⟨s1, s2, s3, r1, r2, r3, u, rfl⟩ := hw
  obtain ⟨hP1, hD1⟩ := hB
  rw [htt] at hP1
  have hD1 : va_D (lwA s) (ebI g q0 s1 s2 s3 r1 r2 r3 u) := hD1.weaken (fun k x _ h => hF0 _ h)
  refine W.widen (k := 53) (n := 618) (Nat.le_of_ble_eq_true rfl) (Nat.le_of_ble_eq_true rfl) ?_
  refine lv_astore_n (lv' := [(1, .ref q0), (0, .ref b)]) hx hb dL_law_7 rfl hl (by decide) rfl (fun ls hl => ?_)
  refine va_new (ci := 6) (fs := [.null, .null, .null, .null, .int 0, .null, .null, .int 0, .int 0, .int 0, .int 0, .long 0, .int 0, .null, .null, .null, .null]) (C := RX6) (T := TX6) (N := 17) hx hb htl inlX6 tyX6 tyX6_ok hown (hts (.classLink RL 10 RX6) (by decide +kernel)) (hts (.instantiable RX6 17) (by decide +kernel)) (hts (.initialized RX6) (by decide +kernel)) hK hP1 hD1 hS hA rfl (by decide +kernel) (Nat.le_of_ble_eq_true rfl) (Nat.le_of_ble_eq_true rfl) dL_law_8 (fun q6 H2 hP2 hD2 hS => ?_)
  refine W.widen (k := 54) (n := 635) (Nat.le_of_ble_eq_true rfl) (Nat.le_of_ble_eq_true rfl) ?_
  refine lv_dup hx hb dL_law_11 rfl ?_
  have hlast : ((ebI g q0 s1 s2 s3 r1 r2 r3 u) ++ [(q6, (.inr (6, [.null, .null, .null, .null, .int 0, .null, .null, .int 0, .int 0, .int 0, .int 0, .long 0, .int 0, .null, .null, .null, .null]) : va_E))])[53]? = some (q6, .inr (6, [.null, .null, .null, .null, .int 0, .null, .null, .int 0, .int 0, .int 0, .int 0, .long 0, .int 0, .null, .null, .null, .null])) := rfl
  have hq6 : s.heap.size ≤ q6 := hD2.2 53 _ hlast
  have hPq : va_P g.1 vwCl [(q6, .inr (6, [.null, .null, .null, .null, .int 0, .null, .null, .int 0, .int 0, .int 0, .int 0, .long 0, .int 0, .null, .null, .null, .null]))] H2 := fun k z hz => by
    have h1 := (List.getElem?_eq_some_iff.mp hz).1
    simp at h1
    subst h1
    cases hz
    exact hP2 53 _ hlast
  have hF6 : ∀ r, va_A [(q6, .inr (6, [.null, .null, .null, .null, .int 0, .null, .null, .int 0, .int 0, .int 0, .int 0, .long 0, .int 0, .null, .null, .null, .null]))] H2.size r → lwA s r := fun r h => by
    rcases h with ⟨j, e, hj⟩ | h
    · have hj0 : j = 0 := by have := (List.getElem?_eq_some_iff.mp hj).1; simp at this; omega
      subst hj0
      have e1 : (q6, (.inr (6, [.null, .null, .null, .null, .int 0, .null, .null, .int 0, .int 0, .int 0, .int 0, .long 0, .int 0, .null, .null, .null, .null]) : va_E)) = (r, e) := Option.some.inj hj
      rw [← (Prod.mk.inj e1).1]
      exact hq6
    · exact Nat.le_trans hS.1 h
  refine va_callv (va_runI (As := []) (rest := [.ref q6]) S0 (iX6 l g H2.size q6) (cwI 0 htl gL_law_X6_init rfl rfl rfl (hts (.initialized RX6) (by decide +kernel)) (hts (.methodLink RL 12 yX6_init) (by decide +kernel)) (hts (.instanceMethod yX6_init) (by decide +kernel)) rfl hdX6_init ⟨Nat.le_of_ble_eq_true rfl, Nat.le_of_ble_eq_true rfl⟩) ⟨PIn_blind g H2.size q6 _ _, fun U hU hW => ⟨rfl, by rw [hU], by rw [hU]; exact hPq, hK.moved hW.alike, hN.warm hW⟩⟩ rfl rfl hl.1 rfl (lv_room (Nat.le_of_ble_eq_true rfl)) dL_law_12 ⟨Nat.le_of_ble_eq_true rfl, Nat.le_of_ble_eq_true rfl⟩) hS (fun r _ h => hF6 r h) hF6 (fun w2 tt2 H3 locs2 htt2 _ hw2 hB2 _ hk2 hS => ?_)
  obtain ⟨u6, rfl⟩ := hw2
  obtain ⟨hP3, hD3⟩ := hB2
  rw [htt2] at hP3
  obtain ⟨hPW, hDW⟩ := tw_join hP2 hD2 hk2 hF6 hP3 hD3
  refine W.widen (k := 64) (n := 1302) (Nat.le_of_ble_eq_true rfl) (Nat.le_of_ble_eq_true rfl) ?_
  refine lv_astore_n (lv' := [(2, .ref q6), (1, .ref q0), (0, .ref b)]) hx hb dL_law_15 rfl hl (by decide) rfl (fun ls hl => ?_)
  refine lv_iconst (v := 0) hx hb dL_law_16 rfl ?_
  refine lv_istore_n (lv' := [(3, .int 0), (2, .ref q6), (1, .ref q0), (0, .ref b)]) hx hb dL_law_17 rfl hl (by decide) rfl (fun ls hl => ?_)
  have hat := w0_at (g := g) (q0 := q0) (s1 := s1) (s2 := s2) (s3 := s3) (r1 := r1) (r2 := r2) (r3 := r3) (u := u) (q6 := q6) (u6 := u6)
  have hfr : ∀ k, k < 64 → s.heap.size ≤ gA (gI g q0 s1 s2 s3 r1 r2 r3 u q6 u6) k := fun k hk => by
    obtain ⟨e, he⟩ := hat k hk
    exact hDW.2 k _ he
  have hin : Inj (gI g q0 s1 s2 s3 r1 r2 r3 u q6 u6) 64 := fun i j hi hj e => by
    obtain ⟨e1, h1⟩ := hat i hi
    obtain ⟨e2, h2⟩ := hat j hj
    exact hDW.1 i j _ _ h1 h2 e
  have C : LC (gI g q0 s1 s2 s3 r1 r2 r3 u q6 u6) b L xs p s m c := ⟨S0, ⟨⟨hin, by decide, by decide⟩, hK, wide_Zh (g := g) (fun r ⟨k, hk, e⟩ => Or.inl (by rw [e]; exact hfr k hk)) rfl rfl rfl hZ, hN.1⟩, hfr, hX, hbl⟩
  exact law_loop l hL C hr hlocks 513 0 (Nat.zero_le _) (by omega) sv0 0 H3 locs2 ls 64 1302 rl_0 (by decide) (Nat.le_of_ble_eq_true rfl) (w0_P hPW) hS (lv_sub hl [3, 2, 1, 0] rfl)
