/-! the law's loop -/
set_option maxHeartbeats 8000000 in
set_option maxRecDepth 100000 in
theorem law_loop (l : Launch) {g : GG} {p : Program} {e : Env} {s : State} {m : MethodId} {below : List Frame} {meth : Method} {c : Code} {b L : Nat} {xs : Nat → Int32} (hL : L ≤ 3072) (C : LC g b L xs p s m c) (hr : meth.sig.returnType = ret) (hlocks : meth.locks = false) : ∀ (k t : Nat), 6 * t ≤ L → L < 6 * t + 6 + 6 * k → ∀ (v : SV) (N : Nat) (H : Heap) (locs : List Loc) (ls : Array Slot) (cs ss : Nat), Rl v N → cs + k + 1 ≤ 600000 → ss + 4 * k + 4 ≤ 7302250 → va_P g.1 vwCl (wl g 64 v) H → va_S (lwA s) s.heap H locs → lv_has ls 4 [(0, .ref b), (1, .ref (gA g 0)), (2, .ref (gA g 53)), (3, .int (nI (6 * t)))] → W p l e room_1 s m #[.ref b] below meth c H locs cs ss (lw_Z below #[Value.ref b] s) (F0 m 18 ls []) := by
  intro k
  induction k with
  | zero =>
    intro t h6 hk v N H locs ls cs ss hR hc1 hc2 hP hS hl
    refine lv_iload_n C.1.1 C.1.2.1 dL_law_18 rfl (lv_at hl 3 rfl) ?_
    refine lv_aload_n C.1.1 C.1.2.1 dL_law_19 rfl (lv_at hl 0 rfl) ?_
    refine va_slen C.1.1 C.1.2.1 C.2.2.2.1 C.2.2.2.2 (Nat.not_le.mpr C.2.2.2.2) hS dL_law_20 ?_
    refine lv_bipush (v := 6) C.1.1 C.1.2.1 dL_law_21 rfl ?_
    refine lv_isub C.1.1 C.1.2.1 dL_law_23 ?_
    refine lv_icmp_gt (tgt := 1466) C.1.1 C.1.2.1 dL_law_24 (by decide) (fun hgt => ?_) (fun hgt => ?_)
    · refine lv_iconst (v := 1) C.1.1 C.1.2.1 dL_law_1466 rfl ?_
      refine va_forget (fun q hq => hS.2.2 q hq) ?_
      refine W.widen (k := 600000) (n := 7302250) (by omega) (by omega) ?_
      exact lw_ret C.1.1 C.1.2.1 hr hlocks dL_law_1467
    · exact absurd ((lim6 hL (by omega)).mpr (by omega)) hgt
  | succ k ih =>
    intro t h6 hk v N H locs ls cs ss hR hc1 hc2 hP hS hl
    refine lv_iload_n C.1.1 C.1.2.1 dL_law_18 rfl (lv_at hl 3 rfl) ?_
    refine lv_aload_n C.1.1 C.1.2.1 dL_law_19 rfl (lv_at hl 0 rfl) ?_
    refine va_slen C.1.1 C.1.2.1 C.2.2.2.1 C.2.2.2.2 (Nat.not_le.mpr C.2.2.2.2) hS dL_law_20 ?_
    refine lv_bipush (v := 6) C.1.1 C.1.2.1 dL_law_21 rfl ?_
    refine lv_isub C.1.1 C.1.2.1 dL_law_23 ?_
    refine lv_icmp_gt (tgt := 1466) C.1.1 C.1.2.1 dL_law_24 (by decide) (fun hgt => ?_) (fun hgt => ?_)
    · refine lv_iconst (v := 1) C.1.1 C.1.2.1 dL_law_1466 rfl ?_
      refine va_forget (fun q hq => hS.2.2 q hq) ?_
      refine W.widen (k := 600000) (n := 7302250) (by omega) (by omega) ?_
      exact lw_ret C.1.1 C.1.2.1 hr hlocks dL_law_1467
    have ht : 6 * t + 6 ≤ L := Nat.le_of_not_lt (fun z => hgt ((lim6 hL (by omega)).mpr z))
    have nxt : ∀ (u : SV) (N2 : Nat) (H : Heap) (locs : List Loc), Rl u N2 → va_P g.1 vwCl (wl g 64 u) H → va_S (lwA s) s.heap H locs → W p l e room_1 s m #[.ref b] below meth c H locs (cs + 1) (ss + 4) (lw_Z below #[Value.ref b] s) (F0 m 1460 ls []) := by
      intro u N2 H locs hR2 hP hS
      refine lv_iinc (v := nI (6 * (t + 1))) (lv' := [(3, .int (nI (6 * (t + 1)))), (0, .ref b), (1, .ref (gA g 0)), (2, .ref (gA g 53))]) C.1.1 C.1.2.1 dL_law_1460 hl (k := 3) rfl (by rw [show Int32.ofInt 6 = nI 6 from rfl, nI_add]; rfl) (by decide) rfl (fun ls hl => ?_)
      refine lv_goto (tgt := 18) C.1.1 C.1.2.1 dL_law_1463 (by decide) ?_
      exact ih (t + 1) (by omega) (by omega) u N2 H locs ls (cs + 1) (ss + 4) hR2 (by omega) (by omega) hP hS (lv_sub hl [1, 2, 3, 0] rfl)
    have hcs : cs + 1 ≤ 600000 ∧ ss + 4 ≤ 7302250 := ⟨by omega, by omega⟩
    refine lv_aload_n C.1.1 C.1.2.1 dL_law_27 rfl (lv_at hl 0 rfl) ?_
    refine lv_iload_n C.1.1 C.1.2.1 dL_law_28 rfl (lv_at hl 3 rfl) ?_
    refine L_ld C hS (6 * t) rfl (by omega) hL dL_law_29 ?_
    refine lv_bipush (v := 63) C.1.1 C.1.2.1 dL_law_30 rfl ?_
    refine lv_iand C.1.1 C.1.2.1 dL_law_32 ?_
    refine lv_topi (fun y hy => ?_)
    by_cases c0 : y = 0
    · refine lv_topE 0 c0 ?_
      refine lv_tableIn (off := 187) (tgt := 220) C.1.1 C.1.2.1 dL_law_33 (by decide) (by decide) rfl (by decide) ?_
      exact op_220 l hL C hR ht hcs hP hS hl nxt
    by_cases c1 : y = 1
    · refine lv_topE 1 c1 ?_
      refine lv_tableIn (off := 220) (tgt := 253) C.1.1 C.1.2.1 dL_law_33 (by decide) (by decide) rfl (by decide) ?_
      exact op_253 l hL C hR ht hcs hP hS hl nxt
    by_cases c2 : y = 2
    · refine lv_topE 2 c2 ?_
      refine lv_tableIn (off := 243) (tgt := 276) C.1.1 C.1.2.1 dL_law_33 (by decide) (by decide) rfl (by decide) ?_
      exact op_276 l hL C hR ht hcs hP hS hl nxt
    by_cases c3 : y = 3
    · refine lv_topE 3 c3 ?_
      refine lv_tableIn (off := 276) (tgt := 309) C.1.1 C.1.2.1 dL_law_33 (by decide) (by decide) rfl (by decide) ?_
      exact op_309 l hL C hR ht hcs hP hS hl nxt
    by_cases c4 : y = 4
    · refine lv_topE 4 c4 ?_
      refine lv_tableIn (off := 299) (tgt := 332) C.1.1 C.1.2.1 dL_law_33 (by decide) (by decide) rfl (by decide) ?_
      exact op_332 l hL C hR ht hcs hP hS hl nxt
    by_cases c5 : y = 5
    · refine lv_topE 5 c5 ?_
      refine lv_tableIn (off := 332) (tgt := 365) C.1.1 C.1.2.1 dL_law_33 (by decide) (by decide) rfl (by decide) ?_
      exact op_365 l hL C hR ht hcs hP hS hl nxt
    by_cases c6 : y = 6
    · refine lv_topE 6 c6 ?_
      refine lv_tableIn (off := 365) (tgt := 398) C.1.1 C.1.2.1 dL_law_33 (by decide) (by decide) rfl (by decide) ?_
      exact op_398 l hL C hR ht hcs hP hS hl nxt
    by_cases c7 : y = 7
    · refine lv_topE 7 c7 ?_
      refine lv_tableIn (off := 408) (tgt := 441) C.1.1 C.1.2.1 dL_law_33 (by decide) (by decide) rfl (by decide) ?_
      exact op_441 l hL C hR ht hcs hP hS hl nxt
    by_cases c8 : y = 8
    · refine lv_topE 8 c8 ?_
      refine lv_tableIn (off := 441) (tgt := 474) C.1.1 C.1.2.1 dL_law_33 (by decide) (by decide) rfl (by decide) ?_
      exact op_474 l hL C hR ht hcs hP hS hl nxt
    by_cases c9 : y = 9
    · refine lv_topE 9 c9 ?_
      refine lv_tableIn (off := 464) (tgt := 497) C.1.1 C.1.2.1 dL_law_33 (by decide) (by decide) rfl (by decide) ?_
      exact op_497 l hL C hR ht hcs hP hS hl nxt
    by_cases c10 : y = 10
    · refine lv_topE 10 c10 ?_
      refine lv_tableIn (off := 487) (tgt := 520) C.1.1 C.1.2.1 dL_law_33 (by decide) (by decide) rfl (by decide) ?_
      exact op_520 l hL C hR ht hcs hP hS hl nxt
    by_cases c11 : y = 11
    · refine lv_topE 11 c11 ?_
      refine lv_tableIn (off := 510) (tgt := 543) C.1.1 C.1.2.1 dL_law_33 (by decide) (by decide) rfl (by decide) ?_
      exact op_543 l hL C hR ht hcs hP hS hl nxt
    by_cases c12 : y = 12
    · refine lv_topE 12 c12 ?_
      refine lv_tableIn (off := 533) (tgt := 566) C.1.1 C.1.2.1 dL_law_33 (by decide) (by decide) rfl (by decide) ?_
      exact op_566 l hL C hR ht hcs hP hS hl nxt
    by_cases c13 : y = 13
    · refine lv_topE 13 c13 ?_
      refine lv_tableIn (off := 576) (tgt := 609) C.1.1 C.1.2.1 dL_law_33 (by decide) (by decide) rfl (by decide) ?_
      exact op_609 l hL C hR ht hcs hP hS hl nxt
    by_cases c14 : y = 14
    · refine lv_topE 14 c14 ?_
      refine lv_tableIn (off := 599) (tgt := 632) C.1.1 C.1.2.1 dL_law_33 (by decide) (by decide) rfl (by decide) ?_
      exact op_632 l hL C hR ht hcs hP hS hl nxt
    by_cases c15 : y = 15
    · refine lv_topE 15 c15 ?_
      refine lv_tableIn (off := 632) (tgt := 665) C.1.1 C.1.2.1 dL_law_33 (by decide) (by decide) rfl (by decide) ?_
      exact op_665 l hL C hR ht hcs hP hS hl nxt
    by_cases c16 : y = 16
    · refine lv_topE 16 c16 ?_
      refine lv_tableIn (off := 665) (tgt := 698) C.1.1 C.1.2.1 dL_law_33 (by decide) (by decide) rfl (by decide) ?_
      exact op_698 l hL C hR ht hcs hP hS hl nxt
    by_cases c17 : y = 17
    · refine lv_topE 17 c17 ?_
      refine lv_tableIn (off := 698) (tgt := 731) C.1.1 C.1.2.1 dL_law_33 (by decide) (by decide) rfl (by decide) ?_
      exact op_731 l hL C hR ht hcs hP hS hl nxt
    by_cases c18 : y = 18
    · refine lv_topE 18 c18 ?_
      refine lv_tableIn (off := 731) (tgt := 764) C.1.1 C.1.2.1 dL_law_33 (by decide) (by decide) rfl (by decide) ?_
      exact op_764 l hL C hR ht hcs hP hS hl nxt
    by_cases c19 : y = 19
    · refine lv_topE 19 c19 ?_
      refine lv_tableIn (off := 754) (tgt := 787) C.1.1 C.1.2.1 dL_law_33 (by decide) (by decide) rfl (by decide) ?_
      exact op_787 l hL C hR ht hcs hP hS hl nxt
    by_cases c20 : y = 20
    · refine lv_topE 20 c20 ?_
      refine lv_tableIn (off := 787) (tgt := 820) C.1.1 C.1.2.1 dL_law_33 (by decide) (by decide) rfl (by decide) ?_
      exact op_820 l hL C hR ht hcs hP hS hl nxt
    by_cases c21 : y = 21
    · refine lv_topE 21 c21 ?_
      refine lv_tableIn (off := 820) (tgt := 853) C.1.1 C.1.2.1 dL_law_33 (by decide) (by decide) rfl (by decide) ?_
      exact op_853 l hL C hR ht hcs hP hS hl nxt
    by_cases c22 : y = 22
    · refine lv_topE 22 c22 ?_
      refine lv_tableIn (off := 843) (tgt := 876) C.1.1 C.1.2.1 dL_law_33 (by decide) (by decide) rfl (by decide) ?_
      exact op_876 l hL C hR ht hcs hP hS hl nxt
    by_cases c23 : y = 23
    · refine lv_topE 23 c23 ?_
      refine lv_tableIn (off := 866) (tgt := 899) C.1.1 C.1.2.1 dL_law_33 (by decide) (by decide) rfl (by decide) ?_
      exact op_899 l hL C hR ht hcs hP hS hl nxt
    by_cases c24 : y = 24
    · refine lv_topE 24 c24 ?_
      refine lv_tableIn (off := 899) (tgt := 932) C.1.1 C.1.2.1 dL_law_33 (by decide) (by decide) rfl (by decide) ?_
      exact op_932 l hL C hR ht hcs hP hS hl nxt
    by_cases c25 : y = 25
    · refine lv_topE 25 c25 ?_
      refine lv_tableIn (off := 932) (tgt := 965) C.1.1 C.1.2.1 dL_law_33 (by decide) (by decide) rfl (by decide) ?_
      exact op_965 l hL C hR ht hcs hP hS hl nxt
    by_cases c26 : y = 26
    · refine lv_topE 26 c26 ?_
      refine lv_tableIn (off := 955) (tgt := 988) C.1.1 C.1.2.1 dL_law_33 (by decide) (by decide) rfl (by decide) ?_
      exact op_988 l hL C hR ht hcs hP hS hl nxt
    by_cases c27 : y = 27
    · refine lv_topE 27 c27 ?_
      refine lv_tableIn (off := 999) (tgt := 1032) C.1.1 C.1.2.1 dL_law_33 (by decide) (by decide) rfl (by decide) ?_
      exact op_1032 l hL C hR ht hcs hP hS hl nxt
    by_cases c28 : y = 28
    · refine lv_topE 28 c28 ?_
      refine lv_tableIn (off := 1022) (tgt := 1055) C.1.1 C.1.2.1 dL_law_33 (by decide) (by decide) rfl (by decide) ?_
      exact op_1055 l hL C hR ht hcs hP hS hl nxt
    by_cases c29 : y = 29
    · refine lv_topE 29 c29 ?_
      refine lv_tableIn (off := 1055) (tgt := 1088) C.1.1 C.1.2.1 dL_law_33 (by decide) (by decide) rfl (by decide) ?_
      exact op_1088 l hL C hR ht hcs hP hS hl nxt
    by_cases c30 : y = 30
    · refine lv_topE 30 c30 ?_
      refine lv_tableIn (off := 1068) (tgt := 1101) C.1.1 C.1.2.1 dL_law_33 (by decide) (by decide) rfl (by decide) ?_
      exact op_1101 l hL C hR ht hcs hP hS hl nxt
    by_cases c31 : y = 31
    · refine lv_topE 31 c31 ?_
      refine lv_tableIn (off := 1081) (tgt := 1114) C.1.1 C.1.2.1 dL_law_33 (by decide) (by decide) rfl (by decide) ?_
      exact op_1114 l hL C hR ht hcs hP hS hl nxt
    by_cases c32 : y = 32
    · refine lv_topE 32 c32 ?_
      refine lv_tableIn (off := 1114) (tgt := 1147) C.1.1 C.1.2.1 dL_law_33 (by decide) (by decide) rfl (by decide) ?_
      exact op_1147 l hL C hR ht hcs hP hS hl nxt
    by_cases c33 : y = 33
    · refine lv_topE 33 c33 ?_
      refine lv_tableIn (off := 1147) (tgt := 1180) C.1.1 C.1.2.1 dL_law_33 (by decide) (by decide) rfl (by decide) ?_
      exact op_1180 l hL C hR ht hcs hP hS hl nxt
    by_cases c34 : y = 34
    · refine lv_topE 34 c34 ?_
      refine lv_tableIn (off := 1190) (tgt := 1223) C.1.1 C.1.2.1 dL_law_33 (by decide) (by decide) rfl (by decide) ?_
      exact op_1223 l hL C hR ht hcs hP hS hl nxt
    by_cases c35 : y = 35
    · refine lv_topE 35 c35 ?_
      refine lv_tableIn (off := 1233) (tgt := 1266) C.1.1 C.1.2.1 dL_law_33 (by decide) (by decide) rfl (by decide) ?_
      exact op_1266 l hL C hR ht hcs hP hS hl nxt
    by_cases c36 : y = 36
    · refine lv_topE 36 c36 ?_
      refine lv_tableIn (off := 1296) (tgt := 1329) C.1.1 C.1.2.1 dL_law_33 (by decide) (by decide) rfl (by decide) ?_
      exact op_1329 l hL C hR ht hcs hP hS hl nxt
    by_cases c37 : y = 37
    · refine lv_topE 37 c37 ?_
      refine lv_tableIn (off := 1319) (tgt := 1352) C.1.1 C.1.2.1 dL_law_33 (by decide) (by decide) rfl (by decide) ?_
      exact op_1352 l hL C hR ht hcs hP hS hl nxt
    by_cases c38 : y = 38
    · refine lv_topE 38 c38 ?_
      refine lv_tableIn (off := 1342) (tgt := 1375) C.1.1 C.1.2.1 dL_law_33 (by decide) (by decide) rfl (by decide) ?_
      exact op_1375 l hL C hR ht hcs hP hS hl nxt
    by_cases c39 : y = 39
    · refine lv_topE 39 c39 ?_
      refine lv_tableIn (off := 1355) (tgt := 1388) C.1.1 C.1.2.1 dL_law_33 (by decide) (by decide) rfl (by decide) ?_
      exact op_1388 l hL C hR ht hcs hP hS hl nxt
    by_cases c40 : y = 40
    · refine lv_topE 40 c40 ?_
      refine lv_tableIn (off := 1368) (tgt := 1401) C.1.1 C.1.2.1 dL_law_33 (by decide) (by decide) rfl (by decide) ?_
      exact op_1401 l hL C hR ht hcs hP hS hl nxt
    by_cases c41 : y = 41
    · refine lv_topE 41 c41 ?_
      refine lv_tableIn (off := 1381) (tgt := 1414) C.1.1 C.1.2.1 dL_law_33 (by decide) (by decide) rfl (by decide) ?_
      exact op_1414 l hL C hR ht hcs hP hS hl nxt
    by_cases c42 : y = 42
    · refine lv_topE 42 c42 ?_
      refine lv_tableIn (off := 1404) (tgt := 1437) C.1.1 C.1.2.1 dL_law_33 (by decide) (by decide) rfl (by decide) ?_
      exact op_1437 l hL C hR ht hcs hP hS hl nxt
    have hsw : y.toInt < 0 ∨ 42 < y.toInt := by
      have q0 := lv_neT (a := 0) c0 rfl
      have q1 := lv_neT (a := 1) c1 rfl
      have q2 := lv_neT (a := 2) c2 rfl
      have q3 := lv_neT (a := 3) c3 rfl
      have q4 := lv_neT (a := 4) c4 rfl
      have q5 := lv_neT (a := 5) c5 rfl
      have q6 := lv_neT (a := 6) c6 rfl
      have q7 := lv_neT (a := 7) c7 rfl
      have q8 := lv_neT (a := 8) c8 rfl
      have q9 := lv_neT (a := 9) c9 rfl
      have q10 := lv_neT (a := 10) c10 rfl
      have q11 := lv_neT (a := 11) c11 rfl
      have q12 := lv_neT (a := 12) c12 rfl
      have q13 := lv_neT (a := 13) c13 rfl
      have q14 := lv_neT (a := 14) c14 rfl
      have q15 := lv_neT (a := 15) c15 rfl
      have q16 := lv_neT (a := 16) c16 rfl
      have q17 := lv_neT (a := 17) c17 rfl
      have q18 := lv_neT (a := 18) c18 rfl
      have q19 := lv_neT (a := 19) c19 rfl
      have q20 := lv_neT (a := 20) c20 rfl
      have q21 := lv_neT (a := 21) c21 rfl
      have q22 := lv_neT (a := 22) c22 rfl
      have q23 := lv_neT (a := 23) c23 rfl
      have q24 := lv_neT (a := 24) c24 rfl
      have q25 := lv_neT (a := 25) c25 rfl
      have q26 := lv_neT (a := 26) c26 rfl
      have q27 := lv_neT (a := 27) c27 rfl
      have q28 := lv_neT (a := 28) c28 rfl
      have q29 := lv_neT (a := 29) c29 rfl
      have q30 := lv_neT (a := 30) c30 rfl
      have q31 := lv_neT (a := 31) c31 rfl
      have q32 := lv_neT (a := 32) c32 rfl
      have q33 := lv_neT (a := 33) c33 rfl
      have q34 := lv_neT (a := 34) c34 rfl
      have q35 := lv_neT (a := 35) c35 rfl
      have q36 := lv_neT (a := 36) c36 rfl
      have q37 := lv_neT (a := 37) c37 rfl
      have q38 := lv_neT (a := 38) c38 rfl
      have q39 := lv_neT (a := 39) c39 rfl
      have q40 := lv_neT (a := 40) c40 rfl
      have q41 := lv_neT (a := 41) c41 rfl
      have q42 := lv_neT (a := 42) c42 rfl
      omega
    refine lv_tableOut (tgt := 1460) C.1.1 C.1.2.1 dL_law_33 hsw (by decide) ?_
    exact W.widen (k := cs + 1) (n := ss + 4) (by omega) (by omega) (nxt v N H locs hR hP hS)
