/-! the reader's world -/
theorem st_upw {v : SV} {k c : Nat} {d r : Nat → Int32} (h : c < k ∨ k + 13 ≤ c) : upw (stW v k d) c r = stW (upw v c r) k d := by
  refine Prod.ext (funext fun c2 => ?_) rfl
  by_cases e : c2 = c
  · subst e
    rw [upw_same, st_far h, upw_same]
  · rw [upw_ne _ _ e]
    funext j
    show _ = (match sl k c2 j with | some i => (if 73 ≤ i then d i - 1 else d i) | none => (upw v c r).1 c2 j)
    rw [upw_ne _ _ e]
    rfl
theorem upw_swap {v : SV} {a b : Nat} {r q : Nat → Int32} (h : a ≠ b) : upw (upw v a r) b q = upw (upw v b q) a r := by
  unfold upw
  rw [up_swap _ h]
def rdR (R : Nat → Int32) (it nm : Int32) : Nat → Int32 := fun j => if j = 2 then it else if j = 3 then nm else R j
noncomputable def rcW (w : SV) (B : Nat → Int32) (T c : Nat) (it nm : Int32) : SV := upw (ctV w B T c) 64 (rdR (w.1 64) it nm)
section RC
variable {w : SV} {B : Nat → Int32} {T c c2 : Nat} {it nm x : Int32} {D : Nat → Int32}
theorem rc_41 : (stW (rcW w B T c it nm) 14 D).1 41 = tqR (w.1 41) (tkK B T c) (nI c) (vlC B T c) (nI (tnE B T c)) := by
  rw [st_far (by omega), rcW, upw_ne _ _ (by decide), ctV, tq_row]
theorem rc_42 : (stW (rcW w B T c it nm) 14 D).1 42 = w.1 42 := by
  rw [st_far (by omega), rcW, upw_ne _ _ (by decide), ctV, tq_ne _ _ _ _ _ (by decide)]
theorem rc_64 : (stW (rcW w B T c it nm) 14 D).1 64 = rdR (w.1 64) it nm := by
  rw [st_far (by omega), rcW, upw_same]
theorem rc_far {q : Nat} (h1 : q ≠ 41) (h2 : q ≠ 64) (h3 : q < 14 ∨ 27 ≤ q) : (stW (rcW w B T c it nm) 14 D).1 q = w.1 q := by
  rw [st_far (by omega), rcW, upw_ne _ _ h2, ctV, tq_ne _ _ _ _ _ h1]
theorem rc_L (h : w.1 41 1 = nI T) : (stW (rcW w B T c it nm) 14 D).1 41 1 = nI T := (congrFun rc_41 _).trans h
theorem rc_2t : (stW (rcW w B T c it nm) 14 D).1 41 2 = tkK B T c := congrFun rc_41 _
theorem rc_3t : (stW (rcW w B T c it nm) 14 D).1 41 3 = nI c := congrFun rc_41 _
theorem rc_4t : (stW (rcW w B T c it nm) 14 D).1 41 4 = vlC B T c := congrFun rc_41 _
theorem rc_5t : (stW (rcW w B T c it nm) 14 D).1 41 5 = nI (tnE B T c) := congrFun rc_41 _
theorem rc_b (h : ∀ j, j < T → w.1 42 j = B j) : ∀ j, j < T → (stW (rcW w B T c it nm) 14 D).1 42 j = B j := fun j hj => (congrFun rc_42 j).trans (h j hj)
theorem tq_tq (R : Nat → Int32) (a b d e a2 b2 d2 e2 : Int32) : tqR (tqR R a b d e) a2 b2 d2 e2 = tqR R a2 b2 d2 e2 := by
  funext j
  unfold tqR
  by_cases h2 : j = 2
  · rw [if_pos h2, if_pos h2]
  · rw [if_neg h2, if_neg h2, if_neg h2]
    by_cases h3 : j = 3
    · rw [if_pos h3, if_pos h3]
    · rw [if_neg h3, if_neg h3, if_neg h3]
      by_cases h4 : j = 4
      · rw [if_pos h4, if_pos h4]
      · rw [if_neg h4, if_neg h4, if_neg h4]
        by_cases h5 : j = 5
        · rw [if_pos h5, if_pos h5]
        · rw [if_neg h5, if_neg h5, if_neg h5]
theorem rc_ct : ctV (stW (rcW w B T c it nm) 14 D) B T c2 = stW (rcW w B T c2 it nm) 14 D := by
  rw [ctV, tqV, rc_41, tq_tq, st_upw (by omega)]
  congr 1
  rw [rcW, rcW, upw_swap (by decide), ctV, tqV, upw_upw, ctV, tqV]
theorem rd_2 (R : Nat → Int32) (it nm x : Int32) : upd (rdR R it nm) 2 x = rdR R x nm := by
  funext j
  simp only [upd, rdR]
  by_cases h : j = 2 <;> simp [h]
theorem rd_3 (R : Nat → Int32) (it nm x : Int32) : upd (rdR R it nm) 3 x = rdR R it x := by
  funext j
  simp only [upd, rdR]
  by_cases h : j = 2 <;> by_cases h3 : j = 3 <;> simp [h, h3] <;> omega
theorem rc_2 : up (stW (rcW w B T c it nm) 14 D) 64 2 x = stW (rcW w B T c x nm) 14 D := by
  show upw _ 64 (upd _ 2 x) = _
  rw [rc_64, rd_2, st_upw (by omega)]
  congr 1
  rw [rcW, rcW, upw_upw]
theorem rc_3 : up (stW (rcW w B T c it nm) 14 D) 64 3 x = stW (rcW w B T c it x) 14 D := by
  show upw _ 64 (upd _ 3 x) = _
  rw [rc_64, rd_3, st_upw (by omega)]
  congr 1
  rw [rcW, rcW, upw_upw]
end RC
theorem tnE_le {B : Nat → Int32} {T c : Nat} (h : c ≤ T) : tnE B T c ≤ T := by
  unfold tnE
  by_cases q : tkK B T c = 4
  · rw [if_pos q]
    have : ¬ c = T := fun z => by unfold tkK at q; rw [if_pos z] at q; exact absurd q (by decide)
    omega
  · rw [if_neg q]; exact tkE_le h
theorem tn_nx {B : Nat → Int32} {T c : Nat} {k : Int32} (h : tkK B T c = k) (hk : k ≠ 4) : skp B T (tnE B T c) = nx B T c := by
  rw [tnE, if_neg (fun z => hk (h.symm.trans z)), nx]
theorem num_E {B : Nat → Int32} {T c : Nat} (h : tkK B T c = 2) : ∃ m : Nat, m ≤ 99999 ∧ tkX B T c = lN m ∧ vlC B T c = nI (min 10000 m) := by
  have h0 : ¬ c = T := fun z => by unfold tkK at h; rw [if_pos z] at h; exact absurd h (by decide)
  have hb : tkB (B c) = 2 := (tkK_B h0).symm.trans h
  have h2 := tkB_2.mp hb
  have n1 : ¬ B c = 59 := fun z => absurd (z ▸ h2) (by decide)
  have n2 : ¬ 0 < letF (B c) := fun z => absurd (hb.symm.trans (tkB_1.mpr z)) (by decide)
  obtain ⟨m, hm, e1, e2⟩ := vl_num (B := B) (a := c) (nmE B T c - c) (fun t ht => Classical.byContradiction (lk_all (P := fun j => ¬ dgP (B j)) (T - c) c (c + t) (by omega) (by unfold nmE at ht; omega)))
  refine ⟨m, hm, ?_, ?_⟩
  · rw [tkX, if_neg h0, if_neg n1, if_pos (fa_nlt n2), if_pos h2, e1]
  · rw [vlC, if_pos h, e2]
theorem vl_iff {B : Nat → Int32} {T c Y : Nat} {y : Int32} (h : tkK B T c = 2) (hy : y = nI Y) (hY : Y ≤ 9999) : (vlC B T c ≤ y ↔ tkX B T c ≤ y.toInt64) ∧ (tkX B T c ≤ y.toInt64 → nhV B T c y = vlC B T c) := by
  obtain ⟨m, hm, e1, e2⟩ := num_E h
  have q1 : vlC B T c ≤ y ↔ m ≤ Y := by
    rw [e2, hy, nI_leI (by omega) (by omega)]
    omega
  have q2 : tkX B T c ≤ y.toInt64 ↔ m ≤ Y := by rw [e1, hy, nI_l (by omega), pk_lLE (by omega) (by omega)]
  refine ⟨q1.trans q2.symm, fun z => ?_⟩
  have z2 := q2.mp z
  rw [nhV, cif_pos ⟨h, z⟩, e1, e2, lN_i, Nat.min_eq_right (by omega)]
/-- the reference's steps, fault by fault -/
theorem neg1 : ¬ (0 : Int32) ≤ -1 := by decide
theorem nh_yes {B : Nat → Int32} {T c : Nat} {fa y : Int32} {d : Nat → Int32} (h : nhP B T c y) : nhQ B T (c, fa, d) y = (nx B T c, fa, d) := by rw [nhQ, cif_pos h]
theorem nh_no {B : Nat → Int32} {T c : Nat} {y : Int32} {d : Nat → Int32} (h : ¬ nhP B T c y) : nhQ B T (c, -1, d) y = (c, nI c, d) := by rw [nhQ, cif_neg h, wrF, if_neg neg1]
theorem ph_no {B : Nat → Int32} {T c j : Nat} {y : Int64} {z : Int32} {d : Nat → Int32} (h : ¬ wdP B T c y) : phF B T (c, -1, d) y j z = (c, -1, d) := by rw [phF, if_neg neg1, cif_neg h]
theorem ph_yes {B : Nat → Int32} {T c j : Nat} {y : Int64} {z : Int32} {d : Nat → Int32} (h : wdP B T c y) (h2 : nhP B T (nx B T c) z) : phF B T (c, -1, d) y j z = (nx B T (nx B T c), -1, upd d j (nhV B T (nx B T c) z)) := by
  rw [phF, if_neg neg1, cif_pos h]
  simp only []
  rw [nh_yes h2, if_neg neg1]
theorem ph_bad {B : Nat → Int32} {T c j : Nat} {y : Int64} {z : Int32} {d : Nat → Int32} (hc : nx B T c < 2 ^ 31) (h : wdP B T c y) (h2 : ¬ nhP B T (nx B T c) z) : phF B T (c, -1, d) y j z = (nx B T c, nI (nx B T c), d) := by
  rw [phF, if_neg neg1, cif_pos h]
  simp only []
  rw [nh_no h2, if_pos (nI_pos' hc)]
theorem ph_skip {B : Nat → Int32} {T c c2 j : Nat} {y : Int64} {z : Int32} {d : Nat → Int32} (hc : c2 < 2 ^ 31) : phF B T (c, nI c2, d) y j z = (c, nI c2, d) := by rw [phF, if_pos (nI_pos' hc)]
theorem cr_bad {B : Nat → Int32} {T c : Nat} {d : Nat → Int32} (hc : nx B T c < 2 ^ 31) (h : ¬ nhP B T (nx B T c) 15) : crF B T (c, -1, d) = (nx B T c, nI (nx B T c), d) := by
  rw [crF]
  simp only []
  rw [nh_no h, if_pos (nI_pos' hc), ph_skip hc, ph_skip hc]
theorem cr_ok {B : Nat → Int32} {T c : Nat} {d : Nat → Int32} {m : Nat} {q2 q3 : PQ} (h : nhP B T (nx B T c) 15) (e : nhV B T (nx B T c) 15 = nI m) (h2 : phF B T (nx B T (nx B T c), -1, upd d 3 (nI m)) 315743 4 5 = q2) (h3 : phF B T q2 247702 5 9 = q3) : crF B T (c, -1, d) = q3 := by
  rw [crF]
  simp only []
  rw [nh_yes h, if_neg neg1, e, h2, h3]
theorem cy_b1 {B : Nat → Int32} {T c : Nat} {d : Nat → Int32} (hc : nx B T c < 2 ^ 31) (h : ¬ nhP B T (nx B T c) 5) : cyF B T (c, -1, d) = (nx B T c, nI (nx B T c), d) := by
  rw [cyF]
  simp only []
  rw [nh_no h, if_pos (nI_pos' hc)]
theorem cy_b2 {B : Nat → Int32} {T c : Nat} {d : Nat → Int32} (hc : nx B T (nx B T c) < 2 ^ 31) (h : nhP B T (nx B T c) 5) (h2 : ¬ nhP B T (nx B T (nx B T c)) 11) : cyF B T (c, -1, d) = (nx B T (nx B T c), nI (nx B T (nx B T c)), d) := by
  rw [cyF]
  simp only []
  rw [nh_yes h, if_neg neg1]
  simp only []
  rw [nh_no h2, if_pos (nI_pos' hc)]
theorem cy_ok {B : Nat → Int32} {T c m m2 : Nat} {d : Nat → Int32} (hm : m < 2 ^ 31) (h : nhP B T (nx B T c) 5) (e : nhV B T (nx B T c) 5 = nI m) (h2 : nhP B T (nx B T (nx B T c)) 11) (e2 : nhV B T (nx B T (nx B T c)) 11 = nI m2) : cyF B T (c, -1, d) = (nx B T (nx B T (nx B T c)), -1, upd d (7 + m) (nI m2)) := by
  rw [cyF]
  simp only []
  rw [nh_yes h, if_neg neg1]
  simp only []
  rw [nh_yes h2, if_neg neg1, e, e2, nI_clamp hm]
theorem re_full {B : Nat → Int32} {T c : Nat} {y : Int32} {d : Nat → Int32} (h : d 0 = nI 8) : reF B T (c, -1, d) y = (c, nI c, d) := by
  rw [reF, if_pos (show (d 0).toNatClampNeg = 8 by rw [h]; rfl), wrF, if_neg neg1]
theorem re_ok {B : Nat → Int32} {T c N : Nat} {y : Int32} {d : Nat → Int32} {q1 q2 q3 : PQ} (h : d 0 = nI N) (hN : N < 8) (h1 : phF B T (nx B T c, -1, comesM d N y 0) 47 (33 + N) 15 = q1) (h2 : phF B T q1 12253591 (41 + N) 4095 = q2) (h3 : phF B T q2 168836 (49 + N) 99 = q3) : reF B T (c, -1, d) y = reT B T N q3 := by
  have e : (d 0).toNatClampNeg = N := by rw [h, nI_clamp (by omega)]
  rw [reF]
  simp only [e]
  rw [if_neg (by omega), h1, h2, h3]
theorem rt_skip {B : Nat → Int32} {T N c c2 : Nat} {d : Nat → Int32} (hc : c2 < 2 ^ 31) : reT B T N (c, nI c2, d) = (c, nI c2, d) := by rw [reT, if_pos (nI_pos' hc)]
theorem rt_no {B : Nat → Int32} {T N c : Nat} {d : Nat → Int32} (h : ¬ wdP B T c 36502) : reT B T N (c, -1, d) = (c, -1, d) := by rw [reT, if_neg neg1, cif_neg h]
theorem rt_yes {B : Nat → Int32} {T N c : Nat} {d : Nat → Int32} (h : wdP B T c 36502) : reT B T N (c, -1, d) = (nx B T c, -1, upd d (25 + 8 * 5 + N) 1) := by rw [reT, if_neg neg1, cif_pos h]
/-- what a step of the class comes to, by the reference's -/
def CR (w : SV) (B : Nat → Int32) (T : Nat) (it : Int32) (q : PQ) (x : Int32) (u : SV) : Prop :=
  q.1 ≤ T ∧ ((x = 1 ∧ q.2.1 = -1 ∧ ∃ nm D N, u = stW (rcW w B T q.1 it nm) 14 D ∧ okC D N ∧ agr N q.2.2 D) ∨ (x = 0 ∧ q.2.1 = nI q.1 ∧ ∃ nm D, u = stW (rcW w B T q.1 it nm) 14 D))
theorem CR_0 {w : SV} {B : Nat → Int32} {T c : Nat} {it nm : Int32} {D d : Nat → Int32} {q : PQ} (e : q = (c, nI c, d)) (hc : c ≤ T) : CR w B T it q 0 (stW (rcW w B T c it nm) 14 D) := by
  rw [e]
  exact ⟨hc, Or.inr ⟨rfl, rfl, nm, D, rfl⟩⟩
theorem CR_1 {w : SV} {B : Nat → Int32} {T c N : Nat} {it nm : Int32} {D d : Nat → Int32} {q : PQ} (e : q = (c, -1, d)) (hc : c ≤ T) (hD : okC D N) (hA : agr N d D) : CR w B T it q 1 (stW (rcW w B T c it nm) 14 D) := by
  rw [e]
  exact ⟨hc, Or.inl ⟨rfl, rfl, nm, D, N, rfl, hD, hA⟩⟩
/-- the word that a kind has -/
def hsK : List Int64 := [190500955076, 256855, 1888, 70400, 12403634, 82410, 8779]
theorem kind_no {B : Nat → Int32} {T c : Nat} (h : ∀ k, k < 7 → ¬ wdP B T c (hsK.getD k 0)) : kindT B T c = -1 := by
  rw [kindT, cif_neg (show ¬ wdP B T c 190500955076 from h 0 (by decide)), cif_neg (show ¬ wdP B T c 256855 from h 1 (by decide)), cif_neg (show ¬ wdP B T c 1888 from h 2 (by decide)), cif_neg (show ¬ wdP B T c 70400 from h 3 (by decide)), cif_neg (show ¬ wdP B T c 12403634 from h 4 (by decide)), cif_neg (show ¬ wdP B T c 82410 from h 5 (by decide)), cif_neg (show ¬ wdP B T c 8779 from h 6 (by decide))]
theorem hs_inj : ∀ i, i < 7 → ∀ j, j < 7 → hsK.getD i 0 = hsK.getD j 0 → i = j := by decide +kernel
theorem hs_ne : ∀ i, i < 7 → hsK.getD i 0 ≠ 1955331 ∧ hsK.getD i 0 ≠ 2698 := by decide +kernel
theorem kind_at {B : Nat → Int32} {T c : Nat} : ∀ k, k < 7 → wdP B T c (hsK.getD k 0) → kindT B T c = nI k := by
  intro k hk h
  have n : ∀ j, j < 7 → j ≠ k → ¬ wdP B T c (hsK.getD j 0) := fun j hj hjk z => hjk (hs_inj j hj k hk (z.2.symm.trans h.2))
  have : k = 0 ∨ k = 1 ∨ k = 2 ∨ k = 3 ∨ k = 4 ∨ k = 5 ∨ k = 6 := by omega
  rw [kindT]
  rcases this with rfl | rfl | rfl | rfl | rfl | rfl | rfl
  · rw [cif_pos (show wdP B T c 190500955076 from h)]; rfl
  · rw [cif_neg (show ¬ wdP B T c 190500955076 from n 0 (by decide) (by decide)), cif_pos (show wdP B T c 256855 from h)]; rfl
  · rw [cif_neg (show ¬ wdP B T c 190500955076 from n 0 (by decide) (by decide)), cif_neg (show ¬ wdP B T c 256855 from n 1 (by decide) (by decide)), cif_pos (show wdP B T c 1888 from h)]; rfl
  · rw [cif_neg (show ¬ wdP B T c 190500955076 from n 0 (by decide) (by decide)), cif_neg (show ¬ wdP B T c 256855 from n 1 (by decide) (by decide)), cif_neg (show ¬ wdP B T c 1888 from n 2 (by decide) (by decide)), cif_pos (show wdP B T c 70400 from h)]; rfl
  · rw [cif_neg (show ¬ wdP B T c 190500955076 from n 0 (by decide) (by decide)), cif_neg (show ¬ wdP B T c 256855 from n 1 (by decide) (by decide)), cif_neg (show ¬ wdP B T c 1888 from n 2 (by decide) (by decide)), cif_neg (show ¬ wdP B T c 70400 from n 3 (by decide) (by decide)), cif_pos (show wdP B T c 12403634 from h)]; rfl
  · rw [cif_neg (show ¬ wdP B T c 190500955076 from n 0 (by decide) (by decide)), cif_neg (show ¬ wdP B T c 256855 from n 1 (by decide) (by decide)), cif_neg (show ¬ wdP B T c 1888 from n 2 (by decide) (by decide)), cif_neg (show ¬ wdP B T c 70400 from n 3 (by decide) (by decide)), cif_neg (show ¬ wdP B T c 12403634 from n 4 (by decide) (by decide)), cif_pos (show wdP B T c 82410 from h)]; rfl
  · rw [cif_neg (show ¬ wdP B T c 190500955076 from n 0 (by decide) (by decide)), cif_neg (show ¬ wdP B T c 256855 from n 1 (by decide) (by decide)), cif_neg (show ¬ wdP B T c 1888 from n 2 (by decide) (by decide)), cif_neg (show ¬ wdP B T c 70400 from n 3 (by decide) (by decide)), cif_neg (show ¬ wdP B T c 12403634 from n 4 (by decide) (by decide)), cif_neg (show ¬ wdP B T c 82410 from n 5 (by decide) (by decide)), cif_pos (show wdP B T c 8779 from h)]; rfl
theorem it_cr {B : Nat → Int32} {T c : Nat} {d : Nat → Int32} (h : wdP B T c 1955331) : itF B T (c, -1, d) = crF B T (c, -1, d) := by
  rw [itF, if_pos (show kindT B T c < 0 by rw [kind_no (fun k hk z => (hs_ne k hk).1 (z.2.symm.trans h.2))]; decide), cif_pos h]
theorem it_cy {B : Nat → Int32} {T c : Nat} {d : Nat → Int32} (h1 : ¬ wdP B T c 1955331) (h : wdP B T c 2698) : itF B T (c, -1, d) = cyF B T (c, -1, d) := by
  rw [itF, if_pos (show kindT B T c < 0 by rw [kind_no (fun k hk z => (hs_ne k hk).2 (z.2.symm.trans h.2))]; decide), cif_neg h1, cif_pos h]
theorem it_re {B : Nat → Int32} {T c k : Nat} {d : Nat → Int32} (hk : k < 7) (h : wdP B T c (hsK.getD k 0)) : itF B T (c, -1, d) = reF B T (c, -1, d) (nI k) := by
  rw [itF, if_neg (show ¬ kindT B T c < 0 by rw [kind_at k hk h]; exact nI_n0 hk), show kindT B T (c, (-1 : Int32), d).1 = nI k from kind_at k hk h]
theorem it_no {B : Nat → Int32} {T c : Nat} {d : Nat → Int32} (h1 : ¬ wdP B T c 1955331) (h2 : ¬ wdP B T c 2698) (h : ∀ k, k < 7 → ¬ wdP B T c (hsK.getD k 0)) : itF B T (c, -1, d) = (c, nI c, d) := by
  rw [itF, if_pos (show kindT B T c < 0 by rw [kind_no h]; decide), cif_neg h1, cif_neg h2, wrF, if_neg neg1]
