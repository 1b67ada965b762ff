/-! sheets -/
theorem RL_sh {v z : SV} {N : Nat} (h : Rl v N) (ha : ∀ c, c < 44 ∨ c = 52 ∨ c = 53 ∨ c = 54 ∨ c = 57 ∨ c = 58 ∨ c = 59 → z.1 c = v.1 c) (hs : ∀ s, s < 4 → z.1 (44 + 2 * s) 0 = z.1 60 s ∧ (∃ q, q ≤ 40 ∧ z.1 (44 + 2 * s) 1 = nI q ∧ z.1 61 s = nI q) ∧ ∀ i, i < 40 → z.1 (44 + 2 * s + 1) i = z.1 62 (40 * s + i)) : Rl z N := by
  obtain ⟨q1, q2, ⟨T, t1, t2, t3, t4⟩, -, q5, q6, q7⟩ := h
  have s1 : stR z 1 = stR v 1 := stR_cong (fun c e1 e2 => ha c (by omega))
  have s2 : stR z 27 = stR v 27 := stR_cong (fun c e1 e2 => ha c (by omega))
  refine ⟨?_, fun j hj => ?_, ⟨T, t1, ?_, ?_, fun j hj => ?_⟩, hs, ?_⟩
  · rw [s1, ha 54 (by omega)]; exact q1
  · rw [ha 52 (by omega), ha 58 (by omega)]; exact q2 j hj
  · rw [ha 53 (by omega)]; exact t2
  · rw [ha 41 (by omega)]; exact t3
  · rw [ha 42 (by omega), ha 59 (by omega)]; exact t4 j hj
  · rw [ha 0 (by omega), ha 53 (by omega), ha 57 (by omega), s2]
    exact ⟨q5, q6, q7⟩
theorem zsF_at (f : Nat → Int32) (a : Nat) : ∀ (n j : Nat), zsF f a n j = if a ≤ j ∧ j < a + n then 0 else f j
  | 0, j => by rw [if_neg (by omega)]; rfl
  | n + 1, j => by
    rw [zsF]
    by_cases h : j = a + n
    · rw [h, pk_us, if_pos (by omega)]
    · rw [pk_un h, zsF_at f a n j]
      by_cases h2 : a ≤ j ∧ j < a + n
      · rw [if_pos h2, if_pos (by omega)]
      · rw [if_neg h2, if_neg (by omega)]
def mkS (v : SV) (k : Nat) (x y : Int32) : SV := upw (up (up v k 0 x) k 1 (if x = 0 then 0 else y)) (k + 1) (fillM (v.1 (k + 1)) 0 40)
theorem Rl_sheet {v : SV} {N s z : Nat} {x : Int32} (h : Rl v N) (hs : s < 4) (hz : z ≤ 40) : Rl (shS (mkS v (44 + 2 * s) x (nI z)) s x (if x = 0 then 0 else nI z)) N := by
  have e0 : ∀ c, c < 44 ∨ 52 ≤ c → (mkS v (44 + 2 * s) x (nI z)).1 c = v.1 c := fun c hc => by
    unfold mkS
    rw [upw_ne _ _ (by omega), upw_ne _ _ (by omega), upw_ne _ _ (by omega)]
  obtain ⟨w, hw, ew⟩ : ∃ w, w ≤ 40 ∧ (if x = 0 then 0 else nI z) = nI w := by
    by_cases q : x = 0
    · exact ⟨0, by decide, by rw [if_pos q]; rfl⟩
    · exact ⟨z, hz, by rw [if_neg q]⟩
  generalize hg : shS (mkS v (44 + 2 * s) x (nI z)) s x (if x = 0 then 0 else nI z) = u
  have u60 : u.1 60 = upd (v.1 60) s x := by
    rw [← hg]; unfold shS
    rw [upw_ne _ _ (by decide), upw_ne _ _ (by decide), upw_same, e0 60 (by omega)]
  have u61 : u.1 61 = upd (v.1 61) s (nI w) := by
    rw [← hg]; unfold shS
    rw [upw_ne _ _ (by decide), upw_same, upw_ne _ _ (by decide), e0 61 (by omega), ew]
  have u62 : u.1 62 = zsF (v.1 62) (40 * s) 40 := by
    rw [← hg]; unfold shS
    rw [upw_same, upw_ne _ _ (by decide), upw_ne _ _ (by decide), e0 62 (by omega)]
  have ulo : ∀ c, c < 60 → u.1 c = (mkS v (44 + 2 * s) x (nI z)).1 c := fun c hc => by
    rw [← hg]; unfold shS
    rw [upw_ne _ _ (by omega), upw_ne _ _ (by omega), upw_ne _ _ (by omega)]
  refine RL_sh h (fun c hc => by rw [ulo c (by omega), e0 c (by omega)]) (fun t ht => ?_)
  rw [u60, u61, u62, ulo _ (by omega), ulo _ (by omega)]
  by_cases e : t = s
  · subst e
    have k0 : (mkS v (44 + 2 * t) x (nI z)).1 (44 + 2 * t) = upd (upd (v.1 (44 + 2 * t)) 0 x) 1 (nI w) := by
      unfold mkS
      rw [upw_ne _ _ (by omega), upw_same, upw_same, ew]
    have k1 : (mkS v (44 + 2 * t) x (nI z)).1 (44 + 2 * t + 1) = fillM (v.1 (44 + 2 * t + 1)) 0 40 := by
      unfold mkS
      rw [upw_same]
    rw [k0, k1]
    refine ⟨?_, ⟨w, hw, pk_us, pk_us⟩, fun i hi => ?_⟩
    · rw [pk_un (by decide), pk_us, pk_us]
    · rw [zsF_at, if_pos (by omega), fillM, if_pos hi]
  · have k0 : (mkS v (44 + 2 * s) x (nI z)).1 (44 + 2 * t) = v.1 (44 + 2 * t) := by
      unfold mkS
      rw [upw_ne _ _ (by omega), upw_ne _ _ (by omega), upw_ne _ _ (by omega)]
    have k1 : (mkS v (44 + 2 * s) x (nI z)).1 (44 + 2 * t + 1) = v.1 (44 + 2 * t + 1) := by
      unfold mkS
      rw [upw_ne _ _ (by omega), upw_ne _ _ (by omega), upw_ne _ _ (by omega)]
    obtain ⟨q1, q2, q3⟩ := h.2.2.2.1 t ht
    rw [k0, k1, pk_un e, pk_un e]
    refine ⟨q1, q2, fun i hi => ?_⟩
    rw [zsF_at, if_neg (by omega)]
    exact q3 i hi
theorem Rl_write {v : SV} {N s i : Nat} {x : Int32} (h : Rl v N) (hs : s < 4) (hi : i < 40) : Rl (up (up v (44 + 2 * s + 1) i x) 62 (40 * s + i) x) N := by
  refine RL_sh h (fun c hc => by rw [upw_ne _ _ (by omega), upw_ne _ _ (by omega)]) (fun t ht => ?_)
  obtain ⟨q1, q2, q3⟩ := h.2.2.2.1 t ht
  rw [upw_ne _ _ (show 44 + 2 * t ≠ 62 by omega), upw_ne _ _ (show 44 + 2 * t ≠ 44 + 2 * s + 1 by omega), upw_ne _ _ (show 60 ≠ 62 by decide), upw_ne _ _ (show 60 ≠ 44 + 2 * s + 1 by omega), upw_ne _ _ (show 61 ≠ 62 by decide), upw_ne _ _ (show 61 ≠ 44 + 2 * s + 1 by omega)]
  refine ⟨q1, q2, fun j hj => ?_⟩
  rw [upw_ne _ _ (show 44 + 2 * t + 1 ≠ 62 by omega), upw_same, upw_ne _ _ (show 62 ≠ 44 + 2 * s + 1 by omega)]
  by_cases e : t = s
  · subst e
    rw [upw_same]
    by_cases e2 : j = i
    · rw [e2, pk_us, pk_us]
    · rw [pk_un e2, pk_un (by omega)]; exact q3 j hj
  · rw [upw_ne _ _ (by omega), pk_un (by omega)]; exact q3 j hj
/-- what is wrong with a sheet, as the class says it -/
noncomputable def wwF (v : SV) (x : Int32) : Int32 := cif (∃ j : Nat, j < 4 ∧ x = nI j) (if v.1 (44 + 2 * x.toNatClampNeg) 0 = 0 then -1000006 else 0) (-1000001)
noncomputable def wnF (v : SV) (x y : Int32) (N : Nat) : Int32 := if wwF v x = 0 then cif (∃ j : Nat, j < N ∧ y = nI j) 0 (-1000001) else wwF v x
theorem why_cong {v u : SV} (x : Int32) (h : u.1 60 = v.1 60) : whyF u x = whyF v x := by unfold whyF; rw [h]
theorem whyN_cong {v u : SV} (x y : Int32) (N : Nat) (h : u.1 60 = v.1 60) : whyN u x y N = whyN v x y N := by unfold whyN; rw [why_cong x h]
theorem ww_0 {v : SV} {N : Nat} {x : Int32} (hR : Rl v N) (h : wwF v x = 0) : ∃ j : Nat, j < 4 ∧ x = nI j ∧ whyF v x = -1 := by
  by_cases q : ∃ j : Nat, j < 4 ∧ x = nI j
  · obtain ⟨j, hj, rfl⟩ := q
    refine ⟨j, hj, rfl, ?_⟩
    have hq : ∃ k : Nat, k < 4 ∧ nI j = nI k := ⟨j, hj, rfl⟩
    rw [wwF, cif_pos hq, tn_nI (by omega)] at h
    rw [whyF, cif_pos hq, tn_nI (by omega), ← (hR.2.2.2.1 j hj).1]
    by_cases e : v.1 (44 + 2 * j) 0 = 0
    · rw [if_pos e] at h; exact absurd h (by decide)
    · rw [if_neg e]
  · rw [wwF, cif_neg q] at h; exact absurd h (by decide)
theorem ww_n {v : SV} {N : Nat} {x : Int32} (hR : Rl v N) (h : ¬ wwF v x = 0) : ∃ j : Nat, j < 7 ∧ wwF v x = -1000001 - nI j ∧ whyF v x = nI j := by
  by_cases q : ∃ j : Nat, j < 4 ∧ x = nI j
  · obtain ⟨j, hj, rfl⟩ := q
    have hq : ∃ k : Nat, k < 4 ∧ nI j = nI k := ⟨j, hj, rfl⟩
    rw [wwF, cif_pos hq, tn_nI (by omega)] at h ⊢
    rw [whyF, cif_pos hq, tn_nI (by omega), ← (hR.2.2.2.1 j hj).1]
    by_cases e : v.1 (44 + 2 * j) 0 = 0
    · rw [if_pos e, if_pos e]; exact ⟨5, by decide, by decide, rfl⟩
    · rw [if_neg e] at h; exact absurd rfl h
  · rw [wwF, cif_neg q, whyF, cif_neg q]; exact ⟨0, by decide, by decide, rfl⟩
theorem wn_0 {v : SV} {N : Nat} {x y : Int32} (hR : Rl v N) (h : wnF v x y N = 0) : ∃ j : Nat, j < 4 ∧ x = nI j ∧ ∃ r : Nat, r < N ∧ y = nI r ∧ whyN v x y N = -1 := by
  unfold wnF at h
  by_cases q : wwF v x = 0
  · obtain ⟨j, hj, e, hw⟩ := ww_0 hR q
    rw [if_pos q] at h
    by_cases q2 : ∃ r : Nat, r < N ∧ y = nI r
    · obtain ⟨r, hr, e2⟩ := id q2
      refine ⟨j, hj, e, r, hr, e2, ?_⟩
      rw [whyN, hw, if_pos (by decide), cif_pos q2]
    · rw [cif_neg q2] at h; exact absurd h (by decide)
  · rw [if_neg q] at h; exact absurd h q
theorem wn_n {v : SV} {N : Nat} {x y : Int32} (hR : Rl v N) (h : ¬ wnF v x y N = 0) : ∃ j : Nat, j < 7 ∧ wnF v x y N = -1000001 - nI j ∧ whyN v x y N = nI j := by
  unfold wnF at h ⊢
  by_cases q : wwF v x = 0
  · obtain ⟨j, hj, e, hw⟩ := ww_0 hR q
    rw [if_pos q] at h ⊢
    by_cases q2 : ∃ r : Nat, r < N ∧ y = nI r
    · rw [cif_pos q2] at h; exact absurd rfl h
    · rw [cif_neg q2, whyN, hw, if_pos (by decide), cif_neg q2]; exact ⟨0, by decide, by decide, rfl⟩
  · rw [if_neg q]
    obtain ⟨j, hj, e, hw⟩ := ww_n hR q
    refine ⟨j, hj, e, ?_⟩
    rw [whyN, hw, if_neg]
    exact fun z => absurd (nI_pos' (show j < 2 ^ 31 by omega)) (fa_lt_nle z)
theorem nI_n0 {j : Nat} (h : j < 7) : ¬ nI j < 0 := fun z => absurd (nI_pos' (show j < 2 ^ 31 by omega)) (fa_lt_nle z)
def rowP (s x y : Int32) : Prop := 0 ≤ x ∧ 0 ≤ y ∧ y ≤ s - x
/-- load and judge -/
def LdP (v : SV) (N s t : Nat) : Prop := ¬ (t < N ∧ ∃ j : Nat, j < 4096 ∧ v.1 62 (40 * s + t) = nI j)
theorem okC_ld {d f : Nat → Int32} {N s : Nat} (h : okC d N) : ∀ i, i ≤ N → (∀ t, t < i → ∃ j : Nat, j < 4096 ∧ f (40 * s + t) = nI j) → okC (ldM d f s i) N
  | 0, _, _ => h
  | i + 1, hi, hf => by
    have h8 := h.1
    obtain ⟨j, hj, e⟩ := hf i (by omega)
    exact okC_res (m := j) (okC_ld h i (by omega) (fun t ht => hf t (by omega))) (by decide) (by omega) hj e
theorem agr_ld {d e f : Nat → Int32} {N s : Nat} (h : agr N d e) : ∀ i, agr N (ldM d f s i) (ldM e f s i)
  | 0 => h
  | i + 1 => agr_upd (agr_ld h i) rfl
def JdP (v : SV) (s t : Nat) : Prop := ¬ ((∃ j : Nat, j < 12 ∧ nI t = nI j) ∧ v.1 62 (40 * s + t) = v.1 54 (13 + t))
theorem jd_yes {v : SV} {s t : Nat} (ht : t < 40) (h : 12 ≤ t ∨ ¬ v.1 62 (40 * s + t) = v.1 54 (13 + t)) : JdP v s t := by
  rintro ⟨⟨j, hj, e⟩, e2⟩
  rcases h with h | h
  · have := (nI_eq (by omega) (by omega)).mp e
    omega
  · exact h e2
theorem jd_no {v : SV} {s t : Nat} (ht : t < 12) (h : v.1 62 (40 * s + t) = v.1 54 (13 + t)) : ¬ JdP v s t := fun q => q ⟨⟨t, ht, rfl⟩, h⟩
/-- told standings -/
def tolC (X f : Nat → Int32) (Z r : Nat) : Prop := ∀ t, t < Z → (f t = -1 ∨ f t = rowM (daysM X t) r 4)
theorem tol_iff {X e f h : Nat → Int32} {Z s r N : Nat} (hX : okC X N) (hA : agr N X e) (hr : r < N) (hf : ∀ i, i < 40 → f i = h (40 * s + i)) (hZ : Z ≤ 40) : tolC X f Z r ↔ toldP e h Z s r := by
  have q : ∀ t, t < Z → ((f t = -1 ∨ f t = rowM (daysM X t) r 4) ↔ okT e h s r t) := fun t ht => by
    unfold okT
    rw [hf t (by omega), agr_six (agr_days hA (okC_M hX) t) hr hX.1 4 (by decide)]
  exact ⟨fun z t ht => (q t ht).mp (z t ht), fun z t ht => (q t ht).mpr (z t ht)⟩
theorem ft_1 {d f : Nat → Int32} {Z s r i : Nat} (h : toldP (upd d (25 + 8 * 2 + r) (1 <<< (nI i &&& 31))) f Z s r) : ftM d f Z s r (i + 1) = ftM d f Z s r i ||| 1 <<< (nI i &&& 31) := by rw [ftM, cif_pos h]
theorem ft_0 {d f : Nat → Int32} {Z s r i : Nat} (h : ¬ toldP (upd d (25 + 8 * 2 + r) (1 <<< (nI i &&& 31))) f Z s r) : ftM d f Z s r (i + 1) = ftM d f Z s r i := by rw [ftM, cif_neg h, or0]
theorem ks_1 {d f : Nat → Int32} {Z s r i : Nat} (h : toldP (upd d (25 + 8 * 0 + r) (nI i)) f Z s r) : ksM d f Z s r (i + 1) = ksM d f Z s r i ||| 1 <<< (nI i &&& 31) := by rw [ksM, cif_pos h]
theorem ks_0 {d f : Nat → Int32} {Z s r i : Nat} (h : ¬ toldP (upd d (25 + 8 * 0 + r) (nI i)) f Z s r) : ksM d f Z s r (i + 1) = ksM d f Z s r i := by rw [ksM, cif_neg h, or0]
theorem one_sh : ∀ i, i < 12 → ∃ m, m < 4096 ∧ (1 : Int32) <<< (nI i &&& 31) = nI m := fun i hi => ⟨2 ^ i, Nat.lt_of_lt_of_le (Nat.pow_lt_pow_right (by decide) hi) (by decide), (by decide +kernel : ∀ i : Fin 12, (1 : Int32) <<< (nI i.val &&& 31) = nI (2 ^ i.val)) ⟨i, hi⟩⟩
theorem sz_pred : ∀ Z, Z ≤ 40 → (nI Z - 1).toInt = (Z : Int) - 1 := fun Z hZ => (by decide +kernel : ∀ Z : Fin 41, (nI Z.val - 1).toInt = (Z.val : Int) - 1) ⟨Z, by omega⟩
theorem in_sz {Z : Nat} {y : Int32} (hZ : Z ≤ 40) : (0 ≤ y ∧ y ≤ nI Z - 1) ↔ ∃ j : Nat, j < Z ∧ y = nI j := in_iffC Z (by omega) (sz_pred Z hZ)
theorem nat_of {x : Int32} (h : 0 ≤ x) : ∃ j : Nat, j < 2 ^ 31 ∧ x = nI j := by
  have h1 := x.toInt_lt
  rw [fa_le] at h
  have h0 : (0 : Int32).toInt = 0 := rfl
  refine ⟨x.toInt.toNat, by omega, ?_⟩
  rw [fa_eq, nI_toInt (by omega)]
  omega
theorem row_nat {Z : Nat} {x y : Int32} (hZ : Z ≤ 40) (h : rowP (nI Z) x y) : ∃ a b : Nat, a + b ≤ Z ∧ x = nI a ∧ y = nI b := by
  obtain ⟨h1, h2, h4⟩ := h
  obtain ⟨a, ha, rfl⟩ := nat_of h1
  obtain ⟨b, hb, rfl⟩ := nat_of h2
  have e : (nI Z - nI a).toInt = (Z : Int) - a := by
    rw [Int32.toInt_sub, nI_toInt (by omega), nI_toInt (by omega)]
    exact Int.bmod_eq_of_le (by omega) (by omega)
  rw [fa_le, e, nI_toInt (by omega)] at h4
  exact ⟨a, b, by omega, rfl, rfl⟩
theorem row_of {Z a b : Nat} (hZ : Z ≤ 40) (h : a + b ≤ Z) : rowP (nI Z) (nI a) (nI b) := by
  refine ⟨nI_pos' (by omega), nI_pos' (by omega), ?_⟩
  rw [fa_le, pk_sub_toInt (by omega) (by omega), nI_toInt (by omega)]
  omega
theorem cp_no {α : Type} {F X : α} {Zs Zt : Nat} {y a b : Int32} (hs : Zs ≤ 40) (ht : Zt ≤ 40) (h : ¬ (rowP (nI Zs) y b ∧ rowP (nI Zt) a b)) : (if y < 0 then F else if a < 0 then F else if b < 0 then F else if (nI Zs).toInt64 < y.toInt64 + b.toInt64 then F else if (nI Zt).toInt64 < a.toInt64 + b.toInt64 then F else X) = F := by
  by_cases h1 : y < 0
  · rw [if_pos h1]
  rw [if_neg h1]
  by_cases h2 : a < 0
  · rw [if_pos h2]
  rw [if_neg h2]
  by_cases h3 : b < 0
  · rw [if_pos h3]
  rw [if_neg h3]
  by_cases h4 : (nI Zs).toInt64 < y.toInt64 + b.toInt64
  · rw [if_pos h4]
  rw [if_neg h4]
  by_cases h5 : (nI Zt).toInt64 < a.toInt64 + b.toInt64
  · rw [if_pos h5]
  exfalso
  obtain ⟨yy, hy, rfl⟩ := nat_of (fa_nlt h1)
  obtain ⟨aa, ha, rfl⟩ := nat_of (fa_nlt h2)
  obtain ⟨bb, hb, rfl⟩ := nat_of (fa_nlt h3)
  exact h ⟨row_of hs (long_le h4 ⟨hy, hb, by omega⟩), row_of ht (long_le h5 ⟨ha, hb, by omega⟩)⟩
theorem cp_yes {α : Type} {F X : α} {Zs Zt y a b : Nat} (hs : Zs ≤ 40) (ht : Zt ≤ 40) (h1 : y + b ≤ Zs) (h2 : a + b ≤ Zt) : (if nI y < 0 then F else if nI a < 0 then F else if nI b < 0 then F else if (nI Zs).toInt64 < (nI y).toInt64 + (nI b).toInt64 then F else if (nI Zt).toInt64 < (nI a).toInt64 + (nI b).toInt64 then F else X) = X := by
  have n0 : ∀ j : Nat, j < 2 ^ 31 → ¬ nI j < 0 := fun j hj z => absurd (nI_pos' hj) (fa_lt_nle z)
  rw [if_neg (n0 y (by omega)), if_neg (n0 a (by omega)), if_neg (n0 b (by omega))]
  have q : ∀ (Z p q : Nat), Z ≤ 40 → p + q ≤ Z → ¬ (nI Z).toInt64 < (nI p).toInt64 + (nI q).toInt64 := fun Z p q hZ hp z => by
    rw [nI_l (by omega), nI_l (by omega), nI_l (by omega), lN_add, pk_lLT (by omega) (by omega)] at z
    omega
  rw [if_neg (q _ _ _ hs h1), if_neg (q _ _ _ ht h2)]
theorem psF_at (p f : Nat → Int32) (a : Nat) : ∀ (n j : Nat), psF p f a n j = if j < n then f (a + j) else p j
  | 0, j => by rw [if_neg (by omega)]; rfl
  | n + 1, j => by
    rw [psF]
    by_cases h : j = n
    · rw [h, pk_us, if_pos (by omega)]
    · rw [pk_un h, psF_at p f a n j]
      by_cases h2 : j < n
      · rw [if_pos h2, if_pos (by omega)]
      · rw [if_neg h2, if_neg (by omega)]
theorem cqF_at (f p : Nat → Int32) (a : Nat) : ∀ (n j : Nat), cqF f p a n j = if a ≤ j ∧ j < a + n then p (j - a) else f j
  | 0, j => by rw [if_neg (by omega)]; rfl
  | n + 1, j => by
    rw [cqF]
    by_cases h : j = a + n
    · rw [h, pk_us, if_pos (by omega), show a + n - a = n by omega]
    · rw [pk_un h, cqF_at f p a n j]
      by_cases h2 : a ≤ j ∧ j < a + n
      · rw [if_pos h2, if_pos (by omega)]
      · rw [if_neg h2, if_neg (by omega)]
theorem Rl_copy {v : SV} {N s t f o q : Nat} (h : Rl v N) (hs : s < 4) (ht : t < 4) (h1 : f + q ≤ 40) (h2 : o + q ≤ 40) : Rl (copyS (upw v (44 + 2 * t + 1) (va_cpy (v.1 (44 + 2 * s + 1)) (v.1 (44 + 2 * t + 1)) f o q)) s f t o q) N := by
  generalize hu : upw v (44 + 2 * t + 1) (va_cpy (v.1 (44 + 2 * s + 1)) (v.1 (44 + 2 * t + 1)) f o q) = u
  have e0 : ∀ c, c ≠ 44 + 2 * t + 1 → u.1 c = v.1 c := fun c hc => by rw [← hu, upw_ne _ _ hc]
  have e1 : u.1 (44 + 2 * t + 1) = va_cpy (v.1 (44 + 2 * s + 1)) (v.1 (44 + 2 * t + 1)) f o q := by rw [← hu, upw_same]
  generalize hz : copyS u s f t o q = z
  have z0 : ∀ c, c ≠ 62 → c ≠ 63 → z.1 c = u.1 c := fun c c1 c2 => by rw [← hz]; unfold copyS; rw [upw_ne _ _ c1, upw_ne _ _ c2]
  have z62 : z.1 62 = cqF (v.1 62) (psF (u.1 63) (v.1 62) (40 * s + f) q) (40 * t + o) q := by rw [← hz]; unfold copyS; rw [upw_same, e0 62 (by omega)]
  refine RL_sh h (fun c hc => by rw [z0 c (by omega) (by omega), e0 c (by omega)]) (fun j hj => ?_)
  obtain ⟨q1, q2, q3⟩ := h.2.2.2.1 j hj
  rw [z0 60 (by decide) (by decide), z0 61 (by decide) (by decide), z62, z0 (44 + 2 * j) (by omega) (by omega), z0 (44 + 2 * j + 1) (by omega) (by omega), e0 60 (by omega), e0 61 (by omega), e0 (44 + 2 * j) (by omega)]
  refine ⟨q1, q2, fun i hi => ?_⟩
  rw [cqF_at]
  by_cases e : j = t
  · subst e
    rw [e1]
    by_cases e2 : o ≤ i ∧ i < o + q
    · rw [pk_cpy_in e2.1 e2.2, if_pos (by omega), psF_at, if_pos (by omega), (h.2.2.2.1 s hs).2.2 (f + (i - o)) (by omega)]
      rw [show 40 * s + f + (40 * j + i - (40 * j + o)) = 40 * s + (f + (i - o)) by omega]
    · rw [pk_cpy_out (by omega), if_neg (by omega)]; exact q3 i hi
  · rw [e0 _ (by omega), if_neg (by omega)]; exact q3 i hi
theorem mk_1 (v : SV) (k : Nat) (x y : Int32) : (mkS v k x y).1 k 1 = if x = 0 then 0 else y := by
  unfold mkS
  rw [upw_ne _ _ (by omega), upw_same, pk_us]
