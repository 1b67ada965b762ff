/-! the items of a text -/
noncomputable def itF (B : Nat → Int32) (T : Nat) (q : PQ) : PQ := if kindT B T q.1 < 0 then cif (wdP B T q.1 1955331) (crF B T q) (cif (wdP B T q.1 2698) (cyF B T q) (q.1, wrF q.2.1 q.1, q.2.2)) else reF B T q (kindT B T q.1)
theorem itF_le {B : Nat → Int32} {T c : Nat} {fa : Int32} {d : Nat → Int32} (h : c ≤ T) : (itF B T (c, fa, d)).1 ≤ T := by
  unfold itF
  split
  · by_cases h1 : wdP B T c 1955331
    · rw [cif_pos h1]; exact crF_le h
    · rw [cif_neg h1]
      by_cases h2 : wdP B T c 2698
      · rw [cif_pos h2]; exact cyF_le h
      · rw [cif_neg h2]; exact h
  · exact reF_le h
theorem itF_le' {B : Nat → Int32} {T : Nat} {q : PQ} (h : q.1 ≤ T) : (itF B T q).1 ≤ T := itF_le (c := q.1) (fa := q.2.1) (d := q.2.2) h
theorem tkE_ge {B : Nat → Int32} {T c : Nat} : c ≤ tkE B T c := by
  unfold tkE
  split
  · exact Nat.le_refl c
  · split
    · omega
    · split
      · split
        · exact lk_ge _ _
        · exact Nat.le_refl c
      · exact lk_ge _ _
theorem nx_ge {B : Nat → Int32} {T c : Nat} : c ≤ nx B T c := Nat.le_trans tkE_ge (lk_ge _ _)
theorem nx_gt {B : Nat → Int32} {T c : Nat} (h : tkK B T c = 3) : c + 1 ≤ nx B T c := by
  have e : tkE B T c = c + 1 := by
    unfold tkK at h
    unfold tkE
    by_cases h0 : c = T
    · rw [if_pos h0] at h; exact absurd h (by decide)
    · rw [if_neg h0] at h ⊢
      by_cases h1 : B c = 59
      · rw [if_pos h1]
      · rw [if_neg h1] at h
        split at h
        · split at h
          · exact absurd h (by decide)
          · exact absurd h (by decide)
        · exact absurd h (by decide)
  have := lk_ge (P := fun j => ¬ B j = 32) (T - tkE B T c) (tkE B T c)
  unfold nx skp
  omega
theorem nhQ_ge {B : Nat → Int32} {T a : Nat} {q : PQ} {y : Int32} (h : a ≤ q.1) : a ≤ (nhQ B T q y).1 := by
  unfold nhQ
  by_cases h1 : nhP B T q.1 y
  · rw [cif_pos h1]; exact Nat.le_trans h nx_ge
  · rw [cif_neg h1]; exact h
theorem phF_ge {B : Nat → Int32} {T a : Nat} {q : PQ} {z : Int32} {y : Int64} {j : Nat} (h : a ≤ q.1) : a ≤ (phF B T q y j z).1 := by
  unfold phF
  split
  · exact h
  · by_cases h1 : wdP B T q.1 y
    · rw [cif_pos h1]
      split
      · exact nhQ_ge (Nat.le_trans h nx_ge)
      · exact nhQ_ge (Nat.le_trans h nx_ge)
    · rw [cif_neg h1]; exact h
theorem crF_ge {B : Nat → Int32} {T a : Nat} {q : PQ} (h : a ≤ q.1) : a ≤ (crF B T q).1 := by
  unfold crF
  refine phF_ge (phF_ge ?_)
  split
  · exact nhQ_ge (Nat.le_trans h nx_ge)
  · exact nhQ_ge (Nat.le_trans h nx_ge)
theorem cyF_ge {B : Nat → Int32} {T a : Nat} {q : PQ} (h : a ≤ q.1) : a ≤ (cyF B T q).1 := by
  unfold cyF
  split
  · exact nhQ_ge (Nat.le_trans h nx_ge)
  · split
    · exact nhQ_ge (nhQ_ge (Nat.le_trans h nx_ge))
    · exact nhQ_ge (nhQ_ge (Nat.le_trans h nx_ge))
theorem reT_ge {B : Nat → Int32} {T N a : Nat} {q : PQ} (h : a ≤ q.1) : a ≤ (reT B T N q).1 := by
  unfold reT
  split
  · exact h
  · by_cases h1 : wdP B T q.1 36502
    · rw [cif_pos h1]; exact Nat.le_trans h nx_ge
    · rw [cif_neg h1]; exact h
theorem reF_ge {B : Nat → Int32} {T a : Nat} {q : PQ} {y : Int32} (h : a ≤ q.1) : a ≤ (reF B T q y).1 := by
  unfold reF
  split
  · exact h
  · exact reT_ge (phF_ge (phF_ge (phF_ge (Nat.le_trans h nx_ge))))
theorem itF_ge {B : Nat → Int32} {T a : Nat} {q : PQ} (h : a ≤ q.1) : a ≤ (itF B T q).1 := by
  unfold itF
  split
  · by_cases h1 : wdP B T q.1 1955331
    · rw [cif_pos h1]; exact crF_ge h
    · rw [cif_neg h1]
      by_cases h2 : wdP B T q.1 2698
      · rw [cif_pos h2]; exact cyF_ge h
      · rw [cif_neg h2]; exact h
  · exact reF_ge h
abbrev okE (d : Nat → Int32) : Prop := ∃ N, okM d N
theorem okE_at {d : Nat → Int32} {k : Nat} {x : Int32} (h : okE d) (hk : 2 ≤ k) (hk2 : k < 7 ∨ 13 ≤ k) : okE (upd d k x) := ⟨h.choose, okM_at h.choose_spec hk hk2⟩
theorem nhQ_d {B : Nat → Int32} {T : Nat} {q : PQ} {y : Int32} : (nhQ B T q y).2.2 = q.2.2 := by
  unfold nhQ
  by_cases h1 : nhP B T q.1 y
  · rw [cif_pos h1]
  · rw [cif_neg h1]
theorem phF_ok {B : Nat → Int32} {T : Nat} {q : PQ} {z : Int32} {y : Int64} {j : Nat} (h : okE q.2.2) (hk : 2 ≤ j) (hk2 : j < 7 ∨ 13 ≤ j) : okE (phF B T q y j z).2.2 := by
  unfold phF
  split
  · exact h
  · by_cases h1 : wdP B T q.1 y
    · rw [cif_pos h1]
      split
      · rw [nhQ_d]; exact h
      · show okE (upd (nhQ B T (nx B T q.1, q.2.1, q.2.2) z).2.2 j _)
        rw [nhQ_d]; exact okE_at h hk hk2
    · rw [cif_neg h1]; exact h
theorem crF_ok {B : Nat → Int32} {T : Nat} {q : PQ} (h : okE q.2.2) : okE (crF B T q).2.2 := by
  unfold crF
  refine phF_ok (phF_ok ?_ (by decide) (Or.inl (by decide))) (by decide) (Or.inl (by decide))
  split
  · rw [nhQ_d]; exact h
  · show okE (upd (nhQ B T (nx B T q.1, q.2.1, q.2.2) 15).2.2 3 _)
    rw [nhQ_d]; exact okE_at h (by decide) (Or.inl (by decide))
theorem cyF_ok {B : Nat → Int32} {T : Nat} {q : PQ} (h : okE q.2.2) (hc : q.1 ≤ T) (hT : T ≤ 120) : okE (cyF B T q).2.2 := by
  have h0 : nx B T q.1 ≤ T := nx_le' hc
  unfold cyF
  split
  · rw [nhQ_d]; exact h
  · rename_i h1
    split
    · rw [nhQ_d]
      show okE (nhQ B T (nx B T q.1, q.2.1, q.2.2) 5).2.2
      rw [nhQ_d]; exact h
    · rename_i h2
      obtain ⟨t, ht, e⟩ := nh_nat (m := 5) (y := 5) rfl h1 (by omega) (by decide)
      obtain ⟨u, hu, e2⟩ := nh_nat (m := 11) (y := 11) rfl h2 (by have := nhQ_le (B := B) (y := 5) (fa := q.2.1) (d := q.2.2) h0; omega) (by decide)
      show okE (upd (nhQ B T ((nhQ B T (nx B T q.1, q.2.1, q.2.2) 5).1, (nhQ B T (nx B T q.1, q.2.1, q.2.2) 5).2.1, (nhQ B T (nx B T q.1, q.2.1, q.2.2) 5).2.2) 11).2.2 _ _)
      rw [nhQ_d]
      show okE (upd (nhQ B T (nx B T q.1, q.2.1, q.2.2) 5).2.2 _ _)
      rw [nhQ_d, e, e2, tn_nI (show t < 2 ^ 31 by omega)]
      exact ⟨h.choose, okM_list h.choose_spec (by omega) (by omega)⟩
theorem okM_up0 {d : Nat → Int32} {N M : Nat} (h : okM d N) (hM : M ≤ 8) : okM (upd d 0 (nI M)) M := by
  obtain ⟨a, b, ⟨D, c1, c2⟩, e1⟩ := h
  refine ⟨hM, ?_, ⟨D, c1, ?_⟩, fun j hj => ?_⟩
  · exact if_pos rfl
  · simp only [upd]; rw [if_neg (by omega)]; exact c2
  · simp only [upd]; rw [if_neg (by omega)]; exact e1 j hj
theorem okM_zr {d : Nat → Int32} {N : Nat} (h : okM d N) : ∀ i, okM (zrM d N i) N
  | 0 => h
  | i + 1 => okM_at (okM_zr h i) (by omega) (Or.inr (by omega))
theorem okM_comes {d : Nat → Int32} {N : Nat} {x y : Int32} (h : okM d N) (h7 : N < 8) : okM (comesM d N x y) (N + 1) :=
  okM_up0 (okM_at (okM_at (okM_at (okM_zr h 6) (by omega) (Or.inr (by omega))) (by omega) (Or.inr (by omega))) (by omega) (Or.inr (by omega))) (by omega)
theorem reT_ok {B : Nat → Int32} {T N : Nat} {q : PQ} (h : okE q.2.2) : okE (reT B T N q).2.2 := by
  unfold reT
  split
  · exact h
  · by_cases h1 : wdP B T q.1 36502
    · rw [cif_pos h1]; exact okE_at h (by omega) (Or.inr (by omega))
    · rw [cif_neg h1]; exact h
theorem reF_ok {B : Nat → Int32} {T : Nat} {q : PQ} {y : Int32} (h : okE q.2.2) : okE (reF B T q y).2.2 := by
  obtain ⟨N, h⟩ := h
  have h8 := h.1
  unfold reF
  rw [nI_clampM h]
  split
  · exact ⟨N, h⟩
  · rename_i h1
    exact reT_ok (phF_ok (phF_ok (phF_ok ⟨N + 1, okM_comes h (by omega)⟩ (by omega) (Or.inr (by omega))) (by omega) (Or.inr (by omega))) (by omega) (Or.inr (by omega)))
theorem itF_ok {B : Nat → Int32} {T : Nat} {q : PQ} (h : okE q.2.2) (hc : q.1 ≤ T) (hT : T ≤ 120) : okE (itF B T q).2.2 := by
  unfold itF
  split
  · by_cases h1 : wdP B T q.1 1955331
    · rw [cif_pos h1]; exact crF_ok h
    · rw [cif_neg h1]
      by_cases h2 : wdP B T q.1 2698
      · rw [cif_pos h2]; exact cyF_ok h hc hT
      · rw [cif_neg h2]; exact h
  · exact reF_ok h
noncomputable def itS (B : Nat → Int32) (T : Nat) (d : Nat → Int32) : Nat → PQ
  | 0 => itF B T (skp B T 0, -1, d)
  | i + 1 => itF B T (nx B T (itS B T d i).1, (itS B T d i).2.1, (itS B T d i).2.2)
abbrev itC (B : Nat → Int32) (T : Nat) (q : PQ) : Prop := q.2.1 < 0 ∧ tkK B T q.1 = 3
noncomputable def itL (B : Nat → Int32) (T : Nat) (d : Nat → Int32) : Nat := lk (fun i => ¬ itC B T (itS B T d i)) (T + 1) 0
noncomputable def itE (B : Nat → Int32) (T : Nat) (q : PQ) : PQ := if 0 ≤ q.2.1 then q else if tkK B T q.1 = 0 then q else (q.1, wrF q.2.1 q.1, q.2.2)
noncomputable def itQ (B : Nat → Int32) (T : Nat) (d : Nat → Int32) : PQ := itE B T (itS B T d (itL B T d))
theorem itS_le {B : Nat → Int32} {T : Nat} {d : Nat → Int32} : ∀ i, (itS B T d i).1 ≤ T
  | 0 => itF_le (lk_end (Nat.zero_le _))
  | i + 1 => itF_le (nx_le' (itS_le i))
theorem itS_ok {B : Nat → Int32} {T : Nat} {d : Nat → Int32} (h : okE d) (hT : T ≤ 120) : ∀ i, okE (itS B T d i).2.2
  | 0 => itF_ok (q := (skp B T 0, -1, d)) h (lk_end (Nat.zero_le _)) hT
  | i + 1 => itF_ok (q := (nx B T (itS B T d i).1, (itS B T d i).2.1, (itS B T d i).2.2)) (itS_ok h hT i) (nx_le' (itS_le i)) hT
theorem itS_ge {B : Nat → Int32} {T : Nat} {d : Nat → Int32} : ∀ i, (∀ t, t < i → itC B T (itS B T d t)) → i ≤ (itS B T d i).1
  | 0, _ => Nat.zero_le _
  | i + 1, h => by
    have h1 := itS_ge i (fun t ht => h t (by omega))
    have h2 := nx_gt (h i (by omega)).2
    exact itF_ge (q := (nx B T (itS B T d i).1, (itS B T d i).2.1, (itS B T d i).2.2)) (by show i + 1 ≤ nx B T (itS B T d i).1; omega)
theorem itL_eq {B : Nat → Int32} {T i : Nat} {d : Nat → Int32} (h : ∀ t, t < i → itC B T (itS B T d t)) (hn : ¬ itC B T (itS B T d i)) : itL B T d = i := by
  have h1 := itS_ge i h
  have h2 := itS_le (B := B) (T := T) (d := d) i
  exact lk_yes (T + 1) 0 i (Nat.zero_le i) (by omega) (fun j _ h3 h4 => h4 (h j h3)) hn
theorem tok_at0 (v : SV) (a so f : Int32) (x : Int64) (y z : Int32) : tokV (up (up v 53 8 y) 53 12 z) a so f x = tokV (up v 53 12 z) a so f x := by
  have e : tokR ((up (up v 53 8 y) 53 12 z).1 53) a so f = tokR ((up v 53 12 z).1 53) a so f := by
    rw [upw_same, upw_same, upw_same]
    funext j
    simp only [tokR, upd]
    by_cases h8 : j = 8
    · rw [if_pos h8, if_pos h8]
    · simp only [if_neg h8]
  unfold tokV
  rw [e]
  unfold up upw
  rw [bx_uu, bx_uu, bx_uu]
theorem ps_start (v : SV) (T : Nat) : nextT (up (up v 53 8 0) 53 12 (-1)) T 0 = psS v T (skp (bB v T) T 0) (-1) (v.1 54) := by
  show tokV (up (up v 53 8 0) 53 12 (-1)) _ _ _ _ = tokV (psB v (-1) (v.1 54)) _ _ _ _
  rw [tok_at0]
  unfold psB
  rw [show v.1 54 = (up v 53 12 (-1)).1 54 from rfl, upw_self]
  rfl
noncomputable def textV (v : SV) : SV := upw v 55 (cpyM (v.1 54) (v.1 55) 83)
noncomputable def textQ (v : SV) (T : Nat) : PQ := itQ (bB (textV v) T) T ((textV v).1 54)
noncomputable def textL (v : SV) (T : Nat) : Nat := itL (bB (textV v) T) T ((textV v).1 54)
noncomputable def textE (v : SV) (T : Nat) (q : PQ) : SV := up (psQ (textV v) T q) 53 7 0
noncomputable def textM (v : SV) : Int32 × SV :=
  if (textQ v (v.1 53 7).toNatClampNeg).2.1 < 0 then (nI (textL v (v.1 53 7).toNatClampNeg + 1), textE v (v.1 53 7).toNatClampNeg (textQ v (v.1 53 7).toNatClampNeg))
  else (-1 - (textQ v (v.1 53 7).toNatClampNeg).2.1, upw (textE v (v.1 53 7).toNatClampNeg (textQ v (v.1 53 7).toNatClampNeg)) 54 (cpyM ((textE v (v.1 53 7).toNatClampNeg (textQ v (v.1 53 7).toNatClampNeg)).1 55) ((textE v (v.1 53 7).toNatClampNeg (textQ v (v.1 53 7).toNatClampNeg)).1 54) 83))
