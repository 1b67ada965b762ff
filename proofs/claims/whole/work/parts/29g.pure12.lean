/-! the reader's state: the token at c, the fault, the row -/
def psB (w : SV) (fa : Int32) (d : Nat → Int32) : SV := upw (up w 53 12 fa) 54 d
noncomputable def psS (w : SV) (T c : Nat) (fa : Int32) (d : Nat → Int32) : SV := tokOf (psB w fa d) (bB w T) T c
theorem tok_tok (v : SV) (a so f a2 so2 f2 : Int32) (x x2 : Int64) : tokV (tokV v a so f x) a2 so2 f2 x2 = tokV v a2 so2 f2 x2 := by
  have e : tokR ((tokV v a so f x).1 53) a2 so2 f2 = tokR (v.1 53) a2 so2 f2 := by
    rw [tok_53]
    funext j
    simp only [tokR]
    by_cases h8 : j = 8
    · rw [if_pos h8, if_pos h8]
    · by_cases h9 : j = 9
      · subst h9; rfl
      · by_cases h10 : j = 10
        · subst h10; rfl
        · simp only [if_neg h8, if_neg h9, if_neg h10]
  show (va_up (tokV v a so f x).1 53 (tokR ((tokV v a so f x).1 53) a2 so2 f2), x2) = _
  rw [e]
  unfold tokV
  rw [bx_uu]
theorem tok_up12 (v : SV) (a so f : Int32) (x : Int64) (y : Int32) : up (tokV v a so f x) 53 12 y = tokV (up v 53 12 y) a so f x := by
  rw [up, tok_row, tok_53]
  have e : upd (tokR (v.1 53) a so f) 12 y = tokR ((up v 53 12 y).1 53) a so f := by
    rw [upw_same]
    funext j
    simp only [upd, tokR]
    by_cases h : j = 12
    · subst h; rfl
    · rw [if_neg h]
      by_cases h8 : j = 8
      · rw [if_pos h8, if_pos h8]
      · rw [if_neg h8, if_neg h8]
        by_cases h9 : j = 9
        · rw [if_pos h9, if_pos h9]
        · rw [if_neg h9, if_neg h9]
          by_cases h10 : j = 10
          · rw [if_pos h10, if_pos h10]
          · rw [if_neg h10, if_neg h10, if_neg h]
  rw [e]
  show _ = (va_up (upw v 53 (upd (v.1 53) 12 y)).1 53 _, x)
  unfold upw
  rw [bx_uu]
theorem up_swap {α : Type} (f : Nat → α) {i j : Nat} (h : i ≠ j) (a b : α) : va_up (va_up f i a) j b = va_up (va_up f j b) i a := by
  funext k
  simp only [va_up]
  by_cases h1 : k = j
  · by_cases h2 : k = i
    · exact absurd (h2.symm.trans h1) h
    · rw [if_pos h1, if_neg h2, if_pos h1]
  · by_cases h2 : k = i
    · rw [if_neg h1, if_pos h2, if_pos h2]
    · rw [if_neg h1, if_neg h2, if_neg h2, if_neg h1]
theorem tok_w54 (v : SV) (a so f : Int32) (x : Int64) (r : Nat → Int32) : upw (tokV v a so f x) 54 r = tokV (upw v 54 r) a so f x := by
  unfold tokV
  rw [upw_ne v r (show 53 ≠ 54 by decide)]
  unfold upw
  rw [up_swap _ (by decide)]
theorem psB_12 (w : SV) (fa y : Int32) (d : Nat → Int32) : up (psB w fa d) 53 12 y = psB w y d := by
  unfold psB
  have e1 : up (upw (up w 53 12 fa) 54 d) 53 12 y = upw (up (up w 53 12 fa) 53 12 y) 54 d := by
    show upw (upw (up w 53 12 fa) 54 d) 53 (upd ((upw (up w 53 12 fa) 54 d).1 53) 12 y) = _
    rw [upw_ne _ d (show 53 ≠ 54 by decide)]
    unfold upw
    rw [up_swap _ (by decide)]
    rfl
  rw [e1]
  congr 1
  show upw (upw w 53 (upd (w.1 53) 12 fa)) 53 (upd ((upw w 53 (upd (w.1 53) 12 fa)).1 53) 12 y) = _
  rw [upw_upw, upw_same]
  congr 1
  funext j
  simp only [upd]
  by_cases h : j = 12
  · rw [if_pos h, if_pos h]
  · rw [if_neg h, if_neg h, if_neg h]
theorem psB_54 (w : SV) (fa : Int32) (d r : Nat → Int32) : upw (psB w fa d) 54 r = psB w fa r := by
  unfold psB
  rw [upw_upw]
theorem ps_12 (w : SV) (T c : Nat) (fa y : Int32) (d : Nat → Int32) : up (psS w T c fa d) 53 12 y = psS w T c y d := by
  unfold psS tokOf
  rw [tok_up12, psB_12]
theorem ps_w54 (w : SV) (T c : Nat) (fa : Int32) (d r : Nat → Int32) : upw (psS w T c fa d) 54 r = psS w T c fa r := by
  unfold psS tokOf
  rw [tok_w54, psB_54]
theorem ps_d (w : SV) (T c : Nat) (fa : Int32) (d : Nat → Int32) : (psS w T c fa d).1 54 = d := rfl
theorem ps_54 (w : SV) (T c : Nat) (fa : Int32) (d : Nat → Int32) (j : Nat) (y : Int32) : up (psS w T c fa d) 54 j y = psS w T c fa (upd d j y) := by
  show upw (psS w T c fa d) 54 (upd ((psS w T c fa d).1 54) j y) = _
  rw [ps_w54]
  rfl
noncomputable def nx (B : Nat → Int32) (T c : Nat) : Nat := skp B T (tkE B T c)
theorem lk_le {P : Nat → Prop} : ∀ (k i : Nat), lk P k i ≤ i + k
  | 0, i => Nat.le_refl i
  | k + 1, i => by
    rw [lk]
    by_cases h : P i
    · rw [cif_pos h]; omega
    · rw [cif_neg h]; have := lk_le (P := P) k (i + 1); omega
theorem lk_end {P : Nat → Prop} {T a : Nat} (h : a ≤ T) : lk P (T - a) a ≤ T := by
  have := lk_le (P := P) (T - a) a
  omega
theorem tkE_le {B : Nat → Int32} {T c : Nat} (h : c ≤ T) : tkE B T c ≤ T := by
  unfold tkE
  split
  · exact h
  · split
    · omega
    · split
      · split
        · exact lk_end h
        · exact h
      · exact lk_end h
theorem nx_le' {B : Nat → Int32} {T c : Nat} (h : c ≤ T) : nx B T c ≤ T := lk_end (tkE_le h)
theorem lk_cap {P : Nat → Prop} {T a : Nat} : lk P (T - a) a ≤ T ∨ T < a := by
  by_cases h : a ≤ T
  · exact Or.inl (lk_end h)
  · exact Or.inr (by omega)
theorem ps_bB (w : SV) (T c : Nat) (fa : Int32) (d : Nat → Int32) : bB (psS w T c fa d) T = bB w T := rfl
theorem ps_next (w : SV) (T c : Nat) (fa : Int32) (d : Nat → Int32) : nextT (psS w T c fa d) T (tkE (bB w T) T c) = psS w T (nx (bB w T) T c) fa d := by
  unfold nextT
  rw [ps_bB]
  unfold psS tokOf
  rw [tok_tok]
  rfl
def wrF (fa : Int32) (c : Nat) : Int32 := if 0 ≤ fa then fa else nI c
abbrev wdP (B : Nat → Int32) (T c : Nat) (y : Int64) : Prop := tkK B T c = 1 ∧ tkX B T c = y
noncomputable def kindT (B : Nat → Int32) (T c : Nat) : Int32 := cif (wdP B T c 190500955076) 0 (cif (wdP B T c 256855) 1 (cif (wdP B T c 1888) 2 (cif (wdP B T c 70400) 3 (cif (wdP B T c 12403634) 4 (cif (wdP B T c 82410) 5 (cif (wdP B T c 8779) 6 (-1)))))))
abbrev nhP (B : Nat → Int32) (T c : Nat) (y : Int32) : Prop := tkK B T c = 2 ∧ tkX B T c ≤ y.toInt64
noncomputable def nhV (B : Nat → Int32) (T c : Nat) (y : Int32) : Int32 := cif (nhP B T c y) (tkX B T c).toInt32 0
abbrev PQ : Type := Nat × Int32 × (Nat → Int32)
noncomputable abbrev psQ (w : SV) (T : Nat) (q : PQ) : SV := psS w T q.1 q.2.1 q.2.2
noncomputable def nhQ (B : Nat → Int32) (T : Nat) (q : PQ) (y : Int32) : PQ := cif (nhP B T q.1 y) (nx B T q.1, q.2.1, q.2.2) (q.1, wrF q.2.1 q.1, q.2.2)
theorem nhQ_le {B : Nat → Int32} {T c : Nat} {fa y : Int32} {d : Nat → Int32} (h : c ≤ T) : (nhQ B T (c, fa, d) y).1 ≤ T := by
  unfold nhQ
  by_cases h1 : nhP B T c y
  · rw [cif_pos h1]; exact nx_le' h
  · rw [cif_neg h1]; exact h
noncomputable def phF (B : Nat → Int32) (T : Nat) (q : PQ) (y : Int64) (j : Nat) (z : Int32) : PQ := if 0 ≤ q.2.1 then q else cif (wdP B T q.1 y) (if 0 ≤ (nhQ B T (nx B T q.1, q.2.1, q.2.2) z).2.1 then nhQ B T (nx B T q.1, q.2.1, q.2.2) z else ((nhQ B T (nx B T q.1, q.2.1, q.2.2) z).1, (nhQ B T (nx B T q.1, q.2.1, q.2.2) z).2.1, upd (nhQ B T (nx B T q.1, q.2.1, q.2.2) z).2.2 j (nhV B T (nx B T q.1) z))) q
theorem phF_le {B : Nat → Int32} {T c : Nat} {fa z : Int32} {d : Nat → Int32} {y : Int64} {j : Nat} (h : c ≤ T) : (phF B T (c, fa, d) y j z).1 ≤ T := by
  unfold phF
  split
  · exact h
  · by_cases h1 : wdP B T c y
    · rw [cif_pos h1]
      split
      · exact nhQ_le (nx_le' h)
      · exact nhQ_le (nx_le' h)
    · rw [cif_neg h1]; exact h
noncomputable def crF (B : Nat → Int32) (T : Nat) (q : PQ) : PQ := phF B T (phF B T (if 0 ≤ (nhQ B T (nx B T q.1, q.2.1, q.2.2) 15).2.1 then nhQ B T (nx B T q.1, q.2.1, q.2.2) 15 else ((nhQ B T (nx B T q.1, q.2.1, q.2.2) 15).1, (nhQ B T (nx B T q.1, q.2.1, q.2.2) 15).2.1, upd (nhQ B T (nx B T q.1, q.2.1, q.2.2) 15).2.2 3 (nhV B T (nx B T q.1) 15))) 315743 4 5) 247702 5 9
theorem phF_le' {B : Nat → Int32} {T : Nat} {q : PQ} {z : Int32} {y : Int64} {j : Nat} (h : q.1 ≤ T) : (phF B T q y j z).1 ≤ T := phF_le (c := q.1) (fa := q.2.1) (d := q.2.2) h
theorem crF_le {B : Nat → Int32} {T c : Nat} {fa : Int32} {d : Nat → Int32} (h : c ≤ T) : (crF B T (c, fa, d)).1 ≤ T := by
  unfold crF
  refine phF_le' (phF_le' ?_)
  split
  · exact nhQ_le (nx_le' h)
  · exact nhQ_le (nx_le' h)
noncomputable def cyF (B : Nat → Int32) (T : Nat) (q : PQ) : PQ := if 0 ≤ (nhQ B T (nx B T q.1, q.2.1, q.2.2) 5).2.1 then nhQ B T (nx B T q.1, q.2.1, q.2.2) 5 else (if 0 ≤ (nhQ B T ((nhQ B T (nx B T q.1, q.2.1, q.2.2) 5).1, (nhQ B T (nx B T q.1, q.2.1, q.2.2) 5).2.1, (nhQ B T (nx B T q.1, q.2.1, q.2.2) 5).2.2) 11).2.1 then nhQ B T ((nhQ B T (nx B T q.1, q.2.1, q.2.2) 5).1, (nhQ B T (nx B T q.1, q.2.1, q.2.2) 5).2.1, (nhQ B T (nx B T q.1, q.2.1, q.2.2) 5).2.2) 11 else ((nhQ B T ((nhQ B T (nx B T q.1, q.2.1, q.2.2) 5).1, (nhQ B T (nx B T q.1, q.2.1, q.2.2) 5).2.1, (nhQ B T (nx B T q.1, q.2.1, q.2.2) 5).2.2) 11).1, (nhQ B T ((nhQ B T (nx B T q.1, q.2.1, q.2.2) 5).1, (nhQ B T (nx B T q.1, q.2.1, q.2.2) 5).2.1, (nhQ B T (nx B T q.1, q.2.1, q.2.2) 5).2.2) 11).2.1, upd (nhQ B T ((nhQ B T (nx B T q.1, q.2.1, q.2.2) 5).1, (nhQ B T (nx B T q.1, q.2.1, q.2.2) 5).2.1, (nhQ B T (nx B T q.1, q.2.1, q.2.2) 5).2.2) 11).2.2 (7 + (nhV B T (nx B T q.1) 5).toNatClampNeg) (nhV B T (nhQ B T (nx B T q.1, q.2.1, q.2.2) 5).1 11)))
theorem cyF_le {B : Nat → Int32} {T c : Nat} {fa : Int32} {d : Nat → Int32} (h : c ≤ T) : (cyF B T (c, fa, d)).1 ≤ T := by
  unfold cyF
  split
  · exact nhQ_le (nx_le' h)
  · split
    · exact nhQ_le (nhQ_le (nx_le' h))
    · exact nhQ_le (nhQ_le (nx_le' h))
theorem dig_nat {b : Int32} (h : dgP b) : ∃ m : Nat, m ≤ 9 ∧ b = nI (m + 48) := by
  obtain ⟨h1, h2⟩ := h
  rw [fa_le] at h1 h2
  rw [show (48 : Int32).toInt = 48 from rfl] at h1
  rw [show (57 : Int32).toInt = 57 from rfl] at h2
  refine ⟨b.toInt.toNat - 48, by omega, ?_⟩
  rw [fa_eq, nI_toInt (by omega)]
  omega
theorem numV_nat {B : Nat → Int32} {a : Nat} : ∀ q, (∀ t, t < q → dgP (B (a + t))) → ∃ m : Nat, m ≤ 99999 ∧ numV B a q = lN m
  | 0, _ => ⟨0, by omega, rfl⟩
  | q + 1, h => by
    obtain ⟨m, hm, e⟩ := numV_nat q (fun t ht => h t (by omega))
    obtain ⟨k, hk, e2⟩ := dig_nat (h q (by omega))
    by_cases h1 : numV B a q ≤ 9999
    · rw [numV_a h1, e, e2]
      rw [e, show (9999 : Int64) = lN 9999 from rfl, pk_lLE (by omega) (by omega)] at h1
      refine ⟨m * 10 + k, by omega, ?_⟩
      rw [show (10 : Int64) = lN 10 from rfl, lN_mul, nI_l (by omega), lN_add, show (48 : Int64) = lN 48 from rfl, lN_sub (by omega)]
      congr 1
    · rw [numV_b h1]; exact ⟨m, hm, e⟩
theorem lk_all {P : Nat → Prop} : ∀ (k i t : Nat), i ≤ t → t < lk P k i → ¬ P t
  | 0, i, t, h1, h2 => absurd h2 (by show ¬ t < i; omega)
  | k + 1, i, t, h1, h2 => by
    rw [lk] at h2
    by_cases h : P i
    · rw [cif_pos h] at h2; omega
    · rw [cif_neg h] at h2
      by_cases e : t = i
      · rw [e]; exact h
      · exact lk_all k (i + 1) t (by omega) h2
theorem lk_ge {P : Nat → Prop} : ∀ (k i : Nat), i ≤ lk P k i
  | 0, i => Nat.le_refl i
  | k + 1, i => by
    rw [lk]
    by_cases h : P i
    · rw [cif_pos h]; exact Nat.le_refl i
    · rw [cif_neg h]; have := lk_ge (P := P) k (i + 1); omega
theorem tkX_nat {B : Nat → Int32} {T c : Nat} (h : tkK B T c = 2) : ∃ m : Nat, m ≤ 99999 ∧ tkX B T c = lN m := by
  unfold tkK at h
  by_cases h0 : c = T
  · rw [if_pos h0] at h; exact absurd h (by decide)
  · rw [if_neg h0] at h
    by_cases h1 : B c = 59
    · rw [if_pos h1] at h; exact absurd h (by decide)
    · rw [if_neg h1] at h
      by_cases h2 : letF (B c) ≤ 0
      · rw [if_pos h2] at h
        by_cases h3 : dgP (B c)
        · unfold tkX
          rw [if_neg h0, if_neg h1, if_pos h2, if_pos h3]
          refine numV_nat _ (fun t ht => ?_)
          have h4 := lk_all (P := fun j => ¬ dgP (B j)) (T - c) c (c + t) (by omega) (by unfold nmE at ht; omega)
          exact Classical.byContradiction h4
        · rw [if_neg h3] at h; exact absurd h (by decide)
      · rw [if_neg h2] at h; exact absurd h (by decide)
theorem nhP_nat {B : Nat → Int32} {T c m : Nat} {y : Int32} (hy : y = nI m) (hm : m ≤ 9999) (h : nhP B T c y) : ∃ t : Nat, t ≤ m ∧ nhV B T c y = nI t := by
  obtain ⟨k, hk, e⟩ := tkX_nat h.1
  have h2 := h.2
  rw [e, hy, nI_l (by omega), pk_lLE (by omega) (by omega)] at h2
  refine ⟨k, h2, ?_⟩
  rw [nhV, cif_pos h, e, lN_i]
theorem nh_nat {B : Nat → Int32} {T c m : Nat} {fa y : Int32} {d : Nat → Int32} (hy : y = nI m) (h : ¬ 0 ≤ (nhQ B T (c, fa, d) y).2.1) (hc : c < 2 ^ 31) (hm : m ≤ 9999) : ∃ t : Nat, t ≤ m ∧ nhV B T c y = nI t := by
  unfold nhQ at h
  by_cases h1 : nhP B T c y
  · exact nhP_nat hy hm h1
  · rw [cif_neg h1] at h
    refine absurd ?_ h
    show 0 ≤ wrF fa c
    unfold wrF
    by_cases h2 : 0 ≤ fa
    · rw [if_pos h2]; exact h2
    · rw [if_neg h2]; exact nI_pos' hc
theorem nI_clampM {d : Nat → Int32} {N : Nat} (h : okM d N) : (d 0).toNatClampNeg = N := by rw [h.2.1, nI_clamp (by have := h.1; omega)]
noncomputable def reT (B : Nat → Int32) (T N : Nat) (q : PQ) : PQ := if 0 ≤ q.2.1 then q else cif (wdP B T q.1 36502) (nx B T q.1, q.2.1, upd q.2.2 (25 + 8 * 5 + N) 1) q
noncomputable def reF (B : Nat → Int32) (T : Nat) (q : PQ) (y : Int32) : PQ := if (q.2.2 0).toNatClampNeg = 8 then (q.1, wrF q.2.1 q.1, q.2.2) else reT B T (q.2.2 0).toNatClampNeg (phF B T (phF B T (phF B T (nx B T q.1, q.2.1, comesM q.2.2 (q.2.2 0).toNatClampNeg y 0) 47 (33 + (q.2.2 0).toNatClampNeg) 15) 12253591 (41 + (q.2.2 0).toNatClampNeg) 4095) 168836 (49 + (q.2.2 0).toNatClampNeg) 99)
theorem reT_le {B : Nat → Int32} {T N : Nat} {q : PQ} (h : q.1 ≤ T) : (reT B T N q).1 ≤ T := by
  unfold reT
  split
  · exact h
  · by_cases h1 : wdP B T q.1 36502
    · rw [cif_pos h1]; exact nx_le' h
    · rw [cif_neg h1]; exact h
theorem reF_le {B : Nat → Int32} {T c : Nat} {fa y : Int32} {d : Nat → Int32} (h : c ≤ T) : (reF B T (c, fa, d) y).1 ≤ T := by
  unfold reF
  split
  · exact h
  · exact reT_le (phF_le' (phF_le' (phF_le' (nx_le' h))))
