/-! the reader's state: the token at c, the fault, the row -/
def psB (w : SV) (fa : Int32) (d : Nat → Int32) : SV := upw (up w 53 12 fa) 54 d
noncomputable def psS (w : SV) (T c : Nat) (fa : Int32) (d : Nat → Int32) : SV := tokOf (psB w fa d) (bB w T) T c
theorem tok_tok (v : SV) (a so f a2 so2 f2 : Int32) (x x2 : Int64) : tokV (tokV v a so f x) a2 so2 f2 x2 = tokV v a2 so2 f2 x2 := by
  have e : tokR ((tokV v a so f x).1 53) a2 so2 f2 = tokR (v.1 53) a2 so2 f2 := by
    rw [tok_53]
    funext j
    simp only [tokR]
    by_cases h8 : j = 8
    · rw [if_pos h8, if_pos h8]
    · by_cases h9 : j = 9
      · subst h9; rfl
      · by_cases h10 : j = 10
        · subst h10; rfl
        · simp only [if_neg h8, if_neg h9, if_neg h10]
  show (va_up (tokV v a so f x).1 53 (tokR ((tokV v a so f x).1 53) a2 so2 f2), x2) = _
  rw [e]
  unfold tokV
  rw [bx_uu]
theorem tok_up12 (v : SV) (a so f : Int32) (x : Int64) (y : Int32) : up (tokV v a so f x) 53 12 y = tokV (up v 53 12 y) a so f x := by
  rw [up, tok_row, tok_53]
  have e : upd (tokR (v.1 53) a so f) 12 y = tokR ((up v 53 12 y).1 53) a so f := by
    rw [upw_same]
    funext j
    simp only [upd, tokR]
    by_cases h : j = 12
    · subst h; rfl
    · rw [if_neg h]
      by_cases h8 : j = 8
      · rw [if_pos h8, if_pos h8]
      · rw [if_neg h8, if_neg h8]
        by_cases h9 : j = 9
        · rw [if_pos h9, if_pos h9]
        · rw [if_neg h9, if_neg h9]
          by_cases h10 : j = 10
          · rw [if_pos h10, if_pos h10]
          · rw [if_neg h10, if_neg h10, if_neg h]
  rw [e]
  show _ = (va_up (upw v 53 (upd (v.1 53) 12 y)).1 53 _, x)
  unfold upw
  rw [bx_uu]
theorem up_swap {α : Type} (f : Nat → α) {i j : Nat} (h : i ≠ j) (a b : α) : va_up (va_up f i a) j b = va_up (va_up f j b) i a := by
  funext k
  simp only [va_up]
  by_cases h1 : k = j
  · by_cases h2 : k = i
    · exact absurd (h2.symm.trans h1) h
    · rw [if_pos h1, if_neg h2, if_pos h1]
  · by_cases h2 : k = i
    · rw [if_neg h1, if_pos h2, if_pos h2]
    · rw [if_neg h1, if_neg h2, if_neg h2, if_neg h1]
theorem tok_w54 (v : SV) (a so f : Int32) (x : Int64) (r : Nat → Int32) : upw (tokV v a so f x) 54 r = tokV (upw v 54 r) a so f x := by
  unfold tokV
  rw [upw_ne v r (show 53 ≠ 54 by decide)]
  unfold upw
  rw [up_swap _ (by decide)]
theorem psB_12 (w : SV) (fa y : Int32) (d : Nat → Int32) : up (psB w fa d) 53 12 y = psB w y d := by
  unfold psB
  have e1 : up (upw (up w 53 12 fa) 54 d) 53 12 y = upw (up (up w 53 12 fa) 53 12 y) 54 d := by
    show upw (upw (up w 53 12 fa) 54 d) 53 (upd ((upw (up w 53 12 fa) 54 d).1 53) 12 y) = _
    rw [upw_ne _ d (show 53 ≠ 54 by decide)]
    unfold upw
    rw [up_swap _ (by decide)]
    rfl
  rw [e1]
  congr 1
  show upw (upw w 53 (upd (w.1 53) 12 fa)) 53 (upd ((upw w 53 (upd (w.1 53) 12 fa)).1 53) 12 y) = _
  rw [upw_upw, upw_same]
  congr 1
  funext j
  simp only [upd]
  by_cases h : j = 12
  · rw [if_pos h, if_pos h]
  · rw [if_neg h, if_neg h, if_neg h]
theorem psB_54 (w : SV) (fa : Int32) (d r : Nat → Int32) : upw (psB w fa d) 54 r = psB w fa r := by
  unfold psB
  rw [upw_upw]
theorem ps_12 (w : SV) (T c : Nat) (fa y : Int32) (d : Nat → Int32) : up (psS w T c fa d) 53 12 y = psS w T c y d := by
  unfold psS tokOf
  rw [tok_up12, psB_12]
theorem ps_w54 (w : SV) (T c : Nat) (fa : Int32) (d r : Nat → Int32) : upw (psS w T c fa d) 54 r = psS w T c fa r := by
  unfold psS tokOf
  rw [tok_w54, psB_54]
theorem ps_d (w : SV) (T c : Nat) (fa : Int32) (d : Nat → Int32) : (psS w T c fa d).1 54 = d := rfl
theorem ps_54 (w : SV) (T c : Nat) (fa : Int32) (d : Nat → Int32) (j : Nat) (y : Int32) : up (psS w T c fa d) 54 j y = psS w T c fa (upd d j y) := by
  show upw (psS w T c fa d) 54 (upd ((psS w T c fa d).1 54) j y) = _
  rw [ps_w54]
  rfl
noncomputable def nx (B : Nat → Int32) (T c : Nat) : Nat := skp B T (tkE B T c)
theorem lk_le {P : Nat → Prop} : ∀ (k i : Nat), lk P k i ≤ i + k
  | 0, i => Nat.le_refl i
  | k + 1, i => by
    rw [lk]
    by_cases h : P i
    · rw [cif_pos h]; omega
    · rw [cif_neg h]; have := lk_le (P := P) k (i + 1); omega
theorem lk_end {P : Nat → Prop} {T a : Nat} (h : a ≤ T) : lk P (T - a) a ≤ T := by
  have := lk_le (P := P) (T - a) a
  omega
theorem tkE_le {B : Nat → Int32} {T c : Nat} (h : c ≤ T) : tkE B T c ≤ T := by
  unfold tkE
  split
  · exact h
  · split
    · omega
    · split
      · split
        · exact lk_end h
        · exact h
      · exact lk_end h
theorem nx_le' {B : Nat → Int32} {T c : Nat} (h : c ≤ T) : nx B T c ≤ T := lk_end (tkE_le h)
theorem lk_cap {P : Nat → Prop} {T a : Nat} : lk P (T - a) a ≤ T ∨ T < a := by
  by_cases h : a ≤ T
  · exact Or.inl (lk_end h)
  · exact Or.inr (by omega)
theorem ps_bB (w : SV) (T c : Nat) (fa : Int32) (d : Nat → Int32) : bB (psS w T c fa d) T = bB w T := rfl
theorem ps_next (w : SV) (T c : Nat) (fa : Int32) (d : Nat → Int32) : nextT (psS w T c fa d) T (tkE (bB w T) T c) = psS w T (nx (bB w T) T c) fa d := by
  unfold nextT
  rw [ps_bB]
  unfold psS tokOf
  rw [tok_tok]
  rfl
def wrF (fa : Int32) (c : Nat) : Int32 := if 0 ≤ fa then fa else nI c
abbrev wdP (B : Nat → Int32) (T c : Nat) (y : Int64) : Prop := tkK B T c = 1 ∧ tkX B T c = y
noncomputable def kindT (B : Nat → Int32) (T c : Nat) : Int32 := cif (wdP B T c 190500955076) 0 (cif (wdP B T c 256855) 1 (cif (wdP B T c 1888) 2 (cif (wdP B T c 70400) 3 (cif (wdP B T c 12403634) 4 (cif (wdP B T c 82410) 5 (cif (wdP B T c 8779) 6 (-1)))))))
abbrev nhP (B : Nat → Int32) (T c : Nat) (y : Int32) : Prop := tkK B T c = 2 ∧ tkX B T c ≤ y.toInt64
noncomputable def nhV (B : Nat → Int32) (T c : Nat) (y : Int32) : Int32 := cif (nhP B T c y) (tkX B T c).toInt32 0
abbrev PQ : Type := Nat × Int32 × (Nat → Int32)
noncomputable abbrev psQ (w : SV) (T : Nat) (q : PQ) : SV := psS w T q.1 q.2.1 q.2.2
noncomputable def nhQ (B : Nat → Int32) (T : Nat) (q : PQ) (y : Int32) : PQ := cif (nhP B T q.1 y) (nx B T q.1, q.2.1, q.2.2) (q.1, wrF q.2.1 q.1, q.2.2)
theorem nhQ_le {B : Nat → Int32} {T c : Nat} {fa y : Int32} {d : Nat → Int32} (h : c ≤ T) : (nhQ B T (c, fa, d) y).1 ≤ T := by
  unfold nhQ
  by_cases h1 : nhP B T c y
  · rw [cif_pos h1]; exact nx_le' h
  · rw [cif_neg h1]; exact h
noncomputable def phF (B : Nat → Int32) (T : Nat) (q : PQ) (y : Int64) (j : Nat) (z : Int32) : PQ := if 0 ≤ q.2.1 then q else cif (wdP B T q.1 y) (if 0 ≤ (nhQ B T (nx B T q.1, q.2.1, q.2.2) z).2.1 then nhQ B T (nx B T q.1, q.2.1, q.2.2) z else ((nhQ B T (nx B T q.1, q.2.1, q.2.2) z).1, (nhQ B T (nx B T q.1, q.2.1, q.2.2) z).2.1, upd (nhQ B T (nx B T q.1, q.2.1, q.2.2) z).2.2 j (nhV B T (nx B T q.1) z))) q
theorem phF_le {B : Nat → Int32} {T c : Nat} {fa z : Int32} {d : Nat → Int32} {y : Int64} {j : Nat} (h : c ≤ T) : (phF B T (c, fa, d) y j z).1 ≤ T := by
  unfold phF
  split
  · exact h
  · by_cases h1 : wdP B T c y
    · rw [cif_pos h1]
      split
      · exact nhQ_le (nx_le' h)
      · exact nhQ_le (nx_le' h)
    · rw [cif_neg h1]; exact h
noncomputable def crF (B : Nat → Int32) (T : Nat) (q : PQ) : PQ := phF B T (phF B T (if 0 ≤ (nhQ B T (nx B T q.1, q.2.1, q.2.2) 15).2.1 then nhQ B T (nx B T q.1, q.2.1, q.2.2) 15 else ((nhQ B T (nx B T q.1, q.2.1, q.2.2) 15).1, (nhQ B T (nx B T q.1, q.2.1, q.2.2) 15).2.1, upd (nhQ B T (nx B T q.1, q.2.1, q.2.2) 15).2.2 3 (nhV B T (nx B T q.1) 15))) 315743 4 5) 247702 5 9
theorem phF_le' {B : Nat → Int32} {T : Nat} {q : PQ} {z : Int32} {y : Int64} {j : Nat} (h : q.1 ≤ T) : (phF B T q y j z).1 ≤ T := phF_le (c := q.1) (fa := q.2.1) (d := q.2.2) h
theorem crF_le {B : Nat → Int32} {T c : Nat} {fa : Int32} {d : Nat → Int32} (h : c ≤ T) : (crF B T (c, fa, d)).1 ≤ T := by
  unfold crF
  refine phF_le' (phF_le' ?_)
  split
  · exact nhQ_le (nx_le' h)
  · exact nhQ_le (nx_le' h)
