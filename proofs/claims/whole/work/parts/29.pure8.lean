theorem pow8 {N : Nat} (h : N ≤ 8) : 2 ^ N ≤ 256 := (by decide +kernel : ∀ N : Fin 9, 2 ^ N.val ≤ 256) ⟨N, by omega⟩
theorem shl1 {N : Nat} (h : N ≤ 8) : (1 : Int32) <<< (nI N &&& 31) = nI (2 ^ N) := (by decide +kernel : ∀ N : Fin 9, (1 : Int32) <<< (nI N.val &&& 31) = nI (2 ^ N.val)) ⟨N, by omega⟩
def leftM (d : Nat → Int32) (x s : Int32) : Nat → Int32
  | 0 => x
  | r + 1 => leftM d x s r &&& (if (s >>> (nI r &&& 31)) &&& 1 = 1 then rowM d r 2 ^^^ (-1) else (-1))
def cvM (d : Nat → Int32) (x : Int32) (N : Nat) : Nat → Int32
  | 0 => -1
  | i + 1 => if leftM d x (nI i) N = 0 ∧ (cvM d x N i < 0 ∨ onesF (nI i) 12 < onesF (cvM d x N i) 12) then nI i else cvM d x N i
noncomputable def coverM (v : SV) (x : Int32) : Int32 × SV := cif (∃ j : Nat, j < 4096 ∧ x = nI j) (if cvM (v.1 54) x (nM v) (2 ^ nM v) < 0 then fdM v 3 else (cvM (v.1 54) x (nM v) (2 ^ nM v), v)) (fdM v 0)
def awM (d : Nat → Int32) (s : Int32) : Nat → Nat → Int32
  | 0 => d
  | r + 1 => upd (awM d s r) (25 + 8 * 5 + r) (rowM (awM d s r) r 5 ||| ((s >>> (nI r &&& 31)) &&& 1))
theorem awM_lo {d : Nat → Int32} {s : Int32} {j : Nat} (h : j < 25) : ∀ {r : Nat}, awM d s r j = d j
  | 0 => rfl
  | r + 1 => by
    rw [awM]
    simp only [upd]
    rw [if_neg (by omega)]
    exact awM_lo h
theorem awM_hi {d : Nat → Int32} {s : Int32} {j : Nat} (h : 83 ≤ j) : ∀ {r : Nat}, r ≤ 8 → awM d s r j = d j
  | 0, _ => rfl
  | r + 1, hr => by
    rw [awM]
    simp only [upd]
    rw [if_neg (by omega)]
    exact awM_hi h (by omega)
theorem okM_aw {d : Nat → Int32} {N r : Nat} {s : Int32} (h : okM d N) (_ : r ≤ N) : okM (awM d s r) N := okM_same h (fun j hj _ _ _ _ _ => awM_lo (by omega))
def emM (d : Nat → Int32) (k N : Nat) : Nat → Int32
  | 0 => -1
  | i + 1 => if emM d k N i < 0 ∨ onesF (nI i) 12 < onesF (emM d k N i) 12 then (if daysM (awM d (nI i) N) k 6 = d 6 then nI i else emM d k N i) else emM d k N i
theorem emM_go {d : Nat → Int32} {k N i : Nat} (h : emM d k N i < 0 ∨ onesF (nI i) 12 < onesF (emM d k N i) 12) : emM d k N (i + 1) = if daysM (awM d (nI i) N) k 6 = d 6 then nI i else emM d k N i := if_pos h
theorem emM_skip {d : Nat → Int32} {k N i : Nat} (h1 : ¬ emM d k N i < 0) (h2 : ¬ onesF (nI i) 12 < onesF (emM d k N i) 12) : emM d k N (i + 1) = emM d k N i := if_neg (fun h => h.elim h1 h2)
noncomputable def emptyM (v : SV) (x : Int32) : Int32 × SV := cif (∃ j : Nat, j < 21 ∧ x = nI j) (if emM (v.1 54) x.toNatClampNeg (nM v) (2 ^ nM v) < 0 then fdM (asideM v) 3 else (emM (v.1 54) x.toNatClampNeg (nM v) (2 ^ nM v), asideM v)) (fdM v 0)
abbrev okT (d f : Nat → Int32) (s r t : Nat) : Prop := f (40 * s + t) = -1 ∨ f (40 * s + t) = rowM (daysM d t) r 4
def toldP (d f : Nat → Int32) (Z s r : Nat) : Prop := ∀ t, t < Z → okT d f s r t
theorem told_end {v : SV} {X : Nat → Int32} (hX : ∀ j, 83 ≤ j → X j = v.1 54 j) : upw (upw v 54 X) 54 (cpyM ((upw v 54 X).1 56) ((upw v 54 X).1 54) 83) = upw v 54 (cpyM (v.1 56) (v.1 54) 83) := by
  rw [upw_upw, upw_same, upw_ne _ _ (by decide)]
  congr 1
  funext j
  simp only [cpyM]
  by_cases h : j < 83
  · rw [if_pos h, if_pos h]
  · rw [if_neg h, if_neg h]; exact hX j (by omega)
theorem asideM_ne {v : SV} {k : Nat} (h : k ≠ 56) : (asideM v).1 k = v.1 k := upw_ne v _ h
theorem whyN_ok {v : SV} {x y : Int32} {N : Nat} (h : whyN v x y N < 0) : ∃ a b : Nat, a < 4 ∧ b < N ∧ x = nI a ∧ y = nI b := by
  unfold whyN at h
  by_cases h1 : whyF v x < 0
  · rw [if_pos h1] at h
    obtain ⟨a, ha, e, -⟩ := why_ok h1
    by_cases h2 : ∃ j : Nat, j < N ∧ y = nI j
    · obtain ⟨b, hb, e2⟩ := h2
      exact ⟨a, b, ha, hb, e, e2⟩
    · rw [cif_neg h2] at h; exact absurd h (by decide)
  · rw [if_neg h1] at h; exact absurd h h1
theorem whyN_no {v : SV} {x y : Int32} {N : Nat} (h : ¬ whyN v x y N < 0) : ∃ j : Nat, (j = 0 ∨ j = 5) ∧ whyN v x y N = nI j := by
  unfold whyN at h ⊢
  by_cases h1 : whyF v x < 0
  · rw [if_pos h1] at h ⊢
    by_cases h2 : ∃ j : Nat, j < N ∧ y = nI j
    · rw [cif_pos h2] at h; exact absurd (by decide) h
    · rw [cif_neg h2]; exact ⟨0, Or.inl rfl, rfl⟩
  · rw [if_neg h1]; exact why_no h1
noncomputable def ftM (d f : Nat → Int32) (Z s r : Nat) : Nat → Int32
  | 0 => 0
  | i + 1 => ftM d f Z s r i ||| cif (toldP (upd d (25 + 8 * 2 + r) (1 <<< (nI i &&& 31))) f Z s r) (1 <<< (nI i &&& 31)) 0
noncomputable def ksM (d f : Nat → Int32) (Z s r : Nat) : Nat → Int32
  | 0 => 0
  | i + 1 => ksM d f Z s r i ||| cif (toldP (upd d (25 + 8 * 0 + r) (nI i)) f Z s r) (1 <<< (nI i &&& 31)) 0
noncomputable def fitsM (v : SV) (x y : Int32) : Int32 × SV := if whyN v x y (nM v) < 0 then (ftM (v.1 54) (v.1 62) (v.1 61 x.toNatClampNeg).toNatClampNeg x.toNatClampNeg y.toNatClampNeg 12, asideM v) else fdW v (whyN v x y (nM v))
noncomputable def kindsM (v : SV) (x y : Int32) : Int32 × SV := if whyN v x y (nM v) < 0 then (ksM (v.1 54) (v.1 62) (v.1 61 x.toNatClampNeg).toNatClampNeg x.toNatClampNeg y.toNatClampNeg 7, asideM v) else fdW v (whyN v x y (nM v))
