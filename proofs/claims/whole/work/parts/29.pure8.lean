theorem pow8 {N : Nat} (h : N ≤ 8) : 2 ^ N ≤ 256 := (by decide +kernel : ∀ N : Fin 9, 2 ^ N.val ≤ 256) ⟨N, by omega⟩
theorem shl1 {N : Nat} (h : N ≤ 8) : (1 : Int32) <<< (nI N &&& 31) = nI (2 ^ N) := (by decide +kernel : ∀ N : Fin 9, (1 : Int32) <<< (nI N.val &&& 31) = nI (2 ^ N.val)) ⟨N, by omega⟩
def leftM (d : Nat → Int32) (x s : Int32) : Nat → Int32
  | 0 => x
  | r + 1 => leftM d x s r &&& (if (s >>> (nI r &&& 31)) &&& 1 = 1 then rowM d r 2 ^^^ (-1) else (-1))
def cvM (d : Nat → Int32) (x : Int32) (N : Nat) : Nat → Int32
  | 0 => -1
  | i + 1 => if leftM d x (nI i) N = 0 ∧ (cvM d x N i < 0 ∨ onesF (nI i) 12 < onesF (cvM d x N i) 12) then nI i else cvM d x N i
noncomputable def coverM (v : SV) (x : Int32) : Int32 × SV := cif (∃ j : Nat, j < 4096 ∧ x = nI j) (if cvM (v.1 54) x (nM v) (2 ^ nM v) < 0 then fdM v 3 else (cvM (v.1 54) x (nM v) (2 ^ nM v), v)) (fdM v 0)
def awM (d : Nat → Int32) (s : Int32) : Nat → Nat → Int32
  | 0 => d
  | r + 1 => upd (awM d s r) (25 + 8 * 5 + r) (rowM (awM d s r) r 5 ||| ((s >>> (nI r &&& 31)) &&& 1))
theorem awM_lo {d : Nat → Int32} {s : Int32} {j : Nat} (h : j < 25) : ∀ {r : Nat}, awM d s r j = d j
  | 0 => rfl
  | r + 1 => by
    rw [awM]
    simp only [upd]
    rw [if_neg (by omega)]
    exact awM_lo h
theorem awM_hi {d : Nat → Int32} {s : Int32} {j : Nat} (h : 83 ≤ j) : ∀ {r : Nat}, r ≤ 8 → awM d s r j = d j
  | 0, _ => rfl
  | r + 1, hr => by
    rw [awM]
    simp only [upd]
    rw [if_neg (by omega)]
    exact awM_hi h (by omega)
theorem okM_aw {d : Nat → Int32} {N r : Nat} {s : Int32} (h : okM d N) (_ : r ≤ N) : okM (awM d s r) N := okM_same h (fun j hj _ _ _ _ _ => awM_lo (by omega))
def emM (d : Nat → Int32) (k N : Nat) : Nat → Int32
  | 0 => -1
  | i + 1 => if emM d k N i < 0 ∨ onesF (nI i) 12 < onesF (emM d k N i) 12 then (if daysM (awM d (nI i) N) k 6 = d 6 then nI i else emM d k N i) else emM d k N i
theorem emM_go {d : Nat → Int32} {k N i : Nat} (h : emM d k N i < 0 ∨ onesF (nI i) 12 < onesF (emM d k N i) 12) : emM d k N (i + 1) = if daysM (awM d (nI i) N) k 6 = d 6 then nI i else emM d k N i := if_pos h
theorem emM_skip {d : Nat → Int32} {k N i : Nat} (h1 : ¬ emM d k N i < 0) (h2 : ¬ onesF (nI i) 12 < onesF (emM d k N i) 12) : emM d k N (i + 1) = emM d k N i := if_neg (fun h => h.elim h1 h2)
noncomputable def emptyM (v : SV) (x : Int32) : Int32 × SV := cif (∃ j : Nat, j < 21 ∧ x = nI j) (if emM (v.1 54) x.toNatClampNeg (nM v) (2 ^ nM v) < 0 then fdM (asideM v) 3 else (emM (v.1 54) x.toNatClampNeg (nM v) (2 ^ nM v), asideM v)) (fdM v 0)
