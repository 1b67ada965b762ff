theorem fa_nle {a b : Int32} (h : ¬ a ≤ b) : b < a := by rw [fa_le] at h; rw [fa_lt]; omega
theorem fa_le_nlt {a b : Int32} (h : a ≤ b) : ¬ b < a := by rw [fa_le] at h; rw [fa_lt]; omega
theorem nat_pred40 (N : Nat) (h : N ≤ 40) : ((nI N - 1).toInt64).toInt = (N : Int) - 1 := by
  rw [toInt64_toInt]
  exact (by decide +kernel : ∀ N : Fin 41, (nI N.val - 1).toInt = (N.val : Int) - 1) ⟨N, by omega⟩
def cutF (b z : Int32) : Int32 := if b = 8 then z.toInt8.toInt32 else if b = 16 then z.toInt16.toInt32 else z
noncomputable def writeM (v : SV) (x y z : Int32) : Int32 × SV := if whyF v x < 0 then cif (∃ j : Nat, j < (v.1 61 x.toNatClampNeg).toNatClampNeg ∧ y = nI j) (1, up v 62 (40 * x.toNatClampNeg + y.toNatClampNeg) (cutF (v.1 60 x.toNatClampNeg) z)) (fdM v 0) else fdW v (whyF v x)
def zsF (f : Nat → Int32) (a : Nat) : Nat → Nat → Int32
  | 0 => f
  | i + 1 => upd (zsF f a i) (a + i) 0
def shS (v : SV) (s : Nat) (y z : Int32) : SV := upw (up (up v 60 s y) 61 s z) 62 (zsF ((up (up v 60 s y) 61 s z).1 62) (40 * s) 40)
noncomputable def sheetM (v : SV) (x y z : Int32) : Int32 × SV := cif (∃ j : Nat, j < 4 ∧ x = nI j) (if y = 0 ∨ y = 8 ∨ y = 16 ∨ y = 32 then (if z < 0 then fdM v 6 else if 40 < z then fdM v 0 else ((if y = 0 then 0 else z), shS v x.toNatClampNeg y (if y = 0 then 0 else z))) else fdM v 0) (fdM v 0)
