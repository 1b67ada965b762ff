/-! the reference's calls as plain functions of the state -/
noncomputable def cif {α : Type} (P : Prop) (a b : α) : α := @ite α P (Classical.propDecidable P) a b
theorem cif_pos {α : Type} {P : Prop} {a b : α} (h : P) : cif P a b = a := by unfold cif; exact if_pos h
theorem cif_neg {α : Type} {P : Prop} {a b : α} (h : ¬ P) : cif P a b = b := by unfold cif; exact if_neg h
theorem tn_nI {j : Nat} (h : j < 2 ^ 31) : (nI j).toNatClampNeg = j := nI_clamp h
theorem in_iff2 {x : Int32} {K M : Int64} (L N : Nat) (hN : N ≤ 2 ^ 31) (hM : M.toInt = (L : Int)) (hK : K.toInt = (N : Int) - 1) : (M ≤ x.toInt64 ∧ x.toInt64 ≤ K) ↔ ∃ j : Nat, L ≤ j ∧ j < N ∧ x = nI j := by
  rw [fa_le64, fa_le64, toInt64_toInt, hK, hM]
  constructor
  · intro h
    refine ⟨x.toInt.toNat, by omega, by omega, ?_⟩
    rw [fa_eq, nI_toInt (by omega)]
    omega
  · rintro ⟨j, h0, h1, rfl⟩
    rw [nI_toInt (by omega)]
    omega
abbrev rg (N : Nat) (x : Int32) : Prop := ∃ j : Nat, j < N ∧ x = nI j
def fdM (v : SV) (k : Nat) : Int32 × SV := (-1000001 - nI k, fnd v k)
def setP (x y : Int32) : Prop := if x = 0 then ∃ j : Nat, j < 16 ∧ y = nI j else if x = 1 then ∃ j : Nat, j < 6 ∧ y = nI j else if x = 2 then ∃ j : Nat, j < 10 ∧ y = nI j else False
theorem setP_x {x y : Int32} (h : setP x y) : ∃ j : Nat, j < 3 ∧ x = nI j := by
  unfold setP at h
  by_cases h0 : x = 0
  · exact ⟨0, by decide, h0⟩
  · rw [if_neg h0] at h
    by_cases h1 : x = 1
    · exact ⟨1, by decide, h1⟩
    · rw [if_neg h1] at h
      by_cases h2 : x = 2
      · exact ⟨2, by decide, h2⟩
      · rw [if_neg h2] at h
        exact h.elim
noncomputable def setM (v : SV) (x y : Int32) : Int32 × SV := cif (setP x y) (v.1 54 (3 + x.toNatClampNeg), up v 54 (3 + x.toNatClampNeg) y) (fdM v 0)
noncomputable def crierM (v : SV) (x : Int32) : Int32 × SV := cif (∃ j : Nat, j < 3 ∧ x = nI j) (v.1 54 (3 + x.toNatClampNeg), v) (fdM v 0)
noncomputable def cryM (v : SV) (x y : Int32) : Int32 × SV := cif (∃ j : Nat, j < 6 ∧ x = nI j) (cif (∃ j : Nat, j < 12 ∧ y = nI j) (v.1 54 (7 + x.toNatClampNeg), up v 54 (7 + x.toNatClampNeg) y) (fdM v 0)) (fdM v 0)
noncomputable def listedM (v : SV) (x : Int32) : Int32 × SV := cif (∃ j : Nat, j < 6 ∧ x = nI j) (v.1 54 (7 + x.toNatClampNeg), v) (fdM v 0)
noncomputable def registerM (v : SV) (x : Int32) : Int32 × SV := cif (∃ j : Nat, j < 12 ∧ x = nI j) (v.1 54 (13 + x.toNatClampNeg), v) (fdM v 0)
def sumM (d : Nat → Int32) (w : Nat) : Nat → Int32
  | 0 => 0
  | k + 1 => sumM d w k + rowM d k w
def wantedM (d : Nat → Int32) : Nat → Int32
  | 0 => 0
  | k + 1 => wantedM d k ||| rowM d k 2
def rsumM (d : Nat → Int32) : Nat → Int32
  | 0 => 0
  | k + 1 => rsumM d k + d (13 + k)
def rsetM (d : Nat → Int32) : Nat → Int32
  | 0 => 0
  | k + 1 => rsetM d k ||| (if d (13 + k) ≤ 0 then (0 : Int32) else 1 <<< (nI k &&& 31))
def regM (d : Nat → Int32) (b : Int32) : Int32 := if b = 0 then rsetM d 12 else rsumM d 12
def mostF (x : Int32) : Int32 := if x = 0 then 6 else if x = 1 then 15 else if x = 2 then 4095 else if x = 3 then 99 else if x = 4 then 9999 else 1
def zrM (d : Nat → Int32) (N : Nat) : Nat → Nat → Int32
  | 0 => d
  | i + 1 => upd (zrM d N i) (25 + 8 * i + N) 0
theorem zrM_lo {d : Nat → Int32} {N j : Nat} (h : j < 25) : ∀ i, zrM d N i j = d j
  | 0 => rfl
  | i + 1 => by
    rw [zrM]
    simp only [upd]
    rw [if_neg (by omega)]
    exact zrM_lo h i
theorem zrM_0 {d : Nat → Int32} {N i : Nat} : zrM d N i 0 = d 0 := zrM_lo (by decide) i
def comesM (d : Nat → Int32) (N : Nat) (x y : Int32) : Nat → Int32 := upd (upd (upd (upd (zrM d N 6) (25 + 8 * 0 + N) x) (25 + 8 * 1 + N) y) (25 + 8 * 3 + N) 50) 0 (nI (N + 1))
def nM (v : SV) : Nat := (v.1 54 0).toNatClampNeg
theorem nM_eq {v : SV} {N : Nat} (h : okM (v.1 54) N) : nM v = N := by
  unfold nM
  rw [h.2.1, nI_clamp (by have := h.1; omega)]
noncomputable def residentM (v : SV) (x y : Int32) : Int32 × SV := cif (∃ j : Nat, j < 7 ∧ x = nI j) (cif (∃ j : Nat, j < 16 ∧ y = nI j) (if nM v = 8 then fdM v 1 else (v.1 54 0, upw v 54 (comesM (v.1 54) (nM v) x y))) (fdM v 0)) (fdM v 0)
theorem tellF_6 (R : Nat → Int32) (y z : Int32) : tellF R 6 y z = hearF R z := rfl
theorem tellF_7 (R : Nat → Int32) (y z : Int32) : tellF R 7 y z = trustF R := rfl
theorem tellF_8 (R : Nat → Int32) (y z : Int32) : tellF R 8 y z = loseF R := rfl
theorem tellF_9 (R : Nat → Int32) (y z : Int32) : tellF R 9 y z = mendF R := rfl
theorem tellF_10 (R : Nat → Int32) (y z : Int32) : tellF R 10 y z = sizeF (R 1 - y) := rfl
theorem tellF_lt {R : Nat → Int32} {y z : Int32} {j : Nat} (h : j < 6) : tellF R (nI j) y z = R j := by
  have : j = 0 ∨ j = 1 ∨ j = 2 ∨ j = 3 ∨ j = 4 ∨ j = 5 := by omega
  rcases this with rfl | rfl | rfl | rfl | rfl | rfl <;> rfl
noncomputable def ofM (v : SV) (x y : Int32) : Int32 × SV := cif (∃ j : Nat, j < nM v ∧ x = nI j) (cif (∃ j : Nat, j < 11 ∧ y = nI j) (tellF (rowM (v.1 54) x.toNatClampNeg) y (v.1 54 3) (v.1 54 5), v) (fdM v 0)) (fdM v 0)
noncomputable def temptedM (v : SV) (x y : Int32) : Int32 × SV := cif (∃ j : Nat, j < nM v ∧ x = nI j) (cif (∃ j : Nat, j < 12 ∧ y = nI j) (cif (temptF (rowM (v.1 54) x.toNatClampNeg) y) (1, v) (0, v)) (fdM v 0)) (fdM v 0)
noncomputable def changeM (v : SV) (x y z : Int32) : Int32 × SV := cif (∃ j : Nat, j < nM v ∧ x = nI j) (cif (∃ j : Nat, j < 6 ∧ y = nI j) (cif (0 ≤ z.toInt64 ∧ z.toInt64 ≤ (mostF y).toInt64) (v.1 54 (25 + 8 * y.toNatClampNeg + x.toNatClampNeg), up v 54 (25 + 8 * y.toNatClampNeg + x.toNatClampNeg) z) (fdM v 0)) (fdM v 0)) (fdM v 0)
noncomputable def comeM (d : Nat → Int32) (x : Int32) : Nat → Int32
  | 0 => 0
  | i + 1 => comeM d x i ||| cif (comingM d i x) (1 <<< (nI i &&& 31)) 0
noncomputable def comersM (v : SV) (x : Int32) : Int32 × SV := cif (∃ j : Nat, j < 12 ∧ x = nI j) (comeM (v.1 54) x (nM v), v) (fdM v 0)
noncomputable def goM (v : SV) (x : Int32) : Int32 × SV := cif (∃ j : Nat, 1 ≤ j ∧ j < 61 ∧ x = nI j) (if (v.1 54 1).toNatClampNeg + x.toNatClampNeg ≤ 99999 then (daysM (v.1 54) x.toNatClampNeg 6, upw v 54 (daysM (v.1 54) x.toNatClampNeg)) else fdM v 4) (fdM v 0)
def nowM (v : SV) (x : Int32) : Int32 × SV := if x = 0 then (v.1 54 1, v) else if x = 1 then (v.1 54 6, v) else if x = 2 then (wantedM (v.1 54) (nM v), v) else if x = 3 then (sumM (v.1 54) 3 (nM v), v) else if x = 4 then (sumM (v.1 54) 4 (nM v), v) else if x = 5 then (rsumM (v.1 54) 12, v) else if x = 6 then (rsetM (v.1 54) 12, v) else if x = 7 then (fetchM (v.1 54), v) else fdM v 0
theorem regM_1 (d : Nat → Int32) : regM d 1 = rsumM d 12 := rfl
theorem regM_0 (d : Nat → Int32) : regM d 0 = rsetM d 12 := rfl
