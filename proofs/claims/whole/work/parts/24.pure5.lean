noncomputable def whyF (v : SV) (x : Int32) : Int32 := cif (∃ j : Nat, j < 4 ∧ x = nI j) (if v.1 60 x.toNatClampNeg = 0 then 5 else -1) 0
noncomputable def whyN (v : SV) (x y : Int32) (N : Nat) : Int32 := if whyF v x < 0 then cif (∃ j : Nat, j < N ∧ y = nI j) (-1) 0 else whyF v x
theorem why_ok {v : SV} {x : Int32} (h : whyF v x < 0) : ∃ j : Nat, j < 4 ∧ x = nI j ∧ v.1 60 j ≠ 0 := by
  unfold whyF at h
  by_cases h1 : ∃ j : Nat, j < 4 ∧ x = nI j
  · rw [cif_pos h1] at h
    obtain ⟨j, hj, rfl⟩ := h1
    rw [tn_nI (by omega)] at h
    by_cases h2 : v.1 60 j = 0
    · rw [if_pos h2] at h; exact absurd h (by decide)
    · exact ⟨j, hj, rfl, h2⟩
  · rw [cif_neg h1] at h; exact absurd h (by decide)
theorem why_no {v : SV} {x : Int32} (h : ¬ whyF v x < 0) : ∃ j : Nat, (j = 0 ∨ j = 5) ∧ whyF v x = nI j := by
  unfold whyF at h ⊢
  by_cases h1 : ∃ j : Nat, j < 4 ∧ x = nI j
  · rw [cif_pos h1] at h ⊢
    by_cases h2 : v.1 60 x.toNatClampNeg = 0
    · rw [if_pos h2]; exact ⟨5, Or.inr rfl, rfl⟩
    · rw [if_neg h2] at h; exact absurd (by decide) h
  · rw [cif_neg h1]; exact ⟨0, Or.inl rfl, rfl⟩
def fdW (v : SV) (x : Int32) : Int32 × SV := fdM v x.toNatClampNeg
def seedM (v : SV) (x : Int32) : Int32 × SV := (v.1 54 2, up v 54 2 x)
def wipeM (v : SV) : Int32 × SV := (v.1 53 7, up v 53 7 0)
def imageM (v : SV) : Int32 × SV := (1, up (upw v 57 (cpyM (v.1 54) (v.1 57) 83)) 53 4 1)
def undoM (v : SV) : Int32 × SV := if v.1 53 4 = 0 then fdM v 3 else (cpyM (v.1 57) (v.1 54) 83 1, upw v 54 (cpyM (v.1 57) (v.1 54) 83))
def tearM (v : SV) : Int32 × SV := if v.1 53 4 = 0 then (0, up v 53 4 0) else (1, up v 53 4 0)
def holdM (d : Nat → Int32) : Nat → Int32
  | 0 => 0
  | k + 1 => holdM d k + (if d (73 + k) ≤ 0 then 0 else 1)
def countM (v : SV) (x : Int32) : Int32 × SV := if x = 0 then (v.1 54 1, v) else if x = 1 then (v.1 54 0, v) else if x = 2 then (v.1 54 6, v) else if x = 3 then (sumM (v.1 54) 4 (nM v), v) else if x = 4 then (sumM (v.1 54) 3 (nM v), v) else if x = 5 then (v.1 53 7, v) else if x = 6 then (v.1 54 2, v) else if x = 7 then (holdM (v.1 54) 10, v) else fdM v 0
def aboveF (x : Int32) : Int32 := if x = 3 then 1 else if x = 4 then 3 else if x = 6 then 2 else 0
def lcgF (x : Int32) : Int32 := x * 1103515245 + 12345
def statM (f : Nat → Int32) : Nat → Int32
  | 0 => 0
  | k + 1 => statM f k + f k
noncomputable def statusM (v : SV) (x : Int32) : Int32 × SV := cif ((-1 : Int64) ≤ x.toInt64 ∧ x.toInt64 ≤ 6) (if 0 ≤ x then (v.1 58 x.toNatClampNeg, v) else (statM (v.1 58) 7, v)) (fdM v 0)
theorem stat_ix {x : Int32} (h : (-1 : Int64) ≤ x.toInt64 ∧ x.toInt64 ≤ 6) (h2 : 0 ≤ x) : ∃ j : Nat, j < 7 ∧ x = nI j := by
  refine (in_iff 7 (by decide) (by decide)).mp ⟨?_, h.2⟩
  rw [fa_le64, toInt64_toInt]
  rw [fa_le] at h2
  exact h2
noncomputable def holdPM (v : SV) (x y : Int32) : Int32 × SV := cif (∃ j : Nat, j < 10 ∧ x = nI j) (cif ((-1 : Int64) ≤ y.toInt64 ∧ y.toInt64 ≤ (nI (nM v) - 1).toInt64) (1, up v 54 (73 + x.toNatClampNeg) (y + 1)) (fdM v 0)) (fdM v 0)
abbrev asP (y k : Int32) : Prop := y = 0 ∨ y = k ∨ y = aboveF k ∨ y = aboveF (aboveF k)
noncomputable def asM (v : SV) (x y : Int32) : Int32 × SV := cif (∃ j : Nat, j < 10 ∧ x = nI j) (cif (∃ j : Nat, j < 7 ∧ y = nI j) (if v.1 54 (73 + x.toNatClampNeg) = 0 then fdM v 5 else cif (asP y (rowM (v.1 54) ((v.1 54 (73 + x.toNatClampNeg)).toNatClampNeg - 1) 0)) (v.1 54 (73 + x.toNatClampNeg) - 1, v) (fdM v 2)) (fdM v 0)) (fdM v 0)
noncomputable def judgeM (v : SV) (x : Int32) : Int32 × SV := if whyF v x < 0 then (if lk (fun t => ¬ ((∃ j : Nat, j < 12 ∧ nI t = nI j) ∧ v.1 62 (40 * x.toNatClampNeg + t) = v.1 54 (13 + t))) (v.1 61 x.toNatClampNeg).toNatClampNeg 0 < (v.1 61 x.toNatClampNeg).toNatClampNeg then (1 + nI (lk (fun t => ¬ ((∃ j : Nat, j < 12 ∧ nI t = nI j) ∧ v.1 62 (40 * x.toNatClampNeg + t) = v.1 54 (13 + t))) (v.1 61 x.toNatClampNeg).toNatClampNeg 0), v) else (0, v)) else fdW v (whyF v x)
def ldM (d f : Nat → Int32) (s : Nat) : Nat → Nat → Int32
  | 0 => d
  | i + 1 => upd (ldM d f s i) (25 + 8 * 2 + i) (f (40 * s + i))
theorem ldM_lo {d f : Nat → Int32} {s j : Nat} (h : j < 25) : ∀ {i : Nat}, ldM d f s i j = d j
  | 0 => rfl
  | i + 1 => by
    rw [ldM]
    simp only [upd]
    rw [if_neg (by omega)]
    exact ldM_lo h
noncomputable def loadM (v : SV) (x : Int32) : Int32 × SV := if whyF v x < 0 then (nI (lk (fun t => ¬ (t < nM v ∧ ∃ j : Nat, j < 4096 ∧ v.1 62 (40 * x.toNatClampNeg + t) = nI j)) (v.1 61 x.toNatClampNeg).toNatClampNeg 0), upw v 54 (ldM (v.1 54) (v.1 62) x.toNatClampNeg (lk (fun t => ¬ (t < nM v ∧ ∃ j : Nat, j < 4096 ∧ v.1 62 (40 * x.toNatClampNeg + t) = nI j)) (v.1 61 x.toNatClampNeg).toNatClampNeg 0))) else fdW v (whyF v x)
