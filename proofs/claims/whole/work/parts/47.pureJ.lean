/-! small facts of groups and odds -/
theorem sa6 (d : Nat → Int32) (x : Int32) : ∀ i, saM d x i 6 = d 6
  | 0 => rfl
  | i + 1 => by
    rw [saM]
    split
    · rw [pk_un (by omega)]; exact sa6 d x i
    · exact sa6 d x i
theorem aw6 (d : Nat → Int32) (x : Int32) : ∀ i, awM d x i 6 = d 6
  | 0 => rfl
  | i + 1 => by rw [awM, pk_un (by omega)]; exact aw6 d x i
theorem mx12 {A : Nat} (h : A < 13) : (if nI A < 12 then 12 else nI A : Int32) = 12 := by
  by_cases q : A = 12
  · subst q; decide
  · rw [if_pos]
    exact (nI_ltI (a := A) (b := 12) (by omega) (by decide)).mpr (by omega)
theorem mx1 {G : Nat} (h : 1 ≤ G) (h2 : G ≤ 12) : (if (1 : Int32) < nI G then nI G else 1) = nI G := by
  by_cases q : G = 1
  · subst q; decide
  · rw [if_pos]
    exact (nI_ltI (a := 1) (b := G) (by decide) (by omega)).mpr (by omega)
theorem dec12 : ∀ i, i < 12 → nI (12 - i) + (-1) = nI (12 - (i + 1)) := by decide +kernel
theorem nI_nz {a : Nat} (h : 0 < a) (h2 : a < 2 ^ 31) : ¬ nI a = 0 := fun z => absurd ((nI_eq (a := a) (b := 0) h2 (by decide)).mp z) (by omega)
theorem psl_fd {v : SV} {N : Nat} {f : SV → Int64 × SV} (hR : Rl v N) (e : f (fnC v 0) = ((-1000001 - nI 0).toInt64, fnd (fnC v 0) 0)) : PsL ((-1000001 : Int32).toInt64) (f (fnC v 0)) := by
  rw [e]
  exact ⟨show (-1000001 : Int32).toInt64 = (-1000001 - nI 0).toInt64 by decide, N, Rl_fn hR (by decide)⟩
theorem psl_eq {v : SV} {N : Nat} {p : Int64 × SV} {x : Int64} (hR : Rl v N) (e : p = (x, v)) : PsL x p := by
  rw [e]
  exact ⟨rfl, N, hR⟩
