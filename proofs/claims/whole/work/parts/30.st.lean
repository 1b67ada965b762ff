/-! a street of the class as a row like the reference's -/
def slK (j : Nat) : Option Nat := if j = 0 then some 3 else if j = 1 then some 4 else if j = 2 then some 5 else if j = 5 then some 6 else if j = 6 then some 1 else if j = 7 then some 2 else if j = 8 then some 0 else none
def sl (k c j : Nat) : Option Nat :=
  if c = k then slK j
  else if c = k + 1 then (if j < 6 then some (7 + j) else none)
  else if c = k + 2 then (if j < 12 then some (13 + j) else none)
  else if c = k + 4 then (if j < 10 then some (73 + j) else none)
  else if k + 5 ≤ c ∧ c < k + 13 ∧ j < 6 then some (25 + 8 * j + (c - (k + 5))) else none
def dcK (i : Nat) : Nat := if i = 0 then 8 else if i = 1 then 6 else if i = 2 then 7 else if i = 3 then 0 else if i = 4 then 1 else if i = 5 then 2 else 5
def dc (k i : Nat) : Nat × Nat :=
  if i < 7 then (k, dcK i) else if i < 13 then (k + 1, i - 7) else if i < 25 then (k + 2, i - 13) else if i < 73 then (k + 5 + (i - 25) % 8, (i - 25) / 8) else (k + 4, i - 73)
theorem slK_dc {j i : Nat} (h : slK j = some i) : i < 7 ∧ dcK i = j := by
  unfold slK at h
  split at h
  · cases h; subst j; exact ⟨by decide, rfl⟩
  · split at h
    · cases h; subst j; exact ⟨by decide, rfl⟩
    · split at h
      · cases h; subst j; exact ⟨by decide, rfl⟩
      · split at h
        · cases h; subst j; exact ⟨by decide, rfl⟩
        · split at h
          · cases h; subst j; exact ⟨by decide, rfl⟩
          · split at h
            · cases h; subst j; exact ⟨by decide, rfl⟩
            · split at h
              · cases h; subst j; exact ⟨by decide, rfl⟩
              · cases h
theorem sl_dc {k c j i : Nat} (h : sl k c j = some i) : dc k i = (c, j) ∧ i < 83 ∧ (73 ≤ i ↔ c = k + 4) := by
  unfold sl at h
  split at h
  · rename_i e
    obtain ⟨h1, h2⟩ := slK_dc h
    exact ⟨by rw [dc, if_pos h1, h2, e], by omega, by omega⟩
  · split at h
    · rename_i e
      split at h
      · cases h
        exact ⟨by rw [dc, if_neg (by omega), if_pos (by omega), e]; congr 1; omega, by omega, by omega⟩
      · cases h
    · split at h
      · rename_i e
        split at h
        · cases h
          exact ⟨by rw [dc, if_neg (by omega), if_neg (by omega), if_pos (by omega), e]; congr 1; omega, by omega, by omega⟩
        · cases h
      · split at h
        · rename_i e
          split at h
          · cases h
            exact ⟨by rw [dc, if_neg (by omega), if_neg (by omega), if_neg (by omega), if_neg (by omega), e]; congr 1; omega, by omega, by omega⟩
          · cases h
        · split at h
          · rename_i e
            cases h
            refine ⟨?_, by omega, by omega⟩
            rw [dc, if_neg (by omega), if_neg (by omega), if_neg (by omega), if_pos (by omega)]
            have h1 : (25 + 8 * j + (c - (k + 5)) - 25) % 8 = c - (k + 5) := by omega
            have h2 : (25 + 8 * j + (c - (k + 5)) - 25) / 8 = j := by omega
            rw [h1, h2]
            congr 1
            omega
          · cases h
def stW (v : SV) (k : Nat) (d : Nat → Int32) : SV := (fun c j => match sl k c j with | some i => (if 73 ≤ i then d i - 1 else d i) | none => v.1 c j, v.2)
def stR (v : SV) (k : Nat) : Nat → Int32 := fun i => if i < 83 then (if 73 ≤ i then v.1 (dc k i).1 (dc k i).2 + 1 else v.1 (dc k i).1 (dc k i).2) else 0
theorem i_pm (x : Int32) : x + 1 - 1 = x := by
  apply Int32.toBitVec_inj.mp
  simp
theorem i_mp (x : Int32) : x - 1 + 1 = x := by
  apply Int32.toBitVec_inj.mp
  simp
theorem st_at {v : SV} {k c j i : Nat} {d : Nat → Int32} (h : sl k c j = some i) (hi : i < 73) : (stW v k d).1 c j = d i := by
  show (match sl k c j with | some i => (if 73 ≤ i then d i - 1 else d i) | none => v.1 c j) = d i
  rw [h]
  exact if_neg (by omega)
theorem st_sp {v : SV} {k c j i : Nat} {d : Nat → Int32} (h : sl k c j = some i) (hi : 73 ≤ i) : (stW v k d).1 c j = d i - 1 := by
  show (match sl k c j with | some i => (if 73 ≤ i then d i - 1 else d i) | none => v.1 c j) = d i - 1
  rw [h]
  exact if_pos hi
theorem st_no {v : SV} {k c j : Nat} {d : Nat → Int32} (h : sl k c j = none) : (stW v k d).1 c j = v.1 c j := by
  show (match sl k c j with | some i => (if 73 ≤ i then d i - 1 else d i) | none => v.1 c j) = v.1 c j
  rw [h]
theorem st_far {v : SV} {k c : Nat} {d : Nat → Int32} (h : c < k ∨ k + 13 ≤ c) : (stW v k d).1 c = v.1 c := by
  funext j
  refine st_no ?_
  unfold sl
  rw [if_neg (by omega), if_neg (by omega), if_neg (by omega), if_neg (by omega), if_neg (by omega)]
theorem st_self (v : SV) (k : Nat) : stW v k (stR v k) = v := by
  show ((fun c j => match sl k c j with | some i => (if 73 ≤ i then stR v k i - 1 else stR v k i) | none => v.1 c j), v.2) = v
  have e : (fun c j => match sl k c j with | some i => (if 73 ≤ i then stR v k i - 1 else stR v k i) | none => v.1 c j) = v.1 := by
    funext c j
    cases h : sl k c j with
    | none => rfl
    | some i =>
      obtain ⟨h1, h2, -⟩ := sl_dc h
      show (if 73 ≤ i then stR v k i - 1 else stR v k i) = v.1 c j
      unfold stR
      rw [if_pos h2, h1]
      by_cases h3 : 73 ≤ i
      · rw [if_pos h3, if_pos h3, i_pm]
      · rw [if_neg h3, if_neg h3]
  rw [e]
theorem st_upx {v : SV} {k c j i : Nat} {d : Nat → Int32} {x y : Int32} (h : sl k c j = some i) (hx : (if 73 ≤ i then y - 1 else y) = x) : up (stW v k d) c j x = stW v k (upd d i y) := by
  show ((va_up (stW v k d).1 c (upd ((stW v k d).1 c) j x)), v.2) = ((stW v k (upd d i y)).1, v.2)
  congr 1
  funext c' j'
  by_cases hc : c' = c
  · subst hc
    simp only [va_up, if_true]
    by_cases hj : j' = j
    · subst hj
      show upd ((stW v k d).1 c') j' x j' = _
      rw [show upd ((stW v k d).1 c') j' x j' = x from if_pos rfl]
      show x = (match sl k c' j' with | some i => (if 73 ≤ i then upd d _ y i - 1 else upd d _ y i) | none => v.1 c' j')
      rw [h]
      show x = (if 73 ≤ i then upd d i y i - 1 else upd d i y i)
      rw [show upd d i y i = y from if_pos rfl, hx]
    · show upd ((stW v k d).1 c') j x j' = _
      rw [show upd ((stW v k d).1 c') j x j' = (stW v k d).1 c' j' from if_neg hj]
      show (match sl k c' j' with | some i => (if 73 ≤ i then d i - 1 else d i) | none => v.1 c' j') = (match sl k c' j' with | some i2 => (if 73 ≤ i2 then upd d i y i2 - 1 else upd d i y i2) | none => v.1 c' j')
      cases h2 : sl k c' j' with
      | none => rfl
      | some i2 =>
        have h3 : i2 ≠ i := fun e => by
          have a := (sl_dc h).1
          have b := (sl_dc h2).1
          rw [e, a] at b
          exact hj (by injection b with _ b2; exact b2.symm)
        show (if 73 ≤ i2 then d i2 - 1 else d i2) = (if 73 ≤ i2 then upd d i y i2 - 1 else upd d i y i2)
        rw [show upd d i y i2 = d i2 from if_neg h3]
  · rw [show va_up (stW v k d).1 c (upd ((stW v k d).1 c) j x) c' = (stW v k d).1 c' from if_neg hc]
    show (match sl k c' j' with | some i => (if 73 ≤ i then d i - 1 else d i) | none => v.1 c' j') = (match sl k c' j' with | some i2 => (if 73 ≤ i2 then upd d i y i2 - 1 else upd d i y i2) | none => v.1 c' j')
    cases h2 : sl k c' j' with
    | none => rfl
    | some i2 =>
      have h3 : i2 ≠ i := fun e => by
        have a := (sl_dc h).1
        have b := (sl_dc h2).1
        rw [e, a] at b
        exact hc (by injection b with b1 _; exact b1.symm)
      show (if 73 ≤ i2 then d i2 - 1 else d i2) = (if 73 ≤ i2 then upd d i y i2 - 1 else upd d i y i2)
      rw [show upd d i y i2 = d i2 from if_neg h3]
theorem st_up {v : SV} {k c j i : Nat} {d : Nat → Int32} {x : Int32} (h : sl k c j = some i) (hi : i < 73) : up (stW v k d) c j x = stW v k (upd d i x) := st_upx h (if_neg (by omega))
theorem st_upS {v : SV} {k c j i : Nat} {d : Nat → Int32} {x : Int32} (h : sl k c j = some i) (hi : 73 ≤ i) : up (stW v k d) c j x = stW v k (upd d i (x + 1)) := st_upx h (by rw [if_pos hi, i_pm])
/-- rows that differ beyond 83 alone make the same street -/
theorem st_cong {v : SV} {k : Nat} {d d2 : Nat → Int32} (h : ∀ j, j < 83 → d j = d2 j) : stW v k d = stW v k d2 := by
  show ((fun c j => match sl k c j with | some i => (if 73 ≤ i then d i - 1 else d i) | none => v.1 c j), v.2) = ((fun c j => match sl k c j with | some i => (if 73 ≤ i then d2 i - 1 else d2 i) | none => v.1 c j), v.2)
  congr 1
  funext c j
  cases h2 : sl k c j with
  | none => rfl
  | some i => show (if 73 ≤ i then d i - 1 else d i) = (if 73 ≤ i then d2 i - 1 else d2 i); rw [h i (sl_dc h2).2.1]
theorem sl_k {k j i : Nat} (h : slK j = some i) : sl k k j = some i := by rw [sl, if_pos rfl, h]
theorem sl_1 {k i : Nat} (h : i < 6) : sl k (k + 1) i = some (7 + i) := by rw [sl, if_neg (by omega), if_pos rfl, if_pos h]
theorem sl_2 {k i : Nat} (h : i < 12) : sl k (k + 2) i = some (13 + i) := by rw [sl, if_neg (by omega), if_neg (by omega), if_pos rfl, if_pos h]
theorem sl_4 {k i : Nat} (h : i < 10) : sl k (k + 4) i = some (73 + i) := by rw [sl, if_neg (by omega), if_neg (by omega), if_neg (by omega), if_pos rfl, if_pos h]
theorem sl_5 {k r w : Nat} (h : r < 8) (hw : w < 6) : sl k (k + 5 + r) w = some (25 + 8 * w + r) := by
  rw [sl, if_neg (by omega), if_neg (by omega), if_neg (by omega), if_neg (by omega), if_pos (by omega)]
  congr 1
  omega
abbrev isSt (k : Nat) : Prop := k = 1 ∨ k = 14 ∨ k = 27
theorem kd_st {k : Nat} (h : isSt k) : kd k = 2 ∧ kd (k + 1) = 8 ∧ kd (k + 2) = 8 ∧ kd (k + 3) = 9 ∧ kd (k + 4) = 8 ∧ ln (k + 1) = 6 ∧ ln (k + 2) = 12 ∧ ln (k + 4) = 10 := by
  rcases h with rfl | rfl | rfl <;> decide
theorem kd_stR : ∀ k, k = 1 ∨ k = 14 ∨ k = 27 → ∀ r, r < 8 → kd (k + 5 + r) = 0 := by
  intro k h
  rcases h with rfl | rfl | rfl <;> decide
