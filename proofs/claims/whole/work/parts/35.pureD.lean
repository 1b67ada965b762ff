/-! whole rows of a street at once -/
theorem st_wr {w : SV} {k c : Nat} {D D2 R : Nat → Int32} (h1 : ∀ j i, sl k c j = some i → R j = (if 73 ≤ i then D2 i - 1 else D2 i)) (h2 : ∀ j, sl k c j = none → R j = w.1 c j) (h3 : ∀ c2 j i, c2 ≠ c → sl k c2 j = some i → D2 i = D i) : upw (stW w k D) c R = stW w k D2 := by
  show (va_up (stW w k D).1 c R, w.2) = ((stW w k D2).1, w.2)
  congr 1
  funext c2 j
  by_cases hc : c2 = c
  · subst hc
    rw [show va_up (stW w k D).1 c2 R c2 = R from if_pos rfl]
    show R j = (match sl k c2 j with | some i => (if 73 ≤ i then D2 i - 1 else D2 i) | none => w.1 c2 j)
    cases h : sl k c2 j with
    | none => exact h2 j h
    | some i => exact h1 j i h
  · rw [show va_up (stW w k D).1 c R c2 = (stW w k D).1 c2 from if_neg hc]
    show (match sl k c2 j with | some i => (if 73 ≤ i then D i - 1 else D i) | none => w.1 c2 j) = (match sl k c2 j with | some i => (if 73 ≤ i then D2 i - 1 else D2 i) | none => w.1 c2 j)
    cases h : sl k c2 j with
    | none => rfl
    | some i =>
      show (if 73 ≤ i then D i - 1 else D i) = (if 73 ≤ i then D2 i - 1 else D2 i)
      rw [h3 c2 j i hc h]
theorem sl_2i {k j i : Nat} (h : sl k (k + 2) j = some i) : j < 12 ∧ i = 13 + j := by
  rw [sl, if_neg (by omega), if_neg (by omega), if_pos rfl] at h
  split at h
  · cases h; exact ⟨by omega, rfl⟩
  · cases h
theorem sl_1i {k j i : Nat} (h : sl k (k + 1) j = some i) : j < 6 ∧ i = 7 + j := by
  rw [sl, if_neg (by omega), if_pos rfl] at h
  split at h
  · cases h; exact ⟨by omega, rfl⟩
  · cases h
theorem sl_4i {k j i : Nat} (h : sl k (k + 4) j = some i) : j < 10 ∧ i = 73 + j := by
  rw [sl, if_neg (by omega), if_neg (by omega), if_neg (by omega), if_pos rfl] at h
  split at h
  · cases h; exact ⟨by omega, rfl⟩
  · cases h
theorem sl_2n {k j : Nat} (h : sl k (k + 2) j = none) : ¬ j < 12 := fun q => by rw [sl_2 q] at h; cases h
theorem sl_1n {k j : Nat} (h : sl k (k + 1) j = none) : ¬ j < 6 := fun q => by rw [sl_1 q] at h; cases h
theorem sl_4n {k j : Nat} (h : sl k (k + 4) j = none) : ¬ j < 10 := fun q => by rw [sl_4 q] at h; cases h
theorem dc_reg {k i : Nat} (h1 : 13 ≤ i) (h2 : i < 25) : (dc k i).1 = k + 2 := by rw [dc, if_neg (by omega), if_neg (by omega), if_pos h2]
theorem dc_list {k i : Nat} (h1 : 7 ≤ i) (h2 : i < 13) : (dc k i).1 = k + 1 := by rw [dc, if_neg (by omega), if_pos h2]
theorem dc_spot {k i : Nat} (h1 : 73 ≤ i) : (dc k i).1 = k + 4 := by rw [dc, if_neg (by omega), if_neg (by omega), if_neg (by omega), if_neg (by omega)]
theorem sl_c {k c j i : Nat} (h : sl k c j = some i) : (dc k i).1 = c := by rw [(sl_dc h).1]
theorem st_fill {w : SV} {k : Nat} {D : Nat → Int32} : upw (stW w k D) (k + 2) (fillM ((stW w k D).1 (k + 2)) 0 12) = stW w k (clrM D 12) := by
  refine st_wr (fun j i h => ?_) (fun j h => ?_) (fun c2 j i hc h => ?_)
  · obtain ⟨a, rfl⟩ := sl_2i h
    rw [if_neg (by omega), fillM, if_pos a, clrM, if_pos (by omega)]
  · rw [fillM, if_neg (sl_2n h), st_no h]
  · have h4 := sl_c h
    rw [clrM]
    by_cases h5 : 13 ≤ i ∧ i < 13 + 12
    · exact absurd ((dc_reg (k := k) h5.1 (by omega)).symm.trans h4) (fun e => hc e.symm)
    · rw [if_neg h5]
def seg (D e : Nat → Int32) (a b : Nat) : Nat → Int32 := fun j => if a ≤ j ∧ j < b then e j else D j
theorem st_cp1 {w : SV} {k o : Nat} {D : Nat → Int32} (hd : o + 13 ≤ k ∨ k + 13 ≤ o) : upw (stW w k D) (k + 1) (va_cpy ((stW w k D).1 (o + 1)) ((stW w k D).1 (k + 1)) 0 0 6) = stW w k (seg D (stR w o) 7 13) := by
  refine st_wr (fun j i h => ?_) (fun j h => ?_) (fun c2 j i hc h => ?_)
  · obtain ⟨a, rfl⟩ := sl_1i h
    rw [if_neg (by omega), pk_cpy_in (by omega) (by omega), st_far (by omega), seg, if_pos (by omega), stR, if_pos (by omega), if_neg (by omega), dc, if_neg (by omega), if_pos (by omega)]
    show w.1 (o + 1) (0 + (j - 0)) = w.1 (o + 1) (7 + j - 7)
    rw [show 0 + (j - 0) = 7 + j - 7 by omega]
  · rw [pk_cpy_out (Or.inr (by have := sl_1n h; omega)), st_no h]
  · have h4 := sl_c h
    rw [seg]
    by_cases h5 : 7 ≤ i ∧ i < 13
    · exact absurd ((dc_list (k := k) h5.1 (by omega)).symm.trans h4) (fun e => hc e.symm)
    · rw [if_neg h5]
theorem st_cp2 {w : SV} {k o : Nat} {D : Nat → Int32} (hd : o + 13 ≤ k ∨ k + 13 ≤ o) : upw (stW w k D) (k + 2) (va_cpy ((stW w k D).1 (o + 2)) ((stW w k D).1 (k + 2)) 0 0 12) = stW w k (seg D (stR w o) 13 25) := by
  refine st_wr (fun j i h => ?_) (fun j h => ?_) (fun c2 j i hc h => ?_)
  · obtain ⟨a, rfl⟩ := sl_2i h
    rw [if_neg (by omega), pk_cpy_in (by omega) (by omega), st_far (by omega), seg, if_pos (by omega), stR, if_pos (by omega), if_neg (by omega), dc, if_neg (by omega), if_neg (by omega), if_pos (by omega)]
    show w.1 (o + 2) (0 + (j - 0)) = w.1 (o + 2) (13 + j - 13)
    rw [show 0 + (j - 0) = 13 + j - 13 by omega]
  · rw [pk_cpy_out (Or.inr (by have := sl_2n h; omega)), st_no h]
  · have h4 := sl_c h
    rw [seg]
    by_cases h5 : 13 ≤ i ∧ i < 25
    · exact absurd ((dc_reg (k := k) h5.1 (by omega)).symm.trans h4) (fun e => hc e.symm)
    · rw [if_neg h5]
theorem st_cp4 {w : SV} {k o : Nat} {D : Nat → Int32} (hd : o + 13 ≤ k ∨ k + 13 ≤ o) : upw (stW w k D) (k + 4) (va_cpy ((stW w k D).1 (o + 4)) ((stW w k D).1 (k + 4)) 0 0 10) = stW w k (seg D (stR w o) 73 83) := by
  refine st_wr (fun j i h => ?_) (fun j h => ?_) (fun c2 j i hc h => ?_)
  · obtain ⟨a, rfl⟩ := sl_4i h
    rw [if_pos (by omega), pk_cpy_in (by omega) (by omega), st_far (by omega), seg, if_pos (by omega), stR, if_pos (by omega), if_pos (by omega), dc, if_neg (by omega), if_neg (by omega), if_neg (by omega), if_neg (by omega), i_pm]
    show w.1 (o + 4) (0 + (j - 0)) = w.1 (o + 4) (73 + j - 73)
    rw [show 0 + (j - 0) = 73 + j - 73 by omega]
  · rw [pk_cpy_out (Or.inr (by have := sl_4n h; omega)), st_no h]
  · have h4 := sl_c h
    have h6 := (sl_dc h).2.1
    rw [seg]
    by_cases h5 : 73 ≤ i ∧ i < 83
    · exact absurd ((dc_spot (k := k) h5.1).symm.trans h4) (fun e => hc e.symm)
    · rw [if_neg h5]
def rsg (D e : Nat → Int32) (r : Nat) : Nat → Int32 := upd (upd (upd (upd (upd (upd D (25 + 8 * 0 + r) (e (25 + 8 * 0 + r))) (25 + 8 * 1 + r) (e (25 + 8 * 1 + r))) (25 + 8 * 2 + r) (e (25 + 8 * 2 + r))) (25 + 8 * 3 + r) (e (25 + 8 * 3 + r))) (25 + 8 * 4 + r) (e (25 + 8 * 4 + r))) (25 + 8 * 5 + r) (e (25 + 8 * 5 + r))
theorem stR_res {w : SV} {o r j : Nat} (hr : r < 8) (hj : j < 6) : stR w o (25 + 8 * j + r) = w.1 (o + 5 + r) j := by
  rw [stR, if_pos (by omega), if_neg (by omega), dc, if_neg (by omega), if_neg (by omega), if_neg (by omega), if_pos (by omega)]
  show w.1 (o + 5 + (25 + 8 * j + r - 25) % 8) ((25 + 8 * j + r - 25) / 8) = w.1 (o + 5 + r) j
  rw [show (25 + 8 * j + r - 25) % 8 = r by omega, show (25 + 8 * j + r - 25) / 8 = j by omega]
theorem st_bec {w : SV} {k o r : Nat} {D : Nat → Int32} (hr : r < 8) (hd : o + 13 ≤ k ∨ k + 13 ≤ o) : upw (stW w k D) (k + 5 + r) (becR ((stW w k D).1 (k + 5 + r)) ((stW w k D).1 (o + 5 + r))) = stW w k (rsg D (stR w o) r) := by
  rw [show (stW w k D).1 (o + 5 + r) = w.1 (o + 5 + r) from st_far (by omega)]
  unfold becR rsg
  rw [stR_res hr (by decide), stR_res hr (by decide), stR_res hr (by decide), stR_res hr (by decide), stR_res hr (by decide), stR_res hr (by decide)]
  exact st_row (st_row (st_row (st_row (st_row (st_row (upw_self _ _) hr (by decide)) hr (by decide)) hr (by decide)) hr (by decide)) hr (by decide)) hr (by decide)
def rlM (D e : Nat → Int32) : Nat → Nat → Int32
  | 0 => D
  | i + 1 => rsg (rlM D e i) e i
theorem rsg_at {D e : Nat → Int32} {r j : Nat} : rsg D e r j = cif (∃ w, w < 6 ∧ j = 25 + 8 * w + r) (e j) (D j) := by
  by_cases h : ∃ w, w < 6 ∧ j = 25 + 8 * w + r
  · rw [cif_pos h]
    obtain ⟨w, hw, rfl⟩ := h
    unfold rsg
    have : w = 0 ∨ w = 1 ∨ w = 2 ∨ w = 3 ∨ w = 4 ∨ w = 5 := by omega
    rcases this with rfl | rfl | rfl | rfl | rfl | rfl
    · rw [pk_un (by omega), pk_un (by omega), pk_un (by omega), pk_un (by omega), pk_un (by omega), pk_us]
    · rw [pk_un (by omega), pk_un (by omega), pk_un (by omega), pk_un (by omega), pk_us]
    · rw [pk_un (by omega), pk_un (by omega), pk_un (by omega), pk_us]
    · rw [pk_un (by omega), pk_un (by omega), pk_us]
    · rw [pk_un (by omega), pk_us]
    · rw [pk_us]
  · rw [cif_neg h]
    unfold rsg
    have hh : ∀ w, w < 6 → j ≠ 25 + 8 * w + r := fun w hw e => h ⟨w, hw, e⟩
    rw [pk_un (hh 5 (by decide)), pk_un (hh 4 (by decide)), pk_un (hh 3 (by decide)), pk_un (hh 2 (by decide)), pk_un (hh 1 (by decide)), pk_un (hh 0 (by decide))]
theorem rl_at {D e : Nat → Int32} {j : Nat} : ∀ i, i ≤ 8 → rlM D e i j = if 25 ≤ j ∧ j < 73 ∧ (j - 25) % 8 < i then e j else D j
  | 0, _ => by rw [if_neg (by omega)]; rfl
  | i + 1, hi => by
    rw [rlM, rsg_at, rl_at i (by omega)]
    by_cases h : ∃ w, w < 6 ∧ j = 25 + 8 * w + i
    · rw [cif_pos h]
      obtain ⟨w, hw, e⟩ := h
      rw [if_pos (by omega)]
    · rw [cif_neg h]
      by_cases h2 : 25 ≤ j ∧ j < 73 ∧ (j - 25) % 8 < i
      · rw [if_pos h2, if_pos (by omega)]
      · rw [if_neg h2, if_neg]
        intro h3
        refine h ⟨(j - 25) / 8, by omega, ?_⟩
        have : (j - 25) % 8 = i := by
          by_cases h4 : (j - 25) % 8 < i
          · exact absurd ⟨h3.1, h3.2.1, h4⟩ h2
          · omega
        omega
def bc1 (D e : Nat → Int32) : Nat → Int32 := upd (upd (upd (upd (seg (seg (upd (upd (upd D 3 (e 3)) 4 (e 4)) 5 (e 5)) e 7 13) e 13 25) 6 (e 6)) 1 (e 1)) 2 (e 2)) 0 (e 0)
theorem bec_eq {D e : Nat → Int32} {N j : Nat} (hN : N ≤ 8) (hj : j < 83) : seg (rlM (bc1 D e) e N) e 73 83 j = becM D e N j := by
  unfold seg becM
  by_cases h1 : 73 ≤ j
  · rw [if_pos ⟨h1, hj⟩, if_pos (Or.inr (Or.inl h1))]
  · rw [if_neg (by omega), rl_at N hN]
    by_cases h2 : 25 ≤ j
    · by_cases h3 : (j - 25) % 8 < N
      · rw [if_pos ⟨h2, by omega, h3⟩, if_pos (Or.inr (Or.inr h3))]
      · rw [if_neg (by omega), if_neg (by omega)]
        unfold bc1 seg
        simp only [upd]
        rw [if_neg (by omega), if_neg (by omega), if_neg (by omega), if_neg (by omega), if_neg (by omega), if_neg (by omega), if_neg (by omega), if_neg (by omega), if_neg (by omega)]
    · rw [if_neg (by omega), if_pos (Or.inl (by omega))]
      unfold bc1 seg
      simp only [upd]
      by_cases q0 : j = 0
      · rw [if_pos q0, q0]
      · rw [if_neg q0]
        by_cases q2 : j = 2
        · rw [if_pos q2, q2]
        · rw [if_neg q2]
          by_cases q1 : j = 1
          · rw [if_pos q1, q1]
          · rw [if_neg q1]
            by_cases q6 : j = 6
            · rw [if_pos q6, q6]
            · rw [if_neg q6]
              by_cases qr : 13 ≤ j ∧ j < 25
              · rw [if_pos qr]
              · rw [if_neg qr]
                by_cases ql : 7 ≤ j ∧ j < 13
                · rw [if_pos ql]
                · rw [if_neg ql]
                  by_cases q5 : j = 5
                  · rw [if_pos q5, q5]
                  · rw [if_neg q5]
                    by_cases q4 : j = 4
                    · rw [if_pos q4, q4]
                    · rw [if_neg q4, if_pos (by omega), show j = 3 by omega]
theorem st_become {w : SV} {k N : Nat} {D e : Nat → Int32} (hN : N ≤ 8) : stW w k (seg (rlM (bc1 D e) e N) e 73 83) = stW w k (becM D e N) := st_cong (fun _ hj => bec_eq hN hj)
theorem gf_pos {d : Nat → Int32} {N : Nat} (h : okC d N) : 0 ≤ d 6 + fetchM d := by
  obtain ⟨a, ha, ea⟩ := h.2.2 6 (by decide) (by decide) (by decide) (Or.inl (by decide))
  have h6 : tp N 6 = 100000 := rfl
  have hm : ∀ k, k ≤ 12 → ∃ m, m < 1000 ∧ mostM d k = nI m := by
    intro k
    induction k with
    | zero => exact fun _ => ⟨0, by decide, rfl⟩
    | succ k ih =>
      intro hk
      obtain ⟨m, h1, h2⟩ := ih (by omega)
      rw [mostM]
      split
      · exact ⟨m, h1, h2⟩
      · exact okC_reg h (by omega)
  have hn : ∀ k, ∃ m, m ≤ k ∧ manyM d k = nI m := by
    intro k
    induction k with
    | zero => exact ⟨0, by decide, rfl⟩
    | succ k ih =>
      obtain ⟨m, h1, h2⟩ := ih
      rw [manyM, h2]
      split
      · exact ⟨m, by omega, nI_add m 0⟩
      · exact ⟨m + 1, by omega, nI_add m 1⟩
  obtain ⟨b, hb, eb⟩ := hm 12 (by decide)
  obtain ⟨c, hc, ec⟩ := hn 12
  unfold fetchM
  rw [ea, eb, ec, show (5 : Int32) = nI 5 from rfl, pk_mul, nI_add, nI_add]
  exact nI_pos' (by omega)
theorem sellM_1 {d : Nat → Int32} : sellM d 1 = d 1 := by
  unfold sellM
  split
  · rfl
  · rfl
