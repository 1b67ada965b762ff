/-! what will be, what to cry -/
abbrev hrP (R : Nat → Int32) (x y : Int32) : Prop := if x = 4 then y ≤ R 4 else if x = 3 then R 3 ≤ y else wantF R y
theorem hr6 {R S : Nat → Int32} (h : six R S) (x y : Int32) : hrP R x y = hrP S x y := by unfold hrP; rw [h 4 (by decide), h 3 (by decide), want6 h]
theorem six_trans {R S T : Nat → Int32} (h : six R S) (h2 : six S T) : six R T := fun w hw => (h w hw).trans (h2 w hw)
theorem fnd_aside (w : SV) (j : Nat) : fnd (asideM w) j = asideM (fnd w j) := by
  unfold fnd asideM
  show upw (upw w 56 (cpyM (w.1 54) (w.1 56) 83)) 58 (upd ((upw w 56 (cpyM (w.1 54) (w.1 56) 83)).1 58) j _) = upw (upw w 58 _) 56 (cpyM ((upw w 58 _).1 54) ((upw w 58 _).1 56) 83)
  rw [upw_ne _ _ (show 58 ≠ 56 by decide), upw_ne _ _ (show 54 ≠ 58 by decide), upw_ne _ _ (show 56 ≠ 58 by decide)]
  unfold upw
  rw [up_swap _ (by decide)]
theorem ps_fdA {v u : SV} {N j : Nat} {f : SV → Int32 × SV} {x : Int32} (hR : Rl v N) (h : sam v u) (hj : j < 7) (e : f (fnC u j) = fdM (asideM (fnC u j)) j) (hx : x = -1000001 - nI j) : Ps x (f (fnC u j)) := by
  rw [e]
  refine ⟨hx, N, ?_⟩
  show Rl (fnd (asideM (fnC u j)) j) N
  rw [fnd_aside]
  exact Rl_sam (Rl_fn (Rl_sam hR h) hj) (sam_aside _)
theorem stands_eq {d : Nat → Int32} {N r : Nat} {y : Int32} (h : okC d N) (hr : r < N) : (fun t => inP (daysM d t (57 + r)) y 9999) = (fun t => hrP (rowM (daysM d t) r) 4 y) := by
  funext t
  obtain ⟨m, hm, e⟩ := okC_R (okC_days h t) hr 4 (by decide)
  have e2 : daysM d t (57 + r) = nI m := e
  apply propext
  show (y.toInt64 ≤ (daysM d t (57 + r)).toInt64 ∧ (daysM d t (57 + r)).toInt64 ≤ (9999 : Int32).toInt64) ↔ hrP (rowM (daysM d t) r) 4 y
  unfold hrP
  rw [if_pos rfl, show rowM (daysM d t) r 4 = daysM d t (57 + r) from rfl, fa_le64, fa_le64, toInt64_toInt, toInt64_toInt, fa_le, e2, nI_toInt (by have : tpW 4 = 10000 := rfl; omega)]
  have : ((9999 : Int32).toInt64).toInt = 9999 := rfl
  have : tpW 4 = 10000 := rfl
  omega
theorem despair_eq {d : Nat → Int32} {N r : Nat} {y : Int32} (h : okC d N) (hr : r < N) : (fun t => inP (daysM d t (49 + r)) 0 y) = (fun t => hrP (rowM (daysM d t) r) 3 y) := by
  funext t
  obtain ⟨m, hm, e⟩ := okC_R (okC_days h t) hr 3 (by decide)
  have e2 : daysM d t (49 + r) = nI m := e
  apply propext
  show ((0 : Int32).toInt64 ≤ (daysM d t (49 + r)).toInt64 ∧ (daysM d t (49 + r)).toInt64 ≤ y.toInt64) ↔ hrP (rowM (daysM d t) r) 3 y
  unfold hrP
  rw [if_neg (by decide), if_pos rfl, show rowM (daysM d t) r 3 = daysM d t (49 + r) from rfl, fa_le64, fa_le64, toInt64_toInt, toInt64_toInt, toInt64_toInt, fa_le, e2, nI_toInt (by have : tpW 3 = 100 := rfl; omega)]
  have : (0 : Int32).toInt = 0 := rfl
  omega
theorem wants_eq {d : Nat → Int32} {r : Nat} {y : Int32} : (fun t => wantF (rowM (daysM d t) r) y) = (fun t => hrP (rowM (daysM d t) r) 2 y) := by
  funext t
  unfold hrP
  rw [if_neg (by decide), if_neg (by decide)]
def bst (O : Nat → Int32) : Nat → Nat
  | 0 => 0
  | i + 1 => if i = 0 then 0 else if O i ≤ O (bst O i) then bst O i else i
theorem bst_lt (O : Nat → Int32) : ∀ i, 1 ≤ i → bst O i < i
  | 0, h => absurd h (by decide)
  | i + 1, _ => by
    rw [bst]
    split
    · omega
    · split
      · have := bst_lt O i (by omega); omega
      · omega
theorem bst_no {O : Nat → Int32} {i : Nat} (hi : 1 ≤ i) (h : O i ≤ O (bst O i)) : bst O (i + 1) = bst O i := by rw [bst, if_neg (by omega), if_pos h]
theorem bst_yes {O : Nat → Int32} {i : Nat} (hi : 1 ≤ i) (h : ¬ O i ≤ O (bst O i)) : bst O (i + 1) = i := by rw [bst, if_neg (by omega), if_neg h]
theorem bt_bst {d O : Nat → Int32} {wh ob k T : Nat} (h : ∀ j, j < T → O j = daysM (upd d wh (nI j)) k ob ∧ ∃ m, m < 2 ^ 31 ∧ O j = nI m) : ∀ i, i + 1 ≤ T → btM d wh ob k (i + 1) = (nI (bst O (i + 1)), O (bst O (i + 1)))
  | 0, hi => by
    obtain ⟨a, m, hm, e⟩ := h 0 (by omega)
    rw [btM_yes]
    · rw [← a]; rfl
    · rw [← a, e]
      show ¬ nI m ≤ -1
      rw [fa_le, nI_toInt hm]
      have : (-1 : Int32).toInt = -1 := rfl
      omega
  | i + 1, hi => by
    have ih := bt_bst h i (by omega)
    obtain ⟨a, -⟩ := h (i + 1) (by omega)
    by_cases q : O (i + 1) ≤ O (bst O (i + 1))
    · rw [btM_no (by rw [ih, ← a]; exact q), ih, bst_no (by omega) q]
    · rw [btM_yes (by rw [ih, ← a]; exact q), bst_yes (by omega) q, ← a]
theorem gold_nat {d : Nat → Int32} {N : Nat} (h : okC d N) : ∃ m, m < 2 ^ 31 ∧ d 6 = nI m := by
  obtain ⟨m, hm, e⟩ := h.2.2 6 (by decide) (by decide) (by decide) (Or.inl (by decide))
  have : tp N 6 = 100000 := rfl
  exact ⟨m, by omega, e⟩
theorem stood_nat {d : Nat → Int32} {N r : Nat} (h : okC d N) (hr : r < N) : ∃ m, m < 2 ^ 31 ∧ d (57 + r) = nI m := by
  obtain ⟨m, hm, e⟩ := okC_R h hr 4 (by decide)
  have : tpW 4 = 10000 := rfl
  exact ⟨m, by omega, e⟩
theorem cry_ans {v u : SV} {N jx jy : Nat} (hD : okC (v.1 54) N) (hx : jx < 6) (hO : ∀ j, j < 12 → u.1 40 j = daysM (upd (v.1 54) (7 + jx) (nI j)) jy 6) : nI (bst (u.1 40) 12) = (btM (v.1 54) (7 + jx) 6 jy (11 + 1)).1 := by
  rw [bt_bst (O := u.1 40) (T := 12) (fun j hj => ⟨hO j hj, by rw [hO j hj]; exact gold_nat (okC_days (okC_list hD hx hj rfl) jy)⟩) 11 (by decide)]
theorem start_ans {v u : SV} {N jy : Nat} (hD : okC (v.1 54) N) (hO : ∀ j, j < 16 → u.1 40 j = daysM (upd (v.1 54) 3 (nI j)) jy 6) : nI (bst (u.1 40) 16) = (btM (v.1 54) 3 6 jy (15 + 1)).1 := by
  rw [bt_bst (O := u.1 40) (T := 16) (fun j hj => ⟨hO j hj, by rw [hO j hj]; exact gold_nat (okC_days (okC_upd (i := 3) hD (by decide) (Or.inr ⟨j, hj, rfl⟩)) jy)⟩) 15 (by decide)]
theorem kind_ans {v u : SV} {N jx jy : Nat} (hD : okC (v.1 54) N) (hx : jx < N) (hO : ∀ j, j < 7 → u.1 40 j = daysM (upd (v.1 54) (25 + jx) (nI j)) jy (57 + jx)) : nI (bst (u.1 40) 7) = (btM (v.1 54) (25 + jx) (57 + jx) jy (6 + 1)).1 := by
  have h8 := hD.1
  rw [bt_bst (O := u.1 40) (T := 7) (fun j hj => ⟨hO j hj, by rw [hO j hj]; exact stood_nat (okC_days (okC_res (w := 0) hD (by decide) (show jx < 8 by omega) hj rfl) jy) hx⟩) 6 (by decide)]
theorem out_step {O : Nat → Int32} {f : Nat → Int32} {i : Nat} {x : Int32} (h : ∀ j, j < i → O j = f j) (e : x = f i) : ∀ j, j < i + 1 → upd O i x j = f j := by
  intro j hj
  by_cases q : j = i
  · rw [q, pk_us, e]
  · rw [pk_un q]; exact h j (by omega)
