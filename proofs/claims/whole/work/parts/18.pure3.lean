/-! what will be: the row is put aside, days go by in it, it is put back -/
def asideM (v : SV) : SV := upw v 56 (cpyM (v.1 54) (v.1 56) 83)
theorem asideM_54 (v : SV) : (asideM v).1 54 = v.1 54 := upw_ne v _ (by decide)
theorem okA {v : SV} {N : Nat} (h : okM (v.1 54) N) : okM ((asideM v).1 54) N := by rw [asideM_54]; exact h
theorem asideM_56 (v : SV) : (asideM v).1 56 = cpyM (v.1 54) (v.1 56) 83 := upw_same v _ _
theorem restoreA {v : SV} {X : Nat → Int32} (hX : ∀ j, 83 ≤ j → X j = v.1 54 j) : upw (asideM v) 54 (cpyM ((asideM v).1 56) X 83) = asideM v := by
  have e : cpyM ((asideM v).1 56) X 83 = (asideM v).1 54 := by
    rw [asideM_54, asideM_56]
    funext j
    simp only [cpyM]
    by_cases h : j < 83
    · rw [if_pos h, if_pos h]
    · rw [if_neg h]; exact hX j (by omega)
  rw [e, upw_self]
theorem restoreM {v : SV} {X : Nat → Int32} (hX : ∀ j, 83 ≤ j → X j = v.1 54 j) : upw (upw (asideM v) 54 X) 54 (cpyM ((upw (asideM v) 54 X).1 56) ((upw (asideM v) 54 X).1 54) 83) = asideM v := by
  rw [upw_upw, upw_same, upw_ne _ _ (by decide)]
  exact restoreA hX
theorem restoreB {v : SV} {k : Nat} (hX : ∀ j, 83 ≤ j → daysM (v.1 54) k j = v.1 54 j) : upw (asideM v) 54 (cpyM ((asideM v).1 56) (daysM ((asideM v).1 54) k) 83) = asideM v := by
  rw [asideM_54]
  exact restoreA hX
theorem restoreC {v : SV} {k : Nat} {r : Nat → Int32} (hX : ∀ j, 83 ≤ j → daysM r k j = v.1 54 j) : upw (upw (asideM v) 54 r) 54 (cpyM ((upw (asideM v) 54 r).1 56) (daysM ((upw (asideM v) 54 r).1 54) k) 83) = asideM v := by
  rw [upw_upw, upw_same, upw_ne _ _ (by decide)]
  exact restoreA hX
theorem stepM_hi {d : Nat → Int32} {q r j : Nat} (hj : 83 ≤ j) (hr : r < 8) (hq : q < 12) : stepM d q r j = d j := by
  unfold stepM
  split
  · rfl
  · split
    · simp only [upd]
      rw [if_neg (by omega), if_neg (by omega), if_neg (by omega)]
    · simp only [upd]
      rw [if_neg (by omega), if_neg (by omega)]
theorem lpM_hi {d : Nat → Int32} {q j : Nat} (h : 83 ≤ j) (hq : q < 12) : ∀ i, i ≤ 8 → lpM d q i j = d j
  | 0, _ => rfl
  | i + 1, hi => by
    rw [lpM, stepM_hi h (by omega) hq]
    exact lpM_hi h hq i (by omega)
theorem dayM_hi {d : Nat → Int32} {N j : Nat} (h : okM d N) (hj : 83 ≤ j) : dayM d j = d j := by
  have h8 := h.1
  unfold dayM
  rw [h.2.1, nI_clamp (by omega)]
  have e1 : ∀ z : Nat → Int32, nextM z j = z j := fun z => by simp only [nextM, upd]; rw [if_neg (by omega)]
  have e2 : ∀ z : Nat → Int32, sellM z j = z j := fun z => by
    unfold sellM
    split
    · simp only [clrM, upd]
      rw [if_neg (by omega), if_neg (by omega)]
    · rfl
  rw [e1, e2, lpM_hi hj (okM_gq (okM_mv h)).1 N h8]
  simp only [mvM, upd]
  rw [if_neg (by omega)]
theorem daysM_hi {d : Nat → Int32} {N j : Nat} (h : okM d N) (hj : 83 ≤ j) : ∀ i, daysM d i j = d j
  | 0 => rfl
  | i + 1 => by rw [daysM, dayM_hi (okM_days h i) hj]; exact daysM_hi h hj i
noncomputable def aheadV (v : SV) (x y z : Int32) : Int32 × SV := cif (∃ j : Nat, j < 101 ∧ z = nI j) (tellF (rowM (daysM (v.1 54) z.toNatClampNeg) x.toNatClampNeg) y (daysM (v.1 54) z.toNatClampNeg 3) (daysM (v.1 54) z.toNatClampNeg 5), asideM v) (fdM v 0)
noncomputable def aheadM (v : SV) (x y z : Int32) : Int32 × SV := cif (∃ j : Nat, j < nM v ∧ x = nI j) (cif (∃ j : Nat, 2 ≤ j ∧ j < 5 ∧ y = nI j) (cif (∃ j : Nat, j < 101 ∧ z = nI j) (tellF (rowM (daysM (v.1 54) z.toNatClampNeg) x.toNatClampNeg) y (daysM (v.1 54) z.toNatClampNeg 3) (daysM (v.1 54) z.toNatClampNeg 5), asideM v) (fdM v 0)) (if y = 6 then cif (∃ j : Nat, j < 101 ∧ z = nI j) (tellF (rowM (daysM (v.1 54) z.toNatClampNeg) x.toNatClampNeg) y (daysM (v.1 54) z.toNatClampNeg 3) (daysM (v.1 54) z.toNatClampNeg 5), asideM v) (fdM v 0) else fdM v 0)) (fdM v 0)
noncomputable def goldM (v : SV) (x : Int32) : Int32 × SV := cif (∃ j : Nat, j < 101 ∧ x = nI j) (daysM (v.1 54) x.toNatClampNeg 6, asideM v) (fdM v 0)
noncomputable def lk (P : Nat → Prop) : Nat → Nat → Nat
  | 0, i => i
  | k + 1, i => cif (P i) i (lk P k (i + 1))
theorem lk_yes {P : Nat → Prop} : ∀ (k i t : Nat), i ≤ t → t < i + k → (∀ j, i ≤ j → j < t → ¬ P j) → P t → lk P k i = t
  | 0, i, t, h1, h2, _, _ => absurd h2 (by omega)
  | k + 1, i, t, h1, h2, hno, h => by
    rw [lk]
    by_cases e : i = t
    · subst e; rw [cif_pos h]
    · rw [cif_neg (hno i (Nat.le_refl i) (by omega))]
      exact lk_yes k (i + 1) t (by omega) (by omega) (fun j a b => hno j (by omega) b) h
theorem lk_no {P : Nat → Prop} : ∀ (k i : Nat), (∀ j, i ≤ j → j < i + k → ¬ P j) → lk P k i = i + k
  | 0, i, _ => rfl
  | k + 1, i, hno => by
    rw [lk, cif_neg (hno i (Nat.le_refl i) (by omega)), lk_no k (i + 1) (fun j a b => hno j (by omega) (by omega))]
    omega
abbrev inP (x a b : Int32) : Prop := a.toInt64 ≤ x.toInt64 ∧ x.toInt64 ≤ b.toInt64
noncomputable def foundM (v : SV) (P : Nat → Prop) : Int32 × SV := if lk P 201 0 ≤ 200 then (nI (lk P 201 0), asideM v) else fdM (asideM v) 3
theorem foundM_yes {v : SV} {P : Nat → Prop} {i : Nat} (hno : ∀ t, t < i → ¬ P t) (h : P i) (hi : i ≤ 200) : foundM v P = (nI i, asideM v) := by
  unfold foundM
  rw [lk_yes 201 0 i (Nat.zero_le _) (by omega) (fun j _ b => hno j b) h, if_pos hi]
theorem foundM_no {v : SV} {P : Nat → Prop} (hno : ∀ t, t < 201 → ¬ P t) : foundM v P = fdM (asideM v) 3 := by
  unfold foundM
  rw [lk_no 201 0 (fun j _ b => hno j (by omega)), if_neg (by omega)]
noncomputable def firstM (v : SV) (j : Nat) (a b : Int32) : Int32 × SV := foundM v (fun t => inP (daysM (v.1 54) t j) a b)
theorem firstM_yes {v : SV} {j i : Nat} {a b : Int32} (hno : ∀ t, t < i → ¬ inP (daysM (v.1 54) t j) a b) (h : inP (daysM (v.1 54) i j) a b) (hi : i ≤ 200) : firstM v j a b = (nI i, asideM v) := foundM_yes (P := fun t => inP (daysM (v.1 54) t j) a b) hno h hi
theorem firstM_no {v : SV} {j : Nat} {a b : Int32} (hno : ∀ t, t < 201 → ¬ inP (daysM (v.1 54) t j) a b) : firstM v j a b = fdM (asideM v) 3 := foundM_no (P := fun t => inP (daysM (v.1 54) t j) a b) hno
noncomputable def standsM (v : SV) (x y : Int32) : Int32 × SV := cif (∃ j : Nat, j < nM v ∧ x = nI j) (cif (∃ j : Nat, j < 10000 ∧ y = nI j) (firstM v (57 + x.toNatClampNeg) y 9999) (fdM v 0)) (fdM v 0)
noncomputable def despairM (v : SV) (x y : Int32) : Int32 × SV := cif (∃ j : Nat, j < nM v ∧ x = nI j) (cif (∃ j : Nat, j < 100 ∧ y = nI j) (firstM v (49 + x.toNatClampNeg) 0 y) (fdM v 0)) (fdM v 0)
noncomputable def wantsM (v : SV) (x y : Int32) : Int32 × SV := cif (∃ j : Nat, j < nM v ∧ x = nI j) (cif (∃ j : Nat, j < 12 ∧ y = nI j) (foundM v (fun t => wantF (rowM (daysM (v.1 54) t) x.toNatClampNeg) y)) (fdM v 0)) (fdM v 0)
def btM (d : Nat → Int32) (wh ob k : Nat) : Nat → Int32 × Int32
  | 0 => (0, -1)
  | i + 1 => if daysM (upd d wh (nI i)) k ob ≤ (btM d wh ob k i).2 then btM d wh ob k i else (nI i, daysM (upd d wh (nI i)) k ob)
theorem btM_no {d : Nat → Int32} {wh ob k i : Nat} (h : daysM (upd d wh (nI i)) k ob ≤ (btM d wh ob k i).2) : btM d wh ob k (i + 1) = btM d wh ob k i := if_pos h
theorem btM_yes {d : Nat → Int32} {wh ob k i : Nat} (h : ¬ daysM (upd d wh (nI i)) k ob ≤ (btM d wh ob k i).2) : btM d wh ob k (i + 1) = (nI i, daysM (upd d wh (nI i)) k ob) := if_neg h
theorem okM_list {d : Nat → Int32} {N i q : Nat} (h : okM d N) (hi : i < 6) (hq : q < 12) : okM (upd d (7 + i) (nI q)) N := by
  obtain ⟨a, b, ⟨D, c1, c2⟩, e1⟩ := h
  refine ⟨a, ?_, ⟨D, c1, ?_⟩, fun j hj => ?_⟩
  · simp only [upd]; rw [if_neg (by omega)]; exact b
  · simp only [upd]; rw [if_neg (by omega)]; exact c2
  · simp only [upd]
    by_cases h9 : 7 + j = 7 + i
    · rw [if_pos h9]; exact ⟨q, hq, rfl⟩
    · rw [if_neg h9]; exact e1 j hj
theorem okM_at {d : Nat → Int32} {N k : Nat} {x : Int32} (h : okM d N) (hk : 2 ≤ k) (hk2 : k < 7 ∨ 13 ≤ k) : okM (upd d k x) N := by
  obtain ⟨a, b, ⟨D, c1, c2⟩, e1⟩ := h
  refine ⟨a, ?_, ⟨D, c1, ?_⟩, fun j hj => ?_⟩
  · simp only [upd]; rw [if_neg (by omega)]; exact b
  · simp only [upd]; rw [if_neg (by omega)]; exact c2
  · simp only [upd]; rw [if_neg (by omega)]; exact e1 j hj
noncomputable def cryForM (v : SV) (x y : Int32) : Int32 × SV := cif (∃ j : Nat, j < 6 ∧ x = nI j) (cif (∃ j : Nat, j < 61 ∧ y = nI j) ((btM (v.1 54) (7 + x.toNatClampNeg) 6 y.toNatClampNeg (11 + 1)).1, asideM v) (fdM v 0)) (fdM v 0)
noncomputable def startForM (v : SV) (x : Int32) : Int32 × SV := cif (∃ j : Nat, j < 61 ∧ x = nI j) ((btM (v.1 54) 3 6 x.toNatClampNeg (15 + 1)).1, asideM v) (fdM v 0)
noncomputable def kindForM (v : SV) (x y : Int32) : Int32 × SV := cif (∃ j : Nat, j < nM v ∧ x = nI j) (cif (∃ j : Nat, j < 61 ∧ y = nI j) ((btM (v.1 54) (25 + x.toNatClampNeg) (57 + x.toNatClampNeg) y.toNatClampNeg (6 + 1)).1, asideM v) (fdM v 0)) (fdM v 0)
noncomputable def loudForM (v : SV) (x y : Int32) : Int32 × SV := cif (∃ j : Nat, j < 100000 ∧ x = nI j) (cif (∃ j : Nat, j < 61 ∧ y = nI j) (if lk (fun t => x ≤ daysM (upd (v.1 54) 5 (nI t)) y.toNatClampNeg 6) 10 0 < 10 then (nI (lk (fun t => x ≤ daysM (upd (v.1 54) 5 (nI t)) y.toNatClampNeg 6) 10 0), asideM v) else fdM (asideM v) 3) (fdM v 0)) (fdM v 0)
