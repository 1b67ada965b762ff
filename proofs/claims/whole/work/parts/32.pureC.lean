/-! what is so of a street's row all the time; the class's ways beside the reference's -/
def tpW (w : Nat) : Nat := if w = 0 then 7 else if w = 1 then 16 else if w = 2 then 4096 else if w = 3 then 100 else if w = 4 then 10000 else 2
def okR (R : Nat → Int32) : Prop := ∀ w, w < 6 → ∃ m, m < tpW w ∧ R w = nI m
def tp (N j : Nat) : Nat := if j = 1 then 100000 else if j = 3 then 16 else if j = 4 then 6 else if j = 5 then 10 else if j = 6 then 100000 else if j < 13 then 12 else if j < 25 then 1000 else if j < 73 then tpW ((j - 25) / 8) else N + 1
abbrev liv (N j : Nat) : Prop := j < 25 ∨ 73 ≤ j ∨ (j - 25) % 8 < N
def okC (d : Nat → Int32) (N : Nat) : Prop := N ≤ 8 ∧ d 0 = nI N ∧ ∀ j, 0 < j → j < 83 → j ≠ 2 → liv N j → ∃ m, m < tp N j ∧ d j = nI m
theorem tp_res {N w r : Nat} (hw : w < 6) (hr : r < 8) : tp N (25 + 8 * w + r) = tpW w := by
  unfold tp
  rw [if_neg (by omega), if_neg (by omega), if_neg (by omega), if_neg (by omega), if_neg (by omega), if_neg (by omega), if_neg (by omega), if_pos (by omega)]
  congr 1
  omega
theorem tp_reg {N i : Nat} (hi : i < 12) : tp N (13 + i) = 1000 := by
  unfold tp
  rw [if_neg (by omega), if_neg (by omega), if_neg (by omega), if_neg (by omega), if_neg (by omega), if_neg (by omega), if_pos (by omega)]
theorem tp_list {N i : Nat} (hi : i < 6) : tp N (7 + i) = 12 := by
  unfold tp
  rw [if_neg (by omega), if_neg (by omega), if_neg (by omega), if_neg (by omega), if_neg (by omega), if_pos (by omega)]
theorem tp_spot {N i : Nat} : tp N (73 + i) = N + 1 := by
  unfold tp
  rw [if_neg (by omega), if_neg (by omega), if_neg (by omega), if_neg (by omega), if_neg (by omega), if_neg (by omega), if_neg (by omega), if_neg (by omega)]
theorem okC_M {d : Nat → Int32} {N : Nat} (h : okC d N) : okM d N := by
  refine ⟨h.1, h.2.1, ?_, fun i hi => ?_⟩
  · obtain ⟨m, hm, e⟩ := h.2.2 1 (by decide) (by decide) (by decide) (Or.inl (by decide))
    exact ⟨m, by have : tp N 1 = 100000 := rfl; omega, e⟩
  · obtain ⟨m, hm, e⟩ := h.2.2 (7 + i) (by omega) (by omega) (by omega) (Or.inl (by omega))
    rw [tp_list hi] at hm
    exact ⟨m, hm, e⟩
theorem okC_R {d : Nat → Int32} {N r : Nat} (h : okC d N) (hr : r < N) : okR (rowM d r) := by
  intro w hw
  have h8 := h.1
  obtain ⟨m, hm, e⟩ := h.2.2 (25 + 8 * w + r) (by omega) (by omega) (by omega) (Or.inr (Or.inr (by omega)))
  rw [tp_res hw (by omega)] at hm
  exact ⟨m, hm, e⟩
theorem okC_reg {d : Nat → Int32} {N i : Nat} (h : okC d N) (hi : i < 12) : ∃ m, m < 1000 ∧ d (13 + i) = nI m := by
  obtain ⟨m, hm, e⟩ := h.2.2 (13 + i) (by omega) (by omega) (by omega) (Or.inl (by omega))
  rw [tp_reg hi] at hm
  exact ⟨m, hm, e⟩
theorem okC_upd {d : Nat → Int32} {N i : Nat} {x : Int32} (h : okC d N) (hi : 0 < i) (hx : i = 2 ∨ ∃ m, m < tp N i ∧ x = nI m) : okC (upd d i x) N := by
  refine ⟨h.1, ?_, fun j h0 h1 h2 h3 => ?_⟩
  · rw [pk_un (by omega)]; exact h.2.1
  · by_cases e : j = i
    · subst e
      rw [pk_us]
      exact hx.resolve_left h2
    · rw [pk_un e]; exact h.2.2 j h0 h1 h2 h3
theorem okC_res {d : Nat → Int32} {N w r m : Nat} {x : Int32} (h : okC d N) (hw : w < 6) (hr : r < 8) (hm : m < tpW w) (e : x = nI m) : okC (upd d (25 + 8 * w + r) x) N :=
  okC_upd h (by omega) (Or.inr ⟨m, by rw [tp_res hw hr]; exact hm, e⟩)
theorem okC_regU {d : Nat → Int32} {N i m : Nat} {x : Int32} (h : okC d N) (hi : i < 12) (hm : m < 1000) (e : x = nI m) : okC (upd d (13 + i) x) N :=
  okC_upd h (by omega) (Or.inr ⟨m, by rw [tp_reg hi]; exact hm, e⟩)
theorem okC_list {d : Nat → Int32} {N i m : Nat} {x : Int32} (h : okC d N) (hi : i < 6) (hm : m < 12) (e : x = nI m) : okC (upd d (7 + i) x) N :=
  okC_upd h (by omega) (Or.inr ⟨m, by rw [tp_list hi]; exact hm, e⟩)
theorem min_held {x c : Int32} (h : 0 ≤ x) : (if x < c then x else c) = heldF x 0 c := by
  unfold heldF
  rw [if_pos h]
  by_cases h1 : x < c
  · rw [if_pos h1, if_pos (by rw [fa_lt] at h1; rw [fa_le]; omega)]
  · rw [if_neg h1]
    by_cases h2 : x ≤ c
    · rw [if_pos h2]; rw [fa_lt] at h1; rw [fa_le] at h2; rw [fa_eq]; omega
    · rw [if_neg h2]
theorem max_held {x : Int32} (h : x ≤ 99) : (if 0 < x then x else 0) = heldF x 0 99 := by
  unfold heldF
  have e0 : (0 : Int32).toInt = 0 := rfl
  by_cases h1 : 0 < x
  · rw [if_pos h1, if_pos (by rw [fa_lt] at h1; rw [fa_le]; omega), if_pos h]
  · rw [if_neg h1]
    by_cases h2 : 0 ≤ x
    · rw [if_pos h2, if_pos h]
      rw [fa_lt] at h1
      rw [fa_le] at h2
      rw [fa_eq]
      omega
    · rw [if_neg h2]
theorem and1_nat (x : Int32) : ∃ m, m ≤ 1 ∧ x &&& 1 = nI m := by
  obtain ⟨j, h, e⟩ := pk_andE x (m := 1) 1 rfl
  exact ⟨j, by omega, e⟩
theorem lose_nat (R : Nat → Int32) : ∃ m, m ≤ 20 ∧ loseF R = nI m := by
  unfold loseF
  split
  · exact ⟨5, by decide, rfl⟩
  · split
    · exact ⟨16, by decide, rfl⟩
    · split
      · exact ⟨5, by decide, rfl⟩
      · split
        · exact ⟨1, by decide, rfl⟩
        · split
          · obtain ⟨m, hm, e⟩ := ones_nat (R 2) 12
            exact ⟨8 + m, by omega, by rw [e]; exact nI_add 8 m⟩
          · split
            · exact ⟨10, by decide, rfl⟩
            · exact ⟨8, by decide, rfl⟩
theorem mend_nat (R : Nat → Int32) : ∃ m, m ≤ 6 ∧ mendF R = nI m := by
  unfold mendF
  split
  · exact ⟨3, by decide, rfl⟩
  · split
    · exact ⟨3, by decide, rfl⟩
    · split
      · exact ⟨6, by decide, rfl⟩
      · split
        · exact ⟨0, by decide, rfl⟩
        · split
          · exact ⟨5, by decide, rfl⟩
          · exact ⟨2, by decide, rfl⟩
theorem held_nat {x : Int32} {c : Nat} (hc : c < 2 ^ 31) : ∃ m, m ≤ c ∧ heldF x 0 (nI c) = nI m := by
  unfold heldF
  by_cases h : 0 ≤ x
  · rw [if_pos h]
    by_cases h2 : x ≤ nI c
    · rw [if_pos h2]
      rw [fa_le] at h h2
      rw [nI_toInt hc] at h2
      have e0 : (0 : Int32).toInt = 0 := rfl
      exact ⟨x.toInt.toNat, by omega, by rw [fa_eq, nI_toInt (by omega)]; omega⟩
    · rw [if_neg h2]; exact ⟨c, Nat.le_refl c, rfl⟩
  · rw [if_neg h]; exact ⟨0, Nat.zero_le c, rfl⟩
theorem stand_1 {R : Nat → Int32} (h : okR R) : standR R = upd (upd R 4 (heldF (R 4 + 1) 0 9999)) 3 (heldF (R 3 - loseF R) 0 99) := by
  obtain ⟨a, ha, e4⟩ := h 4 (by decide)
  obtain ⟨b, hb, e3⟩ := h 3 (by decide)
  obtain ⟨m, hm, el⟩ := lose_nat R
  have h4 : tpW 4 = 10000 := rfl
  have h3 : tpW 3 = 100 := rfl
  unfold standR
  rw [min_held (show 0 ≤ R 4 + 1 by rw [e4, nI_1]; exact nI_pos' (by omega))]
  show upd _ 3 (if 0 < R 3 - loseF R then R 3 - loseF R else 0) = _
  rw [max_held (show R 3 - loseF R ≤ 99 by
    rw [e3, el, fa_le, pk_sub_toInt (by omega) (by omega)]
    have : (99 : Int32).toInt = 99 := rfl
    omega)]
theorem stay_1 {R : Nat → Int32} {x y z : Int32} (h : okR R) : stayR R x y z = upd (lureR R x y z) 3 (heldF ((lureR R x y z) 3 + mendF (lureR R x y z)) 0 99) := by
  obtain ⟨b, hb, e3⟩ := h 3 (by decide)
  obtain ⟨m, hm, el⟩ := mend_nat (lureR R x y z)
  have h3 : tpW 3 = 100 := rfl
  have e : lureR R x y z 3 = R 3 := by unfold lureR; split <;> rfl
  unfold stayR
  rw [min_held (show 0 ≤ lureR R x y z 3 + mendF (lureR R x y z) by rw [e, e3, el, nI_add]; exact nI_pos' (by omega))]
abbrev six (R S : Nat → Int32) : Prop := ∀ w, w < 6 → R w = S w
theorem hear6 {R S : Nat → Int32} (h : six R S) (z : Int32) : hearF R z = hearF S z := by unfold hearF; rw [h 0 (by decide), h 3 (by decide)]
theorem trust6 {R S : Nat → Int32} (h : six R S) : trustF R = trustF S := by unfold trustF; rw [h 0 (by decide), h 4 (by decide)]
theorem lose6 {R S : Nat → Int32} (h : six R S) : loseF R = loseF S := by unfold loseF; rw [h 0 (by decide), h 2 (by decide)]
theorem mend6 {R S : Nat → Int32} (h : six R S) : mendF R = mendF S := by unfold mendF; rw [h 0 (by decide)]
theorem want6 {R S : Nat → Int32} (h : six R S) (x : Int32) : wantF R x = wantF S x := by unfold wantF; rw [h 2 (by decide)]
theorem tempt6 {R S : Nat → Int32} (h : six R S) (x : Int32) : temptF R x = temptF S x := by unfold temptF; rw [h 0 (by decide), h 2 (by decide), h 3 (by decide)]
theorem tell6 {R S : Nat → Int32} (h : six R S) (x y z : Int32) : tellF R x y z = tellF S x y z := by
  unfold tellF
  rw [hear6 h, trust6 h, lose6 h, mend6 h, h 0 (by decide), h 1 (by decide), h 2 (by decide), h 3 (by decide), h 4 (by decide), h 5 (by decide)]
theorem heed6 {R S : Nat → Int32} (h : six R S) (y z : Int32) : heedF R y z = heedF S y z := by unfold heedF; rw [hear6 h, h 1 (by decide)]
theorem ok6 {R S : Nat → Int32} (h : six R S) (hs : okR S) : okR R := fun w hw => by rw [h w hw]; exact hs w hw
theorem st_six {w : SV} {k i : Nat} {D : Nat → Int32} (hi : i < 8) : six ((stW w k D).1 (k + 5 + i)) (rowM D i) := fun _ hw => st_at (sl_5 hi hw) (by omega)
theorem away_01 {R : Nat → Int32} (h : okR R) : R 5 = 0 ↔ ¬ R 5 = 1 := by
  obtain ⟨m, hm, e⟩ := h 5 (by decide)
  have h5 : tpW 5 = 2 := rfl
  have : m = 0 ∨ m = 1 := by omega
  rcases this with rfl | rfl
  · rw [e]; decide
  · rw [e]; decide
theorem come_iff {w : SV} {k i : Nat} {D : Nat → Int32} {x : Int32} (hi : i < 8) (hr : okR (rowM D i)) : comeF ((stW w k D).1 (k + 5 + i)) x (D 3) (D 5) ↔ comingM D i x := by
  have h6 := st_six (w := w) (k := k) (D := D) hi
  unfold comeF comingM
  rw [want6 h6, trust6 h6, heed6 h6, h6 3 (by decide), h6 5 (by decide), away_01 hr]
  exact ⟨fun h => ⟨h.1, h.2.2.2, h.2.1, h.2.2.1⟩, fun h => ⟨h.1, h.2.2.1, h.2.2.2, h.2.1⟩⟩
theorem st_stand {w : SV} {k i : Nat} {D : Nat → Int32} (hi : i < 8) (hr : okR (rowM D i)) : upw (stW w k D) (k + 5 + i) (standR ((stW w k D).1 (k + 5 + i))) = stW w k (upd (upd D (25 + 8 * 4 + i) (heldF (rowM D i 4 + 1) 0 9999)) (25 + 8 * 3 + i) (heldF (rowM D i 3 - loseF (rowM D i)) 0 99)) := by
  have h6 := st_six (w := w) (k := k) (D := D) hi
  rw [stand_1 (ok6 h6 hr), ← upw_up, lose6 h6, h6 4 (by decide), h6 3 (by decide)]
  rw [show upw (stW w k D) (k + 5 + i) (upd ((stW w k D).1 (k + 5 + i)) 4 (heldF (rowM D i 4 + 1) 0 9999)) = stW w k (upd D (25 + 8 * 4 + i) (heldF (rowM D i 4 + 1) 0 9999)) from st_up (sl_5 hi (by decide)) (by omega)]
  exact st_up (sl_5 hi (by decide)) (by omega)
theorem or0 (x : Int32) : x ||| 0 = x := by
  apply Int32.toBitVec_inj.mp
  simp
theorem upd_self (d : Nat → Int32) (j : Nat) : upd d j (d j) = d := by
  funext t
  by_cases h : t = j
  · rw [h, pk_us]
  · rw [pk_un h]
theorem upd_comm (d : Nat → Int32) {i j : Nat} (h : i ≠ j) (x y : Int32) : upd (upd d i x) j y = upd (upd d j y) i x := by
  funext t
  by_cases h1 : t = j
  · rw [h1, pk_us, pk_un (fun e => h e.symm), pk_us]
  · rw [pk_un h1]
    by_cases h2 : t = i
    · rw [h2, pk_us, pk_us]
    · rw [pk_un h2, pk_un h2, pk_un h1]
theorem st_stay {w : SV} {k i : Nat} {D : Nat → Int32} {x : Int32} (hi : i < 8) (hr : okR (rowM D i)) : upw (stW w k D) (k + 5 + i) (stayR ((stW w k D).1 (k + 5 + i)) x (D 3) (D 5)) = stW w k (upd (upd D (25 + 8 * 2 + i) (rowM D i 2 ||| (if luredM D i x then 1 <<< (x &&& 31) else 0))) (25 + 8 * 3 + i) (heldF (rowM (upd D (25 + 8 * 2 + i) (rowM D i 2 ||| (if luredM D i x then 1 <<< (x &&& 31) else 0))) i 3 + mendF (rowM (upd D (25 + 8 * 2 + i) (rowM D i 2 ||| (if luredM D i x then 1 <<< (x &&& 31) else 0))) i)) 0 99)) := by
  have h6 := st_six (w := w) (k := k) (D := D) hi
  have e3 : ∀ z : Int32, rowM (upd D (25 + 8 * 2 + i) z) i 3 = rowM D i 3 := fun z => pk_un (by omega)
  have em : ∀ z : Int32, mendF (rowM (upd D (25 + 8 * 2 + i) z) i) = mendF (rowM D i) := fun z => by
    unfold mendF
    rw [show rowM (upd D (25 + 8 * 2 + i) z) i 0 = rowM D i 0 from pk_un (by omega)]
  rw [stay_1 (ok6 h6 hr), e3, em]
  by_cases hl : luredM D i x
  · rw [if_pos hl]
    have hl2 : lureR ((stW w k D).1 (k + 5 + i)) x (D 3) (D 5) = upd ((stW w k D).1 (k + 5 + i)) 2 ((stW w k D).1 (k + 5 + i) 2 ||| 1 <<< (x &&& 31)) :=
      lureR_t (by rw [want6 h6]; exact hl.2.1) (by rw [heed6 h6]; exact hl.1) (by rw [tempt6 h6]; exact hl.2.2)
    have hm : mendF (upd ((stW w k D).1 (k + 5 + i)) 2 ((stW w k D).1 (k + 5 + i) 2 ||| 1 <<< (x &&& 31))) = mendF (rowM D i) := (show mendF (upd ((stW w k D).1 (k + 5 + i)) 2 ((stW w k D).1 (k + 5 + i) 2 ||| 1 <<< (x &&& 31))) = mendF ((stW w k D).1 (k + 5 + i)) from rfl).trans (mend6 h6)
    have h3 : upd ((stW w k D).1 (k + 5 + i)) 2 ((stW w k D).1 (k + 5 + i) 2 ||| 1 <<< (x &&& 31)) 3 = rowM D i 3 := h6 3 (by decide)
    rw [hl2, hm, h3, ← upw_up, h6 2 (by decide)]
    rw [show upw (stW w k D) (k + 5 + i) (upd ((stW w k D).1 (k + 5 + i)) 2 (rowM D i 2 ||| 1 <<< (x &&& 31))) = stW w k (upd D (25 + 8 * 2 + i) (rowM D i 2 ||| 1 <<< (x &&& 31))) from st_up (sl_5 hi (by decide)) (by omega)]
    exact st_up (sl_5 hi (by decide)) (by omega)
  · rw [if_neg hl, or0, show upd D (25 + 8 * 2 + i) (rowM D i 2) = D from upd_self D _]
    have hl2 : lureR ((stW w k D).1 (k + 5 + i)) x (D 3) (D 5) = (stW w k D).1 (k + 5 + i) := by
      unfold lureR
      exact if_neg (fun h => hl ⟨by rw [heed6 h6] at h; exact h.2.1, by rw [want6 h6] at h; exact h.1, by rw [tempt6 h6] at h; exact h.2.2⟩)
    rw [hl2, mend6 h6, h6 3 (by decide)]
    exact st_up (sl_5 hi (by decide)) (by omega)
theorem step_come {D : Nat → Int32} {q i m : Nat} (h : comingM D i (nI q)) (hq : q < 12) (e : D (13 + q) = nI m) (hm : m < 1000) : upd (upd (upd D (25 + 8 * 4 + i) (heldF (rowM D i 4 + 1) 0 9999)) (25 + 8 * 3 + i) (heldF (rowM D i 3 - loseF (rowM D i)) 0 99)) (13 + q) (if D (13 + q) + 1 < 999 then D (13 + q) + 1 else 999) = stepM D q i := by
  unfold stepM
  rw [if_neg h.1, if_pos h, min_held (show 0 ≤ D (13 + q) + 1 by rw [e, nI_1]; exact nI_pos' (by omega)), show upd D (25 + 8 * 4 + i) (heldF (rowM D i 4 + 1) 0 9999) (13 + q) = D (13 + q) from pk_un (by omega)]
  exact upd_comm _ (by omega) _ _
theorem step_stay {D : Nat → Int32} {q i : Nat} (h : ¬ comingM D i (nI q)) (h5 : ¬ rowM D i 5 = 1) : upd (upd D (25 + 8 * 2 + i) (rowM D i 2 ||| (if luredM D i (nI q) then 1 <<< (nI q &&& 31) else 0))) (25 + 8 * 3 + i) (heldF (rowM (upd D (25 + 8 * 2 + i) (rowM D i 2 ||| (if luredM D i (nI q) then 1 <<< (nI q &&& 31) else 0))) i 3 + mendF (rowM (upd D (25 + 8 * 2 + i) (rowM D i 2 ||| (if luredM D i (nI q) then 1 <<< (nI q &&& 31) else 0))) i)) 0 99) = stepM D q i := by
  unfold stepM
  rw [if_neg h5, if_neg h]
theorem step_away {D : Nat → Int32} {q i : Nat} (h5 : rowM D i 5 = 1) : D = stepM D q i := by
  unfold stepM
  rw [if_pos h5]
theorem i_or_nat {a b : Nat} (ha : a < 4096) (hb : b < 4096) : ∃ m, m < 4096 ∧ nI a ||| nI b = nI m := by
  refine ⟨a ||| b, Nat.or_lt_two_pow (n := 12) ha hb, ?_⟩
  apply Int32.toBitVec_inj.mp
  show BitVec.ofNat 32 a ||| BitVec.ofNat 32 b = BitVec.ofNat 32 (a ||| b)
  apply BitVec.eq_of_toNat_eq
  simp only [BitVec.toNat_or, BitVec.toNat_ofNat]
  have h3 : a ||| b < 2 ^ 12 := Nat.or_lt_two_pow (n := 12) ha hb
  rw [Nat.mod_eq_of_lt (by omega), Nat.mod_eq_of_lt (by omega), Nat.mod_eq_of_lt (by omega)]
theorem bit_nat : ∀ q, q < 12 → ∃ m, m < 4096 ∧ (1 : Int32) <<< (nI q &&& 31) = nI m := by
  intro q hq
  exact ⟨2 ^ q, (by decide +kernel : ∀ q, q < 12 → 2 ^ q < 4096) q hq, (by decide +kernel : ∀ q, q < 12 → (1 : Int32) <<< (nI q &&& 31) = nI (2 ^ q)) q hq⟩
theorem okC_step {D : Nat → Int32} {N q i : Nat} (h : okC D N) (hi : i < N) (hq : q < 12) : okC (stepM D q i) N := by
  have h8 := h.1
  have hr := okC_R h hi
  unfold stepM
  split
  · exact h
  · split
    · obtain ⟨a, ha, ea⟩ := held_nat (x := rowM D i 4 + 1) (c := 9999) (by decide)
      obtain ⟨b, hb, eb⟩ := held_nat (x := (upd D (25 + 8 * 4 + i) (heldF (rowM D i 4 + 1) 0 9999)) (13 + q) + 1) (c := 999) (by decide)
      obtain ⟨c, hc, ec⟩ := held_nat (x := rowM D i 3 - loseF (rowM D i)) (c := 99) (by decide)
      exact okC_res (okC_regU (okC_res h (by decide) (by omega) (show a < tpW 4 by have : tpW 4 = 10000 := rfl; omega) ea) hq (by omega) eb) (by decide) (by omega) (show c < tpW 3 by have : tpW 3 = 100 := rfl; omega) ec
    · obtain ⟨a, ha, ea⟩ := hr 2 (by decide)
      have h2 : tpW 2 = 4096 := rfl
      have hw : ∃ m, m < 4096 ∧ rowM D i 2 ||| (if luredM D i (nI q) then 1 <<< (nI q &&& 31) else 0) = nI m := by
        split
        · obtain ⟨b, hb, eb⟩ := bit_nat q hq
          rw [eb, ea]
          exact i_or_nat (by omega) hb
        · exact ⟨a, by omega, by rw [or0]; exact ea⟩
      obtain ⟨m, hm, em⟩ := hw
      obtain ⟨c, hc, ec⟩ := held_nat (x := rowM (upd D (25 + 8 * 2 + i) (rowM D i 2 ||| (if luredM D i (nI q) then 1 <<< (nI q &&& 31) else 0))) i 3 + mendF (rowM (upd D (25 + 8 * 2 + i) (rowM D i 2 ||| (if luredM D i (nI q) then 1 <<< (nI q &&& 31) else 0))) i)) (c := 99) (by decide)
      exact okC_res (okC_res h (by decide) (by omega) (show m < tpW 2 by omega) em) (by decide) (by omega) (show c < tpW 3 by have : tpW 3 = 100 := rfl; omega) ec
theorem okC_lp {D : Nat → Int32} {N q : Nat} (h : okC D N) (hq : q < 12) : ∀ i, i ≤ N → okC (lpM D q i) N
  | 0, _ => h
  | i + 1, hi => okC_step (okC_lp h hq i (by omega)) (by omega) hq
theorem okC_mv {D : Nat → Int32} {N : Nat} (h : okC D N) : okC (mvM D) N := by
  obtain ⟨a, ha, ea⟩ := h.2.2 3 (by decide) (by decide) (by decide) (Or.inl (by decide))
  obtain ⟨b, hb, eb⟩ := h.2.2 4 (by decide) (by decide) (by decide) (Or.inl (by decide))
  have h3 : tp N 3 = 16 := rfl
  have h4 : tp N 4 = 6 := rfl
  refine okC_upd h (by decide) (Or.inr ⟨(a + b) % 16, by rw [h3]; exact Nat.mod_lt _ (by decide), ?_⟩)
  rw [ea, eb, nI_add]
  exact pk_rem (d := 16) (by omega) (by decide) (by decide)
theorem okC_clr {D : Nat → Int32} {N : Nat} (h : okC D N) : okC (clrM D 12) N := by
  refine ⟨h.1, h.2.1, fun j h0 h1 h2 h3 => ?_⟩
  unfold clrM
  by_cases h4 : 13 ≤ j ∧ j < 13 + 12
  · rw [if_pos h4]
    refine ⟨0, ?_, rfl⟩
    rw [show j = 13 + (j - 13) by omega, tp_reg (by omega)]
    decide
  · rw [if_neg h4]; exact h.2.2 j h0 h1 h2 h3
theorem okC_sell {D : Nat → Int32} {N : Nat} (h : okC D N) : okC (sellM D) N := by
  unfold sellM
  split
  · obtain ⟨m, hm, e⟩ := held_nat (x := D 6 + fetchM D) (c := 99999) (by decide)
    exact okC_clr (okC_upd h (by decide) (Or.inr ⟨m, by have : tp N 6 = 100000 := rfl; omega, e⟩))
  · exact h
theorem okC_next {D : Nat → Int32} {N : Nat} (h : okC D N) : okC (nextM D) N := by
  obtain ⟨m, hm, e⟩ := held_nat (x := D 1 + 1) (c := 99999) (by decide)
  exact okC_upd h (by decide) (Or.inr ⟨m, by have : tp N 1 = 100000 := rfl; omega, e⟩)
theorem okC_day {D : Nat → Int32} {N : Nat} (h : okC D N) : okC (dayM D) N := by
  unfold dayM
  rw [h.2.1, nI_clamp (by have := h.1; omega)]
  exact okC_next (okC_sell (okC_lp (okC_mv h) (okM_gq (okC_M (okC_mv h))).1 N (Nat.le_refl N)))
theorem okC_days {D : Nat → Int32} {N : Nat} (h : okC D N) : ∀ i, okC (daysM D i) N
  | 0 => h
  | i + 1 => okC_day (okC_days h i)
/-- two rows that are alike in all that counts -/
def agr (N : Nat) (d e : Nat → Int32) : Prop := ∀ j, j < 83 → liv N j → d j = e j
theorem agr_upd {N i : Nat} {d e : Nat → Int32} {x y : Int32} (h : agr N d e) (hx : x = y) : agr N (upd d i x) (upd e i y) := by
  intro j h1 h2
  by_cases h3 : j = i
  · rw [h3, pk_us, pk_us, hx]
  · rw [pk_un h3, pk_un h3]; exact h j h1 h2
theorem agr_six {N r : Nat} {d e : Nat → Int32} (h : agr N d e) (hr : r < N) (hN : N ≤ 8) : six (rowM d r) (rowM e r) := fun w hw => h _ (by omega) (Or.inr (Or.inr (by omega)))
theorem agr_lo {N j : Nat} {d e : Nat → Int32} (h : agr N d e) (hj : j < 25) : d j = e j := h j (by omega) (Or.inl hj)
theorem agr_step {N q r : Nat} {d e : Nat → Int32} (h : agr N d e) (hr : r < N) (hN : N ≤ 8) (hq : q < 12) : agr N (stepM d q r) (stepM e q r) := by
  have h6 := agr_six h hr hN
  have hn : nearM d r = nearM e r := by unfold nearM; rw [hear6 h6, h6 1 (by decide), agr_lo h (show 3 < 25 by decide), agr_lo h (show 5 < 25 by decide)]
  have hc : comingM d r (nI q) = comingM e r (nI q) := by unfold comingM; rw [hn, want6 h6, trust6 h6, h6 5 (by decide), h6 3 (by decide)]
  have hl : luredM d r (nI q) = luredM e r (nI q) := by unfold luredM; rw [hn, want6 h6, tempt6 h6]
  by_cases h5 : rowM d r 5 = 1
  · rw [← step_away h5, ← step_away (h6 5 (by decide) ▸ h5)]; exact h
  · have h5' : ¬ rowM e r 5 = 1 := h6 5 (by decide) ▸ h5
    by_cases h2 : comingM d r (nI q)
    · have h2' : comingM e r (nI q) := hc ▸ h2
      unfold stepM
      rw [if_neg h5, if_neg h5', if_pos h2, if_pos h2']
      refine agr_upd (agr_upd (agr_upd h (by rw [h6 4 (by decide)])) ?_) (by rw [h6 3 (by decide), lose6 h6])
      rw [pk_un (by omega), pk_un (by omega), agr_lo h (show 13 + q < 25 by omega)]
    · have h2' : ¬ comingM e r (nI q) := hc ▸ h2
      unfold stepM
      rw [if_neg h5, if_neg h5', if_neg h2, if_neg h2']
      have hv : rowM d r 2 ||| (if luredM d r (nI q) then 1 <<< (nI q &&& 31) else 0) = rowM e r 2 ||| (if luredM e r (nI q) then 1 <<< (nI q &&& 31) else 0) := by
        by_cases h9 : luredM d r (nI q)
        · rw [if_pos h9, if_pos (hl ▸ h9), h6 2 (by decide)]
        · rw [if_neg h9, if_neg (hl ▸ h9), h6 2 (by decide)]
      have h7 := agr_upd (i := 25 + 8 * 2 + r) h hv
      have h76 := agr_six h7 hr hN
      exact agr_upd h7 (by rw [h76 3 (by decide), mend6 h76])
theorem agr_lp {N q : Nat} {d e : Nat → Int32} (h : agr N d e) (hN : N ≤ 8) (hq : q < 12) : ∀ i, i ≤ N → agr N (lpM d q i) (lpM e q i)
  | 0, _ => h
  | i + 1, hi => agr_step (agr_lp h hN hq i (by omega)) (by omega) hN hq
theorem most_cong {d e : Nat → Int32} (h : ∀ i, i < 12 → d (13 + i) = e (13 + i)) : ∀ k, k ≤ 12 → mostM d k = mostM e k
  | 0, _ => rfl
  | k + 1, hk => by rw [mostM, mostM, most_cong h k (by omega), h k (by omega)]
theorem many_cong {d e : Nat → Int32} (h : ∀ i, i < 12 → d (13 + i) = e (13 + i)) : ∀ k, k ≤ 12 → manyM d k = manyM e k
  | 0, _ => rfl
  | k + 1, hk => by rw [manyM, manyM, many_cong h k (by omega), h k (by omega)]
theorem agr_fetch {N : Nat} {d e : Nat → Int32} (h : agr N d e) : fetchM d = fetchM e := by
  have h1 : ∀ i, i < 12 → d (13 + i) = e (13 + i) := fun i hi => agr_lo h (by omega)
  unfold fetchM
  rw [most_cong h1 12 (by decide), many_cong h1 12 (by decide)]
theorem agr_day {N : Nat} {d e : Nat → Int32} (h : agr N d e) (hd : okM d N) : agr N (dayM d) (dayM e) := by
  have h8 := hd.1
  have e0 : (e 0).toNatClampNeg = N := by rw [← agr_lo h (show 0 < 25 by decide), hd.2.1, nI_clamp (by omega)]
  have e1 : (d 0).toNatClampNeg = N := by rw [hd.2.1, nI_clamp (by omega)]
  have hm : agr N (mvM d) (mvM e) := agr_upd h (by rw [agr_lo h (show 3 < 25 by decide), agr_lo h (show 4 < 25 by decide)])
  have hg : gqM (mvM d) = gqM (mvM e) := by
    unfold gqM
    rw [agr_lo hm (show 1 < 25 by decide), agr_lo hm (show 7 + (mvM e 1).toNatClampNeg % 6 < 25 by have := Nat.mod_lt (mvM e 1).toNatClampNeg (show 0 < 6 by decide); omega)]
  unfold dayM
  rw [e0, e1, ← hg]
  have hl := agr_lp hm h8 (okM_gq (okM_mv hd)).1 N (Nat.le_refl N)
  have hs : agr N (sellM (lpM (mvM d) (gqM (mvM d)) N)) (sellM (lpM (mvM e) (gqM (mvM d)) N)) := by
    unfold sellM
    rw [agr_lo hl (show 1 < 25 by decide)]
    split
    · intro j h1 h2
      unfold clrM
      split
      · rfl
      · exact agr_upd hl (by rw [agr_lo hl (show 6 < 25 by decide), agr_fetch hl]) j h1 h2
    · exact hl
  exact agr_upd hs (by rw [agr_lo hs (show 1 < 25 by decide)])
theorem agr_days {N : Nat} {d e : Nat → Int32} (h : agr N d e) (hd : okM d N) : ∀ i, agr N (daysM d i) (daysM e i)
  | 0 => h
  | i + 1 => agr_day (agr_days h hd i) (okM_days hd i)
theorem okC_agr {N : Nat} {d e : Nat → Int32} (h : agr N d e) (hd : okC d N) : okC e N := by
  refine ⟨hd.1, by rw [← agr_lo h (show 0 < 25 by decide)]; exact hd.2.1, fun j h0 h1 h2 h3 => ?_⟩
  rw [← h j h1 h3]
  exact hd.2.2 j h0 h1 h2 h3
