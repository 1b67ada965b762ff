/-! plain facts and the plain functions that both sides come to -/
theorem fa_lt (a b : Int32) : a < b ↔ a.toInt < b.toInt := Int32.lt_iff_toInt_lt
theorem fa_le (a b : Int32) : a ≤ b ↔ a.toInt ≤ b.toInt := Int32.le_iff_toInt_le
theorem fa_eq (a b : Int32) : a = b ↔ a.toInt = b.toInt := ⟨fun h => by rw [h], fun h => Int32.toInt_inj.mp h⟩
theorem fa_lt64 (a b : Int64) : a < b ↔ a.toInt < b.toInt := Int64.lt_iff_toInt_lt
theorem fa_le64 (a b : Int64) : a ≤ b ↔ a.toInt ≤ b.toInt := Int64.le_iff_toInt_le
theorem fa_nlt64 {a b : Int64} (h : ¬ a < b) : b ≤ a := by rw [fa_lt64] at h; rw [fa_le64]; omega
theorem fa_lt_nle64 {a b : Int64} (h : a < b) : ¬ b ≤ a := by rw [fa_lt64] at h; rw [fa_le64]; omega
def heldF (x y z : Int32) : Int32 := if y ≤ x then (if x ≤ z then x else z) else y
def sizeF (x : Int32) : Int32 := if 0 ≤ x then x else -x
def rowM (d : Nat → Int32) (r : Nat) : Nat → Int32 := fun w => d (25 + 8 * w + r)
def fnd (v : SV) (j : Nat) : SV := up v 58 j (v.1 58 j + 1)
abbrev wantF (R : Nat → Int32) (x : Int32) : Prop := (R 2 >>> (x &&& 31)) &&& 1 = 1
def onesF (x : Int32) : Nat → Int32
  | 0 => 0
  | k + 1 => onesF x k + ((x >>> (nI k &&& 31)) &&& 1)
def hearF (R : Nat → Int32) (loud : Int32) : Int32 :=
  if R 0 = 1 then loud + 2 else if R 0 = 2 then 2 * loud else if R 0 = 3 then (loud + 2) / 2 else if R 0 = 4 then (loud + 2) / 2 + (if 50 ≤ R 3 then 1 else 0) else if R 0 = 5 then 0 else if R 0 = 6 then 15 else loud
def trustF (R : Nat → Int32) : Int32 :=
  if R 0 = 1 then 10 else if R 0 = 3 then 40 else if R 0 = 4 then 0 else if R 0 = 6 then (if 10 ≤ R 4 then 60 else 20) else 20
def loseF (R : Nat → Int32) : Int32 :=
  if R 0 = 1 then 5 else if R 0 = 2 then 16 else if R 0 = 3 then 5 else if R 0 = 4 then 1 else if R 0 = 5 then 8 + onesF (R 2) 12 else if R 0 = 6 then 10 else 8
def mendF (R : Nat → Int32) : Int32 :=
  if R 0 = 1 then 3 else if R 0 = 3 then 3 else if R 0 = 4 then 6 else if R 0 = 5 then 0 else if R 0 = 6 then 5 else 2
theorem upw_up (v : SV) (k : Nat) (r : Nat → Int32) (j : Nat) (x : Int32) : up (upw v k r) k j x = upw v k (upd r j x) := by
  show upw (upw v k r) k (upd ((upw v k r).1 k) j x) = upw v k (upd r j x)
  rw [upw_same]
  unfold upw
  rw [bx_uu]
theorem upw_upw (v : SV) (k : Nat) (r r2 : Nat → Int32) : upw (upw v k r) k r2 = upw v k r2 := by
  unfold upw
  rw [bx_uu]
theorem upw_self (v : SV) (k : Nat) : upw v k (v.1 k) = v := by
  unfold upw
  have : va_up v.1 k (v.1 k) = v.1 := by
    funext i
    by_cases h : i = k
    · rw [h]; simp [va_up]
    · simp [va_up, h]
  rw [this]
theorem toInt64_toInt (x : Int32) : x.toInt64.toInt = x.toInt := Int32.toInt_toInt64 x
theorem in_iff {x : Int32} {K : Int64} (N : Nat) (hN : N ≤ 2 ^ 31) (hK : K.toInt = (N : Int) - 1) : ((0 : Int64) ≤ x.toInt64 ∧ x.toInt64 ≤ K) ↔ ∃ j : Nat, j < N ∧ x = nI j := by
  rw [fa_le64, fa_le64, toInt64_toInt, hK, show (0 : Int64).toInt = 0 from rfl]
  constructor
  · intro h
    refine ⟨x.toInt.toNat, by omega, ?_⟩
    rw [fa_eq, nI_toInt (by omega)]
    omega
  · rintro ⟨j, h1, rfl⟩
    rw [nI_toInt (by omega)]
    omega
/-- what the reference's row is like: how many there are, the day, the list -/
def okM (d : Nat → Int32) (N : Nat) : Prop := N ≤ 8 ∧ d 0 = nI N ∧ (∃ D, D ≤ 99999 ∧ d 1 = nI D) ∧ ∀ i, i < 6 → ∃ q, q < 12 ∧ d (7 + i) = nI q
abbrev temptF (R : Nat → Int32) (x : Int32) : Prop :=
  if R 0 = 2 then x - x / 2 * 2 = 0 else if R 0 = 3 then False else if R 0 = 4 then R 2 = 0 else if R 0 = 5 then False else if R 0 = 6 then (x - x / 2 * 2 = 0 ∨ x = 11) else 80 ≤ R 3
abbrev nearM (d : Nat → Int32) (r : Nat) : Prop := sizeF (rowM d r 1 - d 3) ≤ hearF (rowM d r) (d 5)
abbrev comingM (d : Nat → Int32) (r : Nat) (x : Int32) : Prop := ¬ rowM d r 5 = 1 ∧ nearM d r ∧ wantF (rowM d r) x ∧ trustF (rowM d r) ≤ rowM d r 3
abbrev luredM (d : Nat → Int32) (r : Nat) (x : Int32) : Prop := nearM d r ∧ ¬ wantF (rowM d r) x ∧ temptF (rowM d r) x
def mostM (d : Nat → Int32) : Nat → Int32
  | 0 => 0
  | k + 1 => if d (13 + k) ≤ mostM d k then mostM d k else d (13 + k)
def manyM (d : Nat → Int32) : Nat → Int32
  | 0 => 0
  | k + 1 => manyM d k + (if d (13 + k) ≤ 0 then 0 else 1)
def fetchM (d : Nat → Int32) : Int32 := mostM d 12 + 5 * manyM d 12
def stepM (d : Nat → Int32) (q r : Nat) : Nat → Int32 :=
  if rowM d r 5 = 1 then d
  else if comingM d r (nI q) then
    upd (upd (upd d (25 + 8 * 4 + r) (heldF (rowM d r 4 + 1) 0 9999)) (13 + q) (heldF ((upd d (25 + 8 * 4 + r) (heldF (rowM d r 4 + 1) 0 9999)) (13 + q) + 1) 0 999)) (25 + 8 * 3 + r) (heldF (rowM d r 3 - loseF (rowM d r)) 0 99)
  else
    upd (upd d (25 + 8 * 2 + r) (rowM d r 2 ||| (if luredM d r (nI q) then 1 <<< (nI q &&& 31) else 0))) (25 + 8 * 3 + r) (heldF (rowM (upd d (25 + 8 * 2 + r) (rowM d r 2 ||| (if luredM d r (nI q) then 1 <<< (nI q &&& 31) else 0))) r 3 + mendF (rowM (upd d (25 + 8 * 2 + r) (rowM d r 2 ||| (if luredM d r (nI q) then 1 <<< (nI q &&& 31) else 0))) r)) 0 99)
def lpM (d : Nat → Int32) (q : Nat) : Nat → Nat → Int32
  | 0 => d
  | i + 1 => stepM (lpM d q i) q i
def clrM (d : Nat → Int32) (i : Nat) : Nat → Int32 := fun j => if 13 ≤ j ∧ j < 13 + i then 0 else d j
def gqM (d : Nat → Int32) : Nat := (d (7 + (d 1).toNatClampNeg % 6)).toNatClampNeg
def mvM (d : Nat → Int32) : Nat → Int32 := upd d 3 ((d 3 + d 4) - (d 3 + d 4) / 16 * 16)
def sellM (d : Nat → Int32) : Nat → Int32 := if d 1 - d 1 / 7 * 7 = 6 then clrM (upd d 6 (heldF (d 6 + fetchM d) 0 99999)) 12 else d
def nextM (d : Nat → Int32) : Nat → Int32 := upd d 1 (heldF (d 1 + 1) 0 99999)
def dayM (d : Nat → Int32) : Nat → Int32 := nextM (sellM (lpM (mvM d) (gqM (mvM d)) (d 0).toNatClampNeg))
theorem stepM_lo {d : Nat → Int32} {q r j : Nat} (hj : j < 13) (hr : r < 8) : stepM d q r j = d j := by
  unfold stepM
  split
  · rfl
  · split
    · simp only [upd]
      rw [if_neg (by omega), if_neg (by omega), if_neg (by omega)]
    · simp only [upd]
      rw [if_neg (by omega), if_neg (by omega)]
theorem lpM_lo {d : Nat → Int32} {q j : Nat} (h : j < 13) : ∀ i, i ≤ 8 → lpM d q i j = d j
  | 0, _ => rfl
  | i + 1, hi => by
    rw [lpM, stepM_lo h (by omega)]
    exact lpM_lo h i (by omega)
theorem okM_gq {d : Nat → Int32} {N : Nat} (h : okM d N) : gqM d < 12 ∧ d (7 + (d 1).toNatClampNeg % 6) = nI (gqM d) := by
  obtain ⟨-, -, -, h4⟩ := h
  obtain ⟨q, hq, e⟩ := h4 ((d 1).toNatClampNeg % 6) (Nat.mod_lt _ (by decide))
  unfold gqM
  rw [e, nI_clamp (by omega)]
  exact ⟨hq, rfl⟩
theorem okM_same {d d2 : Nat → Int32} {N : Nat} (h : okM d N) (h2 : ∀ j, j < 13 → j ≠ 3 → j ≠ 4 → j ≠ 5 → j ≠ 6 → j ≠ 2 → d2 j = d j) : okM d2 N := by
  obtain ⟨a, b, ⟨D, c1, c2⟩, e1⟩ := h
  refine ⟨a, by rw [h2 0 (by omega) (by omega) (by omega) (by omega) (by omega) (by omega)]; exact b, ⟨D, c1, by rw [h2 1 (by omega) (by omega) (by omega) (by omega) (by omega) (by omega)]; exact c2⟩, fun i hi => ?_⟩
  rw [h2 (7 + i) (by omega) (by omega) (by omega) (by omega) (by omega) (by omega)]
  exact e1 i hi
theorem okM_mv {d : Nat → Int32} {N : Nat} (h : okM d N) : okM (mvM d) N := okM_same h (fun j _ h3 _ _ _ _ => by simp [mvM, upd, h3])
theorem okM_lp {d : Nat → Int32} {N q i : Nat} (h : okM d N) (hi : i ≤ 8) : okM (lpM d q i) N := okM_same h (fun j hj _ _ _ _ _ => lpM_lo hj i hi)
theorem okM_sell {d : Nat → Int32} {N : Nat} (h : okM d N) : okM (sellM d) N := okM_same h (fun j hj _ _ _ h6 _ => by
  unfold sellM
  split
  · simp only [clrM, upd]
    rw [if_neg (by omega), if_neg h6]
  · rfl)
theorem heldF_nat {a b c : Nat} (hc : c < 2 ^ 31) (ha : a < 2 ^ 31) (hb : b ≤ a) : heldF (nI a) (nI b) (nI c) = nI (if a ≤ c then a else c) := by
  unfold heldF
  rw [if_pos (nI_le hb ha)]
  by_cases h : a ≤ c
  · rw [if_pos (nI_le h hc), if_pos h]
  · rw [if_neg (fun q => h ((nI_leI ha hc).mp q)), if_neg h]
theorem okM_next {d : Nat → Int32} {N : Nat} (h : okM d N) : okM (nextM d) N := by
  obtain ⟨a, b, ⟨D, c1, c2⟩, e1⟩ := h
  refine ⟨a, b, ⟨if D + 1 ≤ 99999 then D + 1 else 99999, by split <;> omega, ?_⟩, fun i hi => ?_⟩
  · show heldF (d 1 + 1) 0 99999 = _
    rw [c2, nI_1]
    exact heldF_nat (b := 0) (c := 99999) (by decide) (by omega) (by omega)
  · obtain ⟨q, hq, e⟩ := e1 i hi
    refine ⟨q, hq, ?_⟩
    rw [← e]
    simp only [nextM, upd]
    rw [if_neg (by omega)]
theorem okM_day {d : Nat → Int32} {N : Nat} (h : okM d N) : okM (dayM d) N := by
  unfold dayM
  rw [h.2.1, nI_clamp (by have := h.1; omega)]
  exact okM_next (okM_sell (okM_lp (okM_mv h) h.1))
def daysM (d : Nat → Int32) : Nat → Nat → Int32
  | 0 => d
  | i + 1 => dayM (daysM d i)
theorem okM_days {d : Nat → Int32} {N : Nat} (h : okM d N) : ∀ i, okM (daysM d i) N
  | 0 => h
  | i + 1 => okM_day (okM_days h i)
theorem fa_nlt {a b : Int32} (h : ¬ a < b) : b ≤ a := by rw [fa_lt] at h; rw [fa_le]; omega
theorem fa_lt_nle {a b : Int32} (h : a < b) : ¬ b ≤ a := by rw [fa_lt] at h; rw [fa_le]; omega
theorem nat_pred (N : Nat) (h : N ≤ 8) : ((nI N - 1).toInt64).toInt = (N : Int) - 1 := by
  rw [toInt64_toInt]
  exact (by decide +kernel : ∀ N : Fin 9, (nI N.val - 1).toInt = (N.val : Int) - 1) ⟨N, by omega⟩
theorem kd_ms (a : Nat) (h : 54 ≤ a ∧ a ≤ 57) : kd a = 8 := by
  have : a = 54 ∨ a = 55 ∨ a = 56 ∨ a = 57 := by omega
  rcases this with rfl | rfl | rfl | rfl <;> rfl
theorem ln_ms (a : Nat) (h : 54 ≤ a ∧ a ≤ 57) : ln a = 83 := by
  have : a = 54 ∨ a = 55 ∨ a = 56 ∨ a = 57 := by omega
  rcases this with rfl | rfl | rfl | rfl <;> rfl
def cpyM (f h : Nat → Int32) (i : Nat) : Nat → Int32 := fun j => if j < i then f j else h j
theorem cpyM_0 (f h : Nat → Int32) : cpyM f h 0 = h := by funext j; simp [cpyM]
theorem cpyM_s (f h : Nat → Int32) (i : Nat) : upd (cpyM f h i) i (f i) = cpyM f h (i + 1) := by
  funext j
  simp only [upd, cpyM]
  by_cases h1 : j = i
  · subst h1; simp
  · rw [if_neg h1]
    by_cases h2 : j < i
    · rw [if_pos h2, if_pos (by omega)]
    · rw [if_neg h2, if_neg (by omega)]
theorem cpy_st {v : SV} {a b i : Nat} {h : Nat → Int32} (hab : a ≠ b) : up (upw v b (cpyM (v.1 a) h i)) b i ((upw v b (cpyM (v.1 a) h i)).1 a i) = upw v b (cpyM (v.1 a) h (i + 1)) := by
  rw [upw_up, upw_ne v _ hab, cpyM_s]
theorem clrM_0 (d : Nat → Int32) : clrM d 0 = d := by
  funext j
  simp only [clrM]
  rw [if_neg (by omega)]
theorem clrM_s (d : Nat → Int32) (i : Nat) : upd (clrM d i) (13 + i) 0 = clrM d (i + 1) := by
  funext j
  simp only [clrM, upd]
  by_cases h1 : j = 13 + i
  · rw [if_pos h1, if_pos (by omega)]
  · rw [if_neg h1]
    by_cases h2 : 13 ≤ j ∧ j < 13 + i
    · rw [if_pos h2, if_pos (by omega)]
    · rw [if_neg h2, if_neg (by omega)]
theorem i0_sub (x : Int32) : 0 - x = -x := by
  apply Int32.toBitVec_inj.mp
  simp
def mvInR (R : Nat → Int32) (x y : Int32) : Nat → Int32 := upd (upd (upd (upd (upd (upd R 0 x) 1 y) 2 0) 3 50) 4 0) 5 0
def ushF (x k : Int32) : Int32 := (x.toUInt32 >>> (k.toUInt32 &&& Int32.toUInt32 31)).toInt32
def pop1 (x : Int32) : Int32 := x - (ushF x 1 &&& 1431655765)
def pop2 (x : Int32) : Int32 := (x &&& 858993459) + (ushF x 2 &&& 858993459)
def pop3 (x : Int32) : Int32 := (x + ushF x 4) &&& 252645135
def pop4 (x : Int32) : Int32 := x + ushF x 8
def pop5 (x : Int32) : Int32 := x + ushF x 16
def popF (x : Int32) : Int32 := pop5 (pop4 (pop3 (pop2 (pop1 x)))) &&& 63
theorem pop_ones64 : ∀ a, a < 64 → ∀ b, b < 64 → popF (nI (64 * a + b)) = onesF (nI (64 * a + b)) 12 := by decide +kernel
theorem pop_ones (w : Nat) (h : w < 4096) : popF (nI w) = onesF (nI w) 12 := by
  have h1 := pop_ones64 (w / 64) (by omega) (w % 64) (by omega)
  rw [show 64 * (w / 64) + w % 64 = w by omega] at h1
  exact h1
theorem pop_onesE {x : Int32} (h : ∃ w : Nat, w < 4096 ∧ x = nI w) : popF x = onesF x 12 := by
  obtain ⟨w, hw, rfl⟩ := h
  exact pop_ones w hw
def tellF (R : Nat → Int32) (x y z : Int32) : Int32 :=
  if x = 0 then R 0 else if x = 1 then R 1 else if x = 2 then R 2 else if x = 3 then R 3 else if x = 4 then R 4 else if x = 5 then R 5 else if x = 6 then hearF R z else if x = 7 then trustF R else if x = 8 then loseF R else if x = 9 then mendF R else sizeF (R 1 - y)
def putR (R : Nat → Int32) (x y : Int32) : Nat → Int32 :=
  if x = 0 then upd R 0 y else if x = 1 then upd R 1 y else if x = 2 then upd R 2 y else if x = 3 then upd R 3 y else if x = 4 then upd R 4 y else upd R 5 y
def becR (R S : Nat → Int32) : Nat → Int32 := upd (upd (upd (upd (upd (upd R 0 (S 0)) 1 (S 1)) 2 (S 2)) 3 (S 3)) 4 (S 4)) 5 (S 5)
abbrev heedF (R : Nat → Int32) (y z : Int32) : Prop := sizeF (R 1 - y) ≤ hearF R z
abbrev comeF (R : Nat → Int32) (x y z : Int32) : Prop := R 5 = 0 ∧ wantF R x ∧ trustF R ≤ R 3 ∧ heedF R y z
def standR (R : Nat → Int32) : Nat → Int32 :=
  upd (upd R 4 (if R 4 + 1 < 9999 then R 4 + 1 else 9999)) 3 (if 0 < (upd R 4 (if R 4 + 1 < 9999 then R 4 + 1 else 9999)) 3 - loseF (upd R 4 (if R 4 + 1 < 9999 then R 4 + 1 else 9999)) then (upd R 4 (if R 4 + 1 < 9999 then R 4 + 1 else 9999)) 3 - loseF (upd R 4 (if R 4 + 1 < 9999 then R 4 + 1 else 9999)) else 0)
def lureR (R : Nat → Int32) (x y z : Int32) : Nat → Int32 := if ¬ wantF R x ∧ heedF R y z ∧ temptF R x then upd R 2 (R 2 ||| 1 <<< (x &&& 31)) else R
theorem lureR_t {R : Nat → Int32} {x y z : Int32} (h1 : ¬ wantF R x) (h2 : heedF R y z) (h3 : temptF R x) : lureR R x y z = upd R 2 (R 2 ||| 1 <<< (x &&& 31)) := if_pos ⟨h1, h2, h3⟩
theorem lureR_f1 {R : Nat → Int32} {x y z : Int32} (h1 : wantF R x) : lureR R x y z = R := if_neg (fun h => h.1 h1)
theorem lureR_f2 {R : Nat → Int32} {x y z : Int32} (h1 : ¬ heedF R y z) : lureR R x y z = R := if_neg (fun h => h1 h.2.1)
theorem lureR_f3 {R : Nat → Int32} {x y z : Int32} (h1 : ¬ temptF R x) : lureR R x y z = R := if_neg (fun h => h1 h.2.2)
def stayR (R : Nat → Int32) (x y z : Int32) : Nat → Int32 := upd (lureR R x y z) 3 (if (lureR R x y z) 3 + mendF (lureR R x y z) < 99 then (lureR R x y z) 3 + mendF (lureR R x y z) else 99)
