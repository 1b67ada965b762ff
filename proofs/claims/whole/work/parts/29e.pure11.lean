theorem lv_topLE {p : Program} {l : Launch} {e : Env} {R : Room} {s : State} {m : MethodId} {args : Array Value} {below : List Frame} {meth : Method} {c : Code} {H : Heap} {locs : List Loc} {cells slots : Nat} {Q : State → Prop} {pc : Nat} {ls : Array Slot} {rest : List Value} {x : Int64} (y : Int64) (h : x = y) (k : W p l e R s m args below meth c H locs cells slots Q (F0 m pc ls (.long y :: rest))) : W p l e R s m args below meth c H locs cells slots Q (F0 m pc ls (.long x :: rest)) := by
  rw [h]; exact k
/-! tokens: what both readers come to -/
def letF (b : Int32) : Int32 := if b < 97 then 0 else if 122 < b then 0 else b - 97 + 1
abbrev dgP (b : Int32) : Prop := 48 ≤ b ∧ b ≤ 57
def bB (v : SV) (T : Nat) : Nat → Int32 := fun j => if j < T then v.1 59 j else -1
theorem bB_lt {v : SV} {T j : Nat} (h : bB v T j ≠ -1) : j < T := by
  by_cases h1 : j < T
  · exact h1
  · exact absurd (if_neg h1) h
theorem letF_ne {b : Int32} (h : 0 < letF b) : b ≠ -1 := fun e => by rw [e] at h; exact absurd h (by decide)
theorem dgP_ne {b : Int32} (h : dgP b) : b ≠ -1 := fun e => by rw [e] at h; exact absurd h.1 (by decide)
def tokR (R : Nat → Int32) (a so f : Int32) : Nat → Int32 := fun j => if j = 8 then a else if j = 9 then so else if j = 10 then f else R j
def tokV (v : SV) (a so f : Int32) (x : Int64) : SV := (va_up v.1 53 (tokR (v.1 53) a so f), x)
theorem tok_row (v : SV) (a so f : Int32) (x : Int64) (R : Nat → Int32) : upw (tokV v a so f x) 53 R = (va_up v.1 53 R, x) := by
  unfold upw tokV
  rw [bx_uu]
theorem tok_53 (v : SV) (a so f : Int32) (x : Int64) : (tokV v a so f x).1 53 = tokR (v.1 53) a so f := by simp [tokV, va_up]
theorem tok_8 (v : SV) (a so f : Int32) (x : Int64) (y : Int32) : up (tokV v a so f x) 53 8 y = tokV v y so f x := by
  rw [up, tok_row, tok_53]
  unfold tokV
  congr 2
  funext j
  simp only [upd, tokR]
  by_cases h : j = 8
  · rw [if_pos h, if_pos h]
  · rw [if_neg h, if_neg h, if_neg h]
theorem tok_9 (v : SV) (a so f : Int32) (x : Int64) (y : Int32) : up (tokV v a so f x) 53 9 y = tokV v a y f x := by
  rw [up, tok_row, tok_53]
  unfold tokV
  congr 2
  funext j
  simp only [upd, tokR]
  by_cases h : j = 9
  · subst h; rfl
  · rw [if_neg h]
    by_cases h8 : j = 8
    · rw [if_pos h8, if_pos h8]
    · rw [if_neg h8, if_neg h8, if_neg h, if_neg h]
theorem tok_10 (v : SV) (a so f : Int32) (x : Int64) (y : Int32) : up (tokV v a so f x) 53 10 y = tokV v a so y x := by
  rw [up, tok_row, tok_53]
  unfold tokV
  congr 2
  funext j
  simp only [upd, tokR]
  by_cases h : j = 10
  · subst h; rfl
  · rw [if_neg h]
    by_cases h8 : j = 8
    · rw [if_pos h8, if_pos h8]
    · by_cases h9 : j = 9
      · rw [if_neg h8, if_neg h8, if_pos h9, if_pos h9]
      · rw [if_neg h8, if_neg h8, if_neg h9, if_neg h9, if_neg h, if_neg h]
theorem tok_L (v : SV) (a so f : Int32) (x y : Int64) : upL (tokV v a so f x) y = tokV v a so f y := rfl
theorem tok_self {v : SV} {y : Int32} (h : v.1 53 8 = y) : tokV v y (v.1 53 9) (v.1 53 10) v.2 = v := by
  have e : tokR (v.1 53) y (v.1 53 9) (v.1 53 10) = v.1 53 := by
    funext j
    simp only [tokR]
    by_cases h8 : j = 8
    · rw [if_pos h8, h8, h]
    · rw [if_neg h8]
      by_cases h9 : j = 9
      · rw [if_pos h9, h9]
      · rw [if_neg h9]
        by_cases h10 : j = 10
        · rw [if_pos h10, h10]
        · rw [if_neg h10]
  have e2 := upw_self v 53
  unfold tokV
  rw [e]
  exact e2
theorem tok_ne (v : SV) (a so f : Int32) (x : Int64) {k : Nat} (h : k ≠ 53) : (tokV v a so f x).1 k = v.1 k := by simp [tokV, va_up, h]
/-- from a on: the first place at which it is not so, T at the most -/
theorem lk_run {Q : Nat → Prop} {a c T : Nat} (h : ∀ t, a ≤ t → t < c → Q t) (hc : ¬ Q c) (hT : c ≤ T) (ha : a ≤ c) : lk (fun j => ¬ Q j) (T - a) a = c := by
  by_cases e : c = T
  · subst e
    rw [lk_no (c - a) a (fun j h1 h2 => fun h3 => h3 (h j h1 (by omega)))]
    omega
  · exact lk_yes (T - a) a c ha (by omega) (fun j h1 h2 => fun h3 => h3 (h j h1 h2)) hc
noncomputable def skp (B : Nat → Int32) (T a : Nat) : Nat := lk (fun j => ¬ B j = 32) (T - a) a
noncomputable def wrE (B : Nat → Int32) (T a : Nat) : Nat := lk (fun j => ¬ 0 < letF (B j)) (T - a) a
noncomputable def nmE (B : Nat → Int32) (T a : Nat) : Nat := lk (fun j => ¬ dgP (B j)) (T - a) a
theorem skp_eq {B : Nat → Int32} {a c T : Nat} (h : ∀ t, a ≤ t → t < c → B t = 32) (hc : ¬ B c = 32) (hT : c ≤ T) (ha : a ≤ c) : skp B T a = c := lk_run h hc hT ha
theorem wrE_eq {B : Nat → Int32} {a q T : Nat} (h : ∀ t, t < q → 0 < letF (B (a + t))) (hc : ¬ 0 < letF (B (a + q))) (hT : a + q ≤ T) : wrE B T a = a + q :=
  lk_run (Q := fun j => 0 < letF (B j)) (fun t h1 h2 => by have := h (t - a) (by omega); rw [show a + (t - a) = t by omega] at this; exact this) hc hT (by omega)
theorem nmE_eq {B : Nat → Int32} {a q T : Nat} (h : ∀ t, t < q → dgP (B (a + t))) (hc : ¬ dgP (B (a + q))) (hT : a + q ≤ T) : nmE B T a = a + q :=
  lk_run (Q := fun j => dgP (B j)) (fun t h1 h2 => by have := h (t - a) (by omega); rw [show a + (t - a) = t by omega] at this; exact this) hc hT (by omega)
def wordV (B : Nat → Int32) (a : Nat) : Nat → Int64
  | 0 => 0
  | q + 1 => if wordV B a q ≤ 100000000000000000 then wordV B a q * 27 + (letF (B (a + q))).toInt64 else wordV B a q
theorem wordV_a {B : Nat → Int32} {a q : Nat} (h : wordV B a q ≤ 100000000000000000) : wordV B a (q + 1) = wordV B a q * 27 + (letF (B (a + q))).toInt64 := if_pos h
theorem wordV_b {B : Nat → Int32} {a q : Nat} (h : ¬ wordV B a q ≤ 100000000000000000) : wordV B a (q + 1) = wordV B a q := if_neg h
def numV (B : Nat → Int32) (a : Nat) : Nat → Int64
  | 0 => 0
  | q + 1 => if numV B a q ≤ 9999 then numV B a q * 10 + (B (a + q)).toInt64 - 48 else numV B a q
theorem numV_a {B : Nat → Int32} {a q : Nat} (h : numV B a q ≤ 9999) : numV B a (q + 1) = numV B a q * 10 + (B (a + q)).toInt64 - 48 := if_pos h
theorem numV_b {B : Nat → Int32} {a q : Nat} (h : ¬ numV B a q ≤ 9999) : numV B a (q + 1) = numV B a q := if_neg h
/-- the token that begins at c: its sort, its end, what it is worth -/
def tkK (B : Nat → Int32) (T c : Nat) : Int32 := if c = T then 0 else if B c = 59 then 3 else if letF (B c) ≤ 0 then (if dgP (B c) then 2 else 4) else 1
noncomputable def tkE (B : Nat → Int32) (T c : Nat) : Nat := if c = T then c else if B c = 59 then c + 1 else if letF (B c) ≤ 0 then (if dgP (B c) then nmE B T c else c) else wrE B T c
noncomputable def tkX (B : Nat → Int32) (T c : Nat) : Int64 := if c = T then 0 else if B c = 59 then 0 else if letF (B c) ≤ 0 then (if dgP (B c) then numV B c (nmE B T c - c) else 0) else wordV B c (wrE B T c - c)
noncomputable def tokOf (v : SV) (B : Nat → Int32) (T c : Nat) : SV := tokV v (nI (tkE B T c)) (tkK B T c) (nI c) (tkX B T c)
noncomputable def nextT (v : SV) (T a : Nat) : SV := tokOf v (bB v T) T (skp (bB v T) T a)
theorem tk_end {v : SV} {B : Nat → Int32} {T c : Nat} (h : c = T) : tokOf v B T c = tokV v (nI c) 0 (nI c) 0 := by
  simp only [tokOf, tkE, tkK, tkX, if_pos h]
theorem tk_sign {v : SV} {B : Nat → Int32} {T c : Nat} (h : ¬ c = T) (hb : B c = 59) : tokOf v B T c = tokV v (nI (c + 1)) 3 (nI c) 0 := by
  simp only [tokOf, tkE, tkK, tkX, if_neg h, if_pos hb]
theorem tk_word {v : SV} {B : Nat → Int32} {T c q : Nat} (h : ¬ c = T) (hb : ¬ B c = 59) (hl : ¬ letF (B c) ≤ 0) (hq : wrE B T c = c + q) : tokOf v B T c = tokV v (nI (c + q)) 1 (nI c) (wordV B c q) := by
  simp only [tokOf, tkE, tkK, tkX, if_neg h, if_neg hb, if_neg hl, hq, Nat.add_sub_cancel_left]
theorem tk_num {v : SV} {B : Nat → Int32} {T c q : Nat} (h : ¬ c = T) (hb : ¬ B c = 59) (hl : letF (B c) ≤ 0) (hd : dgP (B c)) (hq : nmE B T c = c + q) : tokOf v B T c = tokV v (nI (c + q)) 2 (nI c) (numV B c q) := by
  simp only [tokOf, tkE, tkK, tkX, if_neg h, if_neg hb, if_pos hl, if_pos hd, hq, Nat.add_sub_cancel_left]
theorem tk_odd {v : SV} {B : Nat → Int32} {T c : Nat} (h : ¬ c = T) (hb : ¬ B c = 59) (hl : letF (B c) ≤ 0) (hd : ¬ dgP (B c)) : tokOf v B T c = tokV v (nI c) 4 (nI c) 0 := by
  simp only [tokOf, tkE, tkK, tkX, if_neg h, if_neg hb, if_pos hl, if_neg hd]
