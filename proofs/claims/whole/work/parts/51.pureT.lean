/-! the class's tape -/
def tqR (R : Nat → Int32) (tk st vl nx : Int32) : Nat → Int32 := fun j => if j = 2 then tk else if j = 3 then st else if j = 4 then vl else if j = 5 then nx else R j
def tqV (v : SV) (tk st vl nx : Int32) : SV := upw v 41 (tqR (v.1 41) tk st vl nx)
theorem tq_row (v : SV) (tk st vl nx : Int32) : (tqV v tk st vl nx).1 41 = tqR (v.1 41) tk st vl nx := upw_same _ _ _
theorem tq_ne (v : SV) (tk st vl nx : Int32) {c : Nat} (h : c ≠ 41) : (tqV v tk st vl nx).1 c = v.1 c := upw_ne _ _ h
theorem tq_up (v : SV) (tk st vl nx : Int32) (j : Nat) (x : Int32) : up (tqV v tk st vl nx) 41 j x = upw v 41 (upd (tqR (v.1 41) tk st vl nx) j x) := upw_up _ _ _ _ _
theorem tq_2 (v : SV) (tk st vl nx x : Int32) : up (tqV v tk st vl nx) 41 2 x = tqV v x st vl nx := by
  rw [tq_up, tqV]
  congr 1
  funext j
  simp only [upd, tqR]
  by_cases h : j = 2 <;> simp [h]
theorem tq_3 (v : SV) (tk st vl nx x : Int32) : up (tqV v tk st vl nx) 41 3 x = tqV v tk x vl nx := by
  rw [tq_up, tqV]
  congr 1
  funext j
  simp only [upd, tqR]
  by_cases h2 : j = 2 <;> by_cases h3 : j = 3 <;> simp [h2, h3] <;> omega
theorem tq_4 (v : SV) (tk st vl nx x : Int32) : up (tqV v tk st vl nx) 41 4 x = tqV v tk st x nx := by
  rw [tq_up, tqV]
  congr 1
  funext j
  simp only [upd, tqR]
  by_cases h2 : j = 2 <;> by_cases h3 : j = 3 <;> by_cases h4 : j = 4 <;> simp [h2, h3, h4] <;> omega
theorem tq_5 (v : SV) (tk st vl nx x : Int32) : up (tqV v tk st vl nx) 41 5 x = tqV v tk st vl x := by
  rw [tq_up, tqV]
  congr 1
  funext j
  simp only [upd, tqR]
  by_cases h2 : j = 2 <;> by_cases h3 : j = 3 <;> by_cases h4 : j = 4 <;> by_cases h5 : j = 5 <;> simp [h2, h3, h4, h5] <;> omega
theorem tq_self {v : SV} {x : Int32} (h : v.1 41 5 = x) : tqV v (v.1 41 2) (v.1 41 3) (v.1 41 4) x = v := by
  have e : tqR (v.1 41) (v.1 41 2) (v.1 41 3) (v.1 41 4) x = v.1 41 := by
    funext j
    unfold tqR
    by_cases h2 : j = 2
    · rw [if_pos h2, h2]
    · rw [if_neg h2]
      by_cases h3 : j = 3
      · rw [if_pos h3, h3]
      · rw [if_neg h3]
        by_cases h4 : j = 4
        · rw [if_pos h4, h4]
        · rw [if_neg h4]
          by_cases h5 : j = 5
          · rw [if_pos h5, h5, h]
          · rw [if_neg h5]
  rw [tqV, e, upw_self]
def tkB (b : Int32) : Int32 := if 97 ≤ b ∧ b ≤ 122 then 1 else if 48 ≤ b ∧ b ≤ 57 then 2 else if b = 59 then 3 else 4
theorem let_nat {b : Int32} (h : 97 ≤ b ∧ b ≤ 122) : ∃ m : Nat, 1 ≤ m ∧ m ≤ 26 ∧ b = nI (96 + m) ∧ letF b = nI m := by
  obtain ⟨h1, h2⟩ := h
  rw [fa_le] at h1 h2
  rw [show (97 : Int32).toInt = 97 from rfl] at h1
  rw [show (122 : Int32).toInt = 122 from rfl] at h2
  obtain ⟨m, hm1, hm2, rfl⟩ : ∃ m : Nat, 1 ≤ m ∧ m ≤ 26 ∧ b = nI (96 + m) := by
    refine ⟨b.toInt.toNat - 96, by omega, by omega, ?_⟩
    rw [fa_eq, nI_toInt (by omega)]
    omega
  have q : ∀ m, m < 27 → 1 ≤ m → letF (nI (96 + m)) = nI m := by decide +kernel
  exact ⟨m, hm1, hm2, rfl, q m (by omega) hm1⟩
theorem let_pos {b : Int32} : 0 < letF b ↔ 97 ≤ b ∧ b ≤ 122 := by
  constructor
  · intro h
    unfold letF at h
    by_cases h1 : b < 97
    · rw [if_pos h1] at h; exact absurd h (by decide)
    · rw [if_neg h1] at h
      by_cases h2 : 122 < b
      · rw [if_pos h2] at h; exact absurd h (by decide)
      · exact ⟨fa_nlt h1, fa_nlt h2⟩
  · intro h
    obtain ⟨m, h1, h2, -, e⟩ := let_nat h
    rw [e]
    exact (nI_ltI (a := 0) (b := m) (by decide) (by omega)).mpr (by omega)
theorem tkB_cases (b : Int32) : (tkB b = 1 ∧ 0 < letF b) ∨ (tkB b = 2 ∧ ¬ 0 < letF b ∧ dgP b) ∨ (tkB b = 3 ∧ b = 59) ∨ (tkB b = 4 ∧ ¬ 0 < letF b ∧ ¬ dgP b ∧ ¬ b = 59) := by
  unfold tkB
  by_cases h1 : 97 ≤ b ∧ b ≤ 122
  · exact Or.inl ⟨if_pos h1, let_pos.mpr h1⟩
  · have n1 : ¬ 0 < letF b := fun z => h1 (let_pos.mp z)
    rw [if_neg h1]
    by_cases h2 : 48 ≤ b ∧ b ≤ 57
    · exact Or.inr (Or.inl ⟨if_pos h2, n1, h2⟩)
    · rw [if_neg h2]
      by_cases h3 : b = 59
      · exact Or.inr (Or.inr (Or.inl ⟨if_pos h3, h3⟩))
      · exact Or.inr (Or.inr (Or.inr ⟨if_neg h3, n1, h2, h3⟩))
theorem tkB_1 {b : Int32} : tkB b = 1 ↔ 0 < letF b := by
  rcases tkB_cases b with ⟨e, h⟩ | ⟨e, h, -⟩ | ⟨e, h⟩ | ⟨e, h, -⟩
  · exact ⟨fun _ => h, fun _ => e⟩
  · exact ⟨fun z => absurd (e.symm.trans z) (by decide), fun z => absurd z h⟩
  · exact ⟨fun z => absurd (e.symm.trans z) (by decide), fun z => absurd (h ▸ z) (by decide)⟩
  · exact ⟨fun z => absurd (e.symm.trans z) (by decide), fun z => absurd z h⟩
theorem tkB_2 {b : Int32} : tkB b = 2 ↔ dgP b := by
  rcases tkB_cases b with ⟨e, h⟩ | ⟨e, -, h⟩ | ⟨e, h⟩ | ⟨e, -, h, -⟩
  · refine ⟨fun z => absurd (e.symm.trans z) (by decide), fun z => ?_⟩
    have h1 := (let_pos.mp h).1
    have h2 := z.2
    rw [fa_le] at h1 h2
    rw [show (97 : Int32).toInt = 97 from rfl] at h1
    rw [show (57 : Int32).toInt = 57 from rfl] at h2
    omega
  · exact ⟨fun _ => h, fun _ => e⟩
  · exact ⟨fun z => absurd (e.symm.trans z) (by decide), fun z => absurd (h ▸ z) (by decide)⟩
  · exact ⟨fun z => absurd (e.symm.trans z) (by decide), fun z => absurd z h⟩
theorem tkK_B {B : Nat → Int32} {T c : Nat} (h : ¬ c = T) : tkK B T c = tkB (B c) := by
  unfold tkK
  rw [if_neg h]
  rcases tkB_cases (B c) with ⟨e, h1⟩ | ⟨e, h1, h2⟩ | ⟨e, h1⟩ | ⟨e, h1, h2, h3⟩
  · have n1 : ¬ B c = 59 := fun z => absurd (z ▸ h1) (by decide)
    rw [if_neg n1, if_neg (fa_lt_nle h1), e]
  · have n1 : ¬ B c = 59 := fun z => absurd (z ▸ h2) (by decide)
    rw [if_neg n1, if_pos (fa_nlt h1), if_pos h2, e]
  · rw [if_pos h1, e]
  · rw [if_neg h3, if_pos (fa_nlt h1), if_neg h2, e]
/-- a number's value as the class has it -/
def dgN (b : Int32) : Nat := (b - 48).toNatClampNeg
def vlN (B : Nat → Int32) (a : Nat) : Nat → Nat
  | 0 => 0
  | q + 1 => min 10000 (vlN B a q * 10 + dgN (B (a + q)))
theorem vl_le (B : Nat → Int32) (a : Nat) : ∀ q, vlN B a q ≤ 10000
  | 0 => Nat.zero_le _
  | q + 1 => Nat.min_le_left _ _
theorem dg_eq {b : Int32} (h : dgP b) : b - 48 = nI (dgN b) ∧ dgN b ≤ 9 ∧ b.toInt64 - 48 = lN (dgN b) := by
  obtain ⟨m, hm, rfl⟩ := dig_nat h
  have e : nI (m + 48) - 48 = nI m := by
    rw [fa_eq, show (48 : Int32) = nI 48 from rfl, pk_sub_toInt (by omega) (by omega), nI_toInt (by omega)]
    omega
  have e2 : dgN (nI (m + 48)) = m := by unfold dgN; rw [e, nI_clamp (by omega)]
  rw [e2]
  refine ⟨e, hm, ?_⟩
  rw [nI_l (by omega), show (48 : Int64) = lN 48 from rfl, lN_sub (by omega)]
  congr 1
theorem vl_min {B : Nat → Int32} {a q : Nat} (h : dgP (B (a + q))) : (if (nI (vlN B a q * 10) + (B (a + q) - 48)) < 10000 then (nI (vlN B a q * 10) + (B (a + q) - 48)) else 10000) = nI (vlN B a (q + 1)) := by
  obtain ⟨e, h9, -⟩ := dg_eq h
  have := vl_le B a q
  rw [e, nI_add, vlN, show (10000 : Int32) = nI 10000 from rfl]
  by_cases hc : vlN B a q * 10 + dgN (B (a + q)) < 10000
  · rw [if_pos ((nI_ltI (b := 10000) (by omega) (by decide)).mpr hc), Nat.min_eq_right (by omega)]
  · rw [if_neg (fun z => hc ((nI_ltI (b := 10000) (by omega) (by decide)).mp z)), Nat.min_eq_left (by omega)]
theorem add_sub64 (x y z : Int64) : x + y - z = x + (y - z) := by
  apply Int64.toBitVec_inj.mp
  show x.toBitVec + y.toBitVec - z.toBitVec = x.toBitVec + (y.toBitVec - z.toBitVec)
  rw [BitVec.sub_eq_add_neg, BitVec.sub_eq_add_neg, BitVec.add_assoc]
theorem vl_num {B : Nat → Int32} {a : Nat} : ∀ q, (∀ t, t < q → dgP (B (a + t))) → ∃ m : Nat, m ≤ 99999 ∧ numV B a q = lN m ∧ vlN B a q = min 10000 m
  | 0, _ => ⟨0, by omega, rfl, rfl⟩
  | q + 1, h => by
    obtain ⟨m, hm, e, e2⟩ := vl_num q (fun t ht => h t (by omega))
    obtain ⟨-, h9, e3⟩ := dg_eq (h q (by omega))
    by_cases h1 : numV B a q ≤ 9999
    · have h2 := h1
      rw [e, show (9999 : Int64) = lN 9999 from rfl, pk_lLE (by omega) (by omega)] at h2
      refine ⟨m * 10 + dgN (B (a + q)), by omega, ?_, ?_⟩
      · rw [numV_a h1, e, show (10 : Int64) = lN 10 from rfl, lN_mul, add_sub64, e3, lN_add]
      · rw [vlN, e2, Nat.min_eq_right (by omega : m ≤ 10000)]
    · have h2 := h1
      rw [e, show (9999 : Int64) = lN 9999 from rfl, pk_lLE (by omega) (by omega)] at h2
      refine ⟨m, hm, by rw [numV_b h1, e], ?_⟩
      rw [vlN, e2]
      omega
noncomputable def vlC (B : Nat → Int32) (T c : Nat) : Int32 := if tkK B T c = 2 then nI (vlN B c (nmE B T c - c)) else 0
noncomputable def tnE (B : Nat → Int32) (T c : Nat) : Nat := if tkK B T c = 4 then c + 1 else tkE B T c
noncomputable def ctV (v : SV) (B : Nat → Int32) (T c : Nat) : SV := tqV v (tkK B T c) (nI c) (vlC B T c) (nI (tnE B T c))
theorem ct_end {v : SV} {B : Nat → Int32} {T c : Nat} (h : c = T) : ctV v B T c = tqV v 0 (nI c) 0 (nI c) := by
  have hk : tkK B T c = 0 := by unfold tkK; rw [if_pos h]
  rw [ctV, vlC, tnE, hk, if_neg (by decide), if_neg (by decide), tkE, if_pos h]
theorem ct_sign {v : SV} {B : Nat → Int32} {T c : Nat} (h : ¬ c = T) (hb : B c = 59) : ctV v B T c = tqV v 3 (nI c) 0 (nI (c + 1)) := by
  have hk : tkK B T c = 3 := by unfold tkK; rw [if_neg h, if_pos hb]
  rw [ctV, vlC, tnE, hk, if_neg (by decide), if_neg (by decide), tkE, if_neg h, if_pos hb]
theorem ct_odd {v : SV} {B : Nat → Int32} {T c : Nat} (h : ¬ c = T) (hb : tkB (B c) = 4) : ctV v B T c = tqV v 4 (nI c) 0 (nI (c + 1)) := by
  have hk : tkK B T c = 4 := by rw [tkK_B h, hb]
  rw [ctV, vlC, tnE, hk, if_neg (by decide), if_pos rfl]
theorem ct_word {v : SV} {B : Nat → Int32} {T c q : Nat} (h : ¬ c = T) (hb : tkB (B c) = 1) (hq : wrE B T c = c + q) : ctV v B T c = tqV v 1 (nI c) 0 (nI (c + q)) := by
  have hk : tkK B T c = 1 := by rw [tkK_B h, hb]
  have h1 := tkB_1.mp hb
  have n1 : ¬ B c = 59 := fun z => absurd (z ▸ h1) (by decide)
  rw [ctV, vlC, tnE, hk, if_neg (by decide), if_neg (by decide), tkE, if_neg h, if_neg n1, if_neg (fa_lt_nle h1), hq]
theorem ct_num {v : SV} {B : Nat → Int32} {T c q : Nat} (h : ¬ c = T) (hb : tkB (B c) = 2) (hq : nmE B T c = c + q) : ctV v B T c = tqV v 2 (nI c) (nI (vlN B c q)) (nI (c + q)) := by
  have hk : tkK B T c = 2 := by rw [tkK_B h, hb]
  have h2 := tkB_2.mp hb
  have n1 : ¬ B c = 59 := fun z => absurd (z ▸ h2) (by decide)
  have n2 : ¬ 0 < letF (B c) := fun z => absurd (hb.symm.trans (tkB_1.mpr z)) (by decide)
  rw [ctV, vlC, tnE, hk, if_pos rfl, if_neg (by decide), tkE, if_neg h, if_neg n1, if_pos (fa_nlt n2), if_pos h2, hq, show c + q - c = q by omega]
/-- words by their numbers -/
def ltN (b : Int32) : Nat := (letF b).toNatClampNeg
theorem lt_eq {b : Int32} (h : 0 < letF b) : 1 ≤ ltN b ∧ ltN b ≤ 26 ∧ b = nI (96 + ltN b) ∧ (letF b).toInt64 = lN (ltN b) := by
  obtain ⟨m, h1, h2, h3, h4⟩ := let_nat (let_pos.mp h)
  have e : ltN b = m := by unfold ltN; rw [h4, nI_clamp (by omega)]
  rw [e, h4]
  exact ⟨h1, h2, h3, nI_l (by omega)⟩
def wvN (B : Nat → Int32) (c : Nat) : Nat → Nat
  | 0 => 0
  | q + 1 => if wvN B c q ≤ 100000000000000000 then wvN B c q * 27 + ltN (B (c + q)) else wvN B c q
theorem wv_eq {B : Nat → Int32} {c : Nat} : ∀ q, (∀ t, t < q → 0 < letF (B (c + t))) → wordV B c q = lN (wvN B c q) ∧ wvN B c q < 2 ^ 62
  | 0, _ => ⟨rfl, show 0 < 2 ^ 62 by decide⟩
  | q + 1, h => by
    obtain ⟨e, hb⟩ := wv_eq q (fun t ht => h t (by omega))
    obtain ⟨l1, l2, -, l4⟩ := lt_eq (h q (by omega))
    by_cases h1 : wvN B c q ≤ 100000000000000000
    · have h2 : wordV B c q ≤ 100000000000000000 := by rw [e, show (100000000000000000 : Int64) = lN 100000000000000000 from rfl, pk_lLE (by omega) (by omega)]; exact h1
      rw [wordV_a h2, e, l4, show (27 : Int64) = lN 27 from rfl, lN_mul, lN_add, wvN, if_pos h1]
      exact ⟨rfl, by omega⟩
    · have h2 : ¬ wordV B c q ≤ 100000000000000000 := by rw [e, show (100000000000000000 : Int64) = lN 100000000000000000 from rfl, pk_lLE (by omega) (by omega)]; exact h1
      rw [wordV_b h2, wvN, if_neg h1]
      exact ⟨e, hb⟩
def pfN (i : Nat) : Nat → Nat
  | 0 => 0
  | k + 1 => pfN i k * 27 + ltN (chW i k)
def hsW : List Int64 := [1955331, 2698, 256855, 1888, 70400, 12403634, 82410, 8779, 190500955076, 47, 12253591, 168836, 36502, 315743, 247702]
theorem hs_eq : ∀ i, i < 15 → hsW.getD i 0 = lN (pfN i (wdN.getD i 0)) := by decide +kernel
theorem pf_le : ∀ i, i < 15 → ∀ k, k < 9 → pfN i k ≤ 100000000000000000 := by decide +kernel
theorem ch_let : ∀ i, i < 15 → ∀ k, k < wdN.getD i 0 → 0 < letF (chW i k) := by decide +kernel
theorem wv_iff {B : Nat → Int32} {c i : Nat} (hi : i < 15) : ∀ k, k ≤ wdN.getD i 0 → ∀ q, (∀ t, t < q → 0 < letF (B (c + t))) → (wvN B c q = pfN i k ↔ (q = k ∧ ∀ t, t < k → ltN (B (c + t)) = ltN (chW i t)))
  | 0, _, q, h => by
    constructor
    · intro e
      refine ⟨?_, fun t ht => absurd ht (Nat.not_lt_zero t)⟩
      cases q with
      | zero => rfl
      | succ q =>
        exfalso
        obtain ⟨l1, -⟩ := lt_eq (h q (by omega))
        rw [wvN, pfN] at e
        by_cases h1 : wvN B c q ≤ 100000000000000000
        · rw [if_pos h1] at e; omega
        · rw [if_neg h1] at e; omega
    · rintro ⟨rfl, -⟩; rfl
  | k + 1, hk, q, h => by
    have h8 := wd_lt i hi
    have hp := pf_le i hi (k + 1) (by omega)
    obtain ⟨d1, d2, -⟩ := lt_eq (ch_let i hi k (by omega))
    rw [pfN] at hp ⊢
    cases q with
    | zero =>
      constructor
      · intro e
        rw [wvN] at e
        omega
      · rintro ⟨e, -⟩; omega
    | succ q =>
      obtain ⟨l1, l2, -⟩ := lt_eq (h q (by omega))
      have ih := wv_iff (B := B) (c := c) hi k (by omega) q (fun t ht => h t (by omega))
      rw [wvN]
      by_cases h1 : wvN B c q ≤ 100000000000000000
      · rw [if_pos h1]
        constructor
        · intro e
          have e1 : wvN B c q = pfN i k := by omega
          have e2 : ltN (B (c + q)) = ltN (chW i k) := by omega
          obtain ⟨e3, e4⟩ := ih.mp e1
          subst e3
          refine ⟨rfl, fun t ht => ?_⟩
          by_cases ht2 : t < q
          · exact e4 t ht2
          · rw [show t = q by omega]; exact e2
        · rintro ⟨e3, e4⟩
          have e5 : q = k := by omega
          subst e5
          rw [ih.mpr ⟨rfl, fun t ht => e4 t (by omega)⟩, e4 q (by omega)]
      · rw [if_neg h1]
        constructor
        · intro e; omega
        · rintro ⟨e3, e4⟩
          have e5 : q = k := by omega
          subst e5
          have := ih.mpr ⟨rfl, fun t ht => e4 t (by omega)⟩
          have := pf_le i hi q (by omega)
          omega
theorem word_iff {B : Nat → Int32} {c i q : Nat} (hi : i < 15) (h : ∀ t, t < q → 0 < letF (B (c + t))) : wordV B c q = hsW.getD i 0 ↔ (q = wdN.getD i 0 ∧ ∀ t, t < wdN.getD i 0 → B (c + t) = chW i t) := by
  obtain ⟨e, hb⟩ := wv_eq q h
  have h8 := wd_lt i hi
  have hp := pf_le i hi (wdN.getD i 0) (by omega)
  have q1 : wordV B c q = hsW.getD i 0 ↔ wvN B c q = pfN i (wdN.getD i 0) := by
    rw [e, hs_eq i hi]
    constructor
    · intro z
      have a1 : lN (wvN B c q) ≤ lN (pfN i (wdN.getD i 0)) := by rw [z, pk_lLE (by omega) (by omega)]; exact Nat.le_refl _
      have a2 : lN (pfN i (wdN.getD i 0)) ≤ lN (wvN B c q) := by rw [z, pk_lLE (by omega) (by omega)]; exact Nat.le_refl _
      rw [pk_lLE (by omega) (by omega)] at a1 a2
      omega
    · intro z; rw [z]
  rw [q1, wv_iff hi _ (Nat.le_refl _) q h]
  constructor
  · rintro ⟨e1, e2⟩
    refine ⟨e1, fun t ht => ?_⟩
    rw [(lt_eq (h t (by omega))).2.2.1, (lt_eq (ch_let i hi t ht)).2.2.1, e2 t ht]
  · rintro ⟨e1, e2⟩
    exact ⟨e1, fun t ht => by rw [e2 t ht]⟩
theorem tk_wordE {B : Nat → Int32} {T c : Nat} (hc : c ≤ T) (h : tkK B T c = 1) : ∃ q, c + q ≤ T ∧ tnE B T c = c + q ∧ tkX B T c = wordV B c q ∧ ∀ t, t < q → 0 < letF (B (c + t)) := by
  have h0 : ¬ c = T := fun z => by unfold tkK at h; rw [if_pos z] at h; exact absurd h (by decide)
  have h1 := tkB_1.mp ((tkK_B h0).symm.trans h)
  have n1 : ¬ B c = 59 := fun z => absurd (z ▸ h1) (by decide)
  have hw : wrE B T c ≤ T := lk_end hc
  have hg : c ≤ wrE B T c := lk_ge _ _
  refine ⟨wrE B T c - c, by omega, ?_, ?_, fun t ht => ?_⟩
  · rw [tnE, h, if_neg (by decide), tkE, if_neg h0, if_neg n1, if_neg (fa_lt_nle h1)]
    omega
  · rw [tkX, if_neg h0, if_neg n1, if_neg (fa_lt_nle h1)]
  · exact Classical.byContradiction (lk_all (P := fun j => ¬ 0 < letF (B j)) (T - c) c (c + t) (by omega) (by unfold wrE at ht; omega))
theorem tq_over (v : SV) (x tk st vl nx : Int32) : tqV (up v 41 5 x) tk st vl nx = tqV v tk st vl nx := by
  rw [tqV, tqV, upw_upw, upw_same]
  congr 1
  funext j
  simp only [upd, tqR]
  by_cases h5 : j = 5 <;> simp [h5]
def wdO : List Nat := [8, 2, 3, 4, 5, 6, 7]
theorem isub_q {a q : Nat} (h : a + q < 2 ^ 30) : nI (a + q) - nI a = nI q := by
  rw [fa_eq, pk_sub_toInt (by omega) (by omega), nI_toInt (by omega)]
  omega
