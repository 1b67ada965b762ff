def uq (x : Int32) : Nat := (ushF x 8).toNatClampNeg
theorem ush_nat (x : Int32) : (ushF x 8).toBitVec.toNat = x.toBitVec.toNat / 2 ^ 8 := pk_ushr x 8 8 rfl
theorem uq_eq (x : Int32) : ushF x 8 = nI (uq x) := by
  have h := ush_nat x
  have hx := x.toBitVec.isLt
  have h2 : ushF x 8 = nI (x.toBitVec.toNat / 2 ^ 8) := by
    apply Int32.toBitVec_inj.mp
    apply BitVec.eq_of_toNat_eq
    rw [h, pk_tn (by omega)]
  unfold uq
  rw [h2, nI_clamp (by omega)]
theorem uq_lt (x : Int32) : uq x < 2 ^ 24 := by
  have h := ush_nat x
  have hx := x.toBitVec.isLt
  have h2 : ushF x 8 = nI (x.toBitVec.toNat / 2 ^ 8) := by
    apply Int32.toBitVec_inj.mp
    apply BitVec.eq_of_toNat_eq
    rw [h, pk_tn (by omega)]
  unfold uq
  rw [h2, nI_clamp (by omega)]
  omega
def hkS (d : Nat → Int32) : Nat → Int32 := dayM (upd (upd (upd (upd d 2 (lcgF (d 2))) (7 + (d 1).toNatClampNeg % 6) (nI (uq (lcgF (d 2)) % 12))) 2 (lcgF ((upd (upd d 2 (lcgF (d 2))) (7 + (d 1).toNatClampNeg % 6) (nI (uq (lcgF (d 2)) % 12))) 2))) 5 (nI (uq (lcgF ((upd (upd d 2 (lcgF (d 2))) (7 + (d 1).toNatClampNeg % 6) (nI (uq (lcgF (d 2)) % 12))) 2)) % 10)))
def hkM (d : Nat → Int32) : Nat → Nat → Int32
  | 0 => d
  | i + 1 => hkS (hkM d i)
theorem okM_hkS {d : Nat → Int32} {N : Nat} (h : okM d N) : okM (hkS d) N := by
  unfold hkS
  exact okM_day (okM_at (okM_at (okM_list (okM_at h (by decide) (Or.inl (by decide))) (Nat.mod_lt _ (by decide)) (Nat.mod_lt _ (by decide))) (by decide) (Or.inl (by decide))) (by decide) (Or.inl (by decide)))
theorem okM_hk {d : Nat → Int32} {N : Nat} (h : okM d N) : ∀ i, okM (hkM d i) N
  | 0 => h
  | i + 1 => okM_hkS (okM_hk h i)
noncomputable def hawkM (v : SV) (x : Int32) : Int32 × SV := cif (∃ j : Nat, 1 ≤ j ∧ j < 21 ∧ x = nI j) (if (v.1 54 1).toNatClampNeg + x.toNatClampNeg ≤ 99999 then (hkM (v.1 54) x.toNatClampNeg 6, upw v 54 (hkM (v.1 54) x.toNatClampNeg)) else fdM v 4) (fdM v 0)
theorem fb_byte_twice (x : Int32) : x.toInt8.toInt32.toInt8.toInt32 = x.toInt8.toInt32 := by simp
def ffM (v : SV) (x : Int32) (T : Nat) : Nat → SV
  | 0 => v
  | k + 1 => ffM (up (up v 59 T (x >>> (nI (8 * k) &&& 31)).toInt8.toInt32) 53 7 (nI (T + 1))) x (T + 1) k
noncomputable def feedM (v : SV) (x y : Int32) : Int32 × SV := cif (∃ j : Nat, 1 ≤ j ∧ j < 5 ∧ y = nI j) (if (v.1 53 7).toNatClampNeg + y.toNatClampNeg ≤ 120 then (nI ((v.1 53 7).toNatClampNeg + y.toNatClampNeg), ffM v x (v.1 53 7).toNatClampNeg y.toNatClampNeg) else fdM v 1) (fdM v 0)
theorem bit01 (x y : Int32) : ∃ b : Nat, b ≤ 1 ∧ (x >>> y) &&& 1 = nI b := by
  obtain ⟨j, hj, e⟩ := pk_andE (x >>> y) (m := 1) 1 rfl
  exact ⟨j, by omega, e⟩
theorem ones_nat (x : Int32) : ∀ k, ∃ a : Nat, a ≤ k ∧ onesF x k = nI a
  | 0 => ⟨0, Nat.le_refl 0, rfl⟩
  | k + 1 => by
    obtain ⟨a, ha, e⟩ := ones_nat x k
    obtain ⟨b, hb, e2⟩ := bit01 x (nI k &&& 31)
    exact ⟨a + b, by omega, by rw [onesF, e, e2, nI_add]⟩
def powL (b : Int64) : Nat → Int64
  | 0 => 1
  | i + 1 => powL b i * b
def fracF (A : Nat) (z : Int32) : Int64 := if z = 0 then (nI (A / Nat.gcd A 12)).toInt64 else (nI (12 / Nat.gcd A 12)).toInt64
noncomputable def oddsM (v : SV) (x y z : Int32) : Int64 × SV := cif (∃ j : Nat, j < nM v ∧ x = nI j) (cif (∃ j : Nat, j < 18 ∧ y = nI j) (cif (∃ j : Nat, j < 2 ∧ z = nI j) (powL (fracF (onesF (rowM (v.1 54) x.toNatClampNeg 2) 12).toNatClampNeg z) y.toNatClampNeg, v) ((-1000001 - nI 0).toInt64, fnd v 0)) ((-1000001 - nI 0).toInt64, fnd v 0)) ((-1000001 - nI 0).toInt64, fnd v 0)
theorem powL_s {A i : Nat} {z : Int32} {b : Int64} (h : fracF A z = b) : powL (fracF A z) (i + 1) = powL (fracF A z) i * b := by
  show powL (fracF A z) i * fracF A z = _
  rw [h]
def psF (p f : Nat → Int32) (a : Nat) : Nat → Nat → Int32
  | 0 => p
  | i + 1 => upd (psF p f a i) i (f (a + i))
def cqF (f p : Nat → Int32) (a : Nat) : Nat → Nat → Int32
  | 0 => f
  | i + 1 => upd (cqF f p a i) (a + i) (p i)
def copyS (v : SV) (s f t o n : Nat) : SV := upw (upw v 63 (psF (v.1 63) (v.1 62) (40 * s + f) n)) 62 (cqF (v.1 62) (psF (v.1 63) (v.1 62) (40 * s + f) n) (40 * t + o) n)
noncomputable def copyM (v : SV) (x y z a b : Int32) : Int32 × SV := cif (∃ j : Nat, j < 4 ∧ x = nI j) (cif (∃ j : Nat, j < 4 ∧ z = nI j) (if v.1 60 x.toNatClampNeg = 0 then fdM v 5 else if v.1 60 z.toNatClampNeg = 0 then fdM v 5 else if v.1 60 x.toNatClampNeg = v.1 60 z.toNatClampNeg then (if y < 0 then fdM v 0 else if a < 0 then fdM v 0 else if b < 0 then fdM v 0 else if (v.1 61 x.toNatClampNeg).toInt64 < y.toInt64 + b.toInt64 then fdM v 0 else if (v.1 61 z.toNatClampNeg).toInt64 < a.toInt64 + b.toInt64 then fdM v 0 else (b, copyS v x.toNatClampNeg y.toNatClampNeg z.toNatClampNeg a.toNatClampNeg b.toNatClampNeg)) else fdM v 2) (fdM v 0)) (fdM v 0)
theorem long_le {a b Z : Nat} (h : ¬ (nI Z).toInt64 < (nI a).toInt64 + (nI b).toInt64) (hs : a < 2 ^ 31 ∧ b < 2 ^ 31 ∧ Z < 2 ^ 31) : a + b ≤ Z := by
  rw [nI_l hs.1, nI_l hs.2.1, nI_l hs.2.2, lN_add, pk_lLT (by omega) (by omega)] at h
  omega
theorem fa_le_nlt64 {a b : Int64} (h : a ≤ b) : ¬ b < a := by rw [fa_le64] at h; rw [fa_lt64]; omega
theorem fa_nle64 {a b : Int64} (h : ¬ a ≤ b) : b < a := by rw [fa_le64] at h; rw [fa_lt64]; omega
