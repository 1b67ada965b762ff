/-! groups, gold that never falls, odds -/
theorem sam_symm {a b : SV} (h : sam a b) : sam b a := ⟨⟨fun c q1 q2 q3 q4 => (h.1.1 c q1 q2 q3 q4).symm, h.1.2.symm⟩, ⟨fun c q1 q2 => (h.2.1 c q1 q2).symm, h.2.2.1.symm, h.2.2.2.1.symm, h.2.2.2.2.symm⟩⟩
theorem sam_w (w : SV) (X Y : Nat → Int32) : sam (stW w 14 X) (stW w 14 Y) := sam_trans (sam_symm (sam_14 w X)) (sam_14 w Y)
theorem day_pred {X : Nat → Int32} {i : Nat} (h : 0 < i) : dayM (daysM X (i - 1)) = daysM X i := by
  obtain ⟨j, rfl⟩ : ∃ j, i = j + 1 := ⟨i - 1, by omega⟩
  rfl
theorem and_1 (y : Int32) : y &&& 1 = 0 ∨ y &&& 1 = 1 := by
  have h : (y &&& 1).toBitVec.toNat = y.toBitVec.toNat % 2 := by
    show (y.toBitVec &&& (1 : Int32).toBitVec).toNat = _
    rw [BitVec.toNat_and]
    exact Nat.and_one_is_mod _
  by_cases e : y.toBitVec.toNat % 2 = 0
  · left
    apply Int32.toBitVec_inj.mp
    apply BitVec.eq_of_toNat_eq
    rw [h, e]
    rfl
  · right
    apply Int32.toBitVec_inj.mp
    apply BitVec.eq_of_toNat_eq
    rw [h, show y.toBitVec.toNat % 2 = 1 by omega]
    rfl
theorem agr_sa {d e : Nat → Int32} {N : Nat} {x : Int32} (hd : okC d N) (h : agr N d e) : ∀ i, i ≤ N → agr N (saM d x i) (awM e x i)
  | 0, _ => h
  | i + 1, hi => by
    have h8 := hd.1
    have ih := agr_sa (x := x) hd h i (by omega)
    obtain ⟨m, hm, em⟩ := okC_R (okC_sa (x := x) hd i (by omega)) (show i < N by omega) 5 (by decide)
    have e5 : rowM (awM e x i) i 5 = nI m := (agr_six ih (show i < N by omega) h8 5 (by decide)).symm.trans em
    have hm2 : m = 0 ∨ m = 1 := by have : tpW 5 = 2 := rfl; omega
    rw [saM, awM, e5]
    rcases and_1 (x >>> (nI i &&& 31)) with q | q
    · rw [if_neg (show ¬ inG x i from fun z => absurd (q.symm.trans z) (by decide)), q]
      intro j h1 h2
      by_cases hj : j = 25 + 8 * 5 + i
      · rw [hj, pk_us]
        rw [show saM d x i (25 + 8 * 5 + i) = nI m from em]
        rcases hm2 with rfl | rfl <;> decide
      · rw [pk_un hj]; exact ih j h1 h2
    · rw [if_pos (show inG x i from q), q]
      refine agr_upd ih ?_
      rcases hm2 with rfl | rfl <;> decide
theorem ft_nat {d : Nat → Int32} {N : Nat} (h : okC d N) : ∃ f, f < 2000 ∧ fetchM d = nI f := by
  have hm : ∀ k, k ≤ 12 → ∃ m, m < 1000 ∧ mostM d k = nI m := by
    intro k
    induction k with
    | zero => exact fun _ => ⟨0, by decide, rfl⟩
    | succ k ih =>
      intro hk
      obtain ⟨m, h1, h2⟩ := ih (by omega)
      rw [mostM]
      split
      · exact ⟨m, h1, h2⟩
      · exact okC_reg h (by omega)
  have hn : ∀ k, ∃ m, m ≤ k ∧ manyM d k = nI m := by
    intro k
    induction k with
    | zero => exact ⟨0, by decide, rfl⟩
    | succ k ih =>
      obtain ⟨m, h1, h2⟩ := ih
      rw [manyM, h2]
      split
      · exact ⟨m, by omega, nI_add m 0⟩
      · exact ⟨m + 1, by omega, nI_add m 1⟩
  obtain ⟨b, hb, eb⟩ := hm 12 (by decide)
  obtain ⟨c, hc, ec⟩ := hn 12
  unfold fetchM
  rw [eb, ec, show (5 : Int32) = nI 5 from rfl, pk_mul, nI_add]
  exact ⟨b + 5 * c, by omega, rfl⟩
theorem gold_up {d : Nat → Int32} {N : Nat} (h : okC d N) : ∃ a b, a ≤ b ∧ b < 100000 ∧ d 6 = nI a ∧ dayM d 6 = nI b := by
  have h8 := h.1
  obtain ⟨a, ha, ea⟩ := h.2.2 6 (by decide) (by decide) (by decide) (Or.inl (by decide))
  have h6 : tp N 6 = 100000 := rfl
  have hq : gqM (mvM d) < 12 := (okM_gq (okC_M (okC_mv h))).1
  have hL : okC (lpM (mvM d) (gqM (mvM d)) N) N := okC_lp (okC_mv h) hq N (Nat.le_refl N)
  have eL : lpM (mvM d) (gqM (mvM d)) N 6 = nI a := by rw [lpM_lo (by decide) N h8]; exact ea
  have e1 : dayM d 6 = sellM (lpM (mvM d) (gqM (mvM d)) N) 6 := by
    rw [dayM, h.2.1, nI_clamp (by omega)]
    rfl
  rw [e1]
  unfold sellM
  split
  · obtain ⟨f, hf, ef⟩ := ft_nat hL
    have e2 : clrM (upd (lpM (mvM d) (gqM (mvM d)) N) 6 (heldF (lpM (mvM d) (gqM (mvM d)) N 6 + fetchM (lpM (mvM d) (gqM (mvM d)) N)) 0 99999)) 12 6 = heldF (lpM (mvM d) (gqM (mvM d)) N 6 + fetchM (lpM (mvM d) (gqM (mvM d)) N)) 0 99999 := by
      unfold clrM
      rw [if_neg (by omega), pk_us]
    rw [e2, eL, ef, nI_add, show (0 : Int32) = nI 0 from rfl, show (99999 : Int32) = nI 99999 from rfl, heldF_nat (by decide) (by omega) (by omega)]
    refine ⟨a, _, ?_, ?_, ea, rfl⟩
    · split <;> omega
    · split <;> omega
  · exact ⟨a, a, Nat.le_refl a, by omega, ea, eL⟩
theorem gold_mono {d : Nat → Int32} {N : Nat} (h : okC d N) : ∀ k i, ∃ a b, a ≤ b ∧ b < 100000 ∧ daysM d i 6 = nI a ∧ daysM d (i + k) 6 = nI b
  | 0, i => by
    obtain ⟨a, b, h1, h2, h3, -⟩ := gold_up (okC_days h i)
    exact ⟨a, a, Nat.le_refl a, by omega, h3, h3⟩
  | k + 1, i => by
    obtain ⟨a, b, h1, h2, h3, h4⟩ := gold_mono h k i
    obtain ⟨b2, c, g1, g2, g3, g4⟩ := gold_up (okC_days h (i + k))
    have : b = b2 := (nI_eq (by omega) (by omega)).mp (h4.symm.trans g3)
    exact ⟨a, c, by omega, g2, h3, g4⟩
theorem gold_ne {d : Nat → Int32} {N i k : Nat} (h : okC d N) (hik : i ≤ k) (hne : ¬ daysM d i 6 = d 6) : ¬ daysM d k 6 = d 6 := by
  obtain ⟨a, b, h1, h2, h3, h4⟩ := gold_mono h i 0
  obtain ⟨b2, c, g1, g2, g3, g4⟩ := gold_mono h (k - i) i
  rw [Nat.zero_add] at h4
  rw [show i + (k - i) = k by omega] at g4
  have e : b = b2 := (nI_eq (by omega) (by omega)).mp (h4.symm.trans g3)
  have h3' : d 6 = nI a := h3
  intro z
  have e2 : c = a := (nI_eq (by omega) (by omega)).mp (g4.symm.trans (z.trans h3'))
  apply hne
  rw [h4, h3', show b = a by omega]
/-- how many are in a group -/
def onN (b : Nat) : Nat := (onesF (nI b) 12).toNatClampNeg
theorem on_eq (b : Nat) : onesF (nI b) 12 = nI (onN b) ∧ onN b ≤ 12 := by
  obtain ⟨a, ha, e⟩ := ones_nat (nI b) 12
  have : onN b = a := by unfold onN; rw [e, nI_clamp (by omega)]
  rw [this]
  exact ⟨e, ha⟩
theorem pop_on {b : Nat} (h : b < 4096) : popF (nI b) = nI (onN b) := (pop_ones b h).trans (on_eq b).1
theorem on_le : ∀ N, N < 9 → ∀ b, b < 2 ^ N → onN b ≤ N := by
  have h : ∀ N : Fin 9, ∀ b : Fin 256, b.val < 2 ^ N.val → onN b.val ≤ N.val := by decide +kernel
  intro N hN b hb
  have : 2 ^ N ≤ 2 ^ 8 := Nat.pow_le_pow_right (by decide) (by omega)
  exact h ⟨N, hN⟩ ⟨b, by omega⟩ hb
noncomputable def bsM (Q : Nat → Prop) : Nat → Int32
  | 0 => -1
  | i + 1 => cif (Q i ∧ (bsM Q i < 0 ∨ onesF (nI i) 12 < onesF (bsM Q i) 12)) (nI i) (bsM Q i)
theorem bs_inv (Q : Nat → Prop) : ∀ i, i ≤ 4096 → (bsM Q i = -1 ∧ ∀ g, g < i → ¬ Q g) ∨ ∃ h, h < i ∧ bsM Q i = nI h ∧ Q h ∧ (∀ g, g < i → Q g → onN h ≤ onN g) ∧ ∀ g, g < h → Q g → onN h < onN g
  | 0, _ => Or.inl ⟨rfl, fun g hg => absurd hg (Nat.not_lt_zero g)⟩
  | i + 1, hi => by
    have ei := on_eq i
    rcases bs_inv Q i (by omega) with ⟨e, hn⟩ | ⟨h, hh, e, hQ, hm, hf⟩
    · rw [bsM, e]
      by_cases q : Q i
      · rw [cif_pos ⟨q, Or.inl (by decide)⟩]
        refine Or.inr ⟨i, by omega, rfl, q, fun g hg hq => ?_, fun g hg hq => absurd hq (hn g hg)⟩
        by_cases g2 : g < i
        · exact absurd hq (hn g g2)
        · rw [show g = i by omega]
          exact Nat.le_refl _
      · rw [cif_neg (fun z => q z.1)]
        refine Or.inl ⟨rfl, fun g hg => ?_⟩
        by_cases g2 : g < i
        · exact hn g g2
        · rw [show g = i by omega]; exact q
    · have eh := on_eq h
      rw [bsM, e]
      by_cases q : Q i ∧ onN i < onN h
      · rw [cif_pos ⟨q.1, Or.inr (by rw [ei.1, eh.1, nI_ltI (by omega) (by omega)]; exact q.2)⟩]
        refine Or.inr ⟨i, by omega, rfl, q.1, fun g hg hq => ?_, fun g hg hq => ?_⟩
        · by_cases g2 : g < i
          · have := hm g g2 hq; omega
          · rw [show g = i by omega]; exact Nat.le_refl _
        · have := hm g hg hq; omega
      · rw [cif_neg]
        · refine Or.inr ⟨h, by omega, rfl, hQ, fun g hg hq => ?_, hf⟩
          by_cases g2 : g < i
          · exact hm g g2 hq
          · have eg : g = i := by omega
            subst eg
            exact Nat.le_of_not_lt (fun z => q ⟨hq, z⟩)
        · rintro ⟨z1, z2 | z2⟩
          · exact absurd (nI_pos' (show h < 2 ^ 31 by omega)) (fa_lt_nle z2)
          · rw [ei.1, eh.1, nI_ltI (by omega) (by omega)] at z2
            exact q ⟨z1, z2⟩
theorem bs_none {Q : Nat → Prop} {M : Nat} (hM : M ≤ 4096) (h : ∀ g, g < M → ¬ Q g) : bsM Q M = -1 := by
  rcases bs_inv Q M hM with ⟨e, -⟩ | ⟨g, hg, -, hq, -⟩
  · exact e
  · exact absurd hq (h g hg)
theorem bs_some {Q : Nat → Prop} {M g : Nat} (hM : M ≤ 4096) (hg : g < M) (hQ : Q g) (h1 : ∀ g', g' < M → onN g' < onN g → ¬ Q g') (h2 : ∀ g', g' < g → onN g' = onN g → ¬ Q g') : bsM Q M = nI g := by
  rcases bs_inv Q M hM with ⟨-, hn⟩ | ⟨h, hh, e, hq, hm, hf⟩
  · exact absurd hQ (hn g hg)
  · rw [e]
    congr 1
    have a1 := hm g hg hQ
    have a2 : ¬ onN h < onN g := fun z => h1 h hh z hq
    by_cases c1 : h < g
    · exact absurd hq (h2 h c1 (by omega))
    · by_cases c2 : g < h
      · have := hf g c2 hQ; omega
      · omega
theorem em_bs (d : Nat → Int32) (k N : Nat) : ∀ i, emM d k N i = bsM (fun g => daysM (awM d (nI g) N) k 6 = d 6) i
  | 0 => rfl
  | i + 1 => by
    rw [emM, bsM, em_bs d k N i]
    by_cases q1 : bsM (fun g => daysM (awM d (nI g) N) k 6 = d 6) i < 0 ∨ onesF (nI i) 12 < onesF (bsM (fun g => daysM (awM d (nI g) N) k 6 = d 6) i) 12
    · rw [if_pos q1]
      by_cases q2 : daysM (awM d (nI i) N) k 6 = d 6
      · rw [if_pos q2, cif_pos ⟨q2, q1⟩]
      · rw [if_neg q2, cif_neg (fun z => q2 z.1)]
    · rw [if_neg q1, cif_neg (fun z => q1 z.2)]
theorem cv_bs (d : Nat → Int32) (x : Int32) (N : Nat) : ∀ i, cvM d x N i = bsM (fun g => leftM d x (nI g) N = 0) i
  | 0 => rfl
  | i + 1 => by
    rw [cvM, bsM, cv_bs d x N i]
    by_cases q1 : leftM d x (nI i) N = 0 ∧ (bsM (fun g => leftM d x (nI g) N = 0) i < 0 ∨ onesF (nI i) 12 < onesF (bsM (fun g => leftM d x (nI g) N = 0) i) 12)
    · rw [if_pos q1, cif_pos q1]
    · rw [if_neg q1, cif_neg q1]
theorem bit_or (x w r : Int32) : (x &&& (w ^^^ (-1))) &&& (r ^^^ (-1)) = x &&& ((w ||| r) ^^^ (-1)) := by
  apply Int32.toBitVec_inj.mp
  show (x.toBitVec &&& (w.toBitVec ^^^ (-1 : Int32).toBitVec)) &&& (r.toBitVec ^^^ (-1 : Int32).toBitVec) = x.toBitVec &&& ((w.toBitVec ||| r.toBitVec) ^^^ (-1 : Int32).toBitVec)
  rw [show (-1 : Int32).toBitVec = BitVec.allOnes 32 from rfl]
  apply BitVec.eq_of_getLsbD_eq
  intro i hi
  simp only [BitVec.getLsbD_and, BitVec.getLsbD_xor, BitVec.getLsbD_or, BitVec.getLsbD_allOnes, hi, decide_true]
  cases x.toBitVec.getLsbD i <;> cases w.toBitVec.getLsbD i <;> cases r.toBitVec.getLsbD i <;> rfl
theorem bit_m1 (x : Int32) : x &&& (-1) = x := by
  apply Int32.toBitVec_inj.mp
  show x.toBitVec &&& (-1 : Int32).toBitVec = x.toBitVec
  rw [show (-1 : Int32).toBitVec = BitVec.allOnes 32 from rfl]
  exact BitVec.and_allOnes
theorem left_wb (d : Nat → Int32) (x s : Int32) : ∀ i, leftM d x s i = x &&& (wbM d s i ^^^ (-1))
  | 0 => by rw [leftM, wbM, show (0 : Int32) ^^^ (-1) = -1 from by decide, bit_m1]
  | i + 1 => by
    rw [leftM, wbM, left_wb d x s i]
    by_cases q : inG s i
    · rw [if_pos q, if_pos q, bit_or]
    · rw [if_neg q, if_neg q, bit_m1]
theorem ev_eq : ∀ N, N < 9 → (1 : Int32) <<< (nI N &&& 31) - 1 = nI (2 ^ N - 1) := fun N hN => (by decide +kernel : ∀ N : Fin 9, (1 : Int32) <<< (nI N.val &&& 31) - 1 = nI (2 ^ N.val - 1)) ⟨N, hN⟩
theorem pw_le {N : Nat} (h : N ≤ 8) : 2 ^ N ≤ 256 ∧ 1 ≤ 2 ^ N := ⟨Nat.pow_le_pow_right (n := 2) (j := 8) (by decide) h, Nat.one_le_two_pow⟩
/-- odds -/
theorem cd_dec : ∀ A, A < 13 → ∀ i, i < 11 → (∀ t, t < i → ¬ (A % (12 - t) = 0 ∧ 12 % (12 - t) = 0)) → (A % (12 - i) = 0 ∧ 12 % (12 - i) = 0) → Nat.gcd A 12 = 12 - i := by decide +kernel
theorem cd_end : ∀ A, A < 13 → (∀ t, t < 11 → ¬ (A % (12 - t) = 0 ∧ 12 % (12 - t) = 0)) → Nat.gcd A 12 = 1 := by decide +kernel
theorem gcd_pos : ∀ A, A < 13 → 1 ≤ Nat.gcd A 12 ∧ Nat.gcd A 12 ≤ 12 := by decide +kernel
def PsL (x : Int64) (p : Int64 × SV) : Prop := x = p.1 ∧ ∃ N, Rl p.2 N
def QPL (g : GG) (n : Nat) (w : SV) (f : SV → Int64 × SV) : Array Value → State → Outcome → State → Prop := QL g n (fun x u => PsL x (f u) ∧ rsc w u)
