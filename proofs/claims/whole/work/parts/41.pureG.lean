/-! spots, kinds, tape, images, draws -/
theorem hold_iff {N : Nat} {y : Int32} (h : N ≤ 8) : ((-1 : Int64) ≤ y.toInt64 ∧ y.toInt64 ≤ (nI N - 1).toInt64) ↔ (y = -1 ∨ ∃ j : Nat, j < N ∧ y = nI j) := by
  rw [fa_le64, fa_le64, toInt64_toInt, nat_pred N h, show (-1 : Int64).toInt = -1 from rfl]
  constructor
  · intro q
    by_cases e : y.toInt = -1
    · exact Or.inl ((fa_eq _ _).mpr e)
    · refine Or.inr ⟨y.toInt.toNat, by omega, ?_⟩
      rw [fa_eq, nI_toInt (by omega)]
      omega
  · rintro (rfl | ⟨j, hj, rfl⟩)
    · have : (-1 : Int32).toInt = -1 := rfl
      omega
    · rw [nI_toInt (by omega)]
      omega
def chn (x : Int32) : Nat → Int32
  | 0 => x
  | i + 1 => tbA.getD (chn x i).toNatClampNeg 0
theorem chn_yes : ∀ q, q < 7 → ∀ i, i < 7 → (∀ t, t < i + 1 → (0 ≤ chn (nI q) t ∧ chn (nI q) t ≤ 6)) → asP (chn (nI q) i) (nI q) := by decide +kernel
theorem chn_n0 : ∀ q, q < 7 → ∀ i, i < 8 → (i = 7 ∨ ¬ (0 ≤ chn (nI q) i ∧ chn (nI q) i ≤ 6)) → (∀ t, t < i → ¬ chn (nI q) t = 0) → False := by decide +kernel
theorem chn_n1 : ∀ q, q < 7 → ∀ i, i < 8 → (i = 7 ∨ ¬ (0 ≤ chn (nI q) i ∧ chn (nI q) i ≤ 6)) → (∀ t, t < i → ¬ chn (nI q) t = nI q) → False := by decide +kernel
theorem chn_n2 : ∀ q, q < 7 → ∀ i, i < 8 → (i = 7 ∨ ¬ (0 ≤ chn (nI q) i ∧ chn (nI q) i ≤ 6)) → (∀ t, t < i → ¬ chn (nI q) t = aboveF (nI q)) → False := by decide +kernel
theorem chn_n3 : ∀ q, q < 7 → ∀ i, i < 8 → (i = 7 ∨ ¬ (0 ≤ chn (nI q) i ∧ chn (nI q) i ≤ 6)) → (∀ t, t < i → ¬ chn (nI q) t = aboveF (aboveF (nI q))) → False := by decide +kernel
theorem of_no {q i : Nat} {x : Int32} (hq : q < 7) (hi : i < 8) (h : i = 7 ∨ ¬ (0 ≤ chn (nI q) i ∧ chn (nI q) i ≤ 6)) (hno : ∀ t, t < i → ¬ chn (nI q) t = x) : ¬ asP x (nI q) := by
  rintro (e | e | e | e)
  · exact chn_n0 q hq i hi h (fun t ht => e ▸ hno t ht)
  · exact chn_n1 q hq i hi h (fun t ht => e ▸ hno t ht)
  · exact chn_n2 q hq i hi h (fun t ht => e ▸ hno t ht)
  · exact chn_n3 q hq i hi h (fun t ht => e ▸ hno t ht)
theorem kind_iff {x : Int32} : (∃ j : Nat, j < 7 ∧ x = nI j) ↔ (0 ≤ x ∧ x ≤ 6) := (in_iffC 7 (by decide) (by decide)).symm
theorem RL_tape {a b a2 b2 : SV} {N T : Nat} (h : RLx a b N) (ha : ∀ c, c < 53 → c ≠ 41 → c ≠ 42 → a2.1 c = a.1 c) (hb : ∀ c, 54 ≤ c → c ≤ 62 → c ≠ 59 → b2.1 c = b.1 c) (h4 : b2.1 53 4 = b.1 53 4) (hT : T ≤ 120) (h1 : b2.1 53 7 = nI T) (h2 : a2.1 41 1 = nI T) (h3 : ∀ j, j < T → a2.1 42 j = b2.1 59 j) : RLx a2 b2 N := by
  obtain ⟨q1, q2, -, q4, q5, q6, q7⟩ := h
  have s1 : stR a2 1 = stR a 1 := stR_cong (fun c e1 e2 => ha c (by omega) (by omega) (by omega))
  have s2 : stR a2 27 = stR a 27 := stR_cong (fun c e1 e2 => ha c (by omega) (by omega) (by omega))
  refine ⟨?_, fun j hj => ?_, ⟨T, hT, h1, h2, h3⟩, fun s hs => ?_, ?_⟩
  · rw [s1, hb 54 (by decide) (by decide) (by decide)]; exact q1
  · rw [ha 52 (by decide) (by decide) (by decide), hb 58 (by decide) (by decide) (by decide)]; exact q2 j hj
  · rw [ha (44 + 2 * s) (by omega) (by omega) (by omega), ha (44 + 2 * s + 1) (by omega) (by omega) (by omega), hb 60 (by decide) (by decide) (by decide), hb 61 (by decide) (by decide) (by decide), hb 62 (by decide) (by decide) (by decide)]
    exact q4 s hs
  · rw [ha 0 (by decide) (by decide) (by decide), h4, hb 57 (by decide) (by decide) (by decide), s2]
    exact ⟨q5, q6, q7⟩
theorem Rl_wipe {v : SV} {N : Nat} (h : Rl v N) : Rl (up (up v 41 1 0) 53 7 0) N := by
  refine RL_tape (T := 0) h (fun c h1 h2 h3 => ?_) (fun c h1 h2 h3 => ?_) ?_ (by decide) ?_ ?_ (fun j hj => absurd hj (Nat.not_lt_zero j))
  · rw [upw_ne _ _ (by omega), upw_ne _ _ h2]
  · rw [upw_ne _ _ (by omega), upw_ne _ _ (by omega)]
  · rw [upw_same, pk_un (by decide), upw_ne _ _ (by decide)]
  · rw [upw_same, pk_us]; rfl
  · rw [upw_ne _ _ (by decide), upw_same, pk_us]; rfl
/-- the class's side of the feeding -/
def ubyte (x : Int32) (k : Nat) : Int32 := ((x.toUInt32 >>> ((nI (8 * k)).toUInt32 &&& Int32.toUInt32 31)).toInt32).toInt8.toInt32
def fcM (v : SV) (x : Int32) (T : Nat) : Nat → SV
  | 0 => v
  | k + 1 => fcM (up (up v 42 T (ubyte x k)) 41 1 (nI (T + 1))) x (T + 1) k
theorem toInt8_low {x y : Int32} (h : x.toBitVec.toNat % 256 = y.toBitVec.toNat % 256) : x.toInt8 = y.toInt8 := by
  apply Int8.toBitVec_inj.mp
  apply BitVec.eq_of_toNat_eq
  show (BitVec.ofInt 8 x.toBitVec.toInt).toNat = (BitVec.ofInt 8 y.toBitVec.toInt).toNat
  rw [BitVec.toNat_ofInt, BitVec.toNat_ofInt, BitVec.toInt_eq_toNat_cond, BitVec.toInt_eq_toNat_cond]
  have hx := x.toBitVec.isLt
  have hy := y.toBitVec.isLt
  split <;> split <;> omega
theorem byte_sh (x : Int32) : ∀ k, k < 4 → ubyte x k = (x >>> (nI (8 * k) &&& 31)).toInt8.toInt32 := by
  intro k hk
  unfold ubyte
  congr 1
  apply toInt8_low
  have h1 : ((x.toUInt32 >>> ((nI (8 * k)).toUInt32 &&& Int32.toUInt32 31)).toInt32).toBitVec.toNat = x.toBitVec.toNat / 2 ^ (8 * k) := by
    refine pk_ushr x (nI (8 * k)) (8 * k) ?_
    have : k = 0 ∨ k = 1 ∨ k = 2 ∨ k = 3 := by omega
    rcases this with rfl | rfl | rfl | rfl <;> rfl
  have h2 : (x >>> (nI (8 * k) &&& 31)).toInt = x.toInt >>> (8 * k) := by
    refine pk_shr x (nI (8 * k) &&& 31) (8 * k) ?_
    have : k = 0 ∨ k = 1 ∨ k = 2 ∨ k = 3 := by omega
    rcases this with rfl | rfl | rfl | rfl <;> rfl
  rw [h1]
  have h3 : (x >>> (nI (8 * k) &&& 31)).toBitVec.toInt = x.toBitVec.toInt >>> (8 * k) := h2
  rw [BitVec.toInt_eq_toNat_cond, BitVec.toInt_eq_toNat_cond] at h3
  have hx := x.toBitVec.isLt
  have hy := (x >>> (nI (8 * k) &&& 31)).toBitVec.isLt
  have : k = 0 ∨ k = 1 ∨ k = 2 ∨ k = 3 := by omega
  rcases this with rfl | rfl | rfl | rfl
  · simp only [Int.shiftRight_eq_div_pow] at h3
    split at h3 <;> split at h3 <;> omega
  · simp only [Int.shiftRight_eq_div_pow] at h3
    split at h3 <;> split at h3 <;> omega
  · simp only [Int.shiftRight_eq_div_pow] at h3
    split at h3 <;> split at h3 <;> omega
  · simp only [Int.shiftRight_eq_div_pow] at h3
    split at h3 <;> split at h3 <;> omega
theorem feed_rel : ∀ (k : Nat) {a b : SV} {N T : Nat} {x : Int32}, k ≤ 4 → T + k ≤ 120 → RLx a b N → b.1 53 7 = nI T → RLx (fcM a x T k) (ffM b x T k) N
  | 0, _, _, _, _, _, _, _, h, _ => h
  | k + 1, a, b, N, T, x, hk, hT, h, h7 => by
    rw [fcM, ffM]
    obtain ⟨T2, t1, t2, t3, t4⟩ := h.2.2.1
    have eT : T2 = T := (nI_eq (by omega) (by omega)).mp (t2.symm.trans h7)
    subst eT
    refine feed_rel k (by omega) (by omega) (RL_tape (T := T2 + 1) h (fun c h1 h2 h3 => ?_) (fun c h1 h2 h3 => ?_) ?_ (by omega) ?_ ?_ (fun j hj => ?_)) ?_
    · rw [upw_ne _ _ h2, upw_ne _ _ h3]
    · rw [upw_ne _ _ (by omega), upw_ne _ _ h3]
    · rw [upw_same, pk_un (by decide), upw_ne _ _ (by decide)]
    · rw [upw_same, pk_us]
    · rw [upw_same, pk_us]
    · rw [upw_ne _ _ (by decide), upw_same, upw_ne _ _ (by decide), upw_same, byte_sh x k (by omega)]
      by_cases q : j = T2
      · rw [q, pk_us, pk_us]
      · rw [pk_un q, pk_un q]; exact t4 j (by omega)
    · rw [upw_same, pk_us]
theorem fc_rsc (x : Int32) : ∀ (k : Nat) (v : SV) (T : Nat), rsc v (fcM v x T k)
  | 0, v, _ => rsc_rfl v
  | k + 1, v, T => rsc_trans (rsc_trans (rsc_lo v _ (Or.inl (by decide))) (rsc_lo _ _ (Or.inl (by decide)))) (fc_rsc x k _ (T + 1))
theorem ff_scr (x : Int32) : ∀ (k : Nat) (v : SV) (T : Nat), scr v (ffM v x T k)
  | 0, v, _ => scr_rfl v
  | k + 1, v, T => scr_trans (scr_trans (scr_hi v _ (by decide)) (scr_hi _ _ (by decide))) (ff_scr x k _ (T + 1))
theorem Rl_feed {v : SV} {N T k : Nat} {x : Int32} (h : Rl v N) (hk : k ≤ 4) (hT : T + k ≤ 120) (h7 : v.1 53 7 = nI T) : Rl (ffM (fcM v x T k) x T k) N := by
  have h1 : RLx v (fcM v x T k) N := RL_rsc h (fc_rsc x k v T)
  have h2 := feed_rel k (x := x) hk hT h1 (by rw [(fc_rsc x k v T).2.2.1]; exact h7)
  exact RL_scr h2 (ff_scr x k _ T)
theorem Rl_image {v : SV} {N : Nat} (h : Rl v N) : Rl (up (upw (up (stW v 27 (becM (stR v 27) (stR v 1) N)) 0 3 1) 57 (cpyM (v.1 54) (v.1 57) 83)) 53 4 1) N := by
  obtain ⟨h1, h2, ⟨T, t1, t2, t3, t4⟩, h4, h5, h6, h7⟩ := h
  generalize hz : up (upw (up (stW v 27 (becM (stR v 27) (stR v 1) N)) 0 3 1) 57 (cpyM (v.1 54) (v.1 57) 83)) 53 4 1 = z
  have e : ∀ c, c ≠ 0 → (c < 27 ∨ 40 ≤ c) → c ≠ 57 → c ≠ 53 → z.1 c = v.1 c := fun c q1 q2 q3 q4 => by rw [← hz, upw_ne _ _ q4, upw_ne _ _ q3, upw_ne _ _ q1, st_far (by omega)]
  have e53 : ∀ j, j ≠ 4 → z.1 53 j = v.1 53 j := fun j q => by rw [← hz, upw_same, pk_un q, upw_ne _ _ (by decide), upw_ne _ _ (by decide), st_far (by decide)]
  have s1 : stR z 1 = stR v 1 := stR_cong (fun c q1 q2 => e c (by omega) (by omega) (by omega) (by omega))
  have s2 : ∀ j, j < 83 → stR z 27 j = becM (stR v 27) (stR v 1) N j := fun j hj => by
    have : stR z 27 = stR (stW v 27 (becM (stR v 27) (stR v 1) N)) 27 := stR_cong (fun c q1 q2 => by rw [← hz, upw_ne _ _ (by omega), upw_ne _ _ (by omega), upw_ne _ _ (by omega)])
    rw [this, st_rst hj]
  have a2 : agr N (stR v 1) (stR z 27) := fun j q1 q2 => by rw [s2 j q1]; exact bec_agr _ _ _ j q1 q2
  refine ⟨?_, fun j hj => ?_, ⟨T, t1, ?_, ?_, fun j hj => ?_⟩, fun s hs => ?_, ?_, Or.inr ?_, fun _ => ⟨N, okC_agr a2 h1.1, ?_⟩⟩
  · rw [s1, e 54 (by decide) (by omega) (by decide) (by decide)]; exact h1
  · rw [e 52 (by decide) (by omega) (by decide) (by decide), e 58 (by decide) (by omega) (by decide) (by decide)]; exact h2 j hj
  · rw [e53 7 (by decide)]; exact t2
  · rw [e 41 (by decide) (by omega) (by decide) (by decide)]; exact t3
  · rw [e 42 (by decide) (by omega) (by decide) (by decide), e 59 (by decide) (by omega) (by decide) (by decide)]; exact t4 j hj
  · rw [e (44 + 2 * s) (by omega) (by omega) (by omega) (by omega), e (44 + 2 * s + 1) (by omega) (by omega) (by omega) (by omega), e 60 (by decide) (by omega) (by decide) (by decide), e 61 (by decide) (by omega) (by decide) (by decide), e 62 (by decide) (by omega) (by decide) (by decide)]; exact h4 s hs
  · rw [← hz, upw_same, pk_us, upw_ne _ _ (by decide), upw_ne _ _ (by decide), upw_same, pk_us]
  · rw [← hz, upw_ne _ _ (by decide), upw_ne _ _ (by decide), upw_same, pk_us]
  · have e57 : z.1 57 = cpyM (v.1 54) (v.1 57) 83 := by rw [← hz, upw_ne _ _ (by decide), upw_same]
    rw [e57]
    intro j q1 q2
    rw [cpyM, if_pos q1]
    exact (h1.2 j q1 q2).trans (a2 j q1 q2)
theorem Rl_tear {v : SV} {N : Nat} (h : Rl v N) : Rl (up (up v 0 3 0) 53 4 0) N := by
  obtain ⟨h1, h2, ⟨T, t1, t2, t3, t4⟩, h4, h5, h6, h7⟩ := h
  generalize hz : up (up v 0 3 0) 53 4 0 = z
  have e : ∀ c, c ≠ 0 → c ≠ 53 → z.1 c = v.1 c := fun c q1 q4 => by rw [← hz, upw_ne _ _ q4, upw_ne _ _ q1]
  have s1 : stR z 1 = stR v 1 := stR_cong (fun c q1 q2 => e c (by omega) (by omega))
  have z0 : z.1 0 3 = 0 := by rw [← hz, upw_ne _ _ (by decide), upw_same, pk_us]
  refine ⟨?_, fun j hj => ?_, ⟨T, t1, ?_, ?_, fun j hj => ?_⟩, fun s hs => ?_, ?_, Or.inl z0, fun q => absurd (z0.symm.trans q) (by decide)⟩
  · rw [s1, e 54 (by decide) (by decide)]; exact h1
  · rw [e 52 (by decide) (by decide), e 58 (by decide) (by decide)]; exact h2 j hj
  · rw [← hz, upw_same, pk_un (by decide), upw_ne _ _ (by decide)]; exact t2
  · rw [e 41 (by decide) (by decide)]; exact t3
  · rw [e 42 (by decide) (by decide), e 59 (by decide) (by decide)]; exact t4 j hj
  · rw [e (44 + 2 * s) (by omega) (by omega), e (44 + 2 * s + 1) (by omega) (by omega), e 60 (by decide) (by decide), e 61 (by decide) (by decide), e 62 (by decide) (by decide)]; exact h4 s hs
  · rw [z0, ← hz, upw_same, pk_us]
theorem okC_hkS {d : Nat → Int32} {N : Nat} (h : okC d N) : okC (hkS d) N := by
  unfold hkS
  exact okC_day (okC_upd (okC_upd (okC_list (okC_upd h (by decide) (Or.inl rfl)) (Nat.mod_lt _ (by decide)) (Nat.mod_lt _ (by decide)) rfl) (by decide) (Or.inl rfl)) (by decide) (Or.inr ⟨_, Nat.mod_lt _ (show 0 < 10 by decide), rfl⟩))
theorem okC_hk {d : Nat → Int32} {N : Nat} (h : okC d N) : ∀ i, okC (hkM d i) N
  | 0 => h
  | i + 1 => okC_hkS (okC_hk h i)
theorem agr_hkS {d e : Nat → Int32} {N : Nat} (h : agr N d e) (hd : okC d N) : agr N (hkS d) (hkS e) := by
  have e2 : d 2 = e 2 := agr_lo h (by decide)
  have e1 : d 1 = e 1 := agr_lo h (by decide)
  unfold hkS
  have a1 : agr N (upd (upd d 2 (lcgF (d 2))) (7 + (d 1).toNatClampNeg % 6) (nI (uq (lcgF (d 2)) % 12))) (upd (upd e 2 (lcgF (e 2))) (7 + (e 1).toNatClampNeg % 6) (nI (uq (lcgF (e 2)) % 12))) := by
    rw [← e2, ← e1]
    exact agr_upd (agr_upd h rfl) rfl
  have e3 := agr_lo a1 (show 2 < 25 by decide)
  refine agr_day (agr_upd (agr_upd a1 (by rw [e3])) (by rw [e3])) ?_
  exact okC_M (okC_upd (okC_upd (okC_list (okC_upd hd (by decide) (Or.inl rfl)) (Nat.mod_lt _ (by decide)) (Nat.mod_lt _ (by decide)) rfl) (by decide) (Or.inl rfl)) (by decide) (Or.inr ⟨_, Nat.mod_lt _ (show 0 < 10 by decide), rfl⟩))
theorem agr_hk {d e : Nat → Int32} {N : Nat} (h : agr N d e) (hd : okC d N) : ∀ i, agr N (hkM d i) (hkM e i)
  | 0 => h
  | i + 1 => agr_hkS (agr_hk h hd i) (okC_hk hd i)
theorem stat_iff {x : Int32} : ((-1 : Int64) ≤ x.toInt64 ∧ x.toInt64 ≤ 6) ↔ ((-1 : Int32) ≤ x ∧ x ≤ 6) := by
  rw [fa_le64, fa_le64, toInt64_toInt, fa_le, fa_le]
  exact Iff.rfl
theorem stat_cong {f h : Nat → Int32} (e : ∀ j, j < 7 → f j = h j) : ∀ i, i ≤ 7 → statM f i = statM h i
  | 0, _ => rfl
  | i + 1, hi => by rw [statM, statM, stat_cong e i (by omega), e i (by omega)]
theorem upup (v : SV) (c j : Nat) (x : Int32) : (up v c j x).1 c j = x := by rw [upw_same, pk_us]
theorem ub8 (x : Int32) (k : Nat) : (ubyte x k).toInt8.toInt32 = ubyte x k := by
  unfold ubyte

  exact fb_byte_twice _
