/-! what a text comes to on both sides -/
theorem tE_far {u : SV} {T : Nat} {q : PQ} {c : Nat} (h1 : c ≠ 53) (h2 : c ≠ 54) (h3 : c ≠ 55) : (textE u T q).1 c = u.1 c := by
  rw [textE, upw_ne _ _ h1]
  show (tokOf _ _ _ _).1 c = _
  rw [tokOf, tok_ne _ _ _ _ _ h1, psB, upw_ne _ _ h2, upw_ne _ _ h1, textV, upw_ne _ _ h3]
theorem tE_54 {u : SV} {T : Nat} {q : PQ} : (textE u T q).1 54 = q.2.2 := by
  rw [textE, upw_ne _ _ (by decide)]
  show (tokOf _ _ _ _).1 54 = _
  rw [tokOf, tok_ne _ _ _ _ _ (by decide), psB, upw_same]
theorem tE_55 {u : SV} {T : Nat} {q : PQ} : (textE u T q).1 55 = cpyM (u.1 54) (u.1 55) 83 := by
  rw [textE, upw_ne _ _ (by decide)]
  show (tokOf _ _ _ _).1 55 = _
  rw [tokOf, tok_ne _ _ _ _ _ (by decide), psB, upw_ne _ _ (by decide), upw_ne _ _ (by decide), textV, upw_same]
theorem tE_7 {u : SV} {T : Nat} {q : PQ} : (textE u T q).1 53 7 = 0 := by
  rw [textE, upw_same, pk_us]
theorem tE_4 {u : SV} {T : Nat} {q : PQ} : (textE u T q).1 53 4 = u.1 53 4 := by
  rw [textE, upw_same, pk_un (by decide)]
  show (tokOf _ _ _ _).1 53 4 = _
  rw [tokOf, tok_53]
  show (psB (textV u) q.2.1 q.2.2).1 53 4 = _
  rw [psB, upw_ne _ _ (by decide), upw_same, pk_un (by decide), textV, upw_ne _ _ (by decide)]
theorem tQ_eq {u v : SV} {T : Nat} (h59 : u.1 59 = v.1 59) (h54 : u.1 54 = v.1 54) : textQ u T = itQ (bB v T) T (v.1 54) ∧ textL u T = itL (bB v T) T (v.1 54) := by
  have e1 : bB (textV u) T = bB v T := by
    unfold bB
    rw [textV, upw_ne _ _ (by decide), h59]
  have e2 : (textV u).1 54 = v.1 54 := by rw [textV, upw_ne _ _ (by decide), h54]
  rw [textQ, textL, e1, e2]
  exact ⟨rfl, rfl⟩
theorem tx_yes {v u : SV} {N N1 T : Nat} {E : Nat → Int32} (hR : Rl v N) (hT7 : v.1 53 7 = nI T) (hT : T ≤ 120) (hc : ∀ c, c < 53 → ¬ (1 ≤ c ∧ c < 27) → c ≠ 40 → c ≠ 41 → u.1 c = v.1 c) (hr : ∀ c, 53 ≤ c → c < 64 → u.1 c = v.1 c) (h41 : u.1 41 1 = 0) (hE : ∀ j, j < 83 → stR u 1 j = E j) (hq : (itQ (bB v T) T (v.1 54)).2.1 = -1) (ok : okC E N1) (ag : agr N1 (itQ (bB v T) T (v.1 54)).2.2 E) : Ps (nI (itL (bB v T) T (v.1 54) + 1)) (textM u) := by
  obtain ⟨eQ, eL⟩ := tQ_eq (T := T) (hr 59 (by decide) (by decide)) (hr 54 (by decide) (by decide))
  have e7 : (u.1 53 7).toNatClampNeg = T := by rw [hr 53 (by decide) (by decide), hT7, nI_clamp (by omega)]
  have eM : textM u = (nI (itL (bB v T) T (v.1 54) + 1), textE u T (itQ (bB v T) T (v.1 54))) := by
    rw [textM, e7, eQ, eL, if_pos (by rw [hq]; decide)]
  rw [eM]
  refine ⟨rfl, N1, ?_⟩
  show Rl (textE u T (itQ (bB v T) T (v.1 54))) N1
  generalize itQ (bB v T) T (v.1 54) = q at ag hq ⊢
  obtain ⟨h1, h2, -, h4, h5, h6, h7⟩ := hR
  have s1 : ∀ j, j < 83 → stR (textE u T q) 1 j = E j := fun j hj => by
    rw [← hE j hj, show stR (textE u T q) 1 = stR u 1 from stR_cong (fun c a1 a2 => tE_far (by omega) (by omega) (by omega))]
  have s2 : stR (textE u T q) 27 = stR v 27 := stR_cong (fun c a1 a2 => by rw [tE_far (by omega) (by omega) (by omega), hc c (by omega) (by omega) (by omega) (by omega)])
  refine ⟨⟨okC_agr (fun j hj _ => (s1 j hj).symm) ok, ?_⟩, fun j hj => ?_, ⟨0, by decide, tE_7, ?_, fun j hj => absurd hj (Nat.not_lt_zero j)⟩, fun s hs => ?_, ?_⟩
  · rw [tE_54]; exact fun j hj hl => (ag j hj hl).trans (s1 j hj).symm
  · rw [tE_far (by decide) (by decide) (by decide), tE_far (by decide) (by decide) (by decide), hc 52 (by decide) (by omega) (by decide) (by decide), hr 58 (by decide) (by decide)]; exact h2 j hj
  · rw [tE_far (by decide) (by decide) (by decide)]; exact h41
  · rw [tE_far (c := 44 + 2 * s) (by omega) (by omega) (by omega), tE_far (c := 44 + 2 * s + 1) (by omega) (by omega) (by omega), tE_far (c := 60) (by decide) (by decide) (by decide), tE_far (c := 61) (by decide) (by decide) (by decide), tE_far (c := 62) (by decide) (by decide) (by decide), hc (44 + 2 * s) (by omega) (by omega) (by omega) (by omega), hc (44 + 2 * s + 1) (by omega) (by omega) (by omega) (by omega), hr 60 (by decide) (by decide), hr 61 (by decide) (by decide), hr 62 (by decide) (by decide)]
    exact h4 s hs
  · rw [tE_far (c := 0) (by decide) (by decide) (by decide), tE_4, tE_far (c := 57) (by decide) (by decide) (by decide), s2, hc 0 (by decide) (by omega) (by decide) (by decide), hr 53 (by decide) (by decide), hr 57 (by decide) (by decide)]
    exact ⟨h5, h6, h7⟩
theorem tx_no {v u : SV} {N T cq : Nat} (hR : Rl v N) (hT7 : v.1 53 7 = nI T) (hT : T ≤ 120) (hc : ∀ c, c < 53 → ¬ (14 ≤ c ∧ c < 27) → c ≠ 40 → c ≠ 41 → u.1 c = v.1 c) (hr : ∀ c, 53 ≤ c → c < 64 → u.1 c = v.1 c) (h41 : u.1 41 1 = 0) (hcq : cq < 2 ^ 31) (hq : (itQ (bB v T) T (v.1 54)).2.1 = nI cq) : Ps (-1 - nI cq) (textM u) := by
  obtain ⟨eQ, eL⟩ := tQ_eq (T := T) (hr 59 (by decide) (by decide)) (hr 54 (by decide) (by decide))
  have e7 : (u.1 53 7).toNatClampNeg = T := by rw [hr 53 (by decide) (by decide), hT7, nI_clamp (by omega)]
  have eM : textM u = (-1 - nI cq, upw (textE u T (itQ (bB v T) T (v.1 54))) 54 (cpyM ((textE u T (itQ (bB v T) T (v.1 54))).1 55) ((textE u T (itQ (bB v T) T (v.1 54))).1 54) 83)) := by
    rw [textM, e7, eQ, if_neg (by rw [hq]; exact fun z => absurd (nI_pos' hcq) (fa_lt_nle z)), hq]
  rw [eM]
  refine ⟨rfl, N, ?_⟩
  generalize itQ (bB v T) T (v.1 54) = q
  show Rl (upw (textE u T q) 54 (cpyM ((textE u T q).1 55) ((textE u T q).1 54) 83)) N
  generalize hz : upw (textE u T q) 54 (cpyM ((textE u T q).1 55) ((textE u T q).1 54) 83) = z
  have zf : ∀ c, c ≠ 53 → c ≠ 54 → c ≠ 55 → z.1 c = u.1 c := fun c a1 a2 a3 => by rw [← hz, upw_ne _ _ a2, tE_far a1 a2 a3]
  have z53 : z.1 53 = (textE u T q).1 53 := by rw [← hz, upw_ne _ _ (by decide)]
  have z54 : ∀ j, j < 83 → z.1 54 j = v.1 54 j := fun j hj => by rw [← hz, upw_same, tE_55, cpyM, if_pos hj, cpyM, if_pos hj, hr 54 (by decide) (by decide)]
  obtain ⟨h1, h2, -, h4, h5, h6, h7⟩ := hR
  have s1 : stR z 1 = stR v 1 := stR_cong (fun c a1 a2 => by rw [zf c (by omega) (by omega) (by omega), hc c (by omega) (by omega) (by omega) (by omega)])
  have s2 : stR z 27 = stR v 27 := stR_cong (fun c a1 a2 => by rw [zf c (by omega) (by omega) (by omega), hc c (by omega) (by omega) (by omega) (by omega)])
  refine ⟨⟨by rw [s1]; exact h1.1, ?_⟩, fun j hj => ?_, ⟨0, by decide, by rw [z53]; exact tE_7, ?_, fun j hj => absurd hj (Nat.not_lt_zero j)⟩, fun s hs => ?_, ?_⟩
  · rw [s1]; exact fun j hj hl => (z54 j hj).trans (h1.2 j hj hl)
  · rw [zf 52 (by decide) (by decide) (by decide), zf 58 (by decide) (by decide) (by decide), hc 52 (by decide) (by omega) (by decide) (by decide), hr 58 (by decide) (by decide)]; exact h2 j hj
  · rw [zf 41 (by decide) (by decide) (by decide)]; exact h41
  · rw [zf (44 + 2 * s) (by omega) (by omega) (by omega), zf (44 + 2 * s + 1) (by omega) (by omega) (by omega), zf 60 (by decide) (by decide) (by decide), zf 61 (by decide) (by decide) (by decide), zf 62 (by decide) (by decide) (by decide), hc (44 + 2 * s) (by omega) (by omega) (by omega) (by omega), hc (44 + 2 * s + 1) (by omega) (by omega) (by omega) (by omega), hr 60 (by decide) (by decide), hr 61 (by decide) (by decide), hr 62 (by decide) (by decide)]
    exact h4 s hs
  · rw [zf 0 (by decide) (by decide) (by decide), z53, tE_4, zf 57 (by decide) (by decide) (by decide), s2, hc 0 (by decide) (by omega) (by decide) (by decide), hr 53 (by decide) (by decide), hr 57 (by decide) (by decide)]
    exact ⟨h5, h6, h7⟩
