/-! what the reader's calls come to -/
def RPh (w : SV) (B : Nat → Int32) (T q0 : Nat) (it : Int32) (D : Nat → Int32) (i : Nat) (y : Int32) (Y mo : Nat) (x : Int32) (u : SV) : Prop :=
  (x = 1 ∧ ∃ c m, c ≤ T ∧ m ≤ Y ∧ u = stW (rcW w B T c it (nI m)) 14 D ∧ ∀ (d : Nat → Int32) (j : Nat), d j = nI mo → phF B T (q0, -1, d) (hsW.getD i 0) j y = (c, -1, upd d j (nI m))) ∨ (x = 0 ∧ ∃ c nm, c ≤ T ∧ u = stW (rcW w B T c it nm) 14 D ∧ ∀ (d : Nat → Int32) (j : Nat), phF B T (q0, -1, d) (hsW.getD i 0) j y = (c, nI c, d))
def RUp (w : SV) (B : Nat → Int32) (T q0 : Nat) (it nm : Int32) (D : Nat → Int32) (y : Int32) (x : Int32) (u : SV) : Prop :=
  (x = 1 ∧ nhP B T q0 y ∧ u = stW (rcW w B T (nx B T q0) it (nhV B T q0 y)) 14 D) ∨ (x = 0 ∧ ¬ nhP B T q0 y ∧ u = stW (rcW w B T q0 it nm) 14 D)
theorem upd_eq {d : Nat → Int32} {j : Nat} {x : Int32} (h : d j = x) : upd d j x = d := by rw [← h, upd_self]
theorem nI_nm1 {a : Nat} (h : a < 2 ^ 31) : ¬ nI a = -1 := fun z => absurd (congrArg Int32.toInt z) (by rw [nI_toInt h, show (-1 : Int32).toInt = -1 from rfl]; omega)
theorem cm_at {d : Nat → Int32} {N : Nat} {x : Int32} : comesM d N x 0 (25 + 8 * 1 + N) = nI 0 ∧ comesM d N x 0 (25 + 8 * 2 + N) = nI 0 ∧ comesM d N x 0 (25 + 8 * 3 + N) = nI 50 := by
  rw [← mvQ_come]
  unfold mvQ
  refine ⟨?_, ?_, ?_⟩
  · rw [pk_un (by omega), pk_un (by omega), pk_un (by omega), pk_un (by omega), pk_un (by omega), pk_us]; rfl
  · rw [pk_un (by omega), pk_un (by omega), pk_un (by omega), pk_un (by omega), pk_us]; rfl
  · rw [pk_un (by omega), pk_un (by omega), pk_un (by omega), pk_us]; rfl
theorem k7 {P : Nat → Prop} (h0 : ¬ P 0) (h1 : ¬ P 1) (h2 : ¬ P 2) (h3 : ¬ P 3) (h4 : ¬ P 4) (h5 : ¬ P 5) (h6 : ¬ P 6) : ∀ k, k < 7 → ¬ P k := by
  intro k hk
  have : k = 0 ∨ k = 1 ∨ k = 2 ∨ k = 3 ∨ k = 4 ∨ k = 5 ∨ k = 6 := by omega
  rcases this with rfl | rfl | rfl | rfl | rfl | rfl | rfl <;> assumption
noncomputable def itP (B : Nat → Int32) (T : Nat) (d : Nat → Int32) : Nat → PQ
  | 0 => (skp B T 0, -1, d)
  | i + 1 => (nx B T (itS B T d i).1, (itS B T d i).2.1, (itS B T d i).2.2)
theorem itS_P {B : Nat → Int32} {T : Nat} {d : Nat → Int32} : ∀ i, itS B T d i = itF B T (itP B T d i)
  | 0 => rfl
  | _ + 1 => rfl
theorem itS_Q {B : Nat → Int32} {T i : Nat} {d : Nat → Int32} (h : (itP B T d i).2.1 = -1) : itF B T ((itP B T d i).1, -1, (itP B T d i).2.2) = itS B T d i := by
  rw [itS_P, ← h]
theorem itP_le {B : Nat → Int32} {T : Nat} {d : Nat → Int32} : ∀ i, (itP B T d i).1 ≤ T
  | 0 => lk_end (Nat.zero_le _)
  | _ + 1 => nx_le' (itS_le _)
def IQ (v : SV) (B : Nat → Int32) (T : Nat) (d : Nat → Int32) (x : Int32) (u : SV) : Prop :=
  (x = 1 ∧ (itQ B T d).2.1 = -1 ∧ ∃ nm D N, u = stW (rcW v B T (itQ B T d).1 (nI (itL B T d + 1)) nm) 14 D ∧ okC D N ∧ agr N (itQ B T d).2.2 D) ∨ (x = 0 ∧ (itQ B T d).2.1 = nI (itQ B T d).1 ∧ (itQ B T d).1 ≤ T ∧ ∃ it nm D, u = stW (rcW v B T (itQ B T d).1 it nm) 14 D)
section ITS
variable {v : SV} {B : Nat → Int32} {T i : Nat} {d : Nat → Int32} {it nm : Int32} {D : Nat → Int32}
theorem iq_fault (hT : T ≤ 120) (hC : ∀ t, t < i → itC B T (itS B T d t)) (h : (itS B T d i).2.1 = nI (itS B T d i).1) : IQ v B T d 0 (stW (rcW v B T (itS B T d i).1 it nm) 14 D) := by
  have hle := itS_le (B := B) (T := T) (d := d) i
  have hp : (0 : Int32) ≤ (itS B T d i).2.1 := by rw [h]; exact nI_pos' (by omega)
  have hL : itL B T d = i := itL_eq hC (fun z => absurd hp (fa_lt_nle z.1))
  have hQ : itQ B T d = itS B T d i := by rw [itQ, hL, itE, if_pos hp]
  refine Or.inr ⟨rfl, ?_, ?_, it, nm, D, ?_⟩
  · rw [hQ]; exact h
  · rw [hQ]; exact hle
  · rw [hQ]
theorem iq_end {N : Nat} (hC : ∀ t, t < i → itC B T (itS B T d t)) (h : (itS B T d i).2.1 = -1) (hk : tkK B T (itS B T d i).1 = 0) (hD : okC D N) (hA : agr N (itS B T d i).2.2 D) : IQ v B T d 1 (stW (rcW v B T (itS B T d i).1 (nI (i + 1)) nm) 14 D) := by
  have hL : itL B T d = i := itL_eq hC (fun z => absurd (hk.symm.trans z.2) (by decide))
  have hQ : itQ B T d = itS B T d i := by rw [itQ, hL, itE, if_neg (by rw [h]; exact neg1), if_pos hk]
  refine Or.inl ⟨rfl, ?_, nm, D, N, ?_, hD, ?_⟩
  · rw [hQ]; exact h
  · rw [hQ, hL]
  · rw [hQ]; exact hA
theorem iq_more (hC : ∀ t, t < i → itC B T (itS B T d t)) (h : (itS B T d i).2.1 = -1) (h3 : ¬ tkK B T (itS B T d i).1 = 3) (h0 : ¬ tkK B T (itS B T d i).1 = 0) : IQ v B T d 0 (stW (rcW v B T (itS B T d i).1 it nm) 14 D) := by
  have hL : itL B T d = i := itL_eq hC (fun z => h3 z.2)
  have hQ : itQ B T d = ((itS B T d i).1, nI (itS B T d i).1, (itS B T d i).2.2) := by rw [itQ, hL, itE, if_neg (by rw [h]; exact neg1), if_neg h0, wrF, if_neg (by rw [h]; exact neg1)]
  refine Or.inr ⟨rfl, ?_, ?_, it, nm, D, ?_⟩
  · rw [hQ]
  · rw [hQ]; exact itS_le i
  · rw [hQ]
theorem iq_120 (hT : T ≤ 120) (hC : ∀ t, t < 120 → itC B T (itS B T d t)) (h : (itP B T d 120).2.1 = -1) : IQ v B T d 0 (stW (rcW v B T (itP B T d 120).1 it nm) 14 D) := by
  have h1 := itS_ge (B := B) (T := T) (d := d) 119 (fun t ht => hC t (by omega))
  have h2 := (hC 119 (by decide)).2
  have h3 := nx_gt h2
  have h4 := itP_le (B := B) (T := T) (d := d) 120
  have h5 : (itP B T d 120).1 = nx B T (itS B T d 119).1 := rfl
  have eT : (itP B T d 120).1 = T := by omega
  have hk : tkK B T (itP B T d 120).1 = 0 := by unfold tkK; rw [if_pos eT]
  have n1 : ∀ y, ¬ wdP B T (itP B T d 120).1 y := fun y z => absurd (hk.symm.trans z.1) (by decide)
  have e : itS B T d 120 = ((itP B T d 120).1, nI (itP B T d 120).1, (itP B T d 120).2.2) := by
    rw [← itS_Q h]
    exact it_no (n1 _) (n1 _) (fun k _ => n1 _)
  have := iq_fault (v := v) (it := it) (nm := nm) (D := D) hT hC (by rw [e])
  rw [e] at this
  exact this
end ITS
theorem rc_start {v : SV} {B : Nat → Int32} {T c : Nat} : ctV (up v 64 2 0) B T c = stW (rcW v B T c 0 (v.1 64 3)) 14 (stR v 14) := by
  have e1 : up v 64 2 0 = upw v 64 (rdR (v.1 64) 0 (v.1 64 3)) := by
    show upw v 64 _ = _
    congr 1
    funext j
    simp only [upd, rdR]
    by_cases h : j = 2 <;> by_cases h3 : j = 3 <;> simp [h, h3]
  have e2 : stR (rcW v B T c 0 (v.1 64 3)) 14 = stR v 14 := stR_cong (fun q h1 h2 => by rw [rcW, upw_ne _ _ (by omega), ctV, tq_ne _ _ _ _ _ (by omega)])
  rw [← e2, st_self, rcW, ctV, tqV, ctV, tqV, e1, upw_ne _ _ (by decide), upw_swap (by decide)]
theorem rc_start0 {v : SV} {B : Nat → Int32} {T c : Nat} (h : v.1 64 2 = 0) : ctV v B T c = stW (rcW v B T c 0 (v.1 64 3)) 14 (stR v 14) := by
  have e : up v 64 2 0 = v := by
    show upw v 64 (upd (v.1 64) 2 0) = v
    rw [upd_eq h, upw_self]
  have h2 : ctV (up v 64 2 0) B T c = stW (rcW v B T c 0 (v.1 64 3)) 14 (stR v 14) := rc_start
  rw [e] at h2
  exact h2
