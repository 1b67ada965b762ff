/-! class and reference side by side -/
def RLx (a b : SV) (N : Nat) : Prop :=
  (okC (stR a 1) N ∧ agr N (b.1 54) (stR a 1)) ∧ (∀ j, j < 7 → a.1 52 j = b.1 58 j) ∧
  (∃ T, T ≤ 120 ∧ b.1 53 7 = nI T ∧ a.1 41 1 = nI T ∧ ∀ j, j < T → a.1 42 j = b.1 59 j) ∧
  (∀ s, s < 4 → a.1 (44 + 2 * s) 0 = b.1 60 s ∧ (∃ z, z ≤ 40 ∧ a.1 (44 + 2 * s) 1 = nI z ∧ b.1 61 s = nI z) ∧ ∀ i, i < 40 → a.1 (44 + 2 * s + 1) i = b.1 62 (40 * s + i)) ∧
  (a.1 0 3 = b.1 53 4 ∧ (a.1 0 3 = 0 ∨ a.1 0 3 = 1) ∧ (a.1 0 3 = 1 → ∃ M, okC (stR a 27) M ∧ agr M (b.1 57) (stR a 27)))
abbrev Rl (v : SV) (N : Nat) : Prop := RLx v v N
/-- what the class keeps from call to call is the same; what the reference keeps is -/
def scr (v u : SV) : Prop := (∀ c, c < 53 → c ≠ 40 → c ≠ 41 → ¬ (14 ≤ c ∧ c < 27) → u.1 c = v.1 c) ∧ u.1 41 1 = v.1 41 1
def rsc (v u : SV) : Prop := (∀ c, 57 ≤ c → c ≤ 62 → u.1 c = v.1 c) ∧ u.1 54 = v.1 54 ∧ u.1 53 7 = v.1 53 7 ∧ u.1 53 4 = v.1 53 4
abbrev sam (v u : SV) : Prop := scr v u ∧ rsc v u
theorem scr_rfl (v : SV) : scr v v := ⟨fun _ _ _ _ _ => rfl, rfl⟩
theorem rsc_rfl (v : SV) : rsc v v := ⟨fun _ _ _ => rfl, rfl, rfl, rfl⟩
theorem sam_rfl (v : SV) : sam v v := ⟨scr_rfl v, rsc_rfl v⟩
theorem scr_trans {a b c : SV} (h1 : scr a b) (h2 : scr b c) : scr a c := ⟨fun k q1 q2 q3 q4 => (h2.1 k q1 q2 q3 q4).trans (h1.1 k q1 q2 q3 q4), h2.2.trans h1.2⟩
theorem rsc_trans {a b c : SV} (h1 : rsc a b) (h2 : rsc b c) : rsc a c := ⟨fun k q1 q2 => (h2.1 k q1 q2).trans (h1.1 k q1 q2), h2.2.1.trans h1.2.1, h2.2.2.1.trans h1.2.2.1, h2.2.2.2.trans h1.2.2.2⟩
theorem sam_trans {a b c : SV} (h1 : sam a b) (h2 : sam b c) : sam a c := ⟨scr_trans h1.1 h2.1, rsc_trans h1.2 h2.2⟩
theorem stR_cong {a b : SV} {k : Nat} (h : ∀ c, k ≤ c → c < k + 13 → a.1 c = b.1 c) : stR a k = stR b k := by
  funext i
  unfold stR
  by_cases hi : i < 83
  · rw [if_pos hi, if_pos hi]
    have e : a.1 (dc k i).1 = b.1 (dc k i).1 := by
      refine h _ ?_ ?_
      · unfold dc
        split
        · exact Nat.le_refl k
        · split
          · show k ≤ k + 1; omega
          · split
            · show k ≤ k + 2; omega
            · split
              · show k ≤ k + 5 + _; omega
              · show k ≤ k + 4; omega
      · unfold dc
        split
        · show k < k + 13; omega
        · split
          · show k + 1 < k + 13; omega
          · split
            · show k + 2 < k + 13; omega
            · split
              · show k + 5 + (i - 25) % 8 < k + 13; omega
              · show k + 4 < k + 13; omega
    rw [e]
  · rw [if_neg hi, if_neg hi]
theorem scr_1 {v u : SV} (h : scr v u) : stR u 1 = stR v 1 := stR_cong (fun c h1 h2 => h.1 c (by omega) (by omega) (by omega) (by omega))
theorem scr_27 {v u : SV} (h : scr v u) : stR u 27 = stR v 27 := stR_cong (fun c h1 h2 => h.1 c (by omega) (by omega) (by omega) (by omega))
theorem RL_scr {a b u : SV} {N : Nat} (h : RLx a b N) (hs : scr a u) : RLx u b N := by
  obtain ⟨h1, h2, ⟨T, t1, t2, t3, t4⟩, h4, h5, h6, h7⟩ := h
  have e : ∀ c, c < 53 → c ≠ 40 → c ≠ 41 → ¬ (14 ≤ c ∧ c < 27) → u.1 c = a.1 c := hs.1
  refine ⟨by rw [scr_1 hs]; exact h1, fun j hj => by rw [e 52 (by decide) (by decide) (by decide) (by decide)]; exact h2 j hj, ⟨T, t1, t2, by rw [hs.2]; exact t3, fun j hj => by rw [e 42 (by decide) (by decide) (by decide) (by decide)]; exact t4 j hj⟩, fun s hs4 => ?_, ?_⟩
  · rw [e (44 + 2 * s) (by omega) (by omega) (by omega) (by omega), e (44 + 2 * s + 1) (by omega) (by omega) (by omega) (by omega)]
    exact h4 s hs4
  · rw [e 0 (by decide) (by decide) (by decide) (by decide), scr_27 hs]
    exact ⟨h5, h6, h7⟩
theorem RL_rsc {a b u : SV} {N : Nat} (h : RLx a b N) (hs : rsc b u) : RLx a u N := by
  obtain ⟨h1, h2, ⟨T, t1, t2, t3, t4⟩, h4, h5, h6, h7⟩ := h
  have e : ∀ c, 57 ≤ c → c ≤ 62 → u.1 c = b.1 c := hs.1
  refine ⟨by rw [hs.2.1]; exact h1, fun j hj => by rw [e 58 (by decide) (by decide)]; exact h2 j hj, ⟨T, t1, by rw [hs.2.2.1]; exact t2, t3, fun j hj => by rw [e 59 (by decide) (by decide)]; exact t4 j hj⟩, fun s hs4 => ?_, ?_⟩
  · rw [e 60 (by decide) (by decide), e 61 (by decide) (by decide), e 62 (by decide) (by decide)]
    exact h4 s hs4
  · rw [hs.2.2.2, e 57 (by decide) (by decide)]
    exact ⟨h5, h6, h7⟩
theorem Rl_sam {v u : SV} {N : Nat} (h : Rl v N) (hs : sam v u) : Rl u N := RL_rsc (RL_scr h hs.1) hs.2
/-- a cell of the class alone, a cell of the reference alone -/
theorem rsc_lo (v : SV) {c : Nat} (r : Nat → Int32) (h : c < 53 ∨ c = 64) : rsc v (upw v c r) := ⟨fun k h1 h2 => upw_ne v r (by omega), upw_ne v r (by omega), by rw [upw_ne v r (by omega)], by rw [upw_ne v r (by omega)]⟩
theorem rsc_st (v : SV) {k : Nat} (d : Nat → Int32) (h : k ≤ 40) : rsc v (stW v k d) := ⟨fun c h1 h2 => st_far (by omega), st_far (by omega), by rw [st_far (by omega)], by rw [st_far (by omega)]⟩
theorem scr_hi (v : SV) {c : Nat} (r : Nat → Int32) (h : 53 ≤ c) : scr v (upw v c r) := ⟨fun k h1 _ _ _ => upw_ne v r (by omega), by rw [upw_ne v r (by omega)]⟩
theorem sam_14 (v : SV) (d : Nat → Int32) : sam v (stW v 14 d) := ⟨⟨fun c h1 h2 h3 h4 => st_far (by omega), by rw [st_far (by omega)]⟩, rsc_st v d (by decide)⟩
theorem sam_40 (v : SV) (r : Nat → Int32) : sam v (upw v 40 r) := ⟨⟨fun c h1 h2 h3 h4 => upw_ne v r h2, by rw [upw_ne v r (by decide)]⟩, rsc_lo v r (Or.inl (by decide))⟩
theorem sam_up40 (v : SV) (j : Nat) (x : Int32) : sam v (up v 40 j x) := sam_40 v _
theorem sam_aside (v : SV) : sam v (asideM v) := ⟨scr_hi v _ (by decide), ⟨fun k h1 h2 => upw_ne v _ (by omega), upw_ne v _ (by decide), by rw [asideM, upw_ne v _ (by decide)], by rw [asideM, upw_ne v _ (by decide)]⟩⟩
theorem sam54 {v u : SV} (h : sam v u) : u.1 54 = v.1 54 := h.2.2.1
theorem nM_of {v u : SV} {N : Nat} (h : u.1 54 = v.1 54) (hM : okM (v.1 54) N) : nM u = N := nM_eq (by rw [h]; exact hM)
theorem sl_far {k c j i : Nat} (h : sl k c j = some i) : k ≤ c ∧ c < k + 13 := by
  have h1 := sl_dc h
  have h2 := sl_c h
  rw [dc] at h2
  split at h2
  · subst h2; show k ≤ k ∧ k < k + 13; omega
  · split at h2
    · subst h2; show k ≤ k + 1 ∧ k + 1 < k + 13; omega
    · split at h2
      · subst h2; show k ≤ k + 2 ∧ k + 2 < k + 13; omega
      · split at h2
        · subst h2; show k ≤ k + 5 + _ ∧ k + 5 + (i - 25) % 8 < k + 13; omega
        · subst h2; show k ≤ k + 4 ∧ k + 4 < k + 13; omega
theorem stR_at {v : SV} {k c j i : Nat} (h : sl k c j = some i) (hi : i < 73) : v.1 c j = stR v k i := by
  have h1 := sl_dc h
  rw [stR, if_pos (by omega), if_neg (by omega), h1.1]
theorem stR_sp {v : SV} {k c j i : Nat} (h : sl k c j = some i) (hi : 73 ≤ i) : v.1 c j = stR v k i - 1 := by
  have h1 := sl_dc h
  rw [stR, if_pos (by omega), if_pos hi, h1.1, i_pm]
theorem scr_rd {v u : SV} {c j i : Nat} (hu : scr v u) (h : sl 1 c j = some i) (hi : i < 73) : u.1 c j = stR v 1 i := by rw [← scr_1 hu]; exact stR_at h hi
theorem scr_rs {v u : SV} {c j i : Nat} (hu : scr v u) (h : sl 1 c j = some i) (hi : 73 ≤ i) : u.1 c j = stR v 1 i - 1 := by rw [← scr_1 hu]; exact stR_sp h hi
theorem scr_self {v u : SV} (hu : scr v u) : u = stW u 1 (stR v 1) := by rw [← scr_1 hu]; exact (st_self u 1).symm
theorem st_up0 {v : SV} {k c j i : Nat} {x : Int32} (h : sl k c j = some i) (hi : i < 73) : up v c j x = stW v k (upd (stR v k) i x) := by
  have := st_up (v := v) (d := stR v k) (x := x) h hi
  rw [st_self] at this
  exact this
theorem st_up0S {v : SV} {k c j i : Nat} {x : Int32} (h : sl k c j = some i) (hi : 73 ≤ i) : up v c j x = stW v k (upd (stR v k) i (x + 1)) := by
  have := st_upS (v := v) (d := stR v k) (x := x) h hi
  rw [st_self] at this
  exact this
theorem st_rst {v : SV} {k i : Nat} {d : Nat → Int32} (hi : i < 83) : stR (stW v k d) k i = d i := by
  have hs : sl k (dc k i).1 (dc k i).2 = some i := by
    unfold dc
    by_cases h1 : i < 7
    · rw [if_pos h1]
      refine sl_k ?_
      have : i = 0 ∨ i = 1 ∨ i = 2 ∨ i = 3 ∨ i = 4 ∨ i = 5 ∨ i = 6 := by omega
      rcases this with rfl | rfl | rfl | rfl | rfl | rfl | rfl <;> rfl
    · rw [if_neg h1]
      by_cases h2 : i < 13
      · rw [if_pos h2]
        show sl k (k + 1) (i - 7) = some i
        rw [sl_1 (by omega)]; congr 1; omega
      · rw [if_neg h2]
        by_cases h3 : i < 25
        · rw [if_pos h3]
          show sl k (k + 2) (i - 13) = some i
          rw [sl_2 (by omega)]; congr 1; omega
        · rw [if_neg h3]
          by_cases h4 : i < 73
          · rw [if_pos h4]
            show sl k (k + 5 + (i - 25) % 8) ((i - 25) / 8) = some i
            rw [sl_5 (by omega) (by omega)]; congr 1; omega
          · rw [if_neg h4]
            show sl k (k + 4) (i - 73) = some i
            rw [sl_4 (by omega)]; congr 1; omega
  unfold stR
  rw [if_pos hi]
  by_cases h5 : 73 ≤ i
  · rw [if_pos h5, st_sp hs h5, i_mp]
  · rw [if_neg h5, st_at hs (by omega)]
theorem stR_far {v : SV} {k o : Nat} {d : Nat → Int32} (h : k + 13 ≤ o ∨ o + 13 ≤ k) : stR (stW v k d) o = stR v o := stR_cong (fun c h1 h2 => st_far (by omega))
theorem agr_symm {N : Nat} {d e : Nat → Int32} (h : agr N d e) : agr N e d := fun j h1 h2 => (h j h1 h2).symm
theorem agr_trans {N : Nat} {a b c : Nat → Int32} (h : agr N a b) (h2 : agr N b c) : agr N a c := fun j h1 h3 => (h j h1 h3).trans (h2 j h1 h3)
theorem agr_rfl {N : Nat} (d : Nat → Int32) : agr N d d := fun _ _ _ => rfl
/-- findings -/
def fnC (v : SV) (j : Nat) : SV := up v 52 j (v.1 52 j + 1)
theorem lo_sub : ∀ j, j < 7 → (-1000001 : Int32) - (-1000001 - nI j) = nI j := by decide +kernel
theorem stR_upw {v : SV} {k c : Nat} {r : Nat → Int32} (h : c < k ∨ k + 13 ≤ c) : stR (upw v c r) k = stR v k := stR_cong (fun c2 h1 h2 => upw_ne v r (by omega))
theorem Rl_fn {v : SV} {N j : Nat} (h : Rl v N) (_ : j < 7) : Rl (fnd (fnC v j) j) N := by
  obtain ⟨h1, h2, ⟨T, t1, t2, t3, t4⟩, h4, h5, h6, h7⟩ := h
  have e : ∀ c, c ≠ 52 → c ≠ 58 → (fnd (fnC v j) j).1 c = v.1 c := fun c q1 q2 => by
    unfold fnd fnC
    rw [upw_ne _ _ q2, upw_ne _ _ q1]
  have s1 : stR (fnd (fnC v j) j) 1 = stR v 1 := stR_cong (fun c q1 q2 => e c (by omega) (by omega))
  have s2 : stR (fnd (fnC v j) j) 27 = stR v 27 := stR_cong (fun c q1 q2 => e c (by omega) (by omega))
  refine ⟨?_, fun i hi => ?_, ⟨T, t1, ?_, ?_, fun i hi => ?_⟩, fun s hs => ?_, ?_⟩
  · rw [s1, e 54 (by decide) (by decide)]; exact h1
  · have a : (fnd (fnC v j) j).1 52 = upd (v.1 52) j (v.1 52 j + 1) := by
      unfold fnd fnC
      rw [upw_ne _ _ (by decide), upw_same]
    have b : (fnd (fnC v j) j).1 58 = upd (v.1 58) j (v.1 58 j + 1) := by
      unfold fnd fnC
      rw [upw_same, upw_ne _ _ (by decide)]
    rw [a, b]
    by_cases q : i = j
    · subst q; rw [pk_us, pk_us, h2 i hi]
    · rw [pk_un q, pk_un q]; exact h2 i hi
  · rw [e 53 (by decide) (by decide)]; exact t2
  · rw [e 41 (by decide) (by decide)]; exact t3
  · rw [e 42 (by decide) (by decide), e 59 (by decide) (by decide)]; exact t4 i hi
  · rw [e (44 + 2 * s) (by omega) (by omega), e (44 + 2 * s + 1) (by omega) (by omega), e 60 (by decide) (by decide), e 61 (by decide) (by decide), e 62 (by decide) (by decide)]
    exact h4 s hs
  · rw [e 0 (by decide) (by decide), e 53 (by decide) (by decide), e 57 (by decide) (by decide), s2]
    exact ⟨h5, h6, h7⟩
def Ps (x : Int32) (p : Int32 × SV) : Prop := x = p.1 ∧ ∃ N, Rl p.2 N
theorem ps_fd {v u : SV} {N j : Nat} {f : SV → Int32 × SV} {x : Int32} (hR : Rl v N) (h : sam v u) (hj : j < 7) (e : f (fnC u j) = fdM (fnC u j) j) (hx : x = -1000001 - nI j) : Ps x (f (fnC u j)) := by
  rw [e]
  exact ⟨hx, N, Rl_fn (Rl_sam hR h) hj⟩
theorem ps_eq {v u z : SV} {N : Nat} {p : Int32 × SV} {x F : Int32} (hR : Rl v N) (e : p = (F, z)) (hx : x = F) (h : sam v z) : Ps x p := by
  rw [e]
  exact ⟨hx, N, Rl_sam hR h⟩
theorem ps_to {z : SV} {N : Nat} {p : Int32 × SV} {x F : Int32} (e : p = (F, z)) (hx : x = F) (h : Rl z N) : Ps x p := by
  rw [e]
  exact ⟨hx, N, h⟩
/-- the street and the row change alike -/
theorem Rl_row {v : SV} {N N2 : Nat} {d e : Nat → Int32} (h : Rl v N) (hd : okC d N2) (ha : agr N2 e d) : Rl (upw (stW v 1 d) 54 e) N2 := by
  obtain ⟨h1, h2, ⟨T, t1, t2, t3, t4⟩, h4, h5, h6, h7⟩ := h
  have q : ∀ c, 14 ≤ c ∨ c < 1 → c ≠ 54 → (upw (stW v 1 d) 54 e).1 c = v.1 c := fun c q1 q2 => by rw [upw_ne _ _ q2, st_far (by omega)]
  have s1 : ∀ j, j < 83 → stR (upw (stW v 1 d) 54 e) 1 j = d j := fun j hj => by rw [stR_upw (by omega), st_rst hj]
  have s2 : stR (upw (stW v 1 d) 54 e) 27 = stR v 27 := stR_cong (fun c q1 q2 => q c (by omega) (by omega))
  refine ⟨⟨?_, ?_⟩, fun i hi => ?_, ⟨T, t1, ?_, ?_, fun i hi => ?_⟩, fun s hs => ?_, ?_⟩
  · exact okC_agr (fun j hj _ => (s1 j hj).symm) hd
  · rw [upw_same]; exact fun j hj hl => (ha j hj hl).trans (s1 j hj).symm
  · rw [q 52 (by omega) (by decide), q 58 (by omega) (by decide)]; exact h2 i hi
  · rw [q 53 (by omega) (by decide)]; exact t2
  · rw [q 41 (by omega) (by decide)]; exact t3
  · rw [q 42 (by omega) (by decide), q 59 (by omega) (by decide)]; exact t4 i hi
  · rw [q (44 + 2 * s) (by omega) (by omega), q (44 + 2 * s + 1) (by omega) (by omega), q 60 (by omega) (by decide), q 61 (by omega) (by decide), q 62 (by omega) (by decide)]
    exact h4 s hs
  · rw [q 0 (by omega) (by decide), q 53 (by omega) (by decide), q 57 (by omega) (by decide), s2]
    exact ⟨h5, h6, h7⟩
theorem rsc_w (w : SV) {k : Nat} (r : Nat → Int32) (h : k < 53) : rsc w (upw w k r) := ⟨fun c _ _ => upw_ne _ _ (by omega), upw_ne _ _ (by omega), congrFun (upw_ne _ _ (by omega)) _, congrFun (upw_ne _ _ (by omega)) _⟩
section ROWS3
variable {g : GG} {n : Nat} {p : Program} {l : Launch} {e : Env} {R : Room} {s : State} {m : MethodId} {args : Array Value} {below : List Frame} {meth : Method} {c : Code} {H : Heap} {locs : List Loc} {cells slots : Nat} {Q : State → Prop} {cc : ByteArray} {nL : Nat} {ret : Option FieldType} {Ts : List Cond} {own : String} {pc : Nat} {ls : Array Slot} {rest : List Value} {v : SV}
/-- a public call of the class: its answer is the reference's after it, and the two go on side by side -/
def QP (g : GG) (n : Nat) (w : SV) (f : SV → Int32 × SV) : Array Value → State → Outcome → State → Prop := QI g n (fun x u => Ps x (f u) ∧ rsc w u)
theorem t_P {f : SV → Int32 × SV} {w : SV} {mc ms : Nat} (C : Cx g n p s m meth c args cc nL ret Ts own) (hr : ret = some .int) (hP : va_P g.1 vwCl (wl g n v) H) (hS : va_S (wA g n) s.heap H locs) {x : Int32} (h : Ps x (f v)) (h2 : rsc w v) (hdg : decode cc pc = .ok (.ireturn, 1)) : W p l e R s m args below meth c H locs mc ms (MQ below (QP g n w f) args s mc ms (wA g n)) (F0 m pc ls [.int x]) :=
  r_iret C hr hP hS ⟨h, h2⟩ hdg
theorem a_P {f : SV → Int32 × SV} {w : SV} {a : Array Value} {st0 : List Value} (hS : va_S (wA g n) s.heap H locs) (hr : va_Run p l e R s m args below meth c H locs cells slots 0 0 (F0 m pc ls st0) rest (QP g n w f a) (wA g n))
    (kk : ∀ (r : Int32) (u : SV) (H : Heap) (locs : List Loc), (Ps r (f u) ∧ rsc w u) → va_P g.1 vwCl (wl g n u) H → va_S (wA g n) s.heap H locs → W p l e R s m args below meth c H locs cells slots Q (F0 m (pc + 3) ls (.int r :: rest))) : W p l e R s m args below meth c H locs cells slots Q (F0 m pc ls st0) := a_I hS hr kk
/-- an answer, the same world but for what is tried -/
def QT (g : GG) (n : Nat) (F : Int32) (v : SV) : Array Value → State → Outcome → State → Prop := QI g n (fun x u => x = F ∧ sam v u)
def QU (g : GG) (n : Nat) (P : Prop) (v : SV) : Array Value → State → Outcome → State → Prop := QI g n (fun x u => ((x = 1 ∧ P) ∨ (x = 0 ∧ ¬ P)) ∧ sam v u)
theorem a_U {P : Prop} {w : SV} {a : Array Value} {st0 : List Value} (hS : va_S (wA g n) s.heap H locs) (hr : va_Run p l e R s m args below meth c H locs cells slots 0 0 (F0 m pc ls st0) rest (QU g n P w a) (wA g n))
    (kt : ∀ u : SV, sam w u → P → ∀ (H : Heap) (locs : List Loc), va_P g.1 vwCl (wl g n u) H → va_S (wA g n) s.heap H locs → W p l e R s m args below meth c H locs cells slots Q (F0 m (pc + 3) ls (.int 1 :: rest))) (kf : ∀ u : SV, sam w u → ¬ P → ∀ (H : Heap) (locs : List Loc), va_P g.1 vwCl (wl g n u) H → va_S (wA g n) s.heap H locs → W p l e R s m args below meth c H locs cells slots Q (F0 m (pc + 3) ls (.int 0 :: rest))) : W p l e R s m args below meth c H locs cells slots Q (F0 m pc ls st0) := by
  refine a_I hS hr (fun r u H locs hw hP hS => ?_)
  obtain ⟨⟨rfl, h⟩ | ⟨rfl, h⟩, hu⟩ := hw
  · exact kt u hu h H locs hP hS
  · exact kf u hu h H locs hP hS
theorem t_U1 {P : Prop} {w : SV} {mc ms : Nat} (C : Cx g n p s m meth c args cc nL ret Ts own) (hr : ret = some .boolean) (hP : va_P g.1 vwCl (wl g n v) H) (hS : va_S (wA g n) s.heap H locs) (h1 : P) (h2 : sam w v) (hdg : decode cc pc = .ok (.ireturn, 1)) : W p l e R s m args below meth c H locs mc ms (MQ below (QU g n P w) args s mc ms (wA g n)) (F0 m pc ls [.int 1]) :=
  r_zret C hr hP hS rfl ⟨Or.inl ⟨rfl, h1⟩, h2⟩ hdg
theorem t_U0 {P : Prop} {w : SV} {mc ms : Nat} (C : Cx g n p s m meth c args cc nL ret Ts own) (hr : ret = some .boolean) (hP : va_P g.1 vwCl (wl g n v) H) (hS : va_S (wA g n) s.heap H locs) (h1 : ¬ P) (h2 : sam w v) (hdg : decode cc pc = .ok (.ireturn, 1)) : W p l e R s m args below meth c H locs mc ms (MQ below (QU g n P w) args s mc ms (wA g n)) (F0 m pc ls [.int 0]) :=
  r_zret C hr hP hS rfl ⟨Or.inr ⟨rfl, h1⟩, h2⟩ hdg
/-- the static tables -/
theorem r_tald (C : Cx g n p s m meth c args cc nL ret Ts own) (hS : va_S (wA g n) s.heap H locs) {q : Nat} {t : List Int32} (N : Nat) (hN : N ≤ 7) (hT : va_T .int (gT g q) N (fun j => .int (t.getD j 0)) (wA g n) s s.heap) {i : Int32} (j : Nat) (hi : i = nI j) (hj : j < N) (hdg : decode cc pc = .ok (.iaload, 1))
    (kk : W p l e R s m args below meth c H locs cells slots Q (F0 m (pc + 1) ls (.int (t.getD j 0) :: rest))) : W p l e R s m args below meth c H locs cells slots Q (F0 m pc ls (.int i :: .ref (gT g q) :: rest)) := by
  obtain ⟨⟨hx, hb, hml, hown, hts⟩, -, -⟩ := C
  subst hi
  exact va_ti hx hb hT hS (vp_in_nI hj (by omega)) (by rw [nI_clamp (by omega)]) hdg kk
end ROWS3
theorem kd_sh : ∀ s, s < 4 → kd (44 + 2 * s) = 1 ∧ kd (44 + 2 * s + 1) = 8 ∧ ln (44 + 2 * s + 1) = 40 := by decide +kernel
theorem coming_cong {N r : Nat} {d e : Nat → Int32} {x : Int32} (h : agr N d e) (hr : r < N) (hN : N ≤ 8) : comingM d r x = comingM e r x := by
  have h6 := agr_six h hr hN
  unfold comingM nearM
  rw [hear6 h6, want6 h6, trust6 h6, h6 1 (by decide), h6 3 (by decide), h6 5 (by decide), agr_lo h (show 3 < 25 by decide), agr_lo h (show 5 < 25 by decide)]
theorem come_cong {N : Nat} {d e : Nat → Int32} {x : Int32} (h : agr N d e) (hN : N ≤ 8) : ∀ i, i ≤ N → comeM d x i = comeM e x i
  | 0, _ => rfl
  | i + 1, hi => by rw [comeM, comeM, come_cong h hN i (by omega), coming_cong h (by omega) hN]
theorem tell_agr {N r : Nat} {d e : Nat → Int32} {x : Int32} (h : agr N d e) (hr : r < N) (hN : N ≤ 8) : tellF (rowM d r) x (d 3) (d 5) = tellF (rowM e r) x (e 3) (e 5) := by
  rw [tell6 (agr_six h hr hN), agr_lo h (show 3 < 25 by decide), agr_lo h (show 5 < 25 by decide)]
theorem sum_cong {N q : Nat} {d e : Nat → Int32} (h : agr N d e) (hN : N ≤ 8) (hq : q < 6) : ∀ i, i ≤ N → sumM d q i = sumM e q i
  | 0, _ => rfl
  | i + 1, hi => by rw [sumM, sumM, sum_cong h hN hq i (by omega), agr_six h (show i < N by omega) hN q hq]
theorem wanted_cong {N : Nat} {d e : Nat → Int32} (h : agr N d e) (hN : N ≤ 8) : ∀ i, i ≤ N → wantedM d i = wantedM e i
  | 0, _ => rfl
  | i + 1, hi => by rw [wantedM, wantedM, wanted_cong h hN i (by omega), agr_six h (show i < N by omega) hN 2 (by decide)]
theorem rsum_cong {N : Nat} {d e : Nat → Int32} (h : agr N d e) : ∀ i, i ≤ 12 → rsumM d i = rsumM e i
  | 0, _ => rfl
  | i + 1, hi => by rw [rsumM, rsumM, rsum_cong h i (by omega), agr_lo h (show 13 + i < 25 by omega)]
theorem rset_cong {N : Nat} {d e : Nat → Int32} (h : agr N d e) : ∀ i, i ≤ 12 → rsetM d i = rsetM e i
  | 0, _ => rfl
  | i + 1, hi => by rw [rsetM, rsetM, rset_cong h i (by omega), agr_lo h (show 13 + i < 25 by omega)]
theorem hs_cong {N : Nat} {d e : Nat → Int32} (h : agr N d e) : ∀ i, i ≤ 10 → hsM d i = hsM e i
  | 0, _ => rfl
  | i + 1, hi => by rw [hsM, hsM, hs_cong h i (by omega), h (73 + i) (by omega) (Or.inr (Or.inl (by omega)))]
theorem wb_cong {N : Nat} {d e : Nat → Int32} {x : Int32} (h : agr N d e) (hN : N ≤ 8) : ∀ i, i ≤ N → wbM d x i = wbM e x i
  | 0, _ => rfl
  | i + 1, hi => by rw [wbM, wbM, wb_cong h hN i (by omega), agr_six h (show i < N by omega) hN 2 (by decide)]
theorem all_in : ∀ N, N ≤ 8 → ∀ i, i < N → inG (1 <<< (nI N &&& 31) - 1) i := by
  have h : ∀ N : Fin 9, ∀ i : Fin 8, i.val < N.val → ((1 <<< (nI N.val &&& 31) - 1 : Int32) >>> (nI i.val &&& 31)) &&& 1 = 1 := by decide +kernel
  intro N hN i hi
  exact h ⟨N, by omega⟩ ⟨i, by omega⟩ hi
theorem wb_all {d : Nat → Int32} {N : Nat} (hN : N ≤ 8) : ∀ i, i ≤ N → wbM d (1 <<< (nI N &&& 31) - 1) i = wantedM d i
  | 0, _ => rfl
  | i + 1, hi => by rw [wb_1 (all_in N hN i (by omega)), wb_all hN i (by omega), wantedM]
theorem ofc_at {d : Nat → Int32} {j : Nat} (h : j < 3) : ofcF d (nI j) = d (3 + j) := by
  have : j = 0 ∨ j = 1 ∨ j = 2 := by omega
  rcases this with rfl | rfl | rfl <;> rfl
theorem add_z (x : Int32) : x + 0 = x := by
  apply Int32.toBitVec_inj.mp
  simp
theorem hold_hs {d : Nat → Int32} {N : Nat} (h : okC d N) : ∀ i, i ≤ 10 → hsM d i = holdM d i
  | 0, _ => rfl
  | i + 1, hi => by
    rw [hsM, holdM, hold_hs h i (by omega)]
    have h8 := h.1
    obtain ⟨m, hm, e⟩ := h.2.2 (73 + i) (by omega) (by omega) (by omega) (Or.inr (Or.inl (by omega)))
    rw [tp_spot] at hm
    rw [e]
    by_cases h0 : m = 0
    · subst h0
      rw [if_pos (by decide), if_pos (by decide)]
      exact (by rw [show holdM d i + 0 = holdM d i from add_z _])
    · rw [if_neg (fun q => nI_nle (by omega) (by omega) q), if_neg]
      intro q
      have := congrArg (fun z : Int32 => z + 1) q
      simp only [i_mp] at this
      exact h0 ((nI_eq (a := m) (b := 0) (by omega) (by decide)).mp this)
theorem set_iff {jx : Nat} {y : Int32} (h : jx < 3) : setP (nI jx) y ↔ (0 ≤ y ∧ y ≤ tbC.getD jx 0) := by
  have : jx = 0 ∨ jx = 1 ∨ jx = 2 := by omega
  rcases this with rfl | rfl | rfl
  · exact (in_iffC 16 (by decide) (by decide)).symm
  · exact (in_iffC 6 (by decide) (by decide)).symm
  · exact (in_iffC 10 (by decide) (by decide)).symm
theorem set_nat {jx N : Nat} {y : Int32} (h : jx < 3) (h2 : 0 ≤ y ∧ y ≤ tbC.getD jx 0) : ∃ m, m < tp N (3 + jx) ∧ y = nI m := by
  have : jx = 0 ∨ jx = 1 ∨ jx = 2 := by omega
  rcases this with rfl | rfl | rfl
  · exact (in_iffC 16 (by decide) (by decide)).mp h2
  · exact (in_iffC 6 (by decide) (by decide)).mp h2
  · exact (in_iffC 10 (by decide) (by decide)).mp h2
theorem chg_nat {jy : Nat} {z : Int32} (h : jy < 6) (h2 : 0 ≤ z ∧ z ≤ tbO.getD jy 0) : ∃ m, m < tpW jy ∧ z = nI m := by
  have : jy = 0 ∨ jy = 1 ∨ jy = 2 ∨ jy = 3 ∨ jy = 4 ∨ jy = 5 := by omega
  rcases this with rfl | rfl | rfl | rfl | rfl | rfl
  · exact (in_iffC 7 (by decide) (by decide)).mp h2
  · exact (in_iffC 16 (by decide) (by decide)).mp h2
  · exact (in_iffC 4096 (by decide) (by decide)).mp h2
  · exact (in_iffC 100 (by decide) (by decide)).mp h2
  · exact (in_iffC 10000 (by decide) (by decide)).mp h2
  · exact (in_iffC 2 (by decide) (by decide)).mp h2
theorem chg_iff {jy : Nat} {z : Int32} (h : jy < 6) : (0 ≤ z.toInt64 ∧ z.toInt64 ≤ (mostF (nI jy)).toInt64) ↔ (0 ≤ z ∧ z ≤ tbO.getD jy 0) := by
  rw [fa_le64, fa_le64, toInt64_toInt, toInt64_toInt, fa_le, fa_le]
  have : jy = 0 ∨ jy = 1 ∨ jy = 2 ∨ jy = 3 ∨ jy = 4 ∨ jy = 5 := by omega
  rcases this with rfl | rfl | rfl | rfl | rfl | rfl <;> exact Iff.rfl
theorem put_at {R : Nat → Int32} {j : Nat} {x : Int32} (h : j < 6) : putR R (nI j) x = upd R j x := by
  have : j = 0 ∨ j = 1 ∨ j = 2 ∨ j = 3 ∨ j = 4 ∨ j = 5 := by omega
  rcases this with rfl | rfl | rfl | rfl | rfl | rfl <;> rfl
theorem st_put0 {v : SV} {k r j : Nat} {x : Int32} (hr : r < 8) (hj : j < 6) : upw v (k + 5 + r) (putR (v.1 (k + 5 + r)) (nI j) x) = stW v k (upd (stR v k) (25 + 8 * j + r) x) := by
  rw [put_at hj]
  exact st_up0 (sl_5 hr hj) (by omega)
theorem six0 {v : SV} {N r : Nat} (h : agr N (v.1 54) (stR v 1)) (hr : r < N) (hN : N ≤ 8) : six (v.1 (1 + 5 + r)) (rowM (v.1 54) r) := fun j hj => by
  rw [← agr_six (agr_symm h) hr hN j hj]
  exact (stR_res (o := 1) (by omega) hj).symm
theorem okC_comes {d : Nat → Int32} {N a b : Nat} (h : okC d N) (h7 : N < 8) (ha : a < 7) (hb : b < 16) : okC (comesM d N (nI a) (nI b)) (N + 1) := by
  rw [← mvQ_come]
  have hN := h.1
  have h1 : okC (mvQ d N (nI a) (nI b)) N := okC_res (m := 0) (okC_res (m := 0) (okC_res (m := 50) (okC_res (m := 0) (okC_res (m := b) (okC_res (m := a) h (by decide) h7 ha rfl) (by decide) h7 hb rfl) (by decide) h7 (by decide) rfl) (by decide) h7 (by decide) rfl) (by decide) h7 (by decide) rfl) (by decide) h7 (by decide) rfl
  refine ⟨by omega, pk_us, fun j h0 h1' h2 h3 => ?_⟩
  rw [pk_un (by omega)]
  by_cases hl : liv N j
  · obtain ⟨m, hm, e⟩ := h1.2.2 j h0 h1' h2 hl
    refine ⟨m, ?_, e⟩
    unfold tp at hm ⊢
    by_cases h9 : j < 73
    · simp only [if_pos h9] at hm ⊢; exact hm
    · simp only [if_neg h9] at hm ⊢
      split
      · omega
      · split
        · omega
        · split
          · omega
          · split
            · omega
            · split
              · omega
              · split
                · omega
                · split
                  · omega
                  · rw [if_neg (by omega), if_neg (by omega), if_neg (by omega), if_neg (by omega), if_neg (by omega), if_neg (by omega), if_neg (by omega)] at hm; omega
  · have h4 : (j - 25) % 8 = N ∧ 25 ≤ j ∧ j < 73 := by omega
    obtain ⟨w, hw, rfl⟩ : ∃ w, w < 6 ∧ j = 25 + 8 * w + N := ⟨(j - 25) / 8, by omega, by omega⟩
    rw [tp_res hw h7]
    unfold mvQ
    have : w = 0 ∨ w = 1 ∨ w = 2 ∨ w = 3 ∨ w = 4 ∨ w = 5 := by omega
    rcases this with rfl | rfl | rfl | rfl | rfl | rfl
    · rw [pk_un (by omega), pk_un (by omega), pk_un (by omega), pk_un (by omega), pk_un (by omega), pk_us]; exact ⟨a, ha, rfl⟩
    · rw [pk_un (by omega), pk_un (by omega), pk_un (by omega), pk_un (by omega), pk_us]; exact ⟨b, hb, rfl⟩
    · rw [pk_un (by omega), pk_un (by omega), pk_un (by omega), pk_us]; exact ⟨0, by decide, rfl⟩
    · rw [pk_un (by omega), pk_un (by omega), pk_us]; exact ⟨50, by decide, rfl⟩
    · rw [pk_un (by omega), pk_us]; exact ⟨0, by decide, rfl⟩
    · rw [pk_us]; exact ⟨0, by decide, rfl⟩
theorem agr_comes {d e : Nat → Int32} {N : Nat} {x y : Int32} (h : agr N d e) (_ : N < 8) : agr (N + 1) (comesM d N x y) (comesM e N x y) := by
  rw [← mvQ_come, ← mvQ_come]
  refine agr_upd (fun j h1 h2 => ?_) rfl
  unfold mvQ
  by_cases h5 : j = 25 + 8 * 5 + N
  · rw [h5, pk_us, pk_us]
  · rw [pk_un h5, pk_un h5]
    by_cases h4 : j = 25 + 8 * 4 + N
    · rw [h4, pk_us, pk_us]
    · rw [pk_un h4, pk_un h4]
      by_cases h3 : j = 25 + 8 * 3 + N
      · rw [h3, pk_us, pk_us]
      · rw [pk_un h3, pk_un h3]
        by_cases h22 : j = 25 + 8 * 2 + N
        · rw [h22, pk_us, pk_us]
        · rw [pk_un h22, pk_un h22]
          by_cases h11 : j = 25 + 8 * 1 + N
          · rw [h11, pk_us, pk_us]
          · rw [pk_un h11, pk_un h11]
            by_cases h0 : j = 25 + 8 * 0 + N
            · rw [h0, pk_us, pk_us]
            · rw [pk_un h0, pk_un h0]
              exact h j h1 (by omega)
