/-! the start -/
def sv0 : SV := (fun k => if k = 1 ∨ k = 14 ∨ k = 27 then (fun j => if j = 1 then 2 else if j = 2 then 4 else if j = 7 then 1 else 0) else if k = 2 ∨ k = 15 ∨ k = 28 then upd (upd (upd (upd (upd (upd (fun _ => 0) 0 0) 1 1) 2 2) 3 3) 4 4) 5 5 else if k = 5 ∨ k = 18 ∨ k = 31 then fillM (fun _ => 0) (-1) 10 else if kd k = 0 then (fun j => if j = 3 then 50 else 0) else if k = 54 then upd (upd (upd (upd (upd (upd (upd (upd (upd (fun _ => 0) 2 1) 4 2) 5 4) 7 0) 8 1) 9 2) 10 3) 11 4) 12 5 else fun _ => 0, 0)
def gA0 (q0 s1 s2 s3 : Nat) (r1 r2 r3 u : Nat → Nat) (q6 : Nat) (u6 : Nat → Nat) : Nat → Nat := fun k => if k = 0 then q0 else if k = 1 then s1 else if k < 14 then r1 (k - 1) else if k = 14 then s2 else if k < 27 then r2 (k - 14) else if k = 27 then s3 else if k < 40 then r3 (k - 27) else if k < 53 then u (k - 40) else if k = 53 then q6 else u6 (k - 54)
abbrev gI (g : GG) (q0 s1 s2 s3 : Nat) (r1 r2 r3 u : Nat → Nat) (q6 : Nat) (u6 : Nat → Nat) : GG := (g.1, g.2.1, gA0 q0 s1 s2 s3 r1 r2 r3 u q6 u6, g.2.2.2)
section ST0
variable {g : GG} {q0 s1 s2 s3 : Nat} {r1 r2 r3 u : Nat → Nat} {q6 : Nat} {u6 : Nat → Nat}
set_option maxHeartbeats 8000000 in
set_option maxRecDepth 100000 in
theorem w0_at : ∀ k, k < 64 → ∃ e, (ebI g q0 s1 s2 s3 r1 r2 r3 u ++ mdI g q6 u6)[k]? = some (gA (gI g q0 s1 s2 s3 r1 r2 r3 u q6 u6) k, e) := by
  intro k hk
  match k, hk with
  | 0, _ => exact ⟨_, rfl⟩
  | 1, _ => exact ⟨_, rfl⟩
  | 2, _ => exact ⟨_, rfl⟩
  | 3, _ => exact ⟨_, rfl⟩
  | 4, _ => exact ⟨_, rfl⟩
  | 5, _ => exact ⟨_, rfl⟩
  | 6, _ => exact ⟨_, rfl⟩
  | 7, _ => exact ⟨_, rfl⟩
  | 8, _ => exact ⟨_, rfl⟩
  | 9, _ => exact ⟨_, rfl⟩
  | 10, _ => exact ⟨_, rfl⟩
  | 11, _ => exact ⟨_, rfl⟩
  | 12, _ => exact ⟨_, rfl⟩
  | 13, _ => exact ⟨_, rfl⟩
  | 14, _ => exact ⟨_, rfl⟩
  | 15, _ => exact ⟨_, rfl⟩
  | 16, _ => exact ⟨_, rfl⟩
  | 17, _ => exact ⟨_, rfl⟩
  | 18, _ => exact ⟨_, rfl⟩
  | 19, _ => exact ⟨_, rfl⟩
  | 20, _ => exact ⟨_, rfl⟩
  | 21, _ => exact ⟨_, rfl⟩
  | 22, _ => exact ⟨_, rfl⟩
  | 23, _ => exact ⟨_, rfl⟩
  | 24, _ => exact ⟨_, rfl⟩
  | 25, _ => exact ⟨_, rfl⟩
  | 26, _ => exact ⟨_, rfl⟩
  | 27, _ => exact ⟨_, rfl⟩
  | 28, _ => exact ⟨_, rfl⟩
  | 29, _ => exact ⟨_, rfl⟩
  | 30, _ => exact ⟨_, rfl⟩
  | 31, _ => exact ⟨_, rfl⟩
  | 32, _ => exact ⟨_, rfl⟩
  | 33, _ => exact ⟨_, rfl⟩
  | 34, _ => exact ⟨_, rfl⟩
  | 35, _ => exact ⟨_, rfl⟩
  | 36, _ => exact ⟨_, rfl⟩
  | 37, _ => exact ⟨_, rfl⟩
  | 38, _ => exact ⟨_, rfl⟩
  | 39, _ => exact ⟨_, rfl⟩
  | 40, _ => exact ⟨_, rfl⟩
  | 41, _ => exact ⟨_, rfl⟩
  | 42, _ => exact ⟨_, rfl⟩
  | 43, _ => exact ⟨_, rfl⟩
  | 44, _ => exact ⟨_, rfl⟩
  | 45, _ => exact ⟨_, rfl⟩
  | 46, _ => exact ⟨_, rfl⟩
  | 47, _ => exact ⟨_, rfl⟩
  | 48, _ => exact ⟨_, rfl⟩
  | 49, _ => exact ⟨_, rfl⟩
  | 50, _ => exact ⟨_, rfl⟩
  | 51, _ => exact ⟨_, rfl⟩
  | 52, _ => exact ⟨_, rfl⟩
  | 53, _ => exact ⟨_, rfl⟩
  | 54, _ => exact ⟨_, rfl⟩
  | 55, _ => exact ⟨_, rfl⟩
  | 56, _ => exact ⟨_, rfl⟩
  | 57, _ => exact ⟨_, rfl⟩
  | 58, _ => exact ⟨_, rfl⟩
  | 59, _ => exact ⟨_, rfl⟩
  | 60, _ => exact ⟨_, rfl⟩
  | 61, _ => exact ⟨_, rfl⟩
  | 62, _ => exact ⟨_, rfl⟩
  | 63, _ => exact ⟨_, rfl⟩
  | k + 64, hk => exact absurd hk (by omega)
set_option maxHeartbeats 8000000 in
set_option maxRecDepth 100000 in
theorem w0_P {H : Heap} (h : va_P g.1 vwCl (ebI g q0 s1 s2 s3 r1 r2 r3 u ++ mdI g q6 u6) H) : va_P (gI g q0 s1 s2 s3 r1 r2 r3 u q6 u6).1 vwCl (wl (gI g q0 s1 s2 s3 r1 r2 r3 u q6 u6) 64 sv0) H := by
  intro k z hz
  obtain ⟨hk, -⟩ := wl_fst hz
  rw [wl_get hk] at hz
  cases hz
  match k, hk with
  | 0, _ => exact h 0 _ rfl
  | 1, _ => exact h 1 _ rfl
  | 2, _ => exact h 2 _ rfl
  | 3, _ => exact h 3 _ rfl
  | 4, _ =>
    have h9 := h 4 _ rfl
    refine at_ref h9 (fun j hj => ?_)
    match j, hj with
    | 0, _ => rfl
    | 1, _ => rfl
    | 2, _ => rfl
    | 3, _ => rfl
    | 4, _ => rfl
    | 5, _ => rfl
    | 6, _ => rfl
    | 7, _ => rfl
    | j + 8, hj => exact absurd hj (by omega)
  | 5, _ => exact h 5 _ rfl
  | 6, _ => exact h 6 _ rfl
  | 7, _ => exact h 7 _ rfl
  | 8, _ => exact h 8 _ rfl
  | 9, _ => exact h 9 _ rfl
  | 10, _ => exact h 10 _ rfl
  | 11, _ => exact h 11 _ rfl
  | 12, _ => exact h 12 _ rfl
  | 13, _ => exact h 13 _ rfl
  | 14, _ => exact h 14 _ rfl
  | 15, _ => exact h 15 _ rfl
  | 16, _ => exact h 16 _ rfl
  | 17, _ =>
    have h9 := h 17 _ rfl
    refine at_ref h9 (fun j hj => ?_)
    match j, hj with
    | 0, _ => rfl
    | 1, _ => rfl
    | 2, _ => rfl
    | 3, _ => rfl
    | 4, _ => rfl
    | 5, _ => rfl
    | 6, _ => rfl
    | 7, _ => rfl
    | j + 8, hj => exact absurd hj (by omega)
  | 18, _ => exact h 18 _ rfl
  | 19, _ => exact h 19 _ rfl
  | 20, _ => exact h 20 _ rfl
  | 21, _ => exact h 21 _ rfl
  | 22, _ => exact h 22 _ rfl
  | 23, _ => exact h 23 _ rfl
  | 24, _ => exact h 24 _ rfl
  | 25, _ => exact h 25 _ rfl
  | 26, _ => exact h 26 _ rfl
  | 27, _ => exact h 27 _ rfl
  | 28, _ => exact h 28 _ rfl
  | 29, _ => exact h 29 _ rfl
  | 30, _ =>
    have h9 := h 30 _ rfl
    refine at_ref h9 (fun j hj => ?_)
    match j, hj with
    | 0, _ => rfl
    | 1, _ => rfl
    | 2, _ => rfl
    | 3, _ => rfl
    | 4, _ => rfl
    | 5, _ => rfl
    | 6, _ => rfl
    | 7, _ => rfl
    | j + 8, hj => exact absurd hj (by omega)
  | 31, _ => exact h 31 _ rfl
  | 32, _ => exact h 32 _ rfl
  | 33, _ => exact h 33 _ rfl
  | 34, _ => exact h 34 _ rfl
  | 35, _ => exact h 35 _ rfl
  | 36, _ => exact h 36 _ rfl
  | 37, _ => exact h 37 _ rfl
  | 38, _ => exact h 38 _ rfl
  | 39, _ => exact h 39 _ rfl
  | 40, _ => exact h 40 _ rfl
  | 41, _ => exact h 41 _ rfl
  | 42, _ => exact h 42 _ rfl
  | 43, _ =>
    have h9 := h 43 _ rfl
    refine at_ref h9 (fun j hj => ?_)
    match j, hj with
    | 0, _ => rfl
    | 1, _ => rfl
    | 2, _ => rfl
    | 3, _ => rfl
    | j + 4, hj => exact absurd hj (by omega)
  | 44, _ => exact h 44 _ rfl
  | 45, _ => exact h 45 _ rfl
  | 46, _ => exact h 46 _ rfl
  | 47, _ => exact h 47 _ rfl
  | 48, _ => exact h 48 _ rfl
  | 49, _ => exact h 49 _ rfl
  | 50, _ => exact h 50 _ rfl
  | 51, _ => exact h 51 _ rfl
  | 52, _ => exact h 52 _ rfl
  | 53, _ => exact h 53 _ rfl
  | 54, _ => exact h 54 _ rfl
  | 55, _ => exact h 55 _ rfl
  | 56, _ => exact h 56 _ rfl
  | 57, _ => exact h 57 _ rfl
  | 58, _ => exact h 58 _ rfl
  | 59, _ => exact h 59 _ rfl
  | 60, _ => exact h 60 _ rfl
  | 61, _ => exact h 61 _ rfl
  | 62, _ => exact h 62 _ rfl
  | 63, _ => exact h 63 _ rfl
  | k + 64, hk => exact absurd hk (by omega)
end ST0
theorem rl_0 : Rl sv0 0 := by
  have c1 : ∀ j, j < 83 → 0 < j → j ≠ 2 → liv 0 j → ((stR sv0 1 j).toNatClampNeg < tp 0 j ∧ stR sv0 1 j = nI (stR sv0 1 j).toNatClampNeg) := by decide +kernel
  have c2 : ∀ j, j < 83 → liv 0 j → sv0.1 54 j = stR sv0 1 j := by decide +kernel
  refine ⟨⟨⟨by decide, by decide +kernel, fun j h0 h1 h2 h3 => ⟨_, (c1 j h1 h0 h2 h3).1, (c1 j h1 h0 h2 h3).2⟩⟩, fun j h1 h2 => c2 j h1 h2⟩, fun j hj => rfl, ⟨0, by decide, rfl, rfl, fun j hj => absurd hj (Nat.not_lt_zero j)⟩, fun s hs => ?_, rfl, Or.inl rfl, fun q => absurd q (by decide +kernel)⟩
  have h4 : s = 0 ∨ s = 1 ∨ s = 2 ∨ s = 3 := by omega
  rcases h4 with rfl | rfl | rfl | rfl <;> exact ⟨rfl, ⟨0, by decide, rfl, rfl⟩, fun i hi => rfl⟩
