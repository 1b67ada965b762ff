/-! more steps, and what the class's loops come to -/
section ROWS2
variable {g : GG} {n : Nat} {p : Program} {l : Launch} {e : Env} {R : Room} {s : State} {m : MethodId} {args : Array Value} {below : List Frame} {meth : Method} {c : Code} {H : Heap} {locs : List Loc} {cells slots : Nat} {Q : State → Prop} {cc : ByteArray} {nL : Nat} {ret : Option FieldType} {Ts : List Cond} {own : String} {pc : Nat} {ls : Array Slot} {rest : List Value} {v : SV}
theorem r_alen (C : Cx g n p s m meth c args cc nL ret Ts own) (hP : va_P g.1 vwCl (wl g n v) H) (k : Nat) (hk : k < n) (hkd : kd k = 8) {N : Nat} (hN : ln k = N) (hdg : decode cc pc = .ok (.arraylength, 1))
    (kk : W p l e R s m args below meth c H locs cells slots Q (F0 m (pc + 1) ls (.int (nI N) :: rest))) : W p l e R s m args below meth c H locs cells slots Q (F0 m pc ls (.ref (gA g k) :: rest)) := by
  obtain ⟨⟨hx, hb, hml, hown, hts⟩, ⟨-, hK, -⟩, -⟩ := C
  exact va_alen hx hb hK hP k 0 (wl_ia hk hkd) rfl (by rw [← hN]; rfl) hdg kk
theorem r_copy (C : Cx g n p s m meth c args cc nL ret Ts own) (hP : va_P g.1 vwCl (wl g n v) H) (hS : va_S (wA g n) s.heap H locs) (hl : ls.size = nL) (k0 k1 : Nat) (h0 : k0 < n) (h1 : k1 < n) (hd0 : kd k0 = 8) (hd1 : kd k1 = 8) (sp dp q : Nat) {N0 N1 : Nat} (hn0 : ln k0 = N0) (hn1 : ln k1 = N1) (hN0 : N0 ≤ 160) (hN1 : N1 ≤ 160) (hb0 : sp + q ≤ N0) (hb1 : dp + q ≤ N1) {isp idp iq : Int32} (e1 : isp = nI sp) (e2 : idp = nI dp) (e3 : iq = nI q) {index : Nat} (hlink : Cond.methodLink own index arraycopyName ∈ Ts) (hnat : Cond.native arraycopyName ∈ Ts) (hstat : Cond.static arraycopyName ∈ Ts) (hini : Cond.initialized "java/lang/System" ∈ Ts)
    (hframes : 1 ≤ R.frames) (hlocals : (rest.map fun v => v.category).sum + (nativeFrameWords "java/lang/System" "arraycopy" 5 + 11) ≤ R.locals) (hdg : decode cc pc = .ok (.invokestatic index, 3))
    (kk : ∀ (H : Heap) (locs : List Loc), va_P g.1 vwCl (wl g n (upw v k1 (va_cpy (v.1 k0) (v.1 k1) sp dp q))) H → va_S (wA g n) s.heap H locs → W p l e R s m args below meth c H locs cells slots Q (F0 m (pc + 3) ls rest)) : W p l e R s m args below meth c H locs cells slots Q (F0 m pc ls (.int iq :: .int idp :: .ref (gA g k1) :: .int isp :: .ref (gA g k0) :: rest)) := by
  obtain ⟨⟨hx, hb, hml, hown, hts⟩, ⟨hJ, hK, -⟩, -⟩ := C
  subst e1 e2 e3
  refine va_copyi hx hb (hml.trans hl.symm) hown (hts _ hlink) (hts _ hnat) (hts _ hstat) (hts _ hini) hK hP (wl_D hJ.1 v) hS k0 k1 0 0 (wl_ia h0 hd0) (wl_ia h1 hd1) rfl rfl rfl (nI_pos (by omega)) (nI_pos (by omega)) (nI_pos (by omega)) (by rw [nI_clamp (by omega), nI_clamp (by omega), hn0]; exact hb0) (by rw [nI_clamp (by omega), nI_clamp (by omega), hn1]; exact hb1) (fun i _ => rfl) hframes hlocals hdg (fun H1 locs1 h2 _ h3 => ?_)
  rw [nI_clamp (by omega), nI_clamp (by omega), nI_clamp (by omega), wl_setI h1 hd1] at h2
  exact kk H1 locs1 h2 h3
end ROWS2
theorem in_iffC {x K : Int32} (N : Nat) (hN : N ≤ 2 ^ 31) (hK : K.toInt = (N : Int) - 1) : ((0 : Int32) ≤ x ∧ x ≤ K) ↔ ∃ j : Nat, j < N ∧ x = nI j := by
  rw [fa_le, fa_le, hK, show (0 : Int32).toInt = 0 from rfl]
  constructor
  · intro h
    refine ⟨x.toInt.toNat, by omega, ?_⟩
    rw [fa_eq, nI_toInt (by omega)]
    omega
  · rintro ⟨j, h1, rfl⟩
    rw [nI_toInt (by omega)]
    omega
theorem in_iffC2 {x K M : Int32} (L N : Nat) (hN : N ≤ 2 ^ 31) (hM : M.toInt = (L : Int)) (hK : K.toInt = (N : Int) - 1) : (M ≤ x ∧ x ≤ K) ↔ ∃ j : Nat, L ≤ j ∧ j < N ∧ x = nI j := by
  rw [fa_le, fa_le, hK, hM]
  constructor
  · intro h
    refine ⟨x.toInt.toNat, by omega, by omega, ?_⟩
    rw [fa_eq, nI_toInt (by omega)]
    omega
  · rintro ⟨j, h0, h1, rfl⟩
    rw [nI_toInt (by omega)]
    omega
theorem pred_toInt (N : Nat) (h : N ≤ 8) : (nI N - 1).toInt = (N : Int) - 1 :=
  (by decide +kernel : ∀ N : Fin 9, (nI N.val - 1).toInt = (N.val : Int) - 1) ⟨N, by omega⟩
def fillM (r : Nat → Int32) (x : Int32) (i : Nat) : Nat → Int32 := fun j => if j < i then x else r j
theorem fillM_0 (r : Nat → Int32) (x : Int32) : fillM r x 0 = r := by funext j; simp [fillM]
theorem fillM_s (r : Nat → Int32) (x : Int32) (i : Nat) : upd (fillM r x i) i x = fillM r x (i + 1) := by
  funext j
  simp only [upd, fillM]
  by_cases h1 : j = i
  · subst h1; simp
  · rw [if_neg h1]
    by_cases h2 : j < i
    · rw [if_pos h2, if_pos (by omega)]
    · rw [if_neg h2, if_neg (by omega)]
theorem most_s (d : Nat → Int32) (i : Nat) : (if mostM d i < d (13 + i) then d (13 + i) else mostM d i) = mostM d (i + 1) := by
  rw [mostM]
  by_cases h : mostM d i < d (13 + i)
  · rw [if_pos h, if_neg (fa_lt_nle h)]
  · rw [if_neg h, if_pos (fa_nlt h)]
theorem rset_s0 {d : Nat → Int32} {i : Nat} (h : d (13 + i) ≤ 0) : rsetM d (i + 1) = rsetM d i := by rw [rsetM, if_pos h, or0]
theorem rset_s1 {d : Nat → Int32} {i : Nat} (h : ¬ d (13 + i) ≤ 0) : rsetM d (i + 1) = rsetM d i ||| 1 <<< (nI i &&& 31) := by rw [rsetM, if_neg h]
/-- a set of the first goods, by a number -/
def rsW (w : Nat) : Nat → Int32
  | 0 => 0
  | k + 1 => rsW w k ||| (if w.testBit k then 1 <<< (nI k &&& 31) else (0 : Int32))
def mnW (w : Nat) : Nat → Int32
  | 0 => 0
  | k + 1 => mnW w k + (if w.testBit k then 1 else 0)
theorem rs_mn : ∀ a, a < 64 → ∀ b, b < 64 → popF (rsW (64 * a + b) 12) = mnW (64 * a + b) 12 := by decide +kernel
theorem bits_of (P : Nat → Prop) : ∀ k, ∃ w, w < 2 ^ k ∧ ∀ j, j < k → (P j ↔ w.testBit j = true)
  | 0 => ⟨0, by decide, fun j h => absurd h (Nat.not_lt_zero j)⟩
  | k + 1 => by
    obtain ⟨w, hw, h⟩ := bits_of P k
    by_cases hp : P k
    · refine ⟨2 ^ k + w, by rw [Nat.pow_succ]; omega, fun j hj => ?_⟩
      by_cases e : j = k
      · subst e
        rw [Nat.testBit_two_pow_add_eq, Nat.testBit_lt_two_pow hw]
        exact ⟨fun _ => rfl, fun _ => hp⟩
      · rw [h j (by omega), Nat.testBit_two_pow_add_gt (by omega)]
    · refine ⟨w, by rw [Nat.pow_succ]; omega, fun j hj => ?_⟩
      by_cases e : j = k
      · subst e
        rw [Nat.testBit_lt_two_pow hw]
        exact ⟨fun h2 => absurd h2 hp, fun h2 => absurd h2 (by decide)⟩
      · exact h j (by omega)
theorem rset_w {d : Nat → Int32} {w : Nat} (h : ∀ j, j < 12 → (¬ d (13 + j) ≤ 0 ↔ w.testBit j = true)) : ∀ k, k ≤ 12 → rsetM d k = rsW w k ∧ manyM d k = mnW w k
  | 0, _ => ⟨rfl, rfl⟩
  | k + 1, hk => by
    obtain ⟨a, b⟩ := rset_w h k (by omega)
    have h1 := h k (by omega)
    rw [rsetM, rsW, manyM, mnW, a, b]
    by_cases h2 : d (13 + k) ≤ 0
    · have h3 : ¬ w.testBit k = true := fun e => (h1.mpr e) h2
      rw [if_pos h2, if_neg h3, if_pos h2, if_neg h3]; exact ⟨rfl, rfl⟩
    · have h3 := h1.mp h2
      rw [if_neg h2, if_pos h3, if_neg h2, if_pos h3]; exact ⟨rfl, rfl⟩
theorem pop_rset (d : Nat → Int32) : popF (rsetM d 12) = manyM d 12 := by
  obtain ⟨w, hw, h⟩ := bits_of (fun j => ¬ d (13 + j) ≤ 0) 12
  obtain ⟨a, b⟩ := rset_w (fun j hj => h j hj) 12 (by decide)
  rw [a, b]
  have h1 := rs_mn (w / 64) (by omega) (w % 64) (by omega)
  rw [show 64 * (w / 64) + w % 64 = w by omega] at h1
  exact h1
abbrev inG (x : Int32) (i : Nat) : Prop := (x >>> (nI i &&& 31)) &&& 1 = 1
def wbM (d : Nat → Int32) (x : Int32) : Nat → Int32
  | 0 => 0
  | i + 1 => if inG x i then wbM d x i ||| rowM d i 2 else wbM d x i
def saM (d : Nat → Int32) (x : Int32) : Nat → Nat → Int32
  | 0 => d
  | i + 1 => if inG x i then upd (saM d x i) (25 + 8 * 5 + i) 1 else saM d x i
theorem wb_1 {d : Nat → Int32} {x : Int32} {i : Nat} (h : inG x i) : wbM d x (i + 1) = wbM d x i ||| rowM d i 2 := if_pos h
theorem wb_0 {d : Nat → Int32} {x : Int32} {i : Nat} (h : ¬ inG x i) : wbM d x (i + 1) = wbM d x i := if_neg h
theorem sa_1 {d : Nat → Int32} {x : Int32} {i : Nat} (h : inG x i) : saM d x (i + 1) = upd (saM d x i) (25 + 8 * 5 + i) 1 := if_pos h
theorem sa_0 {d : Nat → Int32} {x : Int32} {i : Nat} (h : ¬ inG x i) : saM d x (i + 1) = saM d x i := if_neg h
theorem okC_sa {d : Nat → Int32} {N : Nat} {x : Int32} (h : okC d N) : ∀ i, i ≤ 8 → okC (saM d x i) N
  | 0, _ => h
  | i + 1, hi => by
    rw [saM]
    split
    · exact okC_res (m := 1) (okC_sa h i (by omega)) (by decide) (by omega) (by decide) rfl
    · exact okC_sa h i (by omega)
theorem come_1 {d : Nat → Int32} {x : Int32} {i : Nat} (h : comingM d i x) : comeM d x (i + 1) = comeM d x i ||| 1 <<< (nI i &&& 31) := by rw [comeM, cif_pos h]
theorem come_0 {d : Nat → Int32} {x : Int32} {i : Nat} (h : ¬ comingM d i x) : comeM d x (i + 1) = comeM d x i := by rw [comeM, cif_neg h, or0]
def hsM (d : Nat → Int32) : Nat → Int32
  | 0 => 0
  | i + 1 => if d (73 + i) - 1 = -1 then hsM d i else hsM d i + 1
theorem hs_1 {d : Nat → Int32} {i : Nat} (h : ¬ d (73 + i) - 1 = -1) : hsM d (i + 1) = hsM d i + 1 := if_neg h
theorem hs_0 {d : Nat → Int32} {i : Nat} (h : d (73 + i) - 1 = -1) : hsM d (i + 1) = hsM d i := if_pos h
/-- a street becomes another: all but those who are not there -/
def becM (d0 d : Nat → Int32) (N : Nat) : Nat → Int32 := fun j => if liv N j then d j else d0 j
theorem bec_agr (d0 d : Nat → Int32) (N : Nat) : agr N d (becM d0 d N) := fun j _ h => (if_pos h).symm
def ofcF (d : Nat → Int32) (x : Int32) : Int32 := if x = 0 then d 3 else if x = 1 then d 4 else d 5
def mvQ (d : Nat → Int32) (N : Nat) (x y : Int32) : Nat → Int32 := upd (upd (upd (upd (upd (upd d (25 + 8 * 0 + N) x) (25 + 8 * 1 + N) y) (25 + 8 * 2 + N) 0) (25 + 8 * 3 + N) 50) (25 + 8 * 4 + N) 0) (25 + 8 * 5 + N) 0
theorem st_row {w : SV} {k r : Nat} {d : Nat → Int32} {R : Nat → Int32} {j : Nat} {x : Int32} {D : Nat → Int32} (h : upw (stW w k d) (k + 5 + r) R = stW w k D) (hr : r < 8) (hj : j < 6) : upw (stW w k d) (k + 5 + r) (upd R j x) = stW w k (upd D (25 + 8 * j + r) x) := by
  rw [← upw_up, h]
  exact st_up (sl_5 hr hj) (by omega)
theorem st_mvIn {w : SV} {k N : Nat} {d : Nat → Int32} {x y : Int32} (hN : N < 8) : upw (stW w k d) (k + 5 + N) (mvInR ((stW w k d).1 (k + 5 + N)) x y) = stW w k (mvQ d N x y) :=
  st_row (st_row (st_row (st_row (st_row (st_row (upw_self _ _) hN (by decide)) hN (by decide)) hN (by decide)) hN (by decide)) hN (by decide)) hN (by decide)
theorem mvQ_0 {d : Nat → Int32} {N : Nat} {x y : Int32} : mvQ d N x y 0 = d 0 := by
  unfold mvQ
  rw [pk_un (by omega), pk_un (by omega), pk_un (by omega), pk_un (by omega), pk_un (by omega), pk_un (by omega)]
theorem mvQ_come {d : Nat → Int32} {N : Nat} {x y : Int32} : upd (mvQ d N x y) 0 (nI (N + 1)) = comesM d N x y := by
  unfold comesM
  congr 1
  funext j
  have e : zrM d N 6 = upd (upd (upd (upd (upd (upd d (25 + 8 * 0 + N) 0) (25 + 8 * 1 + N) 0) (25 + 8 * 2 + N) 0) (25 + 8 * 3 + N) 0) (25 + 8 * 4 + N) 0) (25 + 8 * 5 + N) 0 := rfl
  rw [e]
  unfold mvQ
  simp only [upd]
  by_cases h0 : j = 25 + 8 * 0 + N
  · subst h0
    simp only [if_neg (show ¬ 25 + 8 * 0 + N = 25 + 8 * 5 + N by omega), if_neg (show ¬ 25 + 8 * 0 + N = 25 + 8 * 4 + N by omega), if_neg (show ¬ 25 + 8 * 0 + N = 25 + 8 * 3 + N by omega), if_neg (show ¬ 25 + 8 * 0 + N = 25 + 8 * 2 + N by omega), if_neg (show ¬ 25 + 8 * 0 + N = 25 + 8 * 1 + N by omega), if_true]
  · by_cases h1 : j = 25 + 8 * 1 + N
    · subst h1
      simp only [if_neg (show ¬ 25 + 8 * 1 + N = 25 + 8 * 5 + N by omega), if_neg (show ¬ 25 + 8 * 1 + N = 25 + 8 * 4 + N by omega), if_neg (show ¬ 25 + 8 * 1 + N = 25 + 8 * 3 + N by omega), if_neg (show ¬ 25 + 8 * 1 + N = 25 + 8 * 2 + N by omega), if_true]
    · by_cases h3 : j = 25 + 8 * 3 + N
      · subst h3
        simp only [if_neg (show ¬ 25 + 8 * 3 + N = 25 + 8 * 5 + N by omega), if_neg (show ¬ 25 + 8 * 3 + N = 25 + 8 * 4 + N by omega), if_true]
      · simp only [if_neg h0, if_neg h1, if_neg h3]
