/-! the law: one call of each side -/
theorem rb_54 {v u : SV} (h : rsc v u) : u.1 54 = v.1 54 := h.2.1
theorem rb_M {v u : SV} {N : Nat} (hR : Rl v N) (h : rsc v u) : okM (u.1 54) N := by
  rw [h.2.1]
  exact okC_M (okC_agr (agr_symm hR.1.2) hR.1.1)
theorem rb_Sz {v u : SV} {N : Nat} (hR : Rl v N) (h : rsc v u) : ∀ i, i < 4 → ∃ z, z ≤ 40 ∧ u.1 61 i = nI z := fun i hi => by
  obtain ⟨z, h1, -, h3⟩ := (hR.2.2.2.1 i hi).2.1
  exact ⟨z, h1, by rw [h.1 61 (by decide) (by decide)]; exact h3⟩
theorem rb_Sp {v u : SV} {N : Nat} (hR : Rl v N) (h : rsc v u) : ∀ i, i < 10 → ∃ q, q ≤ 8 ∧ u.1 54 (73 + i) = nI q := fun i hi => by
  have hD : okC (v.1 54) N := okC_agr (agr_symm hR.1.2) hR.1.1
  have h8 := hD.1
  obtain ⟨q, h1, h2⟩ := hD.2.2 (73 + i) (by omega) (by omega) (by omega) (Or.inr (Or.inl (by omega)))
  rw [tp_spot] at h1
  exact ⟨q, by omega, by rw [h.2.1]; exact h2⟩
theorem rb_T {v u : SV} {N : Nat} (hR : Rl v N) (h : rsc v u) : ∃ T, T ≤ 120 ∧ u.1 53 7 = nI T := by
  obtain ⟨T, h1, h2, -⟩ := hR.2.2.1
  exact ⟨T, h1, by rw [h.2.2.1]; exact h2⟩
abbrev lwA (s : State) : Nat → Prop := fun q => s.heap.size ≤ q
def LC (g : GG) (b L : Nat) (xs : Nat → Int32) (p : Program) (s : State) (m : MethodId) (c : Code) : Prop :=
  CallFix p m c cL_law 4 s #[.ref b] wsL_law RL ∧ Zs g 64 s ∧ (∀ k, k < 64 → s.heap.size ≤ gA g k) ∧ va_X b L xs s s.heap ∧ b < s.heap.size
section LAW
variable {g : GG} {p : Program} {l : Launch} {e : Env} {s : State} {m : MethodId} {below : List Frame} {meth : Method} {c : Code} {H : Heap} {locs : List Loc} {cells slots : Nat} {Q : State → Prop} {pc : Nat} {ls : Array Slot} {v : SV} {b L : Nat} {xs : Nat → Int32}
theorem L_ld (C : LC g b L xs p s m c) (hS : va_S (lwA s) s.heap H locs) {i : Int32} {rest : List Value} (k : Nat) (hi : i = nI k) (hk : k < L) (hL : L ≤ 3072) (hdg : decode cL_law pc = .ok (.iaload, 1)) (kk : W p l e room_1 s m #[.ref b] below meth c H locs cells slots Q (F0 m (pc + 1) ls (.int (xs k) :: rest))) : W p l e room_1 s m #[.ref b] below meth c H locs cells slots Q (F0 m pc ls (.int i :: .ref b :: rest)) := by
  obtain ⟨⟨hx, hb, -⟩, -, -, hX, hbl⟩ := C
  subst hi
  refine va_sld hx hb hX hbl (fun z => absurd hbl (by have : s.heap.size ≤ b := z; omega)) hS (vp_in_nI hk (by omega)) hdg ?_
  rw [nI_clamp (by omega)]
  exact kk
theorem L_at (C : LC g b L xs p s m c) (hS : va_S (lwA s) s.heap H locs) {U : State} (hU : U.heap = H) (hW : s.WarmedH U.vm) : Zs g 64 U := by
  obtain ⟨-, ⟨z1, z2, z3, z4⟩, hf, -⟩ := C
  refine ⟨z1, z2.moved hW.alike, ?_, z4.warm hW⟩
  rw [hU]
  exact (z3.kept (fun a h5 _ => hS.2.1 a h5 (fun z => by have : s.heap.size ≤ a := z; omega))).moved hW.alike
theorem L_fr (C : LC g b L xs p s m c) : ∀ q, wA g 64 q → lwA s q := fun q ⟨k, hk, e⟩ => by
  rw [e]
  exact C.2.2.1 k hk
variable {y : MethodName} {bytes : ByteArray} {maxL na index : Nat} {cret : Option FieldType} {ws ws' : List Cond} {rm : Room} {Qc : Array Value → State → Outcome → State → Prop}
theorem L_run (C : LC g b L xs p s m c) (hP : va_P g.1 vwCl (wl g 64 v) H) (hS : va_S (lwA s) s.heap H locs) (hl : ls.size = 4) (k ci : Nat) (hk : k < 64) (hkd : kd k = ci) (hci : ci < 7) {Cn : String} {T : u_T} {N : Nat} (hc : vwCl[ci]? = some (Cn, T, N)) (As : List Value) (hM : Met l y ws rm (PW g 64 v (.ref (gA g k) :: As)) Qc 0 0 (wA g 64)) (hG : GoodIn wsL_law (wsV RL index Cn y ws)) (hC : y.cls = Cn) (hd : HdS y na) (hw : ws = Cond.code y bytes maxL cret :: ws') (hrm : rm.cells = 0 ∧ rm.slots = 0) (hR : RoomOk rm room_1 maxL) (hn : As.length = na) {st0 : List Value} (rest : List Value) (hst : st0 = As.reverse ++ .ref (gA g k) :: rest) (hW : (rest.map fun v => v.category).sum ≤ 8) (hdg : decode cL_law pc = .ok (.invokevirtual index, 3)) (hf : cells ≤ 600000 ∧ slots ≤ 7302250) :
    va_Run p l e room_1 s m #[.ref b] below meth c H locs cells slots 0 0 (F0 m pc ls st0) rest (Qc (Value.ref (gA g k) :: As).toArray) (wA g 64) :=
  va_runV C.1 hM (cwV na C.1.2.2.2.2 hG hw hrm.1 hrm.2 ⟨hC, hd⟩ hR) ⟨PW_blind g 64 v _, va_recv C.2.1.2.1 hP hc (wl_obj ci hk hkd hci), fun U hU hW => ⟨rfl, by rw [hU]; exact hP, L_at C hS hU hW⟩⟩ rfl hn hl hst (lv_room hW) hdg hf
theorem L_I {post : Int32 → SV → Prop} (C : LC g b L xs p s m c) (hS : va_S (lwA s) s.heap H locs) {a : Array Value} {st0 rest : List Value} (hr : va_Run p l e room_1 s m #[.ref b] below meth c H locs cells slots 0 0 (F0 m pc ls st0) rest (QI g 64 post a) (wA g 64))
    (kk : ∀ (r : Int32) (u : SV) (H : Heap) (locs : List Loc), post r u → va_P g.1 vwCl (wl g 64 u) H → va_S (lwA s) s.heap H locs → W p l e room_1 s m #[.ref b] below meth c H locs cells slots Q (F0 m (pc + 3) ls (.int r :: rest))) : W p l e room_1 s m #[.ref b] below meth c H locs cells slots Q (F0 m pc ls st0) := by
  refine va_calli hr hS (fun q _ h => L_fr C q h) (L_fr C) (fun r u t H1 locs1 ht _ hw hB _ _ hS1 => ?_)
  exact kk r u H1 locs1 hw (by rw [← ht]; exact hB.1) hS1
theorem L_J {post : Int64 → SV → Prop} (C : LC g b L xs p s m c) (hS : va_S (lwA s) s.heap H locs) {a : Array Value} {st0 rest : List Value} (hr : va_Run p l e room_1 s m #[.ref b] below meth c H locs cells slots 0 0 (F0 m pc ls st0) rest (QL g 64 post a) (wA g 64))
    (kk : ∀ (r : Int64) (u : SV) (H : Heap) (locs : List Loc), post r u → va_P g.1 vwCl (wl g 64 u) H → va_S (lwA s) s.heap H locs → W p l e room_1 s m #[.ref b] below meth c H locs cells slots Q (F0 m (pc + 3) ls (.long r :: rest))) : W p l e room_1 s m #[.ref b] below meth c H locs cells slots Q (F0 m pc ls st0) := by
  refine va_calll hr hS (fun q _ h => L_fr C q h) (L_fr C) (fun r u t H1 locs1 ht _ hw hB _ _ hS1 => ?_)
  exact kk r u H1 locs1 hw (by rw [← ht]; exact hB.1) hS1
theorem L_F {F : Int32} {G : SV} (C : LC g b L xs p s m c) (hS : va_S (lwA s) s.heap H locs) {a : Array Value} {st0 rest : List Value} (hr : va_Run p l e room_1 s m #[.ref b] below meth c H locs cells slots 0 0 (F0 m pc ls st0) rest (QF g 64 F G a) (wA g 64))
    (kk : ∀ (H : Heap) (locs : List Loc), va_P g.1 vwCl (wl g 64 G) H → va_S (lwA s) s.heap H locs → W p l e room_1 s m #[.ref b] below meth c H locs cells slots Q (F0 m (pc + 3) ls (.int F :: rest))) : W p l e room_1 s m #[.ref b] below meth c H locs cells slots Q (F0 m pc ls st0) :=
  L_I C hS hr (fun r u H locs h hP hS => by obtain ⟨rfl, rfl⟩ := h; exact kk H locs hP hS)
theorem L_FJ {F : Int64} {G : SV} (C : LC g b L xs p s m c) (hS : va_S (lwA s) s.heap H locs) {a : Array Value} {st0 rest : List Value} (hr : va_Run p l e room_1 s m #[.ref b] below meth c H locs cells slots 0 0 (F0 m pc ls st0) rest (QJ g 64 F G a) (wA g 64))
    (kk : ∀ (H : Heap) (locs : List Loc), va_P g.1 vwCl (wl g 64 G) H → va_S (lwA s) s.heap H locs → W p l e room_1 s m #[.ref b] below meth c H locs cells slots Q (F0 m (pc + 3) ls (.long F :: rest))) : W p l e room_1 s m #[.ref b] below meth c H locs cells slots Q (F0 m pc ls st0) :=
  L_J C hS hr (fun r u H locs h hP hS => by obtain ⟨rfl, rfl⟩ := h; exact kk H locs hP hS)
theorem L_text (C : LC g b L xs p s m c) {N : Nat} (hR : Rl v N) (hP : va_P g.1 vwCl (wl g 64 v) H) (hS : va_S (lwA s) s.heap H locs) (hl : ls.size = 4) (hdg : decode cL_law pc = .ok (.invokevirtual 138, 3)) (hf : cells + 1 ≤ 600000 ∧ slots + 4 ≤ 7302250)
    (kk : ∀ (r : Int32) (u : SV) (H : Heap) (locs : List Loc), (Ps r (textM u) ∧ rsc v u) → va_P g.1 vwCl (wl g 64 u) H → va_S (lwA s) s.heap H locs → W p l e room_1 s m #[.ref b] below meth c H locs (cells + 1) (slots + 4) Q (F0 m (pc + 3) ls [.int r])) : W p l e room_1 s m #[.ref b] below meth c H locs cells slots Q (F0 m pc ls [.ref (gA g 0)]) := by
  have hM := kX5_text l g v N hR H.size
  have hpre : PreV s H RX5 (gA g 0) (fun a s => PW g 64 v [.ref (gA g 0)] a s ∧ s.heap.size = H.size) [] := ⟨fun a U f mk h => ⟨PW_blind g 64 v _ a U f mk h.1, h.2⟩, va_recv (q := (RX5, TX5, 8)) C.2.1.2.1 hP rfl (wl_obj 5 (by decide) rfl (by decide)), fun U hU hW => ⟨⟨rfl, by rw [hU]; exact hP, L_at C hS hU hW⟩, by rw [hU]⟩⟩
  have hfr : ∀ q, (wA g 64 q ∨ H.size ≤ q) → lwA s q := fun q h => h.elim (L_fr C q) (fun z => Nat.le_trans hS.1 z)
  refine va_calli (va_runV C.1 hM (cwV 0 C.1.2.2.2.2 gL_law_X5_text rfl rfl rfl ⟨rfl, hdX5_text⟩ ⟨Nat.le_of_ble_eq_true rfl, Nat.le_of_ble_eq_true rfl⟩) hpre rfl rfl hl rfl (lv_room (Nat.le_of_ble_eq_true rfl)) hdg hf) hS (fun q _ h => hfr q h) hfr (fun r u t H1 locs1 ht _ hw hB _ _ hS1 => ?_)
  exact kk r u H1 locs1 hw (by rw [← ht]; exact hB.1) hS1
end LAW
theorem lim6 {L t : Nat} (hL : L ≤ 3072) (ht : t ≤ 600) : (nI L - 6 < nI (6 * t)) ↔ L < 6 * t + 6 := by
  rw [fa_lt, show (6 : Int32) = nI 6 from rfl, pk_sub_toInt (by omega) (by decide), nI_toInt (by omega)]
  omega
