/-! worlds that grow: constructors -/
def Nw2 (g : GG) (U : State) : Prop := Nws g U ∧ va_AO "EmptyBarrow$Resident" U ∧ va_AO "EmptyBarrow$Sheet" U
theorem Nw2.warm {g : GG} {s U : State} (hW : s.WarmedH U.vm) (h : Nw2 g s) : Nw2 g U := ⟨h.1.warm hW, h.2.1.moved hW.alike, h.2.2.moved hW.alike⟩
theorem Nw2.same {g : GG} {u U : State} (hv : u.vm = U.vm) (h : Nw2 g u) : Nw2 g U := by
  obtain ⟨h1, h2, h3⟩ := h
  refine ⟨h1.same hv, ?_, ?_⟩
  · exact h2.moved (by rw [hv]; exact Vm.Alike.refl U.vm)
  · exact h3.moved (by rw [hv]; exact Vm.Alike.refl U.vm)
def PIn (g : GG) (N0 a : Nat) (e : va_E) (av : List Value) : Array Value → State → Prop := va_Pc av (fun U => U.heap.size = N0 ∧ va_P g.1 vwCl [(a, e)] U.heap ∧ va_K g.1 vwCl (tyG g) U ∧ Nw2 g U)
def QIn (g : GG) (N0 a : Nat) (e : va_E) (Sp : va_W → Prop) : Array Value → State → Outcome → State → Prop := va_Qv (S := va_W) Sp (fun w t => va_P g.1 vwCl w t.heap ∧ va_D (va_A [(a, e)] N0) w) (va_A [(a, e)] N0)
theorem PIn_blind (g : GG) (N0 a : Nat) (e : va_E) (av : List Value) : FrameBlind (PIn g N0 a e av) := by
  intro ar U f mk h
  obtain ⟨h0, h1, h2, h3, h4⟩ := h
  exact ⟨h0, h1, h2, h3.moved (u := U) (U := U.calling f mk ar) (Vm.Alike.refl U.vm), h4.same (u := U) (U := U.calling f mk ar) rfl⟩
def Ci (g : GG) (p : Program) (s : State) (m : MethodId) (meth : Method) (c : Code) (args : Array Value) (cc : ByteArray) (nL : Nat) (Ts : List Cond) (own : String) : Prop :=
  CallFix p m c cc nL s args Ts own ∧ (va_K g.1 vwCl (tyG g) s ∧ Nw2 g s) ∧ meth.sig.returnType = none ∧ meth.locks = false ∧ (own = RJ7 ∨ meth.name = "<init>")
theorem Met.beginI {l : Launch} {y : MethodName} {ws' : List Cond} {rm : Room} {g : GG} {N0 a : Nat} {e0 : va_E} {av : List Value} {Sp : va_W → Prop} {mc ms : Nat} {cc : ByteArray} {maxL : Nat} {ws : List Cond} (own : String)
    (hw : ws = Cond.code y cc maxL none :: ws') (hy : plainName y.cls = true) (ho : y.cls = own) (hnm : own = RJ7 ∨ y.name = "<init>") (hs : (lg_sl av).length ≤ maxL)
    (body : ∀ (p : Program) (e : Env) (s : State) (m : MethodId) (args : Array Value) (below : List Frame) (meth : Method) (c : Code) (ls : Array Slot) (A : Nat → Prop), args = av.toArray → Ci g p s m meth c args cc maxL ws own → A = va_A [(a, e0)] N0 → s.heap.size = N0 → va_P g.1 vwCl ((a, e0) :: ([] ++ [])) s.heap → va_D A ((a, e0) :: ([] ++ [])) → va_S A s.heap s.heap [] → (∀ q : Nat, s.heap.size ≤ q → A q) → lv_has ls maxL (lv_args 0 av) →
      W p l e rm s m args below meth c s.heap [] 0 0 (MQ below (QIn g N0 a e0 Sp) args s mc ms A) (F0 m 0 ls [])) : Met l y ws rm (PIn g N0 a e0 av) (QIn g N0 a e0 Sp) mc ms (va_A [(a, e0)] N0) := by
  subst hw
  refine Met.ofW (cc := cc) (maxL := maxL) (ret := none) hy rfl ?_
  intro p e s m args below meth c s₁ B hml hv
  obtain ⟨ha, hsz, hP, hK, hN⟩ := hv
  have hts := atoms_spec (ws := Cond.code y cc maxL none :: ws') B.pre
  have hown : s.vm.findClass own = some m.cls := ho ▸ findClass_of_methodNamed B.named
  have hin : own = RJ7 ∨ meth.name = "<init>" := hnm.imp id (fun h => (name_of_methodNamed B.named B.method).1.trans h)
  subst ha
  rw [lg_entry_eq]
  refine body p e s m _ below meth c _ _ rfl ⟨⟨B.exec, B.bytes, hml, hown, hts⟩, ⟨hK, hN⟩, B.returns, B.notSynchronized, hin⟩ rfl hsz hP ?_ va_S.rf (fun q h => Or.inr (by rw [← hsz]; exact h)) (lv_entry av hs)
  refine ⟨fun i j x y hi hj _ => ?_, fun k q hk => Or.inl ⟨k, q.2, hk⟩⟩
  have h1 := (List.getElem?_eq_some_iff.mp hi).1
  have h2 := (List.getElem?_eq_some_iff.mp hj).1
  simp at h1 h2
  omega
theorem tw_at {x y : Nat × va_E} {tl L : va_W} {j : Nat} (h : L[j]? = some y) : (x :: (tl ++ L))[tl.length + 1 + j]? = some y := by
  rw [show tl.length + 1 + j = (tl.length + j) + 1 by omega, List.getElem?_cons_succ, List.getElem?_append_right (by omega), show tl.length + j - tl.length = j by omega]
  exact h
theorem tw_set {x z : Nat × va_E} {tl L : va_W} {j : Nat} : (x :: (tl ++ L)).set (tl.length + 1 + j) z = x :: (tl ++ L.set j z) := by
  rw [show tl.length + 1 + j = (tl.length + j) + 1 by omega, List.set_cons_succ, List.set_append_right _ _ (by omega), show tl.length + j - tl.length = j by omega]
theorem tw_app {x z : Nat × va_E} {tl L : va_W} : (x :: (tl ++ L)) ++ [z] = x :: (tl ++ (L ++ [z])) := by simp
theorem tw_join {A0 : Nat → Prop} {D : va_G} {cl : List vw_C} {Rr w1 : va_W} {q : Nat} {e0 : va_E} {H H1 : Heap} (hP : va_P D cl (Rr ++ [(q, e0)]) H) (hD : va_D A0 (Rr ++ [(q, e0)])) (hk : ∀ r : Nat, r < H.size → ¬ va_A [(q, e0)] H.size r → H1[r]? = H[r]?) (hF : ∀ r, va_A [(q, e0)] H.size r → A0 r) (hP1 : va_P D cl w1 H1) (hD1 : va_D (va_A [(q, e0)] H.size) w1) : va_P D cl (Rr ++ w1) H1 ∧ va_D A0 (Rr ++ w1) := by
  have hq : (Rr ++ [(q, e0)])[Rr.length]? = some (q, e0) := by rw [List.getElem?_append_right (Nat.le_refl _), Nat.sub_self]; rfl
  have hsub : ∀ (k : Nat) (x : Nat × va_E), Rr[k]? = some x → (Rr ++ [(q, e0)])[k]? = some x ∧ k < Rr.length := fun k x hx => by
    have h1 := (List.getElem?_eq_some_iff.mp hx).1
    exact ⟨by rw [List.getElem?_append_left h1]; exact hx, h1⟩
  have hne : ∀ (k : Nat) (x : Nat × va_E), Rr[k]? = some x → ¬ va_A [(q, e0)] H.size x.1 := fun k x hx h => by
    obtain ⟨h1, h2⟩ := hsub k x hx
    rcases h with ⟨j, e, hj⟩ | h
    · have hj0 : j = 0 := by have := (List.getElem?_eq_some_iff.mp hj).1; simp at this; omega
      subst hj0
      have e1 : (q, e0) = (x.1, e) := Option.some.inj hj
      have := hD.1 k Rr.length x (q, e0) h1 hq (by rw [Prod.mk.inj e1 |>.1])
      omega
    · have := (hP k x h1).lt
      omega
  refine ⟨va_P.app (fun k x hx => ?_) hP1, va_D.app ⟨fun i j x y hi hj e => ?_, fun k x hx => hD.2 k x (hsub k x hx).1⟩ (hD1.weaken (fun k x _ h => hF _ h)) (fun i j x y hi hj e => ?_)⟩
  · obtain ⟨h1, h2⟩ := hsub k x hx
    exact (hP k x h1).kept (hk x.1 (hP k x h1).lt (hne k x hx))
  · exact hD.1 i j x y (hsub i x hi).1 (hsub j y hj).1 e
  · exact hne i x hi (by rw [e]; exact hD1.2 j y hj)
section ROWS5
variable {g : GG} {p : Program} {l : Launch} {e : Env} {R : Room} {s : State} {m : MethodId} {args : Array Value} {below : List Frame} {meth : Method} {c : Code} {H : Heap} {locs : List Loc} {cells slots : Nat} {Q : State → Prop} {cc : ByteArray} {nL : Nat} {Ts : List Cond} {own : String} {pc : Nat} {ls : Array Slot} {rest : List Value} {A : Nat → Prop} {x : Nat × va_E} {tl L : va_W}
theorem n_obj (C : Ci g p s m meth c args cc nL Ts own) (hl : ls.size = nL) {idx a : Nat} (h1 : Cond.methodLink own idx objectInit ∈ Ts) (h2 : Cond.instanceMethod objectInit ∈ Ts) (h3 : Cond.code objectInit ⟨#[0xb1]⟩ 1 none ∈ Ts) (hW : (rest.map fun v => v.category).sum ≤ 8) (hf : 1 ≤ R.frames) (hr : 20 ≤ R.locals) (hdg : decode cc pc = .ok (.invokespecial idx, 3)) (kk : W p l e R s m args below meth c H locs cells slots Q (F0 m (pc + 3) ls rest)) : W p l e R s m args below meth c H locs cells slots Q (F0 m pc ls (.ref a :: rest)) := by
  obtain ⟨⟨hx, hb, hml, hown, hts⟩, -⟩ := C
  refine W.objInit hx hb hown (hts _ h1) (hts _ h2) (hts _ h3) rfl (by rw [hml]; exact hl) rfl hdg hf ?_ (W.eq (g2 := F0 m (pc + 3) ls rest) rfl kk)
  show 2 * 0 + _ + 12 ≤ R.locals
  omega
theorem n_put (C : Ci g p s m meth c args cc nL Ts own) {a : Nat} {ci : Nat} {fs : List Value} (hP : va_P g.1 vwCl ((a, .inr (ci, fs)) :: (tl ++ L)) H) (hD : va_D A ((a, .inr (ci, fs)) :: (tl ++ L))) (hS : va_S A s.heap H locs) {Cn : String} {T : u_T} {N : Nat} (hc : vwCl[ci]? = some (Cn, T, N)) (hin : ∀ w ∈ u_ws Cn T N, w ∈ Ts) (ty0 : Nat → FieldType) (hty : ∀ k, k < N → parseFieldDescriptor (T k).2.2.1 = some (ty0 k)) (hnm : ∀ a, a < N → ∀ b, b < N → a ≠ b → (T a).2.1 ≠ (T b).2.1) {index : Nat} (j : Nat) (hj : j < N) {ref : String} (hlink : Cond.fieldLink own index ref (T j).2.1 (T j).2.2.1 ∈ Ts) (hsame : (T j).1 = ref) (hdecl : (T j).1 = own) (hJ : own ≠ RJ7) {v : Value} (hn : narrow (ty0 j) v = v) (hfit : fits (ty0 j) v = true) (hl : j < fs.length) (fs' : List Value) (hset : fs.set j v = fs') (hdg : decode cc pc = .ok (.putfield index, 3))
    (kk : ∀ (H : Heap) (locs : List Loc), va_P g.1 vwCl ((a, .inr (ci, fs')) :: (tl ++ L)) H → va_D A ((a, .inr (ci, fs')) :: (tl ++ L)) → va_S A s.heap H locs → W p l e R s m args below meth c H locs cells slots Q (F0 m (pc + 3) ls rest)) : W p l e R s m args below meth c H locs cells slots Q (F0 m pc ls (v :: .ref a :: rest)) := by
  obtain ⟨⟨hx, hb, hml, hown, hts⟩, ⟨hK, -⟩, -, -, hin2⟩ := C
  subst hset
  cases hfin : (T j).2.2.2 with
  | false => exact va_put hx hb hts hin ty0 hty hnm hown hK hP hD hS 0 rfl hc j hj (hts _ hlink) (fun x h => by rw [← hsame]; exact h) hfin (hty j hj) hn hfit hl hdg kk
  | true => exact va_putF hx hb hts hin ty0 hty hnm hown hK hP hD hS 0 rfl hc j hj (hts _ hlink) (fun x h => by rw [← hsame]; exact h) hfin (hin2.resolve_left hJ) hdecl (hty j hj) hn hfit hl hdg kk
theorem n_get (C : Ci g p s m meth c args cc nL Ts own) {a : Nat} {ci : Nat} {fs : List Value} (hP : va_P g.1 vwCl ((a, .inr (ci, fs)) :: (tl ++ L)) H) {Cn : String} {T : u_T} {N : Nat} (hc : vwCl[ci]? = some (Cn, T, N)) (hin : ∀ w ∈ u_ws Cn T N, w ∈ Ts) {index : Nat} (j : Nat) (hj : j < N) {ref : String} (hlink : Cond.fieldLink own index ref (T j).2.1 (T j).2.2.1 ∈ Ts) (hsame : (T j).1 = ref) {val : Value} (hv : fs[j]? = some val) (hdg : decode cc pc = .ok (.getfield index, 3))
    (kk : W p l e R s m args below meth c H locs cells slots Q (F0 m (pc + 3) ls (val :: rest))) : W p l e R s m args below meth c H locs cells slots Q (F0 m pc ls (.ref a :: rest)) := by
  obtain ⟨⟨hx, hb, hml, hown, hts⟩, ⟨hK, -⟩, -⟩ := C
  exact va_get hx hb hts hin hown hK hP 0 rfl hc j hj (hts _ hlink) (fun x h => by rw [← hsame]; exact h) hv hdg kk
theorem n_new (C : Ci g p s m meth c args cc nL Ts own) (hP : va_P g.1 vwCl (x :: (tl ++ L)) H) (hD : va_D A (x :: (tl ++ L))) (hS : va_S A s.heap H locs) (hA : ∀ q : Nat, s.heap.size ≤ q → A q) {ci : Nat} {Cn : String} {T : u_T} {N : Nat} (hc : vwCl[ci]? = some (Cn, T, N)) (hin : ∀ w ∈ u_ws Cn T N, w ∈ Ts) (ty0 : Nat → FieldType) (hty : ∀ k, k < N → parseFieldDescriptor (T k).2.2.1 = some (ty0 k)) {index : Nat} (hcl : Cond.classLink own index Cn ∈ Ts) (hinst : Cond.instantiable Cn N ∈ Ts) (hini : Cond.initialized Cn ∈ Ts) {fs : List Value} (hfs : ∀ j, j < N → defaultValue (ty0 j) = vp_V fs j) (hcells : cells + 1 ≤ R.cells) (hslots : slots + N ≤ R.slots) (hdg : decode cc pc = .ok (.new index, 3))
    (kk : ∀ (q : Nat) (H : Heap), va_P g.1 vwCl (x :: (tl ++ (L ++ [(q, .inr (ci, fs))]))) H → va_D A (x :: (tl ++ (L ++ [(q, .inr (ci, fs))]))) → va_S A s.heap H locs → W p l e R s m args below meth c H locs (cells + 1) (slots + N) Q (F0 m (pc + 3) ls (.ref q :: rest))) : W p l e R s m args below meth c H locs cells slots Q (F0 m pc ls rest) := by
  obtain ⟨⟨hx, hb, hml, hown, hts⟩, ⟨hK, -⟩, -⟩ := C
  refine va_new hx hb hts hin ty0 hty hown (hts _ hcl) (hts _ hinst) (hts _ hini) hK hP hD hS hA hc hfs hcells hslots hdg (fun q H1 h1 h2 h3 => ?_)
  rw [tw_app] at h1 h2
  exact kk q H1 h1 h2 h3
theorem n_newI (C : Ci g p s m meth c args cc nL Ts own) (hP : va_P g.1 vwCl (x :: (tl ++ L)) H) (hD : va_D A (x :: (tl ++ L))) (hS : va_S A s.heap H locs) (hA : ∀ q : Nat, s.heap.size ≤ q → A q) (harr : Cond.arrayClass .int ∈ Ts) (N : Nat) (hN : N ≤ 160) {i : Int32} (hi : i = nI N) (hcells : cells + 1 ≤ R.cells) (hslots : slots + N ≤ R.slots) (hdg : decode cc pc = .ok (.newarray .int, 2))
    (kk : ∀ (q : Nat) (H : Heap), va_P g.1 vwCl (x :: (tl ++ (L ++ [(q, .inl (g.2.1.1.1, N, .inl (fun _ => 0)))]))) H → va_D A (x :: (tl ++ (L ++ [(q, .inl (g.2.1.1.1, N, .inl (fun _ => 0)))]))) → va_S A s.heap H locs → W p l e R s m args below meth c H locs (cells + 1) (slots + N) Q (F0 m (pc + 2) ls (.ref q :: rest))) : W p l e R s m args below meth c H locs cells slots Q (F0 m pc ls (.int i :: rest)) := by
  obtain ⟨⟨hx, hb, hml, hown, hts⟩, ⟨hK, -⟩, -⟩ := C
  subst hi
  refine va_newa (atype := .int) (ty := .int) (a0 := (N, .inl (fun _ => 0))) hx hb (hts _ harr) rfl hK hP hD hS hA (fun cA => rfl) (fun z => absurd (nI_pos' (show N < 2 ^ 31 by omega)) (fa_lt_nle z)) (nI_clamp (by omega)) (by show N * 4 ≤ _; omega) hcells hslots hdg (fun q cA H1 k1 h1 h2 h3 => ?_)
  have e1 : cA = g.2.1.1.1 := by
    have q1 := (k1.2 4 (cA, .int) rfl).2
    have q2 := (k1.2 0 (g.2.1.1.1, .int) rfl).2
    exact Option.some.inj (q1.symm.trans q2)
  subst e1
  rw [tw_app] at h1 h2
  exact kk q H1 h1 h2 h3
theorem n_newB (C : Ci g p s m meth c args cc nL Ts own) (hP : va_P g.1 vwCl (x :: (tl ++ L)) H) (hD : va_D A (x :: (tl ++ L))) (hS : va_S A s.heap H locs) (hA : ∀ q : Nat, s.heap.size ≤ q → A q) (harr : Cond.arrayClass .byte ∈ Ts) (N : Nat) (hN : N ≤ 160) {i : Int32} (hi : i = nI N) (hcells : cells + 1 ≤ R.cells) (hslots : slots + N ≤ R.slots) (hdg : decode cc pc = .ok (.newarray .byte, 2))
    (kk : ∀ (q : Nat) (H : Heap), va_P g.1 vwCl (x :: (tl ++ (L ++ [(q, .inl (g.2.1.1.2, N, .inl (fun _ => 0)))]))) H → va_D A (x :: (tl ++ (L ++ [(q, .inl (g.2.1.1.2, N, .inl (fun _ => 0)))]))) → va_S A s.heap H locs → W p l e R s m args below meth c H locs (cells + 1) (slots + N) Q (F0 m (pc + 2) ls (.ref q :: rest))) : W p l e R s m args below meth c H locs cells slots Q (F0 m pc ls (.int i :: rest)) := by
  obtain ⟨⟨hx, hb, hml, hown, hts⟩, ⟨hK, -⟩, -⟩ := C
  subst hi
  refine va_newa (atype := .byte) (ty := .byte) (a0 := (N, .inl (fun _ => 0))) hx hb (hts _ harr) rfl hK hP hD hS hA (fun cA => rfl) (fun z => absurd (nI_pos' (show N < 2 ^ 31 by omega)) (fa_lt_nle z)) (nI_clamp (by omega)) (by show N * 1 ≤ _; omega) hcells hslots hdg (fun q cA H1 k1 h1 h2 h3 => ?_)
  have e1 : cA = g.2.1.1.2 := by
    have q1 := (k1.2 4 (cA, .byte) rfl).2
    have q2 := (k1.2 1 (g.2.1.1.2, .byte) rfl).2
    exact Option.some.inj (q1.symm.trans q2)
  subst e1
  rw [tw_app] at h1 h2
  exact kk q H1 h1 h2 h3
theorem n_newQ (C : Ci g p s m meth c args cc nL Ts own) (hP : va_P g.1 vwCl (x :: (tl ++ L)) H) (hD : va_D A (x :: (tl ++ L))) (hS : va_S A s.heap H locs) (hA : ∀ q : Nat, s.heap.size ≤ q → A q) {index : Nat} {Cn : String} (hcl : Cond.classLink own index Cn ∈ Ts) (hover : va_AO Cn s) (t0 : Nat) {cR : ClassId} (ht0 : (tyG g)[t0]? = some (cR, .object Cn)) (N : Nat) (hN : N ≤ 160) {i : Int32} (hi : i = nI N) (hcells : cells + 1 ≤ R.cells) (hslots : slots + N ≤ R.slots) (hdg : decode cc pc = .ok (.anewarray index, 3))
    (kk : ∀ (q : Nat) (H : Heap), va_P g.1 vwCl (x :: (tl ++ (L ++ [(q, .inl (cR, N, .inr (.inr (.inr (.inr (fun _ => none))))))]))) H → va_D A (x :: (tl ++ (L ++ [(q, .inl (cR, N, .inr (.inr (.inr (.inr (fun _ => none))))))]))) → va_S A s.heap H locs → W p l e R s m args below meth c H locs (cells + 1) (slots + N) Q (F0 m (pc + 3) ls (.ref q :: rest))) : W p l e R s m args below meth c H locs cells slots Q (F0 m pc ls (.int i :: rest)) := by
  obtain ⟨⟨hx, hb, hml, hown, hts⟩, ⟨hK, -⟩, -⟩ := C
  subst hi
  refine va_newq hx hb hown (hts _ hcl) hover hK hP hD hS hA (fun z => absurd (nI_pos' (show N < 2 ^ 31 by omega)) (fa_lt_nle z)) (nI_clamp (by omega)) (by omega) hcells hslots hdg (fun q cA H1 k1 h1 h2 h3 => ?_)
  have e1 : cA = cR := by
    obtain ⟨-, -, -, -, -, q1⟩ := (k1.2 4 (cA, .object Cn) rfl).2
    obtain ⟨-, -, -, -, -, q2⟩ := (hK.2 t0 (cR, .object Cn) ht0).2
    exact Option.some.inj (q1.symm.trans q2)
  subst e1
  rw [tw_app] at h1 h2
  exact kk q H1 h1 h2 h3
theorem n_iast (C : Ci g p s m meth c args cc nL Ts own) (hP : va_P g.1 vwCl (x :: (tl ++ L)) H) (hD : va_D A (x :: (tl ++ L))) (hS : va_S A s.heap H locs) (j : Nat) {a N : Nat} {f : Nat → Int32} (hj : L[j]? = some (a, .inl (g.2.1.1.1, N, .inl f))) {i v : Int32} (k : Nat) (hi : i = nI k) (hk : k < N) (hN : N ≤ 160) (L' : va_W) (hL : L.set j (a, .inl (g.2.1.1.1, N, .inl (upd f k v))) = L') (hdg : decode cc pc = .ok (.iastore, 1))
    (kk : ∀ (H : Heap) (locs : List Loc), va_P g.1 vwCl (x :: (tl ++ L')) H → va_D A (x :: (tl ++ L')) → va_S A s.heap H locs → W p l e R s m args below meth c H locs cells slots Q (F0 m (pc + 1) ls rest)) : W p l e R s m args below meth c H locs cells slots Q (F0 m pc ls (.int v :: .int i :: .ref a :: rest)) := by
  obtain ⟨⟨hx, hb, hml, hown, hts⟩, ⟨hK, -⟩, -⟩ := C
  subst hi
  refine va_iast hx hb hK hP hD hS (tl.length + 1 + j) 0 (tw_at hj) rfl (vp_in_nI hk (by omega)) hdg (fun H1 locs1 h1 h2 h3 => ?_)
  rw [tw_set, nI_clamp (by omega), hL] at h1 h2
  exact kk H1 locs1 h1 h2 h3
theorem n_aast (C : Ci g p s m meth c args cc nL Ts own) (hP : va_P g.1 vwCl (x :: (tl ++ L)) H) (hD : va_D A (x :: (tl ++ L))) (hS : va_S A s.heap H locs) (j jk t0 ci : Nat) {a b N : Nat} {cR : ClassId} {r : vw_C} {vs : List Value} {f : Nat → Option Nat} (hj : L[j]? = some (a, .inl (cR, N, .inr (.inr (.inr (.inr f)))))) (ht0 : (tyG g)[t0]? = some (cR, .object r.1)) (hjk : L[jk]? = some (b, .inr (ci, vs))) (hc : vwCl[ci]? = some r) {i : Int32} (k : Nat) (hi : i = nI k) (hk : k < N) (hN : N ≤ 160) (L' : va_W) (hL : L.set j (a, .inl (cR, N, .inr (.inr (.inr (.inr (va_up f k (some b))))))) = L') (hdg : decode cc pc = .ok (.aastore, 1))
    (kk : ∀ (H : Heap) (locs : List Loc), va_P g.1 vwCl (x :: (tl ++ L')) H → va_D A (x :: (tl ++ L')) → va_S A s.heap H locs → W p l e R s m args below meth c H locs cells slots Q (F0 m (pc + 1) ls rest)) : W p l e R s m args below meth c H locs cells slots Q (F0 m pc ls (.ref b :: .int i :: .ref a :: rest)) := by
  obtain ⟨⟨hx, hb, hml, hown, hts⟩, ⟨hK, -⟩, -⟩ := C
  subst hi
  refine va_astq hx hb hK hP hD hS (tl.length + 1 + j) t0 (tl.length + 1 + jk) ci (tw_at hj) ht0 (tw_at hjk) hc (vp_in_nI hk (by omega)) hdg (fun H1 locs1 h1 h2 h3 => ?_)
  rw [tw_set, nI_clamp (by omega), hL] at h1 h2
  exact kk H1 locs1 h1 h2 h3
variable {y : MethodName} {bytes : ByteArray} {maxL na index mc ms : Nat} {ws ws' : List Cond} {rm : Room}
theorem n_init (C : Ci g p s m meth c args cc nL Ts own) {q : Nat} {e0 : va_E} (hP : va_P g.1 vwCl (x :: (tl ++ (L ++ [(q, e0)]))) H) (hD : va_D A (x :: (tl ++ (L ++ [(q, e0)])))) (hS : va_S A s.heap H locs) (hA : ∀ q : Nat, s.heap.size ≤ q → A q) (hl : ls.size = nL) {Sp : va_W → Prop} (hM : Met l y ws rm (PIn g H.size q e0 [.ref q]) (QIn g H.size q e0 Sp) mc ms (va_A [(q, e0)] H.size))
    (hcall : (CallB R s args own index y bytes maxL none ws rm mc ms 0 ∧ y.name = "<init>" ∧ (Cond.instanceMethod y).before args s = true) ∨ ∃ host, va_CN R s args own index y host bytes maxL none ws rm mc ms 0 ∧ y.name = "<init>" ∧ (Cond.instanceMethod y).before args s = true) (hW : (rest.map fun v => v.category).sum ≤ 8) (hdg : decode cc pc = .ok (.invokespecial index, 3)) (hf : cells + mc ≤ R.cells ∧ slots + ms ≤ R.slots)
    (kk : ∀ (w1 : va_W) (H : Heap) (locs : List Loc), Sp w1 → va_P g.1 vwCl (x :: (tl ++ (L ++ w1))) H → va_D A (x :: (tl ++ (L ++ w1))) → va_S A s.heap H locs → W p l e R s m args below meth c H locs (cells + mc) (slots + ms) Q (F0 m (pc + 3) ls rest)) : W p l e R s m args below meth c H locs cells slots Q (F0 m pc ls (.ref q :: rest)) := by
  obtain ⟨S0, ⟨hK, hN⟩, -⟩ := C
  have eR : ∀ w : va_W, x :: (tl ++ (L ++ w)) = (x :: (tl ++ L)) ++ w := fun w => by simp
  rw [eR] at hP hD
  have hq : ((x :: (tl ++ L)) ++ [(q, e0)])[(x :: (tl ++ L)).length]? = some (q, e0) := by rw [List.getElem?_append_right (Nat.le_refl _), Nat.sub_self]; rfl
  have hFc : ∀ r, va_A [(q, e0)] H.size r → A r := fun r h => by
    rcases h with ⟨j, e, hj⟩ | h
    · have hj0 : j = 0 := by have := (List.getElem?_eq_some_iff.mp hj).1; simp at this; omega
      subst hj0
      have e1 : (q, e0) = (r, e) := Option.some.inj hj
      have := hD.2 _ _ hq
      rw [← (Prod.mk.inj e1).1]
      exact this
    · exact hA r (Nat.le_trans hS.1 h)
  have hPc : va_P g.1 vwCl [(q, e0)] H := fun k z hk => by
    have hk0 : k = 0 := by have := (List.getElem?_eq_some_iff.mp hk).1; simp at this; omega
    subst hk0
    cases hk
    exact hP _ _ hq
  have hpre : PreS s H (PIn g H.size q e0 [.ref q]) (.ref q :: []) := ⟨PIn_blind g H.size q e0 _, fun U hU hW => ⟨rfl, by rw [hU], by rw [hU]; exact hPc, hK.moved hW.alike, hN.warm hW⟩⟩
  have hrun : va_Run p l e R s m args below meth c H locs cells slots mc ms (F0 m pc ls (.ref q :: rest)) rest (QIn g H.size q e0 Sp [Value.ref q].toArray) (va_A [(q, e0)] H.size) := by
    rcases hcall with h | ⟨host, h⟩
    · exact va_runI (As := []) S0 hM h hpre rfl rfl hl rfl (lv_room hW) hdg hf
    · exact va_runIN (As := []) S0 hM h hpre rfl rfl hl rfl (lv_room hW) hdg hf
  refine va_callv hrun hS (fun r _ h => hFc r h) hFc (fun w1 t H1 locs1 ht hvm hw hB hz1 hk1 hS1 => ?_)
  obtain ⟨hP1, hD1⟩ := hB
  rw [ht] at hP1
  obtain ⟨j1, j2⟩ := tw_join hP hD hk1 hFc hP1 hD1
  refine kk w1 H1 locs1 hw ?_ ?_ hS1
  · rw [eR]; exact j1
  · rw [eR]; exact j2
theorem tw_one {A0 : Nat → Prop} {D : va_G} {cl : List vw_C} {wz : va_W} {pz q : Nat} {e0 e1 : va_E} {H H1 : Heap} (hP : va_P D cl wz H) (hD : va_D A0 wz) (hp : wz[pz]? = some (q, e0)) (hk : ∀ r : Nat, r < H.size → ¬ va_A [(q, e0)] H.size r → H1[r]? = H[r]?) (hP1 : va_P D cl [(q, e1)] H1) : va_P D cl (wz.set pz (q, e1)) H1 ∧ va_D A0 (wz.set pz (q, e1)) := by
  refine ⟨fun k z hz => ?_, hD.set hp⟩
  rw [List.getElem?_set] at hz
  by_cases hk2 : pz = k
  · rw [if_pos hk2] at hz
    rw [if_pos (List.getElem?_eq_some_iff.mp hp).1] at hz
    cases hz
    exact hP1 0 _ rfl
  · rw [if_neg hk2] at hz
    refine (hP k z hz).kept (hk z.1 (hP k z hz).lt (fun h => ?_))
    rcases h with ⟨j, e, hj⟩ | h
    · have hj0 : j = 0 := by have := (List.getElem?_eq_some_iff.mp hj).1; simp at this; omega
      subst hj0
      have e1 : (q, e0) = (z.1, e) := Option.some.inj hj
      exact hk2 (hD.1 pz k (q, e0) z hp hz (Prod.mk.inj e1).1)
    · have := (hP k z hz).lt
      omega
theorem n_fill (C : Ci g p s m meth c args cc nL Ts own) (hP : va_P g.1 vwCl (x :: (tl ++ L)) H) (hD : va_D A (x :: (tl ++ L))) (hS : va_S A s.heap H locs) (hA : ∀ q : Nat, s.heap.size ≤ q → A q) (hl : ls.size = nL) (j : Nat) {q : Nat} {e0 e1 : va_E} (hj : L[j]? = some (q, e0)) {i : Int32} (hM : Met l y ws rm (PIn g H.size q e0 [.ref q, .int i]) (QIn g H.size q e0 (fun w => w = [(q, e1)])) 0 0 (va_A [(q, e0)] H.size)) (hG : GoodIn Ts (va_wsS own index y ws)) (hd : HdS y 2) (hw : ws = Cond.code y bytes maxL none :: ws') (hrm : rm.cells = 0 ∧ rm.slots = 0) (hR : RoomOk rm R maxL) (hW : (rest.map fun v => v.category).sum ≤ 8) (hdg : decode cc pc = .ok (.invokestatic index, 3)) (hf : cells ≤ R.cells ∧ slots ≤ R.slots) (L' : va_W) (hL : L.set j (q, e1) = L')
    (kk : ∀ (H : Heap) (locs : List Loc), va_P g.1 vwCl (x :: (tl ++ L')) H → va_D A (x :: (tl ++ L')) → va_S A s.heap H locs → W p l e R s m args below meth c H locs cells slots Q (F0 m (pc + 3) ls rest)) : W p l e R s m args below meth c H locs cells slots Q (F0 m pc ls (.int i :: .ref q :: rest)) := by
  obtain ⟨S0, ⟨hK, hN⟩, -⟩ := C
  have hq := tw_at (x := x) (tl := tl) hj
  have hFc : ∀ r, va_A [(q, e0)] H.size r → A r := fun r h => by
    rcases h with ⟨j, e, hj⟩ | h
    · have hj0 : j = 0 := by have := (List.getElem?_eq_some_iff.mp hj).1; simp at this; omega
      subst hj0
      have e1 : (q, e0) = (r, e) := Option.some.inj hj
      have := hD.2 _ _ hq
      rw [← (Prod.mk.inj e1).1]
      exact this
    · exact hA r (Nat.le_trans hS.1 h)
  have hPc : va_P g.1 vwCl [(q, e0)] H := fun k z hk => by
    have hk0 : k = 0 := by have := (List.getElem?_eq_some_iff.mp hk).1; simp at this; omega
    subst hk0
    cases hk
    exact hP _ _ hq
  have hpre : PreS s H (PIn g H.size q e0 [.ref q, .int i]) [.ref q, .int i] := ⟨PIn_blind g H.size q e0 _, fun U hU hW => ⟨rfl, by rw [hU], by rw [hU]; exact hPc, hK.moved hW.alike, hN.warm hW⟩⟩
  have hrun : va_Run p l e R s m args below meth c H locs cells slots 0 0 (F0 m pc ls (.int i :: .ref q :: rest)) rest (QIn g H.size q e0 (fun w => w = [(q, e1)]) [Value.ref q, .int i].toArray) (va_A [(q, e0)] H.size) :=
    va_runS S0 hM (va_cwS 2 S0.2.2.2.2 hG hw hrm.1 hrm.2 hd hR) hpre rfl rfl hl rfl (lv_room hW) hdg hf
  refine va_callv hrun hS (fun r _ h => hFc r h) hFc (fun w1 t H1 locs1 ht hvm hw hB hz1 hk1 hS1 => ?_)
  obtain ⟨hP1, hD1⟩ := hB
  rw [ht] at hP1
  subst hw
  obtain ⟨j1, j2⟩ := tw_one hP hD hq hk1 hP1
  rw [tw_set, hL] at j1 j2
  exact kk H1 locs1 j1 j2 hS1
theorem n_ret (C : Ci g p s m meth c args cc nL Ts own) {N0 a : Nat} {e0 : va_E} {Sp : va_W → Prop} (hAe : A = va_A [(a, e0)] N0) (hP : va_P g.1 vwCl (x :: (tl ++ L)) H) (hD : va_D A (x :: (tl ++ L))) (hS : va_S A s.heap H locs) (w : va_W) (hw : x :: (tl ++ L) = w) (hSp : Sp w) (hdg : decode cc pc = .ok (.return_, 1)) {mc ms : Nat} : W p l e R s m args below meth c H locs mc ms (MQ below (QIn g N0 a e0 Sp) args s mc ms A) (F0 m pc ls []) := by
  obtain ⟨⟨hx, hb, hml, hown, hts⟩, ⟨hK, -⟩, hr, hlocks, -⟩ := C
  subst hw hAe
  exact W.vret hx hb hr (fun t ht hW => ⟨⟨_, rfl, hSp, by rw [ht]; exact hP, hD⟩, hS.F ht⟩) hS.2.2 hdg hlocks
end ROWS5
set_option maxHeartbeats 4000000 in
set_option maxRecDepth 100000 in
theorem iJ7 (l : Launch) (g : GG) (N0 a N : Nat) (hN : N ≤ 160) (f : Nat → Int32) (x : Int32) : Met l yJ7_fill_53178 wsJ7_fill_53178 rmJ7_fill_53178 (PIn g N0 a (.inl (g.2.1.1.1, N, .inl f)) [.ref a, .int x]) (QIn g N0 a (.inl (g.2.1.1.1, N, .inl f)) (fun w => w = [(a, .inl (g.2.1.1.1, N, .inl (fillM f x N)))])) 0 0 (va_A [(a, .inl (g.2.1.1.1, N, .inl f))] N0) := by
  refine Met.beginI RJ7 rfl (by decide) rfl (Or.inl rfl) (Nat.le_of_ble_eq_true rfl) ?_
  intro p e s m args below meth c ls A ha C hAe hsz hP hD hS hA hl
  have hl : lv_has ls 4 [(0, .ref a), (1, .int x)] := hl
  refine lv_iconst (v := 0) C.1.1 C.1.2.1 dJ7_fill_53178_0 rfl ?_
  refine lv_istore_n (lv' := [(2, .int 0), (0, .ref a), (1, .int x)]) C.1.1 C.1.2.1 dJ7_fill_53178_1 rfl hl (by decide) rfl (fun ls hl => ?_)
  refine lv_aload_n C.1.1 C.1.2.1 dJ7_fill_53178_2 rfl (lv_at hl 1 rfl) ?_
  refine va_alen C.1.1 C.1.2.1 C.2.1.1 hP 0 0 rfl rfl rfl dJ7_fill_53178_3 ?_
  refine lv_istore_n (lv' := [(3, .int (nI N)), (2, .int 0), (0, .ref a), (1, .int x)]) C.1.1 C.1.2.1 dJ7_fill_53178_4 rfl hl (by decide) rfl (fun ls hl => ?_)
  have lp_5 : ∀ (k_5 i : Nat), i ≤ N → N + 1 ≤ i + k_5 → ∀ (H : Heap) (locs : List Loc) (ls : Array Slot), va_P g.1 vwCl [(a, .inl (g.2.1.1.1, N, .inl (fillM f x i)))] H → va_D A [(a, .inl (g.2.1.1.1, N, .inl (fillM f x i)))] → va_S A s.heap H locs → lv_has ls 4 [(0, .ref a), (1, .int x), (2, .int (nI i)), (3, .int (nI N))] → W p l e rmJ7_fill_53178 s m args below meth c H locs 0 0 (MQ below (QIn g N0 a (.inl (g.2.1.1.1, N, .inl f)) (fun w => w = [(a, .inl (g.2.1.1.1, N, .inl (fillM f x N)))])) args s 0 0 A) (F0 m 5 ls []) := by
    clear hP hD hS hl
    intro k_5
    induction k_5 with
    | zero => exact fun i h1 h2 => absurd h2 (by omega)
    | succ k_5 ih_5 =>
      intro i hi_5 hk_5 H locs ls hP hD hS hl
      refine lv_iload_n C.1.1 C.1.2.1 dJ7_fill_53178_5 rfl (lv_at hl 2 rfl) ?_
      refine lv_iload_n C.1.1 C.1.2.1 dJ7_fill_53178_6 rfl (lv_at hl 3 rfl) ?_
      refine lv_icmp_ge (tgt := 20) C.1.1 C.1.2.1 dJ7_fill_53178_7 (by decide) (fun c_1 => ?_) (fun c_1 => ?_)
      · rw [show (nI N ≤ nI i) = (N ≤ i) from propext (nI_leI (a := N) (b := i) (by omega) (by omega))] at c_1
        have hiL : i = N := by omega
        subst hiL
        exact n_ret (tl := []) (L := []) C hAe hP hD hS _ rfl (by rfl) dJ7_fill_53178_20
      · rw [show (nI N ≤ nI i) = (N ≤ i) from propext (nI_leI (a := N) (b := i) (by omega) (by omega))] at c_1
        refine lv_aload_n C.1.1 C.1.2.1 dJ7_fill_53178_10 rfl (lv_at hl 0 rfl) ?_
        refine lv_iload_n C.1.1 C.1.2.1 dJ7_fill_53178_11 rfl (lv_at hl 2 rfl) ?_
        refine lv_iload_n C.1.1 C.1.2.1 dJ7_fill_53178_12 rfl (lv_at hl 1 rfl) ?_
        refine va_iast C.1.1 C.1.2.1 C.2.1.1 hP hD hS 0 0 rfl rfl (vp_in_nI (show i < N by omega) (by omega)) dJ7_fill_53178_13 (fun H locs hP hD hS => ?_)
        rw [nI_clamp (by omega), fillM_s] at hP hD
        refine lv_iinc (v := nI (i + 1)) (lv' := [(2, .int (nI (i + 1))), (0, .ref a), (1, .int x), (3, .int (nI N))]) C.1.1 C.1.2.1 dJ7_fill_53178_14 hl (k := 2) rfl (nI_1 i) (by decide) rfl (fun ls hl => ?_)
        refine lv_goto (tgt := 5) C.1.1 C.1.2.1 dJ7_fill_53178_17 (by decide) ?_
        exact ih_5 (i + 1) (by omega) (by omega) _ _ _ hP hD hS (lv_sub hl [1, 2, 0, 3] rfl)
  exact lp_5 (N + 1) 0 (Nat.zero_le _) (by omega) _ _ _ (by rw [fillM_0]; exact hP) (by rw [fillM_0]; exact hD) hS (lv_sub hl [2, 3, 1, 0] rfl)
