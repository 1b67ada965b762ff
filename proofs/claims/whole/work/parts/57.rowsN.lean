/-! worlds that grow: constructors -/
def Nw2 (g : GG) (U : State) : Prop := Nws g U ∧ va_AO "EmptyBarrow$Resident" U ∧ va_AO "EmptyBarrow$Sheet" U
theorem Nw2.warm {g : GG} {s U : State} (hW : s.WarmedH U.vm) (h : Nw2 g s) : Nw2 g U := ⟨h.1.warm hW, h.2.1.moved hW.alike, h.2.2.moved hW.alike⟩
theorem Nw2.same {g : GG} {u U : State} (hv : u.vm = U.vm) (h : Nw2 g u) : Nw2 g U := by
  obtain ⟨h1, h2, h3⟩ := h
  refine ⟨h1.same hv, ?_, ?_⟩
  · exact h2.moved (by rw [hv]; exact Vm.Alike.refl U.vm)
  · exact h3.moved (by rw [hv]; exact Vm.Alike.refl U.vm)
def PIn (g : GG) (N0 a : Nat) (e : va_E) (av : List Value) : Array Value → State → Prop := va_Pc av (fun U => U.heap.size = N0 ∧ va_P g.1 vwCl [(a, e)] U.heap ∧ va_K g.1 vwCl (tyG g) U ∧ Nw2 g U)
def QIn (g : GG) (N0 a : Nat) (e : va_E) (Sp : va_W → Prop) : Array Value → State → Outcome → State → Prop := va_Qv (S := va_W) Sp (fun w t => va_P g.1 vwCl w t.heap ∧ va_D (va_A [(a, e)] N0) w) (va_A [(a, e)] N0)
theorem PIn_blind (g : GG) (N0 a : Nat) (e : va_E) (av : List Value) : FrameBlind (PIn g N0 a e av) := by
  intro ar U f mk h
  obtain ⟨h0, h1, h2, h3, h4⟩ := h
  exact ⟨h0, h1, h2, h3.moved (u := U) (U := U.calling f mk ar) (Vm.Alike.refl U.vm), h4.same (u := U) (U := U.calling f mk ar) rfl⟩
def Ci (g : GG) (p : Program) (s : State) (m : MethodId) (meth : Method) (c : Code) (args : Array Value) (cc : ByteArray) (nL : Nat) (Ts : List Cond) (own : String) : Prop :=
  CallFix p m c cc nL s args Ts own ∧ (va_K g.1 vwCl (tyG g) s ∧ Nw2 g s) ∧ meth.sig.returnType = none ∧ meth.locks = false ∧ meth.name = "<init>"
theorem Met.beginI {l : Launch} {y : MethodName} {ws' : List Cond} {rm : Room} {g : GG} {N0 a : Nat} {e0 : va_E} {av : List Value} {Sp : va_W → Prop} {mc ms : Nat} {cc : ByteArray} {maxL : Nat} {ws : List Cond} (own : String)
    (hw : ws = Cond.code y cc maxL none :: ws') (hy : plainName y.cls = true) (ho : y.cls = own) (hnm : y.name = "<init>") (hs : (lg_sl av).length ≤ maxL)
    (body : ∀ (p : Program) (e : Env) (s : State) (m : MethodId) (args : Array Value) (below : List Frame) (meth : Method) (c : Code) (ls : Array Slot) (A : Nat → Prop), args = av.toArray → Ci g p s m meth c args cc maxL ws own → A = va_A [(a, e0)] N0 → s.heap.size = N0 → va_P g.1 vwCl ((a, e0) :: ([] ++ [])) s.heap → va_D A ((a, e0) :: ([] ++ [])) → va_S A s.heap s.heap [] → (∀ q : Nat, s.heap.size ≤ q → A q) → lv_has ls maxL (lv_args 0 av) →
      W p l e rm s m args below meth c s.heap [] 0 0 (MQ below (QIn g N0 a e0 Sp) args s mc ms A) (F0 m 0 ls [])) : Met l y ws rm (PIn g N0 a e0 av) (QIn g N0 a e0 Sp) mc ms (va_A [(a, e0)] N0) := by
  subst hw
  refine Met.ofW (cc := cc) (maxL := maxL) (ret := none) hy rfl ?_
  intro p e s m args below meth c s₁ B hml hv
  obtain ⟨ha, hsz, hP, hK, hN⟩ := hv
  have hts := atoms_spec (ws := Cond.code y cc maxL none :: ws') B.pre
  have hown : s.vm.findClass own = some m.cls := ho ▸ findClass_of_methodNamed B.named
  have hin : meth.name = "<init>" := (name_of_methodNamed B.named B.method).1.trans hnm
  subst ha
  rw [lg_entry_eq]
  refine body p e s m _ below meth c _ _ rfl ⟨⟨B.exec, B.bytes, hml, hown, hts⟩, ⟨hK, hN⟩, B.returns, B.notSynchronized, hin⟩ rfl hsz hP ?_ va_S.rf (fun q h => Or.inr (by rw [← hsz]; exact h)) (lv_entry av hs)
  refine ⟨fun i j x y hi hj _ => ?_, fun k q hk => Or.inl ⟨k, q.2, hk⟩⟩
  have h1 := (List.getElem?_eq_some_iff.mp hi).1
  have h2 := (List.getElem?_eq_some_iff.mp hj).1
  simp at h1 h2
  omega
theorem tw_at {x y : Nat × va_E} {tl L : va_W} {j : Nat} (h : L[j]? = some y) : (x :: (tl ++ L))[tl.length + 1 + j]? = some y := by
  rw [show tl.length + 1 + j = (tl.length + j) + 1 by omega, List.getElem?_cons_succ, List.getElem?_append_right (by omega), show tl.length + j - tl.length = j by omega]
  exact h
theorem tw_set {x z : Nat × va_E} {tl L : va_W} {j : Nat} : (x :: (tl ++ L)).set (tl.length + 1 + j) z = x :: (tl ++ L.set j z) := by
  rw [show tl.length + 1 + j = (tl.length + j) + 1 by omega, List.set_cons_succ, List.set_append_right _ _ (by omega), show tl.length + j - tl.length = j by omega]
theorem tw_app {x z : Nat × va_E} {tl L : va_W} : (x :: (tl ++ L)) ++ [z] = x :: (tl ++ (L ++ [z])) := by simp
theorem tw_join {A0 : Nat → Prop} {D : va_G} {cl : List vw_C} {Rr w1 : va_W} {q : Nat} {e0 : va_E} {H H1 : Heap} (hP : va_P D cl (Rr ++ [(q, e0)]) H) (hD : va_D A0 (Rr ++ [(q, e0)])) (hk : ∀ r : Nat, r < H.size → ¬ va_A [(q, e0)] H.size r → H1[r]? = H[r]?) (hF : ∀ r, va_A [(q, e0)] H.size r → A0 r) (hP1 : va_P D cl w1 H1) (hD1 : va_D (va_A [(q, e0)] H.size) w1) : va_P D cl (Rr ++ w1) H1 ∧ va_D A0 (Rr ++ w1) := by
  have hq : (Rr ++ [(q, e0)])[Rr.length]? = some (q, e0) := by rw [List.getElem?_append_right (Nat.le_refl _), Nat.sub_self]; rfl
  have hsub : ∀ (k : Nat) (x : Nat × va_E), Rr[k]? = some x → (Rr ++ [(q, e0)])[k]? = some x ∧ k < Rr.length := fun k x hx => by
    have h1 := (List.getElem?_eq_some_iff.mp hx).1
    exact ⟨by rw [List.getElem?_append_left h1]; exact hx, h1⟩
  have hne : ∀ (k : Nat) (x : Nat × va_E), Rr[k]? = some x → ¬ va_A [(q, e0)] H.size x.1 := fun k x hx h => by
    obtain ⟨h1, h2⟩ := hsub k x hx
    rcases h with ⟨j, e, hj⟩ | h
    · have hj0 : j = 0 := by have := (List.getElem?_eq_some_iff.mp hj).1; simp at this; omega
      subst hj0
      have e1 : (q, e0) = (x.1, e) := Option.some.inj hj
      have := hD.1 k Rr.length x (q, e0) h1 hq (by rw [Prod.mk.inj e1 |>.1])
      omega
    · have := (hP k x h1).lt
      omega
  refine ⟨va_P.app (fun k x hx => ?_) hP1, va_D.app ⟨fun i j x y hi hj e => ?_, fun k x hx => hD.2 k x (hsub k x hx).1⟩ (hD1.weaken (fun k x _ h => hF _ h)) (fun i j x y hi hj e => ?_)⟩
  · obtain ⟨h1, h2⟩ := hsub k x hx
    exact (hP k x h1).kept (hk x.1 (hP k x h1).lt (hne k x hx))
  · exact hD.1 i j x y (hsub i x hi).1 (hsub j y hj).1 e
  · exact hne i x hi (by rw [e]; exact hD1.2 j y hj)
section ROWS5
variable {g : GG} {p : Program} {l : Launch} {e : Env} {R : Room} {s : State} {m : MethodId} {args : Array Value} {below : List Frame} {meth : Method} {c : Code} {H : Heap} {locs : List Loc} {cells slots : Nat} {Q : State → Prop} {cc : ByteArray} {nL : Nat} {Ts : List Cond} {own : String} {pc : Nat} {ls : Array Slot} {rest : List Value} {A : Nat → Prop} {x : Nat × va_E} {tl L : va_W}
theorem n_obj (C : Ci g p s m meth c args cc nL Ts own) (hl : ls.size = nL) {idx a : Nat} (h1 : Cond.methodLink own idx objectInit ∈ Ts) (h2 : Cond.instanceMethod objectInit ∈ Ts) (h3 : Cond.code objectInit ⟨#[0xb1]⟩ 1 none ∈ Ts) (hW : (rest.map fun v => v.category).sum ≤ 8) (hf : 1 ≤ R.frames) (hr : 20 ≤ R.locals) (hdg : decode cc pc = .ok (.invokespecial idx, 3)) (kk : W p l e R s m args below meth c H locs cells slots Q (F0 m (pc + 3) ls rest)) : W p l e R s m args below meth c H locs cells slots Q (F0 m pc ls (.ref a :: rest)) := by
  obtain ⟨⟨hx, hb, hml, hown, hts⟩, -⟩ := C
  refine W.objInit hx hb hown (hts _ h1) (hts _ h2) (hts _ h3) rfl (by rw [hml]; exact hl) rfl hdg hf ?_ (W.eq (g2 := F0 m (pc + 3) ls rest) rfl kk)
  show 2 * 0 + _ + 12 ≤ R.locals
  omega
theorem n_put (C : Ci g p s m meth c args cc nL Ts own) {a : Nat} {ci : Nat} {fs : List Value} (hP : va_P g.1 vwCl ((a, .inr (ci, fs)) :: (tl ++ L)) H) (hD : va_D A ((a, .inr (ci, fs)) :: (tl ++ L))) (hS : va_S A s.heap H locs) {Cn : String} {T : u_T} {N : Nat} (hc : vwCl[ci]? = some (Cn, T, N)) (hin : ∀ w ∈ u_ws Cn T N, w ∈ Ts) (ty0 : Nat → FieldType) (hty : ∀ k, k < N → parseFieldDescriptor (T k).2.2.1 = some (ty0 k)) (hnm : ∀ a, a < N → ∀ b, b < N → a ≠ b → (T a).2.1 ≠ (T b).2.1) {index : Nat} (j : Nat) (hj : j < N) {ref : String} (hlink : Cond.fieldLink own index ref (T j).2.1 (T j).2.2.1 ∈ Ts) (hsame : (T j).1 = ref) (hdecl : (T j).1 = own) {v : Value} (hn : narrow (ty0 j) v = v) (hfit : fits (ty0 j) v = true) (hl : j < fs.length) (fs' : List Value) (hset : fs.set j v = fs') (hdg : decode cc pc = .ok (.putfield index, 3))
    (kk : ∀ (H : Heap) (locs : List Loc), va_P g.1 vwCl ((a, .inr (ci, fs')) :: (tl ++ L)) H → va_D A ((a, .inr (ci, fs')) :: (tl ++ L)) → va_S A s.heap H locs → W p l e R s m args below meth c H locs cells slots Q (F0 m (pc + 3) ls rest)) : W p l e R s m args below meth c H locs cells slots Q (F0 m pc ls (v :: .ref a :: rest)) := by
  obtain ⟨⟨hx, hb, hml, hown, hts⟩, ⟨hK, -⟩, -, -, hin2⟩ := C
  subst hset
  cases hfin : (T j).2.2.2 with
  | false => exact va_put hx hb hts hin ty0 hty hnm hown hK hP hD hS 0 rfl hc j hj (hts _ hlink) (fun x h => by rw [← hsame]; exact h) hfin (hty j hj) hn hfit hl hdg kk
  | true => exact va_putF hx hb hts hin ty0 hty hnm hown hK hP hD hS 0 rfl hc j hj (hts _ hlink) (fun x h => by rw [← hsame]; exact h) hfin hin2 hdecl (hty j hj) hn hfit hl hdg kk
theorem n_get (C : Ci g p s m meth c args cc nL Ts own) {a : Nat} {ci : Nat} {fs : List Value} (hP : va_P g.1 vwCl ((a, .inr (ci, fs)) :: (tl ++ L)) H) {Cn : String} {T : u_T} {N : Nat} (hc : vwCl[ci]? = some (Cn, T, N)) (hin : ∀ w ∈ u_ws Cn T N, w ∈ Ts) {index : Nat} (j : Nat) (hj : j < N) {ref : String} (hlink : Cond.fieldLink own index ref (T j).2.1 (T j).2.2.1 ∈ Ts) (hsame : (T j).1 = ref) {val : Value} (hv : fs[j]? = some val) (hdg : decode cc pc = .ok (.getfield index, 3))
    (kk : W p l e R s m args below meth c H locs cells slots Q (F0 m (pc + 3) ls (val :: rest))) : W p l e R s m args below meth c H locs cells slots Q (F0 m pc ls (.ref a :: rest)) := by
  obtain ⟨⟨hx, hb, hml, hown, hts⟩, ⟨hK, -⟩, -⟩ := C
  exact va_get hx hb hts hin hown hK hP 0 rfl hc j hj (hts _ hlink) (fun x h => by rw [← hsame]; exact h) hv hdg kk
theorem n_new (C : Ci g p s m meth c args cc nL Ts own) (hP : va_P g.1 vwCl (x :: (tl ++ L)) H) (hD : va_D A (x :: (tl ++ L))) (hS : va_S A s.heap H locs) (hA : ∀ q : Nat, s.heap.size ≤ q → A q) {ci : Nat} {Cn : String} {T : u_T} {N : Nat} (hc : vwCl[ci]? = some (Cn, T, N)) (hin : ∀ w ∈ u_ws Cn T N, w ∈ Ts) (ty0 : Nat → FieldType) (hty : ∀ k, k < N → parseFieldDescriptor (T k).2.2.1 = some (ty0 k)) {index : Nat} (hcl : Cond.classLink own index Cn ∈ Ts) (hinst : Cond.instantiable Cn N ∈ Ts) (hini : Cond.initialized Cn ∈ Ts) {fs : List Value} (hfs : ∀ j, j < N → defaultValue (ty0 j) = vp_V fs j) (hcells : cells + 1 ≤ R.cells) (hslots : slots + N ≤ R.slots) (hdg : decode cc pc = .ok (.new index, 3))
    (kk : ∀ (q : Nat) (H : Heap), va_P g.1 vwCl (x :: (tl ++ (L ++ [(q, .inr (ci, fs))]))) H → va_D A (x :: (tl ++ (L ++ [(q, .inr (ci, fs))]))) → va_S A s.heap H locs → W p l e R s m args below meth c H locs (cells + 1) (slots + N) Q (F0 m (pc + 3) ls (.ref q :: rest))) : W p l e R s m args below meth c H locs cells slots Q (F0 m pc ls rest) := by
  obtain ⟨⟨hx, hb, hml, hown, hts⟩, ⟨hK, -⟩, -⟩ := C
  refine va_new hx hb hts hin ty0 hty hown (hts _ hcl) (hts _ hinst) (hts _ hini) hK hP hD hS hA hc hfs hcells hslots hdg (fun q H1 h1 h2 h3 => ?_)
  rw [tw_app] at h1 h2
  exact kk q H1 h1 h2 h3
theorem n_newI (C : Ci g p s m meth c args cc nL Ts own) (hP : va_P g.1 vwCl (x :: (tl ++ L)) H) (hD : va_D A (x :: (tl ++ L))) (hS : va_S A s.heap H locs) (hA : ∀ q : Nat, s.heap.size ≤ q → A q) (harr : Cond.arrayClass .int ∈ Ts) (N : Nat) (hN : N ≤ 160) {i : Int32} (hi : i = nI N) (hcells : cells + 1 ≤ R.cells) (hslots : slots + N ≤ R.slots) (hdg : decode cc pc = .ok (.newarray .int, 2))
    (kk : ∀ (q : Nat) (H : Heap), va_P g.1 vwCl (x :: (tl ++ (L ++ [(q, .inl (g.2.1.1.1, N, .inl (fun _ => 0)))]))) H → va_D A (x :: (tl ++ (L ++ [(q, .inl (g.2.1.1.1, N, .inl (fun _ => 0)))]))) → va_S A s.heap H locs → W p l e R s m args below meth c H locs (cells + 1) (slots + N) Q (F0 m (pc + 2) ls (.ref q :: rest))) : W p l e R s m args below meth c H locs cells slots Q (F0 m pc ls (.int i :: rest)) := by
  obtain ⟨⟨hx, hb, hml, hown, hts⟩, ⟨hK, -⟩, -⟩ := C
  subst hi
  refine va_newa (atype := .int) (ty := .int) (a0 := (N, .inl (fun _ => 0))) hx hb (hts _ harr) rfl hK hP hD hS hA (fun cA => rfl) (fun z => absurd (nI_pos' (show N < 2 ^ 31 by omega)) (fa_lt_nle z)) (nI_clamp (by omega)) (by show N * 4 ≤ _; omega) hcells hslots hdg (fun q cA H1 k1 h1 h2 h3 => ?_)
  have e1 : cA = g.2.1.1.1 := by
    have q1 := (k1.2 4 (cA, .int) rfl).2
    have q2 := (k1.2 0 (g.2.1.1.1, .int) rfl).2
    exact Option.some.inj (q1.symm.trans q2)
  subst e1
  rw [tw_app] at h1 h2
  exact kk q H1 h1 h2 h3
theorem n_newB (C : Ci g p s m meth c args cc nL Ts own) (hP : va_P g.1 vwCl (x :: (tl ++ L)) H) (hD : va_D A (x :: (tl ++ L))) (hS : va_S A s.heap H locs) (hA : ∀ q : Nat, s.heap.size ≤ q → A q) (harr : Cond.arrayClass .byte ∈ Ts) (N : Nat) (hN : N ≤ 160) {i : Int32} (hi : i = nI N) (hcells : cells + 1 ≤ R.cells) (hslots : slots + N ≤ R.slots) (hdg : decode cc pc = .ok (.newarray .byte, 2))
    (kk : ∀ (q : Nat) (H : Heap), va_P g.1 vwCl (x :: (tl ++ (L ++ [(q, .inl (g.2.1.1.2, N, .inl (fun _ => 0)))]))) H → va_D A (x :: (tl ++ (L ++ [(q, .inl (g.2.1.1.2, N, .inl (fun _ => 0)))]))) → va_S A s.heap H locs → W p l e R s m args below meth c H locs (cells + 1) (slots + N) Q (F0 m (pc + 2) ls (.ref q :: rest))) : W p l e R s m args below meth c H locs cells slots Q (F0 m pc ls (.int i :: rest)) := by
  obtain ⟨⟨hx, hb, hml, hown, hts⟩, ⟨hK, -⟩, -⟩ := C
  subst hi
  refine va_newa (atype := .byte) (ty := .byte) (a0 := (N, .inl (fun _ => 0))) hx hb (hts _ harr) rfl hK hP hD hS hA (fun cA => rfl) (fun z => absurd (nI_pos' (show N < 2 ^ 31 by omega)) (fa_lt_nle z)) (nI_clamp (by omega)) (by show N * 1 ≤ _; omega) hcells hslots hdg (fun q cA H1 k1 h1 h2 h3 => ?_)
  have e1 : cA = g.2.1.1.2 := by
    have q1 := (k1.2 4 (cA, .byte) rfl).2
    have q2 := (k1.2 1 (g.2.1.1.2, .byte) rfl).2
    exact Option.some.inj (q1.symm.trans q2)
  subst e1
  rw [tw_app] at h1 h2
  exact kk q H1 h1 h2 h3
theorem n_newQ (C : Ci g p s m meth c args cc nL Ts own) (hP : va_P g.1 vwCl (x :: (tl ++ L)) H) (hD : va_D A (x :: (tl ++ L))) (hS : va_S A s.heap H locs) (hA : ∀ q : Nat, s.heap.size ≤ q → A q) {index : Nat} {Cn : String} (hcl : Cond.classLink own index Cn ∈ Ts) (hover : va_AO Cn s) (t0 : Nat) {cR : ClassId} (ht0 : (tyG g)[t0]? = some (cR, .object Cn)) (N : Nat) (hN : N ≤ 160) {i : Int32} (hi : i = nI N) (hcells : cells + 1 ≤ R.cells) (hslots : slots + N ≤ R.slots) (hdg : decode cc pc = .ok (.anewarray index, 3))
    (kk : ∀ (q : Nat) (H : Heap), va_P g.1 vwCl (x :: (tl ++ (L ++ [(q, .inl (cR, N, .inr (.inr (.inr (.inr (fun _ => none))))))]))) H → va_D A (x :: (tl ++ (L ++ [(q, .inl (cR, N, .inr (.inr (.inr (.inr (fun _ => none))))))]))) → va_S A s.heap H locs → W p l e R s m args below meth c H locs (cells + 1) (slots + N) Q (F0 m (pc + 3) ls (.ref q :: rest))) : W p l e R s m args below meth c H locs cells slots Q (F0 m pc ls (.int i :: rest)) := by
  obtain ⟨⟨hx, hb, hml, hown, hts⟩, ⟨hK, -⟩, -⟩ := C
  subst hi
  refine va_newq hx hb hown (hts _ hcl) hover hK hP hD hS hA (fun z => absurd (nI_pos' (show N < 2 ^ 31 by omega)) (fa_lt_nle z)) (nI_clamp (by omega)) (by omega) hcells hslots hdg (fun q cA H1 k1 h1 h2 h3 => ?_)
  have e1 : cA = cR := by
    obtain ⟨-, -, -, -, -, q1⟩ := (k1.2 4 (cA, .object Cn) rfl).2
    obtain ⟨-, -, -, -, -, q2⟩ := (hK.2 t0 (cR, .object Cn) ht0).2
    exact Option.some.inj (q1.symm.trans q2)
  subst e1
  rw [tw_app] at h1 h2
  exact kk q H1 h1 h2 h3
theorem n_iast (C : Ci g p s m meth c args cc nL Ts own) (hP : va_P g.1 vwCl (x :: (tl ++ L)) H) (hD : va_D A (x :: (tl ++ L))) (hS : va_S A s.heap H locs) (j : Nat) {a N : Nat} {f : Nat → Int32} (hj : L[j]? = some (a, .inl (g.2.1.1.1, N, .inl f))) {i v : Int32} (k : Nat) (hi : i = nI k) (hk : k < N) (hN : N ≤ 160) (L' : va_W) (hL : L.set j (a, .inl (g.2.1.1.1, N, .inl (upd f k v))) = L') (hdg : decode cc pc = .ok (.iastore, 1))
    (kk : ∀ (H : Heap) (locs : List Loc), va_P g.1 vwCl (x :: (tl ++ L')) H → va_D A (x :: (tl ++ L')) → va_S A s.heap H locs → W p l e R s m args below meth c H locs cells slots Q (F0 m (pc + 1) ls rest)) : W p l e R s m args below meth c H locs cells slots Q (F0 m pc ls (.int v :: .int i :: .ref a :: rest)) := by
  obtain ⟨⟨hx, hb, hml, hown, hts⟩, ⟨hK, -⟩, -⟩ := C
  subst hi
  refine va_iast hx hb hK hP hD hS (tl.length + 1 + j) 0 (tw_at hj) rfl (vp_in_nI hk (by omega)) hdg (fun H1 locs1 h1 h2 h3 => ?_)
  rw [tw_set, nI_clamp (by omega), hL] at h1 h2
  exact kk H1 locs1 h1 h2 h3
theorem n_aast (C : Ci g p s m meth c args cc nL Ts own) (hP : va_P g.1 vwCl (x :: (tl ++ L)) H) (hD : va_D A (x :: (tl ++ L))) (hS : va_S A s.heap H locs) (j jk t0 ci : Nat) {a b N : Nat} {cR : ClassId} {r : vw_C} {vs : List Value} {f : Nat → Option Nat} (hj : L[j]? = some (a, .inl (cR, N, .inr (.inr (.inr (.inr f)))))) (ht0 : (tyG g)[t0]? = some (cR, .object r.1)) (hjk : L[jk]? = some (b, .inr (ci, vs))) (hc : vwCl[ci]? = some r) {i : Int32} (k : Nat) (hi : i = nI k) (hk : k < N) (hN : N ≤ 160) (L' : va_W) (hL : L.set j (a, .inl (cR, N, .inr (.inr (.inr (.inr (va_up f k (some b))))))) = L') (hdg : decode cc pc = .ok (.aastore, 1))
    (kk : ∀ (H : Heap) (locs : List Loc), va_P g.1 vwCl (x :: (tl ++ L')) H → va_D A (x :: (tl ++ L')) → va_S A s.heap H locs → W p l e R s m args below meth c H locs cells slots Q (F0 m (pc + 1) ls rest)) : W p l e R s m args below meth c H locs cells slots Q (F0 m pc ls (.ref b :: .int i :: .ref a :: rest)) := by
  obtain ⟨⟨hx, hb, hml, hown, hts⟩, ⟨hK, -⟩, -⟩ := C
  subst hi
  refine va_astq hx hb hK hP hD hS (tl.length + 1 + j) t0 (tl.length + 1 + jk) ci (tw_at hj) ht0 (tw_at hjk) hc (vp_in_nI hk (by omega)) hdg (fun H1 locs1 h1 h2 h3 => ?_)
  rw [tw_set, nI_clamp (by omega), hL] at h1 h2
  exact kk H1 locs1 h1 h2 h3
variable {y : MethodName} {bytes : ByteArray} {maxL na index mc ms : Nat} {ws ws' : List Cond} {rm : Room}
theorem n_init (C : Ci g p s m meth c args cc nL Ts own) {q : Nat} {e0 : va_E} (hP : va_P g.1 vwCl (x :: (tl ++ (L ++ [(q, e0)]))) H) (hD : va_D A (x :: (tl ++ (L ++ [(q, e0)])))) (hS : va_S A s.heap H locs) (hA : ∀ q : Nat, s.heap.size ≤ q → A q) (hl : ls.size = nL) {Sp : va_W → Prop} (hM : Met l y ws rm (PIn g H.size q e0 [.ref q]) (QIn g H.size q e0 Sp) mc ms (va_A [(q, e0)] H.size))
    (hcall : (CallB R s args own index y bytes maxL none ws rm mc ms 0 ∧ y.name = "<init>" ∧ (Cond.instanceMethod y).before args s = true) ∨ ∃ host, va_CN R s args own index y host bytes maxL none ws rm mc ms 0 ∧ y.name = "<init>" ∧ (Cond.instanceMethod y).before args s = true) (hW : (rest.map fun v => v.category).sum ≤ 8) (hdg : decode cc pc = .ok (.invokespecial index, 3)) (hf : cells + mc ≤ R.cells ∧ slots + ms ≤ R.slots)
    (kk : ∀ (w1 : va_W) (H : Heap) (locs : List Loc), Sp w1 → va_P g.1 vwCl (x :: (tl ++ (L ++ w1))) H → va_D A (x :: (tl ++ (L ++ w1))) → va_S A s.heap H locs → W p l e R s m args below meth c H locs (cells + mc) (slots + ms) Q (F0 m (pc + 3) ls rest)) : W p l e R s m args below meth c H locs cells slots Q (F0 m pc ls (.ref q :: rest)) := by
  obtain ⟨S0, ⟨hK, hN⟩, -⟩ := C
  have eR : ∀ w : va_W, x :: (tl ++ (L ++ w)) = (x :: (tl ++ L)) ++ w := fun w => by simp
  rw [eR] at hP hD
  have hq : ((x :: (tl ++ L)) ++ [(q, e0)])[(x :: (tl ++ L)).length]? = some (q, e0) := by rw [List.getElem?_append_right (Nat.le_refl _), Nat.sub_self]; rfl
  have hFc : ∀ r, va_A [(q, e0)] H.size r → A r := fun r h => by
    rcases h with ⟨j, e, hj⟩ | h
    · have hj0 : j = 0 := by have := (List.getElem?_eq_some_iff.mp hj).1; simp at this; omega
      subst hj0
      have e1 : (q, e0) = (r, e) := Option.some.inj hj
      have := hD.2 _ _ hq
      rw [← (Prod.mk.inj e1).1]
      exact this
    · exact hA r (Nat.le_trans hS.1 h)
  have hPc : va_P g.1 vwCl [(q, e0)] H := fun k z hk => by
    have hk0 : k = 0 := by have := (List.getElem?_eq_some_iff.mp hk).1; simp at this; omega
    subst hk0
    cases hk
    exact hP _ _ hq
  have hpre : PreS s H (PIn g H.size q e0 [.ref q]) (.ref q :: []) := ⟨PIn_blind g H.size q e0 _, fun U hU hW => ⟨rfl, by rw [hU], by rw [hU]; exact hPc, hK.moved hW.alike, hN.warm hW⟩⟩
  have hrun : va_Run p l e R s m args below meth c H locs cells slots mc ms (F0 m pc ls (.ref q :: rest)) rest (QIn g H.size q e0 Sp [Value.ref q].toArray) (va_A [(q, e0)] H.size) := by
    rcases hcall with h | ⟨host, h⟩
    · exact va_runI (As := []) S0 hM h hpre rfl rfl hl rfl (lv_room hW) hdg hf
    · exact va_runIN (As := []) S0 hM h hpre rfl rfl hl rfl (lv_room hW) hdg hf
  refine va_callv hrun hS (fun r _ h => hFc r h) hFc (fun w1 t H1 locs1 ht hvm hw hB hz1 hk1 hS1 => ?_)
  obtain ⟨hP1, hD1⟩ := hB
  rw [ht] at hP1
  obtain ⟨j1, j2⟩ := tw_join hP hD hk1 hFc hP1 hD1
  refine kk w1 H1 locs1 hw ?_ ?_ hS1
  · rw [eR]; exact j1
  · rw [eR]; exact j2
theorem n_ret (C : Ci g p s m meth c args cc nL Ts own) {N0 a : Nat} {e0 : va_E} {Sp : va_W → Prop} (hAe : A = va_A [(a, e0)] N0) (hP : va_P g.1 vwCl (x :: (tl ++ L)) H) (hD : va_D A (x :: (tl ++ L))) (hS : va_S A s.heap H locs) (w : va_W) (hw : x :: (tl ++ L) = w) (hSp : Sp w) (hdg : decode cc pc = .ok (.return_, 1)) {mc ms : Nat} : W p l e R s m args below meth c H locs mc ms (MQ below (QIn g N0 a e0 Sp) args s mc ms A) (F0 m pc ls []) := by
  obtain ⟨⟨hx, hb, hml, hown, hts⟩, ⟨hK, -⟩, hr, hlocks, -⟩ := C
  subst hw hAe
  exact W.vret hx hb hr (fun t ht hW => ⟨⟨_, rfl, hSp, by rw [ht]; exact hP, hD⟩, hS.F ht⟩) hS.2.2 hdg hlocks
end ROWS5
