/-- what a walk keeps from the entry on -/
def Cx (g : GG) (n : Nat) (p : Program) (s : State) (m : MethodId) (meth : Method) (c : Code) (args : Array Value) (cc : ByteArray) (nL : Nat) (ret : Option FieldType) (Ts : List Cond) (own : String) : Prop :=
  CallFix p m c cc nL s args Ts own ∧ Zs g n s ∧ meth.sig.returnType = ret ∧ meth.locks = false
theorem lv_topE {p : Program} {l : Launch} {e : Env} {R : Room} {s : State} {m : MethodId} {args : Array Value} {below : List Frame} {meth : Method} {c : Code} {H : Heap} {locs : List Loc} {cells slots : Nat} {Q : State → Prop} {pc : Nat} {ls : Array Slot} {rest : List Value} {x : Int32} (y : Int32) (h : x = y) (k : W p l e R s m args below meth c H locs cells slots Q (F0 m pc ls (.int y :: rest))) : W p l e R s m args below meth c H locs cells slots Q (F0 m pc ls (.int x :: rest)) := by
  rw [h]; exact k
theorem Met.begin {l : Launch} {y : MethodName} {ws' : List Cond} {rm : Room} {g : GG} {n : Nat} {v : SV} {av : List Value} {Qc : Array Value → State → Outcome → State → Prop} {mc ms : Nat} {free : Addr → Prop} {cc : ByteArray} {maxL : Nat} {ret : Option FieldType} {ws : List Cond} (own : String)
    (hw : ws = Cond.code y cc maxL ret :: ws') (hy : plainName y.cls = true) (ho : y.cls = own) (hs : (lg_sl av).length ≤ maxL)
    (body : ∀ (p : Program) (e : Env) (s : State) (m : MethodId) (args : Array Value) (below : List Frame) (meth : Method) (c : Code) (ls : Array Slot), args = av.toArray → Cx g n p s m meth c args cc maxL ret ws own → va_P g.1 vwCl (wl g n v) s.heap → va_S (wA g n) s.heap s.heap [] → lv_has ls maxL (lv_args 0 av) →
      W p l e rm s m args below meth c s.heap [] 0 0 (MQ below Qc args s mc ms free) (F0 m 0 ls [])) : Met l y ws rm (PW g n v av) Qc mc ms free := by
  subst hw
  refine Met.ofW (cc := cc) (maxL := maxL) (ret := ret) hy rfl ?_
  intro p e s m args below meth c s₁ B hml hv
  obtain ⟨ha, hP, hZ⟩ := hv
  have hts := atoms_spec (ws := Cond.code y cc maxL ret :: ws') B.pre
  have hown : s.vm.findClass own = some m.cls := ho ▸ findClass_of_methodNamed B.named
  subst ha
  rw [lg_entry_eq]
  exact body p e s m _ below meth c _ rfl ⟨⟨B.exec, B.bytes, hml, hown, hts⟩, hZ, B.returns, B.notSynchronized⟩ hP va_S.rf (lv_entry av hs)
section ROWS
variable {g : GG} {n : Nat} {p : Program} {l : Launch} {e : Env} {R : Room} {s : State} {m : MethodId} {args : Array Value} {below : List Frame} {meth : Method} {c : Code} {H : Heap} {locs : List Loc} {cells slots : Nat} {Q : State → Prop} {cc : ByteArray} {nL : Nat} {ret : Option FieldType} {Ts : List Cond} {own : String} {pc : Nat} {ls : Array Slot} {rest : List Value} {v : SV}
theorem r_get (C : Cx g n p s m meth c args cc nL ret Ts own) (hP : va_P g.1 vwCl (wl g n v) H) (k ci : Nat) (hk : k < n) (hkd : kd k = ci) (hci : ci < 7) {Cn : String} {T : u_T} {N : Nat} (hc : vwCl[ci]? = some (Cn, T, N)) (hin : ∀ w ∈ u_ws Cn T N, w ∈ Ts) {index : Nat} (j : Nat) (hj : j < N) {ref : String} (hlink : Cond.fieldLink own index ref (T j).2.1 (T j).2.2.1 ∈ Ts) (hsame : (T j).1 = ref) {val : Value} (hv : (fsE g (v.1 k) v.2 k ci)[j]? = some val) (hdg : decode cc pc = .ok (.getfield index, 3))
    (kk : W p l e R s m args below meth c H locs cells slots Q (F0 m (pc + 3) ls (val :: rest))) : W p l e R s m args below meth c H locs cells slots Q (F0 m pc ls (.ref (gA g k) :: rest)) := by
  obtain ⟨⟨hx, hb, hml, hown, hts⟩, ⟨-, hK, -⟩, -⟩ := C
  exact va_get hx hb hts hin hown hK hP k (wl_obj ci hk hkd hci) hc j hj (hts _ hlink) (fun x h => by rw [← hsame]; exact h) hv hdg kk
theorem r_put (C : Cx g n p s m meth c args cc nL ret Ts own) (hP : va_P g.1 vwCl (wl g n v) H) (hS : va_S (wA g n) s.heap H locs) (k ci : Nat) (hk : k < n) (hkd : kd k = ci) (hci : ci < 7) {Cn : String} {T : u_T} {N : Nat} (hc : vwCl[ci]? = some (Cn, T, N)) (hin : ∀ w ∈ u_ws Cn T N, w ∈ Ts) (ty0 : Nat → FieldType) (hty : ∀ k, k < N → parseFieldDescriptor (T k).2.2.1 = some (ty0 k)) (hnm : ∀ a, a < N → ∀ b, b < N → a ≠ b → (T a).2.1 ≠ (T b).2.1) {index : Nat} (j : Nat) (hj : j < N) {ref : String} (hlink : Cond.fieldLink own index ref (T j).2.1 (T j).2.2.1 ∈ Ts) (hsame : (T j).1 = ref) (hfin : (T j).2.2.2 = false) {x : Int32} (hn : narrow (ty0 j) (.int x) = .int x) (hfit : fits (ty0 j) (.int x) = true) (hset : fsE g (upd (v.1 k) j x) v.2 k ci = (fsE g (v.1 k) v.2 k ci).set j (.int x)) (hl : j < (fsE g (v.1 k) v.2 k ci).length) (hdg : decode cc pc = .ok (.putfield index, 3))
    (kk : ∀ (H : Heap) (locs : List Loc), va_P g.1 vwCl (wl g n (up v k j x)) H → va_S (wA g n) s.heap H locs → W p l e R s m args below meth c H locs cells slots Q (F0 m (pc + 3) ls rest)) : W p l e R s m args below meth c H locs cells slots Q (F0 m pc ls (.int x :: .ref (gA g k) :: rest)) := by
  obtain ⟨⟨hx, hb, hml, hown, hts⟩, ⟨hJ, hK, -⟩, -⟩ := C
  refine va_put hx hb hts hin ty0 hty hnm hown hK hP (wl_D hJ.1 v) hS k (wl_obj ci hk hkd hci) hc j hj (hts _ hlink) (fun x h => by rw [← hsame]; exact h) hfin (hty j hj) hn hfit hl hdg (fun H1 locs1 h1 _ h3 => ?_)
  rw [wl_setO hk hkd hci hset] at h1
  exact kk H1 locs1 h1 h3
theorem r_putL (C : Cx g n p s m meth c args cc nL ret Ts own) (hP : va_P g.1 vwCl (wl g n v) H) (hS : va_S (wA g n) s.heap H locs) (hin : ∀ w ∈ u_ws RX6 TX6 17, w ∈ Ts) {index : Nat} (hlink : Cond.fieldLink own index RX6 "value" "J" ∈ Ts) {x : Int64} (hdg : decode cc pc = .ok (.putfield index, 3))
    (kk : ∀ (H : Heap) (locs : List Loc), va_P g.1 vwCl (wl g n (upL v x)) H → va_S (wA g n) s.heap H locs → W p l e R s m args below meth c H locs cells slots Q (F0 m (pc + 3) ls rest)) : W p l e R s m args below meth c H locs cells slots Q (F0 m pc ls (.long x :: .ref (gA g 53) :: rest)) := by
  obtain ⟨⟨hx, hb, hml, hown, hts⟩, ⟨hJ, hK, -⟩, -⟩ := C
  have hn : 53 < n := by have := hJ.2; omega
  refine va_put hx hb hts hin tyX6 tyX6_ok nmX6 hown hK hP (wl_D hJ.1 v) hS 53 (wl_obj 6 hn rfl (by decide)) rfl 11 (by decide) (hts _ hlink) (fun x h => h) rfl (tyX6_ok 11 (by decide)) rfl rfl (by simp [fsE]) hdg (fun H1 locs1 h1 _ h3 => ?_)
  rw [wl_setL hn hJ.2.2] at h1
  exact kk H1 locs1 h1 h3
theorem r_iald (C : Cx g n p s m meth c args cc nL ret Ts own) (hP : va_P g.1 vwCl (wl g n v) H) (k : Nat) (hk : k < n) (hkd : kd k = 8) {i : Int32} (j : Nat) (hi : i = nI j) {N : Nat} (hN : ln k = N) (hN2 : N ≤ 160) (hj : j < N) (hdg : decode cc pc = .ok (.iaload, 1))
    (kk : W p l e R s m args below meth c H locs cells slots Q (F0 m (pc + 1) ls (.int (v.1 k j) :: rest))) : W p l e R s m args below meth c H locs cells slots Q (F0 m pc ls (.int i :: .ref (gA g k) :: rest)) := by
  obtain ⟨⟨hx, hb, hml, hown, hts⟩, ⟨-, hK, -⟩, -⟩ := C
  subst hi
  refine va_iald hx hb hK hP k 0 (wl_ia hk hkd) rfl (vp_in_nI (by omega) (by omega)) hdg ?_
  rw [nI_clamp (by omega)]
  exact kk
theorem r_bald (C : Cx g n p s m meth c args cc nL ret Ts own) (hP : va_P g.1 vwCl (wl g n v) H) (k : Nat) (hk : k < n) (hkd : kd k = 7) {i : Int32} (j : Nat) (hi : i = nI j) {N : Nat} (hN : ln k = N) (hN2 : N = 120) (hj : j < N) (hdg : decode cc pc = .ok (.baload, 1))
    (kk : W p l e R s m args below meth c H locs cells slots Q (F0 m (pc + 1) ls (.int (v.1 k j) :: rest))) : W p l e R s m args below meth c H locs cells slots Q (F0 m pc ls (.int i :: .ref (gA g k) :: rest)) := by
  obtain ⟨⟨hx, hb, hml, hown, hts⟩, ⟨-, hK, -⟩, -⟩ := C
  subst hi
  refine va_bald hx hb hK hP k 1 (wl_ba hk hkd) rfl (vp_in_nI (by omega) (by omega)) hdg ?_
  rw [nI_clamp (by omega)]
  exact kk
theorem r_iast (C : Cx g n p s m meth c args cc nL ret Ts own) (hP : va_P g.1 vwCl (wl g n v) H) (hS : va_S (wA g n) s.heap H locs) (k : Nat) (hk : k < n) (hkd : kd k = 8) {i x : Int32} (j : Nat) (hi : i = nI j) {N : Nat} (hN : ln k = N) (hN2 : N ≤ 160) (hj : j < N) (hdg : decode cc pc = .ok (.iastore, 1))
    (kk : ∀ (H : Heap) (locs : List Loc), va_P g.1 vwCl (wl g n (up v k j x)) H → va_S (wA g n) s.heap H locs → W p l e R s m args below meth c H locs cells slots Q (F0 m (pc + 1) ls rest)) : W p l e R s m args below meth c H locs cells slots Q (F0 m pc ls (.int x :: .int i :: .ref (gA g k) :: rest)) := by
  obtain ⟨⟨hx, hb, hml, hown, hts⟩, ⟨hJ, hK, -⟩, -⟩ := C
  subst hi
  refine va_iast hx hb hK hP (wl_D hJ.1 v) hS k 0 (wl_ia hk hkd) rfl (vp_in_nI (by omega) (by omega)) hdg (fun H1 locs1 h1 _ h3 => ?_)
  rw [wl_setI hk hkd, nI_clamp (by omega)] at h1
  exact kk H1 locs1 h1 h3
theorem r_bast (C : Cx g n p s m meth c args cc nL ret Ts own) (hP : va_P g.1 vwCl (wl g n v) H) (hS : va_S (wA g n) s.heap H locs) (k : Nat) (hk : k < n) (hkd : kd k = 7) {i x : Int32} (j : Nat) (hi : i = nI j) {N : Nat} (hN : ln k = N) (hN2 : N ≤ 160) (hj : j < N) (hx8 : x.toInt8.toInt32 = x) (hdg : decode cc pc = .ok (.bastore, 1))
    (kk : ∀ (H : Heap) (locs : List Loc), va_P g.1 vwCl (wl g n (up v k j x)) H → va_S (wA g n) s.heap H locs → W p l e R s m args below meth c H locs cells slots Q (F0 m (pc + 1) ls rest)) : W p l e R s m args below meth c H locs cells slots Q (F0 m pc ls (.int x :: .int i :: .ref (gA g k) :: rest)) := by
  obtain ⟨⟨hx, hb, hml, hown, hts⟩, ⟨hJ, hK, -⟩, -⟩ := C
  subst hi
  refine va_bast hx hb hK hP (wl_D hJ.1 v) hS k 1 (wl_ba hk hkd) rfl (vp_in_nI (by omega) (by omega)) hdg (fun H1 locs1 h1 _ h3 => ?_)
  rw [wl_setB hk hkd, nI_clamp (by omega), vp_nar_byte, hx8] at h1
  exact kk H1 locs1 h1 h3
theorem r_aald (C : Cx g n p s m meth c args cc nL ret Ts own) (hP : va_P g.1 vwCl (wl g n v) H) (k : Nat) (hk : k < n) (hkd : kd k = 9) {i : Int32} (j : Nat) (hi : i = nI j) (hj : j < 8) (hdg : decode cc pc = .ok (.aaload, 1))
    (kk : W p l e R s m args below meth c H locs cells slots Q (F0 m (pc + 1) ls (.ref (gA g (k + 2 + j)) :: rest))) : W p l e R s m args below meth c H locs cells slots Q (F0 m pc ls (.int i :: .ref (gA g k) :: rest)) := by
  obtain ⟨⟨hx, hb, hml, hown, hts⟩, ⟨-, hK, -⟩, -⟩ := C
  subst hi
  refine va_aldq hx hb hK hP k 2 (wl_ra hk hkd) rfl (vp_in_nI hj (by omega)) hdg ?_
  rw [nI_clamp (by omega)]
  exact kk
theorem r_aaldS (C : Cx g n p s m meth c args cc nL ret Ts own) (hP : va_P g.1 vwCl (wl g n v) H) (k : Nat) (hk : k < n) (hkd : kd k = 10) {i : Int32} (j : Nat) (hi : i = nI j) (hj : j < 4) (hdg : decode cc pc = .ok (.aaload, 1))
    (kk : W p l e R s m args below meth c H locs cells slots Q (F0 m (pc + 1) ls (.ref (gA g (k + 1 + 2 * j)) :: rest))) : W p l e R s m args below meth c H locs cells slots Q (F0 m pc ls (.int i :: .ref (gA g k) :: rest)) := by
  obtain ⟨⟨hx, hb, hml, hown, hts⟩, ⟨-, hK, -⟩, -⟩ := C
  subst hi
  refine va_aldq hx hb hK hP k 3 (wl_sa hk hkd) rfl (vp_in_nI hj (by omega)) hdg ?_
  rw [nI_clamp (by omega)]
  exact kk
/-- answers -/
theorem r_iret {post : Int32 → SV → Prop} {mc ms : Nat} (C : Cx g n p s m meth c args cc nL ret Ts own) (hr : ret = some .int) (hP : va_P g.1 vwCl (wl g n v) H) (hS : va_S (wA g n) s.heap H locs) {x : Int32} (hpost : post x v) (hdg : decode cc pc = .ok (.ireturn, 1)) : W p l e R s m args below meth c H locs mc ms (MQ below (QI g n post) args s mc ms (wA g n)) (F0 m pc ls [.int x]) := by
  obtain ⟨⟨hx, hb, hml, hown, hts⟩, hZ, hret, hlocks⟩ := C
  refine W.iret hx hb (hret.trans hr) (fun t ht hW => ⟨⟨x, v, rfl, hpost, ?_, hZ.at hS ht hW⟩, hS.F ht⟩) hS.2.2 hdg hlocks
  rw [ht]; exact hP
theorem r_zret {post : Int32 → SV → Prop} {mc ms : Nat} (C : Cx g n p s m meth c args cc nL ret Ts own) (hr : ret = some .boolean) (hP : va_P g.1 vwCl (wl g n v) H) (hS : va_S (wA g n) s.heap H locs) {x : Int32} (hn : narrow .boolean (.int x) = .int x) (hpost : post x v) (hdg : decode cc pc = .ok (.ireturn, 1)) : W p l e R s m args below meth c H locs mc ms (MQ below (QI g n post) args s mc ms (wA g n)) (F0 m pc ls [.int x]) := by
  obtain ⟨⟨hx, hb, hml, hown, hts⟩, hZ, hret, hlocks⟩ := C
  refine W.zret hx hb (hret.trans hr) hn (fun t ht hW => ⟨⟨x, v, rfl, hpost, ?_, hZ.at hS ht hW⟩, hS.F ht⟩) hS.2.2 hdg hlocks
  rw [ht]; exact hP
theorem r_lret {post : Int64 → SV → Prop} {mc ms : Nat} (C : Cx g n p s m meth c args cc nL ret Ts own) (hr : ret = some .long) (hP : va_P g.1 vwCl (wl g n v) H) (hS : va_S (wA g n) s.heap H locs) {x : Int64} (hpost : post x v) (hdg : decode cc pc = .ok (.lreturn, 1)) : W p l e R s m args below meth c H locs mc ms (MQ below (QL g n post) args s mc ms (wA g n)) (F0 m pc ls [.long x]) := by
  obtain ⟨⟨hx, hb, hml, hown, hts⟩, hZ, hret, hlocks⟩ := C
  refine W.lret hx hb (hret.trans hr) (fun t ht hW => ⟨⟨x, v, rfl, hpost, ?_, hZ.at hS ht hW⟩, hS.F ht⟩) hS.2.2 hdg hlocks
  rw [ht]; exact hP
theorem r_vret {post : SV → Prop} {mc ms : Nat} (C : Cx g n p s m meth c args cc nL ret Ts own) (hr : ret = none) (hP : va_P g.1 vwCl (wl g n v) H) (hS : va_S (wA g n) s.heap H locs) (hpost : post v) (hdg : decode cc pc = .ok (.return_, 1)) : W p l e R s m args below meth c H locs mc ms (MQ below (QV g n post) args s mc ms (wA g n)) (F0 m pc ls []) := by
  obtain ⟨⟨hx, hb, hml, hown, hts⟩, hZ, hret, hlocks⟩ := C
  refine W.vret hx hb (hret.trans hr) (fun t ht hW => ⟨⟨v, rfl, hpost, ?_, hZ.at hS ht hW⟩, hS.F ht⟩) hS.2.2 hdg hlocks
  rw [ht]; exact hP
/-- calls -/
theorem r_preS (C : Cx g n p s m meth c args cc nL ret Ts own) (hP : va_P g.1 vwCl (wl g n v) H) (hS : va_S (wA g n) s.heap H locs) (As : List Value) : PreS s H (PW g n v As) As := by
  obtain ⟨-, hZ, -⟩ := C
  exact ⟨PW_blind g n v As, fun U hU hW => ⟨rfl, by rw [hU]; exact hP, hZ.at hS hU hW⟩⟩
theorem r_preV (C : Cx g n p s m meth c args cc nL ret Ts own) (hP : va_P g.1 vwCl (wl g n v) H) (hS : va_S (wA g n) s.heap H locs) (k ci : Nat) (hk : k < n) (hkd : kd k = ci) (hci : ci < 7) {Cn : String} {T : u_T} {N : Nat} (hc : vwCl[ci]? = some (Cn, T, N)) (As : List Value) : PreV s H Cn (gA g k) (PW g n v (.ref (gA g k) :: As)) As := by
  obtain ⟨-, hZ, -⟩ := C
  exact ⟨PW_blind g n v _, va_recv hZ.2.1 hP hc (wl_obj ci hk hkd hci), fun U hU hW => ⟨rfl, by rw [hU]; exact hP, hZ.at hS hU hW⟩⟩
/-- how a contract ends: a number and a state; yes or no; a state -/
def QF (g : GG) (n : Nat) (F : Int32) (G : SV) : Array Value → State → Outcome → State → Prop := QI g n (fun x u => x = F ∧ u = G)
def QB (g : GG) (n : Nat) (P : Prop) (G : SV) : Array Value → State → Outcome → State → Prop := QI g n (fun x u => ((x = 1 ∧ P) ∨ (x = 0 ∧ ¬ P)) ∧ u = G)
def QG (g : GG) (n : Nat) (G : SV) : Array Value → State → Outcome → State → Prop := QV g n (fun u => u = G)
def QJ (g : GG) (n : Nat) (F : Int64) (G : SV) : Array Value → State → Outcome → State → Prop := QL g n (fun x u => x = F ∧ u = G)
theorem a_I {post : Int32 → SV → Prop} {a : Array Value} {st0 : List Value} (hS : va_S (wA g n) s.heap H locs) (hr : va_Run p l e R s m args below meth c H locs cells slots 0 0 (F0 m pc ls st0) rest (QI g n post a) (wA g n))
    (kk : ∀ (r : Int32) (u : SV) (H : Heap) (locs : List Loc), post r u → va_P g.1 vwCl (wl g n u) H → va_S (wA g n) s.heap H locs → W p l e R s m args below meth c H locs cells slots Q (F0 m (pc + 3) ls (.int r :: rest))) : W p l e R s m args below meth c H locs cells slots Q (F0 m pc ls st0) := by
  refine va_calli hr hS (fun q _ h => h) (fun q h => h) (fun r u t H1 locs1 ht _ hw hB _ _ hS1 => ?_)
  exact kk r u H1 locs1 hw (by rw [← ht]; exact hB.1) hS1
theorem a_L {post : Int64 → SV → Prop} {a : Array Value} {st0 : List Value} (hS : va_S (wA g n) s.heap H locs) (hr : va_Run p l e R s m args below meth c H locs cells slots 0 0 (F0 m pc ls st0) rest (QL g n post a) (wA g n))
    (kk : ∀ (r : Int64) (u : SV) (H : Heap) (locs : List Loc), post r u → va_P g.1 vwCl (wl g n u) H → va_S (wA g n) s.heap H locs → W p l e R s m args below meth c H locs cells slots Q (F0 m (pc + 3) ls (.long r :: rest))) : W p l e R s m args below meth c H locs cells slots Q (F0 m pc ls st0) := by
  refine va_calll hr hS (fun q _ h => h) (fun q h => h) (fun r u t H1 locs1 ht _ hw hB _ _ hS1 => ?_)
  exact kk r u H1 locs1 hw (by rw [← ht]; exact hB.1) hS1
theorem a_V {post : SV → Prop} {a : Array Value} {st0 : List Value} (hS : va_S (wA g n) s.heap H locs) (hr : va_Run p l e R s m args below meth c H locs cells slots 0 0 (F0 m pc ls st0) rest (QV g n post a) (wA g n))
    (kk : ∀ (u : SV) (H : Heap) (locs : List Loc), post u → va_P g.1 vwCl (wl g n u) H → va_S (wA g n) s.heap H locs → W p l e R s m args below meth c H locs cells slots Q (F0 m (pc + 3) ls rest)) : W p l e R s m args below meth c H locs cells slots Q (F0 m pc ls st0) := by
  refine va_callv hr hS (fun q _ h => h) (fun q h => h) (fun u t H1 locs1 ht _ hw hB _ _ hS1 => ?_)
  exact kk u H1 locs1 hw (by rw [← ht]; exact hB.1) hS1
theorem a_F {F : Int32} {G : SV} {a : Array Value} {st0 : List Value} (hS : va_S (wA g n) s.heap H locs) (hr : va_Run p l e R s m args below meth c H locs cells slots 0 0 (F0 m pc ls st0) rest (QF g n F G a) (wA g n))
    (kk : ∀ (H : Heap) (locs : List Loc), va_P g.1 vwCl (wl g n G) H → va_S (wA g n) s.heap H locs → W p l e R s m args below meth c H locs cells slots Q (F0 m (pc + 3) ls (.int F :: rest))) : W p l e R s m args below meth c H locs cells slots Q (F0 m pc ls st0) := by
  refine a_I hS hr (fun r u H locs hw hP hS => ?_)
  obtain ⟨rfl, rfl⟩ := hw
  exact kk H locs hP hS
theorem a_J {F : Int64} {G : SV} {a : Array Value} {st0 : List Value} (hS : va_S (wA g n) s.heap H locs) (hr : va_Run p l e R s m args below meth c H locs cells slots 0 0 (F0 m pc ls st0) rest (QJ g n F G a) (wA g n))
    (kk : ∀ (H : Heap) (locs : List Loc), va_P g.1 vwCl (wl g n G) H → va_S (wA g n) s.heap H locs → W p l e R s m args below meth c H locs cells slots Q (F0 m (pc + 3) ls (.long F :: rest))) : W p l e R s m args below meth c H locs cells slots Q (F0 m pc ls st0) := by
  refine a_L hS hr (fun r u H locs hw hP hS => ?_)
  obtain ⟨rfl, rfl⟩ := hw
  exact kk H locs hP hS
theorem a_G {G : SV} {a : Array Value} {st0 : List Value} (hS : va_S (wA g n) s.heap H locs) (hr : va_Run p l e R s m args below meth c H locs cells slots 0 0 (F0 m pc ls st0) rest (QG g n G a) (wA g n))
    (kk : ∀ (H : Heap) (locs : List Loc), va_P g.1 vwCl (wl g n G) H → va_S (wA g n) s.heap H locs → W p l e R s m args below meth c H locs cells slots Q (F0 m (pc + 3) ls rest)) : W p l e R s m args below meth c H locs cells slots Q (F0 m pc ls st0) := by
  refine a_V hS hr (fun u H locs hw hP hS => ?_)
  cases hw
  exact kk H locs hP hS
theorem a_B {P : Prop} {G : SV} {a : Array Value} {st0 : List Value} (hS : va_S (wA g n) s.heap H locs) (hr : va_Run p l e R s m args below meth c H locs cells slots 0 0 (F0 m pc ls st0) rest (QB g n P G a) (wA g n))
    (kt : P → ∀ (H : Heap) (locs : List Loc), va_P g.1 vwCl (wl g n G) H → va_S (wA g n) s.heap H locs → W p l e R s m args below meth c H locs cells slots Q (F0 m (pc + 3) ls (.int 1 :: rest))) (kf : ¬ P → ∀ (H : Heap) (locs : List Loc), va_P g.1 vwCl (wl g n G) H → va_S (wA g n) s.heap H locs → W p l e R s m args below meth c H locs cells slots Q (F0 m (pc + 3) ls (.int 0 :: rest))) : W p l e R s m args below meth c H locs cells slots Q (F0 m pc ls st0) := by
  refine a_I hS hr (fun r u H locs hw hP hS => ?_)
  obtain ⟨⟨rfl, h⟩ | ⟨rfl, h⟩, rfl⟩ := hw
  · exact kt h H locs hP hS
  · exact kf h H locs hP hS
/-- answers in the short forms -/
theorem t_F {F : Int32} {G : SV} {mc ms : Nat} (C : Cx g n p s m meth c args cc nL ret Ts own) (hr : ret = some .int) (hP : va_P g.1 vwCl (wl g n v) H) (hS : va_S (wA g n) s.heap H locs) {x : Int32} (h1 : x = F) (h2 : v = G) (hdg : decode cc pc = .ok (.ireturn, 1)) : W p l e R s m args below meth c H locs mc ms (MQ below (QF g n F G) args s mc ms (wA g n)) (F0 m pc ls [.int x]) :=
  r_iret C hr hP hS ⟨h1, h2⟩ hdg
theorem t_J {F : Int64} {G : SV} {mc ms : Nat} (C : Cx g n p s m meth c args cc nL ret Ts own) (hr : ret = some .long) (hP : va_P g.1 vwCl (wl g n v) H) (hS : va_S (wA g n) s.heap H locs) {x : Int64} (h1 : x = F) (h2 : v = G) (hdg : decode cc pc = .ok (.lreturn, 1)) : W p l e R s m args below meth c H locs mc ms (MQ below (QJ g n F G) args s mc ms (wA g n)) (F0 m pc ls [.long x]) :=
  r_lret C hr hP hS ⟨h1, h2⟩ hdg
theorem t_1 {P : Prop} {G : SV} {mc ms : Nat} (C : Cx g n p s m meth c args cc nL ret Ts own) (hr : ret = some .boolean) (hP : va_P g.1 vwCl (wl g n v) H) (hS : va_S (wA g n) s.heap H locs) (h1 : P) (h2 : v = G) (hdg : decode cc pc = .ok (.ireturn, 1)) : W p l e R s m args below meth c H locs mc ms (MQ below (QB g n P G) args s mc ms (wA g n)) (F0 m pc ls [.int 1]) :=
  r_zret C hr hP hS rfl ⟨Or.inl ⟨rfl, h1⟩, h2⟩ hdg
theorem t_0 {P : Prop} {G : SV} {mc ms : Nat} (C : Cx g n p s m meth c args cc nL ret Ts own) (hr : ret = some .boolean) (hP : va_P g.1 vwCl (wl g n v) H) (hS : va_S (wA g n) s.heap H locs) (h1 : ¬ P) (h2 : v = G) (hdg : decode cc pc = .ok (.ireturn, 1)) : W p l e R s m args below meth c H locs mc ms (MQ below (QB g n P G) args s mc ms (wA g n)) (F0 m pc ls [.int 0]) :=
  r_zret C hr hP hS rfl ⟨Or.inr ⟨rfl, h1⟩, h2⟩ hdg
theorem t_G {G : SV} {mc ms : Nat} (C : Cx g n p s m meth c args cc nL ret Ts own) (hr : ret = none) (hP : va_P g.1 vwCl (wl g n v) H) (hS : va_S (wA g n) s.heap H locs) (h2 : v = G) (hdg : decode cc pc = .ok (.return_, 1)) : W p l e R s m args below meth c H locs mc ms (MQ below (QG g n G) args s mc ms (wA g n)) (F0 m pc ls []) :=
  r_vret C hr hP hS h2 hdg
variable {y : MethodName} {bytes : ByteArray} {maxL na index : Nat} {cret : Option FieldType} {ws ws' : List Cond} {rm : Room} {Qc : Array Value → State → Outcome → State → Prop}
abbrev RoomOk (rm R : Room) (maxL : Nat) : Prop := rm.frames + 1 ≤ R.frames ∧ 8 + (maxL + 11) + rm.locals ≤ R.locals
abbrev HdS (y : MethodName) (na : Nat) : Prop := y.cls ≠ "java/lang/invoke/MethodHandle" ∧ y.cls ≠ "java/lang/invoke/VarHandle" ∧ (parseMethodDescriptor y.desc).map (fun d => d.parameters.length) = some na
theorem run_V (C : Cx g n p s m meth c args cc nL ret Ts own) (hP : va_P g.1 vwCl (wl g n v) H) (hS : va_S (wA g n) s.heap H locs) (hl : ls.size = nL) (k ci : Nat) (hk : k < n) (hkd : kd k = ci) (hci : ci < 7) {Cn : String} {T : u_T} {N : Nat} (hc : vwCl[ci]? = some (Cn, T, N)) (As : List Value) (hM : Met l y ws rm (PW g n v (.ref (gA g k) :: As)) Qc 0 0 (wA g n)) (hG : GoodIn Ts (wsV own index Cn y ws)) (hC : y.cls = Cn) (hd : HdS y na) (hw : ws = Cond.code y bytes maxL cret :: ws') (hrm : rm.cells = 0 ∧ rm.slots = 0) (hR : RoomOk rm R maxL) (hn : As.length = na) {st0 : List Value} (rest : List Value) (hst : st0 = As.reverse ++ .ref (gA g k) :: rest) (hW : (rest.map fun v => v.category).sum ≤ 8) (hdg : decode cc pc = .ok (.invokevirtual index, 3)) (hf : cells ≤ R.cells ∧ slots ≤ R.slots) :
    va_Run p l e R s m args below meth c H locs cells slots 0 0 (F0 m pc ls st0) rest (Qc (Value.ref (gA g k) :: As).toArray) (wA g n) :=
  va_runV C.1 hM (cwV na C.1.2.2.2.2 hG hw hrm.1 hrm.2 ⟨hC, hd⟩ hR) (r_preV C hP hS k ci hk hkd hci hc As) rfl hn hl hst (lv_room hW) hdg hf
theorem run_S (C : Cx g n p s m meth c args cc nL ret Ts own) (hP : va_P g.1 vwCl (wl g n v) H) (hS : va_S (wA g n) s.heap H locs) (hl : ls.size = nL) (As : List Value) (hM : Met l y ws rm (PW g n v As) Qc 0 0 (wA g n)) (hG : GoodIn Ts (va_wsS own index y ws)) (hd : HdS y na) (hw : ws = Cond.code y bytes maxL cret :: ws') (hrm : rm.cells = 0 ∧ rm.slots = 0) (hR : RoomOk rm R maxL) (hn : As.length = na) {st0 : List Value} (rest : List Value) (hst : st0 = As.reverse ++ rest) (hW : (rest.map fun v => v.category).sum ≤ 8) (hdg : decode cc pc = .ok (.invokestatic index, 3)) (hf : cells ≤ R.cells ∧ slots ≤ R.slots) :
    va_Run p l e R s m args below meth c H locs cells slots 0 0 (F0 m pc ls st0) rest (Qc As.toArray) (wA g n) :=
  va_runS C.1 hM (va_cwS na C.1.2.2.2.2 hG hw hrm.1 hrm.2 hd hR) (r_preS C hP hS As) rfl hn hl hst (lv_room hW) hdg hf
theorem run_SN (host : String) (C : Cx g n p s m meth c args cc nL ret Ts own) (hP : va_P g.1 vwCl (wl g n v) H) (hS : va_S (wA g n) s.heap H locs) (hl : ls.size = nL) (As : List Value) (hM : Met l y ws rm (PW g n v As) Qc 0 0 (wA g n)) (hG : GoodIn Ts ws) (hN : va_Nw (.methodLinkNest own index y host) s) (hini : Cond.initialized y.cls ∈ Ts) (hst2 : Cond.static y ∈ Ts) (hd : HdS y na) (hw : ws = Cond.code y bytes maxL cret :: ws') (hrm : rm.cells = 0 ∧ rm.slots = 0) (hR : RoomOk rm R maxL) (hn : As.length = na) {st0 : List Value} (rest : List Value) (hst : st0 = As.reverse ++ rest) (hW : (rest.map fun v => v.category).sum ≤ 8) (hdg : decode cc pc = .ok (.invokestatic index, 3)) (hf : cells ≤ R.cells ∧ slots ≤ R.slots) :
    va_Run p l e R s m args below meth c H locs cells slots 0 0 (F0 m pc ls st0) rest (Qc As.toArray) (wA g n) :=
  va_runSN C.1 hM ⟨va_cnB na C.1.2.2.2.2 hG hw hrm.1 hrm.2 hN (C.1.2.2.2.2 _ hini) hd hR, C.1.2.2.2.2 _ hst2, trivial⟩ (r_preS C hP hS As) rfl hn hl hst (lv_room hW) hdg hf
end ROWS
