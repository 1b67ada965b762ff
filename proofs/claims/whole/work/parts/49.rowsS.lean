/-! texts of the reader's words -/
section ROWS4
variable {g : GG} {n : Nat} {p : Program} {l : Launch} {e : Env} {R : Room} {s : State} {m : MethodId} {args : Array Value} {below : List Frame} {meth : Method} {c : Code} {H : Heap} {locs : List Loc} {cells slots : Nat} {Q : State → Prop} {cc : ByteArray} {nL : Nat} {ret : Option FieldType} {Ts : List Cond} {own : String} {pc : Nat} {ls : Array Slot} {rest : List Value} {v : SV}
variable {y : MethodName} {bytes : ByteArray} {maxL na index : Nat} {cret : Option FieldType} {ws ws' : List Cond} {rm : Room} {Qc : Array Value → State → Outcome → State → Prop}
theorem run_K (C : Cx g n p s m meth c args cc nL ret Ts own) (hP : va_P g.1 vwCl (wl g n v) H) (hS : va_S (wA g n) s.heap H locs) (hl : ls.size = nL) (i : Nat) (hi : i < 15) (As : List Value) (hM : Met l y ws rm (PW g n v (.ref (gK g i) :: As)) Qc 0 0 (wA g n)) (hG : GoodIn Ts (wsV own index "java/lang/String" y ws)) (hC : y.cls = "java/lang/String") (hd : HdS y na) (hw : ws = Cond.code y bytes maxL cret :: ws') (hrm : rm.cells = 0 ∧ rm.slots = 0) (hR : RoomOk rm R maxL) (hn : As.length = na) {st0 : List Value} (rest : List Value) (hst : st0 = As.reverse ++ .ref (gK g i) :: rest) (hW : (rest.map fun v => v.category).sum ≤ 8) (hdg : decode cc pc = .ok (.invokevirtual index, 3)) (hf : cells ≤ R.cells ∧ slots ≤ R.slots) :
    va_Run p l e R s m args below meth c H locs cells slots 0 0 (F0 m pc ls st0) rest (Qc (Value.ref (gK g i) :: As).toArray) (wA g n) := by
  have hp : PreV s H "java/lang/String" (gK g i) (PW g n v (.ref (gK g i) :: As)) As := by
    obtain ⟨-, hZ, -⟩ := C
    exact ⟨PW_blind g n v _, vk_recv hZ.2.2.1.2.2.2.1 hi hS, fun U hU hW => ⟨rfl, by rw [hU]; exact hP, hZ.at hS hU hW⟩⟩
  exact va_runV C.1 hM (cwV na C.1.2.2.2.2 hG hw hrm.1 hrm.2 ⟨hC, hd⟩ hR) hp rfl hn hl hst (lv_room hW) hdg hf
theorem r_nret {post : Int32 → SV → Prop} {mc ms : Nat} {ty : FieldType} (C : Cx g n p s m meth c args cc nL ret Ts own) (hr : ret = some ty) (hP : va_P g.1 vwCl (wl g n v) H) (hS : va_S (wA g n) s.heap H locs) {x : Int32} (hn : narrow ty (.int x) = .int x) (hpost : post x v) (hdg : decode cc pc = .ok (.ireturn, 1)) : W p l e R s m args below meth c H locs mc ms (MQ below (QI g n post) args s mc ms (wA g n)) (F0 m pc ls [.int x]) := by
  obtain ⟨⟨hx, hb, hml, hown, hts⟩, hZ, hret, hlocks⟩ := C
  refine W.zret hx hb (hret.trans hr) hn (fun t ht hW => ⟨⟨x, v, rfl, hpost, ?_, hZ.at hS ht hW⟩, hS.F ht⟩) hS.2.2 hdg hlocks
  rw [ht]; exact hP
/-- a text is handed back -/
def QS (g : GG) (n : Nat) (i : Nat) (v : SV) : Array Value → State → Outcome → State → Prop := va_Qr (fun u : SV => u = v) (fun u a t => Wd g n u t ∧ a = gK g i) (wA g n)
theorem r_sret {mc ms : Nat} {nm : String} {i : Nat} (C : Cx g n p s m meth c args cc nL ret Ts own) (hr : ret = some (.object nm)) (hP : va_P g.1 vwCl (wl g n v) H) (hS : va_S (wA g n) s.heap H locs) (hdg : decode cc pc = .ok (.areturn, 1)) : W p l e R s m args below meth c H locs mc ms (MQ below (QS g n i v) args s mc ms (wA g n)) (F0 m pc ls [.ref (gK g i)]) := by
  obtain ⟨⟨hx, hb, hml, hown, hts⟩, hZ, hret, hlocks⟩ := C
  refine W.aret hx hb (hret.trans hr) (Or.inl ⟨nm, rfl⟩) (Or.inr ⟨_, rfl⟩) (fun t ht hW => ⟨⟨v, gK g i, rfl, rfl, ⟨?_, hZ.at hS ht hW⟩, rfl⟩, hS.F ht⟩) hS.2.2 hdg hlocks
  rw [ht]; exact hP
theorem a_S {i : Nat} {a : Array Value} {st0 : List Value} (hS : va_S (wA g n) s.heap H locs) (hr : va_Run p l e R s m args below meth c H locs cells slots 0 0 (F0 m pc ls st0) rest (QS g n i v a) (wA g n))
    (kk : ∀ (H : Heap) (locs : List Loc), va_P g.1 vwCl (wl g n v) H → va_S (wA g n) s.heap H locs → W p l e R s m args below meth c H locs cells slots Q (F0 m (pc + 3) ls (.ref (gK g i) :: rest))) : W p l e R s m args below meth c H locs cells slots Q (F0 m pc ls st0) := by
  refine va_callr hr hS (fun q _ h => h) (fun q h => h) (fun u ra t H1 locs1 ht _ hw hB _ _ hS1 => ?_)
  obtain ⟨hB1, rfl⟩ := hB
  subst hw
  exact kk H1 locs1 (by rw [← ht]; exact hB1.1) hS1
theorem r_slen (C : Cx g n p s m meth c args cc nL ret Ts own) (hS : va_S (wA g n) s.heap H locs) (i : Nat) (hi : i < 15) (hdg : decode cc pc = .ok (.arraylength, 1))
    (kk : W p l e R s m args below meth c H locs cells slots Q (F0 m (pc + 1) ls (.int (nI (wdN.getD i 0)) :: rest))) : W p l e R s m args below meth c H locs cells slots Q (F0 m pc ls (.ref (gV g i) :: rest)) := by
  obtain ⟨⟨hx, hb, hml, hown, hts⟩, hZ, -⟩ := C
  exact va_tlen hx hb (hZ.2.2.1.2.2.2.1.1 i hi).2.2.2 hS rfl hdg kk
theorem r_sald (C : Cx g n p s m meth c args cc nL ret Ts own) (hS : va_S (wA g n) s.heap H locs) (i : Nat) (hi : i < 15) {x : Int32} (j : Nat) (hx2 : x = nI j) (hj : j < wdN.getD i 0) (hj2 : wdN.getD i 0 < 2 ^ 31) (hdg : decode cc pc = .ok (.baload, 1))
    (kk : W p l e R s m args below meth c H locs cells slots Q (F0 m (pc + 1) ls (.int ((wdB.getD i []).getD j 0) :: rest))) : W p l e R s m args below meth c H locs cells slots Q (F0 m pc ls (.int x :: .ref (gV g i) :: rest)) := by
  obtain ⟨⟨hx, hb, hml, hown, hts⟩, hZ, -⟩ := C
  subst hx2
  exact va_tb hx hb (hZ.2.2.1.2.2.2.1.1 i hi).2.2.2 hS (vp_in_nI hj hj2) (by rw [nI_clamp (by omega)]) hdg kk
end ROWS4
/-- the k-th letter of word i -/
def chW (i k : Nat) : Int32 := (wdB.getD i []).getD k 0
theorem wd_lt : ∀ i, i < 15 → 1 ≤ wdN.getD i 0 ∧ wdN.getD i 0 ≤ 8 := by decide +kernel
theorem ch_ok : ∀ i, i < 15 → ∀ k, k < 8 → (((chW i k) &&& 255).toUInt32 % 65536).toInt32 = chW i k ∧ narrow .char (.int (chW i k)) = .int (chW i k) := by decide +kernel
theorem sh_0 : ∀ i, i < 15 → nI (wdN.getD i 0) >>> ((0 : Int32) &&& 31) = nI (wdN.getD i 0) := by decide +kernel
