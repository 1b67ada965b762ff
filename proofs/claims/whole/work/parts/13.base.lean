/-! the one world: cells 0..52 the class's, 53..63 the reference's, 64 the reader of a text -/
abbrev SV : Type := (Nat → Nat → Int32) × Int64
abbrev GG : Type := va_G × ((ClassId × ClassId) × (ClassId × ClassId)) × (Nat → Nat) × ((Nat → Nat) × (Nat → Nat)) × (Nat → Nat)
abbrev gA (g : GG) : Nat → Nat := g.2.2.1
abbrev gK (g : GG) : Nat → Nat := g.2.2.2.1.1
abbrev gV (g : GG) : Nat → Nat := g.2.2.2.1.2
abbrev gT (g : GG) : Nat → Nat := g.2.2.2.2
def kdL : List Nat := [5, 2, 8, 8, 9, 8, 0, 0, 0, 0, 0, 0, 0, 0, 2, 8, 8, 9, 8, 0, 0, 0, 0, 0, 0, 0, 0, 2, 8, 8, 9, 8, 0, 0, 0, 0, 0, 0, 0, 0, 8, 3, 7, 10, 1, 8, 1, 8, 1, 8, 1, 8, 8, 6, 8, 8, 8, 8, 8, 7, 8, 8, 8, 8, 4]
def kd (k : Nat) : Nat := kdL.getD k 99
def lnL : List Nat := [0, 0, 6, 12, 8, 10, 0, 0, 0, 0, 0, 0, 0, 0, 0, 6, 12, 8, 10, 0, 0, 0, 0, 0, 0, 0, 0, 0, 6, 12, 8, 10, 0, 0, 0, 0, 0, 0, 0, 0, 16, 0, 120, 4, 0, 40, 0, 40, 0, 40, 0, 40, 7, 0, 83, 83, 83, 83, 7, 120, 4, 4, 160, 40, 0]
def ln (k : Nat) : Nat := lnL.getD k 0
def fsE (g : GG) (r : Nat → Int32) (L : Int64) (k : Nat) (ci : Nat) : List Value := match ci with
  | 0 => [.int (r 0), .int (r 1), .int (r 2), .int (r 3), .int (r 4), .int (r 5)]
  | 1 => [.int (r 0), .int (r 1), .ref (gA g (k + 1))]
  | 2 => [.int (r 0), .int (r 1), .int (r 2), .ref (gA g (k + 1)), .ref (gA g (k + 2)), .int (r 5), .int (r 6), .int (r 7), .int (r 8), .ref (gA g (k + 3)), .ref (gA g (k + 4))]
  | 3 => [.ref (gA g (k + 1)), .int (r 1), .int (r 2), .int (r 3), .int (r 4), .int (r 5)]
  | 4 => [.ref (gA g 41), .ref (gA g 14), .int (r 2), .int (r 3)]
  | 5 => [.ref (gA g 1), .ref (gA g 14), .ref (gA g 27), .int (r 3), .ref (gA g 40), .ref (gA g 41), .ref (gA g 43), .ref (gA g 52)]
  | _ => [.ref (gA g 54), .ref (gA g 55), .ref (gA g 56), .ref (gA g 57), .int (r 4), .ref (gA g 58), .ref (gA g 59), .int (r 7), .int (r 8), .int (r 9), .int (r 10), .long L, .int (r 12), .ref (gA g 60), .ref (gA g 61), .ref (gA g 62), .ref (gA g 63)]
def cE (g : GG) (v : SV) (k : Nat) : va_E :=
  if kd k < 7 then .inr (kd k, fsE g (v.1 k) v.2 k (kd k))
  else if kd k = 7 then .inl (g.2.1.1.2, ln k, .inl (v.1 k))
  else if kd k = 8 then .inl (g.2.1.1.1, ln k, .inl (v.1 k))
  else if kd k = 9 then .inl (g.2.1.2.1, 8, .inr (.inr (.inr (.inr (fun i => some (gA g (k + 2 + i)))))))
  else .inl (g.2.1.2.2, 4, .inr (.inr (.inr (.inr (fun i => some (gA g (k + 1 + 2 * i)))))))
def wl (g : GG) (n : Nat) (v : SV) : va_W := (List.range n).map (fun k => (gA g k, cE g v k))
abbrev tyG (g : GG) : List (ClassId × FieldType) := [(g.2.1.1.1, .int), (g.2.1.1.2, .byte), (g.2.1.2.1, .object "EmptyBarrow$Resident"), (g.2.1.2.2, .object "EmptyBarrow$Sheet")]
def wA (g : GG) (n : Nat) : Nat → Prop := fun q => ∃ k, k < n ∧ q = gA g k
/-- a row of the state becomes another; a number in it -/
def upw (v : SV) (k : Nat) (r : Nat → Int32) : SV := (va_up v.1 k r, v.2)
abbrev up (v : SV) (k j : Nat) (x : Int32) : SV := upw v k (upd (v.1 k) j x)
def upL (v : SV) (x : Int64) : SV := (v.1, x)
theorem wl_get {g : GG} {n : Nat} {v : SV} {k : Nat} (h : k < n) : (wl g n v)[k]? = some (gA g k, cE g v k) := by
  simp [wl, h]
theorem wl_obj {g : GG} {n : Nat} {v : SV} {k : Nat} (ci : Nat) (h : k < n) (hk : kd k = ci) (hc : ci < 7) : (wl g n v)[k]? = some (gA g k, .inr (ci, fsE g (v.1 k) v.2 k ci)) := by
  rw [wl_get h, cE, hk, if_pos hc]
theorem wl_ba {g : GG} {n : Nat} {v : SV} {k : Nat} (h : k < n) (hk : kd k = 7) : (wl g n v)[k]? = some (gA g k, .inl (g.2.1.1.2, ln k, .inl (v.1 k))) := by
  rw [wl_get h, cE, hk]; rfl
theorem wl_ia {g : GG} {n : Nat} {v : SV} {k : Nat} (h : k < n) (hk : kd k = 8) : (wl g n v)[k]? = some (gA g k, .inl (g.2.1.1.1, ln k, .inl (v.1 k))) := by
  rw [wl_get h, cE, hk]; rfl
theorem wl_ra {g : GG} {n : Nat} {v : SV} {k : Nat} (h : k < n) (hk : kd k = 9) : (wl g n v)[k]? = some (gA g k, .inl (g.2.1.2.1, 8, .inr (.inr (.inr (.inr (fun i => some (gA g (k + 2 + i)))))))) := by
  rw [wl_get h, cE, hk]; rfl
theorem wl_sa {g : GG} {n : Nat} {v : SV} {k : Nat} (h : k < n) (hk : kd k = 10) : (wl g n v)[k]? = some (gA g k, .inl (g.2.1.2.2, 4, .inr (.inr (.inr (.inr (fun i => some (gA g (k + 1 + 2 * i)))))))) := by
  rw [wl_get h, cE, hk]; rfl
theorem upw_same (v : SV) (k : Nat) (r : Nat → Int32) : (upw v k r).1 k = r := by simp [upw, va_up]
theorem upw_ne (v : SV) {k i : Nat} (r : Nat → Int32) (h : i ≠ k) : (upw v k r).1 i = v.1 i := by simp [upw, va_up, h]
theorem upw_2 (v : SV) (k : Nat) (r : Nat → Int32) : (upw v k r).2 = v.2 := rfl
theorem wl_set {g : GG} {n : Nat} {v v' : SV} {k : Nat} {e : va_E} (h : k < n) (he : cE g v' k = e) (ho : ∀ i, i < n → i ≠ k → cE g v' i = cE g v i) : (wl g n v).set k (gA g k, e) = wl g n v' := by
  apply List.ext_getElem?
  intro i
  rw [List.getElem?_set]
  by_cases hi : k = i
  · subst hi
    rw [if_pos rfl, wl_get h, he]
    simp [wl, h]
  · rw [if_neg hi]
    by_cases hn : i < n
    · rw [wl_get hn, wl_get hn, ho i hn (fun e => hi e.symm)]
    · rw [List.getElem?_eq_none (by simp [wl]; omega), List.getElem?_eq_none (by simp [wl]; omega)]
theorem cE_ne {g : GG} {v : SV} {k i : Nat} {r : Nat → Int32} (h : i ≠ k) : cE g (upw v k r) i = cE g v i := by
  unfold cE; rw [upw_ne v r h]; rfl
theorem wl_setO {g : GG} {n : Nat} {v : SV} {k ci j : Nat} {x : Int32} (h : k < n) (hk : kd k = ci) (hc : ci < 7) (hs : fsE g (upd (v.1 k) j x) v.2 k ci = (fsE g (v.1 k) v.2 k ci).set j (.int x)) : (wl g n v).set k (gA g k, .inr (ci, (fsE g (v.1 k) v.2 k ci).set j (.int x))) = wl g n (up v k j x) :=
  wl_set h (by rw [cE, hk, if_pos hc, upw_same]; exact congrArg (fun l => Sum.inr (ci, l)) hs) (fun i _ hi => cE_ne hi)
theorem wl_setI {g : GG} {n : Nat} {v : SV} {k : Nat} {r : Nat → Int32} (h : k < n) (hk : kd k = 8) : (wl g n v).set k (gA g k, .inl (g.2.1.1.1, ln k, .inl r)) = wl g n (upw v k r) :=
  wl_set h (by rw [cE, hk, upw_same]; rfl) (fun i _ hi => cE_ne hi)
theorem wl_setB {g : GG} {n : Nat} {v : SV} {k : Nat} {r : Nat → Int32} (h : k < n) (hk : kd k = 7) : (wl g n v).set k (gA g k, .inl (g.2.1.1.2, ln k, .inl r)) = wl g n (upw v k r) :=
  wl_set h (by rw [cE, hk, upw_same]; rfl) (fun i _ hi => cE_ne hi)
theorem kd_6 : ∀ i, i < 65 → i ≠ 53 → kd i ≠ 6 := by decide +kernel
theorem fsE_L {g : GG} {r : Nat → Int32} {L L' : Int64} {k ci : Nat} (h : ci < 6) : fsE g r L k ci = fsE g r L' k ci := by
  match ci, h with
  | 0, _ => rfl
  | 1, _ => rfl
  | 2, _ => rfl
  | 3, _ => rfl
  | 4, _ => rfl
  | 5, _ => rfl
theorem wl_setL {g : GG} {n : Nat} {v : SV} {x : Int64} (h : 53 < n) (hn : n ≤ 65) : (wl g n v).set 53 (gA g 53, .inr (6, (fsE g (v.1 53) v.2 53 6).set 11 (.long x))) = wl g n (upL v x) := by
  refine wl_set h rfl (fun i hi h2 => ?_)
  have h6 := kd_6 i (by omega) h2
  unfold cE
  by_cases h7 : kd i < 7
  · rw [if_pos h7, if_pos h7]
    exact congrArg (fun l => Sum.inr (kd i, l)) (fsE_L (by omega))
  · rw [if_neg h7, if_neg h7]; rfl
theorem wl_fst {g : GG} {n : Nat} {v : SV} {k : Nat} {q : Nat × va_E} (h : (wl g n v)[k]? = some q) : k < n ∧ q.1 = gA g k := by
  by_cases hk : k < n
  · rw [wl_get hk] at h
    cases h
    exact ⟨hk, rfl⟩
  · rw [List.getElem?_eq_none (by simp [wl]; omega)] at h
    cases h
def Inj (g : GG) (n : Nat) : Prop := ∀ i j, i < n → j < n → gA g i = gA g j → i = j
theorem wl_D {g : GG} {n : Nat} (h : Inj g n) (v : SV) : va_D (wA g n) (wl g n v) := by
  refine ⟨fun i j p q hi hj e => ?_, fun k q hk => ?_⟩
  · have h1 := wl_fst hi
    have h2 := wl_fst hj
    exact h i j h1.1 h2.1 (by rw [← h1.2, ← h2.2, e])
  · have h1 := wl_fst hk
    exact ⟨k, h1.1, h1.2⟩
/-- what never changes: static tables, the texts of the reader's words, links into the nest -/
def tbC : List Int32 := [15, 5, 9]
def tbO : List Int32 := [6, 15, 4095, 99, 9999, 1]
def tbA : List Int32 := [-1, 0, 0, 1, 3, 0, 2]
def wdE : List Nat := [41, 50, 63, 65, 67, 69, 71, 73, 75, 87, 98, 102, 106, 114, 118]
def wdT : List String := ["crier", "cry", "maid", "boy", "cook", "widow", "deaf", "lad", "resident", "at", "wants", "hope", "away", "pace", "loud"]
def wdB : List (List Int32) := [[99, 114, 105, 101, 114], [99, 114, 121], [109, 97, 105, 100], [98, 111, 121], [99, 111, 111, 107], [119, 105, 100, 111, 119], [100, 101, 97, 102], [108, 97, 100], [114, 101, 115, 105, 100, 101, 110, 116], [97, 116], [119, 97, 110, 116, 115], [104, 111, 112, 101], [97, 119, 97, 121], [112, 97, 99, 101], [108, 111, 117, 100]]
def wdN : List Nat := [5, 3, 4, 3, 4, 5, 4, 3, 8, 2, 5, 4, 4, 4, 4]
def Nws (g : GG) (U : State) : Prop :=
  va_Nw (.methodLinkNest "EmptyBarrow" 32 yX3_init "EmptyBarrow") U ∧ va_Nw (.methodLinkNest "EmptyBarrow" 39 yX1_init "EmptyBarrow") U ∧ va_Nw (.methodLinkNest "EmptyBarrow$Resident" 57 yX5_isKind "EmptyBarrow") U ∧ va_Nw (.methodLinkNest "EmptyBarrow$Street" 49 yX0_init "EmptyBarrow") U ∧ va_Nw (.methodLinkNest "EmptyBarrow$Street" 66 yX5_isWithin "EmptyBarrow") U ∧ va_Nw (.fieldLinkNest "EmptyBarrow$Resident" 61 "EmptyBarrow" "ABOVE" "[I" "EmptyBarrow") U ∧ ∀ i, i < 15 → vk_R "EmptyBarrow$TextReader" (wdE.getD i 0) (wdT.getD i "") (gK g i) U
def Zh (g : GG) (A : Nat → Prop) (U : State) (H : Heap) : Prop :=
  (va_Z RX5 "TOP_OF_CRIER" "[I" (.ref (gT g 0)) A U H ∧ va_T .int (gT g 0) 3 (fun j => .int (tbC.getD j 0)) A U H) ∧ (va_Z RX5 "TOP_OF" "[I" (.ref (gT g 1)) A U H ∧ va_T .int (gT g 1) 6 (fun j => .int (tbO.getD j 0)) A U H) ∧ (va_Z RX5 "ABOVE" "[I" (.ref (gT g 2)) A U H ∧ va_T .int (gT g 2) 7 (fun j => .int (tbA.getD j 0)) A U H) ∧ vk_S 15 wdN wdB (gK g) (gV g) A U H ∧ va_Z "java/lang/String" "COMPACT_STRINGS" "Z" (.int 1) A U H ∧ va_Zq "jdk/internal/util/Preconditions" "SIOOBE_FORMATTER" "Ljava/util/function/BiFunction;" A U H
theorem Zh.moved {g : GG} {A : Nat → Prop} {u U : State} {H : Heap} (hv : u.vm.Alike U.vm) (h : Zh g A u H) : Zh g A U H := by
  obtain ⟨⟨a1, a2⟩, ⟨b1, b2⟩, ⟨c1, c2⟩, d, e1, f⟩ := h
  exact ⟨⟨a1.moved hv, a2.moved hv⟩, ⟨b1.moved hv, b2.moved hv⟩, ⟨c1.moved hv, c2.moved hv⟩, d.moved hv, e1.moved hv, f.moved hv⟩
theorem Zh.kept {g : GG} {A : Nat → Prop} {U : State} {H H1 : Heap} (hq : ∀ a : Nat, a < H.size → ¬ A a → H1[a]? = H[a]?) (h : Zh g A U H) : Zh g A U H1 := by
  obtain ⟨⟨a1, a2⟩, ⟨b1, b2⟩, ⟨c1, c2⟩, d, e1, f⟩ := h
  exact ⟨⟨a1.kept hq, a2.kept hq⟩, ⟨b1.kept hq, b2.kept hq⟩, ⟨c1.kept hq, c2.kept hq⟩, d.kept hq, e1.kept hq, f.kept hq⟩
theorem Nws.warm {g : GG} {s U : State} (hW : s.WarmedH U.vm) (h : Nws g s) : Nws g U := by
  obtain ⟨a, b, c, d, e1, f, k⟩ := h
  exact ⟨a.warmM hW, b.warmM hW, c.warmM hW, d.warmM hW, e1.warmM hW, f.warmF hW, fun i hi => (k i hi).warm hW⟩
theorem Nws.same {g : GG} {u U : State} (hv : u.vm = U.vm) (h : Nws g u) : Nws g U := by
  obtain ⟨a, b, c, d, e1, f, k⟩ := h
  exact ⟨va_Nw.same rfl hv a, va_Nw.same rfl hv b, va_Nw.same rfl hv c, va_Nw.same rfl hv d, va_Nw.same rfl hv e1, va_Nw.same rfl hv f, fun i hi => (k i hi).same hv.symm⟩
def Zs (g : GG) (n : Nat) (U : State) : Prop := (Inj g n ∧ 64 ≤ n ∧ n ≤ 65) ∧ va_K g.1 vwCl (tyG g) U ∧ Zh g (wA g n) U U.heap ∧ Nws g U
def Wd (g : GG) (n : Nat) (v : SV) (U : State) : Prop := va_P g.1 vwCl (wl g n v) U.heap ∧ Zs g n U
/-- a contract's start, its ends -/
def PW (g : GG) (n : Nat) (v : SV) (av : List Value) : Array Value → State → Prop := va_Pc av (fun U => Wd g n v U)
def QI (g : GG) (n : Nat) (post : Int32 → SV → Prop) : Array Value → State → Outcome → State → Prop := va_Qi post (fun u t => Wd g n u t) (wA g n)
def QL (g : GG) (n : Nat) (post : Int64 → SV → Prop) : Array Value → State → Outcome → State → Prop := va_Ql post (fun u t => Wd g n u t) (wA g n)
def QV (g : GG) (n : Nat) (post : SV → Prop) : Array Value → State → Outcome → State → Prop := va_Qv post (fun u t => Wd g n u t) (wA g n)
theorem Zs.at {g : GG} {n : Nat} {s U : State} {H : Heap} {locs : List Loc} (h : Zs g n s) (hS : va_S (wA g n) s.heap H locs) (hU : U.heap = H) (hW : s.WarmedH U.vm) : Zs g n U := by
  obtain ⟨h1, h2, h3, h4⟩ := h
  refine ⟨h1, h2.moved hW.alike, ?_, h4.warm hW⟩
  rw [hU]
  exact (h3.kept (fun a h5 h6 => hS.2.1 a h5 h6)).moved hW.alike
theorem PW_blind (g : GG) (n : Nat) (v : SV) (av : List Value) : FrameBlind (PW g n v av) := by
  intro a U f mk h
  obtain ⟨h0, hP, h1, h2, h3, h4⟩ := h
  exact ⟨h0, hP, h1, h2.moved (u := U) (U := U.calling f mk a) (Vm.Alike.refl U.vm), h3.moved (u := U) (U := U.calling f mk a) (Vm.Alike.refl U.vm), h4.same (u := U) (U := U.calling f mk a) rfl⟩
