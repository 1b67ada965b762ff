/-! the world with a reader in it -/
theorem at_ref {D : va_G} {cl : List vw_C} {a n : Nat} {cA : ClassId} {f f2 : Nat → Option Nat} {H : Heap} (h : va_at D cl (a, .inl (cA, n, .inr (.inr (.inr (.inr f))))) H) (e : ∀ j, j < n → f j = f2 j) : va_at D cl (a, .inl (cA, n, .inr (.inr (.inr (.inr f2))))) H := by
  have h1 : H[a]? = some (arrV cA n (fun j => va_rf (f j))) := h
  have e2 : arrV cA n (fun j => va_rf (f j)) = arrV cA n (fun j => va_rf (f2 j)) := by
    unfold arrV
    congr 1
    congr 1
    funext j
    show va_rf (f j.val) = va_rf (f2 j.val)
    rw [e j.val j.isLt]
  show H[a]? = some (arrV cA n (fun j => va_rf (f2 j)))
  rw [← e2]
  exact h1
theorem kd_in : ∀ k, k < 64 → (kd k = 1 → k + 1 < 64) ∧ (kd k = 2 → k + 4 < 64) ∧ (kd k = 3 → k + 1 < 64) ∧ kd k ≠ 4 ∧ (kd k = 9 → k + 9 < 64) ∧ (kd k = 10 → k + 7 < 64) ∧ kd k ≤ 10 := by decide +kernel
/-- cells below 64 look the same in two worlds whose addresses are the same there -/
theorem cE_go {g g2 : GG} {v v2 : SV} {k : Nat} {H : Heap} (hk : k < 64) (h1 : g2.1 = g.1) (h2 : g2.2.1 = g.2.1) (hA : ∀ j, j < 64 → gA g2 j = gA g j) (hv : v2.1 k = v.1 k) (hL : v2.2 = v.2) (h : va_at g.1 vwCl (gA g k, cE g v k) H) : va_at g2.1 vwCl (gA g2 k, cE g2 v2 k) H := by
  obtain ⟨q1, q2, q3, q4, q9, q10, qm⟩ := kd_in k hk
  rw [hA k hk, h1]
  unfold cE at h ⊢
  by_cases c7 : kd k < 7
  · rw [if_pos c7] at h ⊢
    have e : fsE g2 (v2.1 k) v2.2 k (kd k) = fsE g (v.1 k) v.2 k (kd k) := by
      rw [hv, hL]
      have : kd k = 0 ∨ kd k = 1 ∨ kd k = 2 ∨ kd k = 3 ∨ kd k = 5 ∨ kd k = 6 := by omega
      rcases this with z | z | z | z | z | z
      · rw [z]; rfl
      · rw [z]; unfold fsE; simp only []; rw [hA (k + 1) (q1 z)]
      · rw [z]; unfold fsE; simp only []; have := q2 z; rw [hA (k + 1) (by omega), hA (k + 2) (by omega), hA (k + 3) (by omega), hA (k + 4) (by omega)]
      · rw [z]; unfold fsE; simp only []; rw [hA (k + 1) (q3 z)]
      · rw [z]; unfold fsE; simp only []; rw [hA 1 (by decide), hA 14 (by decide), hA 27 (by decide), hA 40 (by decide), hA 41 (by decide), hA 43 (by decide), hA 52 (by decide)]
      · rw [z]; unfold fsE; simp only []; rw [hA 54 (by decide), hA 55 (by decide), hA 56 (by decide), hA 57 (by decide), hA 58 (by decide), hA 59 (by decide), hA 60 (by decide), hA 61 (by decide), hA 62 (by decide), hA 63 (by decide)]
    rw [e]; exact h
  · rw [if_neg c7] at h ⊢
    by_cases c8 : kd k = 7
    · rw [if_pos c8] at h ⊢; rw [hv, h2]; exact h
    · rw [if_neg c8] at h ⊢
      by_cases c9 : kd k = 8
      · rw [if_pos c9] at h ⊢; rw [hv, h2]; exact h
      · rw [if_neg c9] at h ⊢
        by_cases c10 : kd k = 9
        · rw [if_pos c10] at h ⊢; rw [h2]
          have := q9 c10
          exact at_ref h (fun j hj => by rw [hA _ (by omega)])
        · rw [if_neg c10] at h ⊢; rw [h2]
          have := q10 (by omega)
          exact at_ref h (fun j hj => by rw [hA _ (by omega)])
abbrev gR (g : GG) (q : Nat) : GG := (g.1, g.2.1, (fun k => if k = 64 then q else gA g k), g.2.2.2)
theorem gR_lo (g : GG) (q : Nat) : ∀ j, j < 64 → gA (gR g q) j = gA g j := fun j hj => if_neg (by omega)
theorem P65 {g : GG} {q : Nat} {v v2 : SV} {H : Heap} (hv : ∀ k, k < 64 → v2.1 k = v.1 k) (hL : v2.2 = v.2) (h : va_P g.1 vwCl (wl g 64 v) H) (hq : va_P g.1 vwCl [(q, .inr (4, [.ref (gA g 41), .ref (gA g 14), .int (v2.1 64 2), .int (v2.1 64 3)]))] H) : va_P (gR g q).1 vwCl (wl (gR g q) 65 v2) H := by
  intro k z hz
  obtain ⟨hk, -⟩ := wl_fst hz
  rw [wl_get hk] at hz
  cases hz
  by_cases c : k < 64
  · exact cE_go (g := g) (g2 := gR g q) (v := v) c rfl rfl (gR_lo g q) (hv k c) hL (h k _ (wl_get c))
  · have : k = 64 := by omega
    subst this
    exact hq 0 _ rfl
theorem P64 {g : GG} {q : Nat} {v : SV} {H : Heap} (h : va_P (gR g q).1 vwCl (wl (gR g q) 65 v) H) : va_P g.1 vwCl (wl g 64 v) H := by
  intro k z hz
  obtain ⟨hk, -⟩ := wl_fst hz
  rw [wl_get hk] at hz
  cases hz
  exact cE_go (g := gR g q) (g2 := g) hk rfl rfl (fun j hj => (gR_lo g q j hj).symm) rfl rfl (h k _ (wl_get (by omega)))
section WIDE
variable {A A2 : Nat → Prop} {U : State} {H : Heap}
theorem wide_Z (hA : ∀ r, A2 r → A r ∨ H.size ≤ r) {C n d : String} {v : Value} (h : va_Z C n d v A U H) : va_Z C n d v A2 U H := by
  obtain ⟨cf, kf, fi, f, a, cell, h1, h2, h3, h4, h5, h6, h7, h8⟩ := h
  exact ⟨cf, kf, fi, f, a, cell, h1, h2, h3, h4, h5, h6, h7, fun z => (hA a z).elim h8 (fun y => absurd (Array.getElem?_eq_some_iff.mp h5).1 (by omega))⟩
theorem wide_T (hA : ∀ r, A2 r → A r ∨ H.size ≤ r) {ty : FieldType} {t N : Nat} {f : Nat → Value} (h : va_T ty t N f A U H) : va_T ty t N f A2 U H := by
  obtain ⟨cell, h1, h2, h3, h4, h5, h6, h7⟩ := h
  exact ⟨cell, h1, h2, h3, h4, h5, h6, fun z => (hA t z).elim h7 (fun y => absurd (Array.getElem?_eq_some_iff.mp h1).1 (by omega))⟩
theorem wide_O (hA : ∀ r, A2 r → A r ∨ H.size ≤ r) {E : String} {t : Nat} (h : va_O E t A U H) : va_O E t A2 U H := by
  obtain ⟨cell, h1, h2, h3, h4⟩ := h
  exact ⟨cell, h1, h2, h3, fun z => (hA t z).elim h4 (fun y => absurd (Array.getElem?_eq_some_iff.mp h1).1 (by omega))⟩
theorem wide_OF (hA : ∀ r, A2 r → A r ∨ H.size ≤ r) {o n d : String} {v : Value} {t : Nat} (h : va_OF o n d v t A U H) : va_OF o n d v t A2 U H := by
  obtain ⟨cf, k, i, f, cell, h1, h2, h3, h4, h5, h6⟩ := h
  exact ⟨cf, k, i, f, cell, h1, h2, h3, h4, h5, fun z => (hA t z).elim h6 (fun y => absurd (Array.getElem?_eq_some_iff.mp h3).1 (by omega))⟩
theorem wide_Zh (hA : ∀ r, A2 r → A r ∨ H.size ≤ r) {g g2 : GG} (e1 : gT g2 = gT g) (e2 : gK g2 = gK g) (e3 : gV g2 = gV g) (h : Zh g A U H) : Zh g2 A2 U H := by
  obtain ⟨⟨a1, a2⟩, ⟨b1, b2⟩, ⟨c1, c2⟩, ⟨d1, d2⟩, f1, f2⟩ := h
  unfold Zh
  rw [e1, e2, e3]
  refine ⟨⟨wide_Z hA a1, wide_T hA a2⟩, ⟨wide_Z hA b1, wide_T hA b2⟩, ⟨wide_Z hA c1, wide_T hA c2⟩, ⟨fun i hi => ?_, d2⟩, wide_Z hA f1, ?_⟩
  · obtain ⟨x1, x2, x3, x4⟩ := d1 i hi
    exact ⟨wide_O hA x1, wide_OF hA x2, wide_OF hA x3, wide_T hA x4⟩
  · rcases f2 with z | ⟨t, z⟩
    · exact Or.inl (wide_Z hA z)
    · exact Or.inr ⟨t, wide_Z hA z⟩
end WIDE
abbrev rmiX4 : Room := { frames := 1, cells := 0, slots := 0, locals := 20 }
set_option maxHeartbeats 4000000 in
set_option maxRecDepth 100000 in
theorem iX4 (l : Launch) (g : GG) (q t1 t2 : Nat) : Met l yX4_init wsX4_init rmiX4 (va_Pc [.ref q, .ref t1, .ref t2] (fun U => va_P g.1 vwCl [(q, .inr (4, [.null, .null, .int 0, .int 0]))] U.heap ∧ va_K g.1 vwCl (tyG g) U)) (va_Qv (S := Unit) (fun _ => True) (fun _ t => va_P g.1 vwCl [(q, .inr (4, [.ref t1, .ref t2, .int 0, .int 0]))] t.heap) (fun r => r = q)) 0 0 (fun r => r = q) := by
  refine Met.ofW (cc := cX4_init) (maxL := 3) (ret := none) (by decide) rfl ?_
  intro p e s m args below meth c s₁ B hml hv
  obtain ⟨rfl, hP, hK⟩ := hv
  have hx := B.exec
  have hb := B.bytes
  have hr := B.returns
  have hts := atoms_spec (ws := wsX4_init) B.pre
  have hown : s.vm.findClass RX4 = some m.cls := findClass_of_methodNamed B.named
  have hlocks := B.notSynchronized
  have hin : meth.name = "<init>" := (name_of_methodNamed B.named B.method).1
  have hi4 : ∀ w ∈ u_ws RX4 TX4 4, w ∈ wsX4_init := by decide +kernel
  have hS : va_S (fun r => r = q) s.heap s.heap [] := va_S.rf
  have hD : va_D (fun r => r = q) [(q, (.inr (4, [.null, .null, .int 0, .int 0]) : va_E))] := by
    refine ⟨fun i j x y hi hj _ => ?_, fun k z hk => ?_⟩
    · have h1 := (List.getElem?_eq_some_iff.mp hi).1
      have h2 := (List.getElem?_eq_some_iff.mp hj).1
      simp at h1 h2
      omega
    · have h1 := (List.getElem?_eq_some_iff.mp hk).1
      simp at h1
      subst h1
      cases hk
      rfl
  have hl := lv_entry ([.ref q, .ref t1, .ref t2]) (n := 3) (Nat.le_of_ble_eq_true rfl)
  rw [lg_entry_eq]
  generalize (lg_sl ([.ref q, .ref t1, .ref t2]) ++ List.replicate (3 - (lg_sl ([.ref q, .ref t1, .ref t2])).length) Slot.unset).toArray = ls at hl ⊢
  have hl : lv_has ls 3 [(0, .ref q), (1, .ref t1), (2, .ref t2)] := hl
  refine lv_aload_n hx hb dX4_init_0 rfl (lv_at hl 0 rfl) ?_
  refine W.objInit hx hb hown (hts _ (List.mem_of_getElem? (i := 1) rfl)) (hts _ (List.mem_of_getElem? (i := 2) rfl)) (hts _ (List.mem_of_getElem? (i := 3) rfl)) rfl (by rw [hml]; exact hl.1) rfl dX4_init_1 (Nat.le_of_ble_eq_true rfl) (Nat.le_of_ble_eq_true rfl) ?_
  refine W.eq (g2 := F0 m 4 ls []) rfl ?_
  refine lv_aload_n hx hb dX4_init_4 rfl (lv_at hl 0 rfl) ?_
  refine lv_iconst (v := 0) hx hb dX4_init_5 rfl ?_
  refine va_put hx hb hts hi4 tyX4 tyX4_ok nmX4 hown hK hP hD hS 0 rfl rfl 2 (by decide) (hts _ (List.mem_of_getElem? (i := 4) rfl)) (fun _ h => h) rfl (tyX4_ok 2 (by decide)) rfl rfl (Nat.le_of_ble_eq_true rfl) dX4_init_6 (fun H locs hP hD hS => ?_)
  refine lv_aload_n hx hb dX4_init_9 rfl (lv_at hl 0 rfl) ?_
  refine lv_iconst (v := 0) hx hb dX4_init_10 rfl ?_
  refine va_put hx hb hts hi4 tyX4 tyX4_ok nmX4 hown hK hP hD hS 0 rfl rfl 3 (by decide) (hts _ (List.mem_of_getElem? (i := 5) rfl)) (fun _ h => h) rfl (tyX4_ok 3 (by decide)) rfl rfl (Nat.le_of_ble_eq_true rfl) dX4_init_11 (fun H locs hP hD hS => ?_)
  refine lv_aload_n hx hb dX4_init_14 rfl (lv_at hl 0 rfl) ?_
  refine lv_aload_n hx hb dX4_init_15 rfl (lv_at hl 1 rfl) ?_
  refine va_putF hx hb hts hi4 tyX4 tyX4_ok nmX4 hown hK hP hD hS 0 rfl rfl 0 (by decide) (hts _ (List.mem_of_getElem? (i := 6) rfl)) (fun _ h => h) rfl hin rfl (tyX4_ok 0 (by decide)) rfl rfl (Nat.le_of_ble_eq_true rfl) dX4_init_16 (fun H locs hP hD hS => ?_)
  refine lv_aload_n hx hb dX4_init_19 rfl (lv_at hl 0 rfl) ?_
  refine lv_aload_n hx hb dX4_init_20 rfl (lv_at hl 2 rfl) ?_
  refine va_putF hx hb hts hi4 tyX4 tyX4_ok nmX4 hown hK hP hD hS 0 rfl rfl 1 (by decide) (hts _ (List.mem_of_getElem? (i := 7) rfl)) (fun _ h => h) rfl hin rfl (tyX4_ok 1 (by decide)) rfl rfl (Nat.le_of_ble_eq_true rfl) dX4_init_21 (fun H locs hP hD hS => ?_)
  exact W.vret hx hb hr (fun t ht hW => ⟨⟨(), rfl, trivial, by show va_P g.1 vwCl _ t.heap; rw [ht]; exact hP⟩, hS.F ht⟩) hS.2.2 dX4_init_24 hlocks
