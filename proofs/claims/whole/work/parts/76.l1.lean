set_option maxHeartbeats 2000000 in
set_option maxRecDepth 100000 in
theorem op_220 (l : Launch) {g : GG} {p : Program} {e : Env} {s : State} {m : MethodId} {below : List Frame} {meth : Method} {c : Code} {b L : Nat} {xs : Nat → Int32} (hL : L ≤ 3072) (C : LC g b L xs p s m c) {Q : State → Prop} {v : SV} {N : Nat} (hR : Rl v N) {t : Nat} (ht : 6 * t + 6 ≤ L) {H : Heap} {locs : List Loc} {ls : Array Slot} {cs ss : Nat} (hcs : cs + 1 ≤ 600000 ∧ ss + 4 ≤ 7302250) (hP : va_P g.1 vwCl (wl g 64 v) H) (hS : va_S (lwA s) s.heap H locs) (hl : lv_has ls 4 [(0, .ref b), (1, .ref (gA g 0)), (2, .ref (gA g 53)), (3, .int (nI (6 * t)))]) (kk : ∀ (u : SV) (N2 : Nat) (H : Heap) (locs : List Loc), Rl u N2 → va_P g.1 vwCl (wl g 64 u) H → va_S (lwA s) s.heap H locs → W p l e room_1 s m #[.ref b] below meth c H locs (cs + 1) (ss + 4) Q (F0 m 1460 ls [])) : W p l e room_1 s m #[.ref b] below meth c H locs cs ss Q (F0 m 220 ls []) := by
  refine lv_aload_n C.1.1 C.1.2.1 dL_law_220 rfl (lv_at hl 1 rfl) ?_
  refine lv_aload_n C.1.1 C.1.2.1 dL_law_221 rfl (lv_at hl 0 rfl) ?_
  refine lv_iload_n C.1.1 C.1.2.1 dL_law_222 rfl (lv_at hl 3 rfl) ?_
  refine lv_iconst (v := 1) C.1.1 C.1.2.1 dL_law_223 rfl ?_
  refine lv_iadd C.1.1 C.1.2.1 dL_law_224 ?_
  refine lv_topE (nI (6 * t + 1)) (nI_add (6 * t) 1) ?_
  refine L_ld C hS (6 * t + 1) rfl (by omega) hL dL_law_225 ?_
  refine lv_aload_n C.1.1 C.1.2.1 dL_law_226 rfl (lv_at hl 0 rfl) ?_
  refine lv_iload_n C.1.1 C.1.2.1 dL_law_227 rfl (lv_at hl 3 rfl) ?_
  refine lv_iconst (v := 2) C.1.1 C.1.2.1 dL_law_228 rfl ?_
  refine lv_iadd C.1.1 C.1.2.1 dL_law_229 ?_
  refine lv_topE (nI (6 * t + 2)) (nI_add (6 * t) 2) ?_
  refine L_ld C hS (6 * t + 2) rfl (by omega) hL dL_law_230 ?_
  refine L_I C hS (L_run C hP hS hl.1 0 5 (by decide) rfl (by decide) rfl [.int (xs (6 * t + 1)), .int (xs (6 * t + 2))] (kX5_set l g 64 v (xs (6 * t + 1)) (xs (6 * t + 2)) N hR) gL_law_X5_set rfl hdX5_set rfl ⟨rfl, rfl⟩ ⟨Nat.le_of_ble_eq_true rfl, Nat.le_of_ble_eq_true rfl⟩ rfl [] rfl (Nat.le_of_ble_eq_true rfl) dL_law_231 ⟨by omega, by omega⟩) (fun r u H locs hps hP hS => ?_)
  have hu := hps.2
  refine lv_aload_n C.1.1 C.1.2.1 dL_law_234 rfl (lv_at hl 2 rfl) ?_
  refine lv_aload_n C.1.1 C.1.2.1 dL_law_235 rfl (lv_at hl 0 rfl) ?_
  refine lv_iload_n C.1.1 C.1.2.1 dL_law_236 rfl (lv_at hl 3 rfl) ?_
  refine lv_iconst (v := 1) C.1.1 C.1.2.1 dL_law_237 rfl ?_
  refine lv_iadd C.1.1 C.1.2.1 dL_law_238 ?_
  refine lv_topE (nI (6 * t + 1)) (nI_add (6 * t) 1) ?_
  refine L_ld C hS (6 * t + 1) rfl (by omega) hL dL_law_239 ?_
  refine lv_aload_n C.1.1 C.1.2.1 dL_law_240 rfl (lv_at hl 0 rfl) ?_
  refine lv_iload_n C.1.1 C.1.2.1 dL_law_241 rfl (lv_at hl 3 rfl) ?_
  refine lv_iconst (v := 2) C.1.1 C.1.2.1 dL_law_242 rfl ?_
  refine lv_iadd C.1.1 C.1.2.1 dL_law_243 ?_
  refine lv_topE (nI (6 * t + 2)) (nI_add (6 * t) 2) ?_
  refine L_ld C hS (6 * t + 2) rfl (by omega) hL dL_law_244 ?_
  refine L_F C hS (L_run C hP hS hl.1 53 6 (by decide) rfl (by decide) rfl [.int (xs (6 * t + 1)), .int (xs (6 * t + 2))] (kX6_set l g 64 u (xs (6 * t + 1)) (xs (6 * t + 2)) ) gL_law_X6_set rfl hdX6_set rfl ⟨rfl, rfl⟩ ⟨Nat.le_of_ble_eq_true rfl, Nat.le_of_ble_eq_true rfl⟩ rfl [.int r] rfl (Nat.le_of_ble_eq_true rfl) dL_law_245 ⟨by omega, by omega⟩) (fun H locs hP hS => ?_)
  refine lv_icmp_eq (tgt := 1460) C.1.1 C.1.2.1 dL_law_248 (by decide) (fun _ => ?_) (fun hne => absurd hps.1.1 hne)
  obtain ⟨N2, hN2⟩ := hps.1.2
  refine W.widen (k := cs + 1) (n := ss + 4) (by omega) (by omega) ?_
  exact kk _ N2 _ _ hN2 hP hS

set_option maxHeartbeats 2000000 in
set_option maxRecDepth 100000 in
theorem op_253 (l : Launch) {g : GG} {p : Program} {e : Env} {s : State} {m : MethodId} {below : List Frame} {meth : Method} {c : Code} {b L : Nat} {xs : Nat → Int32} (hL : L ≤ 3072) (C : LC g b L xs p s m c) {Q : State → Prop} {v : SV} {N : Nat} (hR : Rl v N) {t : Nat} (ht : 6 * t + 6 ≤ L) {H : Heap} {locs : List Loc} {ls : Array Slot} {cs ss : Nat} (hcs : cs + 1 ≤ 600000 ∧ ss + 4 ≤ 7302250) (hP : va_P g.1 vwCl (wl g 64 v) H) (hS : va_S (lwA s) s.heap H locs) (hl : lv_has ls 4 [(0, .ref b), (1, .ref (gA g 0)), (2, .ref (gA g 53)), (3, .int (nI (6 * t)))]) (kk : ∀ (u : SV) (N2 : Nat) (H : Heap) (locs : List Loc), Rl u N2 → va_P g.1 vwCl (wl g 64 u) H → va_S (lwA s) s.heap H locs → W p l e room_1 s m #[.ref b] below meth c H locs (cs + 1) (ss + 4) Q (F0 m 1460 ls [])) : W p l e room_1 s m #[.ref b] below meth c H locs cs ss Q (F0 m 253 ls []) := by
  refine lv_aload_n C.1.1 C.1.2.1 dL_law_253 rfl (lv_at hl 1 rfl) ?_
  refine lv_aload_n C.1.1 C.1.2.1 dL_law_254 rfl (lv_at hl 0 rfl) ?_
  refine lv_iload_n C.1.1 C.1.2.1 dL_law_255 rfl (lv_at hl 3 rfl) ?_
  refine lv_iconst (v := 1) C.1.1 C.1.2.1 dL_law_256 rfl ?_
  refine lv_iadd C.1.1 C.1.2.1 dL_law_257 ?_
  refine lv_topE (nI (6 * t + 1)) (nI_add (6 * t) 1) ?_
  refine L_ld C hS (6 * t + 1) rfl (by omega) hL dL_law_258 ?_
  refine L_I C hS (L_run C hP hS hl.1 0 5 (by decide) rfl (by decide) rfl [.int (xs (6 * t + 1))] (kX5_crier l g 64 v (xs (6 * t + 1)) N hR) gL_law_X5_crier rfl hdX5_crier rfl ⟨rfl, rfl⟩ ⟨Nat.le_of_ble_eq_true rfl, Nat.le_of_ble_eq_true rfl⟩ rfl [] rfl (Nat.le_of_ble_eq_true rfl) dL_law_259 ⟨by omega, by omega⟩) (fun r u H locs hps hP hS => ?_)
  have hu := hps.2
  refine lv_aload_n C.1.1 C.1.2.1 dL_law_262 rfl (lv_at hl 2 rfl) ?_
  refine lv_aload_n C.1.1 C.1.2.1 dL_law_263 rfl (lv_at hl 0 rfl) ?_
  refine lv_iload_n C.1.1 C.1.2.1 dL_law_264 rfl (lv_at hl 3 rfl) ?_
  refine lv_iconst (v := 1) C.1.1 C.1.2.1 dL_law_265 rfl ?_
  refine lv_iadd C.1.1 C.1.2.1 dL_law_266 ?_
  refine lv_topE (nI (6 * t + 1)) (nI_add (6 * t) 1) ?_
  refine L_ld C hS (6 * t + 1) rfl (by omega) hL dL_law_267 ?_
  refine L_F C hS (L_run C hP hS hl.1 53 6 (by decide) rfl (by decide) rfl [.int (xs (6 * t + 1))] (kX6_crier l g 64 u (xs (6 * t + 1)) ) gL_law_X6_crier rfl hdX6_crier rfl ⟨rfl, rfl⟩ ⟨Nat.le_of_ble_eq_true rfl, Nat.le_of_ble_eq_true rfl⟩ rfl [.int r] rfl (Nat.le_of_ble_eq_true rfl) dL_law_268 ⟨by omega, by omega⟩) (fun H locs hP hS => ?_)
  refine lv_icmp_eq (tgt := 1460) C.1.1 C.1.2.1 dL_law_271 (by decide) (fun _ => ?_) (fun hne => absurd hps.1.1 hne)
  obtain ⟨N2, hN2⟩ := hps.1.2
  refine W.widen (k := cs + 1) (n := ss + 4) (by omega) (by omega) ?_
  exact kk _ N2 _ _ hN2 hP hS

set_option maxHeartbeats 2000000 in
set_option maxRecDepth 100000 in
theorem op_276 (l : Launch) {g : GG} {p : Program} {e : Env} {s : State} {m : MethodId} {below : List Frame} {meth : Method} {c : Code} {b L : Nat} {xs : Nat → Int32} (hL : L ≤ 3072) (C : LC g b L xs p s m c) {Q : State → Prop} {v : SV} {N : Nat} (hR : Rl v N) {t : Nat} (ht : 6 * t + 6 ≤ L) {H : Heap} {locs : List Loc} {ls : Array Slot} {cs ss : Nat} (hcs : cs + 1 ≤ 600000 ∧ ss + 4 ≤ 7302250) (hP : va_P g.1 vwCl (wl g 64 v) H) (hS : va_S (lwA s) s.heap H locs) (hl : lv_has ls 4 [(0, .ref b), (1, .ref (gA g 0)), (2, .ref (gA g 53)), (3, .int (nI (6 * t)))]) (kk : ∀ (u : SV) (N2 : Nat) (H : Heap) (locs : List Loc), Rl u N2 → va_P g.1 vwCl (wl g 64 u) H → va_S (lwA s) s.heap H locs → W p l e room_1 s m #[.ref b] below meth c H locs (cs + 1) (ss + 4) Q (F0 m 1460 ls [])) : W p l e room_1 s m #[.ref b] below meth c H locs cs ss Q (F0 m 276 ls []) := by
  refine lv_aload_n C.1.1 C.1.2.1 dL_law_276 rfl (lv_at hl 1 rfl) ?_
  refine lv_aload_n C.1.1 C.1.2.1 dL_law_277 rfl (lv_at hl 0 rfl) ?_
  refine lv_iload_n C.1.1 C.1.2.1 dL_law_278 rfl (lv_at hl 3 rfl) ?_
  refine lv_iconst (v := 1) C.1.1 C.1.2.1 dL_law_279 rfl ?_
  refine lv_iadd C.1.1 C.1.2.1 dL_law_280 ?_
  refine lv_topE (nI (6 * t + 1)) (nI_add (6 * t) 1) ?_
  refine L_ld C hS (6 * t + 1) rfl (by omega) hL dL_law_281 ?_
  refine lv_aload_n C.1.1 C.1.2.1 dL_law_282 rfl (lv_at hl 0 rfl) ?_
  refine lv_iload_n C.1.1 C.1.2.1 dL_law_283 rfl (lv_at hl 3 rfl) ?_
  refine lv_iconst (v := 2) C.1.1 C.1.2.1 dL_law_284 rfl ?_
  refine lv_iadd C.1.1 C.1.2.1 dL_law_285 ?_
  refine lv_topE (nI (6 * t + 2)) (nI_add (6 * t) 2) ?_
  refine L_ld C hS (6 * t + 2) rfl (by omega) hL dL_law_286 ?_
  refine L_I C hS (L_run C hP hS hl.1 0 5 (by decide) rfl (by decide) rfl [.int (xs (6 * t + 1)), .int (xs (6 * t + 2))] (kX5_cry l g 64 v (xs (6 * t + 1)) (xs (6 * t + 2)) N hR) gL_law_X5_cry rfl hdX5_cry rfl ⟨rfl, rfl⟩ ⟨Nat.le_of_ble_eq_true rfl, Nat.le_of_ble_eq_true rfl⟩ rfl [] rfl (Nat.le_of_ble_eq_true rfl) dL_law_287 ⟨by omega, by omega⟩) (fun r u H locs hps hP hS => ?_)
  have hu := hps.2
  refine lv_aload_n C.1.1 C.1.2.1 dL_law_290 rfl (lv_at hl 2 rfl) ?_
  refine lv_aload_n C.1.1 C.1.2.1 dL_law_291 rfl (lv_at hl 0 rfl) ?_
  refine lv_iload_n C.1.1 C.1.2.1 dL_law_292 rfl (lv_at hl 3 rfl) ?_
  refine lv_iconst (v := 1) C.1.1 C.1.2.1 dL_law_293 rfl ?_
  refine lv_iadd C.1.1 C.1.2.1 dL_law_294 ?_
  refine lv_topE (nI (6 * t + 1)) (nI_add (6 * t) 1) ?_
  refine L_ld C hS (6 * t + 1) rfl (by omega) hL dL_law_295 ?_
  refine lv_aload_n C.1.1 C.1.2.1 dL_law_296 rfl (lv_at hl 0 rfl) ?_
  refine lv_iload_n C.1.1 C.1.2.1 dL_law_297 rfl (lv_at hl 3 rfl) ?_
  refine lv_iconst (v := 2) C.1.1 C.1.2.1 dL_law_298 rfl ?_
  refine lv_iadd C.1.1 C.1.2.1 dL_law_299 ?_
  refine lv_topE (nI (6 * t + 2)) (nI_add (6 * t) 2) ?_
  refine L_ld C hS (6 * t + 2) rfl (by omega) hL dL_law_300 ?_
  refine L_F C hS (L_run C hP hS hl.1 53 6 (by decide) rfl (by decide) rfl [.int (xs (6 * t + 1)), .int (xs (6 * t + 2))] (kX6_cry l g 64 u (xs (6 * t + 1)) (xs (6 * t + 2)) ) gL_law_X6_cry rfl hdX6_cry rfl ⟨rfl, rfl⟩ ⟨Nat.le_of_ble_eq_true rfl, Nat.le_of_ble_eq_true rfl⟩ rfl [.int r] rfl (Nat.le_of_ble_eq_true rfl) dL_law_301 ⟨by omega, by omega⟩) (fun H locs hP hS => ?_)
  refine lv_icmp_eq (tgt := 1460) C.1.1 C.1.2.1 dL_law_304 (by decide) (fun _ => ?_) (fun hne => absurd hps.1.1 hne)
  obtain ⟨N2, hN2⟩ := hps.1.2
  refine W.widen (k := cs + 1) (n := ss + 4) (by omega) (by omega) ?_
  exact kk _ N2 _ _ hN2 hP hS

set_option maxHeartbeats 2000000 in
set_option maxRecDepth 100000 in
theorem op_309 (l : Launch) {g : GG} {p : Program} {e : Env} {s : State} {m : MethodId} {below : List Frame} {meth : Method} {c : Code} {b L : Nat} {xs : Nat → Int32} (hL : L ≤ 3072) (C : LC g b L xs p s m c) {Q : State → Prop} {v : SV} {N : Nat} (hR : Rl v N) {t : Nat} (ht : 6 * t + 6 ≤ L) {H : Heap} {locs : List Loc} {ls : Array Slot} {cs ss : Nat} (hcs : cs + 1 ≤ 600000 ∧ ss + 4 ≤ 7302250) (hP : va_P g.1 vwCl (wl g 64 v) H) (hS : va_S (lwA s) s.heap H locs) (hl : lv_has ls 4 [(0, .ref b), (1, .ref (gA g 0)), (2, .ref (gA g 53)), (3, .int (nI (6 * t)))]) (kk : ∀ (u : SV) (N2 : Nat) (H : Heap) (locs : List Loc), Rl u N2 → va_P g.1 vwCl (wl g 64 u) H → va_S (lwA s) s.heap H locs → W p l e room_1 s m #[.ref b] below meth c H locs (cs + 1) (ss + 4) Q (F0 m 1460 ls [])) : W p l e room_1 s m #[.ref b] below meth c H locs cs ss Q (F0 m 309 ls []) := by
  refine lv_aload_n C.1.1 C.1.2.1 dL_law_309 rfl (lv_at hl 1 rfl) ?_
  refine lv_aload_n C.1.1 C.1.2.1 dL_law_310 rfl (lv_at hl 0 rfl) ?_
  refine lv_iload_n C.1.1 C.1.2.1 dL_law_311 rfl (lv_at hl 3 rfl) ?_
  refine lv_iconst (v := 1) C.1.1 C.1.2.1 dL_law_312 rfl ?_
  refine lv_iadd C.1.1 C.1.2.1 dL_law_313 ?_
  refine lv_topE (nI (6 * t + 1)) (nI_add (6 * t) 1) ?_
  refine L_ld C hS (6 * t + 1) rfl (by omega) hL dL_law_314 ?_
  refine L_I C hS (L_run C hP hS hl.1 0 5 (by decide) rfl (by decide) rfl [.int (xs (6 * t + 1))] (kX5_listed l g 64 v (xs (6 * t + 1)) N hR) gL_law_X5_listed rfl hdX5_listed rfl ⟨rfl, rfl⟩ ⟨Nat.le_of_ble_eq_true rfl, Nat.le_of_ble_eq_true rfl⟩ rfl [] rfl (Nat.le_of_ble_eq_true rfl) dL_law_315 ⟨by omega, by omega⟩) (fun r u H locs hps hP hS => ?_)
  have hu := hps.2
  refine lv_aload_n C.1.1 C.1.2.1 dL_law_318 rfl (lv_at hl 2 rfl) ?_
  refine lv_aload_n C.1.1 C.1.2.1 dL_law_319 rfl (lv_at hl 0 rfl) ?_
  refine lv_iload_n C.1.1 C.1.2.1 dL_law_320 rfl (lv_at hl 3 rfl) ?_
  refine lv_iconst (v := 1) C.1.1 C.1.2.1 dL_law_321 rfl ?_
  refine lv_iadd C.1.1 C.1.2.1 dL_law_322 ?_
  refine lv_topE (nI (6 * t + 1)) (nI_add (6 * t) 1) ?_
  refine L_ld C hS (6 * t + 1) rfl (by omega) hL dL_law_323 ?_
  refine L_F C hS (L_run C hP hS hl.1 53 6 (by decide) rfl (by decide) rfl [.int (xs (6 * t + 1))] (kX6_listed l g 64 u (xs (6 * t + 1)) ) gL_law_X6_listed rfl hdX6_listed rfl ⟨rfl, rfl⟩ ⟨Nat.le_of_ble_eq_true rfl, Nat.le_of_ble_eq_true rfl⟩ rfl [.int r] rfl (Nat.le_of_ble_eq_true rfl) dL_law_324 ⟨by omega, by omega⟩) (fun H locs hP hS => ?_)
  refine lv_icmp_eq (tgt := 1460) C.1.1 C.1.2.1 dL_law_327 (by decide) (fun _ => ?_) (fun hne => absurd hps.1.1 hne)
  obtain ⟨N2, hN2⟩ := hps.1.2
  refine W.widen (k := cs + 1) (n := ss + 4) (by omega) (by omega) ?_
  exact kk _ N2 _ _ hN2 hP hS

set_option maxHeartbeats 2000000 in
set_option maxRecDepth 100000 in
theorem op_332 (l : Launch) {g : GG} {p : Program} {e : Env} {s : State} {m : MethodId} {below : List Frame} {meth : Method} {c : Code} {b L : Nat} {xs : Nat → Int32} (hL : L ≤ 3072) (C : LC g b L xs p s m c) {Q : State → Prop} {v : SV} {N : Nat} (hR : Rl v N) {t : Nat} (ht : 6 * t + 6 ≤ L) {H : Heap} {locs : List Loc} {ls : Array Slot} {cs ss : Nat} (hcs : cs + 1 ≤ 600000 ∧ ss + 4 ≤ 7302250) (hP : va_P g.1 vwCl (wl g 64 v) H) (hS : va_S (lwA s) s.heap H locs) (hl : lv_has ls 4 [(0, .ref b), (1, .ref (gA g 0)), (2, .ref (gA g 53)), (3, .int (nI (6 * t)))]) (kk : ∀ (u : SV) (N2 : Nat) (H : Heap) (locs : List Loc), Rl u N2 → va_P g.1 vwCl (wl g 64 u) H → va_S (lwA s) s.heap H locs → W p l e room_1 s m #[.ref b] below meth c H locs (cs + 1) (ss + 4) Q (F0 m 1460 ls [])) : W p l e room_1 s m #[.ref b] below meth c H locs cs ss Q (F0 m 332 ls []) := by
  refine lv_aload_n C.1.1 C.1.2.1 dL_law_332 rfl (lv_at hl 1 rfl) ?_
  refine lv_aload_n C.1.1 C.1.2.1 dL_law_333 rfl (lv_at hl 0 rfl) ?_
  refine lv_iload_n C.1.1 C.1.2.1 dL_law_334 rfl (lv_at hl 3 rfl) ?_
  refine lv_iconst (v := 1) C.1.1 C.1.2.1 dL_law_335 rfl ?_
  refine lv_iadd C.1.1 C.1.2.1 dL_law_336 ?_
  refine lv_topE (nI (6 * t + 1)) (nI_add (6 * t) 1) ?_
  refine L_ld C hS (6 * t + 1) rfl (by omega) hL dL_law_337 ?_
  refine lv_aload_n C.1.1 C.1.2.1 dL_law_338 rfl (lv_at hl 0 rfl) ?_
  refine lv_iload_n C.1.1 C.1.2.1 dL_law_339 rfl (lv_at hl 3 rfl) ?_
  refine lv_iconst (v := 2) C.1.1 C.1.2.1 dL_law_340 rfl ?_
  refine lv_iadd C.1.1 C.1.2.1 dL_law_341 ?_
  refine lv_topE (nI (6 * t + 2)) (nI_add (6 * t) 2) ?_
  refine L_ld C hS (6 * t + 2) rfl (by omega) hL dL_law_342 ?_
  refine L_I C hS (L_run C hP hS hl.1 0 5 (by decide) rfl (by decide) rfl [.int (xs (6 * t + 1)), .int (xs (6 * t + 2))] (kX5_resident l g 64 v (xs (6 * t + 1)) (xs (6 * t + 2)) N hR) gL_law_X5_resident rfl hdX5_resident rfl ⟨rfl, rfl⟩ ⟨Nat.le_of_ble_eq_true rfl, Nat.le_of_ble_eq_true rfl⟩ rfl [] rfl (Nat.le_of_ble_eq_true rfl) dL_law_343 ⟨by omega, by omega⟩) (fun r u H locs hps hP hS => ?_)
  have hu := hps.2
  refine lv_aload_n C.1.1 C.1.2.1 dL_law_346 rfl (lv_at hl 2 rfl) ?_
  refine lv_aload_n C.1.1 C.1.2.1 dL_law_347 rfl (lv_at hl 0 rfl) ?_
  refine lv_iload_n C.1.1 C.1.2.1 dL_law_348 rfl (lv_at hl 3 rfl) ?_
  refine lv_iconst (v := 1) C.1.1 C.1.2.1 dL_law_349 rfl ?_
  refine lv_iadd C.1.1 C.1.2.1 dL_law_350 ?_
  refine lv_topE (nI (6 * t + 1)) (nI_add (6 * t) 1) ?_
  refine L_ld C hS (6 * t + 1) rfl (by omega) hL dL_law_351 ?_
  refine lv_aload_n C.1.1 C.1.2.1 dL_law_352 rfl (lv_at hl 0 rfl) ?_
  refine lv_iload_n C.1.1 C.1.2.1 dL_law_353 rfl (lv_at hl 3 rfl) ?_
  refine lv_iconst (v := 2) C.1.1 C.1.2.1 dL_law_354 rfl ?_
  refine lv_iadd C.1.1 C.1.2.1 dL_law_355 ?_
  refine lv_topE (nI (6 * t + 2)) (nI_add (6 * t) 2) ?_
  refine L_ld C hS (6 * t + 2) rfl (by omega) hL dL_law_356 ?_
  refine L_F C hS (L_run C hP hS hl.1 53 6 (by decide) rfl (by decide) rfl [.int (xs (6 * t + 1)), .int (xs (6 * t + 2))] (kX6_resident l g 64 u (xs (6 * t + 1)) (xs (6 * t + 2)) N (rb_M hR hu)) gL_law_X6_resident rfl hdX6_resident rfl ⟨rfl, rfl⟩ ⟨Nat.le_of_ble_eq_true rfl, Nat.le_of_ble_eq_true rfl⟩ rfl [.int r] rfl (Nat.le_of_ble_eq_true rfl) dL_law_357 ⟨by omega, by omega⟩) (fun H locs hP hS => ?_)
  refine lv_icmp_eq (tgt := 1460) C.1.1 C.1.2.1 dL_law_360 (by decide) (fun _ => ?_) (fun hne => absurd hps.1.1 hne)
  obtain ⟨N2, hN2⟩ := hps.1.2
  refine W.widen (k := cs + 1) (n := ss + 4) (by omega) (by omega) ?_
  exact kk _ N2 _ _ hN2 hP hS

set_option maxHeartbeats 2000000 in
set_option maxRecDepth 100000 in
theorem op_365 (l : Launch) {g : GG} {p : Program} {e : Env} {s : State} {m : MethodId} {below : List Frame} {meth : Method} {c : Code} {b L : Nat} {xs : Nat → Int32} (hL : L ≤ 3072) (C : LC g b L xs p s m c) {Q : State → Prop} {v : SV} {N : Nat} (hR : Rl v N) {t : Nat} (ht : 6 * t + 6 ≤ L) {H : Heap} {locs : List Loc} {ls : Array Slot} {cs ss : Nat} (hcs : cs + 1 ≤ 600000 ∧ ss + 4 ≤ 7302250) (hP : va_P g.1 vwCl (wl g 64 v) H) (hS : va_S (lwA s) s.heap H locs) (hl : lv_has ls 4 [(0, .ref b), (1, .ref (gA g 0)), (2, .ref (gA g 53)), (3, .int (nI (6 * t)))]) (kk : ∀ (u : SV) (N2 : Nat) (H : Heap) (locs : List Loc), Rl u N2 → va_P g.1 vwCl (wl g 64 u) H → va_S (lwA s) s.heap H locs → W p l e room_1 s m #[.ref b] below meth c H locs (cs + 1) (ss + 4) Q (F0 m 1460 ls [])) : W p l e room_1 s m #[.ref b] below meth c H locs cs ss Q (F0 m 365 ls []) := by
  refine lv_aload_n C.1.1 C.1.2.1 dL_law_365 rfl (lv_at hl 1 rfl) ?_
  refine lv_aload_n C.1.1 C.1.2.1 dL_law_366 rfl (lv_at hl 0 rfl) ?_
  refine lv_iload_n C.1.1 C.1.2.1 dL_law_367 rfl (lv_at hl 3 rfl) ?_
  refine lv_iconst (v := 1) C.1.1 C.1.2.1 dL_law_368 rfl ?_
  refine lv_iadd C.1.1 C.1.2.1 dL_law_369 ?_
  refine lv_topE (nI (6 * t + 1)) (nI_add (6 * t) 1) ?_
  refine L_ld C hS (6 * t + 1) rfl (by omega) hL dL_law_370 ?_
  refine lv_aload_n C.1.1 C.1.2.1 dL_law_371 rfl (lv_at hl 0 rfl) ?_
  refine lv_iload_n C.1.1 C.1.2.1 dL_law_372 rfl (lv_at hl 3 rfl) ?_
  refine lv_iconst (v := 2) C.1.1 C.1.2.1 dL_law_373 rfl ?_
  refine lv_iadd C.1.1 C.1.2.1 dL_law_374 ?_
  refine lv_topE (nI (6 * t + 2)) (nI_add (6 * t) 2) ?_
  refine L_ld C hS (6 * t + 2) rfl (by omega) hL dL_law_375 ?_
  refine L_I C hS (L_run C hP hS hl.1 0 5 (by decide) rfl (by decide) rfl [.int (xs (6 * t + 1)), .int (xs (6 * t + 2))] (kX5_of l g 64 v (xs (6 * t + 1)) (xs (6 * t + 2)) N hR) gL_law_X5_of rfl hdX5_of rfl ⟨rfl, rfl⟩ ⟨Nat.le_of_ble_eq_true rfl, Nat.le_of_ble_eq_true rfl⟩ rfl [] rfl (Nat.le_of_ble_eq_true rfl) dL_law_376 ⟨by omega, by omega⟩) (fun r u H locs hps hP hS => ?_)
  have hu := hps.2
  refine lv_aload_n C.1.1 C.1.2.1 dL_law_379 rfl (lv_at hl 2 rfl) ?_
  refine lv_aload_n C.1.1 C.1.2.1 dL_law_380 rfl (lv_at hl 0 rfl) ?_
  refine lv_iload_n C.1.1 C.1.2.1 dL_law_381 rfl (lv_at hl 3 rfl) ?_
  refine lv_iconst (v := 1) C.1.1 C.1.2.1 dL_law_382 rfl ?_
  refine lv_iadd C.1.1 C.1.2.1 dL_law_383 ?_
  refine lv_topE (nI (6 * t + 1)) (nI_add (6 * t) 1) ?_
  refine L_ld C hS (6 * t + 1) rfl (by omega) hL dL_law_384 ?_
  refine lv_aload_n C.1.1 C.1.2.1 dL_law_385 rfl (lv_at hl 0 rfl) ?_
  refine lv_iload_n C.1.1 C.1.2.1 dL_law_386 rfl (lv_at hl 3 rfl) ?_
  refine lv_iconst (v := 2) C.1.1 C.1.2.1 dL_law_387 rfl ?_
  refine lv_iadd C.1.1 C.1.2.1 dL_law_388 ?_
  refine lv_topE (nI (6 * t + 2)) (nI_add (6 * t) 2) ?_
  refine L_ld C hS (6 * t + 2) rfl (by omega) hL dL_law_389 ?_
  refine L_F C hS (L_run C hP hS hl.1 53 6 (by decide) rfl (by decide) rfl [.int (xs (6 * t + 1)), .int (xs (6 * t + 2))] (kX6_of l g 64 u (xs (6 * t + 1)) (xs (6 * t + 2)) N (rb_M hR hu)) gL_law_X6_of rfl hdX6_of rfl ⟨rfl, rfl⟩ ⟨Nat.le_of_ble_eq_true rfl, Nat.le_of_ble_eq_true rfl⟩ rfl [.int r] rfl (Nat.le_of_ble_eq_true rfl) dL_law_390 ⟨by omega, by omega⟩) (fun H locs hP hS => ?_)
  refine lv_icmp_eq (tgt := 1460) C.1.1 C.1.2.1 dL_law_393 (by decide) (fun _ => ?_) (fun hne => absurd hps.1.1 hne)
  obtain ⟨N2, hN2⟩ := hps.1.2
  refine W.widen (k := cs + 1) (n := ss + 4) (by omega) (by omega) ?_
  exact kk _ N2 _ _ hN2 hP hS

set_option maxHeartbeats 2000000 in
set_option maxRecDepth 100000 in
theorem op_398 (l : Launch) {g : GG} {p : Program} {e : Env} {s : State} {m : MethodId} {below : List Frame} {meth : Method} {c : Code} {b L : Nat} {xs : Nat → Int32} (hL : L ≤ 3072) (C : LC g b L xs p s m c) {Q : State → Prop} {v : SV} {N : Nat} (hR : Rl v N) {t : Nat} (ht : 6 * t + 6 ≤ L) {H : Heap} {locs : List Loc} {ls : Array Slot} {cs ss : Nat} (hcs : cs + 1 ≤ 600000 ∧ ss + 4 ≤ 7302250) (hP : va_P g.1 vwCl (wl g 64 v) H) (hS : va_S (lwA s) s.heap H locs) (hl : lv_has ls 4 [(0, .ref b), (1, .ref (gA g 0)), (2, .ref (gA g 53)), (3, .int (nI (6 * t)))]) (kk : ∀ (u : SV) (N2 : Nat) (H : Heap) (locs : List Loc), Rl u N2 → va_P g.1 vwCl (wl g 64 u) H → va_S (lwA s) s.heap H locs → W p l e room_1 s m #[.ref b] below meth c H locs (cs + 1) (ss + 4) Q (F0 m 1460 ls [])) : W p l e room_1 s m #[.ref b] below meth c H locs cs ss Q (F0 m 398 ls []) := by
  refine lv_aload_n C.1.1 C.1.2.1 dL_law_398 rfl (lv_at hl 1 rfl) ?_
  refine lv_aload_n C.1.1 C.1.2.1 dL_law_399 rfl (lv_at hl 0 rfl) ?_
  refine lv_iload_n C.1.1 C.1.2.1 dL_law_400 rfl (lv_at hl 3 rfl) ?_
  refine lv_iconst (v := 1) C.1.1 C.1.2.1 dL_law_401 rfl ?_
  refine lv_iadd C.1.1 C.1.2.1 dL_law_402 ?_
  refine lv_topE (nI (6 * t + 1)) (nI_add (6 * t) 1) ?_
  refine L_ld C hS (6 * t + 1) rfl (by omega) hL dL_law_403 ?_
  refine lv_aload_n C.1.1 C.1.2.1 dL_law_404 rfl (lv_at hl 0 rfl) ?_
  refine lv_iload_n C.1.1 C.1.2.1 dL_law_405 rfl (lv_at hl 3 rfl) ?_
  refine lv_iconst (v := 2) C.1.1 C.1.2.1 dL_law_406 rfl ?_
  refine lv_iadd C.1.1 C.1.2.1 dL_law_407 ?_
  refine lv_topE (nI (6 * t + 2)) (nI_add (6 * t) 2) ?_
  refine L_ld C hS (6 * t + 2) rfl (by omega) hL dL_law_408 ?_
  refine lv_aload_n C.1.1 C.1.2.1 dL_law_409 rfl (lv_at hl 0 rfl) ?_
  refine lv_iload_n C.1.1 C.1.2.1 dL_law_410 rfl (lv_at hl 3 rfl) ?_
  refine lv_iconst (v := 3) C.1.1 C.1.2.1 dL_law_411 rfl ?_
  refine lv_iadd C.1.1 C.1.2.1 dL_law_412 ?_
  refine lv_topE (nI (6 * t + 3)) (nI_add (6 * t) 3) ?_
  refine L_ld C hS (6 * t + 3) rfl (by omega) hL dL_law_413 ?_
  refine L_I C hS (L_run C hP hS hl.1 0 5 (by decide) rfl (by decide) rfl [.int (xs (6 * t + 1)), .int (xs (6 * t + 2)), .int (xs (6 * t + 3))] (kX5_change l g 64 v (xs (6 * t + 1)) (xs (6 * t + 2)) (xs (6 * t + 3)) N hR) gL_law_X5_change rfl hdX5_change rfl ⟨rfl, rfl⟩ ⟨Nat.le_of_ble_eq_true rfl, Nat.le_of_ble_eq_true rfl⟩ rfl [] rfl (Nat.le_of_ble_eq_true rfl) dL_law_414 ⟨by omega, by omega⟩) (fun r u H locs hps hP hS => ?_)
  have hu := hps.2
  refine lv_aload_n C.1.1 C.1.2.1 dL_law_417 rfl (lv_at hl 2 rfl) ?_
  refine lv_aload_n C.1.1 C.1.2.1 dL_law_418 rfl (lv_at hl 0 rfl) ?_
  refine lv_iload_n C.1.1 C.1.2.1 dL_law_419 rfl (lv_at hl 3 rfl) ?_
  refine lv_iconst (v := 1) C.1.1 C.1.2.1 dL_law_420 rfl ?_
  refine lv_iadd C.1.1 C.1.2.1 dL_law_421 ?_
  refine lv_topE (nI (6 * t + 1)) (nI_add (6 * t) 1) ?_
  refine L_ld C hS (6 * t + 1) rfl (by omega) hL dL_law_422 ?_
  refine lv_aload_n C.1.1 C.1.2.1 dL_law_423 rfl (lv_at hl 0 rfl) ?_
  refine lv_iload_n C.1.1 C.1.2.1 dL_law_424 rfl (lv_at hl 3 rfl) ?_
  refine lv_iconst (v := 2) C.1.1 C.1.2.1 dL_law_425 rfl ?_
  refine lv_iadd C.1.1 C.1.2.1 dL_law_426 ?_
  refine lv_topE (nI (6 * t + 2)) (nI_add (6 * t) 2) ?_
  refine L_ld C hS (6 * t + 2) rfl (by omega) hL dL_law_427 ?_
  refine lv_aload_n C.1.1 C.1.2.1 dL_law_428 rfl (lv_at hl 0 rfl) ?_
  refine lv_iload_n C.1.1 C.1.2.1 dL_law_429 rfl (lv_at hl 3 rfl) ?_
  refine lv_iconst (v := 3) C.1.1 C.1.2.1 dL_law_430 rfl ?_
  refine lv_iadd C.1.1 C.1.2.1 dL_law_431 ?_
  refine lv_topE (nI (6 * t + 3)) (nI_add (6 * t) 3) ?_
  refine L_ld C hS (6 * t + 3) rfl (by omega) hL dL_law_432 ?_
  refine L_F C hS (L_run C hP hS hl.1 53 6 (by decide) rfl (by decide) rfl [.int (xs (6 * t + 1)), .int (xs (6 * t + 2)), .int (xs (6 * t + 3))] (kX6_change l g 64 u (xs (6 * t + 1)) (xs (6 * t + 2)) (xs (6 * t + 3)) N (rb_M hR hu)) gL_law_X6_change rfl hdX6_change rfl ⟨rfl, rfl⟩ ⟨Nat.le_of_ble_eq_true rfl, Nat.le_of_ble_eq_true rfl⟩ rfl [.int r] rfl (Nat.le_of_ble_eq_true rfl) dL_law_433 ⟨by omega, by omega⟩) (fun H locs hP hS => ?_)
  refine lv_icmp_eq (tgt := 1460) C.1.1 C.1.2.1 dL_law_436 (by decide) (fun _ => ?_) (fun hne => absurd hps.1.1 hne)
  obtain ⟨N2, hN2⟩ := hps.1.2
  refine W.widen (k := cs + 1) (n := ss + 4) (by omega) (by omega) ?_
  exact kk _ N2 _ _ hN2 hP hS

set_option maxHeartbeats 2000000 in
set_option maxRecDepth 100000 in
theorem op_441 (l : Launch) {g : GG} {p : Program} {e : Env} {s : State} {m : MethodId} {below : List Frame} {meth : Method} {c : Code} {b L : Nat} {xs : Nat → Int32} (hL : L ≤ 3072) (C : LC g b L xs p s m c) {Q : State → Prop} {v : SV} {N : Nat} (hR : Rl v N) {t : Nat} (ht : 6 * t + 6 ≤ L) {H : Heap} {locs : List Loc} {ls : Array Slot} {cs ss : Nat} (hcs : cs + 1 ≤ 600000 ∧ ss + 4 ≤ 7302250) (hP : va_P g.1 vwCl (wl g 64 v) H) (hS : va_S (lwA s) s.heap H locs) (hl : lv_has ls 4 [(0, .ref b), (1, .ref (gA g 0)), (2, .ref (gA g 53)), (3, .int (nI (6 * t)))]) (kk : ∀ (u : SV) (N2 : Nat) (H : Heap) (locs : List Loc), Rl u N2 → va_P g.1 vwCl (wl g 64 u) H → va_S (lwA s) s.heap H locs → W p l e room_1 s m #[.ref b] below meth c H locs (cs + 1) (ss + 4) Q (F0 m 1460 ls [])) : W p l e room_1 s m #[.ref b] below meth c H locs cs ss Q (F0 m 441 ls []) := by
  refine lv_aload_n C.1.1 C.1.2.1 dL_law_441 rfl (lv_at hl 1 rfl) ?_
  refine lv_aload_n C.1.1 C.1.2.1 dL_law_442 rfl (lv_at hl 0 rfl) ?_
  refine lv_iload_n C.1.1 C.1.2.1 dL_law_443 rfl (lv_at hl 3 rfl) ?_
  refine lv_iconst (v := 1) C.1.1 C.1.2.1 dL_law_444 rfl ?_
  refine lv_iadd C.1.1 C.1.2.1 dL_law_445 ?_
  refine lv_topE (nI (6 * t + 1)) (nI_add (6 * t) 1) ?_
  refine L_ld C hS (6 * t + 1) rfl (by omega) hL dL_law_446 ?_
  refine lv_aload_n C.1.1 C.1.2.1 dL_law_447 rfl (lv_at hl 0 rfl) ?_
  refine lv_iload_n C.1.1 C.1.2.1 dL_law_448 rfl (lv_at hl 3 rfl) ?_
  refine lv_iconst (v := 2) C.1.1 C.1.2.1 dL_law_449 rfl ?_
  refine lv_iadd C.1.1 C.1.2.1 dL_law_450 ?_
  refine lv_topE (nI (6 * t + 2)) (nI_add (6 * t) 2) ?_
  refine L_ld C hS (6 * t + 2) rfl (by omega) hL dL_law_451 ?_
  refine L_I C hS (L_run C hP hS hl.1 0 5 (by decide) rfl (by decide) rfl [.int (xs (6 * t + 1)), .int (xs (6 * t + 2))] (kX5_tempted l g 64 v (xs (6 * t + 1)) (xs (6 * t + 2)) N hR) gL_law_X5_tempted rfl hdX5_tempted rfl ⟨rfl, rfl⟩ ⟨Nat.le_of_ble_eq_true rfl, Nat.le_of_ble_eq_true rfl⟩ rfl [] rfl (Nat.le_of_ble_eq_true rfl) dL_law_452 ⟨by omega, by omega⟩) (fun r u H locs hps hP hS => ?_)
  have hu := hps.2
  refine lv_aload_n C.1.1 C.1.2.1 dL_law_455 rfl (lv_at hl 2 rfl) ?_
  refine lv_aload_n C.1.1 C.1.2.1 dL_law_456 rfl (lv_at hl 0 rfl) ?_
  refine lv_iload_n C.1.1 C.1.2.1 dL_law_457 rfl (lv_at hl 3 rfl) ?_
  refine lv_iconst (v := 1) C.1.1 C.1.2.1 dL_law_458 rfl ?_
  refine lv_iadd C.1.1 C.1.2.1 dL_law_459 ?_
  refine lv_topE (nI (6 * t + 1)) (nI_add (6 * t) 1) ?_
  refine L_ld C hS (6 * t + 1) rfl (by omega) hL dL_law_460 ?_
  refine lv_aload_n C.1.1 C.1.2.1 dL_law_461 rfl (lv_at hl 0 rfl) ?_
  refine lv_iload_n C.1.1 C.1.2.1 dL_law_462 rfl (lv_at hl 3 rfl) ?_
  refine lv_iconst (v := 2) C.1.1 C.1.2.1 dL_law_463 rfl ?_
  refine lv_iadd C.1.1 C.1.2.1 dL_law_464 ?_
  refine lv_topE (nI (6 * t + 2)) (nI_add (6 * t) 2) ?_
  refine L_ld C hS (6 * t + 2) rfl (by omega) hL dL_law_465 ?_
  refine L_F C hS (L_run C hP hS hl.1 53 6 (by decide) rfl (by decide) rfl [.int (xs (6 * t + 1)), .int (xs (6 * t + 2))] (kX6_tempted l g 64 u (xs (6 * t + 1)) (xs (6 * t + 2)) N (rb_M hR hu)) gL_law_X6_tempted rfl hdX6_tempted rfl ⟨rfl, rfl⟩ ⟨Nat.le_of_ble_eq_true rfl, Nat.le_of_ble_eq_true rfl⟩ rfl [.int r] rfl (Nat.le_of_ble_eq_true rfl) dL_law_466 ⟨by omega, by omega⟩) (fun H locs hP hS => ?_)
  refine lv_icmp_eq (tgt := 1460) C.1.1 C.1.2.1 dL_law_469 (by decide) (fun _ => ?_) (fun hne => absurd hps.1.1 hne)
  obtain ⟨N2, hN2⟩ := hps.1.2
  refine W.widen (k := cs + 1) (n := ss + 4) (by omega) (by omega) ?_
  exact kk _ N2 _ _ hN2 hP hS

set_option maxHeartbeats 2000000 in
set_option maxRecDepth 100000 in
theorem op_474 (l : Launch) {g : GG} {p : Program} {e : Env} {s : State} {m : MethodId} {below : List Frame} {meth : Method} {c : Code} {b L : Nat} {xs : Nat → Int32} (hL : L ≤ 3072) (C : LC g b L xs p s m c) {Q : State → Prop} {v : SV} {N : Nat} (hR : Rl v N) {t : Nat} (ht : 6 * t + 6 ≤ L) {H : Heap} {locs : List Loc} {ls : Array Slot} {cs ss : Nat} (hcs : cs + 1 ≤ 600000 ∧ ss + 4 ≤ 7302250) (hP : va_P g.1 vwCl (wl g 64 v) H) (hS : va_S (lwA s) s.heap H locs) (hl : lv_has ls 4 [(0, .ref b), (1, .ref (gA g 0)), (2, .ref (gA g 53)), (3, .int (nI (6 * t)))]) (kk : ∀ (u : SV) (N2 : Nat) (H : Heap) (locs : List Loc), Rl u N2 → va_P g.1 vwCl (wl g 64 u) H → va_S (lwA s) s.heap H locs → W p l e room_1 s m #[.ref b] below meth c H locs (cs + 1) (ss + 4) Q (F0 m 1460 ls [])) : W p l e room_1 s m #[.ref b] below meth c H locs cs ss Q (F0 m 474 ls []) := by
  refine lv_aload_n C.1.1 C.1.2.1 dL_law_474 rfl (lv_at hl 1 rfl) ?_
  refine lv_aload_n C.1.1 C.1.2.1 dL_law_475 rfl (lv_at hl 0 rfl) ?_
  refine lv_iload_n C.1.1 C.1.2.1 dL_law_476 rfl (lv_at hl 3 rfl) ?_
  refine lv_iconst (v := 1) C.1.1 C.1.2.1 dL_law_477 rfl ?_
  refine lv_iadd C.1.1 C.1.2.1 dL_law_478 ?_
  refine lv_topE (nI (6 * t + 1)) (nI_add (6 * t) 1) ?_
  refine L_ld C hS (6 * t + 1) rfl (by omega) hL dL_law_479 ?_
  refine L_I C hS (L_run C hP hS hl.1 0 5 (by decide) rfl (by decide) rfl [.int (xs (6 * t + 1))] (kX5_register l g 64 v (xs (6 * t + 1)) N hR) gL_law_X5_register rfl hdX5_register rfl ⟨rfl, rfl⟩ ⟨Nat.le_of_ble_eq_true rfl, Nat.le_of_ble_eq_true rfl⟩ rfl [] rfl (Nat.le_of_ble_eq_true rfl) dL_law_480 ⟨by omega, by omega⟩) (fun r u H locs hps hP hS => ?_)
  have hu := hps.2
  refine lv_aload_n C.1.1 C.1.2.1 dL_law_483 rfl (lv_at hl 2 rfl) ?_
  refine lv_aload_n C.1.1 C.1.2.1 dL_law_484 rfl (lv_at hl 0 rfl) ?_
  refine lv_iload_n C.1.1 C.1.2.1 dL_law_485 rfl (lv_at hl 3 rfl) ?_
  refine lv_iconst (v := 1) C.1.1 C.1.2.1 dL_law_486 rfl ?_
  refine lv_iadd C.1.1 C.1.2.1 dL_law_487 ?_
  refine lv_topE (nI (6 * t + 1)) (nI_add (6 * t) 1) ?_
  refine L_ld C hS (6 * t + 1) rfl (by omega) hL dL_law_488 ?_
  refine L_F C hS (L_run C hP hS hl.1 53 6 (by decide) rfl (by decide) rfl [.int (xs (6 * t + 1))] (kX6_register l g 64 u (xs (6 * t + 1)) ) gL_law_X6_register rfl hdX6_register rfl ⟨rfl, rfl⟩ ⟨Nat.le_of_ble_eq_true rfl, Nat.le_of_ble_eq_true rfl⟩ rfl [.int r] rfl (Nat.le_of_ble_eq_true rfl) dL_law_489 ⟨by omega, by omega⟩) (fun H locs hP hS => ?_)
  refine lv_icmp_eq (tgt := 1460) C.1.1 C.1.2.1 dL_law_492 (by decide) (fun _ => ?_) (fun hne => absurd hps.1.1 hne)
  obtain ⟨N2, hN2⟩ := hps.1.2
  refine W.widen (k := cs + 1) (n := ss + 4) (by omega) (by omega) ?_
  exact kk _ N2 _ _ hN2 hP hS

set_option maxHeartbeats 2000000 in
set_option maxRecDepth 100000 in
theorem op_497 (l : Launch) {g : GG} {p : Program} {e : Env} {s : State} {m : MethodId} {below : List Frame} {meth : Method} {c : Code} {b L : Nat} {xs : Nat → Int32} (hL : L ≤ 3072) (C : LC g b L xs p s m c) {Q : State → Prop} {v : SV} {N : Nat} (hR : Rl v N) {t : Nat} (ht : 6 * t + 6 ≤ L) {H : Heap} {locs : List Loc} {ls : Array Slot} {cs ss : Nat} (hcs : cs + 1 ≤ 600000 ∧ ss + 4 ≤ 7302250) (hP : va_P g.1 vwCl (wl g 64 v) H) (hS : va_S (lwA s) s.heap H locs) (hl : lv_has ls 4 [(0, .ref b), (1, .ref (gA g 0)), (2, .ref (gA g 53)), (3, .int (nI (6 * t)))]) (kk : ∀ (u : SV) (N2 : Nat) (H : Heap) (locs : List Loc), Rl u N2 → va_P g.1 vwCl (wl g 64 u) H → va_S (lwA s) s.heap H locs → W p l e room_1 s m #[.ref b] below meth c H locs (cs + 1) (ss + 4) Q (F0 m 1460 ls [])) : W p l e room_1 s m #[.ref b] below meth c H locs cs ss Q (F0 m 497 ls []) := by
  refine lv_aload_n C.1.1 C.1.2.1 dL_law_497 rfl (lv_at hl 1 rfl) ?_
  refine lv_aload_n C.1.1 C.1.2.1 dL_law_498 rfl (lv_at hl 0 rfl) ?_
  refine lv_iload_n C.1.1 C.1.2.1 dL_law_499 rfl (lv_at hl 3 rfl) ?_
  refine lv_iconst (v := 1) C.1.1 C.1.2.1 dL_law_500 rfl ?_
  refine lv_iadd C.1.1 C.1.2.1 dL_law_501 ?_
  refine lv_topE (nI (6 * t + 1)) (nI_add (6 * t) 1) ?_
  refine L_ld C hS (6 * t + 1) rfl (by omega) hL dL_law_502 ?_
  refine L_I C hS (L_run C hP hS hl.1 0 5 (by decide) rfl (by decide) rfl [.int (xs (6 * t + 1))] (kX5_comers l g 64 v (xs (6 * t + 1)) N hR) gL_law_X5_comers rfl hdX5_comers rfl ⟨rfl, rfl⟩ ⟨Nat.le_of_ble_eq_true rfl, Nat.le_of_ble_eq_true rfl⟩ rfl [] rfl (Nat.le_of_ble_eq_true rfl) dL_law_503 ⟨by omega, by omega⟩) (fun r u H locs hps hP hS => ?_)
  have hu := hps.2
  refine lv_aload_n C.1.1 C.1.2.1 dL_law_506 rfl (lv_at hl 2 rfl) ?_
  refine lv_aload_n C.1.1 C.1.2.1 dL_law_507 rfl (lv_at hl 0 rfl) ?_
  refine lv_iload_n C.1.1 C.1.2.1 dL_law_508 rfl (lv_at hl 3 rfl) ?_
  refine lv_iconst (v := 1) C.1.1 C.1.2.1 dL_law_509 rfl ?_
  refine lv_iadd C.1.1 C.1.2.1 dL_law_510 ?_
  refine lv_topE (nI (6 * t + 1)) (nI_add (6 * t) 1) ?_
  refine L_ld C hS (6 * t + 1) rfl (by omega) hL dL_law_511 ?_
  refine L_F C hS (L_run C hP hS hl.1 53 6 (by decide) rfl (by decide) rfl [.int (xs (6 * t + 1))] (kX6_comers l g 64 u (xs (6 * t + 1)) N (rb_M hR hu)) gL_law_X6_comers rfl hdX6_comers rfl ⟨rfl, rfl⟩ ⟨Nat.le_of_ble_eq_true rfl, Nat.le_of_ble_eq_true rfl⟩ rfl [.int r] rfl (Nat.le_of_ble_eq_true rfl) dL_law_512 ⟨by omega, by omega⟩) (fun H locs hP hS => ?_)
  refine lv_icmp_eq (tgt := 1460) C.1.1 C.1.2.1 dL_law_515 (by decide) (fun _ => ?_) (fun hne => absurd hps.1.1 hne)
  obtain ⟨N2, hN2⟩ := hps.1.2
  refine W.widen (k := cs + 1) (n := ss + 4) (by omega) (by omega) ?_
  exact kk _ N2 _ _ hN2 hP hS

set_option maxHeartbeats 2000000 in
set_option maxRecDepth 100000 in
theorem op_520 (l : Launch) {g : GG} {p : Program} {e : Env} {s : State} {m : MethodId} {below : List Frame} {meth : Method} {c : Code} {b L : Nat} {xs : Nat → Int32} (hL : L ≤ 3072) (C : LC g b L xs p s m c) {Q : State → Prop} {v : SV} {N : Nat} (hR : Rl v N) {t : Nat} (ht : 6 * t + 6 ≤ L) {H : Heap} {locs : List Loc} {ls : Array Slot} {cs ss : Nat} (hcs : cs + 1 ≤ 600000 ∧ ss + 4 ≤ 7302250) (hP : va_P g.1 vwCl (wl g 64 v) H) (hS : va_S (lwA s) s.heap H locs) (hl : lv_has ls 4 [(0, .ref b), (1, .ref (gA g 0)), (2, .ref (gA g 53)), (3, .int (nI (6 * t)))]) (kk : ∀ (u : SV) (N2 : Nat) (H : Heap) (locs : List Loc), Rl u N2 → va_P g.1 vwCl (wl g 64 u) H → va_S (lwA s) s.heap H locs → W p l e room_1 s m #[.ref b] below meth c H locs (cs + 1) (ss + 4) Q (F0 m 1460 ls [])) : W p l e room_1 s m #[.ref b] below meth c H locs cs ss Q (F0 m 520 ls []) := by
  refine lv_aload_n C.1.1 C.1.2.1 dL_law_520 rfl (lv_at hl 1 rfl) ?_
  refine lv_aload_n C.1.1 C.1.2.1 dL_law_521 rfl (lv_at hl 0 rfl) ?_
  refine lv_iload_n C.1.1 C.1.2.1 dL_law_522 rfl (lv_at hl 3 rfl) ?_
  refine lv_iconst (v := 1) C.1.1 C.1.2.1 dL_law_523 rfl ?_
  refine lv_iadd C.1.1 C.1.2.1 dL_law_524 ?_
  refine lv_topE (nI (6 * t + 1)) (nI_add (6 * t) 1) ?_
  refine L_ld C hS (6 * t + 1) rfl (by omega) hL dL_law_525 ?_
  refine L_I C hS (L_run C hP hS hl.1 0 5 (by decide) rfl (by decide) rfl [.int (xs (6 * t + 1))] (kX5_go l g 64 v (xs (6 * t + 1)) N hR) gL_law_X5_go rfl hdX5_go rfl ⟨rfl, rfl⟩ ⟨Nat.le_of_ble_eq_true rfl, Nat.le_of_ble_eq_true rfl⟩ rfl [] rfl (Nat.le_of_ble_eq_true rfl) dL_law_526 ⟨by omega, by omega⟩) (fun r u H locs hps hP hS => ?_)
  have hu := hps.2
  refine lv_aload_n C.1.1 C.1.2.1 dL_law_529 rfl (lv_at hl 2 rfl) ?_
  refine lv_aload_n C.1.1 C.1.2.1 dL_law_530 rfl (lv_at hl 0 rfl) ?_
  refine lv_iload_n C.1.1 C.1.2.1 dL_law_531 rfl (lv_at hl 3 rfl) ?_
  refine lv_iconst (v := 1) C.1.1 C.1.2.1 dL_law_532 rfl ?_
  refine lv_iadd C.1.1 C.1.2.1 dL_law_533 ?_
  refine lv_topE (nI (6 * t + 1)) (nI_add (6 * t) 1) ?_
  refine L_ld C hS (6 * t + 1) rfl (by omega) hL dL_law_534 ?_
  refine L_F C hS (L_run C hP hS hl.1 53 6 (by decide) rfl (by decide) rfl [.int (xs (6 * t + 1))] (kX6_go l g 64 u (xs (6 * t + 1)) N (rb_M hR hu)) gL_law_X6_go rfl hdX6_go rfl ⟨rfl, rfl⟩ ⟨Nat.le_of_ble_eq_true rfl, Nat.le_of_ble_eq_true rfl⟩ rfl [.int r] rfl (Nat.le_of_ble_eq_true rfl) dL_law_535 ⟨by omega, by omega⟩) (fun H locs hP hS => ?_)
  refine lv_icmp_eq (tgt := 1460) C.1.1 C.1.2.1 dL_law_538 (by decide) (fun _ => ?_) (fun hne => absurd hps.1.1 hne)
  obtain ⟨N2, hN2⟩ := hps.1.2
  refine W.widen (k := cs + 1) (n := ss + 4) (by omega) (by omega) ?_
  exact kk _ N2 _ _ hN2 hP hS

set_option maxHeartbeats 2000000 in
set_option maxRecDepth 100000 in
theorem op_543 (l : Launch) {g : GG} {p : Program} {e : Env} {s : State} {m : MethodId} {below : List Frame} {meth : Method} {c : Code} {b L : Nat} {xs : Nat → Int32} (hL : L ≤ 3072) (C : LC g b L xs p s m c) {Q : State → Prop} {v : SV} {N : Nat} (hR : Rl v N) {t : Nat} (ht : 6 * t + 6 ≤ L) {H : Heap} {locs : List Loc} {ls : Array Slot} {cs ss : Nat} (hcs : cs + 1 ≤ 600000 ∧ ss + 4 ≤ 7302250) (hP : va_P g.1 vwCl (wl g 64 v) H) (hS : va_S (lwA s) s.heap H locs) (hl : lv_has ls 4 [(0, .ref b), (1, .ref (gA g 0)), (2, .ref (gA g 53)), (3, .int (nI (6 * t)))]) (kk : ∀ (u : SV) (N2 : Nat) (H : Heap) (locs : List Loc), Rl u N2 → va_P g.1 vwCl (wl g 64 u) H → va_S (lwA s) s.heap H locs → W p l e room_1 s m #[.ref b] below meth c H locs (cs + 1) (ss + 4) Q (F0 m 1460 ls [])) : W p l e room_1 s m #[.ref b] below meth c H locs cs ss Q (F0 m 543 ls []) := by
  refine lv_aload_n C.1.1 C.1.2.1 dL_law_543 rfl (lv_at hl 1 rfl) ?_
  refine lv_aload_n C.1.1 C.1.2.1 dL_law_544 rfl (lv_at hl 0 rfl) ?_
  refine lv_iload_n C.1.1 C.1.2.1 dL_law_545 rfl (lv_at hl 3 rfl) ?_
  refine lv_iconst (v := 1) C.1.1 C.1.2.1 dL_law_546 rfl ?_
  refine lv_iadd C.1.1 C.1.2.1 dL_law_547 ?_
  refine lv_topE (nI (6 * t + 1)) (nI_add (6 * t) 1) ?_
  refine L_ld C hS (6 * t + 1) rfl (by omega) hL dL_law_548 ?_
  refine L_I C hS (L_run C hP hS hl.1 0 5 (by decide) rfl (by decide) rfl [.int (xs (6 * t + 1))] (kX5_now l g 64 v (xs (6 * t + 1)) N hR) gL_law_X5_now rfl hdX5_now rfl ⟨rfl, rfl⟩ ⟨Nat.le_of_ble_eq_true rfl, Nat.le_of_ble_eq_true rfl⟩ rfl [] rfl (Nat.le_of_ble_eq_true rfl) dL_law_549 ⟨by omega, by omega⟩) (fun r u H locs hps hP hS => ?_)
  have hu := hps.2
  refine lv_aload_n C.1.1 C.1.2.1 dL_law_552 rfl (lv_at hl 2 rfl) ?_
  refine lv_aload_n C.1.1 C.1.2.1 dL_law_553 rfl (lv_at hl 0 rfl) ?_
  refine lv_iload_n C.1.1 C.1.2.1 dL_law_554 rfl (lv_at hl 3 rfl) ?_
  refine lv_iconst (v := 1) C.1.1 C.1.2.1 dL_law_555 rfl ?_
  refine lv_iadd C.1.1 C.1.2.1 dL_law_556 ?_
  refine lv_topE (nI (6 * t + 1)) (nI_add (6 * t) 1) ?_
  refine L_ld C hS (6 * t + 1) rfl (by omega) hL dL_law_557 ?_
  refine L_F C hS (L_run C hP hS hl.1 53 6 (by decide) rfl (by decide) rfl [.int (xs (6 * t + 1))] (kX6_now l g 64 u (xs (6 * t + 1)) N (rb_M hR hu)) gL_law_X6_now rfl hdX6_now rfl ⟨rfl, rfl⟩ ⟨Nat.le_of_ble_eq_true rfl, Nat.le_of_ble_eq_true rfl⟩ rfl [.int r] rfl (Nat.le_of_ble_eq_true rfl) dL_law_558 ⟨by omega, by omega⟩) (fun H locs hP hS => ?_)
  refine lv_icmp_eq (tgt := 1460) C.1.1 C.1.2.1 dL_law_561 (by decide) (fun _ => ?_) (fun hne => absurd hps.1.1 hne)
  obtain ⟨N2, hN2⟩ := hps.1.2
  refine W.widen (k := cs + 1) (n := ss + 4) (by omega) (by omega) ?_
  exact kk _ N2 _ _ hN2 hP hS

set_option maxHeartbeats 2000000 in
set_option maxRecDepth 100000 in
theorem op_566 (l : Launch) {g : GG} {p : Program} {e : Env} {s : State} {m : MethodId} {below : List Frame} {meth : Method} {c : Code} {b L : Nat} {xs : Nat → Int32} (hL : L ≤ 3072) (C : LC g b L xs p s m c) {Q : State → Prop} {v : SV} {N : Nat} (hR : Rl v N) {t : Nat} (ht : 6 * t + 6 ≤ L) {H : Heap} {locs : List Loc} {ls : Array Slot} {cs ss : Nat} (hcs : cs + 1 ≤ 600000 ∧ ss + 4 ≤ 7302250) (hP : va_P g.1 vwCl (wl g 64 v) H) (hS : va_S (lwA s) s.heap H locs) (hl : lv_has ls 4 [(0, .ref b), (1, .ref (gA g 0)), (2, .ref (gA g 53)), (3, .int (nI (6 * t)))]) (kk : ∀ (u : SV) (N2 : Nat) (H : Heap) (locs : List Loc), Rl u N2 → va_P g.1 vwCl (wl g 64 u) H → va_S (lwA s) s.heap H locs → W p l e room_1 s m #[.ref b] below meth c H locs (cs + 1) (ss + 4) Q (F0 m 1460 ls [])) : W p l e room_1 s m #[.ref b] below meth c H locs cs ss Q (F0 m 566 ls []) := by
  refine lv_aload_n C.1.1 C.1.2.1 dL_law_566 rfl (lv_at hl 1 rfl) ?_
  refine lv_aload_n C.1.1 C.1.2.1 dL_law_567 rfl (lv_at hl 0 rfl) ?_
  refine lv_iload_n C.1.1 C.1.2.1 dL_law_568 rfl (lv_at hl 3 rfl) ?_
  refine lv_iconst (v := 1) C.1.1 C.1.2.1 dL_law_569 rfl ?_
  refine lv_iadd C.1.1 C.1.2.1 dL_law_570 ?_
  refine lv_topE (nI (6 * t + 1)) (nI_add (6 * t) 1) ?_
  refine L_ld C hS (6 * t + 1) rfl (by omega) hL dL_law_571 ?_
  refine lv_aload_n C.1.1 C.1.2.1 dL_law_572 rfl (lv_at hl 0 rfl) ?_
  refine lv_iload_n C.1.1 C.1.2.1 dL_law_573 rfl (lv_at hl 3 rfl) ?_
  refine lv_iconst (v := 2) C.1.1 C.1.2.1 dL_law_574 rfl ?_
  refine lv_iadd C.1.1 C.1.2.1 dL_law_575 ?_
  refine lv_topE (nI (6 * t + 2)) (nI_add (6 * t) 2) ?_
  refine L_ld C hS (6 * t + 2) rfl (by omega) hL dL_law_576 ?_
  refine lv_aload_n C.1.1 C.1.2.1 dL_law_577 rfl (lv_at hl 0 rfl) ?_
  refine lv_iload_n C.1.1 C.1.2.1 dL_law_578 rfl (lv_at hl 3 rfl) ?_
  refine lv_iconst (v := 3) C.1.1 C.1.2.1 dL_law_579 rfl ?_
  refine lv_iadd C.1.1 C.1.2.1 dL_law_580 ?_
  refine lv_topE (nI (6 * t + 3)) (nI_add (6 * t) 3) ?_
  refine L_ld C hS (6 * t + 3) rfl (by omega) hL dL_law_581 ?_
  refine L_I C hS (L_run C hP hS hl.1 0 5 (by decide) rfl (by decide) rfl [.int (xs (6 * t + 1)), .int (xs (6 * t + 2)), .int (xs (6 * t + 3))] (kX5_ahead l g 64 v (xs (6 * t + 1)) (xs (6 * t + 2)) (xs (6 * t + 3)) N hR) gL_law_X5_ahead rfl hdX5_ahead rfl ⟨rfl, rfl⟩ ⟨Nat.le_of_ble_eq_true rfl, Nat.le_of_ble_eq_true rfl⟩ rfl [] rfl (Nat.le_of_ble_eq_true rfl) dL_law_582 ⟨by omega, by omega⟩) (fun r u H locs hps hP hS => ?_)
  have hu := hps.2
  refine lv_aload_n C.1.1 C.1.2.1 dL_law_585 rfl (lv_at hl 2 rfl) ?_
  refine lv_aload_n C.1.1 C.1.2.1 dL_law_586 rfl (lv_at hl 0 rfl) ?_
  refine lv_iload_n C.1.1 C.1.2.1 dL_law_587 rfl (lv_at hl 3 rfl) ?_
  refine lv_iconst (v := 1) C.1.1 C.1.2.1 dL_law_588 rfl ?_
  refine lv_iadd C.1.1 C.1.2.1 dL_law_589 ?_
  refine lv_topE (nI (6 * t + 1)) (nI_add (6 * t) 1) ?_
  refine L_ld C hS (6 * t + 1) rfl (by omega) hL dL_law_590 ?_
  refine lv_aload_n C.1.1 C.1.2.1 dL_law_591 rfl (lv_at hl 0 rfl) ?_
  refine lv_iload_n C.1.1 C.1.2.1 dL_law_592 rfl (lv_at hl 3 rfl) ?_
  refine lv_iconst (v := 2) C.1.1 C.1.2.1 dL_law_593 rfl ?_
  refine lv_iadd C.1.1 C.1.2.1 dL_law_594 ?_
  refine lv_topE (nI (6 * t + 2)) (nI_add (6 * t) 2) ?_
  refine L_ld C hS (6 * t + 2) rfl (by omega) hL dL_law_595 ?_
  refine lv_aload_n C.1.1 C.1.2.1 dL_law_596 rfl (lv_at hl 0 rfl) ?_
  refine lv_iload_n C.1.1 C.1.2.1 dL_law_597 rfl (lv_at hl 3 rfl) ?_
  refine lv_iconst (v := 3) C.1.1 C.1.2.1 dL_law_598 rfl ?_
  refine lv_iadd C.1.1 C.1.2.1 dL_law_599 ?_
  refine lv_topE (nI (6 * t + 3)) (nI_add (6 * t) 3) ?_
  refine L_ld C hS (6 * t + 3) rfl (by omega) hL dL_law_600 ?_
  refine L_F C hS (L_run C hP hS hl.1 53 6 (by decide) rfl (by decide) rfl [.int (xs (6 * t + 1)), .int (xs (6 * t + 2)), .int (xs (6 * t + 3))] (kX6_ahead l g 64 u (xs (6 * t + 1)) (xs (6 * t + 2)) (xs (6 * t + 3)) N (rb_M hR hu)) gL_law_X6_ahead rfl hdX6_ahead rfl ⟨rfl, rfl⟩ ⟨Nat.le_of_ble_eq_true rfl, Nat.le_of_ble_eq_true rfl⟩ rfl [.int r] rfl (Nat.le_of_ble_eq_true rfl) dL_law_601 ⟨by omega, by omega⟩) (fun H locs hP hS => ?_)
  refine lv_icmp_eq (tgt := 1460) C.1.1 C.1.2.1 dL_law_604 (by decide) (fun _ => ?_) (fun hne => absurd hps.1.1 hne)
  obtain ⟨N2, hN2⟩ := hps.1.2
  refine W.widen (k := cs + 1) (n := ss + 4) (by omega) (by omega) ?_
  exact kk _ N2 _ _ hN2 hP hS

set_option maxHeartbeats 2000000 in
set_option maxRecDepth 100000 in
theorem op_609 (l : Launch) {g : GG} {p : Program} {e : Env} {s : State} {m : MethodId} {below : List Frame} {meth : Method} {c : Code} {b L : Nat} {xs : Nat → Int32} (hL : L ≤ 3072) (C : LC g b L xs p s m c) {Q : State → Prop} {v : SV} {N : Nat} (hR : Rl v N) {t : Nat} (ht : 6 * t + 6 ≤ L) {H : Heap} {locs : List Loc} {ls : Array Slot} {cs ss : Nat} (hcs : cs + 1 ≤ 600000 ∧ ss + 4 ≤ 7302250) (hP : va_P g.1 vwCl (wl g 64 v) H) (hS : va_S (lwA s) s.heap H locs) (hl : lv_has ls 4 [(0, .ref b), (1, .ref (gA g 0)), (2, .ref (gA g 53)), (3, .int (nI (6 * t)))]) (kk : ∀ (u : SV) (N2 : Nat) (H : Heap) (locs : List Loc), Rl u N2 → va_P g.1 vwCl (wl g 64 u) H → va_S (lwA s) s.heap H locs → W p l e room_1 s m #[.ref b] below meth c H locs (cs + 1) (ss + 4) Q (F0 m 1460 ls [])) : W p l e room_1 s m #[.ref b] below meth c H locs cs ss Q (F0 m 609 ls []) := by
  refine lv_aload_n C.1.1 C.1.2.1 dL_law_609 rfl (lv_at hl 1 rfl) ?_
  refine lv_aload_n C.1.1 C.1.2.1 dL_law_610 rfl (lv_at hl 0 rfl) ?_
  refine lv_iload_n C.1.1 C.1.2.1 dL_law_611 rfl (lv_at hl 3 rfl) ?_
  refine lv_iconst (v := 1) C.1.1 C.1.2.1 dL_law_612 rfl ?_
  refine lv_iadd C.1.1 C.1.2.1 dL_law_613 ?_
  refine lv_topE (nI (6 * t + 1)) (nI_add (6 * t) 1) ?_
  refine L_ld C hS (6 * t + 1) rfl (by omega) hL dL_law_614 ?_
  refine L_I C hS (L_run C hP hS hl.1 0 5 (by decide) rfl (by decide) rfl [.int (xs (6 * t + 1))] (kX5_gold l g 64 v (xs (6 * t + 1)) N hR) gL_law_X5_gold rfl hdX5_gold rfl ⟨rfl, rfl⟩ ⟨Nat.le_of_ble_eq_true rfl, Nat.le_of_ble_eq_true rfl⟩ rfl [] rfl (Nat.le_of_ble_eq_true rfl) dL_law_615 ⟨by omega, by omega⟩) (fun r u H locs hps hP hS => ?_)
  have hu := hps.2
  refine lv_aload_n C.1.1 C.1.2.1 dL_law_618 rfl (lv_at hl 2 rfl) ?_
  refine lv_aload_n C.1.1 C.1.2.1 dL_law_619 rfl (lv_at hl 0 rfl) ?_
  refine lv_iload_n C.1.1 C.1.2.1 dL_law_620 rfl (lv_at hl 3 rfl) ?_
  refine lv_iconst (v := 1) C.1.1 C.1.2.1 dL_law_621 rfl ?_
  refine lv_iadd C.1.1 C.1.2.1 dL_law_622 ?_
  refine lv_topE (nI (6 * t + 1)) (nI_add (6 * t) 1) ?_
  refine L_ld C hS (6 * t + 1) rfl (by omega) hL dL_law_623 ?_
  refine L_F C hS (L_run C hP hS hl.1 53 6 (by decide) rfl (by decide) rfl [.int (xs (6 * t + 1))] (kX6_gold l g 64 u (xs (6 * t + 1)) N (rb_M hR hu)) gL_law_X6_gold rfl hdX6_gold rfl ⟨rfl, rfl⟩ ⟨Nat.le_of_ble_eq_true rfl, Nat.le_of_ble_eq_true rfl⟩ rfl [.int r] rfl (Nat.le_of_ble_eq_true rfl) dL_law_624 ⟨by omega, by omega⟩) (fun H locs hP hS => ?_)
  refine lv_icmp_eq (tgt := 1460) C.1.1 C.1.2.1 dL_law_627 (by decide) (fun _ => ?_) (fun hne => absurd hps.1.1 hne)
  obtain ⟨N2, hN2⟩ := hps.1.2
  refine W.widen (k := cs + 1) (n := ss + 4) (by omega) (by omega) ?_
  exact kk _ N2 _ _ hN2 hP hS

set_option maxHeartbeats 2000000 in
set_option maxRecDepth 100000 in
theorem op_632 (l : Launch) {g : GG} {p : Program} {e : Env} {s : State} {m : MethodId} {below : List Frame} {meth : Method} {c : Code} {b L : Nat} {xs : Nat → Int32} (hL : L ≤ 3072) (C : LC g b L xs p s m c) {Q : State → Prop} {v : SV} {N : Nat} (hR : Rl v N) {t : Nat} (ht : 6 * t + 6 ≤ L) {H : Heap} {locs : List Loc} {ls : Array Slot} {cs ss : Nat} (hcs : cs + 1 ≤ 600000 ∧ ss + 4 ≤ 7302250) (hP : va_P g.1 vwCl (wl g 64 v) H) (hS : va_S (lwA s) s.heap H locs) (hl : lv_has ls 4 [(0, .ref b), (1, .ref (gA g 0)), (2, .ref (gA g 53)), (3, .int (nI (6 * t)))]) (kk : ∀ (u : SV) (N2 : Nat) (H : Heap) (locs : List Loc), Rl u N2 → va_P g.1 vwCl (wl g 64 u) H → va_S (lwA s) s.heap H locs → W p l e room_1 s m #[.ref b] below meth c H locs (cs + 1) (ss + 4) Q (F0 m 1460 ls [])) : W p l e room_1 s m #[.ref b] below meth c H locs cs ss Q (F0 m 632 ls []) := by
  refine lv_aload_n C.1.1 C.1.2.1 dL_law_632 rfl (lv_at hl 1 rfl) ?_
  refine lv_aload_n C.1.1 C.1.2.1 dL_law_633 rfl (lv_at hl 0 rfl) ?_
  refine lv_iload_n C.1.1 C.1.2.1 dL_law_634 rfl (lv_at hl 3 rfl) ?_
  refine lv_iconst (v := 1) C.1.1 C.1.2.1 dL_law_635 rfl ?_
  refine lv_iadd C.1.1 C.1.2.1 dL_law_636 ?_
  refine lv_topE (nI (6 * t + 1)) (nI_add (6 * t) 1) ?_
  refine L_ld C hS (6 * t + 1) rfl (by omega) hL dL_law_637 ?_
  refine lv_aload_n C.1.1 C.1.2.1 dL_law_638 rfl (lv_at hl 0 rfl) ?_
  refine lv_iload_n C.1.1 C.1.2.1 dL_law_639 rfl (lv_at hl 3 rfl) ?_
  refine lv_iconst (v := 2) C.1.1 C.1.2.1 dL_law_640 rfl ?_
  refine lv_iadd C.1.1 C.1.2.1 dL_law_641 ?_
  refine lv_topE (nI (6 * t + 2)) (nI_add (6 * t) 2) ?_
  refine L_ld C hS (6 * t + 2) rfl (by omega) hL dL_law_642 ?_
  refine L_I C hS (L_run C hP hS hl.1 0 5 (by decide) rfl (by decide) rfl [.int (xs (6 * t + 1)), .int (xs (6 * t + 2))] (kX5_stands l g 64 v (xs (6 * t + 1)) (xs (6 * t + 2)) N hR) gL_law_X5_stands rfl hdX5_stands rfl ⟨rfl, rfl⟩ ⟨Nat.le_of_ble_eq_true rfl, Nat.le_of_ble_eq_true rfl⟩ rfl [] rfl (Nat.le_of_ble_eq_true rfl) dL_law_643 ⟨by omega, by omega⟩) (fun r u H locs hps hP hS => ?_)
  have hu := hps.2
  refine lv_aload_n C.1.1 C.1.2.1 dL_law_646 rfl (lv_at hl 2 rfl) ?_
  refine lv_aload_n C.1.1 C.1.2.1 dL_law_647 rfl (lv_at hl 0 rfl) ?_
  refine lv_iload_n C.1.1 C.1.2.1 dL_law_648 rfl (lv_at hl 3 rfl) ?_
  refine lv_iconst (v := 1) C.1.1 C.1.2.1 dL_law_649 rfl ?_
  refine lv_iadd C.1.1 C.1.2.1 dL_law_650 ?_
  refine lv_topE (nI (6 * t + 1)) (nI_add (6 * t) 1) ?_
  refine L_ld C hS (6 * t + 1) rfl (by omega) hL dL_law_651 ?_
  refine lv_aload_n C.1.1 C.1.2.1 dL_law_652 rfl (lv_at hl 0 rfl) ?_
  refine lv_iload_n C.1.1 C.1.2.1 dL_law_653 rfl (lv_at hl 3 rfl) ?_
  refine lv_iconst (v := 2) C.1.1 C.1.2.1 dL_law_654 rfl ?_
  refine lv_iadd C.1.1 C.1.2.1 dL_law_655 ?_
  refine lv_topE (nI (6 * t + 2)) (nI_add (6 * t) 2) ?_
  refine L_ld C hS (6 * t + 2) rfl (by omega) hL dL_law_656 ?_
  refine L_F C hS (L_run C hP hS hl.1 53 6 (by decide) rfl (by decide) rfl [.int (xs (6 * t + 1)), .int (xs (6 * t + 2))] (kX6_stands l g 64 u (xs (6 * t + 1)) (xs (6 * t + 2)) N (rb_M hR hu)) gL_law_X6_stands rfl hdX6_stands rfl ⟨rfl, rfl⟩ ⟨Nat.le_of_ble_eq_true rfl, Nat.le_of_ble_eq_true rfl⟩ rfl [.int r] rfl (Nat.le_of_ble_eq_true rfl) dL_law_657 ⟨by omega, by omega⟩) (fun H locs hP hS => ?_)
  refine lv_icmp_eq (tgt := 1460) C.1.1 C.1.2.1 dL_law_660 (by decide) (fun _ => ?_) (fun hne => absurd hps.1.1 hne)
  obtain ⟨N2, hN2⟩ := hps.1.2
  refine W.widen (k := cs + 1) (n := ss + 4) (by omega) (by omega) ?_
  exact kk _ N2 _ _ hN2 hP hS

set_option maxHeartbeats 2000000 in
set_option maxRecDepth 100000 in
theorem op_665 (l : Launch) {g : GG} {p : Program} {e : Env} {s : State} {m : MethodId} {below : List Frame} {meth : Method} {c : Code} {b L : Nat} {xs : Nat → Int32} (hL : L ≤ 3072) (C : LC g b L xs p s m c) {Q : State → Prop} {v : SV} {N : Nat} (hR : Rl v N) {t : Nat} (ht : 6 * t + 6 ≤ L) {H : Heap} {locs : List Loc} {ls : Array Slot} {cs ss : Nat} (hcs : cs + 1 ≤ 600000 ∧ ss + 4 ≤ 7302250) (hP : va_P g.1 vwCl (wl g 64 v) H) (hS : va_S (lwA s) s.heap H locs) (hl : lv_has ls 4 [(0, .ref b), (1, .ref (gA g 0)), (2, .ref (gA g 53)), (3, .int (nI (6 * t)))]) (kk : ∀ (u : SV) (N2 : Nat) (H : Heap) (locs : List Loc), Rl u N2 → va_P g.1 vwCl (wl g 64 u) H → va_S (lwA s) s.heap H locs → W p l e room_1 s m #[.ref b] below meth c H locs (cs + 1) (ss + 4) Q (F0 m 1460 ls [])) : W p l e room_1 s m #[.ref b] below meth c H locs cs ss Q (F0 m 665 ls []) := by
  refine lv_aload_n C.1.1 C.1.2.1 dL_law_665 rfl (lv_at hl 1 rfl) ?_
  refine lv_aload_n C.1.1 C.1.2.1 dL_law_666 rfl (lv_at hl 0 rfl) ?_
  refine lv_iload_n C.1.1 C.1.2.1 dL_law_667 rfl (lv_at hl 3 rfl) ?_
  refine lv_iconst (v := 1) C.1.1 C.1.2.1 dL_law_668 rfl ?_
  refine lv_iadd C.1.1 C.1.2.1 dL_law_669 ?_
  refine lv_topE (nI (6 * t + 1)) (nI_add (6 * t) 1) ?_
  refine L_ld C hS (6 * t + 1) rfl (by omega) hL dL_law_670 ?_
  refine lv_aload_n C.1.1 C.1.2.1 dL_law_671 rfl (lv_at hl 0 rfl) ?_
  refine lv_iload_n C.1.1 C.1.2.1 dL_law_672 rfl (lv_at hl 3 rfl) ?_
  refine lv_iconst (v := 2) C.1.1 C.1.2.1 dL_law_673 rfl ?_
  refine lv_iadd C.1.1 C.1.2.1 dL_law_674 ?_
  refine lv_topE (nI (6 * t + 2)) (nI_add (6 * t) 2) ?_
  refine L_ld C hS (6 * t + 2) rfl (by omega) hL dL_law_675 ?_
  refine L_I C hS (L_run C hP hS hl.1 0 5 (by decide) rfl (by decide) rfl [.int (xs (6 * t + 1)), .int (xs (6 * t + 2))] (kX5_wants l g 64 v (xs (6 * t + 1)) (xs (6 * t + 2)) N hR) gL_law_X5_wants rfl hdX5_wants rfl ⟨rfl, rfl⟩ ⟨Nat.le_of_ble_eq_true rfl, Nat.le_of_ble_eq_true rfl⟩ rfl [] rfl (Nat.le_of_ble_eq_true rfl) dL_law_676 ⟨by omega, by omega⟩) (fun r u H locs hps hP hS => ?_)
  have hu := hps.2
  refine lv_aload_n C.1.1 C.1.2.1 dL_law_679 rfl (lv_at hl 2 rfl) ?_
  refine lv_aload_n C.1.1 C.1.2.1 dL_law_680 rfl (lv_at hl 0 rfl) ?_
  refine lv_iload_n C.1.1 C.1.2.1 dL_law_681 rfl (lv_at hl 3 rfl) ?_
  refine lv_iconst (v := 1) C.1.1 C.1.2.1 dL_law_682 rfl ?_
  refine lv_iadd C.1.1 C.1.2.1 dL_law_683 ?_
  refine lv_topE (nI (6 * t + 1)) (nI_add (6 * t) 1) ?_
  refine L_ld C hS (6 * t + 1) rfl (by omega) hL dL_law_684 ?_
  refine lv_aload_n C.1.1 C.1.2.1 dL_law_685 rfl (lv_at hl 0 rfl) ?_
  refine lv_iload_n C.1.1 C.1.2.1 dL_law_686 rfl (lv_at hl 3 rfl) ?_
  refine lv_iconst (v := 2) C.1.1 C.1.2.1 dL_law_687 rfl ?_
  refine lv_iadd C.1.1 C.1.2.1 dL_law_688 ?_
  refine lv_topE (nI (6 * t + 2)) (nI_add (6 * t) 2) ?_
  refine L_ld C hS (6 * t + 2) rfl (by omega) hL dL_law_689 ?_
  refine L_F C hS (L_run C hP hS hl.1 53 6 (by decide) rfl (by decide) rfl [.int (xs (6 * t + 1)), .int (xs (6 * t + 2))] (kX6_wants l g 64 u (xs (6 * t + 1)) (xs (6 * t + 2)) N (rb_M hR hu)) gL_law_X6_wants rfl hdX6_wants rfl ⟨rfl, rfl⟩ ⟨Nat.le_of_ble_eq_true rfl, Nat.le_of_ble_eq_true rfl⟩ rfl [.int r] rfl (Nat.le_of_ble_eq_true rfl) dL_law_690 ⟨by omega, by omega⟩) (fun H locs hP hS => ?_)
  refine lv_icmp_eq (tgt := 1460) C.1.1 C.1.2.1 dL_law_693 (by decide) (fun _ => ?_) (fun hne => absurd hps.1.1 hne)
  obtain ⟨N2, hN2⟩ := hps.1.2
  refine W.widen (k := cs + 1) (n := ss + 4) (by omega) (by omega) ?_
  exact kk _ N2 _ _ hN2 hP hS

set_option maxHeartbeats 2000000 in
set_option maxRecDepth 100000 in
theorem op_698 (l : Launch) {g : GG} {p : Program} {e : Env} {s : State} {m : MethodId} {below : List Frame} {meth : Method} {c : Code} {b L : Nat} {xs : Nat → Int32} (hL : L ≤ 3072) (C : LC g b L xs p s m c) {Q : State → Prop} {v : SV} {N : Nat} (hR : Rl v N) {t : Nat} (ht : 6 * t + 6 ≤ L) {H : Heap} {locs : List Loc} {ls : Array Slot} {cs ss : Nat} (hcs : cs + 1 ≤ 600000 ∧ ss + 4 ≤ 7302250) (hP : va_P g.1 vwCl (wl g 64 v) H) (hS : va_S (lwA s) s.heap H locs) (hl : lv_has ls 4 [(0, .ref b), (1, .ref (gA g 0)), (2, .ref (gA g 53)), (3, .int (nI (6 * t)))]) (kk : ∀ (u : SV) (N2 : Nat) (H : Heap) (locs : List Loc), Rl u N2 → va_P g.1 vwCl (wl g 64 u) H → va_S (lwA s) s.heap H locs → W p l e room_1 s m #[.ref b] below meth c H locs (cs + 1) (ss + 4) Q (F0 m 1460 ls [])) : W p l e room_1 s m #[.ref b] below meth c H locs cs ss Q (F0 m 698 ls []) := by
  refine lv_aload_n C.1.1 C.1.2.1 dL_law_698 rfl (lv_at hl 1 rfl) ?_
  refine lv_aload_n C.1.1 C.1.2.1 dL_law_699 rfl (lv_at hl 0 rfl) ?_
  refine lv_iload_n C.1.1 C.1.2.1 dL_law_700 rfl (lv_at hl 3 rfl) ?_
  refine lv_iconst (v := 1) C.1.1 C.1.2.1 dL_law_701 rfl ?_
  refine lv_iadd C.1.1 C.1.2.1 dL_law_702 ?_
  refine lv_topE (nI (6 * t + 1)) (nI_add (6 * t) 1) ?_
  refine L_ld C hS (6 * t + 1) rfl (by omega) hL dL_law_703 ?_
  refine lv_aload_n C.1.1 C.1.2.1 dL_law_704 rfl (lv_at hl 0 rfl) ?_
  refine lv_iload_n C.1.1 C.1.2.1 dL_law_705 rfl (lv_at hl 3 rfl) ?_
  refine lv_iconst (v := 2) C.1.1 C.1.2.1 dL_law_706 rfl ?_
  refine lv_iadd C.1.1 C.1.2.1 dL_law_707 ?_
  refine lv_topE (nI (6 * t + 2)) (nI_add (6 * t) 2) ?_
  refine L_ld C hS (6 * t + 2) rfl (by omega) hL dL_law_708 ?_
  refine L_I C hS (L_run C hP hS hl.1 0 5 (by decide) rfl (by decide) rfl [.int (xs (6 * t + 1)), .int (xs (6 * t + 2))] (kX5_despair l g 64 v (xs (6 * t + 1)) (xs (6 * t + 2)) N hR) gL_law_X5_despair rfl hdX5_despair rfl ⟨rfl, rfl⟩ ⟨Nat.le_of_ble_eq_true rfl, Nat.le_of_ble_eq_true rfl⟩ rfl [] rfl (Nat.le_of_ble_eq_true rfl) dL_law_709 ⟨by omega, by omega⟩) (fun r u H locs hps hP hS => ?_)
  have hu := hps.2
  refine lv_aload_n C.1.1 C.1.2.1 dL_law_712 rfl (lv_at hl 2 rfl) ?_
  refine lv_aload_n C.1.1 C.1.2.1 dL_law_713 rfl (lv_at hl 0 rfl) ?_
  refine lv_iload_n C.1.1 C.1.2.1 dL_law_714 rfl (lv_at hl 3 rfl) ?_
  refine lv_iconst (v := 1) C.1.1 C.1.2.1 dL_law_715 rfl ?_
  refine lv_iadd C.1.1 C.1.2.1 dL_law_716 ?_
  refine lv_topE (nI (6 * t + 1)) (nI_add (6 * t) 1) ?_
  refine L_ld C hS (6 * t + 1) rfl (by omega) hL dL_law_717 ?_
  refine lv_aload_n C.1.1 C.1.2.1 dL_law_718 rfl (lv_at hl 0 rfl) ?_
  refine lv_iload_n C.1.1 C.1.2.1 dL_law_719 rfl (lv_at hl 3 rfl) ?_
  refine lv_iconst (v := 2) C.1.1 C.1.2.1 dL_law_720 rfl ?_
  refine lv_iadd C.1.1 C.1.2.1 dL_law_721 ?_
  refine lv_topE (nI (6 * t + 2)) (nI_add (6 * t) 2) ?_
  refine L_ld C hS (6 * t + 2) rfl (by omega) hL dL_law_722 ?_
  refine L_F C hS (L_run C hP hS hl.1 53 6 (by decide) rfl (by decide) rfl [.int (xs (6 * t + 1)), .int (xs (6 * t + 2))] (kX6_despair l g 64 u (xs (6 * t + 1)) (xs (6 * t + 2)) N (rb_M hR hu)) gL_law_X6_despair rfl hdX6_despair rfl ⟨rfl, rfl⟩ ⟨Nat.le_of_ble_eq_true rfl, Nat.le_of_ble_eq_true rfl⟩ rfl [.int r] rfl (Nat.le_of_ble_eq_true rfl) dL_law_723 ⟨by omega, by omega⟩) (fun H locs hP hS => ?_)
  refine lv_icmp_eq (tgt := 1460) C.1.1 C.1.2.1 dL_law_726 (by decide) (fun _ => ?_) (fun hne => absurd hps.1.1 hne)
  obtain ⟨N2, hN2⟩ := hps.1.2
  refine W.widen (k := cs + 1) (n := ss + 4) (by omega) (by omega) ?_
  exact kk _ N2 _ _ hN2 hP hS

set_option maxHeartbeats 2000000 in
set_option maxRecDepth 100000 in
theorem op_731 (l : Launch) {g : GG} {p : Program} {e : Env} {s : State} {m : MethodId} {below : List Frame} {meth : Method} {c : Code} {b L : Nat} {xs : Nat → Int32} (hL : L ≤ 3072) (C : LC g b L xs p s m c) {Q : State → Prop} {v : SV} {N : Nat} (hR : Rl v N) {t : Nat} (ht : 6 * t + 6 ≤ L) {H : Heap} {locs : List Loc} {ls : Array Slot} {cs ss : Nat} (hcs : cs + 1 ≤ 600000 ∧ ss + 4 ≤ 7302250) (hP : va_P g.1 vwCl (wl g 64 v) H) (hS : va_S (lwA s) s.heap H locs) (hl : lv_has ls 4 [(0, .ref b), (1, .ref (gA g 0)), (2, .ref (gA g 53)), (3, .int (nI (6 * t)))]) (kk : ∀ (u : SV) (N2 : Nat) (H : Heap) (locs : List Loc), Rl u N2 → va_P g.1 vwCl (wl g 64 u) H → va_S (lwA s) s.heap H locs → W p l e room_1 s m #[.ref b] below meth c H locs (cs + 1) (ss + 4) Q (F0 m 1460 ls [])) : W p l e room_1 s m #[.ref b] below meth c H locs cs ss Q (F0 m 731 ls []) := by
  refine lv_aload_n C.1.1 C.1.2.1 dL_law_731 rfl (lv_at hl 1 rfl) ?_
  refine lv_aload_n C.1.1 C.1.2.1 dL_law_732 rfl (lv_at hl 0 rfl) ?_
  refine lv_iload_n C.1.1 C.1.2.1 dL_law_733 rfl (lv_at hl 3 rfl) ?_
  refine lv_iconst (v := 1) C.1.1 C.1.2.1 dL_law_734 rfl ?_
  refine lv_iadd C.1.1 C.1.2.1 dL_law_735 ?_
  refine lv_topE (nI (6 * t + 1)) (nI_add (6 * t) 1) ?_
  refine L_ld C hS (6 * t + 1) rfl (by omega) hL dL_law_736 ?_
  refine lv_aload_n C.1.1 C.1.2.1 dL_law_737 rfl (lv_at hl 0 rfl) ?_
  refine lv_iload_n C.1.1 C.1.2.1 dL_law_738 rfl (lv_at hl 3 rfl) ?_
  refine lv_iconst (v := 2) C.1.1 C.1.2.1 dL_law_739 rfl ?_
  refine lv_iadd C.1.1 C.1.2.1 dL_law_740 ?_
  refine lv_topE (nI (6 * t + 2)) (nI_add (6 * t) 2) ?_
  refine L_ld C hS (6 * t + 2) rfl (by omega) hL dL_law_741 ?_
  refine L_I C hS (L_run C hP hS hl.1 0 5 (by decide) rfl (by decide) rfl [.int (xs (6 * t + 1)), .int (xs (6 * t + 2))] (kX5_cryFor l g 64 v (xs (6 * t + 1)) (xs (6 * t + 2)) N hR) gL_law_X5_cryFor rfl hdX5_cryFor rfl ⟨rfl, rfl⟩ ⟨Nat.le_of_ble_eq_true rfl, Nat.le_of_ble_eq_true rfl⟩ rfl [] rfl (Nat.le_of_ble_eq_true rfl) dL_law_742 ⟨by omega, by omega⟩) (fun r u H locs hps hP hS => ?_)
  have hu := hps.2
  refine lv_aload_n C.1.1 C.1.2.1 dL_law_745 rfl (lv_at hl 2 rfl) ?_
  refine lv_aload_n C.1.1 C.1.2.1 dL_law_746 rfl (lv_at hl 0 rfl) ?_
  refine lv_iload_n C.1.1 C.1.2.1 dL_law_747 rfl (lv_at hl 3 rfl) ?_
  refine lv_iconst (v := 1) C.1.1 C.1.2.1 dL_law_748 rfl ?_
  refine lv_iadd C.1.1 C.1.2.1 dL_law_749 ?_
  refine lv_topE (nI (6 * t + 1)) (nI_add (6 * t) 1) ?_
  refine L_ld C hS (6 * t + 1) rfl (by omega) hL dL_law_750 ?_
  refine lv_aload_n C.1.1 C.1.2.1 dL_law_751 rfl (lv_at hl 0 rfl) ?_
  refine lv_iload_n C.1.1 C.1.2.1 dL_law_752 rfl (lv_at hl 3 rfl) ?_
  refine lv_iconst (v := 2) C.1.1 C.1.2.1 dL_law_753 rfl ?_
  refine lv_iadd C.1.1 C.1.2.1 dL_law_754 ?_
  refine lv_topE (nI (6 * t + 2)) (nI_add (6 * t) 2) ?_
  refine L_ld C hS (6 * t + 2) rfl (by omega) hL dL_law_755 ?_
  refine L_F C hS (L_run C hP hS hl.1 53 6 (by decide) rfl (by decide) rfl [.int (xs (6 * t + 1)), .int (xs (6 * t + 2))] (kX6_cryFor l g 64 u (xs (6 * t + 1)) (xs (6 * t + 2)) N (rb_M hR hu)) gL_law_X6_cryFor rfl hdX6_cryFor rfl ⟨rfl, rfl⟩ ⟨Nat.le_of_ble_eq_true rfl, Nat.le_of_ble_eq_true rfl⟩ rfl [.int r] rfl (Nat.le_of_ble_eq_true rfl) dL_law_756 ⟨by omega, by omega⟩) (fun H locs hP hS => ?_)
  refine lv_icmp_eq (tgt := 1460) C.1.1 C.1.2.1 dL_law_759 (by decide) (fun _ => ?_) (fun hne => absurd hps.1.1 hne)
  obtain ⟨N2, hN2⟩ := hps.1.2
  refine W.widen (k := cs + 1) (n := ss + 4) (by omega) (by omega) ?_
  exact kk _ N2 _ _ hN2 hP hS

set_option maxHeartbeats 2000000 in
set_option maxRecDepth 100000 in
theorem op_764 (l : Launch) {g : GG} {p : Program} {e : Env} {s : State} {m : MethodId} {below : List Frame} {meth : Method} {c : Code} {b L : Nat} {xs : Nat → Int32} (hL : L ≤ 3072) (C : LC g b L xs p s m c) {Q : State → Prop} {v : SV} {N : Nat} (hR : Rl v N) {t : Nat} (ht : 6 * t + 6 ≤ L) {H : Heap} {locs : List Loc} {ls : Array Slot} {cs ss : Nat} (hcs : cs + 1 ≤ 600000 ∧ ss + 4 ≤ 7302250) (hP : va_P g.1 vwCl (wl g 64 v) H) (hS : va_S (lwA s) s.heap H locs) (hl : lv_has ls 4 [(0, .ref b), (1, .ref (gA g 0)), (2, .ref (gA g 53)), (3, .int (nI (6 * t)))]) (kk : ∀ (u : SV) (N2 : Nat) (H : Heap) (locs : List Loc), Rl u N2 → va_P g.1 vwCl (wl g 64 u) H → va_S (lwA s) s.heap H locs → W p l e room_1 s m #[.ref b] below meth c H locs (cs + 1) (ss + 4) Q (F0 m 1460 ls [])) : W p l e room_1 s m #[.ref b] below meth c H locs cs ss Q (F0 m 764 ls []) := by
  refine lv_aload_n C.1.1 C.1.2.1 dL_law_764 rfl (lv_at hl 1 rfl) ?_
  refine lv_aload_n C.1.1 C.1.2.1 dL_law_765 rfl (lv_at hl 0 rfl) ?_
  refine lv_iload_n C.1.1 C.1.2.1 dL_law_766 rfl (lv_at hl 3 rfl) ?_
  refine lv_iconst (v := 1) C.1.1 C.1.2.1 dL_law_767 rfl ?_
  refine lv_iadd C.1.1 C.1.2.1 dL_law_768 ?_
  refine lv_topE (nI (6 * t + 1)) (nI_add (6 * t) 1) ?_
  refine L_ld C hS (6 * t + 1) rfl (by omega) hL dL_law_769 ?_
  refine L_I C hS (L_run C hP hS hl.1 0 5 (by decide) rfl (by decide) rfl [.int (xs (6 * t + 1))] (kX5_startFor l g 64 v (xs (6 * t + 1)) N hR) gL_law_X5_startFor rfl hdX5_startFor rfl ⟨rfl, rfl⟩ ⟨Nat.le_of_ble_eq_true rfl, Nat.le_of_ble_eq_true rfl⟩ rfl [] rfl (Nat.le_of_ble_eq_true rfl) dL_law_770 ⟨by omega, by omega⟩) (fun r u H locs hps hP hS => ?_)
  have hu := hps.2
  refine lv_aload_n C.1.1 C.1.2.1 dL_law_773 rfl (lv_at hl 2 rfl) ?_
  refine lv_aload_n C.1.1 C.1.2.1 dL_law_774 rfl (lv_at hl 0 rfl) ?_
  refine lv_iload_n C.1.1 C.1.2.1 dL_law_775 rfl (lv_at hl 3 rfl) ?_
  refine lv_iconst (v := 1) C.1.1 C.1.2.1 dL_law_776 rfl ?_
  refine lv_iadd C.1.1 C.1.2.1 dL_law_777 ?_
  refine lv_topE (nI (6 * t + 1)) (nI_add (6 * t) 1) ?_
  refine L_ld C hS (6 * t + 1) rfl (by omega) hL dL_law_778 ?_
  refine L_F C hS (L_run C hP hS hl.1 53 6 (by decide) rfl (by decide) rfl [.int (xs (6 * t + 1))] (kX6_startFor l g 64 u (xs (6 * t + 1)) N (rb_M hR hu)) gL_law_X6_startFor rfl hdX6_startFor rfl ⟨rfl, rfl⟩ ⟨Nat.le_of_ble_eq_true rfl, Nat.le_of_ble_eq_true rfl⟩ rfl [.int r] rfl (Nat.le_of_ble_eq_true rfl) dL_law_779 ⟨by omega, by omega⟩) (fun H locs hP hS => ?_)
  refine lv_icmp_eq (tgt := 1460) C.1.1 C.1.2.1 dL_law_782 (by decide) (fun _ => ?_) (fun hne => absurd hps.1.1 hne)
  obtain ⟨N2, hN2⟩ := hps.1.2
  refine W.widen (k := cs + 1) (n := ss + 4) (by omega) (by omega) ?_
  exact kk _ N2 _ _ hN2 hP hS

set_option maxHeartbeats 2000000 in
set_option maxRecDepth 100000 in
theorem op_787 (l : Launch) {g : GG} {p : Program} {e : Env} {s : State} {m : MethodId} {below : List Frame} {meth : Method} {c : Code} {b L : Nat} {xs : Nat → Int32} (hL : L ≤ 3072) (C : LC g b L xs p s m c) {Q : State → Prop} {v : SV} {N : Nat} (hR : Rl v N) {t : Nat} (ht : 6 * t + 6 ≤ L) {H : Heap} {locs : List Loc} {ls : Array Slot} {cs ss : Nat} (hcs : cs + 1 ≤ 600000 ∧ ss + 4 ≤ 7302250) (hP : va_P g.1 vwCl (wl g 64 v) H) (hS : va_S (lwA s) s.heap H locs) (hl : lv_has ls 4 [(0, .ref b), (1, .ref (gA g 0)), (2, .ref (gA g 53)), (3, .int (nI (6 * t)))]) (kk : ∀ (u : SV) (N2 : Nat) (H : Heap) (locs : List Loc), Rl u N2 → va_P g.1 vwCl (wl g 64 u) H → va_S (lwA s) s.heap H locs → W p l e room_1 s m #[.ref b] below meth c H locs (cs + 1) (ss + 4) Q (F0 m 1460 ls [])) : W p l e room_1 s m #[.ref b] below meth c H locs cs ss Q (F0 m 787 ls []) := by
  refine lv_aload_n C.1.1 C.1.2.1 dL_law_787 rfl (lv_at hl 1 rfl) ?_
  refine lv_aload_n C.1.1 C.1.2.1 dL_law_788 rfl (lv_at hl 0 rfl) ?_
  refine lv_iload_n C.1.1 C.1.2.1 dL_law_789 rfl (lv_at hl 3 rfl) ?_
  refine lv_iconst (v := 1) C.1.1 C.1.2.1 dL_law_790 rfl ?_
  refine lv_iadd C.1.1 C.1.2.1 dL_law_791 ?_
  refine lv_topE (nI (6 * t + 1)) (nI_add (6 * t) 1) ?_
  refine L_ld C hS (6 * t + 1) rfl (by omega) hL dL_law_792 ?_
  refine lv_aload_n C.1.1 C.1.2.1 dL_law_793 rfl (lv_at hl 0 rfl) ?_
  refine lv_iload_n C.1.1 C.1.2.1 dL_law_794 rfl (lv_at hl 3 rfl) ?_
  refine lv_iconst (v := 2) C.1.1 C.1.2.1 dL_law_795 rfl ?_
  refine lv_iadd C.1.1 C.1.2.1 dL_law_796 ?_
  refine lv_topE (nI (6 * t + 2)) (nI_add (6 * t) 2) ?_
  refine L_ld C hS (6 * t + 2) rfl (by omega) hL dL_law_797 ?_
  refine L_I C hS (L_run C hP hS hl.1 0 5 (by decide) rfl (by decide) rfl [.int (xs (6 * t + 1)), .int (xs (6 * t + 2))] (kX5_loudFor l g 64 v (xs (6 * t + 1)) (xs (6 * t + 2)) N hR) gL_law_X5_loudFor rfl hdX5_loudFor rfl ⟨rfl, rfl⟩ ⟨Nat.le_of_ble_eq_true rfl, Nat.le_of_ble_eq_true rfl⟩ rfl [] rfl (Nat.le_of_ble_eq_true rfl) dL_law_798 ⟨by omega, by omega⟩) (fun r u H locs hps hP hS => ?_)
  have hu := hps.2
  refine lv_aload_n C.1.1 C.1.2.1 dL_law_801 rfl (lv_at hl 2 rfl) ?_
  refine lv_aload_n C.1.1 C.1.2.1 dL_law_802 rfl (lv_at hl 0 rfl) ?_
  refine lv_iload_n C.1.1 C.1.2.1 dL_law_803 rfl (lv_at hl 3 rfl) ?_
  refine lv_iconst (v := 1) C.1.1 C.1.2.1 dL_law_804 rfl ?_
  refine lv_iadd C.1.1 C.1.2.1 dL_law_805 ?_
  refine lv_topE (nI (6 * t + 1)) (nI_add (6 * t) 1) ?_
  refine L_ld C hS (6 * t + 1) rfl (by omega) hL dL_law_806 ?_
  refine lv_aload_n C.1.1 C.1.2.1 dL_law_807 rfl (lv_at hl 0 rfl) ?_
  refine lv_iload_n C.1.1 C.1.2.1 dL_law_808 rfl (lv_at hl 3 rfl) ?_
  refine lv_iconst (v := 2) C.1.1 C.1.2.1 dL_law_809 rfl ?_
  refine lv_iadd C.1.1 C.1.2.1 dL_law_810 ?_
  refine lv_topE (nI (6 * t + 2)) (nI_add (6 * t) 2) ?_
  refine L_ld C hS (6 * t + 2) rfl (by omega) hL dL_law_811 ?_
  refine L_F C hS (L_run C hP hS hl.1 53 6 (by decide) rfl (by decide) rfl [.int (xs (6 * t + 1)), .int (xs (6 * t + 2))] (kX6_loudFor l g 64 u (xs (6 * t + 1)) (xs (6 * t + 2)) N (rb_M hR hu)) gL_law_X6_loudFor rfl hdX6_loudFor rfl ⟨rfl, rfl⟩ ⟨Nat.le_of_ble_eq_true rfl, Nat.le_of_ble_eq_true rfl⟩ rfl [.int r] rfl (Nat.le_of_ble_eq_true rfl) dL_law_812 ⟨by omega, by omega⟩) (fun H locs hP hS => ?_)
  refine lv_icmp_eq (tgt := 1460) C.1.1 C.1.2.1 dL_law_815 (by decide) (fun _ => ?_) (fun hne => absurd hps.1.1 hne)
  obtain ⟨N2, hN2⟩ := hps.1.2
  refine W.widen (k := cs + 1) (n := ss + 4) (by omega) (by omega) ?_
  exact kk _ N2 _ _ hN2 hP hS

set_option maxHeartbeats 2000000 in
set_option maxRecDepth 100000 in
theorem op_820 (l : Launch) {g : GG} {p : Program} {e : Env} {s : State} {m : MethodId} {below : List Frame} {meth : Method} {c : Code} {b L : Nat} {xs : Nat → Int32} (hL : L ≤ 3072) (C : LC g b L xs p s m c) {Q : State → Prop} {v : SV} {N : Nat} (hR : Rl v N) {t : Nat} (ht : 6 * t + 6 ≤ L) {H : Heap} {locs : List Loc} {ls : Array Slot} {cs ss : Nat} (hcs : cs + 1 ≤ 600000 ∧ ss + 4 ≤ 7302250) (hP : va_P g.1 vwCl (wl g 64 v) H) (hS : va_S (lwA s) s.heap H locs) (hl : lv_has ls 4 [(0, .ref b), (1, .ref (gA g 0)), (2, .ref (gA g 53)), (3, .int (nI (6 * t)))]) (kk : ∀ (u : SV) (N2 : Nat) (H : Heap) (locs : List Loc), Rl u N2 → va_P g.1 vwCl (wl g 64 u) H → va_S (lwA s) s.heap H locs → W p l e room_1 s m #[.ref b] below meth c H locs (cs + 1) (ss + 4) Q (F0 m 1460 ls [])) : W p l e room_1 s m #[.ref b] below meth c H locs cs ss Q (F0 m 820 ls []) := by
  refine lv_aload_n C.1.1 C.1.2.1 dL_law_820 rfl (lv_at hl 1 rfl) ?_
  refine lv_aload_n C.1.1 C.1.2.1 dL_law_821 rfl (lv_at hl 0 rfl) ?_
  refine lv_iload_n C.1.1 C.1.2.1 dL_law_822 rfl (lv_at hl 3 rfl) ?_
  refine lv_iconst (v := 1) C.1.1 C.1.2.1 dL_law_823 rfl ?_
  refine lv_iadd C.1.1 C.1.2.1 dL_law_824 ?_
  refine lv_topE (nI (6 * t + 1)) (nI_add (6 * t) 1) ?_
  refine L_ld C hS (6 * t + 1) rfl (by omega) hL dL_law_825 ?_
  refine lv_aload_n C.1.1 C.1.2.1 dL_law_826 rfl (lv_at hl 0 rfl) ?_
  refine lv_iload_n C.1.1 C.1.2.1 dL_law_827 rfl (lv_at hl 3 rfl) ?_
  refine lv_iconst (v := 2) C.1.1 C.1.2.1 dL_law_828 rfl ?_
  refine lv_iadd C.1.1 C.1.2.1 dL_law_829 ?_
  refine lv_topE (nI (6 * t + 2)) (nI_add (6 * t) 2) ?_
  refine L_ld C hS (6 * t + 2) rfl (by omega) hL dL_law_830 ?_
  refine L_I C hS (L_run C hP hS hl.1 0 5 (by decide) rfl (by decide) rfl [.int (xs (6 * t + 1)), .int (xs (6 * t + 2))] (kX5_kindFor l g 64 v (xs (6 * t + 1)) (xs (6 * t + 2)) N hR) gL_law_X5_kindFor rfl hdX5_kindFor rfl ⟨rfl, rfl⟩ ⟨Nat.le_of_ble_eq_true rfl, Nat.le_of_ble_eq_true rfl⟩ rfl [] rfl (Nat.le_of_ble_eq_true rfl) dL_law_831 ⟨by omega, by omega⟩) (fun r u H locs hps hP hS => ?_)
  have hu := hps.2
  refine lv_aload_n C.1.1 C.1.2.1 dL_law_834 rfl (lv_at hl 2 rfl) ?_
  refine lv_aload_n C.1.1 C.1.2.1 dL_law_835 rfl (lv_at hl 0 rfl) ?_
  refine lv_iload_n C.1.1 C.1.2.1 dL_law_836 rfl (lv_at hl 3 rfl) ?_
  refine lv_iconst (v := 1) C.1.1 C.1.2.1 dL_law_837 rfl ?_
  refine lv_iadd C.1.1 C.1.2.1 dL_law_838 ?_
  refine lv_topE (nI (6 * t + 1)) (nI_add (6 * t) 1) ?_
  refine L_ld C hS (6 * t + 1) rfl (by omega) hL dL_law_839 ?_
  refine lv_aload_n C.1.1 C.1.2.1 dL_law_840 rfl (lv_at hl 0 rfl) ?_
  refine lv_iload_n C.1.1 C.1.2.1 dL_law_841 rfl (lv_at hl 3 rfl) ?_
  refine lv_iconst (v := 2) C.1.1 C.1.2.1 dL_law_842 rfl ?_
  refine lv_iadd C.1.1 C.1.2.1 dL_law_843 ?_
  refine lv_topE (nI (6 * t + 2)) (nI_add (6 * t) 2) ?_
  refine L_ld C hS (6 * t + 2) rfl (by omega) hL dL_law_844 ?_
  refine L_F C hS (L_run C hP hS hl.1 53 6 (by decide) rfl (by decide) rfl [.int (xs (6 * t + 1)), .int (xs (6 * t + 2))] (kX6_kindFor l g 64 u (xs (6 * t + 1)) (xs (6 * t + 2)) N (rb_M hR hu)) gL_law_X6_kindFor rfl hdX6_kindFor rfl ⟨rfl, rfl⟩ ⟨Nat.le_of_ble_eq_true rfl, Nat.le_of_ble_eq_true rfl⟩ rfl [.int r] rfl (Nat.le_of_ble_eq_true rfl) dL_law_845 ⟨by omega, by omega⟩) (fun H locs hP hS => ?_)
  refine lv_icmp_eq (tgt := 1460) C.1.1 C.1.2.1 dL_law_848 (by decide) (fun _ => ?_) (fun hne => absurd hps.1.1 hne)
  obtain ⟨N2, hN2⟩ := hps.1.2
  refine W.widen (k := cs + 1) (n := ss + 4) (by omega) (by omega) ?_
  exact kk _ N2 _ _ hN2 hP hS

set_option maxHeartbeats 2000000 in
set_option maxRecDepth 100000 in
theorem op_853 (l : Launch) {g : GG} {p : Program} {e : Env} {s : State} {m : MethodId} {below : List Frame} {meth : Method} {c : Code} {b L : Nat} {xs : Nat → Int32} (hL : L ≤ 3072) (C : LC g b L xs p s m c) {Q : State → Prop} {v : SV} {N : Nat} (hR : Rl v N) {t : Nat} (ht : 6 * t + 6 ≤ L) {H : Heap} {locs : List Loc} {ls : Array Slot} {cs ss : Nat} (hcs : cs + 1 ≤ 600000 ∧ ss + 4 ≤ 7302250) (hP : va_P g.1 vwCl (wl g 64 v) H) (hS : va_S (lwA s) s.heap H locs) (hl : lv_has ls 4 [(0, .ref b), (1, .ref (gA g 0)), (2, .ref (gA g 53)), (3, .int (nI (6 * t)))]) (kk : ∀ (u : SV) (N2 : Nat) (H : Heap) (locs : List Loc), Rl u N2 → va_P g.1 vwCl (wl g 64 u) H → va_S (lwA s) s.heap H locs → W p l e room_1 s m #[.ref b] below meth c H locs (cs + 1) (ss + 4) Q (F0 m 1460 ls [])) : W p l e room_1 s m #[.ref b] below meth c H locs cs ss Q (F0 m 853 ls []) := by
  refine lv_aload_n C.1.1 C.1.2.1 dL_law_853 rfl (lv_at hl 1 rfl) ?_
  refine lv_aload_n C.1.1 C.1.2.1 dL_law_854 rfl (lv_at hl 0 rfl) ?_
  refine lv_iload_n C.1.1 C.1.2.1 dL_law_855 rfl (lv_at hl 3 rfl) ?_
  refine lv_iconst (v := 1) C.1.1 C.1.2.1 dL_law_856 rfl ?_
  refine lv_iadd C.1.1 C.1.2.1 dL_law_857 ?_
  refine lv_topE (nI (6 * t + 1)) (nI_add (6 * t) 1) ?_
  refine L_ld C hS (6 * t + 1) rfl (by omega) hL dL_law_858 ?_
  refine L_I C hS (L_run C hP hS hl.1 0 5 (by decide) rfl (by decide) rfl [.int (xs (6 * t + 1))] (kX5_empty l g 64 v (xs (6 * t + 1)) N hR) gL_law_X5_empty rfl hdX5_empty rfl ⟨rfl, rfl⟩ ⟨Nat.le_of_ble_eq_true rfl, Nat.le_of_ble_eq_true rfl⟩ rfl [] rfl (Nat.le_of_ble_eq_true rfl) dL_law_859 ⟨by omega, by omega⟩) (fun r u H locs hps hP hS => ?_)
  have hu := hps.2
  refine lv_aload_n C.1.1 C.1.2.1 dL_law_862 rfl (lv_at hl 2 rfl) ?_
  refine lv_aload_n C.1.1 C.1.2.1 dL_law_863 rfl (lv_at hl 0 rfl) ?_
  refine lv_iload_n C.1.1 C.1.2.1 dL_law_864 rfl (lv_at hl 3 rfl) ?_
  refine lv_iconst (v := 1) C.1.1 C.1.2.1 dL_law_865 rfl ?_
  refine lv_iadd C.1.1 C.1.2.1 dL_law_866 ?_
  refine lv_topE (nI (6 * t + 1)) (nI_add (6 * t) 1) ?_
  refine L_ld C hS (6 * t + 1) rfl (by omega) hL dL_law_867 ?_
  refine L_F C hS (L_run C hP hS hl.1 53 6 (by decide) rfl (by decide) rfl [.int (xs (6 * t + 1))] (kX6_empty l g 64 u (xs (6 * t + 1)) N (rb_M hR hu)) gL_law_X6_empty rfl hdX6_empty rfl ⟨rfl, rfl⟩ ⟨Nat.le_of_ble_eq_true rfl, Nat.le_of_ble_eq_true rfl⟩ rfl [.int r] rfl (Nat.le_of_ble_eq_true rfl) dL_law_868 ⟨by omega, by omega⟩) (fun H locs hP hS => ?_)
  refine lv_icmp_eq (tgt := 1460) C.1.1 C.1.2.1 dL_law_871 (by decide) (fun _ => ?_) (fun hne => absurd hps.1.1 hne)
  obtain ⟨N2, hN2⟩ := hps.1.2
  refine W.widen (k := cs + 1) (n := ss + 4) (by omega) (by omega) ?_
  exact kk _ N2 _ _ hN2 hP hS

set_option maxHeartbeats 2000000 in
set_option maxRecDepth 100000 in
theorem op_876 (l : Launch) {g : GG} {p : Program} {e : Env} {s : State} {m : MethodId} {below : List Frame} {meth : Method} {c : Code} {b L : Nat} {xs : Nat → Int32} (hL : L ≤ 3072) (C : LC g b L xs p s m c) {Q : State → Prop} {v : SV} {N : Nat} (hR : Rl v N) {t : Nat} (ht : 6 * t + 6 ≤ L) {H : Heap} {locs : List Loc} {ls : Array Slot} {cs ss : Nat} (hcs : cs + 1 ≤ 600000 ∧ ss + 4 ≤ 7302250) (hP : va_P g.1 vwCl (wl g 64 v) H) (hS : va_S (lwA s) s.heap H locs) (hl : lv_has ls 4 [(0, .ref b), (1, .ref (gA g 0)), (2, .ref (gA g 53)), (3, .int (nI (6 * t)))]) (kk : ∀ (u : SV) (N2 : Nat) (H : Heap) (locs : List Loc), Rl u N2 → va_P g.1 vwCl (wl g 64 u) H → va_S (lwA s) s.heap H locs → W p l e room_1 s m #[.ref b] below meth c H locs (cs + 1) (ss + 4) Q (F0 m 1460 ls [])) : W p l e room_1 s m #[.ref b] below meth c H locs cs ss Q (F0 m 876 ls []) := by
  refine lv_aload_n C.1.1 C.1.2.1 dL_law_876 rfl (lv_at hl 1 rfl) ?_
  refine lv_aload_n C.1.1 C.1.2.1 dL_law_877 rfl (lv_at hl 0 rfl) ?_
  refine lv_iload_n C.1.1 C.1.2.1 dL_law_878 rfl (lv_at hl 3 rfl) ?_
  refine lv_iconst (v := 1) C.1.1 C.1.2.1 dL_law_879 rfl ?_
  refine lv_iadd C.1.1 C.1.2.1 dL_law_880 ?_
  refine lv_topE (nI (6 * t + 1)) (nI_add (6 * t) 1) ?_
  refine L_ld C hS (6 * t + 1) rfl (by omega) hL dL_law_881 ?_
  refine L_I C hS (L_run C hP hS hl.1 0 5 (by decide) rfl (by decide) rfl [.int (xs (6 * t + 1))] (kX5_cover l g 64 v (xs (6 * t + 1)) N hR) gL_law_X5_cover rfl hdX5_cover rfl ⟨rfl, rfl⟩ ⟨Nat.le_of_ble_eq_true rfl, Nat.le_of_ble_eq_true rfl⟩ rfl [] rfl (Nat.le_of_ble_eq_true rfl) dL_law_882 ⟨by omega, by omega⟩) (fun r u H locs hps hP hS => ?_)
  have hu := hps.2
  refine lv_aload_n C.1.1 C.1.2.1 dL_law_885 rfl (lv_at hl 2 rfl) ?_
  refine lv_aload_n C.1.1 C.1.2.1 dL_law_886 rfl (lv_at hl 0 rfl) ?_
  refine lv_iload_n C.1.1 C.1.2.1 dL_law_887 rfl (lv_at hl 3 rfl) ?_
  refine lv_iconst (v := 1) C.1.1 C.1.2.1 dL_law_888 rfl ?_
  refine lv_iadd C.1.1 C.1.2.1 dL_law_889 ?_
  refine lv_topE (nI (6 * t + 1)) (nI_add (6 * t) 1) ?_
  refine L_ld C hS (6 * t + 1) rfl (by omega) hL dL_law_890 ?_
  refine L_F C hS (L_run C hP hS hl.1 53 6 (by decide) rfl (by decide) rfl [.int (xs (6 * t + 1))] (kX6_cover l g 64 u (xs (6 * t + 1)) N (rb_M hR hu)) gL_law_X6_cover rfl hdX6_cover rfl ⟨rfl, rfl⟩ ⟨Nat.le_of_ble_eq_true rfl, Nat.le_of_ble_eq_true rfl⟩ rfl [.int r] rfl (Nat.le_of_ble_eq_true rfl) dL_law_891 ⟨by omega, by omega⟩) (fun H locs hP hS => ?_)
  refine lv_icmp_eq (tgt := 1460) C.1.1 C.1.2.1 dL_law_894 (by decide) (fun _ => ?_) (fun hne => absurd hps.1.1 hne)
  obtain ⟨N2, hN2⟩ := hps.1.2
  refine W.widen (k := cs + 1) (n := ss + 4) (by omega) (by omega) ?_
  exact kk _ N2 _ _ hN2 hP hS

set_option maxHeartbeats 2000000 in
set_option maxRecDepth 100000 in
theorem op_899 (l : Launch) {g : GG} {p : Program} {e : Env} {s : State} {m : MethodId} {below : List Frame} {meth : Method} {c : Code} {b L : Nat} {xs : Nat → Int32} (hL : L ≤ 3072) (C : LC g b L xs p s m c) {Q : State → Prop} {v : SV} {N : Nat} (hR : Rl v N) {t : Nat} (ht : 6 * t + 6 ≤ L) {H : Heap} {locs : List Loc} {ls : Array Slot} {cs ss : Nat} (hcs : cs + 1 ≤ 600000 ∧ ss + 4 ≤ 7302250) (hP : va_P g.1 vwCl (wl g 64 v) H) (hS : va_S (lwA s) s.heap H locs) (hl : lv_has ls 4 [(0, .ref b), (1, .ref (gA g 0)), (2, .ref (gA g 53)), (3, .int (nI (6 * t)))]) (kk : ∀ (u : SV) (N2 : Nat) (H : Heap) (locs : List Loc), Rl u N2 → va_P g.1 vwCl (wl g 64 u) H → va_S (lwA s) s.heap H locs → W p l e room_1 s m #[.ref b] below meth c H locs (cs + 1) (ss + 4) Q (F0 m 1460 ls [])) : W p l e room_1 s m #[.ref b] below meth c H locs cs ss Q (F0 m 899 ls []) := by
  refine lv_aload_n C.1.1 C.1.2.1 dL_law_899 rfl (lv_at hl 1 rfl) ?_
  refine lv_aload_n C.1.1 C.1.2.1 dL_law_900 rfl (lv_at hl 0 rfl) ?_
  refine lv_iload_n C.1.1 C.1.2.1 dL_law_901 rfl (lv_at hl 3 rfl) ?_
  refine lv_iconst (v := 1) C.1.1 C.1.2.1 dL_law_902 rfl ?_
  refine lv_iadd C.1.1 C.1.2.1 dL_law_903 ?_
  refine lv_topE (nI (6 * t + 1)) (nI_add (6 * t) 1) ?_
  refine L_ld C hS (6 * t + 1) rfl (by omega) hL dL_law_904 ?_
  refine lv_aload_n C.1.1 C.1.2.1 dL_law_905 rfl (lv_at hl 0 rfl) ?_
  refine lv_iload_n C.1.1 C.1.2.1 dL_law_906 rfl (lv_at hl 3 rfl) ?_
  refine lv_iconst (v := 2) C.1.1 C.1.2.1 dL_law_907 rfl ?_
  refine lv_iadd C.1.1 C.1.2.1 dL_law_908 ?_
  refine lv_topE (nI (6 * t + 2)) (nI_add (6 * t) 2) ?_
  refine L_ld C hS (6 * t + 2) rfl (by omega) hL dL_law_909 ?_
  refine L_I C hS (L_run C hP hS hl.1 0 5 (by decide) rfl (by decide) rfl [.int (xs (6 * t + 1)), .int (xs (6 * t + 2))] (kX5_fits l g 64 v (xs (6 * t + 1)) (xs (6 * t + 2)) N hR) gL_law_X5_fits rfl hdX5_fits rfl ⟨rfl, rfl⟩ ⟨Nat.le_of_ble_eq_true rfl, Nat.le_of_ble_eq_true rfl⟩ rfl [] rfl (Nat.le_of_ble_eq_true rfl) dL_law_910 ⟨by omega, by omega⟩) (fun r u H locs hps hP hS => ?_)
  have hu := hps.2
  refine lv_aload_n C.1.1 C.1.2.1 dL_law_913 rfl (lv_at hl 2 rfl) ?_
  refine lv_aload_n C.1.1 C.1.2.1 dL_law_914 rfl (lv_at hl 0 rfl) ?_
  refine lv_iload_n C.1.1 C.1.2.1 dL_law_915 rfl (lv_at hl 3 rfl) ?_
  refine lv_iconst (v := 1) C.1.1 C.1.2.1 dL_law_916 rfl ?_
  refine lv_iadd C.1.1 C.1.2.1 dL_law_917 ?_
  refine lv_topE (nI (6 * t + 1)) (nI_add (6 * t) 1) ?_
  refine L_ld C hS (6 * t + 1) rfl (by omega) hL dL_law_918 ?_
  refine lv_aload_n C.1.1 C.1.2.1 dL_law_919 rfl (lv_at hl 0 rfl) ?_
  refine lv_iload_n C.1.1 C.1.2.1 dL_law_920 rfl (lv_at hl 3 rfl) ?_
  refine lv_iconst (v := 2) C.1.1 C.1.2.1 dL_law_921 rfl ?_
  refine lv_iadd C.1.1 C.1.2.1 dL_law_922 ?_
  refine lv_topE (nI (6 * t + 2)) (nI_add (6 * t) 2) ?_
  refine L_ld C hS (6 * t + 2) rfl (by omega) hL dL_law_923 ?_
  refine L_F C hS (L_run C hP hS hl.1 53 6 (by decide) rfl (by decide) rfl [.int (xs (6 * t + 1)), .int (xs (6 * t + 2))] (kX6_fits l g 64 u (xs (6 * t + 1)) (xs (6 * t + 2)) N (rb_M hR hu) (rb_Sz hR hu)) gL_law_X6_fits rfl hdX6_fits rfl ⟨rfl, rfl⟩ ⟨Nat.le_of_ble_eq_true rfl, Nat.le_of_ble_eq_true rfl⟩ rfl [.int r] rfl (Nat.le_of_ble_eq_true rfl) dL_law_924 ⟨by omega, by omega⟩) (fun H locs hP hS => ?_)
  refine lv_icmp_eq (tgt := 1460) C.1.1 C.1.2.1 dL_law_927 (by decide) (fun _ => ?_) (fun hne => absurd hps.1.1 hne)
  obtain ⟨N2, hN2⟩ := hps.1.2
  refine W.widen (k := cs + 1) (n := ss + 4) (by omega) (by omega) ?_
  exact kk _ N2 _ _ hN2 hP hS

set_option maxHeartbeats 2000000 in
set_option maxRecDepth 100000 in
theorem op_932 (l : Launch) {g : GG} {p : Program} {e : Env} {s : State} {m : MethodId} {below : List Frame} {meth : Method} {c : Code} {b L : Nat} {xs : Nat → Int32} (hL : L ≤ 3072) (C : LC g b L xs p s m c) {Q : State → Prop} {v : SV} {N : Nat} (hR : Rl v N) {t : Nat} (ht : 6 * t + 6 ≤ L) {H : Heap} {locs : List Loc} {ls : Array Slot} {cs ss : Nat} (hcs : cs + 1 ≤ 600000 ∧ ss + 4 ≤ 7302250) (hP : va_P g.1 vwCl (wl g 64 v) H) (hS : va_S (lwA s) s.heap H locs) (hl : lv_has ls 4 [(0, .ref b), (1, .ref (gA g 0)), (2, .ref (gA g 53)), (3, .int (nI (6 * t)))]) (kk : ∀ (u : SV) (N2 : Nat) (H : Heap) (locs : List Loc), Rl u N2 → va_P g.1 vwCl (wl g 64 u) H → va_S (lwA s) s.heap H locs → W p l e room_1 s m #[.ref b] below meth c H locs (cs + 1) (ss + 4) Q (F0 m 1460 ls [])) : W p l e room_1 s m #[.ref b] below meth c H locs cs ss Q (F0 m 932 ls []) := by
  refine lv_aload_n C.1.1 C.1.2.1 dL_law_932 rfl (lv_at hl 1 rfl) ?_
  refine lv_aload_n C.1.1 C.1.2.1 dL_law_933 rfl (lv_at hl 0 rfl) ?_
  refine lv_iload_n C.1.1 C.1.2.1 dL_law_934 rfl (lv_at hl 3 rfl) ?_
  refine lv_iconst (v := 1) C.1.1 C.1.2.1 dL_law_935 rfl ?_
  refine lv_iadd C.1.1 C.1.2.1 dL_law_936 ?_
  refine lv_topE (nI (6 * t + 1)) (nI_add (6 * t) 1) ?_
  refine L_ld C hS (6 * t + 1) rfl (by omega) hL dL_law_937 ?_
  refine lv_aload_n C.1.1 C.1.2.1 dL_law_938 rfl (lv_at hl 0 rfl) ?_
  refine lv_iload_n C.1.1 C.1.2.1 dL_law_939 rfl (lv_at hl 3 rfl) ?_
  refine lv_iconst (v := 2) C.1.1 C.1.2.1 dL_law_940 rfl ?_
  refine lv_iadd C.1.1 C.1.2.1 dL_law_941 ?_
  refine lv_topE (nI (6 * t + 2)) (nI_add (6 * t) 2) ?_
  refine L_ld C hS (6 * t + 2) rfl (by omega) hL dL_law_942 ?_
  refine L_I C hS (L_run C hP hS hl.1 0 5 (by decide) rfl (by decide) rfl [.int (xs (6 * t + 1)), .int (xs (6 * t + 2))] (kX5_kinds l g 64 v (xs (6 * t + 1)) (xs (6 * t + 2)) N hR) gL_law_X5_kinds rfl hdX5_kinds rfl ⟨rfl, rfl⟩ ⟨Nat.le_of_ble_eq_true rfl, Nat.le_of_ble_eq_true rfl⟩ rfl [] rfl (Nat.le_of_ble_eq_true rfl) dL_law_943 ⟨by omega, by omega⟩) (fun r u H locs hps hP hS => ?_)
  have hu := hps.2
  refine lv_aload_n C.1.1 C.1.2.1 dL_law_946 rfl (lv_at hl 2 rfl) ?_
  refine lv_aload_n C.1.1 C.1.2.1 dL_law_947 rfl (lv_at hl 0 rfl) ?_
  refine lv_iload_n C.1.1 C.1.2.1 dL_law_948 rfl (lv_at hl 3 rfl) ?_
  refine lv_iconst (v := 1) C.1.1 C.1.2.1 dL_law_949 rfl ?_
  refine lv_iadd C.1.1 C.1.2.1 dL_law_950 ?_
  refine lv_topE (nI (6 * t + 1)) (nI_add (6 * t) 1) ?_
  refine L_ld C hS (6 * t + 1) rfl (by omega) hL dL_law_951 ?_
  refine lv_aload_n C.1.1 C.1.2.1 dL_law_952 rfl (lv_at hl 0 rfl) ?_
  refine lv_iload_n C.1.1 C.1.2.1 dL_law_953 rfl (lv_at hl 3 rfl) ?_
  refine lv_iconst (v := 2) C.1.1 C.1.2.1 dL_law_954 rfl ?_
  refine lv_iadd C.1.1 C.1.2.1 dL_law_955 ?_
  refine lv_topE (nI (6 * t + 2)) (nI_add (6 * t) 2) ?_
  refine L_ld C hS (6 * t + 2) rfl (by omega) hL dL_law_956 ?_
  refine L_F C hS (L_run C hP hS hl.1 53 6 (by decide) rfl (by decide) rfl [.int (xs (6 * t + 1)), .int (xs (6 * t + 2))] (kX6_kinds l g 64 u (xs (6 * t + 1)) (xs (6 * t + 2)) N (rb_M hR hu) (rb_Sz hR hu)) gL_law_X6_kinds rfl hdX6_kinds rfl ⟨rfl, rfl⟩ ⟨Nat.le_of_ble_eq_true rfl, Nat.le_of_ble_eq_true rfl⟩ rfl [.int r] rfl (Nat.le_of_ble_eq_true rfl) dL_law_957 ⟨by omega, by omega⟩) (fun H locs hP hS => ?_)
  refine lv_icmp_eq (tgt := 1460) C.1.1 C.1.2.1 dL_law_960 (by decide) (fun _ => ?_) (fun hne => absurd hps.1.1 hne)
  obtain ⟨N2, hN2⟩ := hps.1.2
  refine W.widen (k := cs + 1) (n := ss + 4) (by omega) (by omega) ?_
  exact kk _ N2 _ _ hN2 hP hS

set_option maxHeartbeats 2000000 in
set_option maxRecDepth 100000 in
theorem op_965 (l : Launch) {g : GG} {p : Program} {e : Env} {s : State} {m : MethodId} {below : List Frame} {meth : Method} {c : Code} {b L : Nat} {xs : Nat → Int32} (hL : L ≤ 3072) (C : LC g b L xs p s m c) {Q : State → Prop} {v : SV} {N : Nat} (hR : Rl v N) {t : Nat} (ht : 6 * t + 6 ≤ L) {H : Heap} {locs : List Loc} {ls : Array Slot} {cs ss : Nat} (hcs : cs + 1 ≤ 600000 ∧ ss + 4 ≤ 7302250) (hP : va_P g.1 vwCl (wl g 64 v) H) (hS : va_S (lwA s) s.heap H locs) (hl : lv_has ls 4 [(0, .ref b), (1, .ref (gA g 0)), (2, .ref (gA g 53)), (3, .int (nI (6 * t)))]) (kk : ∀ (u : SV) (N2 : Nat) (H : Heap) (locs : List Loc), Rl u N2 → va_P g.1 vwCl (wl g 64 u) H → va_S (lwA s) s.heap H locs → W p l e room_1 s m #[.ref b] below meth c H locs (cs + 1) (ss + 4) Q (F0 m 1460 ls [])) : W p l e room_1 s m #[.ref b] below meth c H locs cs ss Q (F0 m 965 ls []) := by
  refine lv_aload_n C.1.1 C.1.2.1 dL_law_965 rfl (lv_at hl 1 rfl) ?_
  refine lv_aload_n C.1.1 C.1.2.1 dL_law_966 rfl (lv_at hl 0 rfl) ?_
  refine lv_iload_n C.1.1 C.1.2.1 dL_law_967 rfl (lv_at hl 3 rfl) ?_
  refine lv_iconst (v := 1) C.1.1 C.1.2.1 dL_law_968 rfl ?_
  refine lv_iadd C.1.1 C.1.2.1 dL_law_969 ?_
  refine lv_topE (nI (6 * t + 1)) (nI_add (6 * t) 1) ?_
  refine L_ld C hS (6 * t + 1) rfl (by omega) hL dL_law_970 ?_
  refine L_I C hS (L_run C hP hS hl.1 0 5 (by decide) rfl (by decide) rfl [.int (xs (6 * t + 1))] (kX5_hawk l g 64 v (xs (6 * t + 1)) N hR) gL_law_X5_hawk rfl hdX5_hawk rfl ⟨rfl, rfl⟩ ⟨Nat.le_of_ble_eq_true rfl, Nat.le_of_ble_eq_true rfl⟩ rfl [] rfl (Nat.le_of_ble_eq_true rfl) dL_law_971 ⟨by omega, by omega⟩) (fun r u H locs hps hP hS => ?_)
  have hu := hps.2
  refine lv_aload_n C.1.1 C.1.2.1 dL_law_974 rfl (lv_at hl 2 rfl) ?_
  refine lv_aload_n C.1.1 C.1.2.1 dL_law_975 rfl (lv_at hl 0 rfl) ?_
  refine lv_iload_n C.1.1 C.1.2.1 dL_law_976 rfl (lv_at hl 3 rfl) ?_
  refine lv_iconst (v := 1) C.1.1 C.1.2.1 dL_law_977 rfl ?_
  refine lv_iadd C.1.1 C.1.2.1 dL_law_978 ?_
  refine lv_topE (nI (6 * t + 1)) (nI_add (6 * t) 1) ?_
  refine L_ld C hS (6 * t + 1) rfl (by omega) hL dL_law_979 ?_
  refine L_F C hS (L_run C hP hS hl.1 53 6 (by decide) rfl (by decide) rfl [.int (xs (6 * t + 1))] (kX6_hawk l g 64 u (xs (6 * t + 1)) N (rb_M hR hu)) gL_law_X6_hawk rfl hdX6_hawk rfl ⟨rfl, rfl⟩ ⟨Nat.le_of_ble_eq_true rfl, Nat.le_of_ble_eq_true rfl⟩ rfl [.int r] rfl (Nat.le_of_ble_eq_true rfl) dL_law_980 ⟨by omega, by omega⟩) (fun H locs hP hS => ?_)
  refine lv_icmp_eq (tgt := 1460) C.1.1 C.1.2.1 dL_law_983 (by decide) (fun _ => ?_) (fun hne => absurd hps.1.1 hne)
  obtain ⟨N2, hN2⟩ := hps.1.2
  refine W.widen (k := cs + 1) (n := ss + 4) (by omega) (by omega) ?_
  exact kk _ N2 _ _ hN2 hP hS

set_option maxHeartbeats 2000000 in
set_option maxRecDepth 100000 in
theorem op_988 (l : Launch) {g : GG} {p : Program} {e : Env} {s : State} {m : MethodId} {below : List Frame} {meth : Method} {c : Code} {b L : Nat} {xs : Nat → Int32} (hL : L ≤ 3072) (C : LC g b L xs p s m c) {Q : State → Prop} {v : SV} {N : Nat} (hR : Rl v N) {t : Nat} (ht : 6 * t + 6 ≤ L) {H : Heap} {locs : List Loc} {ls : Array Slot} {cs ss : Nat} (hcs : cs + 1 ≤ 600000 ∧ ss + 4 ≤ 7302250) (hP : va_P g.1 vwCl (wl g 64 v) H) (hS : va_S (lwA s) s.heap H locs) (hl : lv_has ls 4 [(0, .ref b), (1, .ref (gA g 0)), (2, .ref (gA g 53)), (3, .int (nI (6 * t)))]) (kk : ∀ (u : SV) (N2 : Nat) (H : Heap) (locs : List Loc), Rl u N2 → va_P g.1 vwCl (wl g 64 u) H → va_S (lwA s) s.heap H locs → W p l e room_1 s m #[.ref b] below meth c H locs (cs + 1) (ss + 4) Q (F0 m 1460 ls [])) : W p l e room_1 s m #[.ref b] below meth c H locs cs ss Q (F0 m 988 ls []) := by
  refine lv_aload_n C.1.1 C.1.2.1 dL_law_988 rfl (lv_at hl 1 rfl) ?_
  refine lv_aload_n C.1.1 C.1.2.1 dL_law_989 rfl (lv_at hl 0 rfl) ?_
  refine lv_iload_n C.1.1 C.1.2.1 dL_law_990 rfl (lv_at hl 3 rfl) ?_
  refine lv_iconst (v := 1) C.1.1 C.1.2.1 dL_law_991 rfl ?_
  refine lv_iadd C.1.1 C.1.2.1 dL_law_992 ?_
  refine lv_topE (nI (6 * t + 1)) (nI_add (6 * t) 1) ?_
  refine L_ld C hS (6 * t + 1) rfl (by omega) hL dL_law_993 ?_
  refine lv_aload_n C.1.1 C.1.2.1 dL_law_994 rfl (lv_at hl 0 rfl) ?_
  refine lv_iload_n C.1.1 C.1.2.1 dL_law_995 rfl (lv_at hl 3 rfl) ?_
  refine lv_iconst (v := 2) C.1.1 C.1.2.1 dL_law_996 rfl ?_
  refine lv_iadd C.1.1 C.1.2.1 dL_law_997 ?_
  refine lv_topE (nI (6 * t + 2)) (nI_add (6 * t) 2) ?_
  refine L_ld C hS (6 * t + 2) rfl (by omega) hL dL_law_998 ?_
  refine lv_aload_n C.1.1 C.1.2.1 dL_law_999 rfl (lv_at hl 0 rfl) ?_
  refine lv_iload_n C.1.1 C.1.2.1 dL_law_1000 rfl (lv_at hl 3 rfl) ?_
  refine lv_iconst (v := 3) C.1.1 C.1.2.1 dL_law_1001 rfl ?_
  refine lv_iadd C.1.1 C.1.2.1 dL_law_1002 ?_
  refine lv_topE (nI (6 * t + 3)) (nI_add (6 * t) 3) ?_
  refine L_ld C hS (6 * t + 3) rfl (by omega) hL dL_law_1003 ?_
  refine L_J C hS (L_run C hP hS hl.1 0 5 (by decide) rfl (by decide) rfl [.int (xs (6 * t + 1)), .int (xs (6 * t + 2)), .int (xs (6 * t + 3))] (kX5_odds l g 64 v (xs (6 * t + 1)) (xs (6 * t + 2)) (xs (6 * t + 3)) N hR) gL_law_X5_odds rfl hdX5_odds rfl ⟨rfl, rfl⟩ ⟨Nat.le_of_ble_eq_true rfl, Nat.le_of_ble_eq_true rfl⟩ rfl [] rfl (Nat.le_of_ble_eq_true rfl) dL_law_1004 ⟨by omega, by omega⟩) (fun r u H locs hps hP hS => ?_)
  have hu := hps.2
  refine lv_aload_n C.1.1 C.1.2.1 dL_law_1007 rfl (lv_at hl 2 rfl) ?_
  refine lv_aload_n C.1.1 C.1.2.1 dL_law_1008 rfl (lv_at hl 0 rfl) ?_
  refine lv_iload_n C.1.1 C.1.2.1 dL_law_1009 rfl (lv_at hl 3 rfl) ?_
  refine lv_iconst (v := 1) C.1.1 C.1.2.1 dL_law_1010 rfl ?_
  refine lv_iadd C.1.1 C.1.2.1 dL_law_1011 ?_
  refine lv_topE (nI (6 * t + 1)) (nI_add (6 * t) 1) ?_
  refine L_ld C hS (6 * t + 1) rfl (by omega) hL dL_law_1012 ?_
  refine lv_aload_n C.1.1 C.1.2.1 dL_law_1013 rfl (lv_at hl 0 rfl) ?_
  refine lv_iload_n C.1.1 C.1.2.1 dL_law_1014 rfl (lv_at hl 3 rfl) ?_
  refine lv_iconst (v := 2) C.1.1 C.1.2.1 dL_law_1015 rfl ?_
  refine lv_iadd C.1.1 C.1.2.1 dL_law_1016 ?_
  refine lv_topE (nI (6 * t + 2)) (nI_add (6 * t) 2) ?_
  refine L_ld C hS (6 * t + 2) rfl (by omega) hL dL_law_1017 ?_
  refine lv_aload_n C.1.1 C.1.2.1 dL_law_1018 rfl (lv_at hl 0 rfl) ?_
  refine lv_iload_n C.1.1 C.1.2.1 dL_law_1019 rfl (lv_at hl 3 rfl) ?_
  refine lv_iconst (v := 3) C.1.1 C.1.2.1 dL_law_1020 rfl ?_
  refine lv_iadd C.1.1 C.1.2.1 dL_law_1021 ?_
  refine lv_topE (nI (6 * t + 3)) (nI_add (6 * t) 3) ?_
  refine L_ld C hS (6 * t + 3) rfl (by omega) hL dL_law_1022 ?_
  refine L_FJ C hS (L_run C hP hS hl.1 53 6 (by decide) rfl (by decide) rfl [.int (xs (6 * t + 1)), .int (xs (6 * t + 2)), .int (xs (6 * t + 3))] (kX6_odds l g 64 u (xs (6 * t + 1)) (xs (6 * t + 2)) (xs (6 * t + 3)) N (rb_M hR hu)) gL_law_X6_odds rfl hdX6_odds rfl ⟨rfl, rfl⟩ ⟨Nat.le_of_ble_eq_true rfl, Nat.le_of_ble_eq_true rfl⟩ rfl [.long r] rfl (Nat.le_of_ble_eq_true rfl) dL_law_1023 ⟨by omega, by omega⟩) (fun H locs hP hS => ?_)
  refine W.lcmp C.1.1 C.1.2.1 dL_law_1026 ?_
  refine lv_if_eq (tgt := 1460) C.1.1 C.1.2.1 dL_law_1027 (by decide) (fun _ => ?_) (fun hne => absurd (by rw [lg_cmp_eq]; exact hps.1.1) hne)
  obtain ⟨N2, hN2⟩ := hps.1.2
  refine W.widen (k := cs + 1) (n := ss + 4) (by omega) (by omega) ?_
  exact kk _ N2 _ _ hN2 hP hS

set_option maxHeartbeats 2000000 in
set_option maxRecDepth 100000 in
theorem op_1032 (l : Launch) {g : GG} {p : Program} {e : Env} {s : State} {m : MethodId} {below : List Frame} {meth : Method} {c : Code} {b L : Nat} {xs : Nat → Int32} (hL : L ≤ 3072) (C : LC g b L xs p s m c) {Q : State → Prop} {v : SV} {N : Nat} (hR : Rl v N) {t : Nat} (ht : 6 * t + 6 ≤ L) {H : Heap} {locs : List Loc} {ls : Array Slot} {cs ss : Nat} (hcs : cs + 1 ≤ 600000 ∧ ss + 4 ≤ 7302250) (hP : va_P g.1 vwCl (wl g 64 v) H) (hS : va_S (lwA s) s.heap H locs) (hl : lv_has ls 4 [(0, .ref b), (1, .ref (gA g 0)), (2, .ref (gA g 53)), (3, .int (nI (6 * t)))]) (kk : ∀ (u : SV) (N2 : Nat) (H : Heap) (locs : List Loc), Rl u N2 → va_P g.1 vwCl (wl g 64 u) H → va_S (lwA s) s.heap H locs → W p l e room_1 s m #[.ref b] below meth c H locs (cs + 1) (ss + 4) Q (F0 m 1460 ls [])) : W p l e room_1 s m #[.ref b] below meth c H locs cs ss Q (F0 m 1032 ls []) := by
  refine lv_aload_n C.1.1 C.1.2.1 dL_law_1032 rfl (lv_at hl 1 rfl) ?_
  refine lv_aload_n C.1.1 C.1.2.1 dL_law_1033 rfl (lv_at hl 0 rfl) ?_
  refine lv_iload_n C.1.1 C.1.2.1 dL_law_1034 rfl (lv_at hl 3 rfl) ?_
  refine lv_iconst (v := 1) C.1.1 C.1.2.1 dL_law_1035 rfl ?_
  refine lv_iadd C.1.1 C.1.2.1 dL_law_1036 ?_
  refine lv_topE (nI (6 * t + 1)) (nI_add (6 * t) 1) ?_
  refine L_ld C hS (6 * t + 1) rfl (by omega) hL dL_law_1037 ?_
  refine L_I C hS (L_run C hP hS hl.1 0 5 (by decide) rfl (by decide) rfl [.int (xs (6 * t + 1))] (kX5_seed l g 64 v (xs (6 * t + 1)) N hR) gL_law_X5_seed rfl hdX5_seed rfl ⟨rfl, rfl⟩ ⟨Nat.le_of_ble_eq_true rfl, Nat.le_of_ble_eq_true rfl⟩ rfl [] rfl (Nat.le_of_ble_eq_true rfl) dL_law_1038 ⟨by omega, by omega⟩) (fun r u H locs hps hP hS => ?_)
  have hu := hps.2
  refine lv_aload_n C.1.1 C.1.2.1 dL_law_1041 rfl (lv_at hl 2 rfl) ?_
  refine lv_aload_n C.1.1 C.1.2.1 dL_law_1042 rfl (lv_at hl 0 rfl) ?_
  refine lv_iload_n C.1.1 C.1.2.1 dL_law_1043 rfl (lv_at hl 3 rfl) ?_
  refine lv_iconst (v := 1) C.1.1 C.1.2.1 dL_law_1044 rfl ?_
  refine lv_iadd C.1.1 C.1.2.1 dL_law_1045 ?_
  refine lv_topE (nI (6 * t + 1)) (nI_add (6 * t) 1) ?_
  refine L_ld C hS (6 * t + 1) rfl (by omega) hL dL_law_1046 ?_
  refine L_F C hS (L_run C hP hS hl.1 53 6 (by decide) rfl (by decide) rfl [.int (xs (6 * t + 1))] (kX6_seed l g 64 u (xs (6 * t + 1)) ) gL_law_X6_seed rfl hdX6_seed rfl ⟨rfl, rfl⟩ ⟨Nat.le_of_ble_eq_true rfl, Nat.le_of_ble_eq_true rfl⟩ rfl [.int r] rfl (Nat.le_of_ble_eq_true rfl) dL_law_1047 ⟨by omega, by omega⟩) (fun H locs hP hS => ?_)
  refine lv_icmp_eq (tgt := 1460) C.1.1 C.1.2.1 dL_law_1050 (by decide) (fun _ => ?_) (fun hne => absurd hps.1.1 hne)
  obtain ⟨N2, hN2⟩ := hps.1.2
  refine W.widen (k := cs + 1) (n := ss + 4) (by omega) (by omega) ?_
  exact kk _ N2 _ _ hN2 hP hS

set_option maxHeartbeats 2000000 in
set_option maxRecDepth 100000 in
theorem op_1055 (l : Launch) {g : GG} {p : Program} {e : Env} {s : State} {m : MethodId} {below : List Frame} {meth : Method} {c : Code} {b L : Nat} {xs : Nat → Int32} (hL : L ≤ 3072) (C : LC g b L xs p s m c) {Q : State → Prop} {v : SV} {N : Nat} (hR : Rl v N) {t : Nat} (ht : 6 * t + 6 ≤ L) {H : Heap} {locs : List Loc} {ls : Array Slot} {cs ss : Nat} (hcs : cs + 1 ≤ 600000 ∧ ss + 4 ≤ 7302250) (hP : va_P g.1 vwCl (wl g 64 v) H) (hS : va_S (lwA s) s.heap H locs) (hl : lv_has ls 4 [(0, .ref b), (1, .ref (gA g 0)), (2, .ref (gA g 53)), (3, .int (nI (6 * t)))]) (kk : ∀ (u : SV) (N2 : Nat) (H : Heap) (locs : List Loc), Rl u N2 → va_P g.1 vwCl (wl g 64 u) H → va_S (lwA s) s.heap H locs → W p l e room_1 s m #[.ref b] below meth c H locs (cs + 1) (ss + 4) Q (F0 m 1460 ls [])) : W p l e room_1 s m #[.ref b] below meth c H locs cs ss Q (F0 m 1055 ls []) := by
  refine lv_aload_n C.1.1 C.1.2.1 dL_law_1055 rfl (lv_at hl 1 rfl) ?_
  refine lv_aload_n C.1.1 C.1.2.1 dL_law_1056 rfl (lv_at hl 0 rfl) ?_
  refine lv_iload_n C.1.1 C.1.2.1 dL_law_1057 rfl (lv_at hl 3 rfl) ?_
  refine lv_iconst (v := 1) C.1.1 C.1.2.1 dL_law_1058 rfl ?_
  refine lv_iadd C.1.1 C.1.2.1 dL_law_1059 ?_
  refine lv_topE (nI (6 * t + 1)) (nI_add (6 * t) 1) ?_
  refine L_ld C hS (6 * t + 1) rfl (by omega) hL dL_law_1060 ?_
  refine lv_aload_n C.1.1 C.1.2.1 dL_law_1061 rfl (lv_at hl 0 rfl) ?_
  refine lv_iload_n C.1.1 C.1.2.1 dL_law_1062 rfl (lv_at hl 3 rfl) ?_
  refine lv_iconst (v := 2) C.1.1 C.1.2.1 dL_law_1063 rfl ?_
  refine lv_iadd C.1.1 C.1.2.1 dL_law_1064 ?_
  refine lv_topE (nI (6 * t + 2)) (nI_add (6 * t) 2) ?_
  refine L_ld C hS (6 * t + 2) rfl (by omega) hL dL_law_1065 ?_
  refine L_I C hS (L_run C hP hS hl.1 0 5 (by decide) rfl (by decide) rfl [.int (xs (6 * t + 1)), .int (xs (6 * t + 2))] (kX5_feed l g 64 v (xs (6 * t + 1)) (xs (6 * t + 2)) N hR) gL_law_X5_feed rfl hdX5_feed rfl ⟨rfl, rfl⟩ ⟨Nat.le_of_ble_eq_true rfl, Nat.le_of_ble_eq_true rfl⟩ rfl [] rfl (Nat.le_of_ble_eq_true rfl) dL_law_1066 ⟨by omega, by omega⟩) (fun r u H locs hps hP hS => ?_)
  have hu := hps.2
  refine lv_aload_n C.1.1 C.1.2.1 dL_law_1069 rfl (lv_at hl 2 rfl) ?_
  refine lv_aload_n C.1.1 C.1.2.1 dL_law_1070 rfl (lv_at hl 0 rfl) ?_
  refine lv_iload_n C.1.1 C.1.2.1 dL_law_1071 rfl (lv_at hl 3 rfl) ?_
  refine lv_iconst (v := 1) C.1.1 C.1.2.1 dL_law_1072 rfl ?_
  refine lv_iadd C.1.1 C.1.2.1 dL_law_1073 ?_
  refine lv_topE (nI (6 * t + 1)) (nI_add (6 * t) 1) ?_
  refine L_ld C hS (6 * t + 1) rfl (by omega) hL dL_law_1074 ?_
  refine lv_aload_n C.1.1 C.1.2.1 dL_law_1075 rfl (lv_at hl 0 rfl) ?_
  refine lv_iload_n C.1.1 C.1.2.1 dL_law_1076 rfl (lv_at hl 3 rfl) ?_
  refine lv_iconst (v := 2) C.1.1 C.1.2.1 dL_law_1077 rfl ?_
  refine lv_iadd C.1.1 C.1.2.1 dL_law_1078 ?_
  refine lv_topE (nI (6 * t + 2)) (nI_add (6 * t) 2) ?_
  refine L_ld C hS (6 * t + 2) rfl (by omega) hL dL_law_1079 ?_
  obtain ⟨T, hT, hT1⟩ := rb_T hR hu
  refine L_F C hS (L_run C hP hS hl.1 53 6 (by decide) rfl (by decide) rfl [.int (xs (6 * t + 1)), .int (xs (6 * t + 2))] (kX6_feed l g 64 u (xs (6 * t + 1)) (xs (6 * t + 2)) T hT1 hT) gL_law_X6_feed rfl hdX6_feed rfl ⟨rfl, rfl⟩ ⟨Nat.le_of_ble_eq_true rfl, Nat.le_of_ble_eq_true rfl⟩ rfl [.int r] rfl (Nat.le_of_ble_eq_true rfl) dL_law_1080 ⟨by omega, by omega⟩) (fun H locs hP hS => ?_)
  refine lv_icmp_eq (tgt := 1460) C.1.1 C.1.2.1 dL_law_1083 (by decide) (fun _ => ?_) (fun hne => absurd hps.1.1 hne)
  obtain ⟨N2, hN2⟩ := hps.1.2
  refine W.widen (k := cs + 1) (n := ss + 4) (by omega) (by omega) ?_
  exact kk _ N2 _ _ hN2 hP hS

set_option maxHeartbeats 2000000 in
set_option maxRecDepth 100000 in
theorem op_1088 (l : Launch) {g : GG} {p : Program} {e : Env} {s : State} {m : MethodId} {below : List Frame} {meth : Method} {c : Code} {b L : Nat} {xs : Nat → Int32} (hL : L ≤ 3072) (C : LC g b L xs p s m c) {Q : State → Prop} {v : SV} {N : Nat} (hR : Rl v N) {t : Nat} (ht : 6 * t + 6 ≤ L) {H : Heap} {locs : List Loc} {ls : Array Slot} {cs ss : Nat} (hcs : cs + 1 ≤ 600000 ∧ ss + 4 ≤ 7302250) (hP : va_P g.1 vwCl (wl g 64 v) H) (hS : va_S (lwA s) s.heap H locs) (hl : lv_has ls 4 [(0, .ref b), (1, .ref (gA g 0)), (2, .ref (gA g 53)), (3, .int (nI (6 * t)))]) (kk : ∀ (u : SV) (N2 : Nat) (H : Heap) (locs : List Loc), Rl u N2 → va_P g.1 vwCl (wl g 64 u) H → va_S (lwA s) s.heap H locs → W p l e room_1 s m #[.ref b] below meth c H locs (cs + 1) (ss + 4) Q (F0 m 1460 ls [])) : W p l e room_1 s m #[.ref b] below meth c H locs cs ss Q (F0 m 1088 ls []) := by
  refine lv_aload_n C.1.1 C.1.2.1 dL_law_1088 rfl (lv_at hl 1 rfl) ?_
  refine L_I C hS (L_run C hP hS hl.1 0 5 (by decide) rfl (by decide) rfl [] (kX5_wipe l g 64 v  N hR) gL_law_X5_wipe rfl hdX5_wipe rfl ⟨rfl, rfl⟩ ⟨Nat.le_of_ble_eq_true rfl, Nat.le_of_ble_eq_true rfl⟩ rfl [] rfl (Nat.le_of_ble_eq_true rfl) dL_law_1089 ⟨by omega, by omega⟩) (fun r u H locs hps hP hS => ?_)
  have hu := hps.2
  refine lv_aload_n C.1.1 C.1.2.1 dL_law_1092 rfl (lv_at hl 2 rfl) ?_
  refine L_F C hS (L_run C hP hS hl.1 53 6 (by decide) rfl (by decide) rfl [] (kX6_wipe l g 64 u  ) gL_law_X6_wipe rfl hdX6_wipe rfl ⟨rfl, rfl⟩ ⟨Nat.le_of_ble_eq_true rfl, Nat.le_of_ble_eq_true rfl⟩ rfl [.int r] rfl (Nat.le_of_ble_eq_true rfl) dL_law_1093 ⟨by omega, by omega⟩) (fun H locs hP hS => ?_)
  refine lv_icmp_eq (tgt := 1460) C.1.1 C.1.2.1 dL_law_1096 (by decide) (fun _ => ?_) (fun hne => absurd hps.1.1 hne)
  obtain ⟨N2, hN2⟩ := hps.1.2
  refine W.widen (k := cs + 1) (n := ss + 4) (by omega) (by omega) ?_
  exact kk _ N2 _ _ hN2 hP hS

set_option maxHeartbeats 2000000 in
set_option maxRecDepth 100000 in
theorem op_1101 (l : Launch) {g : GG} {p : Program} {e : Env} {s : State} {m : MethodId} {below : List Frame} {meth : Method} {c : Code} {b L : Nat} {xs : Nat → Int32} (hL : L ≤ 3072) (C : LC g b L xs p s m c) {Q : State → Prop} {v : SV} {N : Nat} (hR : Rl v N) {t : Nat} (ht : 6 * t + 6 ≤ L) {H : Heap} {locs : List Loc} {ls : Array Slot} {cs ss : Nat} (hcs : cs + 1 ≤ 600000 ∧ ss + 4 ≤ 7302250) (hP : va_P g.1 vwCl (wl g 64 v) H) (hS : va_S (lwA s) s.heap H locs) (hl : lv_has ls 4 [(0, .ref b), (1, .ref (gA g 0)), (2, .ref (gA g 53)), (3, .int (nI (6 * t)))]) (kk : ∀ (u : SV) (N2 : Nat) (H : Heap) (locs : List Loc), Rl u N2 → va_P g.1 vwCl (wl g 64 u) H → va_S (lwA s) s.heap H locs → W p l e room_1 s m #[.ref b] below meth c H locs (cs + 1) (ss + 4) Q (F0 m 1460 ls [])) : W p l e room_1 s m #[.ref b] below meth c H locs cs ss Q (F0 m 1101 ls []) := by
  refine lv_aload_n C.1.1 C.1.2.1 dL_law_1101 rfl (lv_at hl 1 rfl) ?_
  refine L_text C hR hP hS hl.1 dL_law_1102 hcs (fun r u H locs hps hP hS => ?_)
  have hu := hps.2
  refine lv_aload_n C.1.1 C.1.2.1 dL_law_1105 rfl (lv_at hl 2 rfl) ?_
  obtain ⟨T, hT, hT1⟩ := rb_T hR hu
  refine L_F C hS (L_run C hP hS hl.1 53 6 (by decide) rfl (by decide) rfl [] (kX6_text l g 64 u  T N (rb_M hR hu) hT1 hT) gL_law_X6_text rfl hdX6_text rfl ⟨rfl, rfl⟩ ⟨Nat.le_of_ble_eq_true rfl, Nat.le_of_ble_eq_true rfl⟩ rfl [.int r] rfl (Nat.le_of_ble_eq_true rfl) dL_law_1106 ⟨by omega, by omega⟩) (fun H locs hP hS => ?_)
  refine lv_icmp_eq (tgt := 1460) C.1.1 C.1.2.1 dL_law_1109 (by decide) (fun _ => ?_) (fun hne => absurd hps.1.1 hne)
  obtain ⟨N2, hN2⟩ := hps.1.2
  exact kk _ N2 _ _ hN2 hP hS

set_option maxHeartbeats 2000000 in
set_option maxRecDepth 100000 in
theorem op_1114 (l : Launch) {g : GG} {p : Program} {e : Env} {s : State} {m : MethodId} {below : List Frame} {meth : Method} {c : Code} {b L : Nat} {xs : Nat → Int32} (hL : L ≤ 3072) (C : LC g b L xs p s m c) {Q : State → Prop} {v : SV} {N : Nat} (hR : Rl v N) {t : Nat} (ht : 6 * t + 6 ≤ L) {H : Heap} {locs : List Loc} {ls : Array Slot} {cs ss : Nat} (hcs : cs + 1 ≤ 600000 ∧ ss + 4 ≤ 7302250) (hP : va_P g.1 vwCl (wl g 64 v) H) (hS : va_S (lwA s) s.heap H locs) (hl : lv_has ls 4 [(0, .ref b), (1, .ref (gA g 0)), (2, .ref (gA g 53)), (3, .int (nI (6 * t)))]) (kk : ∀ (u : SV) (N2 : Nat) (H : Heap) (locs : List Loc), Rl u N2 → va_P g.1 vwCl (wl g 64 u) H → va_S (lwA s) s.heap H locs → W p l e room_1 s m #[.ref b] below meth c H locs (cs + 1) (ss + 4) Q (F0 m 1460 ls [])) : W p l e room_1 s m #[.ref b] below meth c H locs cs ss Q (F0 m 1114 ls []) := by
  refine lv_aload_n C.1.1 C.1.2.1 dL_law_1114 rfl (lv_at hl 1 rfl) ?_
  refine lv_aload_n C.1.1 C.1.2.1 dL_law_1115 rfl (lv_at hl 0 rfl) ?_
  refine lv_iload_n C.1.1 C.1.2.1 dL_law_1116 rfl (lv_at hl 3 rfl) ?_
  refine lv_iconst (v := 1) C.1.1 C.1.2.1 dL_law_1117 rfl ?_
  refine lv_iadd C.1.1 C.1.2.1 dL_law_1118 ?_
  refine lv_topE (nI (6 * t + 1)) (nI_add (6 * t) 1) ?_
  refine L_ld C hS (6 * t + 1) rfl (by omega) hL dL_law_1119 ?_
  refine lv_aload_n C.1.1 C.1.2.1 dL_law_1120 rfl (lv_at hl 0 rfl) ?_
  refine lv_iload_n C.1.1 C.1.2.1 dL_law_1121 rfl (lv_at hl 3 rfl) ?_
  refine lv_iconst (v := 2) C.1.1 C.1.2.1 dL_law_1122 rfl ?_
  refine lv_iadd C.1.1 C.1.2.1 dL_law_1123 ?_
  refine lv_topE (nI (6 * t + 2)) (nI_add (6 * t) 2) ?_
  refine L_ld C hS (6 * t + 2) rfl (by omega) hL dL_law_1124 ?_
  refine L_I C hS (L_run C hP hS hl.1 0 5 (by decide) rfl (by decide) rfl [.int (xs (6 * t + 1)), .int (xs (6 * t + 2))] (kX5_hold l g 64 v (xs (6 * t + 1)) (xs (6 * t + 2)) N hR) gL_law_X5_hold rfl hdX5_hold rfl ⟨rfl, rfl⟩ ⟨Nat.le_of_ble_eq_true rfl, Nat.le_of_ble_eq_true rfl⟩ rfl [] rfl (Nat.le_of_ble_eq_true rfl) dL_law_1125 ⟨by omega, by omega⟩) (fun r u H locs hps hP hS => ?_)
  have hu := hps.2
  refine lv_aload_n C.1.1 C.1.2.1 dL_law_1128 rfl (lv_at hl 2 rfl) ?_
  refine lv_aload_n C.1.1 C.1.2.1 dL_law_1129 rfl (lv_at hl 0 rfl) ?_
  refine lv_iload_n C.1.1 C.1.2.1 dL_law_1130 rfl (lv_at hl 3 rfl) ?_
  refine lv_iconst (v := 1) C.1.1 C.1.2.1 dL_law_1131 rfl ?_
  refine lv_iadd C.1.1 C.1.2.1 dL_law_1132 ?_
  refine lv_topE (nI (6 * t + 1)) (nI_add (6 * t) 1) ?_
  refine L_ld C hS (6 * t + 1) rfl (by omega) hL dL_law_1133 ?_
  refine lv_aload_n C.1.1 C.1.2.1 dL_law_1134 rfl (lv_at hl 0 rfl) ?_
  refine lv_iload_n C.1.1 C.1.2.1 dL_law_1135 rfl (lv_at hl 3 rfl) ?_
  refine lv_iconst (v := 2) C.1.1 C.1.2.1 dL_law_1136 rfl ?_
  refine lv_iadd C.1.1 C.1.2.1 dL_law_1137 ?_
  refine lv_topE (nI (6 * t + 2)) (nI_add (6 * t) 2) ?_
  refine L_ld C hS (6 * t + 2) rfl (by omega) hL dL_law_1138 ?_
  refine L_F C hS (L_run C hP hS hl.1 53 6 (by decide) rfl (by decide) rfl [.int (xs (6 * t + 1)), .int (xs (6 * t + 2))] (kX6_hold l g 64 u (xs (6 * t + 1)) (xs (6 * t + 2)) N (rb_M hR hu)) gL_law_X6_hold rfl hdX6_hold rfl ⟨rfl, rfl⟩ ⟨Nat.le_of_ble_eq_true rfl, Nat.le_of_ble_eq_true rfl⟩ rfl [.int r] rfl (Nat.le_of_ble_eq_true rfl) dL_law_1139 ⟨by omega, by omega⟩) (fun H locs hP hS => ?_)
  refine lv_icmp_eq (tgt := 1460) C.1.1 C.1.2.1 dL_law_1142 (by decide) (fun _ => ?_) (fun hne => absurd hps.1.1 hne)
  obtain ⟨N2, hN2⟩ := hps.1.2
  refine W.widen (k := cs + 1) (n := ss + 4) (by omega) (by omega) ?_
  exact kk _ N2 _ _ hN2 hP hS

set_option maxHeartbeats 2000000 in
set_option maxRecDepth 100000 in
theorem op_1147 (l : Launch) {g : GG} {p : Program} {e : Env} {s : State} {m : MethodId} {below : List Frame} {meth : Method} {c : Code} {b L : Nat} {xs : Nat → Int32} (hL : L ≤ 3072) (C : LC g b L xs p s m c) {Q : State → Prop} {v : SV} {N : Nat} (hR : Rl v N) {t : Nat} (ht : 6 * t + 6 ≤ L) {H : Heap} {locs : List Loc} {ls : Array Slot} {cs ss : Nat} (hcs : cs + 1 ≤ 600000 ∧ ss + 4 ≤ 7302250) (hP : va_P g.1 vwCl (wl g 64 v) H) (hS : va_S (lwA s) s.heap H locs) (hl : lv_has ls 4 [(0, .ref b), (1, .ref (gA g 0)), (2, .ref (gA g 53)), (3, .int (nI (6 * t)))]) (kk : ∀ (u : SV) (N2 : Nat) (H : Heap) (locs : List Loc), Rl u N2 → va_P g.1 vwCl (wl g 64 u) H → va_S (lwA s) s.heap H locs → W p l e room_1 s m #[.ref b] below meth c H locs (cs + 1) (ss + 4) Q (F0 m 1460 ls [])) : W p l e room_1 s m #[.ref b] below meth c H locs cs ss Q (F0 m 1147 ls []) := by
  refine lv_aload_n C.1.1 C.1.2.1 dL_law_1147 rfl (lv_at hl 1 rfl) ?_
  refine lv_aload_n C.1.1 C.1.2.1 dL_law_1148 rfl (lv_at hl 0 rfl) ?_
  refine lv_iload_n C.1.1 C.1.2.1 dL_law_1149 rfl (lv_at hl 3 rfl) ?_
  refine lv_iconst (v := 1) C.1.1 C.1.2.1 dL_law_1150 rfl ?_
  refine lv_iadd C.1.1 C.1.2.1 dL_law_1151 ?_
  refine lv_topE (nI (6 * t + 1)) (nI_add (6 * t) 1) ?_
  refine L_ld C hS (6 * t + 1) rfl (by omega) hL dL_law_1152 ?_
  refine lv_aload_n C.1.1 C.1.2.1 dL_law_1153 rfl (lv_at hl 0 rfl) ?_
  refine lv_iload_n C.1.1 C.1.2.1 dL_law_1154 rfl (lv_at hl 3 rfl) ?_
  refine lv_iconst (v := 2) C.1.1 C.1.2.1 dL_law_1155 rfl ?_
  refine lv_iadd C.1.1 C.1.2.1 dL_law_1156 ?_
  refine lv_topE (nI (6 * t + 2)) (nI_add (6 * t) 2) ?_
  refine L_ld C hS (6 * t + 2) rfl (by omega) hL dL_law_1157 ?_
  refine L_I C hS (L_run C hP hS hl.1 0 5 (by decide) rfl (by decide) rfl [.int (xs (6 * t + 1)), .int (xs (6 * t + 2))] (kX5_as l g 64 v (xs (6 * t + 1)) (xs (6 * t + 2)) N hR) gL_law_X5_as rfl hdX5_as rfl ⟨rfl, rfl⟩ ⟨Nat.le_of_ble_eq_true rfl, Nat.le_of_ble_eq_true rfl⟩ rfl [] rfl (Nat.le_of_ble_eq_true rfl) dL_law_1158 ⟨by omega, by omega⟩) (fun r u H locs hps hP hS => ?_)
  have hu := hps.2
  refine lv_aload_n C.1.1 C.1.2.1 dL_law_1161 rfl (lv_at hl 2 rfl) ?_
  refine lv_aload_n C.1.1 C.1.2.1 dL_law_1162 rfl (lv_at hl 0 rfl) ?_
  refine lv_iload_n C.1.1 C.1.2.1 dL_law_1163 rfl (lv_at hl 3 rfl) ?_
  refine lv_iconst (v := 1) C.1.1 C.1.2.1 dL_law_1164 rfl ?_
  refine lv_iadd C.1.1 C.1.2.1 dL_law_1165 ?_
  refine lv_topE (nI (6 * t + 1)) (nI_add (6 * t) 1) ?_
  refine L_ld C hS (6 * t + 1) rfl (by omega) hL dL_law_1166 ?_
  refine lv_aload_n C.1.1 C.1.2.1 dL_law_1167 rfl (lv_at hl 0 rfl) ?_
  refine lv_iload_n C.1.1 C.1.2.1 dL_law_1168 rfl (lv_at hl 3 rfl) ?_
  refine lv_iconst (v := 2) C.1.1 C.1.2.1 dL_law_1169 rfl ?_
  refine lv_iadd C.1.1 C.1.2.1 dL_law_1170 ?_
  refine lv_topE (nI (6 * t + 2)) (nI_add (6 * t) 2) ?_
  refine L_ld C hS (6 * t + 2) rfl (by omega) hL dL_law_1171 ?_
  refine L_F C hS (L_run C hP hS hl.1 53 6 (by decide) rfl (by decide) rfl [.int (xs (6 * t + 1)), .int (xs (6 * t + 2))] (kX6_as l g 64 u (xs (6 * t + 1)) (xs (6 * t + 2)) (rb_Sp hR hu)) gL_law_X6_as rfl hdX6_as rfl ⟨rfl, rfl⟩ ⟨Nat.le_of_ble_eq_true rfl, Nat.le_of_ble_eq_true rfl⟩ rfl [.int r] rfl (Nat.le_of_ble_eq_true rfl) dL_law_1172 ⟨by omega, by omega⟩) (fun H locs hP hS => ?_)
  refine lv_icmp_eq (tgt := 1460) C.1.1 C.1.2.1 dL_law_1175 (by decide) (fun _ => ?_) (fun hne => absurd hps.1.1 hne)
  obtain ⟨N2, hN2⟩ := hps.1.2
  refine W.widen (k := cs + 1) (n := ss + 4) (by omega) (by omega) ?_
  exact kk _ N2 _ _ hN2 hP hS

set_option maxHeartbeats 2000000 in
set_option maxRecDepth 100000 in
theorem op_1180 (l : Launch) {g : GG} {p : Program} {e : Env} {s : State} {m : MethodId} {below : List Frame} {meth : Method} {c : Code} {b L : Nat} {xs : Nat → Int32} (hL : L ≤ 3072) (C : LC g b L xs p s m c) {Q : State → Prop} {v : SV} {N : Nat} (hR : Rl v N) {t : Nat} (ht : 6 * t + 6 ≤ L) {H : Heap} {locs : List Loc} {ls : Array Slot} {cs ss : Nat} (hcs : cs + 1 ≤ 600000 ∧ ss + 4 ≤ 7302250) (hP : va_P g.1 vwCl (wl g 64 v) H) (hS : va_S (lwA s) s.heap H locs) (hl : lv_has ls 4 [(0, .ref b), (1, .ref (gA g 0)), (2, .ref (gA g 53)), (3, .int (nI (6 * t)))]) (kk : ∀ (u : SV) (N2 : Nat) (H : Heap) (locs : List Loc), Rl u N2 → va_P g.1 vwCl (wl g 64 u) H → va_S (lwA s) s.heap H locs → W p l e room_1 s m #[.ref b] below meth c H locs (cs + 1) (ss + 4) Q (F0 m 1460 ls [])) : W p l e room_1 s m #[.ref b] below meth c H locs cs ss Q (F0 m 1180 ls []) := by
  refine lv_aload_n C.1.1 C.1.2.1 dL_law_1180 rfl (lv_at hl 1 rfl) ?_
  refine lv_aload_n C.1.1 C.1.2.1 dL_law_1181 rfl (lv_at hl 0 rfl) ?_
  refine lv_iload_n C.1.1 C.1.2.1 dL_law_1182 rfl (lv_at hl 3 rfl) ?_
  refine lv_iconst (v := 1) C.1.1 C.1.2.1 dL_law_1183 rfl ?_
  refine lv_iadd C.1.1 C.1.2.1 dL_law_1184 ?_
  refine lv_topE (nI (6 * t + 1)) (nI_add (6 * t) 1) ?_
  refine L_ld C hS (6 * t + 1) rfl (by omega) hL dL_law_1185 ?_
  refine lv_aload_n C.1.1 C.1.2.1 dL_law_1186 rfl (lv_at hl 0 rfl) ?_
  refine lv_iload_n C.1.1 C.1.2.1 dL_law_1187 rfl (lv_at hl 3 rfl) ?_
  refine lv_iconst (v := 2) C.1.1 C.1.2.1 dL_law_1188 rfl ?_
  refine lv_iadd C.1.1 C.1.2.1 dL_law_1189 ?_
  refine lv_topE (nI (6 * t + 2)) (nI_add (6 * t) 2) ?_
  refine L_ld C hS (6 * t + 2) rfl (by omega) hL dL_law_1190 ?_
  refine lv_aload_n C.1.1 C.1.2.1 dL_law_1191 rfl (lv_at hl 0 rfl) ?_
  refine lv_iload_n C.1.1 C.1.2.1 dL_law_1192 rfl (lv_at hl 3 rfl) ?_
  refine lv_iconst (v := 3) C.1.1 C.1.2.1 dL_law_1193 rfl ?_
  refine lv_iadd C.1.1 C.1.2.1 dL_law_1194 ?_
  refine lv_topE (nI (6 * t + 3)) (nI_add (6 * t) 3) ?_
  refine L_ld C hS (6 * t + 3) rfl (by omega) hL dL_law_1195 ?_
  refine L_I C hS (L_run C hP hS hl.1 0 5 (by decide) rfl (by decide) rfl [.int (xs (6 * t + 1)), .int (xs (6 * t + 2)), .int (xs (6 * t + 3))] (kX5_sheet l g 64 v (xs (6 * t + 1)) (xs (6 * t + 2)) (xs (6 * t + 3)) N hR) gL_law_X5_sheet rfl hdX5_sheet rfl ⟨rfl, rfl⟩ ⟨Nat.le_of_ble_eq_true rfl, Nat.le_of_ble_eq_true rfl⟩ rfl [] rfl (Nat.le_of_ble_eq_true rfl) dL_law_1196 ⟨by omega, by omega⟩) (fun r u H locs hps hP hS => ?_)
  have hu := hps.2
  refine lv_aload_n C.1.1 C.1.2.1 dL_law_1199 rfl (lv_at hl 2 rfl) ?_
  refine lv_aload_n C.1.1 C.1.2.1 dL_law_1200 rfl (lv_at hl 0 rfl) ?_
  refine lv_iload_n C.1.1 C.1.2.1 dL_law_1201 rfl (lv_at hl 3 rfl) ?_
  refine lv_iconst (v := 1) C.1.1 C.1.2.1 dL_law_1202 rfl ?_
  refine lv_iadd C.1.1 C.1.2.1 dL_law_1203 ?_
  refine lv_topE (nI (6 * t + 1)) (nI_add (6 * t) 1) ?_
  refine L_ld C hS (6 * t + 1) rfl (by omega) hL dL_law_1204 ?_
  refine lv_aload_n C.1.1 C.1.2.1 dL_law_1205 rfl (lv_at hl 0 rfl) ?_
  refine lv_iload_n C.1.1 C.1.2.1 dL_law_1206 rfl (lv_at hl 3 rfl) ?_
  refine lv_iconst (v := 2) C.1.1 C.1.2.1 dL_law_1207 rfl ?_
  refine lv_iadd C.1.1 C.1.2.1 dL_law_1208 ?_
  refine lv_topE (nI (6 * t + 2)) (nI_add (6 * t) 2) ?_
  refine L_ld C hS (6 * t + 2) rfl (by omega) hL dL_law_1209 ?_
  refine lv_aload_n C.1.1 C.1.2.1 dL_law_1210 rfl (lv_at hl 0 rfl) ?_
  refine lv_iload_n C.1.1 C.1.2.1 dL_law_1211 rfl (lv_at hl 3 rfl) ?_
  refine lv_iconst (v := 3) C.1.1 C.1.2.1 dL_law_1212 rfl ?_
  refine lv_iadd C.1.1 C.1.2.1 dL_law_1213 ?_
  refine lv_topE (nI (6 * t + 3)) (nI_add (6 * t) 3) ?_
  refine L_ld C hS (6 * t + 3) rfl (by omega) hL dL_law_1214 ?_
  refine L_F C hS (L_run C hP hS hl.1 53 6 (by decide) rfl (by decide) rfl [.int (xs (6 * t + 1)), .int (xs (6 * t + 2)), .int (xs (6 * t + 3))] (kX6_sheet l g 64 u (xs (6 * t + 1)) (xs (6 * t + 2)) (xs (6 * t + 3)) ) gL_law_X6_sheet rfl hdX6_sheet rfl ⟨rfl, rfl⟩ ⟨Nat.le_of_ble_eq_true rfl, Nat.le_of_ble_eq_true rfl⟩ rfl [.int r] rfl (Nat.le_of_ble_eq_true rfl) dL_law_1215 ⟨by omega, by omega⟩) (fun H locs hP hS => ?_)
  refine lv_icmp_eq (tgt := 1460) C.1.1 C.1.2.1 dL_law_1218 (by decide) (fun _ => ?_) (fun hne => absurd hps.1.1 hne)
  obtain ⟨N2, hN2⟩ := hps.1.2
  refine W.widen (k := cs + 1) (n := ss + 4) (by omega) (by omega) ?_
  exact kk _ N2 _ _ hN2 hP hS

set_option maxHeartbeats 2000000 in
set_option maxRecDepth 100000 in
theorem op_1223 (l : Launch) {g : GG} {p : Program} {e : Env} {s : State} {m : MethodId} {below : List Frame} {meth : Method} {c : Code} {b L : Nat} {xs : Nat → Int32} (hL : L ≤ 3072) (C : LC g b L xs p s m c) {Q : State → Prop} {v : SV} {N : Nat} (hR : Rl v N) {t : Nat} (ht : 6 * t + 6 ≤ L) {H : Heap} {locs : List Loc} {ls : Array Slot} {cs ss : Nat} (hcs : cs + 1 ≤ 600000 ∧ ss + 4 ≤ 7302250) (hP : va_P g.1 vwCl (wl g 64 v) H) (hS : va_S (lwA s) s.heap H locs) (hl : lv_has ls 4 [(0, .ref b), (1, .ref (gA g 0)), (2, .ref (gA g 53)), (3, .int (nI (6 * t)))]) (kk : ∀ (u : SV) (N2 : Nat) (H : Heap) (locs : List Loc), Rl u N2 → va_P g.1 vwCl (wl g 64 u) H → va_S (lwA s) s.heap H locs → W p l e room_1 s m #[.ref b] below meth c H locs (cs + 1) (ss + 4) Q (F0 m 1460 ls [])) : W p l e room_1 s m #[.ref b] below meth c H locs cs ss Q (F0 m 1223 ls []) := by
  refine lv_aload_n C.1.1 C.1.2.1 dL_law_1223 rfl (lv_at hl 1 rfl) ?_
  refine lv_aload_n C.1.1 C.1.2.1 dL_law_1224 rfl (lv_at hl 0 rfl) ?_
  refine lv_iload_n C.1.1 C.1.2.1 dL_law_1225 rfl (lv_at hl 3 rfl) ?_
  refine lv_iconst (v := 1) C.1.1 C.1.2.1 dL_law_1226 rfl ?_
  refine lv_iadd C.1.1 C.1.2.1 dL_law_1227 ?_
  refine lv_topE (nI (6 * t + 1)) (nI_add (6 * t) 1) ?_
  refine L_ld C hS (6 * t + 1) rfl (by omega) hL dL_law_1228 ?_
  refine lv_aload_n C.1.1 C.1.2.1 dL_law_1229 rfl (lv_at hl 0 rfl) ?_
  refine lv_iload_n C.1.1 C.1.2.1 dL_law_1230 rfl (lv_at hl 3 rfl) ?_
  refine lv_iconst (v := 2) C.1.1 C.1.2.1 dL_law_1231 rfl ?_
  refine lv_iadd C.1.1 C.1.2.1 dL_law_1232 ?_
  refine lv_topE (nI (6 * t + 2)) (nI_add (6 * t) 2) ?_
  refine L_ld C hS (6 * t + 2) rfl (by omega) hL dL_law_1233 ?_
  refine lv_aload_n C.1.1 C.1.2.1 dL_law_1234 rfl (lv_at hl 0 rfl) ?_
  refine lv_iload_n C.1.1 C.1.2.1 dL_law_1235 rfl (lv_at hl 3 rfl) ?_
  refine lv_iconst (v := 3) C.1.1 C.1.2.1 dL_law_1236 rfl ?_
  refine lv_iadd C.1.1 C.1.2.1 dL_law_1237 ?_
  refine lv_topE (nI (6 * t + 3)) (nI_add (6 * t) 3) ?_
  refine L_ld C hS (6 * t + 3) rfl (by omega) hL dL_law_1238 ?_
  refine L_I C hS (L_run C hP hS hl.1 0 5 (by decide) rfl (by decide) rfl [.int (xs (6 * t + 1)), .int (xs (6 * t + 2)), .int (xs (6 * t + 3))] (kX5_write l g 64 v (xs (6 * t + 1)) (xs (6 * t + 2)) (xs (6 * t + 3)) N hR) gL_law_X5_write rfl hdX5_write rfl ⟨rfl, rfl⟩ ⟨Nat.le_of_ble_eq_true rfl, Nat.le_of_ble_eq_true rfl⟩ rfl [] rfl (Nat.le_of_ble_eq_true rfl) dL_law_1239 ⟨by omega, by omega⟩) (fun r u H locs hps hP hS => ?_)
  have hu := hps.2
  refine lv_aload_n C.1.1 C.1.2.1 dL_law_1242 rfl (lv_at hl 2 rfl) ?_
  refine lv_aload_n C.1.1 C.1.2.1 dL_law_1243 rfl (lv_at hl 0 rfl) ?_
  refine lv_iload_n C.1.1 C.1.2.1 dL_law_1244 rfl (lv_at hl 3 rfl) ?_
  refine lv_iconst (v := 1) C.1.1 C.1.2.1 dL_law_1245 rfl ?_
  refine lv_iadd C.1.1 C.1.2.1 dL_law_1246 ?_
  refine lv_topE (nI (6 * t + 1)) (nI_add (6 * t) 1) ?_
  refine L_ld C hS (6 * t + 1) rfl (by omega) hL dL_law_1247 ?_
  refine lv_aload_n C.1.1 C.1.2.1 dL_law_1248 rfl (lv_at hl 0 rfl) ?_
  refine lv_iload_n C.1.1 C.1.2.1 dL_law_1249 rfl (lv_at hl 3 rfl) ?_
  refine lv_iconst (v := 2) C.1.1 C.1.2.1 dL_law_1250 rfl ?_
  refine lv_iadd C.1.1 C.1.2.1 dL_law_1251 ?_
  refine lv_topE (nI (6 * t + 2)) (nI_add (6 * t) 2) ?_
  refine L_ld C hS (6 * t + 2) rfl (by omega) hL dL_law_1252 ?_
  refine lv_aload_n C.1.1 C.1.2.1 dL_law_1253 rfl (lv_at hl 0 rfl) ?_
  refine lv_iload_n C.1.1 C.1.2.1 dL_law_1254 rfl (lv_at hl 3 rfl) ?_
  refine lv_iconst (v := 3) C.1.1 C.1.2.1 dL_law_1255 rfl ?_
  refine lv_iadd C.1.1 C.1.2.1 dL_law_1256 ?_
  refine lv_topE (nI (6 * t + 3)) (nI_add (6 * t) 3) ?_
  refine L_ld C hS (6 * t + 3) rfl (by omega) hL dL_law_1257 ?_
  refine L_F C hS (L_run C hP hS hl.1 53 6 (by decide) rfl (by decide) rfl [.int (xs (6 * t + 1)), .int (xs (6 * t + 2)), .int (xs (6 * t + 3))] (kX6_write l g 64 u (xs (6 * t + 1)) (xs (6 * t + 2)) (xs (6 * t + 3)) (rb_Sz hR hu)) gL_law_X6_write rfl hdX6_write rfl ⟨rfl, rfl⟩ ⟨Nat.le_of_ble_eq_true rfl, Nat.le_of_ble_eq_true rfl⟩ rfl [.int r] rfl (Nat.le_of_ble_eq_true rfl) dL_law_1258 ⟨by omega, by omega⟩) (fun H locs hP hS => ?_)
  refine lv_icmp_eq (tgt := 1460) C.1.1 C.1.2.1 dL_law_1261 (by decide) (fun _ => ?_) (fun hne => absurd hps.1.1 hne)
  obtain ⟨N2, hN2⟩ := hps.1.2
  refine W.widen (k := cs + 1) (n := ss + 4) (by omega) (by omega) ?_
  exact kk _ N2 _ _ hN2 hP hS

set_option maxHeartbeats 2000000 in
set_option maxRecDepth 100000 in
theorem op_1266 (l : Launch) {g : GG} {p : Program} {e : Env} {s : State} {m : MethodId} {below : List Frame} {meth : Method} {c : Code} {b L : Nat} {xs : Nat → Int32} (hL : L ≤ 3072) (C : LC g b L xs p s m c) {Q : State → Prop} {v : SV} {N : Nat} (hR : Rl v N) {t : Nat} (ht : 6 * t + 6 ≤ L) {H : Heap} {locs : List Loc} {ls : Array Slot} {cs ss : Nat} (hcs : cs + 1 ≤ 600000 ∧ ss + 4 ≤ 7302250) (hP : va_P g.1 vwCl (wl g 64 v) H) (hS : va_S (lwA s) s.heap H locs) (hl : lv_has ls 4 [(0, .ref b), (1, .ref (gA g 0)), (2, .ref (gA g 53)), (3, .int (nI (6 * t)))]) (kk : ∀ (u : SV) (N2 : Nat) (H : Heap) (locs : List Loc), Rl u N2 → va_P g.1 vwCl (wl g 64 u) H → va_S (lwA s) s.heap H locs → W p l e room_1 s m #[.ref b] below meth c H locs (cs + 1) (ss + 4) Q (F0 m 1460 ls [])) : W p l e room_1 s m #[.ref b] below meth c H locs cs ss Q (F0 m 1266 ls []) := by
  refine lv_aload_n C.1.1 C.1.2.1 dL_law_1266 rfl (lv_at hl 1 rfl) ?_
  refine lv_aload_n C.1.1 C.1.2.1 dL_law_1267 rfl (lv_at hl 0 rfl) ?_
  refine lv_iload_n C.1.1 C.1.2.1 dL_law_1268 rfl (lv_at hl 3 rfl) ?_
  refine lv_iconst (v := 1) C.1.1 C.1.2.1 dL_law_1269 rfl ?_
  refine lv_iadd C.1.1 C.1.2.1 dL_law_1270 ?_
  refine lv_topE (nI (6 * t + 1)) (nI_add (6 * t) 1) ?_
  refine L_ld C hS (6 * t + 1) rfl (by omega) hL dL_law_1271 ?_
  refine lv_aload_n C.1.1 C.1.2.1 dL_law_1272 rfl (lv_at hl 0 rfl) ?_
  refine lv_iload_n C.1.1 C.1.2.1 dL_law_1273 rfl (lv_at hl 3 rfl) ?_
  refine lv_iconst (v := 2) C.1.1 C.1.2.1 dL_law_1274 rfl ?_
  refine lv_iadd C.1.1 C.1.2.1 dL_law_1275 ?_
  refine lv_topE (nI (6 * t + 2)) (nI_add (6 * t) 2) ?_
  refine L_ld C hS (6 * t + 2) rfl (by omega) hL dL_law_1276 ?_
  refine lv_aload_n C.1.1 C.1.2.1 dL_law_1277 rfl (lv_at hl 0 rfl) ?_
  refine lv_iload_n C.1.1 C.1.2.1 dL_law_1278 rfl (lv_at hl 3 rfl) ?_
  refine lv_iconst (v := 3) C.1.1 C.1.2.1 dL_law_1279 rfl ?_
  refine lv_iadd C.1.1 C.1.2.1 dL_law_1280 ?_
  refine lv_topE (nI (6 * t + 3)) (nI_add (6 * t) 3) ?_
  refine L_ld C hS (6 * t + 3) rfl (by omega) hL dL_law_1281 ?_
  refine lv_aload_n C.1.1 C.1.2.1 dL_law_1282 rfl (lv_at hl 0 rfl) ?_
  refine lv_iload_n C.1.1 C.1.2.1 dL_law_1283 rfl (lv_at hl 3 rfl) ?_
  refine lv_iconst (v := 4) C.1.1 C.1.2.1 dL_law_1284 rfl ?_
  refine lv_iadd C.1.1 C.1.2.1 dL_law_1285 ?_
  refine lv_topE (nI (6 * t + 4)) (nI_add (6 * t) 4) ?_
  refine L_ld C hS (6 * t + 4) rfl (by omega) hL dL_law_1286 ?_
  refine lv_aload_n C.1.1 C.1.2.1 dL_law_1287 rfl (lv_at hl 0 rfl) ?_
  refine lv_iload_n C.1.1 C.1.2.1 dL_law_1288 rfl (lv_at hl 3 rfl) ?_
  refine lv_iconst (v := 5) C.1.1 C.1.2.1 dL_law_1289 rfl ?_
  refine lv_iadd C.1.1 C.1.2.1 dL_law_1290 ?_
  refine lv_topE (nI (6 * t + 5)) (nI_add (6 * t) 5) ?_
  refine L_ld C hS (6 * t + 5) rfl (by omega) hL dL_law_1291 ?_
  refine L_I C hS (L_run C hP hS hl.1 0 5 (by decide) rfl (by decide) rfl [.int (xs (6 * t + 1)), .int (xs (6 * t + 2)), .int (xs (6 * t + 3)), .int (xs (6 * t + 4)), .int (xs (6 * t + 5))] (kX5_copy l g 64 v (xs (6 * t + 1)) (xs (6 * t + 2)) (xs (6 * t + 3)) (xs (6 * t + 4)) (xs (6 * t + 5)) N hR) gL_law_X5_copy rfl hdX5_copy rfl ⟨rfl, rfl⟩ ⟨Nat.le_of_ble_eq_true rfl, Nat.le_of_ble_eq_true rfl⟩ rfl [] rfl (Nat.le_of_ble_eq_true rfl) dL_law_1292 ⟨by omega, by omega⟩) (fun r u H locs hps hP hS => ?_)
  have hu := hps.2
  refine lv_aload_n C.1.1 C.1.2.1 dL_law_1295 rfl (lv_at hl 2 rfl) ?_
  refine lv_aload_n C.1.1 C.1.2.1 dL_law_1296 rfl (lv_at hl 0 rfl) ?_
  refine lv_iload_n C.1.1 C.1.2.1 dL_law_1297 rfl (lv_at hl 3 rfl) ?_
  refine lv_iconst (v := 1) C.1.1 C.1.2.1 dL_law_1298 rfl ?_
  refine lv_iadd C.1.1 C.1.2.1 dL_law_1299 ?_
  refine lv_topE (nI (6 * t + 1)) (nI_add (6 * t) 1) ?_
  refine L_ld C hS (6 * t + 1) rfl (by omega) hL dL_law_1300 ?_
  refine lv_aload_n C.1.1 C.1.2.1 dL_law_1301 rfl (lv_at hl 0 rfl) ?_
  refine lv_iload_n C.1.1 C.1.2.1 dL_law_1302 rfl (lv_at hl 3 rfl) ?_
  refine lv_iconst (v := 2) C.1.1 C.1.2.1 dL_law_1303 rfl ?_
  refine lv_iadd C.1.1 C.1.2.1 dL_law_1304 ?_
  refine lv_topE (nI (6 * t + 2)) (nI_add (6 * t) 2) ?_
  refine L_ld C hS (6 * t + 2) rfl (by omega) hL dL_law_1305 ?_
  refine lv_aload_n C.1.1 C.1.2.1 dL_law_1306 rfl (lv_at hl 0 rfl) ?_
  refine lv_iload_n C.1.1 C.1.2.1 dL_law_1307 rfl (lv_at hl 3 rfl) ?_
  refine lv_iconst (v := 3) C.1.1 C.1.2.1 dL_law_1308 rfl ?_
  refine lv_iadd C.1.1 C.1.2.1 dL_law_1309 ?_
  refine lv_topE (nI (6 * t + 3)) (nI_add (6 * t) 3) ?_
  refine L_ld C hS (6 * t + 3) rfl (by omega) hL dL_law_1310 ?_
  refine lv_aload_n C.1.1 C.1.2.1 dL_law_1311 rfl (lv_at hl 0 rfl) ?_
  refine lv_iload_n C.1.1 C.1.2.1 dL_law_1312 rfl (lv_at hl 3 rfl) ?_
  refine lv_iconst (v := 4) C.1.1 C.1.2.1 dL_law_1313 rfl ?_
  refine lv_iadd C.1.1 C.1.2.1 dL_law_1314 ?_
  refine lv_topE (nI (6 * t + 4)) (nI_add (6 * t) 4) ?_
  refine L_ld C hS (6 * t + 4) rfl (by omega) hL dL_law_1315 ?_
  refine lv_aload_n C.1.1 C.1.2.1 dL_law_1316 rfl (lv_at hl 0 rfl) ?_
  refine lv_iload_n C.1.1 C.1.2.1 dL_law_1317 rfl (lv_at hl 3 rfl) ?_
  refine lv_iconst (v := 5) C.1.1 C.1.2.1 dL_law_1318 rfl ?_
  refine lv_iadd C.1.1 C.1.2.1 dL_law_1319 ?_
  refine lv_topE (nI (6 * t + 5)) (nI_add (6 * t) 5) ?_
  refine L_ld C hS (6 * t + 5) rfl (by omega) hL dL_law_1320 ?_
  refine L_F C hS (L_run C hP hS hl.1 53 6 (by decide) rfl (by decide) rfl [.int (xs (6 * t + 1)), .int (xs (6 * t + 2)), .int (xs (6 * t + 3)), .int (xs (6 * t + 4)), .int (xs (6 * t + 5))] (kX6_copy l g 64 u (xs (6 * t + 1)) (xs (6 * t + 2)) (xs (6 * t + 3)) (xs (6 * t + 4)) (xs (6 * t + 5)) (rb_Sz hR hu)) gL_law_X6_copy rfl hdX6_copy rfl ⟨rfl, rfl⟩ ⟨Nat.le_of_ble_eq_true rfl, Nat.le_of_ble_eq_true rfl⟩ rfl [.int r] rfl (Nat.le_of_ble_eq_true rfl) dL_law_1321 ⟨by omega, by omega⟩) (fun H locs hP hS => ?_)
  refine lv_icmp_eq (tgt := 1460) C.1.1 C.1.2.1 dL_law_1324 (by decide) (fun _ => ?_) (fun hne => absurd hps.1.1 hne)
  obtain ⟨N2, hN2⟩ := hps.1.2
  refine W.widen (k := cs + 1) (n := ss + 4) (by omega) (by omega) ?_
  exact kk _ N2 _ _ hN2 hP hS

set_option maxHeartbeats 2000000 in
set_option maxRecDepth 100000 in
theorem op_1329 (l : Launch) {g : GG} {p : Program} {e : Env} {s : State} {m : MethodId} {below : List Frame} {meth : Method} {c : Code} {b L : Nat} {xs : Nat → Int32} (hL : L ≤ 3072) (C : LC g b L xs p s m c) {Q : State → Prop} {v : SV} {N : Nat} (hR : Rl v N) {t : Nat} (ht : 6 * t + 6 ≤ L) {H : Heap} {locs : List Loc} {ls : Array Slot} {cs ss : Nat} (hcs : cs + 1 ≤ 600000 ∧ ss + 4 ≤ 7302250) (hP : va_P g.1 vwCl (wl g 64 v) H) (hS : va_S (lwA s) s.heap H locs) (hl : lv_has ls 4 [(0, .ref b), (1, .ref (gA g 0)), (2, .ref (gA g 53)), (3, .int (nI (6 * t)))]) (kk : ∀ (u : SV) (N2 : Nat) (H : Heap) (locs : List Loc), Rl u N2 → va_P g.1 vwCl (wl g 64 u) H → va_S (lwA s) s.heap H locs → W p l e room_1 s m #[.ref b] below meth c H locs (cs + 1) (ss + 4) Q (F0 m 1460 ls [])) : W p l e room_1 s m #[.ref b] below meth c H locs cs ss Q (F0 m 1329 ls []) := by
  refine lv_aload_n C.1.1 C.1.2.1 dL_law_1329 rfl (lv_at hl 1 rfl) ?_
  refine lv_aload_n C.1.1 C.1.2.1 dL_law_1330 rfl (lv_at hl 0 rfl) ?_
  refine lv_iload_n C.1.1 C.1.2.1 dL_law_1331 rfl (lv_at hl 3 rfl) ?_
  refine lv_iconst (v := 1) C.1.1 C.1.2.1 dL_law_1332 rfl ?_
  refine lv_iadd C.1.1 C.1.2.1 dL_law_1333 ?_
  refine lv_topE (nI (6 * t + 1)) (nI_add (6 * t) 1) ?_
  refine L_ld C hS (6 * t + 1) rfl (by omega) hL dL_law_1334 ?_
  refine L_I C hS (L_run C hP hS hl.1 0 5 (by decide) rfl (by decide) rfl [.int (xs (6 * t + 1))] (kX5_load l g 64 v (xs (6 * t + 1)) N hR) gL_law_X5_load rfl hdX5_load rfl ⟨rfl, rfl⟩ ⟨Nat.le_of_ble_eq_true rfl, Nat.le_of_ble_eq_true rfl⟩ rfl [] rfl (Nat.le_of_ble_eq_true rfl) dL_law_1335 ⟨by omega, by omega⟩) (fun r u H locs hps hP hS => ?_)
  have hu := hps.2
  refine lv_aload_n C.1.1 C.1.2.1 dL_law_1338 rfl (lv_at hl 2 rfl) ?_
  refine lv_aload_n C.1.1 C.1.2.1 dL_law_1339 rfl (lv_at hl 0 rfl) ?_
  refine lv_iload_n C.1.1 C.1.2.1 dL_law_1340 rfl (lv_at hl 3 rfl) ?_
  refine lv_iconst (v := 1) C.1.1 C.1.2.1 dL_law_1341 rfl ?_
  refine lv_iadd C.1.1 C.1.2.1 dL_law_1342 ?_
  refine lv_topE (nI (6 * t + 1)) (nI_add (6 * t) 1) ?_
  refine L_ld C hS (6 * t + 1) rfl (by omega) hL dL_law_1343 ?_
  refine L_F C hS (L_run C hP hS hl.1 53 6 (by decide) rfl (by decide) rfl [.int (xs (6 * t + 1))] (kX6_load l g 64 u (xs (6 * t + 1)) N (rb_M hR hu) (rb_Sz hR hu)) gL_law_X6_load rfl hdX6_load rfl ⟨rfl, rfl⟩ ⟨Nat.le_of_ble_eq_true rfl, Nat.le_of_ble_eq_true rfl⟩ rfl [.int r] rfl (Nat.le_of_ble_eq_true rfl) dL_law_1344 ⟨by omega, by omega⟩) (fun H locs hP hS => ?_)
  refine lv_icmp_eq (tgt := 1460) C.1.1 C.1.2.1 dL_law_1347 (by decide) (fun _ => ?_) (fun hne => absurd hps.1.1 hne)
  obtain ⟨N2, hN2⟩ := hps.1.2
  refine W.widen (k := cs + 1) (n := ss + 4) (by omega) (by omega) ?_
  exact kk _ N2 _ _ hN2 hP hS

set_option maxHeartbeats 2000000 in
set_option maxRecDepth 100000 in
theorem op_1352 (l : Launch) {g : GG} {p : Program} {e : Env} {s : State} {m : MethodId} {below : List Frame} {meth : Method} {c : Code} {b L : Nat} {xs : Nat → Int32} (hL : L ≤ 3072) (C : LC g b L xs p s m c) {Q : State → Prop} {v : SV} {N : Nat} (hR : Rl v N) {t : Nat} (ht : 6 * t + 6 ≤ L) {H : Heap} {locs : List Loc} {ls : Array Slot} {cs ss : Nat} (hcs : cs + 1 ≤ 600000 ∧ ss + 4 ≤ 7302250) (hP : va_P g.1 vwCl (wl g 64 v) H) (hS : va_S (lwA s) s.heap H locs) (hl : lv_has ls 4 [(0, .ref b), (1, .ref (gA g 0)), (2, .ref (gA g 53)), (3, .int (nI (6 * t)))]) (kk : ∀ (u : SV) (N2 : Nat) (H : Heap) (locs : List Loc), Rl u N2 → va_P g.1 vwCl (wl g 64 u) H → va_S (lwA s) s.heap H locs → W p l e room_1 s m #[.ref b] below meth c H locs (cs + 1) (ss + 4) Q (F0 m 1460 ls [])) : W p l e room_1 s m #[.ref b] below meth c H locs cs ss Q (F0 m 1352 ls []) := by
  refine lv_aload_n C.1.1 C.1.2.1 dL_law_1352 rfl (lv_at hl 1 rfl) ?_
  refine lv_aload_n C.1.1 C.1.2.1 dL_law_1353 rfl (lv_at hl 0 rfl) ?_
  refine lv_iload_n C.1.1 C.1.2.1 dL_law_1354 rfl (lv_at hl 3 rfl) ?_
  refine lv_iconst (v := 1) C.1.1 C.1.2.1 dL_law_1355 rfl ?_
  refine lv_iadd C.1.1 C.1.2.1 dL_law_1356 ?_
  refine lv_topE (nI (6 * t + 1)) (nI_add (6 * t) 1) ?_
  refine L_ld C hS (6 * t + 1) rfl (by omega) hL dL_law_1357 ?_
  refine L_I C hS (L_run C hP hS hl.1 0 5 (by decide) rfl (by decide) rfl [.int (xs (6 * t + 1))] (kX5_judge l g 64 v (xs (6 * t + 1)) N hR) gL_law_X5_judge rfl hdX5_judge rfl ⟨rfl, rfl⟩ ⟨Nat.le_of_ble_eq_true rfl, Nat.le_of_ble_eq_true rfl⟩ rfl [] rfl (Nat.le_of_ble_eq_true rfl) dL_law_1358 ⟨by omega, by omega⟩) (fun r u H locs hps hP hS => ?_)
  have hu := hps.2
  refine lv_aload_n C.1.1 C.1.2.1 dL_law_1361 rfl (lv_at hl 2 rfl) ?_
  refine lv_aload_n C.1.1 C.1.2.1 dL_law_1362 rfl (lv_at hl 0 rfl) ?_
  refine lv_iload_n C.1.1 C.1.2.1 dL_law_1363 rfl (lv_at hl 3 rfl) ?_
  refine lv_iconst (v := 1) C.1.1 C.1.2.1 dL_law_1364 rfl ?_
  refine lv_iadd C.1.1 C.1.2.1 dL_law_1365 ?_
  refine lv_topE (nI (6 * t + 1)) (nI_add (6 * t) 1) ?_
  refine L_ld C hS (6 * t + 1) rfl (by omega) hL dL_law_1366 ?_
  refine L_F C hS (L_run C hP hS hl.1 53 6 (by decide) rfl (by decide) rfl [.int (xs (6 * t + 1))] (kX6_judge l g 64 u (xs (6 * t + 1)) (rb_Sz hR hu)) gL_law_X6_judge rfl hdX6_judge rfl ⟨rfl, rfl⟩ ⟨Nat.le_of_ble_eq_true rfl, Nat.le_of_ble_eq_true rfl⟩ rfl [.int r] rfl (Nat.le_of_ble_eq_true rfl) dL_law_1367 ⟨by omega, by omega⟩) (fun H locs hP hS => ?_)
  refine lv_icmp_eq (tgt := 1460) C.1.1 C.1.2.1 dL_law_1370 (by decide) (fun _ => ?_) (fun hne => absurd hps.1.1 hne)
  obtain ⟨N2, hN2⟩ := hps.1.2
  refine W.widen (k := cs + 1) (n := ss + 4) (by omega) (by omega) ?_
  exact kk _ N2 _ _ hN2 hP hS

set_option maxHeartbeats 2000000 in
set_option maxRecDepth 100000 in
theorem op_1375 (l : Launch) {g : GG} {p : Program} {e : Env} {s : State} {m : MethodId} {below : List Frame} {meth : Method} {c : Code} {b L : Nat} {xs : Nat → Int32} (hL : L ≤ 3072) (C : LC g b L xs p s m c) {Q : State → Prop} {v : SV} {N : Nat} (hR : Rl v N) {t : Nat} (ht : 6 * t + 6 ≤ L) {H : Heap} {locs : List Loc} {ls : Array Slot} {cs ss : Nat} (hcs : cs + 1 ≤ 600000 ∧ ss + 4 ≤ 7302250) (hP : va_P g.1 vwCl (wl g 64 v) H) (hS : va_S (lwA s) s.heap H locs) (hl : lv_has ls 4 [(0, .ref b), (1, .ref (gA g 0)), (2, .ref (gA g 53)), (3, .int (nI (6 * t)))]) (kk : ∀ (u : SV) (N2 : Nat) (H : Heap) (locs : List Loc), Rl u N2 → va_P g.1 vwCl (wl g 64 u) H → va_S (lwA s) s.heap H locs → W p l e room_1 s m #[.ref b] below meth c H locs (cs + 1) (ss + 4) Q (F0 m 1460 ls [])) : W p l e room_1 s m #[.ref b] below meth c H locs cs ss Q (F0 m 1375 ls []) := by
  refine lv_aload_n C.1.1 C.1.2.1 dL_law_1375 rfl (lv_at hl 1 rfl) ?_
  refine L_I C hS (L_run C hP hS hl.1 0 5 (by decide) rfl (by decide) rfl [] (kX5_image l g 64 v  N hR) gL_law_X5_image rfl hdX5_image rfl ⟨rfl, rfl⟩ ⟨Nat.le_of_ble_eq_true rfl, Nat.le_of_ble_eq_true rfl⟩ rfl [] rfl (Nat.le_of_ble_eq_true rfl) dL_law_1376 ⟨by omega, by omega⟩) (fun r u H locs hps hP hS => ?_)
  have hu := hps.2
  refine lv_aload_n C.1.1 C.1.2.1 dL_law_1379 rfl (lv_at hl 2 rfl) ?_
  refine L_F C hS (L_run C hP hS hl.1 53 6 (by decide) rfl (by decide) rfl [] (kX6_image l g 64 u  ) gL_law_X6_image rfl hdX6_image rfl ⟨rfl, rfl⟩ ⟨Nat.le_of_ble_eq_true rfl, Nat.le_of_ble_eq_true rfl⟩ rfl [.int r] rfl (Nat.le_of_ble_eq_true rfl) dL_law_1380 ⟨by omega, by omega⟩) (fun H locs hP hS => ?_)
  refine lv_icmp_eq (tgt := 1460) C.1.1 C.1.2.1 dL_law_1383 (by decide) (fun _ => ?_) (fun hne => absurd hps.1.1 hne)
  obtain ⟨N2, hN2⟩ := hps.1.2
  refine W.widen (k := cs + 1) (n := ss + 4) (by omega) (by omega) ?_
  exact kk _ N2 _ _ hN2 hP hS

set_option maxHeartbeats 2000000 in
set_option maxRecDepth 100000 in
theorem op_1388 (l : Launch) {g : GG} {p : Program} {e : Env} {s : State} {m : MethodId} {below : List Frame} {meth : Method} {c : Code} {b L : Nat} {xs : Nat → Int32} (hL : L ≤ 3072) (C : LC g b L xs p s m c) {Q : State → Prop} {v : SV} {N : Nat} (hR : Rl v N) {t : Nat} (ht : 6 * t + 6 ≤ L) {H : Heap} {locs : List Loc} {ls : Array Slot} {cs ss : Nat} (hcs : cs + 1 ≤ 600000 ∧ ss + 4 ≤ 7302250) (hP : va_P g.1 vwCl (wl g 64 v) H) (hS : va_S (lwA s) s.heap H locs) (hl : lv_has ls 4 [(0, .ref b), (1, .ref (gA g 0)), (2, .ref (gA g 53)), (3, .int (nI (6 * t)))]) (kk : ∀ (u : SV) (N2 : Nat) (H : Heap) (locs : List Loc), Rl u N2 → va_P g.1 vwCl (wl g 64 u) H → va_S (lwA s) s.heap H locs → W p l e room_1 s m #[.ref b] below meth c H locs (cs + 1) (ss + 4) Q (F0 m 1460 ls [])) : W p l e room_1 s m #[.ref b] below meth c H locs cs ss Q (F0 m 1388 ls []) := by
  refine lv_aload_n C.1.1 C.1.2.1 dL_law_1388 rfl (lv_at hl 1 rfl) ?_
  refine L_I C hS (L_run C hP hS hl.1 0 5 (by decide) rfl (by decide) rfl [] (kX5_undo l g 64 v  N hR) gL_law_X5_undo rfl hdX5_undo rfl ⟨rfl, rfl⟩ ⟨Nat.le_of_ble_eq_true rfl, Nat.le_of_ble_eq_true rfl⟩ rfl [] rfl (Nat.le_of_ble_eq_true rfl) dL_law_1389 ⟨by omega, by omega⟩) (fun r u H locs hps hP hS => ?_)
  have hu := hps.2
  refine lv_aload_n C.1.1 C.1.2.1 dL_law_1392 rfl (lv_at hl 2 rfl) ?_
  refine L_F C hS (L_run C hP hS hl.1 53 6 (by decide) rfl (by decide) rfl [] (kX6_undo l g 64 u  ) gL_law_X6_undo rfl hdX6_undo rfl ⟨rfl, rfl⟩ ⟨Nat.le_of_ble_eq_true rfl, Nat.le_of_ble_eq_true rfl⟩ rfl [.int r] rfl (Nat.le_of_ble_eq_true rfl) dL_law_1393 ⟨by omega, by omega⟩) (fun H locs hP hS => ?_)
  refine lv_icmp_eq (tgt := 1460) C.1.1 C.1.2.1 dL_law_1396 (by decide) (fun _ => ?_) (fun hne => absurd hps.1.1 hne)
  obtain ⟨N2, hN2⟩ := hps.1.2
  refine W.widen (k := cs + 1) (n := ss + 4) (by omega) (by omega) ?_
  exact kk _ N2 _ _ hN2 hP hS

set_option maxHeartbeats 2000000 in
set_option maxRecDepth 100000 in
theorem op_1401 (l : Launch) {g : GG} {p : Program} {e : Env} {s : State} {m : MethodId} {below : List Frame} {meth : Method} {c : Code} {b L : Nat} {xs : Nat → Int32} (hL : L ≤ 3072) (C : LC g b L xs p s m c) {Q : State → Prop} {v : SV} {N : Nat} (hR : Rl v N) {t : Nat} (ht : 6 * t + 6 ≤ L) {H : Heap} {locs : List Loc} {ls : Array Slot} {cs ss : Nat} (hcs : cs + 1 ≤ 600000 ∧ ss + 4 ≤ 7302250) (hP : va_P g.1 vwCl (wl g 64 v) H) (hS : va_S (lwA s) s.heap H locs) (hl : lv_has ls 4 [(0, .ref b), (1, .ref (gA g 0)), (2, .ref (gA g 53)), (3, .int (nI (6 * t)))]) (kk : ∀ (u : SV) (N2 : Nat) (H : Heap) (locs : List Loc), Rl u N2 → va_P g.1 vwCl (wl g 64 u) H → va_S (lwA s) s.heap H locs → W p l e room_1 s m #[.ref b] below meth c H locs (cs + 1) (ss + 4) Q (F0 m 1460 ls [])) : W p l e room_1 s m #[.ref b] below meth c H locs cs ss Q (F0 m 1401 ls []) := by
  refine lv_aload_n C.1.1 C.1.2.1 dL_law_1401 rfl (lv_at hl 1 rfl) ?_
  refine L_I C hS (L_run C hP hS hl.1 0 5 (by decide) rfl (by decide) rfl [] (kX5_tear l g 64 v  N hR) gL_law_X5_tear rfl hdX5_tear rfl ⟨rfl, rfl⟩ ⟨Nat.le_of_ble_eq_true rfl, Nat.le_of_ble_eq_true rfl⟩ rfl [] rfl (Nat.le_of_ble_eq_true rfl) dL_law_1402 ⟨by omega, by omega⟩) (fun r u H locs hps hP hS => ?_)
  have hu := hps.2
  refine lv_aload_n C.1.1 C.1.2.1 dL_law_1405 rfl (lv_at hl 2 rfl) ?_
  refine L_F C hS (L_run C hP hS hl.1 53 6 (by decide) rfl (by decide) rfl [] (kX6_tear l g 64 u  ) gL_law_X6_tear rfl hdX6_tear rfl ⟨rfl, rfl⟩ ⟨Nat.le_of_ble_eq_true rfl, Nat.le_of_ble_eq_true rfl⟩ rfl [.int r] rfl (Nat.le_of_ble_eq_true rfl) dL_law_1406 ⟨by omega, by omega⟩) (fun H locs hP hS => ?_)
  refine lv_icmp_eq (tgt := 1460) C.1.1 C.1.2.1 dL_law_1409 (by decide) (fun _ => ?_) (fun hne => absurd hps.1.1 hne)
  obtain ⟨N2, hN2⟩ := hps.1.2
  refine W.widen (k := cs + 1) (n := ss + 4) (by omega) (by omega) ?_
  exact kk _ N2 _ _ hN2 hP hS

set_option maxHeartbeats 2000000 in
set_option maxRecDepth 100000 in
theorem op_1414 (l : Launch) {g : GG} {p : Program} {e : Env} {s : State} {m : MethodId} {below : List Frame} {meth : Method} {c : Code} {b L : Nat} {xs : Nat → Int32} (hL : L ≤ 3072) (C : LC g b L xs p s m c) {Q : State → Prop} {v : SV} {N : Nat} (hR : Rl v N) {t : Nat} (ht : 6 * t + 6 ≤ L) {H : Heap} {locs : List Loc} {ls : Array Slot} {cs ss : Nat} (hcs : cs + 1 ≤ 600000 ∧ ss + 4 ≤ 7302250) (hP : va_P g.1 vwCl (wl g 64 v) H) (hS : va_S (lwA s) s.heap H locs) (hl : lv_has ls 4 [(0, .ref b), (1, .ref (gA g 0)), (2, .ref (gA g 53)), (3, .int (nI (6 * t)))]) (kk : ∀ (u : SV) (N2 : Nat) (H : Heap) (locs : List Loc), Rl u N2 → va_P g.1 vwCl (wl g 64 u) H → va_S (lwA s) s.heap H locs → W p l e room_1 s m #[.ref b] below meth c H locs (cs + 1) (ss + 4) Q (F0 m 1460 ls [])) : W p l e room_1 s m #[.ref b] below meth c H locs cs ss Q (F0 m 1414 ls []) := by
  refine lv_aload_n C.1.1 C.1.2.1 dL_law_1414 rfl (lv_at hl 1 rfl) ?_
  refine lv_aload_n C.1.1 C.1.2.1 dL_law_1415 rfl (lv_at hl 0 rfl) ?_
  refine lv_iload_n C.1.1 C.1.2.1 dL_law_1416 rfl (lv_at hl 3 rfl) ?_
  refine lv_iconst (v := 1) C.1.1 C.1.2.1 dL_law_1417 rfl ?_
  refine lv_iadd C.1.1 C.1.2.1 dL_law_1418 ?_
  refine lv_topE (nI (6 * t + 1)) (nI_add (6 * t) 1) ?_
  refine L_ld C hS (6 * t + 1) rfl (by omega) hL dL_law_1419 ?_
  refine L_I C hS (L_run C hP hS hl.1 0 5 (by decide) rfl (by decide) rfl [.int (xs (6 * t + 1))] (kX5_count l g 64 v (xs (6 * t + 1)) N hR) gL_law_X5_count rfl hdX5_count rfl ⟨rfl, rfl⟩ ⟨Nat.le_of_ble_eq_true rfl, Nat.le_of_ble_eq_true rfl⟩ rfl [] rfl (Nat.le_of_ble_eq_true rfl) dL_law_1420 ⟨by omega, by omega⟩) (fun r u H locs hps hP hS => ?_)
  have hu := hps.2
  refine lv_aload_n C.1.1 C.1.2.1 dL_law_1423 rfl (lv_at hl 2 rfl) ?_
  refine lv_aload_n C.1.1 C.1.2.1 dL_law_1424 rfl (lv_at hl 0 rfl) ?_
  refine lv_iload_n C.1.1 C.1.2.1 dL_law_1425 rfl (lv_at hl 3 rfl) ?_
  refine lv_iconst (v := 1) C.1.1 C.1.2.1 dL_law_1426 rfl ?_
  refine lv_iadd C.1.1 C.1.2.1 dL_law_1427 ?_
  refine lv_topE (nI (6 * t + 1)) (nI_add (6 * t) 1) ?_
  refine L_ld C hS (6 * t + 1) rfl (by omega) hL dL_law_1428 ?_
  refine L_F C hS (L_run C hP hS hl.1 53 6 (by decide) rfl (by decide) rfl [.int (xs (6 * t + 1))] (kX6_count l g 64 u (xs (6 * t + 1)) N (rb_M hR hu)) gL_law_X6_count rfl hdX6_count rfl ⟨rfl, rfl⟩ ⟨Nat.le_of_ble_eq_true rfl, Nat.le_of_ble_eq_true rfl⟩ rfl [.int r] rfl (Nat.le_of_ble_eq_true rfl) dL_law_1429 ⟨by omega, by omega⟩) (fun H locs hP hS => ?_)
  refine lv_icmp_eq (tgt := 1460) C.1.1 C.1.2.1 dL_law_1432 (by decide) (fun _ => ?_) (fun hne => absurd hps.1.1 hne)
  obtain ⟨N2, hN2⟩ := hps.1.2
  refine W.widen (k := cs + 1) (n := ss + 4) (by omega) (by omega) ?_
  exact kk _ N2 _ _ hN2 hP hS

set_option maxHeartbeats 2000000 in
set_option maxRecDepth 100000 in
theorem op_1437 (l : Launch) {g : GG} {p : Program} {e : Env} {s : State} {m : MethodId} {below : List Frame} {meth : Method} {c : Code} {b L : Nat} {xs : Nat → Int32} (hL : L ≤ 3072) (C : LC g b L xs p s m c) {Q : State → Prop} {v : SV} {N : Nat} (hR : Rl v N) {t : Nat} (ht : 6 * t + 6 ≤ L) {H : Heap} {locs : List Loc} {ls : Array Slot} {cs ss : Nat} (hcs : cs + 1 ≤ 600000 ∧ ss + 4 ≤ 7302250) (hP : va_P g.1 vwCl (wl g 64 v) H) (hS : va_S (lwA s) s.heap H locs) (hl : lv_has ls 4 [(0, .ref b), (1, .ref (gA g 0)), (2, .ref (gA g 53)), (3, .int (nI (6 * t)))]) (kk : ∀ (u : SV) (N2 : Nat) (H : Heap) (locs : List Loc), Rl u N2 → va_P g.1 vwCl (wl g 64 u) H → va_S (lwA s) s.heap H locs → W p l e room_1 s m #[.ref b] below meth c H locs (cs + 1) (ss + 4) Q (F0 m 1460 ls [])) : W p l e room_1 s m #[.ref b] below meth c H locs cs ss Q (F0 m 1437 ls []) := by
  refine lv_aload_n C.1.1 C.1.2.1 dL_law_1437 rfl (lv_at hl 1 rfl) ?_
  refine lv_aload_n C.1.1 C.1.2.1 dL_law_1438 rfl (lv_at hl 0 rfl) ?_
  refine lv_iload_n C.1.1 C.1.2.1 dL_law_1439 rfl (lv_at hl 3 rfl) ?_
  refine lv_iconst (v := 1) C.1.1 C.1.2.1 dL_law_1440 rfl ?_
  refine lv_iadd C.1.1 C.1.2.1 dL_law_1441 ?_
  refine lv_topE (nI (6 * t + 1)) (nI_add (6 * t) 1) ?_
  refine L_ld C hS (6 * t + 1) rfl (by omega) hL dL_law_1442 ?_
  refine L_I C hS (L_run C hP hS hl.1 0 5 (by decide) rfl (by decide) rfl [.int (xs (6 * t + 1))] (kX5_status l g 64 v (xs (6 * t + 1)) N hR) gL_law_X5_status rfl hdX5_status rfl ⟨rfl, rfl⟩ ⟨Nat.le_of_ble_eq_true rfl, Nat.le_of_ble_eq_true rfl⟩ rfl [] rfl (Nat.le_of_ble_eq_true rfl) dL_law_1443 ⟨by omega, by omega⟩) (fun r u H locs hps hP hS => ?_)
  have hu := hps.2
  refine lv_aload_n C.1.1 C.1.2.1 dL_law_1446 rfl (lv_at hl 2 rfl) ?_
  refine lv_aload_n C.1.1 C.1.2.1 dL_law_1447 rfl (lv_at hl 0 rfl) ?_
  refine lv_iload_n C.1.1 C.1.2.1 dL_law_1448 rfl (lv_at hl 3 rfl) ?_
  refine lv_iconst (v := 1) C.1.1 C.1.2.1 dL_law_1449 rfl ?_
  refine lv_iadd C.1.1 C.1.2.1 dL_law_1450 ?_
  refine lv_topE (nI (6 * t + 1)) (nI_add (6 * t) 1) ?_
  refine L_ld C hS (6 * t + 1) rfl (by omega) hL dL_law_1451 ?_
  refine L_F C hS (L_run C hP hS hl.1 53 6 (by decide) rfl (by decide) rfl [.int (xs (6 * t + 1))] (kX6_status l g 64 u (xs (6 * t + 1)) ) gL_law_X6_status rfl hdX6_status rfl ⟨rfl, rfl⟩ ⟨Nat.le_of_ble_eq_true rfl, Nat.le_of_ble_eq_true rfl⟩ rfl [.int r] rfl (Nat.le_of_ble_eq_true rfl) dL_law_1452 ⟨by omega, by omega⟩) (fun H locs hP hS => ?_)
  refine lv_icmp_eq (tgt := 1460) C.1.1 C.1.2.1 dL_law_1455 (by decide) (fun _ => ?_) (fun hne => absurd hps.1.1 hne)
  obtain ⟨N2, hN2⟩ := hps.1.2
  refine W.widen (k := cs + 1) (n := ss + 4) (by omega) (by omega) ?_
  exact kk _ N2 _ _ hN2 hP hS

