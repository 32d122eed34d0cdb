set_option maxHeartbeats 4000000 in
set_option maxRecDepth 100000 in
theorem lc_table {p : Program} {l : Launch} {e : Env} {s : State} {m : MethodId} {args : Array Value} {below : List Frame} {meth : Method} {c : Code} {Q : State → Prop} (hlt : l.stackTraces = false) (hx : p.tables.exec = Jvm.exec) (hb : c.code = cL_law) (hml : c.maxLocals = 7) (hown : s.vm.findClass "CountLeastLaw" = some m.cls) (hT : ∀ w ∈ TB, w.before args s = true) {D : va_G} {CA : Nat → ClassId} (hK : va_K D vwCl (tyL CA) s) {sa : Nat → Nat} (hZ : xz (fun q => s.heap.size ≤ q) sa s s.heap) (hN : xn s) {b L : Nat} {xs : Nat → Int32} (hX : va_X b L xs s s.heap) (hbl : b < s.heap.size) (hL : L ≤ 2560) {qo xo mo : Nat} {i cells slots : Nat} (hi : i + 5 ≤ L) (hc : cells + 5 ≤ 601024) (hsl : slots + 33 ≤ 7293034) {g mg : Nat → Nat → Int32} {h : Nat → Nat → Nat} {jp pz ad am : Nat → Nat} {f9 : Nat → Int64} (sr : SR g mg h jp pz) (exo : ad 0 = xo) (emo : am 0 = mo)
    (kx : ∀ (H : Heap) (locs : List Loc), LwS D CA qo xo mo s.heap.size H → va_S (fun q => s.heap.size ≤ q) s.heap H locs → ∀ ls, lv_has ls 7 [(0, .ref b), (1, .ref xo), (2, .ref mo), (3, .ref qo), (4, .int (nI i))] → W p l e room_1 s m args below meth c H locs (cells + 5) (slots + 33) Q (F0 m 1318 ls [])) : ∀ (H : Heap) (locs : List Loc), va_P D vwCl (WD CA g h ad f9 mg am qo) H → va_D (fun q => s.heap.size ≤ q) (WD CA g h ad f9 mg am qo) → va_S (fun q => s.heap.size ≤ q) s.heap H locs → ∀ ls, lv_has ls 7 [(0, .ref b), (1, .ref xo), (2, .ref mo), (3, .ref qo), (4, .int (nI i))] → W p l e room_1 s m args below meth c H locs cells slots Q (F0 m 387 ls []) := by
  intro H locs hP hD hS ls hl
  refine lv_aload_n hx hb dL_law_387 rfl (lv_at hl 1 rfl) ?_
  refine lv_aload_n hx hb dL_law_388 rfl (lv_at hl 0 rfl) ?_
  refine lv_iload hx hb dL_law_389 (lv_at hl 4 rfl) ?_
  refine lv_iconst (v := 1) hx hb dL_law_391 (by decide) ?_
  refine lv_iadd hx hb dL_law_392 ?_
  refine W.eq (g2 := F0 m 393 ls [.int (nI (i + 1)), .ref b, .ref xo]) (by rw [show nI i + 1 = nI (i + 1) from nI_add i 1]) ?_
  refine va_sld hx hb hX hbl (show ¬ s.heap.size ≤ b by omega) hS (vp_in_nI (n := (i + 1)) (by omega) (by omega)) dL_law_393 ?_
  refine W.eq (g2 := F0 m 394 ls [.int (xs (i + 1)), .ref xo]) (by rw [nI_clamp (n := (i + 1)) (by omega)]) ?_
  refine lv_aload_n hx hb dL_law_394 rfl (lv_at hl 0 rfl) ?_
  refine lv_iload hx hb dL_law_395 (lv_at hl 4 rfl) ?_
  refine lv_iconst (v := 2) hx hb dL_law_397 (by decide) ?_
  refine lv_iadd hx hb dL_law_398 ?_
  refine W.eq (g2 := F0 m 399 ls [.int (nI (i + 2)), .ref b, .int (xs (i + 1)), .ref xo]) (by rw [show nI i + 2 = nI (i + 2) from nI_add i 2]) ?_
  refine va_sld hx hb hX hbl (show ¬ s.heap.size ≤ b by omega) hS (vp_in_nI (n := (i + 2)) (by omega) (by omega)) dL_law_399 ?_
  refine W.eq (g2 := F0 m 400 ls [.int (xs (i + 2)), .int (xs (i + 1)), .ref xo]) (by rw [nI_clamp (n := (i + 2)) (by omega)]) ?_
  refine lv_aload_n hx hb dL_law_400 rfl (lv_at hl 0 rfl) ?_
  refine lv_iload hx hb dL_law_401 (lv_at hl 4 rfl) ?_
  refine lv_iconst (v := 3) hx hb dL_law_403 (by decide) ?_
  refine lv_iadd hx hb dL_law_404 ?_
  refine W.eq (g2 := F0 m 405 ls [.int (nI (i + 3)), .ref b, .int (xs (i + 2)), .int (xs (i + 1)), .ref xo]) (by rw [show nI i + 3 = nI (i + 3) from nI_add i 3]) ?_
  refine va_sld hx hb hX hbl (show ¬ s.heap.size ≤ b by omega) hS (vp_in_nI (n := (i + 3)) (by omega) (by omega)) dL_law_405 ?_
  refine W.eq (g2 := F0 m 406 ls [.int (xs (i + 3)), .int (xs (i + 2)), .int (xs (i + 1)), .ref xo]) (by rw [nI_clamp (n := (i + 3)) (by omega)]) ?_
  refine lv_aload_n hx hb dL_law_406 rfl (lv_at hl 0 rfl) ?_
  refine lv_iload hx hb dL_law_407 (lv_at hl 4 rfl) ?_
  refine lv_iconst (v := 4) hx hb dL_law_409 (by decide) ?_
  refine lv_iadd hx hb dL_law_410 ?_
  refine W.eq (g2 := F0 m 411 ls [.int (nI (i + 4)), .ref b, .int (xs (i + 3)), .int (xs (i + 2)), .int (xs (i + 1)), .ref xo]) (by rw [show nI i + 4 = nI (i + 4) from nI_add i 4]) ?_
  refine va_sld hx hb hX hbl (show ¬ s.heap.size ≤ b by omega) hS (vp_in_nI (n := (i + 4)) (by omega) (by omega)) dL_law_411 ?_
  refine W.eq (g2 := F0 m 412 ls [.int (xs (i + 4)), .int (xs (i + 3)), .int (xs (i + 2)), .int (xs (i + 1)), .ref xo]) (by rw [nI_clamp (n := (i + 4)) (by omega)]) ?_
  refine kWr (n := 5) (D := D) (CA := CA) (wA := [(qo, oc (CA 4) f9)] ++ cw CA g h ad) (wB := mw CA mg am) (wd := (fun u : (Nat → Nat → Int32) × (Nat → Int64) => [(qo, oc (CA 4) u.2)] ++ cw CA u.1 h ad)) (A1 := lA h ad qo H.size) (As := [.ref (ad 0), .int (xs (i + 1)), .int (xs (i + 2)), .int (xs (i + 3)), .int (xs (i + 4))]) (rest := []) ⟨hx, hb, hml, hown, hT⟩ (kL_table l hlt D CA g h ad H.size sa qo f9 (xs (i + 1)) (xs (i + 2)) (xs (i + 3)) (xs (i + 4))) (gi_S wm_296 wm_297 wm_0 wm_298) rfl rfl (by decide +kernel) ⟨(Nat.le_of_ble_eq_true rfl), (Nat.le_of_ble_eq_true rfl)⟩ hZ hN hK hP hD hS (lA_A hD hS.1) lA_in rfl hl.1 (by rw [exo]; rfl) (Nat.le_of_ble_eq_true rfl) dL_law_412 ⟨by show cells + 4 ≤ 601024; omega, by show slots + 24 ≤ 7293034; omega⟩ (fun r9 u9 H locs hw9 hP hD hS => ?_)
  refine W.widen (k := cells + 5) (n := slots + 33) (by omega) (by omega) ?_
  refine lv_istore (lv' := [(5, .int r9), (0, .ref b), (1, .ref xo), (2, .ref mo), (3, .ref qo), (4, .int (nI i))]) hx hb dL_law_415 hl (by decide) rfl (fun ls hl => ?_)
  refine lv_aload_n hx hb dL_law_417 rfl (lv_at hl 3 rfl) ?_
  refine lv_aload_n hx hb dL_law_418 rfl (lv_at hl 1 rfl) ?_
  refine lv_iload hx hb dL_law_419 (lv_at hl 5 rfl) ?_
  refine lv_iconst (v := 1) hx hb dL_law_421 (by decide) ?_
  refine lv_iadd hx hb dL_law_422 ?_
  refine W.eq (g2 := F0 m 423 ls [.int (nI (i + 1)), .ref b, .ref mo]) (by rw [show nI i + 1 = nI (i + 1) from nI_add i 1]) ?_
  refine va_sld hx hb hX hbl (show ¬ s.heap.size ≤ b by omega) hS (vp_in_nI (n := (i + 1)) (by omega) (by omega)) dL_law_423 ?_
  refine W.eq (g2 := F0 m 424 ls [.int (xs (i + 1)), .ref mo]) (by rw [nI_clamp (n := (i + 1)) (by omega)]) ?_
  refine lv_aload_n hx hb dL_law_424 rfl (lv_at hl 1 rfl) ?_
  refine lv_iload hx hb dL_law_425 (lv_at hl 5 rfl) ?_
  refine lv_iconst (v := 2) hx hb dL_law_427 (by decide) ?_
  refine lv_iadd hx hb dL_law_428 ?_
  refine W.eq (g2 := F0 m 429 ls [.int (nI (i + 2)), .ref b, .int (xs (i + 1)), .ref mo]) (by rw [show nI i + 2 = nI (i + 2) from nI_add i 2]) ?_
  refine va_sld hx hb hX hbl (show ¬ s.heap.size ≤ b by omega) hS (vp_in_nI (n := (i + 2)) (by omega) (by omega)) dL_law_429 ?_
  refine W.eq (g2 := F0 m 430 ls [.int (xs (i + 2)), .int (xs (i + 1)), .ref mo]) (by rw [nI_clamp (n := (i + 2)) (by omega)]) ?_
  refine lv_aload_n hx hb dL_law_430 rfl (lv_at hl 1 rfl) ?_
  refine lv_iload hx hb dL_law_431 (lv_at hl 5 rfl) ?_
  refine lv_iconst (v := 3) hx hb dL_law_433 (by decide) ?_
  refine lv_iadd hx hb dL_law_434 ?_
  refine W.eq (g2 := F0 m 435 ls [.int (nI (i + 3)), .ref b, .int (xs (i + 2)), .int (xs (i + 1)), .ref mo]) (by rw [show nI i + 3 = nI (i + 3) from nI_add i 3]) ?_
  refine va_sld hx hb hX hbl (show ¬ s.heap.size ≤ b by omega) hS (vp_in_nI (n := (i + 3)) (by omega) (by omega)) dL_law_435 ?_
  refine W.eq (g2 := F0 m 436 ls [.int (xs (i + 3)), .int (xs (i + 2)), .int (xs (i + 1)), .ref mo]) (by rw [nI_clamp (n := (i + 3)) (by omega)]) ?_
  refine lv_aload_n hx hb dL_law_436 rfl (lv_at hl 1 rfl) ?_
  refine lv_iload hx hb dL_law_437 (lv_at hl 5 rfl) ?_
  refine lv_iconst (v := 4) hx hb dL_law_439 (by decide) ?_
  refine lv_iadd hx hb dL_law_440 ?_
  refine W.eq (g2 := F0 m 441 ls [.int (nI (i + 4)), .ref b, .int (xs (i + 3)), .int (xs (i + 2)), .int (xs (i + 1)), .ref mo]) (by rw [show nI i + 4 = nI (i + 4) from nI_add i 4]) ?_
  refine va_sld hx hb hX hbl (show ¬ s.heap.size ≤ b by omega) hS (vp_in_nI (n := (i + 4)) (by omega) (by omega)) dL_law_441 ?_
  refine W.eq (g2 := F0 m 442 ls [.int (xs (i + 4)), .int (xs (i + 3)), .int (xs (i + 2)), .int (xs (i + 1)), .ref mo]) (by rw [nI_clamp (n := (i + 4)) (by omega)]) ?_
  refine kRv (n := 4) (D := D) (CA := CA) (wA := mw CA mg am) (wB := [(qo, oc (CA 4) u9.2)] ++ cw CA u9.1 h ad) (wd := fun u => mw CA u am) (A1 := mA am H.size) (As := [.int (xs (i + 1)), .int (xs (i + 2)), .int (xs (i + 3)), .int (xs (i + 4))]) (rest := []) ⟨hx, hb, hml, hown, hT⟩ (kM_table l D CA mg am H.size (xs (i + 1)) (xs (i + 2)) (xs (i + 3)) (xs (i + 4))) (gi_V wm_589 wm_590 wm_591 wm_4 wm_592) rfl rfl (by decide +kernel) ⟨(Nat.le_of_ble_eq_true rfl), (Nat.le_of_ble_eq_true rfl)⟩ (va_recv hK (P_r hP) (ci := 4) (q0 := 0) rfl mw_O) hK hP hD hS (mA_A hD hS.1) (nA_in (c := mc CA mg am)) rfl hl.1 (by rw [emo]; rfl) (Nat.le_of_ble_eq_true rfl) dL_law_442 ⟨by show cells + 5 + 0 ≤ 601024; omega, by show slots + 33 + 0 ≤ 7293034; omega⟩ (fun um H locs ht9 hP hD hS => ?_)
  refine lv_aload_n hx hb dL_law_445 rfl (lv_at hl 3 rfl) ?_
  refine kRi (n := 0) (D := D) (CA := CA) (wA := mw CA um am) (wB := [(qo, oc (CA 4) u9.2)] ++ cw CA u9.1 h ad) (wd := fun u => mw CA u am) (A1 := mA am H.size) (As := []) (rest := []) ⟨hx, hb, hml, hown, hT⟩ (kM_thrown l D CA um am H.size) (gi_V wm_563 wm_564 wm_565 wm_4 wm_566) rfl rfl (by decide +kernel) ⟨(Nat.le_of_ble_eq_true rfl), (Nat.le_of_ble_eq_true rfl)⟩ (va_recv hK (P_r hP) (ci := 4) (q0 := 0) rfl mw_O) hK hP hD hS (mA_A hD hS.1) (nA_in (c := mc CA um am)) rfl hl.1 (by rw [emo]; rfl) (Nat.le_of_ble_eq_true rfl) dL_law_446 ⟨by show cells + 5 + 0 ≤ 601024; omega, by show slots + 33 + 0 ≤ 7293034; omega⟩ (fun r8 u8 H locs h8 hP hD hS => ?_)
  obtain ⟨e8, hu8⟩ := h8
  rw [hu8] at hP hD
  have hJ := J_table sr hw9 ht9
  have e7 : r8 = r9 := by rw [e8]; exact hJ.1
  refine lv_iload hx hb dL_law_449 (lv_at hl 0 rfl) ?_
  refine lv_icmp_eq (tgt := 456) hx hb dL_law_451 (by decide) (fun c_1 => ?_) (fun c_1 => absurd e7 c_1)
  refine lv_goto (tgt := 1318) hx hb dL_law_456 (by decide) ?_
  exact kx H locs ⟨_, _, h, jp, pz, ad, am, _, hJ.2, exo, emo, hP, hD⟩ hS ls (lv_sub hl [1, 2, 3, 4, 5] rfl)
set_option maxHeartbeats 4000000 in
set_option maxRecDepth 100000 in
theorem lc_worn {p : Program} {l : Launch} {e : Env} {s : State} {m : MethodId} {args : Array Value} {below : List Frame} {meth : Method} {c : Code} {Q : State → Prop} (hlt : l.stackTraces = false) (hx : p.tables.exec = Jvm.exec) (hb : c.code = cL_law) (hml : c.maxLocals = 7) (hown : s.vm.findClass "CountLeastLaw" = some m.cls) (hT : ∀ w ∈ TB, w.before args s = true) {D : va_G} {CA : Nat → ClassId} (hK : va_K D vwCl (tyL CA) s) {sa : Nat → Nat} (hZ : xz (fun q => s.heap.size ≤ q) sa s s.heap) (hN : xn s) {b L : Nat} {xs : Nat → Int32} (hX : va_X b L xs s s.heap) (hbl : b < s.heap.size) (hL : L ≤ 2560) {qo xo mo : Nat} {i cells slots : Nat} (hi : i + 5 ≤ L) (hc : cells + 5 ≤ 601024) (hsl : slots + 33 ≤ 7293034) {g mg : Nat → Nat → Int32} {h : Nat → Nat → Nat} {jp pz ad am : Nat → Nat} {f9 : Nat → Int64} (sr : SR g mg h jp pz) (exo : ad 0 = xo) (emo : am 0 = mo)
    (kx : ∀ (H : Heap) (locs : List Loc), LwS D CA qo xo mo s.heap.size H → va_S (fun q => s.heap.size ≤ q) s.heap H locs → ∀ ls, lv_has ls 7 [(0, .ref b), (1, .ref xo), (2, .ref mo), (3, .ref qo), (4, .int (nI i))] → W p l e room_1 s m args below meth c H locs (cells + 5) (slots + 33) Q (F0 m 1318 ls [])) : ∀ (H : Heap) (locs : List Loc), va_P D vwCl (WD CA g h ad f9 mg am qo) H → va_D (fun q => s.heap.size ≤ q) (WD CA g h ad f9 mg am qo) → va_S (fun q => s.heap.size ≤ q) s.heap H locs → ∀ ls, lv_has ls 7 [(0, .ref b), (1, .ref xo), (2, .ref mo), (3, .ref qo), (4, .int (nI i))] → W p l e room_1 s m args below meth c H locs cells slots Q (F0 m 459 ls []) := by
  intro H locs hP hD hS ls hl
  refine lv_aload_n hx hb dL_law_459 rfl (lv_at hl 1 rfl) ?_
  refine lv_aload_n hx hb dL_law_460 rfl (lv_at hl 0 rfl) ?_
  refine lv_iload hx hb dL_law_461 (lv_at hl 4 rfl) ?_
  refine lv_iconst (v := 1) hx hb dL_law_463 (by decide) ?_
  refine lv_iadd hx hb dL_law_464 ?_
  refine W.eq (g2 := F0 m 465 ls [.int (nI (i + 1)), .ref b, .ref xo]) (by rw [show nI i + 1 = nI (i + 1) from nI_add i 1]) ?_
  refine va_sld hx hb hX hbl (show ¬ s.heap.size ≤ b by omega) hS (vp_in_nI (n := (i + 1)) (by omega) (by omega)) dL_law_465 ?_
  refine W.eq (g2 := F0 m 466 ls [.int (xs (i + 1)), .ref xo]) (by rw [nI_clamp (n := (i + 1)) (by omega)]) ?_
  refine lv_aload_n hx hb dL_law_466 rfl (lv_at hl 0 rfl) ?_
  refine lv_iload hx hb dL_law_467 (lv_at hl 4 rfl) ?_
  refine lv_iconst (v := 2) hx hb dL_law_469 (by decide) ?_
  refine lv_iadd hx hb dL_law_470 ?_
  refine W.eq (g2 := F0 m 471 ls [.int (nI (i + 2)), .ref b, .int (xs (i + 1)), .ref xo]) (by rw [show nI i + 2 = nI (i + 2) from nI_add i 2]) ?_
  refine va_sld hx hb hX hbl (show ¬ s.heap.size ≤ b by omega) hS (vp_in_nI (n := (i + 2)) (by omega) (by omega)) dL_law_471 ?_
  refine W.eq (g2 := F0 m 472 ls [.int (xs (i + 2)), .int (xs (i + 1)), .ref xo]) (by rw [nI_clamp (n := (i + 2)) (by omega)]) ?_
  refine kWr (n := 3) (D := D) (CA := CA) (wA := [(qo, oc (CA 4) f9)] ++ cw CA g h ad) (wB := mw CA mg am) (wd := (fun u : (Nat → Nat → Int32) × (Nat → Int64) => [(qo, oc (CA 4) u.2)] ++ cw CA u.1 h ad)) (A1 := lA h ad qo H.size) (As := [.ref (ad 0), .int (xs (i + 1)), .int (xs (i + 2))]) (rest := []) ⟨hx, hb, hml, hown, hT⟩ (kL_worn l hlt D CA g h ad H.size sa qo f9 (xs (i + 1)) (xs (i + 2)) sr.S.le sr.g0 (fun q hq => sr.M.k6 hq)) (gi_S wm_303 wm_304 wm_0 wm_305) rfl rfl (by decide +kernel) ⟨(Nat.le_of_ble_eq_true rfl), (Nat.le_of_ble_eq_true rfl)⟩ hZ hN hK hP hD hS (lA_A hD hS.1) lA_in rfl hl.1 (by rw [exo]; rfl) (Nat.le_of_ble_eq_true rfl) dL_law_472 ⟨by show cells + 2 ≤ 601024; omega, by show slots + 12 ≤ 7293034; omega⟩ (fun r9 u9 H locs hw9 hP hD hS => ?_)
  refine W.widen (k := cells + 5) (n := slots + 33) (by omega) (by omega) ?_
  refine lv_istore (lv' := [(5, .int r9), (0, .ref b), (1, .ref xo), (2, .ref mo), (3, .ref qo), (4, .int (nI i))]) hx hb dL_law_475 hl (by decide) rfl (fun ls hl => ?_)
  refine lv_aload_n hx hb dL_law_477 rfl (lv_at hl 3 rfl) ?_
  refine lv_aload_n hx hb dL_law_478 rfl (lv_at hl 1 rfl) ?_
  refine lv_iload hx hb dL_law_479 (lv_at hl 5 rfl) ?_
  refine lv_iconst (v := 1) hx hb dL_law_481 (by decide) ?_
  refine lv_iadd hx hb dL_law_482 ?_
  refine W.eq (g2 := F0 m 483 ls [.int (nI (i + 1)), .ref b, .ref mo]) (by rw [show nI i + 1 = nI (i + 1) from nI_add i 1]) ?_
  refine va_sld hx hb hX hbl (show ¬ s.heap.size ≤ b by omega) hS (vp_in_nI (n := (i + 1)) (by omega) (by omega)) dL_law_483 ?_
  refine W.eq (g2 := F0 m 484 ls [.int (xs (i + 1)), .ref mo]) (by rw [nI_clamp (n := (i + 1)) (by omega)]) ?_
  refine lv_aload_n hx hb dL_law_484 rfl (lv_at hl 1 rfl) ?_
  refine lv_iload hx hb dL_law_485 (lv_at hl 5 rfl) ?_
  refine lv_iconst (v := 2) hx hb dL_law_487 (by decide) ?_
  refine lv_iadd hx hb dL_law_488 ?_
  refine W.eq (g2 := F0 m 489 ls [.int (nI (i + 2)), .ref b, .int (xs (i + 1)), .ref mo]) (by rw [show nI i + 2 = nI (i + 2) from nI_add i 2]) ?_
  refine va_sld hx hb hX hbl (show ¬ s.heap.size ≤ b by omega) hS (vp_in_nI (n := (i + 2)) (by omega) (by omega)) dL_law_489 ?_
  refine W.eq (g2 := F0 m 490 ls [.int (xs (i + 2)), .int (xs (i + 1)), .ref mo]) (by rw [nI_clamp (n := (i + 2)) (by omega)]) ?_
  refine kRv (n := 2) (D := D) (CA := CA) (wA := mw CA mg am) (wB := [(qo, oc (CA 4) u9.2)] ++ cw CA u9.1 h ad) (wd := fun u => mw CA u am) (A1 := mA am H.size) (As := [.int (xs (i + 1)), .int (xs (i + 2))]) (rest := []) ⟨hx, hb, hml, hown, hT⟩ (kM_worn l D CA mg am H.size h jp sr.M (xs (i + 1)) (xs (i + 2))) (gi_V wm_593 wm_594 wm_595 wm_4 wm_596) rfl rfl (by decide +kernel) ⟨(Nat.le_of_ble_eq_true rfl), (Nat.le_of_ble_eq_true rfl)⟩ (va_recv hK (P_r hP) (ci := 4) (q0 := 0) rfl mw_O) hK hP hD hS (mA_A hD hS.1) (nA_in (c := mc CA mg am)) rfl hl.1 (by rw [emo]; rfl) (Nat.le_of_ble_eq_true rfl) dL_law_490 ⟨by show cells + 5 + 0 ≤ 601024; omega, by show slots + 33 + 0 ≤ 7293034; omega⟩ (fun um H locs ht9 hP hD hS => ?_)
  refine lv_aload_n hx hb dL_law_493 rfl (lv_at hl 3 rfl) ?_
  refine kRi (n := 0) (D := D) (CA := CA) (wA := mw CA um am) (wB := [(qo, oc (CA 4) u9.2)] ++ cw CA u9.1 h ad) (wd := fun u => mw CA u am) (A1 := mA am H.size) (As := []) (rest := []) ⟨hx, hb, hml, hown, hT⟩ (kM_thrown l D CA um am H.size) (gi_V wm_563 wm_564 wm_565 wm_4 wm_566) rfl rfl (by decide +kernel) ⟨(Nat.le_of_ble_eq_true rfl), (Nat.le_of_ble_eq_true rfl)⟩ (va_recv hK (P_r hP) (ci := 4) (q0 := 0) rfl mw_O) hK hP hD hS (mA_A hD hS.1) (nA_in (c := mc CA um am)) rfl hl.1 (by rw [emo]; rfl) (Nat.le_of_ble_eq_true rfl) dL_law_494 ⟨by show cells + 5 + 0 ≤ 601024; omega, by show slots + 33 + 0 ≤ 7293034; omega⟩ (fun r8 u8 H locs h8 hP hD hS => ?_)
  obtain ⟨e8, hu8⟩ := h8
  rw [hu8] at hP hD
  have hJ := J_worn sr hw9 ht9
  have e7 : r8 = r9 := by rw [e8]; exact hJ.1
  refine lv_iload hx hb dL_law_497 (lv_at hl 0 rfl) ?_
  refine lv_icmp_eq (tgt := 504) hx hb dL_law_499 (by decide) (fun c_1 => ?_) (fun c_1 => absurd e7 c_1)
  refine lv_goto (tgt := 1318) hx hb dL_law_504 (by decide) ?_
  exact kx H locs ⟨_, _, h, jp, pz, ad, am, _, hJ.2, exo, emo, hP, hD⟩ hS ls (lv_sub hl [1, 2, 3, 4, 5] rfl)
set_option maxHeartbeats 4000000 in
set_option maxRecDepth 100000 in
theorem lc_aged {p : Program} {l : Launch} {e : Env} {s : State} {m : MethodId} {args : Array Value} {below : List Frame} {meth : Method} {c : Code} {Q : State → Prop} (hlt : l.stackTraces = false) (hx : p.tables.exec = Jvm.exec) (hb : c.code = cL_law) (hml : c.maxLocals = 7) (hown : s.vm.findClass "CountLeastLaw" = some m.cls) (hT : ∀ w ∈ TB, w.before args s = true) {D : va_G} {CA : Nat → ClassId} (hK : va_K D vwCl (tyL CA) s) {sa : Nat → Nat} (hZ : xz (fun q => s.heap.size ≤ q) sa s s.heap) (hN : xn s) {b L : Nat} {xs : Nat → Int32} (hX : va_X b L xs s s.heap) (hbl : b < s.heap.size) (hL : L ≤ 2560) {qo xo mo : Nat} {i cells slots : Nat} (hi : i + 5 ≤ L) (hc : cells + 5 ≤ 601024) (hsl : slots + 33 ≤ 7293034) {g mg : Nat → Nat → Int32} {h : Nat → Nat → Nat} {jp pz ad am : Nat → Nat} {f9 : Nat → Int64} (sr : SR g mg h jp pz) (exo : ad 0 = xo) (emo : am 0 = mo)
    (kx : ∀ (H : Heap) (locs : List Loc), LwS D CA qo xo mo s.heap.size H → va_S (fun q => s.heap.size ≤ q) s.heap H locs → ∀ ls, lv_has ls 7 [(0, .ref b), (1, .ref xo), (2, .ref mo), (3, .ref qo), (4, .int (nI i))] → W p l e room_1 s m args below meth c H locs (cells + 5) (slots + 33) Q (F0 m 1318 ls [])) : ∀ (H : Heap) (locs : List Loc), va_P D vwCl (WD CA g h ad f9 mg am qo) H → va_D (fun q => s.heap.size ≤ q) (WD CA g h ad f9 mg am qo) → va_S (fun q => s.heap.size ≤ q) s.heap H locs → ∀ ls, lv_has ls 7 [(0, .ref b), (1, .ref xo), (2, .ref mo), (3, .ref qo), (4, .int (nI i))] → W p l e room_1 s m args below meth c H locs cells slots Q (F0 m 507 ls []) := by
  intro H locs hP hD hS ls hl
  refine lv_aload_n hx hb dL_law_507 rfl (lv_at hl 1 rfl) ?_
  refine lv_aload_n hx hb dL_law_508 rfl (lv_at hl 0 rfl) ?_
  refine lv_iload hx hb dL_law_509 (lv_at hl 4 rfl) ?_
  refine lv_iconst (v := 1) hx hb dL_law_511 (by decide) ?_
  refine lv_iadd hx hb dL_law_512 ?_
  refine W.eq (g2 := F0 m 513 ls [.int (nI (i + 1)), .ref b, .ref xo]) (by rw [show nI i + 1 = nI (i + 1) from nI_add i 1]) ?_
  refine va_sld hx hb hX hbl (show ¬ s.heap.size ≤ b by omega) hS (vp_in_nI (n := (i + 1)) (by omega) (by omega)) dL_law_513 ?_
  refine W.eq (g2 := F0 m 514 ls [.int (xs (i + 1)), .ref xo]) (by rw [nI_clamp (n := (i + 1)) (by omega)]) ?_
  refine lv_aload_n hx hb dL_law_514 rfl (lv_at hl 0 rfl) ?_
  refine lv_iload hx hb dL_law_515 (lv_at hl 4 rfl) ?_
  refine lv_iconst (v := 2) hx hb dL_law_517 (by decide) ?_
  refine lv_iadd hx hb dL_law_518 ?_
  refine W.eq (g2 := F0 m 519 ls [.int (nI (i + 2)), .ref b, .int (xs (i + 1)), .ref xo]) (by rw [show nI i + 2 = nI (i + 2) from nI_add i 2]) ?_
  refine va_sld hx hb hX hbl (show ¬ s.heap.size ≤ b by omega) hS (vp_in_nI (n := (i + 2)) (by omega) (by omega)) dL_law_519 ?_
  refine W.eq (g2 := F0 m 520 ls [.int (xs (i + 2)), .int (xs (i + 1)), .ref xo]) (by rw [nI_clamp (n := (i + 2)) (by omega)]) ?_
  refine lv_aload_n hx hb dL_law_520 rfl (lv_at hl 3 rfl) ?_
  refine kWr (n := 4) (D := D) (CA := CA) (wA := [(qo, oc (CA 4) f9)] ++ cw CA g h ad) (wB := mw CA mg am) (wd := (fun u : (Nat → Nat → Int32) × (Nat → Int64) => [(qo, oc (CA 4) u.2)] ++ cw CA u.1 h ad)) (A1 := lA h ad qo H.size) (As := [.ref (ad 0), .int (xs (i + 1)), .int (xs (i + 2)), .ref qo]) (rest := []) ⟨hx, hb, hml, hown, hT⟩ (kL_aged l hlt D CA g h ad H.size sa qo f9 (xs (i + 1)) (xs (i + 2)) sr.S.le sr.g0) (gi_S wm_315 wm_316 wm_0 wm_317) rfl rfl (by decide +kernel) ⟨(Nat.le_of_ble_eq_true rfl), (Nat.le_of_ble_eq_true rfl)⟩ hZ hN hK hP hD hS (lA_A hD hS.1) lA_in rfl hl.1 (by rw [exo]; rfl) (Nat.le_of_ble_eq_true rfl) dL_law_521 ⟨by show cells + 2 ≤ 601024; omega, by show slots + 12 ≤ 7293034; omega⟩ (fun r9 u9 H locs hw9 hP hD hS => ?_)
  refine W.widen (k := cells + 5) (n := slots + 33) (by omega) (by omega) ?_
  refine lv_istore (lv' := [(5, .int r9), (0, .ref b), (1, .ref xo), (2, .ref mo), (3, .ref qo), (4, .int (nI i))]) hx hb dL_law_524 hl (by decide) rfl (fun ls hl => ?_)
  refine lv_aload_n hx hb dL_law_526 rfl (lv_at hl 3 rfl) ?_
  refine lv_aload_n hx hb dL_law_527 rfl (lv_at hl 1 rfl) ?_
  refine lv_iload hx hb dL_law_528 (lv_at hl 5 rfl) ?_
  refine lv_iconst (v := 1) hx hb dL_law_530 (by decide) ?_
  refine lv_iadd hx hb dL_law_531 ?_
  refine W.eq (g2 := F0 m 532 ls [.int (nI (i + 1)), .ref b, .ref mo]) (by rw [show nI i + 1 = nI (i + 1) from nI_add i 1]) ?_
  refine va_sld hx hb hX hbl (show ¬ s.heap.size ≤ b by omega) hS (vp_in_nI (n := (i + 1)) (by omega) (by omega)) dL_law_532 ?_
  refine W.eq (g2 := F0 m 533 ls [.int (xs (i + 1)), .ref mo]) (by rw [nI_clamp (n := (i + 1)) (by omega)]) ?_
  refine lv_aload_n hx hb dL_law_533 rfl (lv_at hl 1 rfl) ?_
  refine lv_iload hx hb dL_law_534 (lv_at hl 5 rfl) ?_
  refine lv_iconst (v := 2) hx hb dL_law_536 (by decide) ?_
  refine lv_iadd hx hb dL_law_537 ?_
  refine W.eq (g2 := F0 m 538 ls [.int (nI (i + 2)), .ref b, .int (xs (i + 1)), .ref mo]) (by rw [show nI i + 2 = nI (i + 2) from nI_add i 2]) ?_
  refine va_sld hx hb hX hbl (show ¬ s.heap.size ≤ b by omega) hS (vp_in_nI (n := (i + 2)) (by omega) (by omega)) dL_law_538 ?_
  refine W.eq (g2 := F0 m 539 ls [.int (xs (i + 2)), .int (xs (i + 1)), .ref mo]) (by rw [nI_clamp (n := (i + 2)) (by omega)]) ?_
  refine kRi (n := 2) (D := D) (CA := CA) (wA := mw CA mg am) (wB := [(qo, oc (CA 4) u9.2)] ++ cw CA u9.1 h ad) (wd := fun u => mw CA u am) (A1 := mA am H.size) (As := [.int (xs (i + 1)), .int (xs (i + 2))]) (rest := []) ⟨hx, hb, hml, hown, hT⟩ (kM_aged l D CA mg am H.size h jp sr.M (xs (i + 1)) (xs (i + 2))) (gi_V wm_601 wm_602 wm_603 wm_4 wm_604) rfl rfl (by decide +kernel) ⟨(Nat.le_of_ble_eq_true rfl), (Nat.le_of_ble_eq_true rfl)⟩ (va_recv hK (P_r hP) (ci := 4) (q0 := 0) rfl mw_O) hK hP hD hS (mA_A hD hS.1) (nA_in (c := mc CA mg am)) rfl hl.1 (by rw [emo]; rfl) (Nat.le_of_ble_eq_true rfl) dL_law_539 ⟨by show cells + 5 + 0 ≤ 601024; omega, by show slots + 33 + 0 ≤ 7293034; omega⟩ (fun rm um H locs ht9 hP hD hS => ?_)
  refine lv_istore (lv' := [(6, .int rm), (5, .int r9), (0, .ref b), (1, .ref xo), (2, .ref mo), (3, .ref qo), (4, .int (nI i))]) hx hb dL_law_542 hl (by decide) rfl (fun ls hl => ?_)
  refine lv_aload_n hx hb dL_law_544 rfl (lv_at hl 4 rfl) ?_
  refine kRi (n := 0) (D := D) (CA := CA) (wA := mw CA um am) (wB := [(qo, oc (CA 4) u9.2)] ++ cw CA u9.1 h ad) (wd := fun u => mw CA u am) (A1 := mA am H.size) (As := []) (rest := []) ⟨hx, hb, hml, hown, hT⟩ (kM_thrown l D CA um am H.size) (gi_V wm_563 wm_564 wm_565 wm_4 wm_566) rfl rfl (by decide +kernel) ⟨(Nat.le_of_ble_eq_true rfl), (Nat.le_of_ble_eq_true rfl)⟩ (va_recv hK (P_r hP) (ci := 4) (q0 := 0) rfl mw_O) hK hP hD hS (mA_A hD hS.1) (nA_in (c := mc CA um am)) rfl hl.1 (by rw [emo]; rfl) (Nat.le_of_ble_eq_true rfl) dL_law_545 ⟨by show cells + 5 + 0 ≤ 601024; omega, by show slots + 33 + 0 ≤ 7293034; omega⟩ (fun r8 u8 H locs h8 hP hD hS => ?_)
  obtain ⟨e8, hu8⟩ := h8
  rw [hu8] at hP hD
  have hJ := J_aged sr hw9 ht9
  have e7 : r8 = r9 := by rw [e8]; exact hJ.1
  refine lv_iload hx hb dL_law_548 (lv_at hl 1 rfl) ?_
  refine lv_icmp_eq (tgt := 555) hx hb dL_law_550 (by decide) (fun c_1 => ?_) (fun c_1 => absurd e7 c_1)
  refine lv_iload hx hb dL_law_555 (lv_at hl 1 rfl) ?_
  refine lv_if_ne (tgt := 572) hx hb dL_law_557 (by decide) (fun c_2 => ?_) (fun c_2 => ?_)
  · refine lv_goto (tgt := 1318) hx hb dL_law_572 (by decide) ?_
    exact kx H locs ⟨_, _, h, jp, pz, ad, am, _, hJ.2.2, exo, emo, hP, hD⟩ hS ls (lv_sub hl [2, 3, 4, 5, 6] rfl)
  · refine lv_aload_n hx hb dL_law_560 rfl (lv_at hl 5 rfl) ?_
    refine lv_iconst (v := 0) hx hb dL_law_561 (by decide) ?_
    have hv9 := hJ.2.1 c_2
    refine va_lald (D := D) hx hb hK hP 0 4 rfl rfl (vp_in_nI (n := 0) (N := 1) (by decide) (by decide)) dL_law_562 ?_
    refine W.eq (g2 := F0 m 563 ls [.long (u9.2 0)]) rfl ?_
    refine lv_iload hx hb dL_law_563 (lv_at hl 0 rfl) ?_
    refine lv_i2l hx hb dL_law_565 rfl ?_
    refine W.lcmp hx hb dL_law_566 ?_
    refine lv_if_eq (tgt := 572) hx hb dL_law_567 (by decide) (fun c_3 => ?_) (fun c_3 => absurd (by rw [hv9]; exact lcmp0 _) c_3)
    refine lv_goto (tgt := 1318) hx hb dL_law_572 (by decide) ?_
    exact kx H locs ⟨_, _, h, jp, pz, ad, am, _, hJ.2.2, exo, emo, hP, hD⟩ hS ls (lv_sub hl [2, 3, 4, 5, 6] rfl)
