set_option maxHeartbeats 4000000 in
set_option maxRecDepth 100000 in
theorem lc_bound {p : Program} {l : Launch} {e : Env} {s : State} {m : MethodId} {args : Array Value} {below : List Frame} {meth : Method} {c : Code} {Q : State → Prop} (hlt : l.stackTraces = false) (hx : p.tables.exec = Jvm.exec) (hb : c.code = cL_law) (hml : c.maxLocals = 7) (hown : s.vm.findClass "CountLeastLaw" = some m.cls) (hT : ∀ w ∈ TB, w.before args s = true) {D : va_G} {CA : Nat → ClassId} (hK : va_K D vwCl (tyL CA) s) {sa : Nat → Nat} (hZ : xz (fun q => s.heap.size ≤ q) sa s s.heap) (hN : xn s) {b L : Nat} {xs : Nat → Int32} (hX : va_X b L xs s s.heap) (hbl : b < s.heap.size) (hL : L ≤ 2560) {qo xo mo : Nat} {i cells slots : Nat} (hi : i + 5 ≤ L) (hc : cells + 5 ≤ 601024) (hsl : slots + 33 ≤ 7293034) {g mg : Nat → Nat → Int32} {h : Nat → Nat → Nat} {jp pz ad am : Nat → Nat} {f9 : Nat → Int64} (sr : SR g mg h jp pz) (exo : ad 0 = xo) (emo : am 0 = mo)
    (kx : ∀ (H : Heap) (locs : List Loc), LwS D CA qo xo mo s.heap.size H → va_S (fun q => s.heap.size ≤ q) s.heap H locs → ∀ ls, lv_has ls 7 [(0, .ref b), (1, .ref xo), (2, .ref mo), (3, .ref qo), (4, .int (nI i))] → W p l e room_1 s m args below meth c H locs (cells + 5) (slots + 33) Q (F0 m 1318 ls [])) : ∀ (H : Heap) (locs : List Loc), va_P D vwCl (WD CA g h ad f9 mg am qo) H → va_D (fun q => s.heap.size ≤ q) (WD CA g h ad f9 mg am qo) → va_S (fun q => s.heap.size ≤ q) s.heap H locs → ∀ ls, lv_has ls 7 [(0, .ref b), (1, .ref xo), (2, .ref mo), (3, .ref qo), (4, .int (nI i))] → W p l e room_1 s m args below meth c H locs cells slots Q (F0 m 319 ls []) := by
  intro H locs hP hD hS ls hl
  refine lv_aload_n hx hb dL_law_319 rfl (lv_at hl 1 rfl) ?_
  refine lv_aload_n hx hb dL_law_320 rfl (lv_at hl 0 rfl) ?_
  refine lv_iload hx hb dL_law_321 (lv_at hl 4 rfl) ?_
  refine lv_iconst (v := 1) hx hb dL_law_323 (by decide) ?_
  refine lv_iadd hx hb dL_law_324 ?_
  refine W.eq (g2 := F0 m 325 ls [.int (nI (i + 1)), .ref b, .ref xo]) (by rw [show nI i + 1 = nI (i + 1) from nI_add i 1]) ?_
  refine va_sld hx hb hX hbl (show ¬ s.heap.size ≤ b by omega) hS (vp_in_nI (n := (i + 1)) (by omega) (by omega)) dL_law_325 ?_
  refine W.eq (g2 := F0 m 326 ls [.int (xs (i + 1)), .ref xo]) (by rw [nI_clamp (n := (i + 1)) (by omega)]) ?_
  refine lv_aload_n hx hb dL_law_326 rfl (lv_at hl 0 rfl) ?_
  refine lv_iload hx hb dL_law_327 (lv_at hl 4 rfl) ?_
  refine lv_iconst (v := 2) hx hb dL_law_329 (by decide) ?_
  refine lv_iadd hx hb dL_law_330 ?_
  refine W.eq (g2 := F0 m 331 ls [.int (nI (i + 2)), .ref b, .int (xs (i + 1)), .ref xo]) (by rw [show nI i + 2 = nI (i + 2) from nI_add i 2]) ?_
  refine va_sld hx hb hX hbl (show ¬ s.heap.size ≤ b by omega) hS (vp_in_nI (n := (i + 2)) (by omega) (by omega)) dL_law_331 ?_
  refine W.eq (g2 := F0 m 332 ls [.int (xs (i + 2)), .int (xs (i + 1)), .ref xo]) (by rw [nI_clamp (n := (i + 2)) (by omega)]) ?_
  refine lv_aload_n hx hb dL_law_332 rfl (lv_at hl 3 rfl) ?_
  refine kWr (n := 4) (D := D) (CA := CA) (wA := [(qo, oc (CA 4) f9)] ++ cw CA g h ad) (wB := mw CA mg am) (wd := (fun u : (Nat → Nat → Int32) × (Nat → Int64) => [(qo, oc (CA 4) u.2)] ++ cw CA u.1 h ad)) (A1 := lA h ad qo H.size) (As := [.ref (ad 0), .int (xs (i + 1)), .int (xs (i + 2)), .ref qo]) (rest := []) ⟨hx, hb, hml, hown, hT⟩ (kL_bound l hlt D CA g h ad H.size sa qo f9 (xs (i + 1)) (xs (i + 2))) (gi_S wm_289 wm_290 wm_0 wm_291) rfl rfl (by decide +kernel) ⟨(Nat.le_of_ble_eq_true rfl), (Nat.le_of_ble_eq_true rfl)⟩ hZ hN hK hP hD hS (lA_A hD hS.1) lA_in rfl hl.1 (by rw [exo]; rfl) (Nat.le_of_ble_eq_true rfl) dL_law_333 ⟨by show cells + 2 ≤ 601024; omega, by show slots + 12 ≤ 7293034; omega⟩ (fun r9 u9 H locs hw9 hP hD hS => ?_)
  refine W.widen (k := cells + 5) (n := slots + 33) (by omega) (by omega) ?_
  refine lv_istore (lv' := [(5, .int r9), (0, .ref b), (1, .ref xo), (2, .ref mo), (3, .ref qo), (4, .int (nI i))]) hx hb dL_law_336 hl (by decide) rfl (fun ls hl => ?_)
  refine lv_aload_n hx hb dL_law_338 rfl (lv_at hl 3 rfl) ?_
  refine lv_aload_n hx hb dL_law_339 rfl (lv_at hl 1 rfl) ?_
  refine lv_iload hx hb dL_law_340 (lv_at hl 5 rfl) ?_
  refine lv_iconst (v := 1) hx hb dL_law_342 (by decide) ?_
  refine lv_iadd hx hb dL_law_343 ?_
  refine W.eq (g2 := F0 m 344 ls [.int (nI (i + 1)), .ref b, .ref mo]) (by rw [show nI i + 1 = nI (i + 1) from nI_add i 1]) ?_
  refine va_sld hx hb hX hbl (show ¬ s.heap.size ≤ b by omega) hS (vp_in_nI (n := (i + 1)) (by omega) (by omega)) dL_law_344 ?_
  refine W.eq (g2 := F0 m 345 ls [.int (xs (i + 1)), .ref mo]) (by rw [nI_clamp (n := (i + 1)) (by omega)]) ?_
  refine lv_aload_n hx hb dL_law_345 rfl (lv_at hl 1 rfl) ?_
  refine lv_iload hx hb dL_law_346 (lv_at hl 5 rfl) ?_
  refine lv_iconst (v := 2) hx hb dL_law_348 (by decide) ?_
  refine lv_iadd hx hb dL_law_349 ?_
  refine W.eq (g2 := F0 m 350 ls [.int (nI (i + 2)), .ref b, .int (xs (i + 1)), .ref mo]) (by rw [show nI i + 2 = nI (i + 2) from nI_add i 2]) ?_
  refine va_sld hx hb hX hbl (show ¬ s.heap.size ≤ b by omega) hS (vp_in_nI (n := (i + 2)) (by omega) (by omega)) dL_law_350 ?_
  refine W.eq (g2 := F0 m 351 ls [.int (xs (i + 2)), .int (xs (i + 1)), .ref mo]) (by rw [nI_clamp (n := (i + 2)) (by omega)]) ?_
  refine kRi (n := 2) (D := D) (CA := CA) (wA := mw CA mg am) (wB := [(qo, oc (CA 4) u9.2)] ++ cw CA u9.1 h ad) (wd := fun u => mw CA u am) (A1 := mA am H.size) (As := [.int (xs (i + 1)), .int (xs (i + 2))]) (rest := []) ⟨hx, hb, hml, hown, hT⟩ (kM_bound l D CA mg am H.size (xs (i + 1)) (xs (i + 2))) (gi_V wm_585 wm_586 wm_587 wm_4 wm_588) rfl rfl (by decide +kernel) ⟨(Nat.le_of_ble_eq_true rfl), (Nat.le_of_ble_eq_true rfl)⟩ (va_recv hK (P_r hP) (ci := 4) (q0 := 0) rfl mw_O) hK hP hD hS (mA_A hD hS.1) (nA_in (c := mc CA mg am)) rfl hl.1 (by rw [emo]; rfl) (Nat.le_of_ble_eq_true rfl) dL_law_351 ⟨by show cells + 5 + 0 ≤ 601024; omega, by show slots + 33 + 0 ≤ 7293034; omega⟩ (fun rm um H locs ht9 hP hD hS => ?_)
  refine lv_istore (lv' := [(6, .int rm), (5, .int r9), (0, .ref b), (1, .ref xo), (2, .ref mo), (3, .ref qo), (4, .int (nI i))]) hx hb dL_law_354 hl (by decide) rfl (fun ls hl => ?_)
  refine lv_aload_n hx hb dL_law_356 rfl (lv_at hl 4 rfl) ?_
  refine kRi (n := 0) (D := D) (CA := CA) (wA := mw CA um am) (wB := [(qo, oc (CA 4) u9.2)] ++ cw CA u9.1 h ad) (wd := fun u => mw CA u am) (A1 := mA am H.size) (As := []) (rest := []) ⟨hx, hb, hml, hown, hT⟩ (kM_thrown l D CA um am H.size) (gi_V wm_563 wm_564 wm_565 wm_4 wm_566) rfl rfl (by decide +kernel) ⟨(Nat.le_of_ble_eq_true rfl), (Nat.le_of_ble_eq_true rfl)⟩ (va_recv hK (P_r hP) (ci := 4) (q0 := 0) rfl mw_O) hK hP hD hS (mA_A hD hS.1) (nA_in (c := mc CA um am)) rfl hl.1 (by rw [emo]; rfl) (Nat.le_of_ble_eq_true rfl) dL_law_357 ⟨by show cells + 5 + 0 ≤ 601024; omega, by show slots + 33 + 0 ≤ 7293034; omega⟩ (fun r8 u8 H locs h8 hP hD hS => ?_)
  obtain ⟨e8, hu8⟩ := h8
  rw [hu8] at hP hD
  have hJ := J_bound sr hw9 ht9
  have e7 : r8 = r9 := by rw [e8]; exact hJ.1
  refine lv_iload hx hb dL_law_360 (lv_at hl 1 rfl) ?_
  refine lv_icmp_eq (tgt := 367) hx hb dL_law_362 (by decide) (fun c_1 => ?_) (fun c_1 => absurd e7 c_1)
  refine lv_iload hx hb dL_law_367 (lv_at hl 1 rfl) ?_
  refine lv_if_ne (tgt := 384) hx hb dL_law_369 (by decide) (fun c_2 => ?_) (fun c_2 => ?_)
  · refine lv_goto (tgt := 1318) hx hb dL_law_384 (by decide) ?_
    exact kx H locs ⟨_, _, h, jp, pz, ad, am, _, hJ.2.2, exo, emo, hP, hD⟩ hS ls (lv_sub hl [2, 3, 4, 5, 6] rfl)
  · refine lv_aload_n hx hb dL_law_372 rfl (lv_at hl 5 rfl) ?_
    refine lv_iconst (v := 0) hx hb dL_law_373 (by decide) ?_
    have hv9 := hJ.2.1 c_2
    refine va_lald (D := D) hx hb hK hP 0 4 rfl rfl (vp_in_nI (n := 0) (N := 1) (by decide) (by decide)) dL_law_374 ?_
    refine W.eq (g2 := F0 m 375 ls [.long (u9.2 0)]) rfl ?_
    refine lv_iload hx hb dL_law_375 (lv_at hl 0 rfl) ?_
    refine lv_i2l hx hb dL_law_377 rfl ?_
    refine W.lcmp hx hb dL_law_378 ?_
    refine lv_if_eq (tgt := 384) hx hb dL_law_379 (by decide) (fun c_3 => ?_) (fun c_3 => absurd (by rw [hv9]; exact lcmp0 _) c_3)
    refine lv_goto (tgt := 1318) hx hb dL_law_384 (by decide) ?_
    exact kx H locs ⟨_, _, h, jp, pz, ad, am, _, hJ.2.2, exo, emo, hP, hD⟩ hS ls (lv_sub hl [2, 3, 4, 5, 6] rfl)
