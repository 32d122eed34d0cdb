set_option maxHeartbeats 4000000 in
set_option maxRecDepth 100000 in
theorem lc_unsure {p : Program} {l : Launch} {e : Env} {s : State} {m : MethodId} {args : Array Value} {below : List Frame} {meth : Method} {c : Code} {Q : State → Prop} (hlt : l.stackTraces = false) (hx : p.tables.exec = Jvm.exec) (hb : c.code = cL_law) (hml : c.maxLocals = 7) (hown : s.vm.findClass "CountLeastLaw" = some m.cls) (hT : ∀ w ∈ TB, w.before args s = true) {D : va_G} {CA : Nat → ClassId} (hK : va_K D vwCl (tyL CA) s) {sa : Nat → Nat} (hZ : xz (fun q => s.heap.size ≤ q) sa s s.heap) (hN : xn s) {b L : Nat} {xs : Nat → Int32} (hX : va_X b L xs s s.heap) (hbl : b < s.heap.size) (hL : L ≤ 2560) {qo xo mo : Nat} {i cells slots : Nat} (hi : i + 5 ≤ L) (hc : cells + 5 ≤ 601024) (hsl : slots + 33 ≤ 7293034) {g mg : Nat → Nat → Int32} {h : Nat → Nat → Nat} {jp pz ad am : Nat → Nat} {f9 : Nat → Int64} (sr : SR g mg h jp pz) (exo : ad 0 = xo) (emo : am 0 = mo)
    (kx : ∀ (H : Heap) (locs : List Loc), LwS D CA qo xo mo s.heap.size H → va_S (fun q => s.heap.size ≤ q) s.heap H locs → ∀ ls, lv_has ls 7 [(0, .ref b), (1, .ref xo), (2, .ref mo), (3, .ref qo), (4, .int (nI i))] → W p l e room_1 s m args below meth c H locs (cells + 5) (slots + 33) Q (F0 m 1318 ls [])) : ∀ (H : Heap) (locs : List Loc), va_P D vwCl (WD CA g h ad f9 mg am qo) H → va_D (fun q => s.heap.size ≤ q) (WD CA g h ad f9 mg am qo) → va_S (fun q => s.heap.size ≤ q) s.heap H locs → ∀ ls, lv_has ls 7 [(0, .ref b), (1, .ref xo), (2, .ref mo), (3, .ref qo), (4, .int (nI i))] → W p l e room_1 s m args below meth c H locs cells slots Q (F0 m 575 ls []) := by
  intro H locs hP hD hS ls hl
  refine lv_aload_n hx hb dL_law_575 rfl (lv_at hl 1 rfl) ?_
  refine lv_aload_n hx hb dL_law_576 rfl (lv_at hl 0 rfl) ?_
  refine lv_iload hx hb dL_law_577 (lv_at hl 4 rfl) ?_
  refine lv_iconst (v := 1) hx hb dL_law_579 (by decide) ?_
  refine lv_iadd hx hb dL_law_580 ?_
  refine W.eq (g2 := F0 m 581 ls [.int (nI (i + 1)), .ref b, .ref xo]) (by rw [show nI i + 1 = nI (i + 1) from nI_add i 1]) ?_
  refine va_sld hx hb hX hbl (show ¬ s.heap.size ≤ b by omega) hS (vp_in_nI (n := (i + 1)) (by omega) (by omega)) dL_law_581 ?_
  refine W.eq (g2 := F0 m 582 ls [.int (xs (i + 1)), .ref xo]) (by rw [nI_clamp (n := (i + 1)) (by omega)]) ?_
  refine lv_aload_n hx hb dL_law_582 rfl (lv_at hl 3 rfl) ?_
  refine kWr (n := 3) (D := D) (CA := CA) (wA := [(qo, oc (CA 4) f9)] ++ cw CA g h ad) (wB := mw CA mg am) (wd := (fun u : (Nat → Nat → Int32) × (Nat → Int64) => [(qo, oc (CA 4) u.2)] ++ cw CA u.1 h ad)) (A1 := lA h ad qo H.size) (As := [.ref (ad 0), .int (xs (i + 1)), .ref qo]) (rest := []) ⟨hx, hb, hml, hown, hT⟩ (kL_unsure l hlt D CA g h ad H.size sa qo f9 (xs (i + 1)) sr.S.le sr.g0 (fun q hq => sr.M.k6 hq)) (gi_S wm_322 wm_323 wm_0 wm_324) rfl rfl (by decide +kernel) ⟨(Nat.le_of_ble_eq_true rfl), (Nat.le_of_ble_eq_true rfl)⟩ hZ hN hK hP hD hS (lA_A hD hS.1) lA_in rfl hl.1 (by rw [exo]; rfl) (Nat.le_of_ble_eq_true rfl) dL_law_583 ⟨by show cells + 1 ≤ 601024; omega, by show slots + 6 ≤ 7293034; omega⟩ (fun r9 u9 H locs hw9 hP hD hS => ?_)
  refine W.widen (k := cells + 5) (n := slots + 33) (by omega) (by omega) ?_
  refine lv_istore (lv' := [(5, .int r9), (0, .ref b), (1, .ref xo), (2, .ref mo), (3, .ref qo), (4, .int (nI i))]) hx hb dL_law_586 hl (by decide) rfl (fun ls hl => ?_)
  refine lv_aload_n hx hb dL_law_588 rfl (lv_at hl 3 rfl) ?_
  refine lv_aload_n hx hb dL_law_589 rfl (lv_at hl 1 rfl) ?_
  refine lv_iload hx hb dL_law_590 (lv_at hl 5 rfl) ?_
  refine lv_iconst (v := 1) hx hb dL_law_592 (by decide) ?_
  refine lv_iadd hx hb dL_law_593 ?_
  refine W.eq (g2 := F0 m 594 ls [.int (nI (i + 1)), .ref b, .ref mo]) (by rw [show nI i + 1 = nI (i + 1) from nI_add i 1]) ?_
  refine va_sld hx hb hX hbl (show ¬ s.heap.size ≤ b by omega) hS (vp_in_nI (n := (i + 1)) (by omega) (by omega)) dL_law_594 ?_
  refine W.eq (g2 := F0 m 595 ls [.int (xs (i + 1)), .ref mo]) (by rw [nI_clamp (n := (i + 1)) (by omega)]) ?_
  refine kRi (n := 1) (D := D) (CA := CA) (wA := mw CA mg am) (wB := [(qo, oc (CA 4) u9.2)] ++ cw CA u9.1 h ad) (wd := fun u => mw CA u am) (A1 := mA am H.size) (As := [.int (xs (i + 1))]) (rest := []) ⟨hx, hb, hml, hown, hT⟩ (kM_unsure l D CA mg am H.size h jp sr.M (xs (i + 1))) (gi_V wm_605 wm_606 wm_607 wm_4 wm_608) rfl rfl (by decide +kernel) ⟨(Nat.le_of_ble_eq_true rfl), (Nat.le_of_ble_eq_true rfl)⟩ (va_recv hK (P_r hP) (ci := 4) (q0 := 0) rfl mw_O) hK hP hD hS (mA_A hD hS.1) (nA_in (c := mc CA mg am)) rfl hl.1 (by rw [emo]; rfl) (Nat.le_of_ble_eq_true rfl) dL_law_595 ⟨by show cells + 5 + 0 ≤ 601024; omega, by show slots + 33 + 0 ≤ 7293034; omega⟩ (fun rm um H locs ht9 hP hD hS => ?_)
  refine lv_istore (lv' := [(6, .int rm), (5, .int r9), (0, .ref b), (1, .ref xo), (2, .ref mo), (3, .ref qo), (4, .int (nI i))]) hx hb dL_law_598 hl (by decide) rfl (fun ls hl => ?_)
  refine lv_aload_n hx hb dL_law_600 rfl (lv_at hl 4 rfl) ?_
  refine kRi (n := 0) (D := D) (CA := CA) (wA := mw CA um am) (wB := [(qo, oc (CA 4) u9.2)] ++ cw CA u9.1 h ad) (wd := fun u => mw CA u am) (A1 := mA am H.size) (As := []) (rest := []) ⟨hx, hb, hml, hown, hT⟩ (kM_thrown l D CA um am H.size) (gi_V wm_563 wm_564 wm_565 wm_4 wm_566) rfl rfl (by decide +kernel) ⟨(Nat.le_of_ble_eq_true rfl), (Nat.le_of_ble_eq_true rfl)⟩ (va_recv hK (P_r hP) (ci := 4) (q0 := 0) rfl mw_O) hK hP hD hS (mA_A hD hS.1) (nA_in (c := mc CA um am)) rfl hl.1 (by rw [emo]; rfl) (Nat.le_of_ble_eq_true rfl) dL_law_601 ⟨by show cells + 5 + 0 ≤ 601024; omega, by show slots + 33 + 0 ≤ 7293034; omega⟩ (fun r8 u8 H locs h8 hP hD hS => ?_)
  obtain ⟨e8, hu8⟩ := h8
  rw [hu8] at hP hD
  have hJ := J_unsure sr hw9 ht9
  have e7 : r8 = r9 := by rw [e8]; exact hJ.1
  refine lv_iload hx hb dL_law_604 (lv_at hl 1 rfl) ?_
  refine lv_icmp_eq (tgt := 611) hx hb dL_law_606 (by decide) (fun c_1 => ?_) (fun c_1 => absurd e7 c_1)
  refine lv_iload hx hb dL_law_611 (lv_at hl 1 rfl) ?_
  refine lv_if_ne (tgt := 635) hx hb dL_law_613 (by decide) (fun c_2 => ?_) (fun c_2 => ?_)
  · refine lv_goto (tgt := 1318) hx hb dL_law_635 (by decide) ?_
    exact kx H locs ⟨_, _, h, jp, pz, ad, am, _, hJ.2.2, exo, emo, hP, hD⟩ hS ls (lv_sub hl [2, 3, 4, 5, 6] rfl)
  · refine lv_aload_n hx hb dL_law_616 rfl (lv_at hl 5 rfl) ?_
    refine lv_iconst (v := 0) hx hb dL_law_617 (by decide) ?_
    have hv9 := hJ.2.1 c_2
    refine va_lald (D := D) hx hb hK hP 0 4 rfl rfl (vp_in_nI (n := 0) (N := 1) (by decide) (by decide)) dL_law_618 ?_
    refine W.eq (g2 := F0 m 619 ls [.long (u9.2 0)]) rfl ?_
    refine lv_iload hx hb dL_law_619 (lv_at hl 0 rfl) ?_
    refine lv_if_eq (tgt := 628) hx hb dL_law_621 (by decide) (fun c_3 => ?_) (fun c_3 => ?_)
    · refine lv_lconst (v := 0) hx hb dL_law_628 (by decide) ?_
      rw [if_pos c_3] at hv9
      refine W.lcmp hx hb dL_law_629 ?_
      refine lv_if_eq (tgt := 635) hx hb dL_law_630 (by decide) (fun c_4 => ?_) (fun c_4 => absurd (by rw [hv9]; exact lcmp0 _) c_4)
      refine lv_goto (tgt := 1318) hx hb dL_law_635 (by decide) ?_
      exact kx H locs ⟨_, _, h, jp, pz, ad, am, _, hJ.2.2, exo, emo, hP, hD⟩ hS ls (lv_sub hl [2, 3, 4, 5, 6] rfl)
    · refine lv_lconst (v := 1) hx hb dL_law_624 (by decide) ?_
      refine lv_goto (tgt := 629) hx hb dL_law_625 (by decide) ?_
      rw [if_neg c_3] at hv9
      refine W.lcmp hx hb dL_law_629 ?_
      refine lv_if_eq (tgt := 635) hx hb dL_law_630 (by decide) (fun c_5 => ?_) (fun c_5 => absurd (by rw [hv9]; exact lcmp0 _) c_5)
      refine lv_goto (tgt := 1318) hx hb dL_law_635 (by decide) ?_
      exact kx H locs ⟨_, _, h, jp, pz, ad, am, _, hJ.2.2, exo, emo, hP, hD⟩ hS ls (lv_sub hl [2, 3, 4, 5, 6] rfl)
set_option maxHeartbeats 4000000 in
set_option maxRecDepth 100000 in
theorem lc_clash {p : Program} {l : Launch} {e : Env} {s : State} {m : MethodId} {args : Array Value} {below : List Frame} {meth : Method} {c : Code} {Q : State → Prop} (hlt : l.stackTraces = false) (hx : p.tables.exec = Jvm.exec) (hb : c.code = cL_law) (hml : c.maxLocals = 7) (hown : s.vm.findClass "CountLeastLaw" = some m.cls) (hT : ∀ w ∈ TB, w.before args s = true) {D : va_G} {CA : Nat → ClassId} (hK : va_K D vwCl (tyL CA) s) {sa : Nat → Nat} (hZ : xz (fun q => s.heap.size ≤ q) sa s s.heap) (hN : xn s) {b L : Nat} {xs : Nat → Int32} (hX : va_X b L xs s s.heap) (hbl : b < s.heap.size) (hL : L ≤ 2560) {qo xo mo : Nat} {i cells slots : Nat} (hi : i + 5 ≤ L) (hc : cells + 5 ≤ 601024) (hsl : slots + 33 ≤ 7293034) {g mg : Nat → Nat → Int32} {h : Nat → Nat → Nat} {jp pz ad am : Nat → Nat} {f9 : Nat → Int64} (sr : SR g mg h jp pz) (exo : ad 0 = xo) (emo : am 0 = mo)
    (kx : ∀ (H : Heap) (locs : List Loc), LwS D CA qo xo mo s.heap.size H → va_S (fun q => s.heap.size ≤ q) s.heap H locs → ∀ ls, lv_has ls 7 [(0, .ref b), (1, .ref xo), (2, .ref mo), (3, .ref qo), (4, .int (nI i))] → W p l e room_1 s m args below meth c H locs (cells + 5) (slots + 33) Q (F0 m 1318 ls [])) : ∀ (H : Heap) (locs : List Loc), va_P D vwCl (WD CA g h ad f9 mg am qo) H → va_D (fun q => s.heap.size ≤ q) (WD CA g h ad f9 mg am qo) → va_S (fun q => s.heap.size ≤ q) s.heap H locs → ∀ ls, lv_has ls 7 [(0, .ref b), (1, .ref xo), (2, .ref mo), (3, .ref qo), (4, .int (nI i))] → W p l e room_1 s m args below meth c H locs cells slots Q (F0 m 638 ls []) := by
  intro H locs hP hD hS ls hl
  refine lv_aload_n hx hb dL_law_638 rfl (lv_at hl 1 rfl) ?_
  refine lv_aload_n hx hb dL_law_639 rfl (lv_at hl 0 rfl) ?_
  refine lv_iload hx hb dL_law_640 (lv_at hl 4 rfl) ?_
  refine lv_iconst (v := 1) hx hb dL_law_642 (by decide) ?_
  refine lv_iadd hx hb dL_law_643 ?_
  refine W.eq (g2 := F0 m 644 ls [.int (nI (i + 1)), .ref b, .ref xo]) (by rw [show nI i + 1 = nI (i + 1) from nI_add i 1]) ?_
  refine va_sld hx hb hX hbl (show ¬ s.heap.size ≤ b by omega) hS (vp_in_nI (n := (i + 1)) (by omega) (by omega)) dL_law_644 ?_
  refine W.eq (g2 := F0 m 645 ls [.int (xs (i + 1)), .ref xo]) (by rw [nI_clamp (n := (i + 1)) (by omega)]) ?_
  refine lv_aload_n hx hb dL_law_645 rfl (lv_at hl 0 rfl) ?_
  refine lv_iload hx hb dL_law_646 (lv_at hl 4 rfl) ?_
  refine lv_iconst (v := 2) hx hb dL_law_648 (by decide) ?_
  refine lv_iadd hx hb dL_law_649 ?_
  refine W.eq (g2 := F0 m 650 ls [.int (nI (i + 2)), .ref b, .int (xs (i + 1)), .ref xo]) (by rw [show nI i + 2 = nI (i + 2) from nI_add i 2]) ?_
  refine va_sld hx hb hX hbl (show ¬ s.heap.size ≤ b by omega) hS (vp_in_nI (n := (i + 2)) (by omega) (by omega)) dL_law_650 ?_
  refine W.eq (g2 := F0 m 651 ls [.int (xs (i + 2)), .int (xs (i + 1)), .ref xo]) (by rw [nI_clamp (n := (i + 2)) (by omega)]) ?_
  refine lv_aload_n hx hb dL_law_651 rfl (lv_at hl 3 rfl) ?_
  refine kWr (n := 4) (D := D) (CA := CA) (wA := [(qo, oc (CA 4) f9)] ++ cw CA g h ad) (wB := mw CA mg am) (wd := (fun u : (Nat → Nat → Int32) × (Nat → Int64) => [(qo, oc (CA 4) u.2)] ++ cw CA u.1 h ad)) (A1 := lA h ad qo H.size) (As := [.ref (ad 0), .int (xs (i + 1)), .int (xs (i + 2)), .ref qo]) (rest := []) ⟨hx, hb, hml, hown, hT⟩ (kL_clash l hlt D CA g h ad H.size sa qo f9 (xs (i + 1)) (xs (i + 2)) jp sr.C) (gi_S wm_329 wm_330 wm_0 wm_331) rfl rfl (by decide +kernel) ⟨(Nat.le_of_ble_eq_true rfl), (Nat.le_of_ble_eq_true rfl)⟩ hZ hN hK hP hD hS (lA_A hD hS.1) lA_in rfl hl.1 (by rw [exo]; rfl) (Nat.le_of_ble_eq_true rfl) dL_law_652 ⟨by show cells + 3 ≤ 601024; omega, by show slots + 18 ≤ 7293034; omega⟩ (fun r9 u9 H locs hw9 hP hD hS => ?_)
  refine W.widen (k := cells + 5) (n := slots + 33) (by omega) (by omega) ?_
  refine lv_istore (lv' := [(5, .int r9), (0, .ref b), (1, .ref xo), (2, .ref mo), (3, .ref qo), (4, .int (nI i))]) hx hb dL_law_655 hl (by decide) rfl (fun ls hl => ?_)
  refine lv_aload_n hx hb dL_law_657 rfl (lv_at hl 3 rfl) ?_
  refine lv_aload_n hx hb dL_law_658 rfl (lv_at hl 1 rfl) ?_
  refine lv_iload hx hb dL_law_659 (lv_at hl 5 rfl) ?_
  refine lv_iconst (v := 1) hx hb dL_law_661 (by decide) ?_
  refine lv_iadd hx hb dL_law_662 ?_
  refine W.eq (g2 := F0 m 663 ls [.int (nI (i + 1)), .ref b, .ref mo]) (by rw [show nI i + 1 = nI (i + 1) from nI_add i 1]) ?_
  refine va_sld hx hb hX hbl (show ¬ s.heap.size ≤ b by omega) hS (vp_in_nI (n := (i + 1)) (by omega) (by omega)) dL_law_663 ?_
  refine W.eq (g2 := F0 m 664 ls [.int (xs (i + 1)), .ref mo]) (by rw [nI_clamp (n := (i + 1)) (by omega)]) ?_
  refine lv_aload_n hx hb dL_law_664 rfl (lv_at hl 1 rfl) ?_
  refine lv_iload hx hb dL_law_665 (lv_at hl 5 rfl) ?_
  refine lv_iconst (v := 2) hx hb dL_law_667 (by decide) ?_
  refine lv_iadd hx hb dL_law_668 ?_
  refine W.eq (g2 := F0 m 669 ls [.int (nI (i + 2)), .ref b, .int (xs (i + 1)), .ref mo]) (by rw [show nI i + 2 = nI (i + 2) from nI_add i 2]) ?_
  refine va_sld hx hb hX hbl (show ¬ s.heap.size ≤ b by omega) hS (vp_in_nI (n := (i + 2)) (by omega) (by omega)) dL_law_669 ?_
  refine W.eq (g2 := F0 m 670 ls [.int (xs (i + 2)), .int (xs (i + 1)), .ref mo]) (by rw [nI_clamp (n := (i + 2)) (by omega)]) ?_
  refine kRi (n := 2) (D := D) (CA := CA) (wA := mw CA mg am) (wB := [(qo, oc (CA 4) u9.2)] ++ cw CA u9.1 h ad) (wd := fun u => mw CA u am) (A1 := mA am H.size) (As := [.int (xs (i + 1)), .int (xs (i + 2))]) (rest := []) ⟨hx, hb, hml, hown, hT⟩ (kM_clash l D CA mg am H.size h jp sr.M (xs (i + 1)) (xs (i + 2))) (gi_V wm_609 wm_610 wm_611 wm_4 wm_612) rfl rfl (by decide +kernel) ⟨(Nat.le_of_ble_eq_true rfl), (Nat.le_of_ble_eq_true rfl)⟩ (va_recv hK (P_r hP) (ci := 4) (q0 := 0) rfl mw_O) hK hP hD hS (mA_A hD hS.1) (nA_in (c := mc CA mg am)) rfl hl.1 (by rw [emo]; rfl) (Nat.le_of_ble_eq_true rfl) dL_law_670 ⟨by show cells + 5 + 0 ≤ 601024; omega, by show slots + 33 + 0 ≤ 7293034; omega⟩ (fun rm um H locs ht9 hP hD hS => ?_)
  refine lv_istore (lv' := [(6, .int rm), (5, .int r9), (0, .ref b), (1, .ref xo), (2, .ref mo), (3, .ref qo), (4, .int (nI i))]) hx hb dL_law_673 hl (by decide) rfl (fun ls hl => ?_)
  refine lv_aload_n hx hb dL_law_675 rfl (lv_at hl 4 rfl) ?_
  refine kRi (n := 0) (D := D) (CA := CA) (wA := mw CA um am) (wB := [(qo, oc (CA 4) u9.2)] ++ cw CA u9.1 h ad) (wd := fun u => mw CA u am) (A1 := mA am H.size) (As := []) (rest := []) ⟨hx, hb, hml, hown, hT⟩ (kM_thrown l D CA um am H.size) (gi_V wm_563 wm_564 wm_565 wm_4 wm_566) rfl rfl (by decide +kernel) ⟨(Nat.le_of_ble_eq_true rfl), (Nat.le_of_ble_eq_true rfl)⟩ (va_recv hK (P_r hP) (ci := 4) (q0 := 0) rfl mw_O) hK hP hD hS (mA_A hD hS.1) (nA_in (c := mc CA um am)) rfl hl.1 (by rw [emo]; rfl) (Nat.le_of_ble_eq_true rfl) dL_law_676 ⟨by show cells + 5 + 0 ≤ 601024; omega, by show slots + 33 + 0 ≤ 7293034; omega⟩ (fun r8 u8 H locs h8 hP hD hS => ?_)
  obtain ⟨e8, hu8⟩ := h8
  rw [hu8] at hP hD
  have hJ := J_clash sr hw9 ht9
  have e7 : r8 = r9 := by rw [e8]; exact hJ.1
  refine lv_iload hx hb dL_law_679 (lv_at hl 1 rfl) ?_
  refine lv_icmp_eq (tgt := 686) hx hb dL_law_681 (by decide) (fun c_1 => ?_) (fun c_1 => absurd e7 c_1)
  refine lv_iload hx hb dL_law_686 (lv_at hl 1 rfl) ?_
  refine lv_if_ne (tgt := 703) hx hb dL_law_688 (by decide) (fun c_2 => ?_) (fun c_2 => ?_)
  · refine lv_goto (tgt := 1318) hx hb dL_law_703 (by decide) ?_
    exact kx H locs ⟨_, _, h, jp, pz, ad, am, _, hJ.2.2, exo, emo, hP, hD⟩ hS ls (lv_sub hl [2, 3, 4, 5, 6] rfl)
  · refine lv_aload_n hx hb dL_law_691 rfl (lv_at hl 5 rfl) ?_
    refine lv_iconst (v := 0) hx hb dL_law_692 (by decide) ?_
    have hv9 := hJ.2.1 c_2
    refine va_lald (D := D) hx hb hK hP 0 4 rfl rfl (vp_in_nI (n := 0) (N := 1) (by decide) (by decide)) dL_law_693 ?_
    refine W.eq (g2 := F0 m 694 ls [.long (u9.2 0)]) rfl ?_
    refine lv_iload hx hb dL_law_694 (lv_at hl 0 rfl) ?_
    refine lv_i2l hx hb dL_law_696 rfl ?_
    refine W.lcmp hx hb dL_law_697 ?_
    refine lv_if_eq (tgt := 703) hx hb dL_law_698 (by decide) (fun c_3 => ?_) (fun c_3 => absurd (by rw [hv9]; exact lcmp0 _) c_3)
    refine lv_goto (tgt := 1318) hx hb dL_law_703 (by decide) ?_
    exact kx H locs ⟨_, _, h, jp, pz, ad, am, _, hJ.2.2, exo, emo, hP, hD⟩ hS ls (lv_sub hl [2, 3, 4, 5, 6] rfl)
set_option maxHeartbeats 4000000 in
set_option maxRecDepth 100000 in
theorem lc_least {p : Program} {l : Launch} {e : Env} {s : State} {m : MethodId} {args : Array Value} {below : List Frame} {meth : Method} {c : Code} {Q : State → Prop} (hlt : l.stackTraces = false) (hx : p.tables.exec = Jvm.exec) (hb : c.code = cL_law) (hml : c.maxLocals = 7) (hown : s.vm.findClass "CountLeastLaw" = some m.cls) (hT : ∀ w ∈ TB, w.before args s = true) {D : va_G} {CA : Nat → ClassId} (hK : va_K D vwCl (tyL CA) s) {sa : Nat → Nat} (hZ : xz (fun q => s.heap.size ≤ q) sa s s.heap) (hN : xn s) {b L : Nat} {xs : Nat → Int32} (hX : va_X b L xs s s.heap) (hbl : b < s.heap.size) (hL : L ≤ 2560) {qo xo mo : Nat} {i cells slots : Nat} (hi : i + 5 ≤ L) (hc : cells + 5 ≤ 601024) (hsl : slots + 33 ≤ 7293034) {g mg : Nat → Nat → Int32} {h : Nat → Nat → Nat} {jp pz ad am : Nat → Nat} {f9 : Nat → Int64} (sr : SR g mg h jp pz) (exo : ad 0 = xo) (emo : am 0 = mo)
    (kx : ∀ (H : Heap) (locs : List Loc), LwS D CA qo xo mo s.heap.size H → va_S (fun q => s.heap.size ≤ q) s.heap H locs → ∀ ls, lv_has ls 7 [(0, .ref b), (1, .ref xo), (2, .ref mo), (3, .ref qo), (4, .int (nI i))] → W p l e room_1 s m args below meth c H locs (cells + 5) (slots + 33) Q (F0 m 1318 ls [])) : ∀ (H : Heap) (locs : List Loc), va_P D vwCl (WD CA g h ad f9 mg am qo) H → va_D (fun q => s.heap.size ≤ q) (WD CA g h ad f9 mg am qo) → va_S (fun q => s.heap.size ≤ q) s.heap H locs → ∀ ls, lv_has ls 7 [(0, .ref b), (1, .ref xo), (2, .ref mo), (3, .ref qo), (4, .int (nI i))] → W p l e room_1 s m args below meth c H locs cells slots Q (F0 m 706 ls []) := by
  intro H locs hP hD hS ls hl
  refine lv_aload_n hx hb dL_law_706 rfl (lv_at hl 1 rfl) ?_
  refine lv_aload_n hx hb dL_law_707 rfl (lv_at hl 0 rfl) ?_
  refine lv_iload hx hb dL_law_708 (lv_at hl 4 rfl) ?_
  refine lv_iconst (v := 1) hx hb dL_law_710 (by decide) ?_
  refine lv_iadd hx hb dL_law_711 ?_
  refine W.eq (g2 := F0 m 712 ls [.int (nI (i + 1)), .ref b, .ref xo]) (by rw [show nI i + 1 = nI (i + 1) from nI_add i 1]) ?_
  refine va_sld hx hb hX hbl (show ¬ s.heap.size ≤ b by omega) hS (vp_in_nI (n := (i + 1)) (by omega) (by omega)) dL_law_712 ?_
  refine W.eq (g2 := F0 m 713 ls [.int (xs (i + 1)), .ref xo]) (by rw [nI_clamp (n := (i + 1)) (by omega)]) ?_
  refine lv_aload_n hx hb dL_law_713 rfl (lv_at hl 3 rfl) ?_
  refine kWr (n := 3) (D := D) (CA := CA) (wA := [(qo, oc (CA 4) f9)] ++ cw CA g h ad) (wB := mw CA mg am) (wd := (fun u : (Nat → Nat → Int32) × (Nat → Int64) => [(qo, oc (CA 4) u.2)] ++ cw CA u.1 h ad)) (A1 := lA h ad qo H.size) (As := [.ref (ad 0), .int (xs (i + 1)), .ref qo]) (rest := []) ⟨hx, hb, hml, hown, hT⟩ (kL_least l hlt D CA g h ad H.size sa qo f9 (xs (i + 1)) jp sr.C) (gi_S wm_352 wm_353 wm_0 wm_354) rfl rfl (by decide +kernel) ⟨(Nat.le_of_ble_eq_true rfl), (Nat.le_of_ble_eq_true rfl)⟩ hZ hN hK hP hD hS (lA_A hD hS.1) lA_in rfl hl.1 (by rw [exo]; rfl) (Nat.le_of_ble_eq_true rfl) dL_law_714 ⟨by show cells + 1 ≤ 601024; omega, by show slots + 6 ≤ 7293034; omega⟩ (fun r9 u9 H locs hw9 hP hD hS => ?_)
  refine W.widen (k := cells + 5) (n := slots + 33) (by omega) (by omega) ?_
  refine lv_istore (lv' := [(5, .int r9), (0, .ref b), (1, .ref xo), (2, .ref mo), (3, .ref qo), (4, .int (nI i))]) hx hb dL_law_717 hl (by decide) rfl (fun ls hl => ?_)
  refine lv_aload_n hx hb dL_law_719 rfl (lv_at hl 3 rfl) ?_
  refine lv_aload_n hx hb dL_law_720 rfl (lv_at hl 1 rfl) ?_
  refine lv_iload hx hb dL_law_721 (lv_at hl 5 rfl) ?_
  refine lv_iconst (v := 1) hx hb dL_law_723 (by decide) ?_
  refine lv_iadd hx hb dL_law_724 ?_
  refine W.eq (g2 := F0 m 725 ls [.int (nI (i + 1)), .ref b, .ref mo]) (by rw [show nI i + 1 = nI (i + 1) from nI_add i 1]) ?_
  refine va_sld hx hb hX hbl (show ¬ s.heap.size ≤ b by omega) hS (vp_in_nI (n := (i + 1)) (by omega) (by omega)) dL_law_725 ?_
  refine W.eq (g2 := F0 m 726 ls [.int (xs (i + 1)), .ref mo]) (by rw [nI_clamp (n := (i + 1)) (by omega)]) ?_
  refine kRi (n := 1) (D := D) (CA := CA) (wA := mw CA mg am) (wB := [(qo, oc (CA 4) u9.2)] ++ cw CA u9.1 h ad) (wd := fun u => mw CA u am) (A1 := mA am H.size) (As := [.int (xs (i + 1))]) (rest := []) ⟨hx, hb, hml, hown, hT⟩ (kM_least l D CA mg am H.size h jp sr.M (xs (i + 1))) (gi_V wm_617 wm_618 wm_619 wm_4 wm_620) rfl rfl (by decide +kernel) ⟨(Nat.le_of_ble_eq_true rfl), (Nat.le_of_ble_eq_true rfl)⟩ (va_recv hK (P_r hP) (ci := 4) (q0 := 0) rfl mw_O) hK hP hD hS (mA_A hD hS.1) (nA_in (c := mc CA mg am)) rfl hl.1 (by rw [emo]; rfl) (Nat.le_of_ble_eq_true rfl) dL_law_726 ⟨by show cells + 5 + 0 ≤ 601024; omega, by show slots + 33 + 0 ≤ 7293034; omega⟩ (fun rm um H locs ht9 hP hD hS => ?_)
  refine lv_istore (lv' := [(6, .int rm), (5, .int r9), (0, .ref b), (1, .ref xo), (2, .ref mo), (3, .ref qo), (4, .int (nI i))]) hx hb dL_law_729 hl (by decide) rfl (fun ls hl => ?_)
  refine lv_aload_n hx hb dL_law_731 rfl (lv_at hl 4 rfl) ?_
  refine kRi (n := 0) (D := D) (CA := CA) (wA := mw CA um am) (wB := [(qo, oc (CA 4) u9.2)] ++ cw CA u9.1 h ad) (wd := fun u => mw CA u am) (A1 := mA am H.size) (As := []) (rest := []) ⟨hx, hb, hml, hown, hT⟩ (kM_thrown l D CA um am H.size) (gi_V wm_563 wm_564 wm_565 wm_4 wm_566) rfl rfl (by decide +kernel) ⟨(Nat.le_of_ble_eq_true rfl), (Nat.le_of_ble_eq_true rfl)⟩ (va_recv hK (P_r hP) (ci := 4) (q0 := 0) rfl mw_O) hK hP hD hS (mA_A hD hS.1) (nA_in (c := mc CA um am)) rfl hl.1 (by rw [emo]; rfl) (Nat.le_of_ble_eq_true rfl) dL_law_732 ⟨by show cells + 5 + 0 ≤ 601024; omega, by show slots + 33 + 0 ≤ 7293034; omega⟩ (fun r8 u8 H locs h8 hP hD hS => ?_)
  obtain ⟨e8, hu8⟩ := h8
  rw [hu8] at hP hD
  have hJ := J_least sr hw9 ht9
  have e7 : r8 = r9 := by rw [e8]; exact hJ.1
  refine lv_iload hx hb dL_law_735 (lv_at hl 1 rfl) ?_
  refine lv_icmp_eq (tgt := 742) hx hb dL_law_737 (by decide) (fun c_1 => ?_) (fun c_1 => absurd e7 c_1)
  refine lv_iload hx hb dL_law_742 (lv_at hl 1 rfl) ?_
  refine lv_if_ne (tgt := 759) hx hb dL_law_744 (by decide) (fun c_2 => ?_) (fun c_2 => ?_)
  · refine lv_goto (tgt := 1318) hx hb dL_law_759 (by decide) ?_
    exact kx H locs ⟨_, _, h, jp, pz, ad, am, _, hJ.2.2, exo, emo, hP, hD⟩ hS ls (lv_sub hl [2, 3, 4, 5, 6] rfl)
  · refine lv_aload_n hx hb dL_law_747 rfl (lv_at hl 5 rfl) ?_
    refine lv_iconst (v := 0) hx hb dL_law_748 (by decide) ?_
    have hv9 := hJ.2.1 c_2
    refine va_lald (D := D) hx hb hK hP 0 4 rfl rfl (vp_in_nI (n := 0) (N := 1) (by decide) (by decide)) dL_law_749 ?_
    refine W.eq (g2 := F0 m 750 ls [.long (u9.2 0)]) rfl ?_
    refine lv_iload hx hb dL_law_750 (lv_at hl 0 rfl) ?_
    refine lv_i2l hx hb dL_law_752 rfl ?_
    refine W.lcmp hx hb dL_law_753 ?_
    refine lv_if_eq (tgt := 759) hx hb dL_law_754 (by decide) (fun c_3 => ?_) (fun c_3 => absurd (by rw [hv9]; exact lcmp0 _) c_3)
    refine lv_goto (tgt := 1318) hx hb dL_law_759 (by decide) ?_
    exact kx H locs ⟨_, _, h, jp, pz, ad, am, _, hJ.2.2, exo, emo, hP, hD⟩ hS ls (lv_sub hl [2, 3, 4, 5, 6] rfl)
