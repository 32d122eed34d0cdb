set_option maxHeartbeats 4000000 in
set_option maxRecDepth 100000 in
theorem lc_sum {p : Program} {l : Launch} {e : Env} {s : State} {m : MethodId} {args : Array Value} {below : List Frame} {meth : Method} {c : Code} {Q : State → Prop} (hlt : l.stackTraces = false) (hx : p.tables.exec = Jvm.exec) (hb : c.code = cL_law) (hml : c.maxLocals = 7) (hown : s.vm.findClass "CountLeastLaw" = some m.cls) (hT : ∀ w ∈ TB, w.before args s = true) {D : va_G} {CA : Nat → ClassId} (hK : va_K D vwCl (tyL CA) s) {sa : Nat → Nat} (hZ : xz (fun q => s.heap.size ≤ q) sa s s.heap) (hN : xn s) {b L : Nat} {xs : Nat → Int32} (hX : va_X b L xs s s.heap) (hbl : b < s.heap.size) (hL : L ≤ 2560) {qo xo mo : Nat} {i cells slots : Nat} (hi : i + 5 ≤ L) (hc : cells + 5 ≤ 601024) (hsl : slots + 33 ≤ 7293034) {g mg : Nat → Nat → Int32} {h : Nat → Nat → Nat} {jp pz ad am : Nat → Nat} {f9 : Nat → Int64} (sr : SR g mg h jp pz) (exo : ad 0 = xo) (emo : am 0 = mo)
    (kx : ∀ (H : Heap) (locs : List Loc), LwS D CA qo xo mo s.heap.size H → va_S (fun q => s.heap.size ≤ q) s.heap H locs → ∀ ls, lv_has ls 7 [(0, .ref b), (1, .ref xo), (2, .ref mo), (3, .ref qo), (4, .int (nI i))] → W p l e room_1 s m args below meth c H locs (cells + 5) (slots + 33) Q (F0 m 1318 ls [])) : ∀ (H : Heap) (locs : List Loc), va_P D vwCl (WD CA g h ad f9 mg am qo) H → va_D (fun q => s.heap.size ≤ q) (WD CA g h ad f9 mg am qo) → va_S (fun q => s.heap.size ≤ q) s.heap H locs → ∀ ls, lv_has ls 7 [(0, .ref b), (1, .ref xo), (2, .ref mo), (3, .ref qo), (4, .int (nI i))] → W p l e room_1 s m args below meth c H locs cells slots Q (F0 m 954 ls []) := by
  intro H locs hP hD hS ls hl
  refine lv_aload_n hx hb dL_law_954 rfl (lv_at hl 1 rfl) ?_
  refine lv_aload_n hx hb dL_law_955 rfl (lv_at hl 0 rfl) ?_
  refine lv_iload hx hb dL_law_956 (lv_at hl 4 rfl) ?_
  refine lv_iconst (v := 1) hx hb dL_law_958 (by decide) ?_
  refine lv_iadd hx hb dL_law_959 ?_
  refine W.eq (g2 := F0 m 960 ls [.int (nI (i + 1)), .ref b, .ref xo]) (by rw [show nI i + 1 = nI (i + 1) from nI_add i 1]) ?_
  refine va_sld hx hb hX hbl (show ¬ s.heap.size ≤ b by omega) hS (vp_in_nI (n := (i + 1)) (by omega) (by omega)) dL_law_960 ?_
  refine W.eq (g2 := F0 m 961 ls [.int (xs (i + 1)), .ref xo]) (by rw [nI_clamp (n := (i + 1)) (by omega)]) ?_
  refine lv_aload_n hx hb dL_law_961 rfl (lv_at hl 3 rfl) ?_
  refine kWr (n := 3) (D := D) (CA := CA) (wA := [(qo, oc (CA 4) f9)] ++ cw CA g h ad) (wB := mw CA mg am) (wd := (fun u : (Nat → Nat → Int32) × (Nat → Int64) => [(qo, oc (CA 4) u.2)] ++ cw CA u.1 h ad)) (A1 := lA h ad qo H.size) (As := [.ref (ad 0), .int (xs (i + 1)), .ref qo]) (rest := []) ⟨hx, hb, hml, hown, hT⟩ (kL_sum l hlt D CA g h ad H.size sa qo f9 (xs (i + 1)) jp sr.C) (gi_S wm_435 wm_436 wm_0 wm_437) rfl rfl (by decide +kernel) ⟨(Nat.le_of_ble_eq_true rfl), (Nat.le_of_ble_eq_true rfl)⟩ hZ hN hK hP hD hS (lA_A hD hS.1) lA_in rfl hl.1 (by rw [exo]; rfl) (Nat.le_of_ble_eq_true rfl) dL_law_962 ⟨by show cells + 1 ≤ 601024; omega, by show slots + 6 ≤ 7293034; omega⟩ (fun r9 u9 H locs hw9 hP hD hS => ?_)
  refine W.widen (k := cells + 5) (n := slots + 33) (by omega) (by omega) ?_
  refine lv_istore (lv' := [(5, .int r9), (0, .ref b), (1, .ref xo), (2, .ref mo), (3, .ref qo), (4, .int (nI i))]) hx hb dL_law_965 hl (by decide) rfl (fun ls hl => ?_)
  refine lv_aload_n hx hb dL_law_967 rfl (lv_at hl 3 rfl) ?_
  refine lv_aload_n hx hb dL_law_968 rfl (lv_at hl 1 rfl) ?_
  refine lv_iload hx hb dL_law_969 (lv_at hl 5 rfl) ?_
  refine lv_iconst (v := 1) hx hb dL_law_971 (by decide) ?_
  refine lv_iadd hx hb dL_law_972 ?_
  refine W.eq (g2 := F0 m 973 ls [.int (nI (i + 1)), .ref b, .ref mo]) (by rw [show nI i + 1 = nI (i + 1) from nI_add i 1]) ?_
  refine va_sld hx hb hX hbl (show ¬ s.heap.size ≤ b by omega) hS (vp_in_nI (n := (i + 1)) (by omega) (by omega)) dL_law_973 ?_
  refine W.eq (g2 := F0 m 974 ls [.int (xs (i + 1)), .ref mo]) (by rw [nI_clamp (n := (i + 1)) (by omega)]) ?_
  refine kRi (n := 1) (D := D) (CA := CA) (wA := mw CA mg am) (wB := [(qo, oc (CA 4) u9.2)] ++ cw CA u9.1 h ad) (wd := fun u => mw CA u am) (A1 := mA am H.size) (As := [.int (xs (i + 1))]) (rest := []) ⟨hx, hb, hml, hown, hT⟩ (kM_sum l D CA mg am H.size h jp sr.M (xs (i + 1))) (gi_V wm_661 wm_662 wm_663 wm_4 wm_664) rfl rfl (by decide +kernel) ⟨(Nat.le_of_ble_eq_true rfl), (Nat.le_of_ble_eq_true rfl)⟩ (va_recv hK (P_r hP) (ci := 4) (q0 := 0) rfl mw_O) hK hP hD hS (mA_A hD hS.1) (nA_in (c := mc CA mg am)) rfl hl.1 (by rw [emo]; rfl) (Nat.le_of_ble_eq_true rfl) dL_law_974 ⟨by show cells + 5 + 0 ≤ 601024; omega, by show slots + 33 + 0 ≤ 7293034; omega⟩ (fun rm um H locs ht9 hP hD hS => ?_)
  refine lv_istore (lv' := [(6, .int rm), (5, .int r9), (0, .ref b), (1, .ref xo), (2, .ref mo), (3, .ref qo), (4, .int (nI i))]) hx hb dL_law_977 hl (by decide) rfl (fun ls hl => ?_)
  refine lv_aload_n hx hb dL_law_979 rfl (lv_at hl 4 rfl) ?_
  refine kRi (n := 0) (D := D) (CA := CA) (wA := mw CA um am) (wB := [(qo, oc (CA 4) u9.2)] ++ cw CA u9.1 h ad) (wd := fun u => mw CA u am) (A1 := mA am H.size) (As := []) (rest := []) ⟨hx, hb, hml, hown, hT⟩ (kM_thrown l D CA um am H.size) (gi_V wm_563 wm_564 wm_565 wm_4 wm_566) rfl rfl (by decide +kernel) ⟨(Nat.le_of_ble_eq_true rfl), (Nat.le_of_ble_eq_true rfl)⟩ (va_recv hK (P_r hP) (ci := 4) (q0 := 0) rfl mw_O) hK hP hD hS (mA_A hD hS.1) (nA_in (c := mc CA um am)) rfl hl.1 (by rw [emo]; rfl) (Nat.le_of_ble_eq_true rfl) dL_law_980 ⟨by show cells + 5 + 0 ≤ 601024; omega, by show slots + 33 + 0 ≤ 7293034; omega⟩ (fun r8 u8 H locs h8 hP hD hS => ?_)
  obtain ⟨e8, hu8⟩ := h8
  rw [hu8] at hP hD
  have hJ := J_sum sr hw9 ht9
  have e7 : r8 = r9 := by rw [e8]; exact hJ.1
  refine lv_iload hx hb dL_law_983 (lv_at hl 1 rfl) ?_
  refine lv_icmp_eq (tgt := 990) hx hb dL_law_985 (by decide) (fun c_1 => ?_) (fun c_1 => absurd e7 c_1)
  refine lv_iload hx hb dL_law_990 (lv_at hl 1 rfl) ?_
  refine lv_if_ne (tgt := 1007) hx hb dL_law_992 (by decide) (fun c_2 => ?_) (fun c_2 => ?_)
  · refine lv_goto (tgt := 1318) hx hb dL_law_1007 (by decide) ?_
    exact kx H locs ⟨_, _, h, jp, pz, ad, am, _, hJ.2.2, exo, emo, hP, hD⟩ hS ls (lv_sub hl [2, 3, 4, 5, 6] rfl)
  · refine lv_aload_n hx hb dL_law_995 rfl (lv_at hl 5 rfl) ?_
    refine lv_iconst (v := 0) hx hb dL_law_996 (by decide) ?_
    have hv9 := hJ.2.1 c_2
    refine va_lald (D := D) hx hb hK hP 0 4 rfl rfl (vp_in_nI (n := 0) (N := 1) (by decide) (by decide)) dL_law_997 ?_
    refine W.eq (g2 := F0 m 998 ls [.long (u9.2 0)]) rfl ?_
    refine lv_iload hx hb dL_law_998 (lv_at hl 0 rfl) ?_
    refine lv_i2l hx hb dL_law_1000 rfl ?_
    refine W.lcmp hx hb dL_law_1001 ?_
    refine lv_if_eq (tgt := 1007) hx hb dL_law_1002 (by decide) (fun c_3 => ?_) (fun c_3 => absurd (by rw [hv9]; exact lcmp0 _) c_3)
    refine lv_goto (tgt := 1318) hx hb dL_law_1007 (by decide) ?_
    exact kx H locs ⟨_, _, h, jp, pz, ad, am, _, hJ.2.2, exo, emo, hP, hD⟩ hS ls (lv_sub hl [2, 3, 4, 5, 6] rfl)
set_option maxHeartbeats 4000000 in
set_option maxRecDepth 100000 in
theorem lc_share {p : Program} {l : Launch} {e : Env} {s : State} {m : MethodId} {args : Array Value} {below : List Frame} {meth : Method} {c : Code} {Q : State → Prop} (hlt : l.stackTraces = false) (hx : p.tables.exec = Jvm.exec) (hb : c.code = cL_law) (hml : c.maxLocals = 7) (hown : s.vm.findClass "CountLeastLaw" = some m.cls) (hT : ∀ w ∈ TB, w.before args s = true) {D : va_G} {CA : Nat → ClassId} (hK : va_K D vwCl (tyL CA) s) {sa : Nat → Nat} (hZ : xz (fun q => s.heap.size ≤ q) sa s s.heap) (hN : xn s) {b L : Nat} {xs : Nat → Int32} (hX : va_X b L xs s s.heap) (hbl : b < s.heap.size) (hL : L ≤ 2560) {qo xo mo : Nat} {i cells slots : Nat} (hi : i + 5 ≤ L) (hc : cells + 5 ≤ 601024) (hsl : slots + 33 ≤ 7293034) {g mg : Nat → Nat → Int32} {h : Nat → Nat → Nat} {jp pz ad am : Nat → Nat} {f9 : Nat → Int64} (sr : SR g mg h jp pz) (exo : ad 0 = xo) (emo : am 0 = mo)
    (kx : ∀ (H : Heap) (locs : List Loc), LwS D CA qo xo mo s.heap.size H → va_S (fun q => s.heap.size ≤ q) s.heap H locs → ∀ ls, lv_has ls 7 [(0, .ref b), (1, .ref xo), (2, .ref mo), (3, .ref qo), (4, .int (nI i))] → W p l e room_1 s m args below meth c H locs (cells + 5) (slots + 33) Q (F0 m 1318 ls [])) : ∀ (H : Heap) (locs : List Loc), va_P D vwCl (WD CA g h ad f9 mg am qo) H → va_D (fun q => s.heap.size ≤ q) (WD CA g h ad f9 mg am qo) → va_S (fun q => s.heap.size ≤ q) s.heap H locs → ∀ ls, lv_has ls 7 [(0, .ref b), (1, .ref xo), (2, .ref mo), (3, .ref qo), (4, .int (nI i))] → W p l e room_1 s m args below meth c H locs cells slots Q (F0 m 1010 ls []) := by
  intro H locs hP hD hS ls hl
  refine lv_aload_n hx hb dL_law_1010 rfl (lv_at hl 1 rfl) ?_
  refine lv_aload_n hx hb dL_law_1011 rfl (lv_at hl 0 rfl) ?_
  refine lv_iload hx hb dL_law_1012 (lv_at hl 4 rfl) ?_
  refine lv_iconst (v := 1) hx hb dL_law_1014 (by decide) ?_
  refine lv_iadd hx hb dL_law_1015 ?_
  refine W.eq (g2 := F0 m 1016 ls [.int (nI (i + 1)), .ref b, .ref xo]) (by rw [show nI i + 1 = nI (i + 1) from nI_add i 1]) ?_
  refine va_sld hx hb hX hbl (show ¬ s.heap.size ≤ b by omega) hS (vp_in_nI (n := (i + 1)) (by omega) (by omega)) dL_law_1016 ?_
  refine W.eq (g2 := F0 m 1017 ls [.int (xs (i + 1)), .ref xo]) (by rw [nI_clamp (n := (i + 1)) (by omega)]) ?_
  refine lv_aload_n hx hb dL_law_1017 rfl (lv_at hl 0 rfl) ?_
  refine lv_iload hx hb dL_law_1018 (lv_at hl 4 rfl) ?_
  refine lv_iconst (v := 2) hx hb dL_law_1020 (by decide) ?_
  refine lv_iadd hx hb dL_law_1021 ?_
  refine W.eq (g2 := F0 m 1022 ls [.int (nI (i + 2)), .ref b, .int (xs (i + 1)), .ref xo]) (by rw [show nI i + 2 = nI (i + 2) from nI_add i 2]) ?_
  refine va_sld hx hb hX hbl (show ¬ s.heap.size ≤ b by omega) hS (vp_in_nI (n := (i + 2)) (by omega) (by omega)) dL_law_1022 ?_
  refine W.eq (g2 := F0 m 1023 ls [.int (xs (i + 2)), .int (xs (i + 1)), .ref xo]) (by rw [nI_clamp (n := (i + 2)) (by omega)]) ?_
  refine lv_aload_n hx hb dL_law_1023 rfl (lv_at hl 3 rfl) ?_
  refine kWr (n := 4) (D := D) (CA := CA) (wA := [(qo, oc (CA 4) f9)] ++ cw CA g h ad) (wB := mw CA mg am) (wd := (fun u : (Nat → Nat → Int32) × (Nat → Int64) => [(qo, oc (CA 4) u.2)] ++ cw CA u.1 h ad)) (A1 := lA h ad qo H.size) (As := [.ref (ad 0), .int (xs (i + 1)), .int (xs (i + 2)), .ref qo]) (rest := []) ⟨hx, hb, hml, hown, hT⟩ (kL_share l hlt D CA g h ad H.size sa qo f9 (xs (i + 1)) (xs (i + 2)) jp sr.C) (gi_S wm_446 wm_447 wm_0 wm_448) rfl rfl (by decide +kernel) ⟨(Nat.le_of_ble_eq_true rfl), (Nat.le_of_ble_eq_true rfl)⟩ hZ hN hK hP hD hS (lA_A hD hS.1) lA_in rfl hl.1 (by rw [exo]; rfl) (Nat.le_of_ble_eq_true rfl) dL_law_1024 ⟨by show cells + 2 ≤ 601024; omega, by show slots + 12 ≤ 7293034; omega⟩ (fun r9 u9 H locs hw9 hP hD hS => ?_)
  refine W.widen (k := cells + 5) (n := slots + 33) (by omega) (by omega) ?_
  refine lv_istore (lv' := [(5, .int r9), (0, .ref b), (1, .ref xo), (2, .ref mo), (3, .ref qo), (4, .int (nI i))]) hx hb dL_law_1027 hl (by decide) rfl (fun ls hl => ?_)
  refine lv_aload_n hx hb dL_law_1029 rfl (lv_at hl 3 rfl) ?_
  refine lv_aload_n hx hb dL_law_1030 rfl (lv_at hl 1 rfl) ?_
  refine lv_iload hx hb dL_law_1031 (lv_at hl 5 rfl) ?_
  refine lv_iconst (v := 1) hx hb dL_law_1033 (by decide) ?_
  refine lv_iadd hx hb dL_law_1034 ?_
  refine W.eq (g2 := F0 m 1035 ls [.int (nI (i + 1)), .ref b, .ref mo]) (by rw [show nI i + 1 = nI (i + 1) from nI_add i 1]) ?_
  refine va_sld hx hb hX hbl (show ¬ s.heap.size ≤ b by omega) hS (vp_in_nI (n := (i + 1)) (by omega) (by omega)) dL_law_1035 ?_
  refine W.eq (g2 := F0 m 1036 ls [.int (xs (i + 1)), .ref mo]) (by rw [nI_clamp (n := (i + 1)) (by omega)]) ?_
  refine lv_aload_n hx hb dL_law_1036 rfl (lv_at hl 1 rfl) ?_
  refine lv_iload hx hb dL_law_1037 (lv_at hl 5 rfl) ?_
  refine lv_iconst (v := 2) hx hb dL_law_1039 (by decide) ?_
  refine lv_iadd hx hb dL_law_1040 ?_
  refine W.eq (g2 := F0 m 1041 ls [.int (nI (i + 2)), .ref b, .int (xs (i + 1)), .ref mo]) (by rw [show nI i + 2 = nI (i + 2) from nI_add i 2]) ?_
  refine va_sld hx hb hX hbl (show ¬ s.heap.size ≤ b by omega) hS (vp_in_nI (n := (i + 2)) (by omega) (by omega)) dL_law_1041 ?_
  refine W.eq (g2 := F0 m 1042 ls [.int (xs (i + 2)), .int (xs (i + 1)), .ref mo]) (by rw [nI_clamp (n := (i + 2)) (by omega)]) ?_
  refine kRi (n := 2) (D := D) (CA := CA) (wA := mw CA mg am) (wB := [(qo, oc (CA 4) u9.2)] ++ cw CA u9.1 h ad) (wd := fun u => mw CA u am) (A1 := mA am H.size) (As := [.int (xs (i + 1)), .int (xs (i + 2))]) (rest := []) ⟨hx, hb, hml, hown, hT⟩ (kM_share l D CA mg am H.size h jp sr.M (xs (i + 1)) (xs (i + 2))) (gi_V wm_665 wm_666 wm_667 wm_4 wm_668) rfl rfl (by decide +kernel) ⟨(Nat.le_of_ble_eq_true rfl), (Nat.le_of_ble_eq_true rfl)⟩ (va_recv hK (P_r hP) (ci := 4) (q0 := 0) rfl mw_O) hK hP hD hS (mA_A hD hS.1) (nA_in (c := mc CA mg am)) rfl hl.1 (by rw [emo]; rfl) (Nat.le_of_ble_eq_true rfl) dL_law_1042 ⟨by show cells + 5 + 0 ≤ 601024; omega, by show slots + 33 + 0 ≤ 7293034; omega⟩ (fun rm um H locs ht9 hP hD hS => ?_)
  refine lv_istore (lv' := [(6, .int rm), (5, .int r9), (0, .ref b), (1, .ref xo), (2, .ref mo), (3, .ref qo), (4, .int (nI i))]) hx hb dL_law_1045 hl (by decide) rfl (fun ls hl => ?_)
  refine lv_aload_n hx hb dL_law_1047 rfl (lv_at hl 4 rfl) ?_
  refine kRi (n := 0) (D := D) (CA := CA) (wA := mw CA um am) (wB := [(qo, oc (CA 4) u9.2)] ++ cw CA u9.1 h ad) (wd := fun u => mw CA u am) (A1 := mA am H.size) (As := []) (rest := []) ⟨hx, hb, hml, hown, hT⟩ (kM_thrown l D CA um am H.size) (gi_V wm_563 wm_564 wm_565 wm_4 wm_566) rfl rfl (by decide +kernel) ⟨(Nat.le_of_ble_eq_true rfl), (Nat.le_of_ble_eq_true rfl)⟩ (va_recv hK (P_r hP) (ci := 4) (q0 := 0) rfl mw_O) hK hP hD hS (mA_A hD hS.1) (nA_in (c := mc CA um am)) rfl hl.1 (by rw [emo]; rfl) (Nat.le_of_ble_eq_true rfl) dL_law_1048 ⟨by show cells + 5 + 0 ≤ 601024; omega, by show slots + 33 + 0 ≤ 7293034; omega⟩ (fun r8 u8 H locs h8 hP hD hS => ?_)
  obtain ⟨e8, hu8⟩ := h8
  rw [hu8] at hP hD
  have hJ := J_share sr hw9 ht9
  have e7 : r8 = r9 := by rw [e8]; exact hJ.1
  refine lv_iload hx hb dL_law_1051 (lv_at hl 1 rfl) ?_
  refine lv_icmp_eq (tgt := 1058) hx hb dL_law_1053 (by decide) (fun c_1 => ?_) (fun c_1 => absurd e7 c_1)
  refine lv_iload hx hb dL_law_1058 (lv_at hl 1 rfl) ?_
  refine lv_if_ne (tgt := 1075) hx hb dL_law_1060 (by decide) (fun c_2 => ?_) (fun c_2 => ?_)
  · refine lv_goto (tgt := 1318) hx hb dL_law_1075 (by decide) ?_
    exact kx H locs ⟨_, _, h, jp, pz, ad, am, _, hJ.2.2, exo, emo, hP, hD⟩ hS ls (lv_sub hl [2, 3, 4, 5, 6] rfl)
  · refine lv_aload_n hx hb dL_law_1063 rfl (lv_at hl 5 rfl) ?_
    refine lv_iconst (v := 0) hx hb dL_law_1064 (by decide) ?_
    have hv9 := hJ.2.1 c_2
    refine va_lald (D := D) hx hb hK hP 0 4 rfl rfl (vp_in_nI (n := 0) (N := 1) (by decide) (by decide)) dL_law_1065 ?_
    refine W.eq (g2 := F0 m 1066 ls [.long (u9.2 0)]) rfl ?_
    refine lv_iload hx hb dL_law_1066 (lv_at hl 0 rfl) ?_
    refine lv_i2l hx hb dL_law_1068 rfl ?_
    refine W.lcmp hx hb dL_law_1069 ?_
    refine lv_if_eq (tgt := 1075) hx hb dL_law_1070 (by decide) (fun c_3 => ?_) (fun c_3 => absurd (by rw [hv9]; exact lcmp0 _) c_3)
    refine lv_goto (tgt := 1318) hx hb dL_law_1075 (by decide) ?_
    exact kx H locs ⟨_, _, h, jp, pz, ad, am, _, hJ.2.2, exo, emo, hP, hD⟩ hS ls (lv_sub hl [2, 3, 4, 5, 6] rfl)
set_option maxHeartbeats 4000000 in
set_option maxRecDepth 100000 in
theorem lc_sieve {p : Program} {l : Launch} {e : Env} {s : State} {m : MethodId} {args : Array Value} {below : List Frame} {meth : Method} {c : Code} {Q : State → Prop} (hlt : l.stackTraces = false) (hx : p.tables.exec = Jvm.exec) (hb : c.code = cL_law) (hml : c.maxLocals = 7) (hown : s.vm.findClass "CountLeastLaw" = some m.cls) (hT : ∀ w ∈ TB, w.before args s = true) {D : va_G} {CA : Nat → ClassId} (hK : va_K D vwCl (tyL CA) s) {sa : Nat → Nat} (hZ : xz (fun q => s.heap.size ≤ q) sa s s.heap) (hN : xn s) {b L : Nat} {xs : Nat → Int32} (hX : va_X b L xs s s.heap) (hbl : b < s.heap.size) (hL : L ≤ 2560) {qo xo mo : Nat} {i cells slots : Nat} (hi : i + 5 ≤ L) (hc : cells + 5 ≤ 601024) (hsl : slots + 33 ≤ 7293034) {g mg : Nat → Nat → Int32} {h : Nat → Nat → Nat} {jp pz ad am : Nat → Nat} {f9 : Nat → Int64} (sr : SR g mg h jp pz) (exo : ad 0 = xo) (emo : am 0 = mo)
    (kx : ∀ (H : Heap) (locs : List Loc), LwS D CA qo xo mo s.heap.size H → va_S (fun q => s.heap.size ≤ q) s.heap H locs → ∀ ls, lv_has ls 7 [(0, .ref b), (1, .ref xo), (2, .ref mo), (3, .ref qo), (4, .int (nI i))] → W p l e room_1 s m args below meth c H locs (cells + 5) (slots + 33) Q (F0 m 1318 ls [])) : ∀ (H : Heap) (locs : List Loc), va_P D vwCl (WD CA g h ad f9 mg am qo) H → va_D (fun q => s.heap.size ≤ q) (WD CA g h ad f9 mg am qo) → va_S (fun q => s.heap.size ≤ q) s.heap H locs → ∀ ls, lv_has ls 7 [(0, .ref b), (1, .ref xo), (2, .ref mo), (3, .ref qo), (4, .int (nI i))] → W p l e room_1 s m args below meth c H locs cells slots Q (F0 m 1078 ls []) := by
  intro H locs hP hD hS ls hl
  refine lv_aload_n hx hb dL_law_1078 rfl (lv_at hl 1 rfl) ?_
  refine lv_aload_n hx hb dL_law_1079 rfl (lv_at hl 0 rfl) ?_
  refine lv_iload hx hb dL_law_1080 (lv_at hl 4 rfl) ?_
  refine lv_iconst (v := 1) hx hb dL_law_1082 (by decide) ?_
  refine lv_iadd hx hb dL_law_1083 ?_
  refine W.eq (g2 := F0 m 1084 ls [.int (nI (i + 1)), .ref b, .ref xo]) (by rw [show nI i + 1 = nI (i + 1) from nI_add i 1]) ?_
  refine va_sld hx hb hX hbl (show ¬ s.heap.size ≤ b by omega) hS (vp_in_nI (n := (i + 1)) (by omega) (by omega)) dL_law_1084 ?_
  refine W.eq (g2 := F0 m 1085 ls [.int (xs (i + 1)), .ref xo]) (by rw [nI_clamp (n := (i + 1)) (by omega)]) ?_
  refine lv_aload_n hx hb dL_law_1085 rfl (lv_at hl 0 rfl) ?_
  refine lv_iload hx hb dL_law_1086 (lv_at hl 4 rfl) ?_
  refine lv_iconst (v := 2) hx hb dL_law_1088 (by decide) ?_
  refine lv_iadd hx hb dL_law_1089 ?_
  refine W.eq (g2 := F0 m 1090 ls [.int (nI (i + 2)), .ref b, .int (xs (i + 1)), .ref xo]) (by rw [show nI i + 2 = nI (i + 2) from nI_add i 2]) ?_
  refine va_sld hx hb hX hbl (show ¬ s.heap.size ≤ b by omega) hS (vp_in_nI (n := (i + 2)) (by omega) (by omega)) dL_law_1090 ?_
  refine W.eq (g2 := F0 m 1091 ls [.int (xs (i + 2)), .int (xs (i + 1)), .ref xo]) (by rw [nI_clamp (n := (i + 2)) (by omega)]) ?_
  refine lv_aload_n hx hb dL_law_1091 rfl (lv_at hl 0 rfl) ?_
  refine lv_iload hx hb dL_law_1092 (lv_at hl 4 rfl) ?_
  refine lv_iconst (v := 3) hx hb dL_law_1094 (by decide) ?_
  refine lv_iadd hx hb dL_law_1095 ?_
  refine W.eq (g2 := F0 m 1096 ls [.int (nI (i + 3)), .ref b, .int (xs (i + 2)), .int (xs (i + 1)), .ref xo]) (by rw [show nI i + 3 = nI (i + 3) from nI_add i 3]) ?_
  refine va_sld hx hb hX hbl (show ¬ s.heap.size ≤ b by omega) hS (vp_in_nI (n := (i + 3)) (by omega) (by omega)) dL_law_1096 ?_
  refine W.eq (g2 := F0 m 1097 ls [.int (xs (i + 3)), .int (xs (i + 2)), .int (xs (i + 1)), .ref xo]) (by rw [nI_clamp (n := (i + 3)) (by omega)]) ?_
  refine kWr (n := 4) (D := D) (CA := CA) (wA := [(qo, oc (CA 4) f9)] ++ cw CA g h ad) (wB := mw CA mg am) (wd := (fun u : (Nat → Nat → Int32) × (Nat → Int64) => [(qo, oc (CA 4) u.2)] ++ cw CA u.1 h ad)) (A1 := lA h ad qo H.size) (As := [.ref (ad 0), .int (xs (i + 1)), .int (xs (i + 2)), .int (xs (i + 3))]) (rest := []) ⟨hx, hb, hml, hown, hT⟩ (kL_sieve l hlt D CA g h ad H.size sa qo f9 (xs (i + 1)) (xs (i + 2)) (xs (i + 3))) (gi_S wm_462 wm_463 wm_0 wm_464) rfl rfl (by decide +kernel) ⟨(Nat.le_of_ble_eq_true rfl), (Nat.le_of_ble_eq_true rfl)⟩ hZ hN hK hP hD hS (lA_A hD hS.1) lA_in rfl hl.1 (by rw [exo]; rfl) (Nat.le_of_ble_eq_true rfl) dL_law_1097 ⟨by show cells + 3 ≤ 601024; omega, by show slots + 18 ≤ 7293034; omega⟩ (fun r9 u9 H locs hw9 hP hD hS => ?_)
  refine W.widen (k := cells + 5) (n := slots + 33) (by omega) (by omega) ?_
  refine lv_istore (lv' := [(5, .int r9), (0, .ref b), (1, .ref xo), (2, .ref mo), (3, .ref qo), (4, .int (nI i))]) hx hb dL_law_1100 hl (by decide) rfl (fun ls hl => ?_)
  refine lv_aload_n hx hb dL_law_1102 rfl (lv_at hl 3 rfl) ?_
  refine lv_aload_n hx hb dL_law_1103 rfl (lv_at hl 1 rfl) ?_
  refine lv_iload hx hb dL_law_1104 (lv_at hl 5 rfl) ?_
  refine lv_iconst (v := 1) hx hb dL_law_1106 (by decide) ?_
  refine lv_iadd hx hb dL_law_1107 ?_
  refine W.eq (g2 := F0 m 1108 ls [.int (nI (i + 1)), .ref b, .ref mo]) (by rw [show nI i + 1 = nI (i + 1) from nI_add i 1]) ?_
  refine va_sld hx hb hX hbl (show ¬ s.heap.size ≤ b by omega) hS (vp_in_nI (n := (i + 1)) (by omega) (by omega)) dL_law_1108 ?_
  refine W.eq (g2 := F0 m 1109 ls [.int (xs (i + 1)), .ref mo]) (by rw [nI_clamp (n := (i + 1)) (by omega)]) ?_
  refine lv_aload_n hx hb dL_law_1109 rfl (lv_at hl 1 rfl) ?_
  refine lv_iload hx hb dL_law_1110 (lv_at hl 5 rfl) ?_
  refine lv_iconst (v := 2) hx hb dL_law_1112 (by decide) ?_
  refine lv_iadd hx hb dL_law_1113 ?_
  refine W.eq (g2 := F0 m 1114 ls [.int (nI (i + 2)), .ref b, .int (xs (i + 1)), .ref mo]) (by rw [show nI i + 2 = nI (i + 2) from nI_add i 2]) ?_
  refine va_sld hx hb hX hbl (show ¬ s.heap.size ≤ b by omega) hS (vp_in_nI (n := (i + 2)) (by omega) (by omega)) dL_law_1114 ?_
  refine W.eq (g2 := F0 m 1115 ls [.int (xs (i + 2)), .int (xs (i + 1)), .ref mo]) (by rw [nI_clamp (n := (i + 2)) (by omega)]) ?_
  refine lv_aload_n hx hb dL_law_1115 rfl (lv_at hl 1 rfl) ?_
  refine lv_iload hx hb dL_law_1116 (lv_at hl 5 rfl) ?_
  refine lv_iconst (v := 3) hx hb dL_law_1118 (by decide) ?_
  refine lv_iadd hx hb dL_law_1119 ?_
  refine W.eq (g2 := F0 m 1120 ls [.int (nI (i + 3)), .ref b, .int (xs (i + 2)), .int (xs (i + 1)), .ref mo]) (by rw [show nI i + 3 = nI (i + 3) from nI_add i 3]) ?_
  refine va_sld hx hb hX hbl (show ¬ s.heap.size ≤ b by omega) hS (vp_in_nI (n := (i + 3)) (by omega) (by omega)) dL_law_1120 ?_
  refine W.eq (g2 := F0 m 1121 ls [.int (xs (i + 3)), .int (xs (i + 2)), .int (xs (i + 1)), .ref mo]) (by rw [nI_clamp (n := (i + 3)) (by omega)]) ?_
  refine kRv (n := 3) (D := D) (CA := CA) (wA := mw CA mg am) (wB := [(qo, oc (CA 4) u9.2)] ++ cw CA u9.1 h ad) (wd := fun u => mw CA u am) (A1 := mA am H.size) (As := [.int (xs (i + 1)), .int (xs (i + 2)), .int (xs (i + 3))]) (rest := []) ⟨hx, hb, hml, hown, hT⟩ (kM_sieve l D CA mg am H.size (xs (i + 1)) (xs (i + 2)) (xs (i + 3))) (gi_V wm_673 wm_674 wm_675 wm_4 wm_676) rfl rfl (by decide +kernel) ⟨(Nat.le_of_ble_eq_true rfl), (Nat.le_of_ble_eq_true rfl)⟩ (va_recv hK (P_r hP) (ci := 4) (q0 := 0) rfl mw_O) hK hP hD hS (mA_A hD hS.1) (nA_in (c := mc CA mg am)) rfl hl.1 (by rw [emo]; rfl) (Nat.le_of_ble_eq_true rfl) dL_law_1121 ⟨by show cells + 5 + 0 ≤ 601024; omega, by show slots + 33 + 0 ≤ 7293034; omega⟩ (fun um H locs ht9 hP hD hS => ?_)
  refine lv_aload_n hx hb dL_law_1124 rfl (lv_at hl 3 rfl) ?_
  refine kRi (n := 0) (D := D) (CA := CA) (wA := mw CA um am) (wB := [(qo, oc (CA 4) u9.2)] ++ cw CA u9.1 h ad) (wd := fun u => mw CA u am) (A1 := mA am H.size) (As := []) (rest := []) ⟨hx, hb, hml, hown, hT⟩ (kM_thrown l D CA um am H.size) (gi_V wm_563 wm_564 wm_565 wm_4 wm_566) rfl rfl (by decide +kernel) ⟨(Nat.le_of_ble_eq_true rfl), (Nat.le_of_ble_eq_true rfl)⟩ (va_recv hK (P_r hP) (ci := 4) (q0 := 0) rfl mw_O) hK hP hD hS (mA_A hD hS.1) (nA_in (c := mc CA um am)) rfl hl.1 (by rw [emo]; rfl) (Nat.le_of_ble_eq_true rfl) dL_law_1125 ⟨by show cells + 5 + 0 ≤ 601024; omega, by show slots + 33 + 0 ≤ 7293034; omega⟩ (fun r8 u8 H locs h8 hP hD hS => ?_)
  obtain ⟨e8, hu8⟩ := h8
  rw [hu8] at hP hD
  have hJ := J_sieve sr hw9 ht9
  have e7 : r8 = r9 := by rw [e8]; exact hJ.1
  refine lv_iload hx hb dL_law_1128 (lv_at hl 0 rfl) ?_
  refine lv_icmp_eq (tgt := 1135) hx hb dL_law_1130 (by decide) (fun c_1 => ?_) (fun c_1 => absurd e7 c_1)
  refine lv_goto (tgt := 1318) hx hb dL_law_1135 (by decide) ?_
  exact kx H locs ⟨_, _, h, jp, pz, ad, am, _, hJ.2, exo, emo, hP, hD⟩ hS ls (lv_sub hl [1, 2, 3, 4, 5] rfl)
