set_option maxHeartbeats 4000000 in
set_option maxRecDepth 100000 in
theorem lc_piece {p : Program} {l : Launch} {e : Env} {s : State} {m : MethodId} {args : Array Value} {below : List Frame} {meth : Method} {c : Code} {Q : State → Prop} (hlt : l.stackTraces = false) (hx : p.tables.exec = Jvm.exec) (hb : c.code = cL_law) (hml : c.maxLocals = 7) (hown : s.vm.findClass "CountLeastLaw" = some m.cls) (hT : ∀ w ∈ TB, w.before args s = true) {D : va_G} {CA : Nat → ClassId} (hK : va_K D vwCl (tyL CA) s) {sa : Nat → Nat} (hZ : xz (fun q => s.heap.size ≤ q) sa s s.heap) (hN : xn s) {b L : Nat} {xs : Nat → Int32} (hX : va_X b L xs s s.heap) (hbl : b < s.heap.size) (hL : L ≤ 2560) {qo xo mo : Nat} {i cells slots : Nat} (hi : i + 5 ≤ L) (hc : cells + 5 ≤ 601024) (hsl : slots + 33 ≤ 7293034) {g mg : Nat → Nat → Int32} {h : Nat → Nat → Nat} {jp pz ad am : Nat → Nat} {f9 : Nat → Int64} (sr : SR g mg h jp pz) (exo : ad 0 = xo) (emo : am 0 = mo)
    (kx : ∀ (H : Heap) (locs : List Loc), LwS D CA qo xo mo s.heap.size H → va_S (fun q => s.heap.size ≤ q) s.heap H locs → ∀ ls, lv_has ls 7 [(0, .ref b), (1, .ref xo), (2, .ref mo), (3, .ref qo), (4, .int (nI i))] → W p l e room_1 s m args below meth c H locs (cells + 5) (slots + 33) Q (F0 m 1318 ls [])) : ∀ (H : Heap) (locs : List Loc), va_P D vwCl (WD CA g h ad f9 mg am qo) H → va_D (fun q => s.heap.size ≤ q) (WD CA g h ad f9 mg am qo) → va_S (fun q => s.heap.size ≤ q) s.heap H locs → ∀ ls, lv_has ls 7 [(0, .ref b), (1, .ref xo), (2, .ref mo), (3, .ref qo), (4, .int (nI i))] → W p l e room_1 s m args below meth c H locs cells slots Q (F0 m 124 ls []) := by
  intro H locs hP hD hS ls hl
  refine lv_aload_n hx hb dL_law_124 rfl (lv_at hl 1 rfl) ?_
  refine lv_aload_n hx hb dL_law_125 rfl (lv_at hl 0 rfl) ?_
  refine lv_iload hx hb dL_law_126 (lv_at hl 4 rfl) ?_
  refine lv_iconst (v := 1) hx hb dL_law_128 (by decide) ?_
  refine lv_iadd hx hb dL_law_129 ?_
  refine W.eq (g2 := F0 m 130 ls [.int (nI (i + 1)), .ref b, .ref xo]) (by rw [show nI i + 1 = nI (i + 1) from nI_add i 1]) ?_
  refine va_sld hx hb hX hbl (show ¬ s.heap.size ≤ b by omega) hS (vp_in_nI (n := (i + 1)) (by omega) (by omega)) dL_law_130 ?_
  refine W.eq (g2 := F0 m 131 ls [.int (xs (i + 1)), .ref xo]) (by rw [nI_clamp (n := (i + 1)) (by omega)]) ?_
  refine lv_aload_n hx hb dL_law_131 rfl (lv_at hl 0 rfl) ?_
  refine lv_iload hx hb dL_law_132 (lv_at hl 4 rfl) ?_
  refine lv_iconst (v := 2) hx hb dL_law_134 (by decide) ?_
  refine lv_iadd hx hb dL_law_135 ?_
  refine W.eq (g2 := F0 m 136 ls [.int (nI (i + 2)), .ref b, .int (xs (i + 1)), .ref xo]) (by rw [show nI i + 2 = nI (i + 2) from nI_add i 2]) ?_
  refine va_sld hx hb hX hbl (show ¬ s.heap.size ≤ b by omega) hS (vp_in_nI (n := (i + 2)) (by omega) (by omega)) dL_law_136 ?_
  refine W.eq (g2 := F0 m 137 ls [.int (xs (i + 2)), .int (xs (i + 1)), .ref xo]) (by rw [nI_clamp (n := (i + 2)) (by omega)]) ?_
  refine lv_aload_n hx hb dL_law_137 rfl (lv_at hl 0 rfl) ?_
  refine lv_iload hx hb dL_law_138 (lv_at hl 4 rfl) ?_
  refine lv_iconst (v := 3) hx hb dL_law_140 (by decide) ?_
  refine lv_iadd hx hb dL_law_141 ?_
  refine W.eq (g2 := F0 m 142 ls [.int (nI (i + 3)), .ref b, .int (xs (i + 2)), .int (xs (i + 1)), .ref xo]) (by rw [show nI i + 3 = nI (i + 3) from nI_add i 3]) ?_
  refine va_sld hx hb hX hbl (show ¬ s.heap.size ≤ b by omega) hS (vp_in_nI (n := (i + 3)) (by omega) (by omega)) dL_law_142 ?_
  refine W.eq (g2 := F0 m 143 ls [.int (xs (i + 3)), .int (xs (i + 2)), .int (xs (i + 1)), .ref xo]) (by rw [nI_clamp (n := (i + 3)) (by omega)]) ?_
  refine lv_aload_n hx hb dL_law_143 rfl (lv_at hl 0 rfl) ?_
  refine lv_iload hx hb dL_law_144 (lv_at hl 4 rfl) ?_
  refine lv_iconst (v := 4) hx hb dL_law_146 (by decide) ?_
  refine lv_iadd hx hb dL_law_147 ?_
  refine W.eq (g2 := F0 m 148 ls [.int (nI (i + 4)), .ref b, .int (xs (i + 3)), .int (xs (i + 2)), .int (xs (i + 1)), .ref xo]) (by rw [show nI i + 4 = nI (i + 4) from nI_add i 4]) ?_
  refine va_sld hx hb hX hbl (show ¬ s.heap.size ≤ b by omega) hS (vp_in_nI (n := (i + 4)) (by omega) (by omega)) dL_law_148 ?_
  refine W.eq (g2 := F0 m 149 ls [.int (xs (i + 4)), .int (xs (i + 3)), .int (xs (i + 2)), .int (xs (i + 1)), .ref xo]) (by rw [nI_clamp (n := (i + 4)) (by omega)]) ?_
  refine lv_aload_n hx hb dL_law_149 rfl (lv_at hl 3 rfl) ?_
  refine kWr (n := 6) (D := D) (CA := CA) (wA := [(qo, oc (CA 4) f9)] ++ cw CA g h ad) (wB := mw CA mg am) (wd := (fun u : ((Nat → Nat → Int32) × (Nat → Nat → Nat) × (Nat → Nat)) × (Nat → Int64) => [(qo, oc (CA 4) u.2)] ++ cw CA u.1.1 u.1.2.1 u.1.2.2)) (A1 := lA h ad qo H.size) (As := [.ref (ad 0), .int (xs (i + 1)), .int (xs (i + 2)), .int (xs (i + 3)), .int (xs (i + 4)), .ref qo]) (rest := []) ⟨hx, hb, hml, hown, hT⟩ (kL_piece l hlt D CA g h ad H.size sa qo f9 (xs (i + 1)) (xs (i + 2)) (xs (i + 3)) (xs (i + 4)) jp sr.C sr.S.lt) (gi_S wm_110 wm_111 wm_0 wm_112) rfl rfl (by decide +kernel) ⟨(Nat.le_of_ble_eq_true rfl), (Nat.le_of_ble_eq_true rfl)⟩ hZ hN hK hP hD hS (lA_A hD hS.1) lA_in rfl hl.1 (by rw [exo]; rfl) (Nat.le_of_ble_eq_true rfl) dL_law_150 ⟨by show cells + 5 ≤ 601024; omega, by show slots + 33 ≤ 7293034; omega⟩ (fun r9 u9 H locs hw9 hP hD hS => ?_)
  refine W.widen (k := cells + 5) (n := slots + 33) (by omega) (by omega) ?_
  refine lv_istore (lv' := [(5, .int r9), (0, .ref b), (1, .ref xo), (2, .ref mo), (3, .ref qo), (4, .int (nI i))]) hx hb dL_law_153 hl (by decide) rfl (fun ls hl => ?_)
  refine lv_aload_n hx hb dL_law_155 rfl (lv_at hl 3 rfl) ?_
  refine lv_aload_n hx hb dL_law_156 rfl (lv_at hl 1 rfl) ?_
  refine lv_iload hx hb dL_law_157 (lv_at hl 5 rfl) ?_
  refine lv_iconst (v := 1) hx hb dL_law_159 (by decide) ?_
  refine lv_iadd hx hb dL_law_160 ?_
  refine W.eq (g2 := F0 m 161 ls [.int (nI (i + 1)), .ref b, .ref mo]) (by rw [show nI i + 1 = nI (i + 1) from nI_add i 1]) ?_
  refine va_sld hx hb hX hbl (show ¬ s.heap.size ≤ b by omega) hS (vp_in_nI (n := (i + 1)) (by omega) (by omega)) dL_law_161 ?_
  refine W.eq (g2 := F0 m 162 ls [.int (xs (i + 1)), .ref mo]) (by rw [nI_clamp (n := (i + 1)) (by omega)]) ?_
  refine lv_aload_n hx hb dL_law_162 rfl (lv_at hl 1 rfl) ?_
  refine lv_iload hx hb dL_law_163 (lv_at hl 5 rfl) ?_
  refine lv_iconst (v := 2) hx hb dL_law_165 (by decide) ?_
  refine lv_iadd hx hb dL_law_166 ?_
  refine W.eq (g2 := F0 m 167 ls [.int (nI (i + 2)), .ref b, .int (xs (i + 1)), .ref mo]) (by rw [show nI i + 2 = nI (i + 2) from nI_add i 2]) ?_
  refine va_sld hx hb hX hbl (show ¬ s.heap.size ≤ b by omega) hS (vp_in_nI (n := (i + 2)) (by omega) (by omega)) dL_law_167 ?_
  refine W.eq (g2 := F0 m 168 ls [.int (xs (i + 2)), .int (xs (i + 1)), .ref mo]) (by rw [nI_clamp (n := (i + 2)) (by omega)]) ?_
  refine lv_aload_n hx hb dL_law_168 rfl (lv_at hl 1 rfl) ?_
  refine lv_iload hx hb dL_law_169 (lv_at hl 5 rfl) ?_
  refine lv_iconst (v := 3) hx hb dL_law_171 (by decide) ?_
  refine lv_iadd hx hb dL_law_172 ?_
  refine W.eq (g2 := F0 m 173 ls [.int (nI (i + 3)), .ref b, .int (xs (i + 2)), .int (xs (i + 1)), .ref mo]) (by rw [show nI i + 3 = nI (i + 3) from nI_add i 3]) ?_
  refine va_sld hx hb hX hbl (show ¬ s.heap.size ≤ b by omega) hS (vp_in_nI (n := (i + 3)) (by omega) (by omega)) dL_law_173 ?_
  refine W.eq (g2 := F0 m 174 ls [.int (xs (i + 3)), .int (xs (i + 2)), .int (xs (i + 1)), .ref mo]) (by rw [nI_clamp (n := (i + 3)) (by omega)]) ?_
  refine lv_aload_n hx hb dL_law_174 rfl (lv_at hl 1 rfl) ?_
  refine lv_iload hx hb dL_law_175 (lv_at hl 5 rfl) ?_
  refine lv_iconst (v := 4) hx hb dL_law_177 (by decide) ?_
  refine lv_iadd hx hb dL_law_178 ?_
  refine W.eq (g2 := F0 m 179 ls [.int (nI (i + 4)), .ref b, .int (xs (i + 3)), .int (xs (i + 2)), .int (xs (i + 1)), .ref mo]) (by rw [show nI i + 4 = nI (i + 4) from nI_add i 4]) ?_
  refine va_sld hx hb hX hbl (show ¬ s.heap.size ≤ b by omega) hS (vp_in_nI (n := (i + 4)) (by omega) (by omega)) dL_law_179 ?_
  refine W.eq (g2 := F0 m 180 ls [.int (xs (i + 4)), .int (xs (i + 3)), .int (xs (i + 2)), .int (xs (i + 1)), .ref mo]) (by rw [nI_clamp (n := (i + 4)) (by omega)]) ?_
  refine kRi (n := 4) (D := D) (CA := CA) (wA := mw CA mg am) (wB := [(qo, oc (CA 4) u9.2)] ++ cw CA u9.1.1 u9.1.2.1 u9.1.2.2) (wd := fun u => mw CA u am) (A1 := mA am H.size) (As := [.int (xs (i + 1)), .int (xs (i + 2)), .int (xs (i + 3)), .int (xs (i + 4))]) (rest := []) ⟨hx, hb, hml, hown, hT⟩ (kM_piece l D CA mg am H.size h jp sr.M (xs (i + 1)) (xs (i + 2)) (xs (i + 3)) (xs (i + 4)) sr.S.lt) (gi_V wm_567 wm_568 wm_569 wm_4 wm_570) rfl rfl (by decide +kernel) ⟨(Nat.le_of_ble_eq_true rfl), (Nat.le_of_ble_eq_true rfl)⟩ (va_recv hK (P_r hP) (ci := 4) (q0 := 0) rfl mw_O) hK hP hD hS (mA_A hD hS.1) (nA_in (c := mc CA mg am)) rfl hl.1 (by rw [emo]; rfl) (Nat.le_of_ble_eq_true rfl) dL_law_180 ⟨by show cells + 5 + 0 ≤ 601024; omega, by show slots + 33 + 0 ≤ 7293034; omega⟩ (fun rm um H locs ht9 hP hD hS => ?_)
  refine lv_istore (lv' := [(6, .int rm), (5, .int r9), (0, .ref b), (1, .ref xo), (2, .ref mo), (3, .ref qo), (4, .int (nI i))]) hx hb dL_law_183 hl (by decide) rfl (fun ls hl => ?_)
  refine lv_aload_n hx hb dL_law_185 rfl (lv_at hl 4 rfl) ?_
  refine kRi (n := 0) (D := D) (CA := CA) (wA := mw CA um am) (wB := [(qo, oc (CA 4) u9.2)] ++ cw CA u9.1.1 u9.1.2.1 u9.1.2.2) (wd := fun u => mw CA u am) (A1 := mA am H.size) (As := []) (rest := []) ⟨hx, hb, hml, hown, hT⟩ (kM_thrown l D CA um am H.size) (gi_V wm_563 wm_564 wm_565 wm_4 wm_566) rfl rfl (by decide +kernel) ⟨(Nat.le_of_ble_eq_true rfl), (Nat.le_of_ble_eq_true rfl)⟩ (va_recv hK (P_r hP) (ci := 4) (q0 := 0) rfl mw_O) hK hP hD hS (mA_A hD hS.1) (nA_in (c := mc CA um am)) rfl hl.1 (by rw [emo]; rfl) (Nat.le_of_ble_eq_true rfl) dL_law_186 ⟨by show cells + 5 + 0 ≤ 601024; omega, by show slots + 33 + 0 ≤ 7293034; omega⟩ (fun r8 u8 H locs h8 hP hD hS => ?_)
  obtain ⟨e8, hu8⟩ := h8
  rw [hu8] at hP hD
  have hJ := J_piece sr hw9 ht9
  have e7 : r8 = r9 := by rw [e8]; exact hJ.1
  refine lv_iload hx hb dL_law_189 (lv_at hl 1 rfl) ?_
  refine lv_icmp_eq (tgt := 196) hx hb dL_law_191 (by decide) (fun c_1 => ?_) (fun c_1 => absurd e7 c_1)
  refine lv_iload hx hb dL_law_196 (lv_at hl 1 rfl) ?_
  refine lv_if_ne (tgt := 213) hx hb dL_law_198 (by decide) (fun c_2 => ?_) (fun c_2 => ?_)
  · refine lv_goto (tgt := 1318) hx hb dL_law_213 (by decide) ?_
    obtain ⟨-, -, j2, p2, sr2, ea2⟩ := hJ
    exact kx H locs ⟨_, _, _, j2, p2, _, am, _, sr2, by rw [ea2]; exact exo, emo, hP, hD⟩ hS ls (lv_sub hl [2, 3, 4, 5, 6] rfl)
  · refine lv_aload_n hx hb dL_law_201 rfl (lv_at hl 5 rfl) ?_
    refine lv_iconst (v := 0) hx hb dL_law_202 (by decide) ?_
    have hv9 := hJ.2.1 c_2
    refine va_lald (D := D) hx hb hK hP 0 4 rfl rfl (vp_in_nI (n := 0) (N := 1) (by decide) (by decide)) dL_law_203 ?_
    refine W.eq (g2 := F0 m 204 ls [.long (u9.2 0)]) rfl ?_
    refine lv_iload hx hb dL_law_204 (lv_at hl 0 rfl) ?_
    refine lv_i2l hx hb dL_law_206 rfl ?_
    refine W.lcmp hx hb dL_law_207 ?_
    refine lv_if_eq (tgt := 213) hx hb dL_law_208 (by decide) (fun c_3 => ?_) (fun c_3 => absurd (by rw [hv9]; exact lcmp0 _) c_3)
    refine lv_goto (tgt := 1318) hx hb dL_law_213 (by decide) ?_
    obtain ⟨-, -, j2, p2, sr2, ea2⟩ := hJ
    exact kx H locs ⟨_, _, _, j2, p2, _, am, _, sr2, by rw [ea2]; exact exo, emo, hP, hD⟩ hS ls (lv_sub hl [2, 3, 4, 5, 6] rfl)
set_option maxHeartbeats 4000000 in
set_option maxRecDepth 100000 in
theorem lc_single {p : Program} {l : Launch} {e : Env} {s : State} {m : MethodId} {args : Array Value} {below : List Frame} {meth : Method} {c : Code} {Q : State → Prop} (hlt : l.stackTraces = false) (hx : p.tables.exec = Jvm.exec) (hb : c.code = cL_law) (hml : c.maxLocals = 7) (hown : s.vm.findClass "CountLeastLaw" = some m.cls) (hT : ∀ w ∈ TB, w.before args s = true) {D : va_G} {CA : Nat → ClassId} (hK : va_K D vwCl (tyL CA) s) {sa : Nat → Nat} (hZ : xz (fun q => s.heap.size ≤ q) sa s s.heap) (hN : xn s) {b L : Nat} {xs : Nat → Int32} (hX : va_X b L xs s s.heap) (hbl : b < s.heap.size) (hL : L ≤ 2560) {qo xo mo : Nat} {i cells slots : Nat} (hi : i + 5 ≤ L) (hc : cells + 5 ≤ 601024) (hsl : slots + 33 ≤ 7293034) {g mg : Nat → Nat → Int32} {h : Nat → Nat → Nat} {jp pz ad am : Nat → Nat} {f9 : Nat → Int64} (sr : SR g mg h jp pz) (exo : ad 0 = xo) (emo : am 0 = mo)
    (kx : ∀ (H : Heap) (locs : List Loc), LwS D CA qo xo mo s.heap.size H → va_S (fun q => s.heap.size ≤ q) s.heap H locs → ∀ ls, lv_has ls 7 [(0, .ref b), (1, .ref xo), (2, .ref mo), (3, .ref qo), (4, .int (nI i))] → W p l e room_1 s m args below meth c H locs (cells + 5) (slots + 33) Q (F0 m 1318 ls [])) : ∀ (H : Heap) (locs : List Loc), va_P D vwCl (WD CA g h ad f9 mg am qo) H → va_D (fun q => s.heap.size ≤ q) (WD CA g h ad f9 mg am qo) → va_S (fun q => s.heap.size ≤ q) s.heap H locs → ∀ ls, lv_has ls 7 [(0, .ref b), (1, .ref xo), (2, .ref mo), (3, .ref qo), (4, .int (nI i))] → W p l e room_1 s m args below meth c H locs cells slots Q (F0 m 216 ls []) := by
  intro H locs hP hD hS ls hl
  refine lv_aload_n hx hb dL_law_216 rfl (lv_at hl 1 rfl) ?_
  refine lv_aload_n hx hb dL_law_217 rfl (lv_at hl 0 rfl) ?_
  refine lv_iload hx hb dL_law_218 (lv_at hl 4 rfl) ?_
  refine lv_iconst (v := 1) hx hb dL_law_220 (by decide) ?_
  refine lv_iadd hx hb dL_law_221 ?_
  refine W.eq (g2 := F0 m 222 ls [.int (nI (i + 1)), .ref b, .ref xo]) (by rw [show nI i + 1 = nI (i + 1) from nI_add i 1]) ?_
  refine va_sld hx hb hX hbl (show ¬ s.heap.size ≤ b by omega) hS (vp_in_nI (n := (i + 1)) (by omega) (by omega)) dL_law_222 ?_
  refine W.eq (g2 := F0 m 223 ls [.int (xs (i + 1)), .ref xo]) (by rw [nI_clamp (n := (i + 1)) (by omega)]) ?_
  refine lv_aload_n hx hb dL_law_223 rfl (lv_at hl 0 rfl) ?_
  refine lv_iload hx hb dL_law_224 (lv_at hl 4 rfl) ?_
  refine lv_iconst (v := 2) hx hb dL_law_226 (by decide) ?_
  refine lv_iadd hx hb dL_law_227 ?_
  refine W.eq (g2 := F0 m 228 ls [.int (nI (i + 2)), .ref b, .int (xs (i + 1)), .ref xo]) (by rw [show nI i + 2 = nI (i + 2) from nI_add i 2]) ?_
  refine va_sld hx hb hX hbl (show ¬ s.heap.size ≤ b by omega) hS (vp_in_nI (n := (i + 2)) (by omega) (by omega)) dL_law_228 ?_
  refine W.eq (g2 := F0 m 229 ls [.int (xs (i + 2)), .int (xs (i + 1)), .ref xo]) (by rw [nI_clamp (n := (i + 2)) (by omega)]) ?_
  refine lv_aload_n hx hb dL_law_229 rfl (lv_at hl 0 rfl) ?_
  refine lv_iload hx hb dL_law_230 (lv_at hl 4 rfl) ?_
  refine lv_iconst (v := 3) hx hb dL_law_232 (by decide) ?_
  refine lv_iadd hx hb dL_law_233 ?_
  refine W.eq (g2 := F0 m 234 ls [.int (nI (i + 3)), .ref b, .int (xs (i + 2)), .int (xs (i + 1)), .ref xo]) (by rw [show nI i + 3 = nI (i + 3) from nI_add i 3]) ?_
  refine va_sld hx hb hX hbl (show ¬ s.heap.size ≤ b by omega) hS (vp_in_nI (n := (i + 3)) (by omega) (by omega)) dL_law_234 ?_
  refine W.eq (g2 := F0 m 235 ls [.int (xs (i + 3)), .int (xs (i + 2)), .int (xs (i + 1)), .ref xo]) (by rw [nI_clamp (n := (i + 3)) (by omega)]) ?_
  refine lv_if_eq (tgt := 242) hx hb dL_law_235 (by decide) (fun c_1 => ?_) (fun c_1 => ?_)
  · refine lv_iconst (v := 0) hx hb dL_law_242 (by decide) ?_
    refine lv_aload_n hx hb dL_law_243 rfl (lv_at hl 3 rfl) ?_
    refine kWr (n := 5) (D := D) (CA := CA) (wA := [(qo, oc (CA 4) f9)] ++ cw CA g h ad) (wB := mw CA mg am) (wd := (fun u : (Nat → Nat → Int32) × (Nat → Int64) => [(qo, oc (CA 4) u.2)] ++ cw CA u.1 h ad)) (A1 := lA h ad qo H.size) (As := [.ref (ad 0), .int (xs (i + 1)), .int (xs (i + 2)), .int 0, .ref qo]) (rest := []) ⟨hx, hb, hml, hown, hT⟩ (kL_single l hlt D CA g h ad H.size sa qo f9 (xs (i + 1)) (xs (i + 2)) 0 (Or.inl rfl)) (gi_S wm_282 wm_283 wm_0 wm_284) rfl rfl (by decide +kernel) ⟨(Nat.le_of_ble_eq_true rfl), (Nat.le_of_ble_eq_true rfl)⟩ hZ hN hK hP hD hS (lA_A hD hS.1) lA_in rfl hl.1 (by rw [exo]; rfl) (Nat.le_of_ble_eq_true rfl) dL_law_244 ⟨by show cells + 2 ≤ 601024; omega, by show slots + 12 ≤ 7293034; omega⟩ (fun r9 u9 H locs hw9 hP hD hS => ?_)
    refine W.widen (k := cells + 5) (n := slots + 33) (by omega) (by omega) ?_
    refine lv_istore (lv' := [(5, .int r9), (0, .ref b), (1, .ref xo), (2, .ref mo), (3, .ref qo), (4, .int (nI i))]) hx hb dL_law_247 hl (by decide) rfl (fun ls hl => ?_)
    refine lv_aload_n hx hb dL_law_249 rfl (lv_at hl 3 rfl) ?_
    refine lv_aload_n hx hb dL_law_250 rfl (lv_at hl 1 rfl) ?_
    refine lv_iload hx hb dL_law_251 (lv_at hl 5 rfl) ?_
    refine lv_iconst (v := 1) hx hb dL_law_253 (by decide) ?_
    refine lv_iadd hx hb dL_law_254 ?_
    refine W.eq (g2 := F0 m 255 ls [.int (nI (i + 1)), .ref b, .ref mo]) (by rw [show nI i + 1 = nI (i + 1) from nI_add i 1]) ?_
    refine va_sld hx hb hX hbl (show ¬ s.heap.size ≤ b by omega) hS (vp_in_nI (n := (i + 1)) (by omega) (by omega)) dL_law_255 ?_
    refine W.eq (g2 := F0 m 256 ls [.int (xs (i + 1)), .ref mo]) (by rw [nI_clamp (n := (i + 1)) (by omega)]) ?_
    refine lv_aload_n hx hb dL_law_256 rfl (lv_at hl 1 rfl) ?_
    refine lv_iload hx hb dL_law_257 (lv_at hl 5 rfl) ?_
    refine lv_iconst (v := 2) hx hb dL_law_259 (by decide) ?_
    refine lv_iadd hx hb dL_law_260 ?_
    refine W.eq (g2 := F0 m 261 ls [.int (nI (i + 2)), .ref b, .int (xs (i + 1)), .ref mo]) (by rw [show nI i + 2 = nI (i + 2) from nI_add i 2]) ?_
    refine va_sld hx hb hX hbl (show ¬ s.heap.size ≤ b by omega) hS (vp_in_nI (n := (i + 2)) (by omega) (by omega)) dL_law_261 ?_
    refine W.eq (g2 := F0 m 262 ls [.int (xs (i + 2)), .int (xs (i + 1)), .ref mo]) (by rw [nI_clamp (n := (i + 2)) (by omega)]) ?_
    refine lv_aload_n hx hb dL_law_262 rfl (lv_at hl 1 rfl) ?_
    refine lv_iload hx hb dL_law_263 (lv_at hl 5 rfl) ?_
    refine lv_iconst (v := 3) hx hb dL_law_265 (by decide) ?_
    refine lv_iadd hx hb dL_law_266 ?_
    refine W.eq (g2 := F0 m 267 ls [.int (nI (i + 3)), .ref b, .int (xs (i + 2)), .int (xs (i + 1)), .ref mo]) (by rw [show nI i + 3 = nI (i + 3) from nI_add i 3]) ?_
    refine va_sld hx hb hX hbl (show ¬ s.heap.size ≤ b by omega) hS (vp_in_nI (n := (i + 3)) (by omega) (by omega)) dL_law_267 ?_
    refine W.eq (g2 := F0 m 268 ls [.int (xs (i + 3)), .int (xs (i + 2)), .int (xs (i + 1)), .ref mo]) (by rw [nI_clamp (n := (i + 3)) (by omega)]) ?_
    refine lv_if_eq (tgt := 275) hx hb dL_law_268 (by decide) (fun c_2 => ?_) (fun c_2 => absurd c_1 c_2)
    refine lv_iconst (v := 0) hx hb dL_law_275 (by decide) ?_
    refine kRi (n := 3) (D := D) (CA := CA) (wA := mw CA mg am) (wB := [(qo, oc (CA 4) u9.2)] ++ cw CA u9.1 h ad) (wd := fun u => mw CA u am) (A1 := mA am H.size) (As := [.int (xs (i + 1)), .int (xs (i + 2)), .int 0]) (rest := []) ⟨hx, hb, hml, hown, hT⟩ (kM_single l D CA mg am H.size (xs (i + 1)) (xs (i + 2)) 0 (Or.inl rfl)) (gi_V wm_581 wm_582 wm_583 wm_4 wm_584) rfl rfl (by decide +kernel) ⟨(Nat.le_of_ble_eq_true rfl), (Nat.le_of_ble_eq_true rfl)⟩ (va_recv hK (P_r hP) (ci := 4) (q0 := 0) rfl mw_O) hK hP hD hS (mA_A hD hS.1) (nA_in (c := mc CA mg am)) rfl hl.1 (by rw [emo]; rfl) (Nat.le_of_ble_eq_true rfl) dL_law_276 ⟨by show cells + 5 + 0 ≤ 601024; omega, by show slots + 33 + 0 ≤ 7293034; omega⟩ (fun rm um H locs ht9 hP hD hS => ?_)
    refine lv_istore (lv' := [(6, .int rm), (5, .int r9), (0, .ref b), (1, .ref xo), (2, .ref mo), (3, .ref qo), (4, .int (nI i))]) hx hb dL_law_279 hl (by decide) rfl (fun ls hl => ?_)
    refine lv_aload_n hx hb dL_law_281 rfl (lv_at hl 4 rfl) ?_
    refine kRi (n := 0) (D := D) (CA := CA) (wA := mw CA um am) (wB := [(qo, oc (CA 4) u9.2)] ++ cw CA u9.1 h ad) (wd := fun u => mw CA u am) (A1 := mA am H.size) (As := []) (rest := []) ⟨hx, hb, hml, hown, hT⟩ (kM_thrown l D CA um am H.size) (gi_V wm_563 wm_564 wm_565 wm_4 wm_566) rfl rfl (by decide +kernel) ⟨(Nat.le_of_ble_eq_true rfl), (Nat.le_of_ble_eq_true rfl)⟩ (va_recv hK (P_r hP) (ci := 4) (q0 := 0) rfl mw_O) hK hP hD hS (mA_A hD hS.1) (nA_in (c := mc CA um am)) rfl hl.1 (by rw [emo]; rfl) (Nat.le_of_ble_eq_true rfl) dL_law_282 ⟨by show cells + 5 + 0 ≤ 601024; omega, by show slots + 33 + 0 ≤ 7293034; omega⟩ (fun r8 u8 H locs h8 hP hD hS => ?_)
    obtain ⟨e8, hu8⟩ := h8
    rw [hu8] at hP hD
    have hJ := J_single sr hw9 ht9
    have e7 : r8 = r9 := by rw [e8]; exact hJ.1
    refine lv_iload hx hb dL_law_285 (lv_at hl 1 rfl) ?_
    refine lv_icmp_eq (tgt := 292) hx hb dL_law_287 (by decide) (fun c_3 => ?_) (fun c_3 => absurd e7 c_3)
    refine lv_iload hx hb dL_law_292 (lv_at hl 1 rfl) ?_
    refine lv_if_ne (tgt := 316) hx hb dL_law_294 (by decide) (fun c_4 => ?_) (fun c_4 => ?_)
    · refine lv_goto (tgt := 1318) hx hb dL_law_316 (by decide) ?_
      exact kx H locs ⟨_, _, h, jp, pz, ad, am, _, hJ.2.2, exo, emo, hP, hD⟩ hS ls (lv_sub hl [2, 3, 4, 5, 6] rfl)
    · refine lv_aload_n hx hb dL_law_297 rfl (lv_at hl 5 rfl) ?_
      refine lv_iconst (v := 0) hx hb dL_law_298 (by decide) ?_
      have hv9 := hJ.2.1 c_4
      refine va_lald (D := D) hx hb hK hP 0 4 rfl rfl (vp_in_nI (n := 0) (N := 1) (by decide) (by decide)) dL_law_299 ?_
      refine W.eq (g2 := F0 m 300 ls [.long (u9.2 0)]) rfl ?_
      refine lv_iload hx hb dL_law_300 (lv_at hl 0 rfl) ?_
      refine lv_if_eq (tgt := 309) hx hb dL_law_302 (by decide) (fun c_5 => ?_) (fun c_5 => ?_)
      · refine lv_lconst (v := 0) hx hb dL_law_309 (by decide) ?_
        rw [if_pos c_5] at hv9
        refine W.lcmp hx hb dL_law_310 ?_
        refine lv_if_eq (tgt := 316) hx hb dL_law_311 (by decide) (fun c_6 => ?_) (fun c_6 => absurd (by rw [hv9]; exact lcmp0 _) c_6)
        refine lv_goto (tgt := 1318) hx hb dL_law_316 (by decide) ?_
        exact kx H locs ⟨_, _, h, jp, pz, ad, am, _, hJ.2.2, exo, emo, hP, hD⟩ hS ls (lv_sub hl [2, 3, 4, 5, 6] rfl)
      · refine lv_lconst (v := 1) hx hb dL_law_305 (by decide) ?_
        refine lv_goto (tgt := 310) hx hb dL_law_306 (by decide) ?_
        rw [if_neg c_5] at hv9
        refine W.lcmp hx hb dL_law_310 ?_
        refine lv_if_eq (tgt := 316) hx hb dL_law_311 (by decide) (fun c_7 => ?_) (fun c_7 => absurd (by rw [hv9]; exact lcmp0 _) c_7)
        refine lv_goto (tgt := 1318) hx hb dL_law_316 (by decide) ?_
        exact kx H locs ⟨_, _, h, jp, pz, ad, am, _, hJ.2.2, exo, emo, hP, hD⟩ hS ls (lv_sub hl [2, 3, 4, 5, 6] rfl)
  · refine lv_iconst (v := 1) hx hb dL_law_238 (by decide) ?_
    refine lv_goto (tgt := 243) hx hb dL_law_239 (by decide) ?_
    refine lv_aload_n hx hb dL_law_243 rfl (lv_at hl 3 rfl) ?_
    refine kWr (n := 5) (D := D) (CA := CA) (wA := [(qo, oc (CA 4) f9)] ++ cw CA g h ad) (wB := mw CA mg am) (wd := (fun u : (Nat → Nat → Int32) × (Nat → Int64) => [(qo, oc (CA 4) u.2)] ++ cw CA u.1 h ad)) (A1 := lA h ad qo H.size) (As := [.ref (ad 0), .int (xs (i + 1)), .int (xs (i + 2)), .int 1, .ref qo]) (rest := []) ⟨hx, hb, hml, hown, hT⟩ (kL_single l hlt D CA g h ad H.size sa qo f9 (xs (i + 1)) (xs (i + 2)) 1 (Or.inr rfl)) (gi_S wm_282 wm_283 wm_0 wm_284) rfl rfl (by decide +kernel) ⟨(Nat.le_of_ble_eq_true rfl), (Nat.le_of_ble_eq_true rfl)⟩ hZ hN hK hP hD hS (lA_A hD hS.1) lA_in rfl hl.1 (by rw [exo]; rfl) (Nat.le_of_ble_eq_true rfl) dL_law_244 ⟨by show cells + 2 ≤ 601024; omega, by show slots + 12 ≤ 7293034; omega⟩ (fun r9 u9 H locs hw9 hP hD hS => ?_)
    refine W.widen (k := cells + 5) (n := slots + 33) (by omega) (by omega) ?_
    refine lv_istore (lv' := [(5, .int r9), (0, .ref b), (1, .ref xo), (2, .ref mo), (3, .ref qo), (4, .int (nI i))]) hx hb dL_law_247 hl (by decide) rfl (fun ls hl => ?_)
    refine lv_aload_n hx hb dL_law_249 rfl (lv_at hl 3 rfl) ?_
    refine lv_aload_n hx hb dL_law_250 rfl (lv_at hl 1 rfl) ?_
    refine lv_iload hx hb dL_law_251 (lv_at hl 5 rfl) ?_
    refine lv_iconst (v := 1) hx hb dL_law_253 (by decide) ?_
    refine lv_iadd hx hb dL_law_254 ?_
    refine W.eq (g2 := F0 m 255 ls [.int (nI (i + 1)), .ref b, .ref mo]) (by rw [show nI i + 1 = nI (i + 1) from nI_add i 1]) ?_
    refine va_sld hx hb hX hbl (show ¬ s.heap.size ≤ b by omega) hS (vp_in_nI (n := (i + 1)) (by omega) (by omega)) dL_law_255 ?_
    refine W.eq (g2 := F0 m 256 ls [.int (xs (i + 1)), .ref mo]) (by rw [nI_clamp (n := (i + 1)) (by omega)]) ?_
    refine lv_aload_n hx hb dL_law_256 rfl (lv_at hl 1 rfl) ?_
    refine lv_iload hx hb dL_law_257 (lv_at hl 5 rfl) ?_
    refine lv_iconst (v := 2) hx hb dL_law_259 (by decide) ?_
    refine lv_iadd hx hb dL_law_260 ?_
    refine W.eq (g2 := F0 m 261 ls [.int (nI (i + 2)), .ref b, .int (xs (i + 1)), .ref mo]) (by rw [show nI i + 2 = nI (i + 2) from nI_add i 2]) ?_
    refine va_sld hx hb hX hbl (show ¬ s.heap.size ≤ b by omega) hS (vp_in_nI (n := (i + 2)) (by omega) (by omega)) dL_law_261 ?_
    refine W.eq (g2 := F0 m 262 ls [.int (xs (i + 2)), .int (xs (i + 1)), .ref mo]) (by rw [nI_clamp (n := (i + 2)) (by omega)]) ?_
    refine lv_aload_n hx hb dL_law_262 rfl (lv_at hl 1 rfl) ?_
    refine lv_iload hx hb dL_law_263 (lv_at hl 5 rfl) ?_
    refine lv_iconst (v := 3) hx hb dL_law_265 (by decide) ?_
    refine lv_iadd hx hb dL_law_266 ?_
    refine W.eq (g2 := F0 m 267 ls [.int (nI (i + 3)), .ref b, .int (xs (i + 2)), .int (xs (i + 1)), .ref mo]) (by rw [show nI i + 3 = nI (i + 3) from nI_add i 3]) ?_
    refine va_sld hx hb hX hbl (show ¬ s.heap.size ≤ b by omega) hS (vp_in_nI (n := (i + 3)) (by omega) (by omega)) dL_law_267 ?_
    refine W.eq (g2 := F0 m 268 ls [.int (xs (i + 3)), .int (xs (i + 2)), .int (xs (i + 1)), .ref mo]) (by rw [nI_clamp (n := (i + 3)) (by omega)]) ?_
    refine lv_if_eq (tgt := 275) hx hb dL_law_268 (by decide) (fun c_8 => absurd c_8 c_1) (fun c_8 => ?_)
    refine lv_iconst (v := 1) hx hb dL_law_271 (by decide) ?_
    refine lv_goto (tgt := 276) hx hb dL_law_272 (by decide) ?_
    refine kRi (n := 3) (D := D) (CA := CA) (wA := mw CA mg am) (wB := [(qo, oc (CA 4) u9.2)] ++ cw CA u9.1 h ad) (wd := fun u => mw CA u am) (A1 := mA am H.size) (As := [.int (xs (i + 1)), .int (xs (i + 2)), .int 1]) (rest := []) ⟨hx, hb, hml, hown, hT⟩ (kM_single l D CA mg am H.size (xs (i + 1)) (xs (i + 2)) 1 (Or.inr rfl)) (gi_V wm_581 wm_582 wm_583 wm_4 wm_584) rfl rfl (by decide +kernel) ⟨(Nat.le_of_ble_eq_true rfl), (Nat.le_of_ble_eq_true rfl)⟩ (va_recv hK (P_r hP) (ci := 4) (q0 := 0) rfl mw_O) hK hP hD hS (mA_A hD hS.1) (nA_in (c := mc CA mg am)) rfl hl.1 (by rw [emo]; rfl) (Nat.le_of_ble_eq_true rfl) dL_law_276 ⟨by show cells + 5 + 0 ≤ 601024; omega, by show slots + 33 + 0 ≤ 7293034; omega⟩ (fun rm um H locs ht9 hP hD hS => ?_)
    refine lv_istore (lv' := [(6, .int rm), (5, .int r9), (0, .ref b), (1, .ref xo), (2, .ref mo), (3, .ref qo), (4, .int (nI i))]) hx hb dL_law_279 hl (by decide) rfl (fun ls hl => ?_)
    refine lv_aload_n hx hb dL_law_281 rfl (lv_at hl 4 rfl) ?_
    refine kRi (n := 0) (D := D) (CA := CA) (wA := mw CA um am) (wB := [(qo, oc (CA 4) u9.2)] ++ cw CA u9.1 h ad) (wd := fun u => mw CA u am) (A1 := mA am H.size) (As := []) (rest := []) ⟨hx, hb, hml, hown, hT⟩ (kM_thrown l D CA um am H.size) (gi_V wm_563 wm_564 wm_565 wm_4 wm_566) rfl rfl (by decide +kernel) ⟨(Nat.le_of_ble_eq_true rfl), (Nat.le_of_ble_eq_true rfl)⟩ (va_recv hK (P_r hP) (ci := 4) (q0 := 0) rfl mw_O) hK hP hD hS (mA_A hD hS.1) (nA_in (c := mc CA um am)) rfl hl.1 (by rw [emo]; rfl) (Nat.le_of_ble_eq_true rfl) dL_law_282 ⟨by show cells + 5 + 0 ≤ 601024; omega, by show slots + 33 + 0 ≤ 7293034; omega⟩ (fun r8 u8 H locs h8 hP hD hS => ?_)
    obtain ⟨e8, hu8⟩ := h8
    rw [hu8] at hP hD
    have hJ := J_single sr hw9 ht9
    have e7 : r8 = r9 := by rw [e8]; exact hJ.1
    refine lv_iload hx hb dL_law_285 (lv_at hl 1 rfl) ?_
    refine lv_icmp_eq (tgt := 292) hx hb dL_law_287 (by decide) (fun c_9 => ?_) (fun c_9 => absurd e7 c_9)
    refine lv_iload hx hb dL_law_292 (lv_at hl 1 rfl) ?_
    refine lv_if_ne (tgt := 316) hx hb dL_law_294 (by decide) (fun c_10 => ?_) (fun c_10 => ?_)
    · refine lv_goto (tgt := 1318) hx hb dL_law_316 (by decide) ?_
      exact kx H locs ⟨_, _, h, jp, pz, ad, am, _, hJ.2.2, exo, emo, hP, hD⟩ hS ls (lv_sub hl [2, 3, 4, 5, 6] rfl)
    · refine lv_aload_n hx hb dL_law_297 rfl (lv_at hl 5 rfl) ?_
      refine lv_iconst (v := 0) hx hb dL_law_298 (by decide) ?_
      have hv9 := hJ.2.1 c_10
      refine va_lald (D := D) hx hb hK hP 0 4 rfl rfl (vp_in_nI (n := 0) (N := 1) (by decide) (by decide)) dL_law_299 ?_
      refine W.eq (g2 := F0 m 300 ls [.long (u9.2 0)]) rfl ?_
      refine lv_iload hx hb dL_law_300 (lv_at hl 0 rfl) ?_
      refine lv_if_eq (tgt := 309) hx hb dL_law_302 (by decide) (fun c_11 => ?_) (fun c_11 => ?_)
      · refine lv_lconst (v := 0) hx hb dL_law_309 (by decide) ?_
        rw [if_pos c_11] at hv9
        refine W.lcmp hx hb dL_law_310 ?_
        refine lv_if_eq (tgt := 316) hx hb dL_law_311 (by decide) (fun c_12 => ?_) (fun c_12 => absurd (by rw [hv9]; exact lcmp0 _) c_12)
        refine lv_goto (tgt := 1318) hx hb dL_law_316 (by decide) ?_
        exact kx H locs ⟨_, _, h, jp, pz, ad, am, _, hJ.2.2, exo, emo, hP, hD⟩ hS ls (lv_sub hl [2, 3, 4, 5, 6] rfl)
      · refine lv_lconst (v := 1) hx hb dL_law_305 (by decide) ?_
        refine lv_goto (tgt := 310) hx hb dL_law_306 (by decide) ?_
        rw [if_neg c_11] at hv9
        refine W.lcmp hx hb dL_law_310 ?_
        refine lv_if_eq (tgt := 316) hx hb dL_law_311 (by decide) (fun c_13 => ?_) (fun c_13 => absurd (by rw [hv9]; exact lcmp0 _) c_13)
        refine lv_goto (tgt := 1318) hx hb dL_law_316 (by decide) ?_
        exact kx H locs ⟨_, _, h, jp, pz, ad, am, _, hJ.2.2, exo, emo, hP, hD⟩ hS ls (lv_sub hl [2, 3, 4, 5, 6] rfl)
set_option maxHeartbeats 4000000 in
set_option maxRecDepth 100000 in
theorem lc_bound {p : Program} {l : Launch} {e : Env} {s : State} {m : MethodId} {args : Array Value} {below : List Frame} {meth : Method} {c : Code} {Q : State → Prop} (hlt : l.stackTraces = false) (hx : p.tables.exec = Jvm.exec) (hb : c.code = cL_law) (hml : c.maxLocals = 7) (hown : s.vm.findClass "CountLeastLaw" = some m.cls) (hT : ∀ w ∈ TB, w.before args s = true) {D : va_G} {CA : Nat → ClassId} (hK : va_K D vwCl (tyL CA) s) {sa : Nat → Nat} (hZ : xz (fun q => s.heap.size ≤ q) sa s s.heap) (hN : xn s) {b L : Nat} {xs : Nat → Int32} (hX : va_X b L xs s s.heap) (hbl : b < s.heap.size) (hL : L ≤ 2560) {qo xo mo : Nat} {i cells slots : Nat} (hi : i + 5 ≤ L) (hc : cells + 5 ≤ 601024) (hsl : slots + 33 ≤ 7293034) {g mg : Nat → Nat → Int32} {h : Nat → Nat → Nat} {jp pz ad am : Nat → Nat} {f9 : Nat → Int64} (sr : SR g mg h jp pz) (exo : ad 0 = xo) (emo : am 0 = mo)
    (kx : ∀ (H : Heap) (locs : List Loc), LwS D CA qo xo mo s.heap.size H → va_S (fun q => s.heap.size ≤ q) s.heap H locs → ∀ ls, lv_has ls 7 [(0, .ref b), (1, .ref xo), (2, .ref mo), (3, .ref qo), (4, .int (nI i))] → W p l e room_1 s m args below meth c H locs (cells + 5) (slots + 33) Q (F0 m 1318 ls [])) : ∀ (H : Heap) (locs : List Loc), va_P D vwCl (WD CA g h ad f9 mg am qo) H → va_D (fun q => s.heap.size ≤ q) (WD CA g h ad f9 mg am qo) → va_S (fun q => s.heap.size ≤ q) s.heap H locs → ∀ ls, lv_has ls 7 [(0, .ref b), (1, .ref xo), (2, .ref mo), (3, .ref qo), (4, .int (nI i))] → W p l e room_1 s m args below meth c H locs cells slots Q (F0 m 319 ls []) := by
  intro H locs hP hD hS ls hl
  refine lv_aload_n hx hb dL_law_319 rfl (lv_at hl 1 rfl) ?_
  refine lv_aload_n hx hb dL_law_320 rfl (lv_at hl 0 rfl) ?_
  refine lv_iload hx hb dL_law_321 (lv_at hl 4 rfl) ?_
  refine lv_iconst (v := 1) hx hb dL_law_323 (by decide) ?_
  refine lv_iadd hx hb dL_law_324 ?_
  refine W.eq (g2 := F0 m 325 ls [.int (nI (i + 1)), .ref b, .ref xo]) (by rw [show nI i + 1 = nI (i + 1) from nI_add i 1]) ?_
  refine va_sld hx hb hX hbl (show ¬ s.heap.size ≤ b by omega) hS (vp_in_nI (n := (i + 1)) (by omega) (by omega)) dL_law_325 ?_
  refine W.eq (g2 := F0 m 326 ls [.int (xs (i + 1)), .ref xo]) (by rw [nI_clamp (n := (i + 1)) (by omega)]) ?_
  refine lv_aload_n hx hb dL_law_326 rfl (lv_at hl 0 rfl) ?_
  refine lv_iload hx hb dL_law_327 (lv_at hl 4 rfl) ?_
  refine lv_iconst (v := 2) hx hb dL_law_329 (by decide) ?_
  refine lv_iadd hx hb dL_law_330 ?_
  refine W.eq (g2 := F0 m 331 ls [.int (nI (i + 2)), .ref b, .int (xs (i + 1)), .ref xo]) (by rw [show nI i + 2 = nI (i + 2) from nI_add i 2]) ?_
  refine va_sld hx hb hX hbl (show ¬ s.heap.size ≤ b by omega) hS (vp_in_nI (n := (i + 2)) (by omega) (by omega)) dL_law_331 ?_
  refine W.eq (g2 := F0 m 332 ls [.int (xs (i + 2)), .int (xs (i + 1)), .ref xo]) (by rw [nI_clamp (n := (i + 2)) (by omega)]) ?_
  refine lv_aload_n hx hb dL_law_332 rfl (lv_at hl 3 rfl) ?_
  refine kWr (n := 4) (D := D) (CA := CA) (wA := [(qo, oc (CA 4) f9)] ++ cw CA g h ad) (wB := mw CA mg am) (wd := (fun u : (Nat → Nat → Int32) × (Nat → Int64) => [(qo, oc (CA 4) u.2)] ++ cw CA u.1 h ad)) (A1 := lA h ad qo H.size) (As := [.ref (ad 0), .int (xs (i + 1)), .int (xs (i + 2)), .ref qo]) (rest := []) ⟨hx, hb, hml, hown, hT⟩ (kL_bound l hlt D CA g h ad H.size sa qo f9 (xs (i + 1)) (xs (i + 2))) (gi_S wm_289 wm_290 wm_0 wm_291) rfl rfl (by decide +kernel) ⟨(Nat.le_of_ble_eq_true rfl), (Nat.le_of_ble_eq_true rfl)⟩ hZ hN hK hP hD hS (lA_A hD hS.1) lA_in rfl hl.1 (by rw [exo]; rfl) (Nat.le_of_ble_eq_true rfl) dL_law_333 ⟨by show cells + 2 ≤ 601024; omega, by show slots + 12 ≤ 7293034; omega⟩ (fun r9 u9 H locs hw9 hP hD hS => ?_)
  refine W.widen (k := cells + 5) (n := slots + 33) (by omega) (by omega) ?_
  refine lv_istore (lv' := [(5, .int r9), (0, .ref b), (1, .ref xo), (2, .ref mo), (3, .ref qo), (4, .int (nI i))]) hx hb dL_law_336 hl (by decide) rfl (fun ls hl => ?_)
  refine lv_aload_n hx hb dL_law_338 rfl (lv_at hl 3 rfl) ?_
  refine lv_aload_n hx hb dL_law_339 rfl (lv_at hl 1 rfl) ?_
  refine lv_iload hx hb dL_law_340 (lv_at hl 5 rfl) ?_
  refine lv_iconst (v := 1) hx hb dL_law_342 (by decide) ?_
  refine lv_iadd hx hb dL_law_343 ?_
  refine W.eq (g2 := F0 m 344 ls [.int (nI (i + 1)), .ref b, .ref mo]) (by rw [show nI i + 1 = nI (i + 1) from nI_add i 1]) ?_
  refine va_sld hx hb hX hbl (show ¬ s.heap.size ≤ b by omega) hS (vp_in_nI (n := (i + 1)) (by omega) (by omega)) dL_law_344 ?_
  refine W.eq (g2 := F0 m 345 ls [.int (xs (i + 1)), .ref mo]) (by rw [nI_clamp (n := (i + 1)) (by omega)]) ?_
  refine lv_aload_n hx hb dL_law_345 rfl (lv_at hl 1 rfl) ?_
  refine lv_iload hx hb dL_law_346 (lv_at hl 5 rfl) ?_
  refine lv_iconst (v := 2) hx hb dL_law_348 (by decide) ?_
  refine lv_iadd hx hb dL_law_349 ?_
  refine W.eq (g2 := F0 m 350 ls [.int (nI (i + 2)), .ref b, .int (xs (i + 1)), .ref mo]) (by rw [show nI i + 2 = nI (i + 2) from nI_add i 2]) ?_
  refine va_sld hx hb hX hbl (show ¬ s.heap.size ≤ b by omega) hS (vp_in_nI (n := (i + 2)) (by omega) (by omega)) dL_law_350 ?_
  refine W.eq (g2 := F0 m 351 ls [.int (xs (i + 2)), .int (xs (i + 1)), .ref mo]) (by rw [nI_clamp (n := (i + 2)) (by omega)]) ?_
  refine kRi (n := 2) (D := D) (CA := CA) (wA := mw CA mg am) (wB := [(qo, oc (CA 4) u9.2)] ++ cw CA u9.1 h ad) (wd := fun u => mw CA u am) (A1 := mA am H.size) (As := [.int (xs (i + 1)), .int (xs (i + 2))]) (rest := []) ⟨hx, hb, hml, hown, hT⟩ (kM_bound l D CA mg am H.size (xs (i + 1)) (xs (i + 2))) (gi_V wm_585 wm_586 wm_587 wm_4 wm_588) rfl rfl (by decide +kernel) ⟨(Nat.le_of_ble_eq_true rfl), (Nat.le_of_ble_eq_true rfl)⟩ (va_recv hK (P_r hP) (ci := 4) (q0 := 0) rfl mw_O) hK hP hD hS (mA_A hD hS.1) (nA_in (c := mc CA mg am)) rfl hl.1 (by rw [emo]; rfl) (Nat.le_of_ble_eq_true rfl) dL_law_351 ⟨by show cells + 5 + 0 ≤ 601024; omega, by show slots + 33 + 0 ≤ 7293034; omega⟩ (fun rm um H locs ht9 hP hD hS => ?_)
  refine lv_istore (lv' := [(6, .int rm), (5, .int r9), (0, .ref b), (1, .ref xo), (2, .ref mo), (3, .ref qo), (4, .int (nI i))]) hx hb dL_law_354 hl (by decide) rfl (fun ls hl => ?_)
  refine lv_aload_n hx hb dL_law_356 rfl (lv_at hl 4 rfl) ?_
  refine kRi (n := 0) (D := D) (CA := CA) (wA := mw CA um am) (wB := [(qo, oc (CA 4) u9.2)] ++ cw CA u9.1 h ad) (wd := fun u => mw CA u am) (A1 := mA am H.size) (As := []) (rest := []) ⟨hx, hb, hml, hown, hT⟩ (kM_thrown l D CA um am H.size) (gi_V wm_563 wm_564 wm_565 wm_4 wm_566) rfl rfl (by decide +kernel) ⟨(Nat.le_of_ble_eq_true rfl), (Nat.le_of_ble_eq_true rfl)⟩ (va_recv hK (P_r hP) (ci := 4) (q0 := 0) rfl mw_O) hK hP hD hS (mA_A hD hS.1) (nA_in (c := mc CA um am)) rfl hl.1 (by rw [emo]; rfl) (Nat.le_of_ble_eq_true rfl) dL_law_357 ⟨by show cells + 5 + 0 ≤ 601024; omega, by show slots + 33 + 0 ≤ 7293034; omega⟩ (fun r8 u8 H locs h8 hP hD hS => ?_)
  obtain ⟨e8, hu8⟩ := h8
  rw [hu8] at hP hD
  have hJ := J_bound sr hw9 ht9
  have e7 : r8 = r9 := by rw [e8]; exact hJ.1
  refine lv_iload hx hb dL_law_360 (lv_at hl 1 rfl) ?_
  refine lv_icmp_eq (tgt := 367) hx hb dL_law_362 (by decide) (fun c_1 => ?_) (fun c_1 => absurd e7 c_1)
  refine lv_iload hx hb dL_law_367 (lv_at hl 1 rfl) ?_
  refine lv_if_ne (tgt := 384) hx hb dL_law_369 (by decide) (fun c_2 => ?_) (fun c_2 => ?_)
  · refine lv_goto (tgt := 1318) hx hb dL_law_384 (by decide) ?_
    exact kx H locs ⟨_, _, h, jp, pz, ad, am, _, hJ.2.2, exo, emo, hP, hD⟩ hS ls (lv_sub hl [2, 3, 4, 5, 6] rfl)
  · refine lv_aload_n hx hb dL_law_372 rfl (lv_at hl 5 rfl) ?_
    refine lv_iconst (v := 0) hx hb dL_law_373 (by decide) ?_
    have hv9 := hJ.2.1 c_2
    refine va_lald (D := D) hx hb hK hP 0 4 rfl rfl (vp_in_nI (n := 0) (N := 1) (by decide) (by decide)) dL_law_374 ?_
    refine W.eq (g2 := F0 m 375 ls [.long (u9.2 0)]) rfl ?_
    refine lv_iload hx hb dL_law_375 (lv_at hl 0 rfl) ?_
    refine lv_i2l hx hb dL_law_377 rfl ?_
    refine W.lcmp hx hb dL_law_378 ?_
    refine lv_if_eq (tgt := 384) hx hb dL_law_379 (by decide) (fun c_3 => ?_) (fun c_3 => absurd (by rw [hv9]; exact lcmp0 _) c_3)
    refine lv_goto (tgt := 1318) hx hb dL_law_384 (by decide) ?_
    exact kx H locs ⟨_, _, h, jp, pz, ad, am, _, hJ.2.2, exo, emo, hP, hD⟩ hS ls (lv_sub hl [2, 3, 4, 5, 6] rfl)
