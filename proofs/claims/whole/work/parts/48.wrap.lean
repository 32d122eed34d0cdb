theorem D_lA {CA : Nat → ClassId} {g : Nat → Nat → Int32} {h : Nat → Nat → Nat} {ad : Nat → Nat} {A : Nat → Prop} {qo sz : Nat} {e : va_E} (hD : va_D A ([(qo, e)] ++ cw CA g h ad)) : va_D (lA h ad qo sz) ([(qo, e)] ++ cw CA g h ad) := by
  refine ⟨hD.1, fun k x hx => ?_⟩
  match k, hx with
  | 0, hx => cases hx; exact Or.inl rfl
  | k + 1, hx =>
    have hx : (cw CA g h ad)[k]? = some x := hx
    obtain ⟨h1, rfl⟩ := nw_get_inv hx
    exact Or.inr (Or.inl ⟨k, h1, rfl⟩)
set_option maxHeartbeats 4000000 in
set_option maxRecDepth 100000 in
theorem kL_piece (l : Launch) (hlt : l.stackTraces = false) (D : va_G) (CA : Nat → ClassId) (g : Nat → Nat → Int32) (h : Nat → Nat → Nat) (ad : Nat → Nat) (sz : Nat) (sa : Nat → Nat) (qo : Nat) (f9 : Nat → Int64) (kd pt sd z9 : Int32) (jp : Nat → Nat) (hI : CIv g h jp) (hlt9 : ∀ k, k < 6 → h 1 k < 12 → h 0 0 < 72) : Met l yL_piece wL_piece (rm 3 5 33) (va_Pc [.ref (ad 0), .int kd, .int pt, .int sd, .int z9, .ref qo] (fun U => gpre D (tyL CA) ([(qo, oc (CA 4) (f9))] ++ cw CA g h ad) sz U ∧ xz (lA h ad qo sz) sa U U.heap ∧ xn U)) (va_Qi (fun (r : Int32) (u : ((Nat → Nat → Int32) × (Nat → Nat → Nat) × (Nat → Nat)) × (Nat → Int64)) => w4 (ib kd 6 ∨ ib pt 16) (rb sd 0 3 ∨ rb z9 0 30000) (12 ≤ g (3 + 9 * n32 kd) 6) r (u = ((g, h, ad), f9)) (∃ r0, (fun (r : Int32) (u : (Nat → Nat → Int32) × (Nat → Nat → Nat) × (Nat → Nat)) => ¬ (ib kd 6 ∨ ib pt 16) ∧ ¬ (rb sd 0 3 ∨ rb z9 0 30000) ∧ ¬ (12 ≤ g (3 + 9 * n32 kd) 6) ∧ ∃ k, k < 6 ∧ kd = nI k ∧ r = nI (h 0 0) ∧ u.1 = (u2 (u2 (u2 (gp g (57 + h 0 0) (fun b => [0, nI (h 0 0), nI (h 1 k), pt, z9, sd, 0, 999, 0].getD b (0 : Int32))) (3 + 9 * k) 6 (nI (h 1 k + 1))) (3 + 9 * k) 7 1) 0 2 (nI (h 0 0 + 1))) ∧ u.2.1 = hpz h k ∧ u.2.2 0 = ad 0) r0 u.1 ∧ u.2 0 = r0.toInt64)) (fun u t => gpost D (tyL CA) ([(qo, oc (CA 4) (u.2))] ++ cw CA u.1.1 u.1.2.1 u.1.2.2) (lA h ad qo sz) t) (lA h ad qo sz)) 5 33 (lA h ad qo sz) := by
  refine va_MetW (cc := cL_piece) (maxL := 7) (ret := (some .int)) (hh := [(0, 14, 17, 13), (0, 14, 21, 15), (0, 14, 25, 17)]) (by decide) rfl ?_
  intro p e s m args below meth c s₁ B hml hv
  obtain ⟨rfl, ⟨hsz, hP, hK, hD0⟩, hZ, hN⟩ := hv
  have hx := B.exec
  have hb := B.bytes
  have hr := B.returns
  have hT0 : ∀ w ∈ wL_piece, w.before _ s = true := fun w hw => atoms_spec (ws := wL_piece) B.pre w hw
  have hT : ∀ w ∈ TB, w.before _ s = true := fun w hw => hT0 w (List.mem_cons_of_mem _ hw)
  have hTab := vx_table (x := yL_piece) B (hT0 _ List.mem_cons_self)
  have hown : s.vm.findClass "CountLeastLaw" = some m.cls := findClass_of_methodNamed B.named
  subst hsz
  have hD := D_lA (sz := s.heap.size) hD0
  have hS : va_S (lA h ad qo s.heap.size) s.heap s.heap [] := va_S.rf
  have hP : va_P D vwCl ([(qo, oc (CA 4) (f9))] ++ cw CA g h ad) s.heap := hP
  have hl := lv_entry ([.ref (ad 0), .int kd, .int pt, .int sd, .int z9, .ref qo]) (n := 7) (Nat.le_of_ble_eq_true rfl)
  rw [lg_entry_eq]
  generalize (lg_sl ([.ref (ad 0), .int kd, .int pt, .int sd, .int z9, .ref qo]) ++ List.replicate (7 - (lg_sl ([.ref (ad 0), .int kd, .int pt, .int sd, .int z9, .ref qo])).length) Slot.unset).toArray = ls at hl ⊢
  have hl : lv_has ls 7 [(0, .ref (ad 0)), (1, .int kd), (2, .int pt), (3, .int sd), (4, .int z9), (5, .ref qo)] := hl
  refine lv_aload hx hb dL_piece_0 (lv_at hl 5 rfl) ?_
  refine lv_iconst (v := 0) hx hb dL_piece_2 (by decide) ?_
  refine lv_aload_n hx hb dL_piece_3 rfl (lv_at hl 0 rfl) ?_
  refine lv_iload_n hx hb dL_piece_4 rfl (lv_at hl 1 rfl) ?_
  refine lv_iload_n hx hb dL_piece_5 rfl (lv_at hl 2 rfl) ?_
  refine lv_iload_n hx hb dL_piece_6 rfl (lv_at hl 3 rfl) ?_
  refine lv_iload hx hb dL_piece_7 (lv_at hl 4 rfl) ?_
  refine kLi (n := 4) (D := D) (CA := CA) (wB := [(qo, oc (CA 4) f9)]) (wx := fun z => cw CA z h ad) (g0 := g) (wd := (fun u : (Nat → Nat → Int32) × (Nat → Nat → Nat) × (Nat → Nat) => cw CA u.1 u.2.1 u.2.2)) (te := te3 (ib kd 6 ∨ ib pt 16) (rb sd 0 3 ∨ rb z9 0 30000) (12 ≤ g (3 + 9 * n32 kd) 6)) (As := [.int kd, .int pt, .int sd, .int z9]) (rest := [.int 0, .ref qo]) ⟨hx, hb, hml, hown, hT⟩ (kC_piece l hlt D CA g h ad s.heap.size sa kd pt sd z9 jp hI hlt9) (gi_V wm_116 wm_117 wm_118 wm_1 wm_119) rfl rfl (by decide +kernel) ⟨(Nat.le_of_ble_eq_true rfl), (Nat.le_of_ble_eq_true rfl)⟩ (va_recv hK (P_r hP) (ci := 0) (q0 := 0) rfl cw_X) hZ hK hP hD hS (fun q h9 => Or.inr h9) (fun q h9 hl9 => nA_in (c := cc CA g h ad) q h9 hl9) rfl hl.1 rfl (Nat.le_of_ble_eq_true rfl) dL_piece_9 ⟨(Nat.le_of_ble_eq_true rfl), (Nat.le_of_ble_eq_true rfl)⟩ (fun E ce q9 H locs hte hP hD hS hce hcv hcl => ?_) (fun r0 u9 H locs hpo hP hD hS => ?_)
  · rcases hte with ⟨rfl, hb1⟩ | ⟨rfl, hb1, hb2⟩ | ⟨rfl, hb1, hb2, hb3⟩
    · refine vx_catch hown [] ⟨0, 14, 17, 13⟩ [⟨0, 14, 21, 15⟩, ⟨0, 14, 25, 17⟩] hTab (fun z hz => absurd hz List.not_mem_nil) rfl (by decide) (hT _ wm_113) (xc1 hZ.2.2.1) hce hcv hcl ?_
      refine lv_astore (lv' := [(6, .ref q9), (0, .ref (ad 0)), (1, .int kd), (2, .int pt), (3, .int sd), (4, .int z9), (5, .ref qo)]) hx hb dL_piece_17 hl (by decide) rfl (fun ls hl => ?_)
      refine lv_iconst (v := 1) hx hb dL_piece_19 (by decide) ?_
      exact W.iret (v := 1) hx hb hr (fun t ht hW => ⟨⟨_, ((g, h, ad), f9), rfl, Or.inl ⟨rfl, hb1, rfl⟩, gpost_at hP hK hD ht hW.alike⟩, hS.F ht⟩) hS.2.2 dL_piece_20
    · refine vx_catch hown [⟨0, 14, 17, 13⟩] ⟨0, 14, 21, 15⟩ [⟨0, 14, 25, 17⟩] hTab (fun z hz => by rw [List.mem_singleton.mp hz]; exact Or.inr ⟨by decide, _, (hT _ wm_113), hN.1⟩) rfl (by decide) (hT _ wm_114) (xc2 hZ.2.2.1) hce hcv hcl ?_
      refine lv_astore (lv' := [(6, .ref q9), (0, .ref (ad 0)), (1, .int kd), (2, .int pt), (3, .int sd), (4, .int z9), (5, .ref qo)]) hx hb dL_piece_21 hl (by decide) rfl (fun ls hl => ?_)
      refine lv_iconst (v := 2) hx hb dL_piece_23 (by decide) ?_
      exact W.iret (v := 2) hx hb hr (fun t ht hW => ⟨⟨_, ((g, h, ad), f9), rfl, Or.inr (Or.inl ⟨rfl, hb1, hb2, rfl⟩), gpost_at hP hK hD ht hW.alike⟩, hS.F ht⟩) hS.2.2 dL_piece_24
    · refine vx_catch hown [⟨0, 14, 17, 13⟩, ⟨0, 14, 21, 15⟩] ⟨0, 14, 25, 17⟩ [] hTab (fun z hz => by rcases List.mem_cons.mp hz with rfl | hz; exact Or.inr ⟨by decide, _, (hT _ wm_113), hN.2.1⟩; rw [List.mem_singleton.mp hz]; exact Or.inr ⟨by decide, _, (hT _ wm_114), hN.2.2⟩) rfl (by decide) (hT _ wm_115) (xc3 hZ.2.2.1) hce hcv hcl ?_
      refine lv_astore (lv' := [(6, .ref q9), (0, .ref (ad 0)), (1, .int kd), (2, .int pt), (3, .int sd), (4, .int z9), (5, .ref qo)]) hx hb dL_piece_25 hl (by decide) rfl (fun ls hl => ?_)
      refine lv_iconst (v := 3) hx hb dL_piece_27 (by decide) ?_
      exact W.iret (v := 3) hx hb hr (fun t ht hW => ⟨⟨_, ((g, h, ad), f9), rfl, Or.inr (Or.inr (Or.inl ⟨rfl, hb1, hb2, hb3, rfl⟩)), gpost_at hP hK hD ht hW.alike⟩, hS.F ht⟩) hS.2.2 dL_piece_28
  · refine lv_i2l hx hb dL_piece_12 rfl ?_
    refine va_last (D := D) hx hb hK hP hD hS 0 4 rfl rfl (vp_in_nI (n := 0) (N := 1) (by decide) (by decide)) dL_piece_13 (fun H locs hP hD hS => ?_)
    have hP : va_P D vwCl ([(qo, oc (CA 4) (vp_updL f9 0 r0.toInt64))] ++ cw CA u9.1 u9.2.1 u9.2.2) H := hP
    have hD : va_D (lA h ad qo s.heap.size) ([(qo, oc (CA 4) (vp_updL f9 0 r0.toInt64))] ++ cw CA u9.1 u9.2.1 u9.2.2) := hD
    refine lv_goto (tgt := 29) hx hb dL_piece_14 (by decide) ?_
    refine lv_iconst (v := 0) hx hb dL_piece_29 (by decide) ?_
    exact W.iret (v := 0) hx hb hr (fun t ht hW => ⟨⟨_, (u9, vp_updL f9 0 r0.toInt64), rfl, Or.inr (Or.inr (Or.inr ⟨rfl, r0, hpo, by simp [vp_updL]⟩)), gpost_at hP hK hD ht hW.alike⟩, hS.F ht⟩) hS.2.2 dL_piece_30
set_option maxHeartbeats 4000000 in
set_option maxRecDepth 100000 in
theorem kL_single (l : Launch) (hlt : l.stackTraces = false) (D : va_G) (CA : Nat → ClassId) (g : Nat → Nat → Int32) (h : Nat → Nat → Nat) (ad : Nat → Nat) (sz : Nat) (sa : Nat → Nat) (qo : Nat) (f9 : Nat → Int64) (kd pt z : Int32) (hz9 : z = 0 ∨ z = 1) : Met l yL_single wL_single (rm 2 2 12) (va_Pc [.ref (ad 0), .int kd, .int pt, .int z, .ref qo] (fun U => gpre D (tyL CA) ([(qo, oc (CA 4) (f9))] ++ cw CA g h ad) sz U ∧ xz (lA h ad qo sz) sa U U.heap ∧ xn U)) (va_Qi (fun (r : Int32) (u : (Nat → Nat → Int32) × (Nat → Int64)) => w4 (ib kd 6 ∨ ib pt 16) False False r (u = (g, f9)) (∃ r0, (fun (r : Int32) (u : Nat → Nat → Int32) => ¬ (ib kd 6 ∨ ib pt 16) ∧ ∃ k j, k < 6 ∧ j < 16 ∧ kd = nI k ∧ pt = nI j ∧ r = (if g (4 + 9 * k) j = z then 0 else 1) ∧ u = (u2 (u2 g (4 + 9 * k) j z) (3 + 9 * k) 7 1)) r0 u.1 ∧ u.2 0 = (if r0 = 0 then 0 else 1))) (fun u t => gpost D (tyL CA) ([(qo, oc (CA 4) (u.2))] ++ cw CA u.1 h ad) (lA h ad qo sz) t) (lA h ad qo sz)) 2 12 (lA h ad qo sz) := by
  refine va_MetW (cc := cL_single) (maxL := 6) (ret := (some .int)) (hh := [(0, 19, 22, 13)]) (by decide) rfl ?_
  intro p e s m args below meth c s₁ B hml hv
  obtain ⟨rfl, ⟨hsz, hP, hK, hD0⟩, hZ, hN⟩ := hv
  have hx := B.exec
  have hb := B.bytes
  have hr := B.returns
  have hT0 : ∀ w ∈ wL_single, w.before _ s = true := fun w hw => atoms_spec (ws := wL_single) B.pre w hw
  have hT : ∀ w ∈ TB, w.before _ s = true := fun w hw => hT0 w (List.mem_cons_of_mem _ hw)
  have hTab := vx_table (x := yL_single) B (hT0 _ List.mem_cons_self)
  have hown : s.vm.findClass "CountLeastLaw" = some m.cls := findClass_of_methodNamed B.named
  subst hsz
  have hD := D_lA (sz := s.heap.size) hD0
  have hS : va_S (lA h ad qo s.heap.size) s.heap s.heap [] := va_S.rf
  have hP : va_P D vwCl ([(qo, oc (CA 4) (f9))] ++ cw CA g h ad) s.heap := hP
  have hl := lv_entry ([.ref (ad 0), .int kd, .int pt, .int z, .ref qo]) (n := 6) (Nat.le_of_ble_eq_true rfl)
  rw [lg_entry_eq]
  generalize (lg_sl ([.ref (ad 0), .int kd, .int pt, .int z, .ref qo]) ++ List.replicate (6 - (lg_sl ([.ref (ad 0), .int kd, .int pt, .int z, .ref qo])).length) Slot.unset).toArray = ls at hl ⊢
  have hl : lv_has ls 6 [(0, .ref (ad 0)), (1, .int kd), (2, .int pt), (3, .int z), (4, .ref qo)] := hl
  refine lv_aload hx hb dL_single_0 (lv_at hl 4 rfl) ?_
  refine lv_iconst (v := 0) hx hb dL_single_2 (by decide) ?_
  refine lv_aload_n hx hb dL_single_3 rfl (lv_at hl 0 rfl) ?_
  refine lv_iload_n hx hb dL_single_4 rfl (lv_at hl 1 rfl) ?_
  refine lv_iload_n hx hb dL_single_5 rfl (lv_at hl 2 rfl) ?_
  refine lv_iload_n hx hb dL_single_6 rfl (lv_at hl 3 rfl) ?_
  refine kLi (n := 3) (D := D) (CA := CA) (wB := [(qo, oc (CA 4) f9)]) (wx := fun z => cw CA z h ad) (g0 := g) (wd := (fun u : Nat → Nat → Int32 => cw CA u h ad)) (te := te3 (ib kd 6 ∨ ib pt 16) False False) (As := [.int kd, .int pt, .int z]) (rest := [.int 0, .ref qo]) ⟨hx, hb, hml, hown, hT⟩ (kC_single l hlt D CA g h ad s.heap.size sa kd pt z hz9) (gi_V wm_285 wm_286 wm_287 wm_1 wm_288) rfl rfl (by decide +kernel) ⟨(Nat.le_of_ble_eq_true rfl), (Nat.le_of_ble_eq_true rfl)⟩ (va_recv hK (P_r hP) (ci := 0) (q0 := 0) rfl cw_X) hZ hK hP hD hS (fun q h9 => Or.inr h9) (fun q h9 hl9 => nA_in (c := cc CA g h ad) q h9 hl9) rfl hl.1 rfl (Nat.le_of_ble_eq_true rfl) dL_single_7 ⟨(Nat.le_of_ble_eq_true rfl), (Nat.le_of_ble_eq_true rfl)⟩ (fun E ce q9 H locs hte hP hD hS hce hcv hcl => ?_) (fun r0 u9 H locs hpo hP hD hS => ?_)
  · rcases hte with ⟨rfl, hb1⟩ | ⟨-, -, hb9⟩ | ⟨-, -, -, hb9⟩
    · refine vx_catch hown [] ⟨0, 19, 22, 13⟩ [] hTab (fun z hz => absurd hz List.not_mem_nil) rfl (by decide) (hT _ wm_113) (xc1 hZ.2.2.1) hce hcv hcl ?_
      refine lv_astore (lv' := [(5, .ref q9), (0, .ref (ad 0)), (1, .int kd), (2, .int pt), (3, .int z), (4, .ref qo)]) hx hb dL_single_22 hl (by decide) rfl (fun ls hl => ?_)
      refine lv_iconst (v := 1) hx hb dL_single_24 (by decide) ?_
      exact W.iret (v := 1) hx hb hr (fun t ht hW => ⟨⟨_, (g, f9), rfl, Or.inl ⟨rfl, hb1, rfl⟩, gpost_at hP hK hD ht hW.alike⟩, hS.F ht⟩) hS.2.2 dL_single_25
    · exact hb9.elim
    · exact hb9.elim
  · refine lv_if_eq (tgt := 17) hx hb dL_single_10 (by decide) (fun c_1 => ?_) (fun c_1 => ?_)
    · refine lv_lconst (v := 0) hx hb dL_single_17 (by decide) ?_
      refine va_last (D := D) hx hb hK hP hD hS 0 4 rfl rfl (vp_in_nI (n := 0) (N := 1) (by decide) (by decide)) dL_single_18 (fun H locs hP hD hS => ?_)
      have hP : va_P D vwCl ([(qo, oc (CA 4) (vp_updL f9 0 0))] ++ cw CA u9 h ad) H := hP
      have hD : va_D (lA h ad qo s.heap.size) ([(qo, oc (CA 4) (vp_updL f9 0 0))] ++ cw CA u9 h ad) := hD
      refine lv_goto (tgt := 26) hx hb dL_single_19 (by decide) ?_
      refine lv_iconst (v := 0) hx hb dL_single_26 (by decide) ?_
      exact W.iret (v := 0) hx hb hr (fun t ht hW => ⟨⟨_, (u9, vp_updL f9 0 0), rfl, Or.inr (Or.inr (Or.inr ⟨rfl, r0, hpo, by simp [vp_updL, c_1]⟩)), gpost_at hP hK hD ht hW.alike⟩, hS.F ht⟩) hS.2.2 dL_single_27
    · refine lv_lconst (v := 1) hx hb dL_single_13 (by decide) ?_
      refine lv_goto (tgt := 18) hx hb dL_single_14 (by decide) ?_
      refine va_last (D := D) hx hb hK hP hD hS 0 4 rfl rfl (vp_in_nI (n := 0) (N := 1) (by decide) (by decide)) dL_single_18 (fun H locs hP hD hS => ?_)
      have hP : va_P D vwCl ([(qo, oc (CA 4) (vp_updL f9 0 1))] ++ cw CA u9 h ad) H := hP
      have hD : va_D (lA h ad qo s.heap.size) ([(qo, oc (CA 4) (vp_updL f9 0 1))] ++ cw CA u9 h ad) := hD
      refine lv_goto (tgt := 26) hx hb dL_single_19 (by decide) ?_
      refine lv_iconst (v := 0) hx hb dL_single_26 (by decide) ?_
      exact W.iret (v := 0) hx hb hr (fun t ht hW => ⟨⟨_, (u9, vp_updL f9 0 1), rfl, Or.inr (Or.inr (Or.inr ⟨rfl, r0, hpo, by simp [vp_updL, c_1]⟩)), gpost_at hP hK hD ht hW.alike⟩, hS.F ht⟩) hS.2.2 dL_single_27
set_option maxHeartbeats 4000000 in
set_option maxRecDepth 100000 in
theorem kL_bound (l : Launch) (hlt : l.stackTraces = false) (D : va_G) (CA : Nat → ClassId) (g : Nat → Nat → Int32) (h : Nat → Nat → Nat) (ad : Nat → Nat) (sz : Nat) (sa : Nat → Nat) (qo : Nat) (f9 : Nat → Int64) (kd tn : Int32) : Met l yL_bound wL_bound (rm 2 2 12) (va_Pc [.ref (ad 0), .int kd, .int tn, .ref qo] (fun U => gpre D (tyL CA) ([(qo, oc (CA 4) (f9))] ++ cw CA g h ad) sz U ∧ xz (lA h ad qo sz) sa U U.heap ∧ xn U)) (va_Qi (fun (r : Int32) (u : (Nat → Nat → Int32) × (Nat → Int64)) => w4 (ib kd 6) (rb tn 0 30000) False r (u = (g, f9)) (∃ r0, (fun (r : Int32) (u : Nat → Nat → Int32) => ¬ (ib kd 6) ∧ ¬ (rb tn 0 30000) ∧ ∃ k, k < 6 ∧ kd = nI k ∧ r = g (3 + 9 * k) 3 ∧ u = (u2 (u2 g (3 + 9 * k) 3 tn) (3 + 9 * k) 7 1)) r0 u.1 ∧ u.2 0 = r0.toInt64)) (fun u t => gpost D (tyL CA) ([(qo, oc (CA 4) (u.2))] ++ cw CA u.1 h ad) (lA h ad qo sz) t) (lA h ad qo sz)) 2 12 (lA h ad qo sz) := by
  refine va_MetW (cc := cL_bound) (maxL := 5) (ret := (some .int)) (hh := [(0, 10, 13, 13), (0, 10, 17, 15)]) (by decide) rfl ?_
  intro p e s m args below meth c s₁ B hml hv
  obtain ⟨rfl, ⟨hsz, hP, hK, hD0⟩, hZ, hN⟩ := hv
  have hx := B.exec
  have hb := B.bytes
  have hr := B.returns
  have hT0 : ∀ w ∈ wL_bound, w.before _ s = true := fun w hw => atoms_spec (ws := wL_bound) B.pre w hw
  have hT : ∀ w ∈ TB, w.before _ s = true := fun w hw => hT0 w (List.mem_cons_of_mem _ hw)
  have hTab := vx_table (x := yL_bound) B (hT0 _ List.mem_cons_self)
  have hown : s.vm.findClass "CountLeastLaw" = some m.cls := findClass_of_methodNamed B.named
  subst hsz
  have hD := D_lA (sz := s.heap.size) hD0
  have hS : va_S (lA h ad qo s.heap.size) s.heap s.heap [] := va_S.rf
  have hP : va_P D vwCl ([(qo, oc (CA 4) (f9))] ++ cw CA g h ad) s.heap := hP
  have hl := lv_entry ([.ref (ad 0), .int kd, .int tn, .ref qo]) (n := 5) (Nat.le_of_ble_eq_true rfl)
  rw [lg_entry_eq]
  generalize (lg_sl ([.ref (ad 0), .int kd, .int tn, .ref qo]) ++ List.replicate (5 - (lg_sl ([.ref (ad 0), .int kd, .int tn, .ref qo])).length) Slot.unset).toArray = ls at hl ⊢
  have hl : lv_has ls 5 [(0, .ref (ad 0)), (1, .int kd), (2, .int tn), (3, .ref qo)] := hl
  refine lv_aload_n hx hb dL_bound_0 rfl (lv_at hl 3 rfl) ?_
  refine lv_iconst (v := 0) hx hb dL_bound_1 (by decide) ?_
  refine lv_aload_n hx hb dL_bound_2 rfl (lv_at hl 0 rfl) ?_
  refine lv_iload_n hx hb dL_bound_3 rfl (lv_at hl 1 rfl) ?_
  refine lv_iload_n hx hb dL_bound_4 rfl (lv_at hl 2 rfl) ?_
  refine kLi (n := 2) (D := D) (CA := CA) (wB := [(qo, oc (CA 4) f9)]) (wx := fun z => cw CA z h ad) (g0 := g) (wd := (fun u : Nat → Nat → Int32 => cw CA u h ad)) (te := te3 (ib kd 6) (rb tn 0 30000) False) (As := [.int kd, .int tn]) (rest := [.int 0, .ref qo]) ⟨hx, hb, hml, hown, hT⟩ (kC_bound l hlt D CA g h ad s.heap.size sa kd tn) (gi_V wm_292 wm_293 wm_294 wm_1 wm_295) rfl rfl (by decide +kernel) ⟨(Nat.le_of_ble_eq_true rfl), (Nat.le_of_ble_eq_true rfl)⟩ (va_recv hK (P_r hP) (ci := 0) (q0 := 0) rfl cw_X) hZ hK hP hD hS (fun q h9 => Or.inr h9) (fun q h9 hl9 => nA_in (c := cc CA g h ad) q h9 hl9) rfl hl.1 rfl (Nat.le_of_ble_eq_true rfl) dL_bound_5 ⟨(Nat.le_of_ble_eq_true rfl), (Nat.le_of_ble_eq_true rfl)⟩ (fun E ce q9 H locs hte hP hD hS hce hcv hcl => ?_) (fun r0 u9 H locs hpo hP hD hS => ?_)
  · rcases hte with ⟨rfl, hb1⟩ | ⟨rfl, hb1, hb2⟩ | ⟨-, -, -, hb9⟩
    · refine vx_catch hown [] ⟨0, 10, 13, 13⟩ [⟨0, 10, 17, 15⟩] hTab (fun z hz => absurd hz List.not_mem_nil) rfl (by decide) (hT _ wm_113) (xc1 hZ.2.2.1) hce hcv hcl ?_
      refine lv_astore (lv' := [(4, .ref q9), (0, .ref (ad 0)), (1, .int kd), (2, .int tn), (3, .ref qo)]) hx hb dL_bound_13 hl (by decide) rfl (fun ls hl => ?_)
      refine lv_iconst (v := 1) hx hb dL_bound_15 (by decide) ?_
      exact W.iret (v := 1) hx hb hr (fun t ht hW => ⟨⟨_, (g, f9), rfl, Or.inl ⟨rfl, hb1, rfl⟩, gpost_at hP hK hD ht hW.alike⟩, hS.F ht⟩) hS.2.2 dL_bound_16
    · refine vx_catch hown [⟨0, 10, 13, 13⟩] ⟨0, 10, 17, 15⟩ [] hTab (fun z hz => by rw [List.mem_singleton.mp hz]; exact Or.inr ⟨by decide, _, (hT _ wm_113), hN.1⟩) rfl (by decide) (hT _ wm_114) (xc2 hZ.2.2.1) hce hcv hcl ?_
      refine lv_astore (lv' := [(4, .ref q9), (0, .ref (ad 0)), (1, .int kd), (2, .int tn), (3, .ref qo)]) hx hb dL_bound_17 hl (by decide) rfl (fun ls hl => ?_)
      refine lv_iconst (v := 2) hx hb dL_bound_19 (by decide) ?_
      exact W.iret (v := 2) hx hb hr (fun t ht hW => ⟨⟨_, (g, f9), rfl, Or.inr (Or.inl ⟨rfl, hb1, hb2, rfl⟩), gpost_at hP hK hD ht hW.alike⟩, hS.F ht⟩) hS.2.2 dL_bound_20
    · exact hb9.elim
  · refine lv_i2l hx hb dL_bound_8 rfl ?_
    refine va_last (D := D) hx hb hK hP hD hS 0 4 rfl rfl (vp_in_nI (n := 0) (N := 1) (by decide) (by decide)) dL_bound_9 (fun H locs hP hD hS => ?_)
    have hP : va_P D vwCl ([(qo, oc (CA 4) (vp_updL f9 0 r0.toInt64))] ++ cw CA u9 h ad) H := hP
    have hD : va_D (lA h ad qo s.heap.size) ([(qo, oc (CA 4) (vp_updL f9 0 r0.toInt64))] ++ cw CA u9 h ad) := hD
    refine lv_goto (tgt := 21) hx hb dL_bound_10 (by decide) ?_
    refine lv_iconst (v := 0) hx hb dL_bound_21 (by decide) ?_
    exact W.iret (v := 0) hx hb hr (fun t ht hW => ⟨⟨_, (u9, vp_updL f9 0 r0.toInt64), rfl, Or.inr (Or.inr (Or.inr ⟨rfl, r0, hpo, by simp [vp_updL]⟩)), gpost_at hP hK hD ht hW.alike⟩, hS.F ht⟩) hS.2.2 dL_bound_22
set_option maxHeartbeats 4000000 in
set_option maxRecDepth 100000 in
theorem kL_table (l : Launch) (hlt : l.stackTraces = false) (D : va_G) (CA : Nat → ClassId) (g : Nat → Nat → Int32) (h : Nat → Nat → Nat) (ad : Nat → Nat) (sz : Nat) (sa : Nat → Nat) (qo : Nat) (f9 : Nat → Int64) (kd wr fr tt : Int32) : Met l yL_table wL_table (rm 2 4 24) (va_Pc [.ref (ad 0), .int kd, .int wr, .int fr, .int tt] (fun U => gpre D (tyL CA) ([(qo, oc (CA 4) (f9))] ++ cw CA g h ad) sz U ∧ xz (lA h ad qo sz) sa U U.heap ∧ xn U)) (va_Qi (fun (r : Int32) (u : (Nat → Nat → Int32) × (Nat → Int64)) => w4 (ib kd 6 ∨ ib wr 16) (rb tt 0 999 ∨ rb fr 0 tt) False r (u = (g, f9)) ((fun (u : Nat → Nat → Int32) => ¬ (ib kd 6 ∨ ib wr 16) ∧ ¬ (rb tt 0 999 ∨ rb fr 0 tt) ∧ ∃ k j, k < 6 ∧ j < 16 ∧ kd = nI k ∧ wr = nI j ∧ u = (u2 (u2 g (5 + 9 * k) j fr) (6 + 9 * k) j tt)) u.1 ∧ u.2 = f9)) (fun u t => gpost D (tyL CA) ([(qo, oc (CA 4) (u.2))] ++ cw CA u.1 h ad) (lA h ad qo sz) t) (lA h ad qo sz)) 4 24 (lA h ad qo sz) := by
  refine va_MetW (cc := cL_table) (maxL := 6) (ret := (some .int)) (hh := [(0, 9, 12, 13), (0, 9, 16, 15)]) (by decide) rfl ?_
  intro p e s m args below meth c s₁ B hml hv
  obtain ⟨rfl, ⟨hsz, hP, hK, hD0⟩, hZ, hN⟩ := hv
  have hx := B.exec
  have hb := B.bytes
  have hr := B.returns
  have hT0 : ∀ w ∈ wL_table, w.before _ s = true := fun w hw => atoms_spec (ws := wL_table) B.pre w hw
  have hT : ∀ w ∈ TB, w.before _ s = true := fun w hw => hT0 w (List.mem_cons_of_mem _ hw)
  have hTab := vx_table (x := yL_table) B (hT0 _ List.mem_cons_self)
  have hown : s.vm.findClass "CountLeastLaw" = some m.cls := findClass_of_methodNamed B.named
  subst hsz
  have hD := D_lA (sz := s.heap.size) hD0
  have hS : va_S (lA h ad qo s.heap.size) s.heap s.heap [] := va_S.rf
  have hP : va_P D vwCl ([(qo, oc (CA 4) (f9))] ++ cw CA g h ad) s.heap := hP
  have hl := lv_entry ([.ref (ad 0), .int kd, .int wr, .int fr, .int tt]) (n := 6) (Nat.le_of_ble_eq_true rfl)
  rw [lg_entry_eq]
  generalize (lg_sl ([.ref (ad 0), .int kd, .int wr, .int fr, .int tt]) ++ List.replicate (6 - (lg_sl ([.ref (ad 0), .int kd, .int wr, .int fr, .int tt])).length) Slot.unset).toArray = ls at hl ⊢
  have hl : lv_has ls 6 [(0, .ref (ad 0)), (1, .int kd), (2, .int wr), (3, .int fr), (4, .int tt)] := hl
  refine lv_aload_n hx hb dL_table_0 rfl (lv_at hl 0 rfl) ?_
  refine lv_iload_n hx hb dL_table_1 rfl (lv_at hl 1 rfl) ?_
  refine lv_iload_n hx hb dL_table_2 rfl (lv_at hl 2 rfl) ?_
  refine lv_iload_n hx hb dL_table_3 rfl (lv_at hl 3 rfl) ?_
  refine lv_iload hx hb dL_table_4 (lv_at hl 4 rfl) ?_
  refine kLv (n := 4) (D := D) (CA := CA) (wB := [(qo, oc (CA 4) f9)]) (wx := fun z => cw CA z h ad) (g0 := g) (wd := (fun u : Nat → Nat → Int32 => cw CA u h ad)) (te := te3 (ib kd 6 ∨ ib wr 16) (rb tt 0 999 ∨ rb fr 0 tt) False) (As := [.int kd, .int wr, .int fr, .int tt]) (rest := []) ⟨hx, hb, hml, hown, hT⟩ (kC_table l hlt D CA g h ad s.heap.size sa kd wr fr tt) (gi_V wm_299 wm_300 wm_301 wm_1 wm_302) rfl rfl (by decide +kernel) ⟨(Nat.le_of_ble_eq_true rfl), (Nat.le_of_ble_eq_true rfl)⟩ (va_recv hK (P_r hP) (ci := 0) (q0 := 0) rfl cw_X) hZ hK hP hD hS (fun q h9 => Or.inr h9) (fun q h9 hl9 => nA_in (c := cc CA g h ad) q h9 hl9) rfl hl.1 rfl (Nat.le_of_ble_eq_true rfl) dL_table_6 ⟨(Nat.le_of_ble_eq_true rfl), (Nat.le_of_ble_eq_true rfl)⟩ (fun E ce q9 H locs hte hP hD hS hce hcv hcl => ?_) (fun u9 H locs hpo hP hD hS => ?_)
  · rcases hte with ⟨rfl, hb1⟩ | ⟨rfl, hb1, hb2⟩ | ⟨-, -, -, hb9⟩
    · refine vx_catch hown [] ⟨0, 9, 12, 13⟩ [⟨0, 9, 16, 15⟩] hTab (fun z hz => absurd hz List.not_mem_nil) rfl (by decide) (hT _ wm_113) (xc1 hZ.2.2.1) hce hcv hcl ?_
      refine lv_astore (lv' := [(5, .ref q9), (0, .ref (ad 0)), (1, .int kd), (2, .int wr), (3, .int fr), (4, .int tt)]) hx hb dL_table_12 hl (by decide) rfl (fun ls hl => ?_)
      refine lv_iconst (v := 1) hx hb dL_table_14 (by decide) ?_
      exact W.iret (v := 1) hx hb hr (fun t ht hW => ⟨⟨_, (g, f9), rfl, Or.inl ⟨rfl, hb1, rfl⟩, gpost_at hP hK hD ht hW.alike⟩, hS.F ht⟩) hS.2.2 dL_table_15
    · refine vx_catch hown [⟨0, 9, 12, 13⟩] ⟨0, 9, 16, 15⟩ [] hTab (fun z hz => by rw [List.mem_singleton.mp hz]; exact Or.inr ⟨by decide, _, (hT _ wm_113), hN.1⟩) rfl (by decide) (hT _ wm_114) (xc2 hZ.2.2.1) hce hcv hcl ?_
      refine lv_astore (lv' := [(5, .ref q9), (0, .ref (ad 0)), (1, .int kd), (2, .int wr), (3, .int fr), (4, .int tt)]) hx hb dL_table_16 hl (by decide) rfl (fun ls hl => ?_)
      refine lv_iconst (v := 2) hx hb dL_table_18 (by decide) ?_
      exact W.iret (v := 2) hx hb hr (fun t ht hW => ⟨⟨_, (g, f9), rfl, Or.inr (Or.inl ⟨rfl, hb1, hb2, rfl⟩), gpost_at hP hK hD ht hW.alike⟩, hS.F ht⟩) hS.2.2 dL_table_19
    · exact hb9.elim
  · refine lv_goto (tgt := 20) hx hb dL_table_9 (by decide) ?_
    refine lv_iconst (v := 0) hx hb dL_table_20 (by decide) ?_
    exact W.iret (v := 0) hx hb hr (fun t ht hW => ⟨⟨_, (u9, f9), rfl, Or.inr (Or.inr (Or.inr ⟨rfl, hpo, rfl⟩)), gpost_at hP hK hD ht hW.alike⟩, hS.F ht⟩) hS.2.2 dL_table_21
set_option maxHeartbeats 4000000 in
set_option maxRecDepth 100000 in
theorem kL_worn (l : Launch) (hlt : l.stackTraces = false) (D : va_G) (CA : Nat → ClassId) (g : Nat → Nat → Int32) (h : Nat → Nat → Nat) (ad : Nat → Nat) (sz : Nat) (sa : Nat → Nat) (qo : Nat) (f9 : Nat → Int64) (pn wr : Int32) (hn72 : h 0 0 ≤ 72) (hg0 : g 0 2 = nI (h 0 0)) (hq6 : ∀ p, p < h 0 0 → h 2 p < 6) : Met l yL_worn wL_worn (rm 2 2 12) (va_Pc [.ref (ad 0), .int pn, .int wr] (fun U => gpre D (tyL CA) ([(qo, oc (CA 4) (f9))] ++ cw CA g h ad) sz U ∧ xz (lA h ad qo sz) sa U U.heap ∧ xn U)) (va_Qi (fun (r : Int32) (u : (Nat → Nat → Int32) × (Nat → Int64)) => w4 (ib pn (g 0 2) ∨ ib wr 16) False False r (u = (g, f9)) ((fun (u : Nat → Nat → Int32) => ¬ (ib pn (g 0 2) ∨ ib wr 16) ∧ ∃ p j, p < h 0 0 ∧ j < 16 ∧ pn = nI p ∧ wr = nI j ∧ u = (u2 (u2 (u2 g (57 + p) 6 (g (5 + 9 * (h 2 p)) j)) (57 + p) 7 ((u2 g (57 + p) 6 (g (5 + 9 * (h 2 p)) j)) (6 + 9 * (h 2 p)) j)) (3 + 9 * (h 2 p)) 7 1)) u.1 ∧ u.2 = f9)) (fun u t => gpost D (tyL CA) ([(qo, oc (CA 4) (u.2))] ++ cw CA u.1 h ad) (lA h ad qo sz) t) (lA h ad qo sz)) 2 12 (lA h ad qo sz) := by
  refine va_MetW (cc := cL_worn) (maxL := 4) (ret := (some .int)) (hh := [(0, 6, 9, 13)]) (by decide) rfl ?_
  intro p e s m args below meth c s₁ B hml hv
  obtain ⟨rfl, ⟨hsz, hP, hK, hD0⟩, hZ, hN⟩ := hv
  have hx := B.exec
  have hb := B.bytes
  have hr := B.returns
  have hT0 : ∀ w ∈ wL_worn, w.before _ s = true := fun w hw => atoms_spec (ws := wL_worn) B.pre w hw
  have hT : ∀ w ∈ TB, w.before _ s = true := fun w hw => hT0 w (List.mem_cons_of_mem _ hw)
  have hTab := vx_table (x := yL_worn) B (hT0 _ List.mem_cons_self)
  have hown : s.vm.findClass "CountLeastLaw" = some m.cls := findClass_of_methodNamed B.named
  subst hsz
  have hD := D_lA (sz := s.heap.size) hD0
  have hS : va_S (lA h ad qo s.heap.size) s.heap s.heap [] := va_S.rf
  have hP : va_P D vwCl ([(qo, oc (CA 4) (f9))] ++ cw CA g h ad) s.heap := hP
  have hl := lv_entry ([.ref (ad 0), .int pn, .int wr]) (n := 4) (Nat.le_of_ble_eq_true rfl)
  rw [lg_entry_eq]
  generalize (lg_sl ([.ref (ad 0), .int pn, .int wr]) ++ List.replicate (4 - (lg_sl ([.ref (ad 0), .int pn, .int wr])).length) Slot.unset).toArray = ls at hl ⊢
  have hl : lv_has ls 4 [(0, .ref (ad 0)), (1, .int pn), (2, .int wr)] := hl
  refine lv_aload_n hx hb dL_worn_0 rfl (lv_at hl 0 rfl) ?_
  refine lv_iload_n hx hb dL_worn_1 rfl (lv_at hl 1 rfl) ?_
  refine lv_iload_n hx hb dL_worn_2 rfl (lv_at hl 2 rfl) ?_
  refine kLv (n := 2) (D := D) (CA := CA) (wB := [(qo, oc (CA 4) f9)]) (wx := fun z => cw CA z h ad) (g0 := g) (wd := (fun u : Nat → Nat → Int32 => cw CA u h ad)) (te := te3 (ib pn (g 0 2) ∨ ib wr 16) False False) (As := [.int pn, .int wr]) (rest := []) ⟨hx, hb, hml, hown, hT⟩ (kC_worn l hlt D CA g h ad s.heap.size sa pn wr hn72 hg0 hq6) (gi_V wm_306 wm_307 wm_308 wm_1 wm_309) rfl rfl (by decide +kernel) ⟨(Nat.le_of_ble_eq_true rfl), (Nat.le_of_ble_eq_true rfl)⟩ (va_recv hK (P_r hP) (ci := 0) (q0 := 0) rfl cw_X) hZ hK hP hD hS (fun q h9 => Or.inr h9) (fun q h9 hl9 => nA_in (c := cc CA g h ad) q h9 hl9) rfl hl.1 rfl (Nat.le_of_ble_eq_true rfl) dL_worn_3 ⟨(Nat.le_of_ble_eq_true rfl), (Nat.le_of_ble_eq_true rfl)⟩ (fun E ce q9 H locs hte hP hD hS hce hcv hcl => ?_) (fun u9 H locs hpo hP hD hS => ?_)
  · rcases hte with ⟨rfl, hb1⟩ | ⟨-, -, hb9⟩ | ⟨-, -, -, hb9⟩
    · refine vx_catch hown [] ⟨0, 6, 9, 13⟩ [] hTab (fun z hz => absurd hz List.not_mem_nil) rfl (by decide) (hT _ wm_113) (xc1 hZ.2.2.1) hce hcv hcl ?_
      refine lv_astore_n (lv' := [(3, .ref q9), (0, .ref (ad 0)), (1, .int pn), (2, .int wr)]) hx hb dL_worn_9 rfl hl (by decide) rfl (fun ls hl => ?_)
      refine lv_iconst (v := 1) hx hb dL_worn_10 (by decide) ?_
      exact W.iret (v := 1) hx hb hr (fun t ht hW => ⟨⟨_, (g, f9), rfl, Or.inl ⟨rfl, hb1, rfl⟩, gpost_at hP hK hD ht hW.alike⟩, hS.F ht⟩) hS.2.2 dL_worn_11
    · exact hb9.elim
    · exact hb9.elim
  · refine lv_goto (tgt := 12) hx hb dL_worn_6 (by decide) ?_
    refine lv_iconst (v := 0) hx hb dL_worn_12 (by decide) ?_
    exact W.iret (v := 0) hx hb hr (fun t ht hW => ⟨⟨_, (u9, f9), rfl, Or.inr (Or.inr (Or.inr ⟨rfl, hpo, rfl⟩)), gpost_at hP hK hD ht hW.alike⟩, hS.F ht⟩) hS.2.2 dL_worn_13
set_option maxHeartbeats 4000000 in
set_option maxRecDepth 100000 in
theorem kL_aged (l : Launch) (hlt : l.stackTraces = false) (D : va_G) (CA : Nat → ClassId) (g : Nat → Nat → Int32) (h : Nat → Nat → Nat) (ad : Nat → Nat) (sz : Nat) (sa : Nat → Nat) (qo : Nat) (f9 : Nat → Int64) (pn en : Int32) (hn72 : h 0 0 ≤ 72) (hg0 : g 0 2 = nI (h 0 0)) : Met l yL_aged wL_aged (rm 2 2 12) (va_Pc [.ref (ad 0), .int pn, .int en, .ref qo] (fun U => gpre D (tyL CA) ([(qo, oc (CA 4) (f9))] ++ cw CA g h ad) sz U ∧ xz (lA h ad qo sz) sa U U.heap ∧ xn U)) (va_Qi (fun (r : Int32) (u : (Nat → Nat → Int32) × (Nat → Int64)) => w4 (ib pn (g 0 2) ∨ ib en 2) False False r (u = (g, f9)) (∃ r0, (fun (r : Int32) (u : Nat → Nat → Int32) => ¬ (ib pn (g 0 2) ∨ ib en 2) ∧ ∃ p, p < h 0 0 ∧ pn = nI p ∧ r = (if en = 0 then g (57 + p) 6 else g (57 + p) 7) ∧ u = g) r0 u.1 ∧ u.2 0 = r0.toInt64)) (fun u t => gpost D (tyL CA) ([(qo, oc (CA 4) (u.2))] ++ cw CA u.1 h ad) (lA h ad qo sz) t) (lA h ad qo sz)) 2 12 (lA h ad qo sz) := by
  refine va_MetW (cc := cL_aged) (maxL := 5) (ret := (some .int)) (hh := [(0, 10, 13, 13)]) (by decide) rfl ?_
  intro p e s m args below meth c s₁ B hml hv
  obtain ⟨rfl, ⟨hsz, hP, hK, hD0⟩, hZ, hN⟩ := hv
  have hx := B.exec
  have hb := B.bytes
  have hr := B.returns
  have hT0 : ∀ w ∈ wL_aged, w.before _ s = true := fun w hw => atoms_spec (ws := wL_aged) B.pre w hw
  have hT : ∀ w ∈ TB, w.before _ s = true := fun w hw => hT0 w (List.mem_cons_of_mem _ hw)
  have hTab := vx_table (x := yL_aged) B (hT0 _ List.mem_cons_self)
  have hown : s.vm.findClass "CountLeastLaw" = some m.cls := findClass_of_methodNamed B.named
  subst hsz
  have hD := D_lA (sz := s.heap.size) hD0
  have hS : va_S (lA h ad qo s.heap.size) s.heap s.heap [] := va_S.rf
  have hP : va_P D vwCl ([(qo, oc (CA 4) (f9))] ++ cw CA g h ad) s.heap := hP
  have hl := lv_entry ([.ref (ad 0), .int pn, .int en, .ref qo]) (n := 5) (Nat.le_of_ble_eq_true rfl)
  rw [lg_entry_eq]
  generalize (lg_sl ([.ref (ad 0), .int pn, .int en, .ref qo]) ++ List.replicate (5 - (lg_sl ([.ref (ad 0), .int pn, .int en, .ref qo])).length) Slot.unset).toArray = ls at hl ⊢
  have hl : lv_has ls 5 [(0, .ref (ad 0)), (1, .int pn), (2, .int en), (3, .ref qo)] := hl
  refine lv_aload_n hx hb dL_aged_0 rfl (lv_at hl 3 rfl) ?_
  refine lv_iconst (v := 0) hx hb dL_aged_1 (by decide) ?_
  refine lv_aload_n hx hb dL_aged_2 rfl (lv_at hl 0 rfl) ?_
  refine lv_iload_n hx hb dL_aged_3 rfl (lv_at hl 1 rfl) ?_
  refine lv_iload_n hx hb dL_aged_4 rfl (lv_at hl 2 rfl) ?_
  refine kLi (n := 2) (D := D) (CA := CA) (wB := [(qo, oc (CA 4) f9)]) (wx := fun z => cw CA z h ad) (g0 := g) (wd := (fun u : Nat → Nat → Int32 => cw CA u h ad)) (te := te3 (ib pn (g 0 2) ∨ ib en 2) False False) (As := [.int pn, .int en]) (rest := [.int 0, .ref qo]) ⟨hx, hb, hml, hown, hT⟩ (kC_aged l hlt D CA g h ad s.heap.size sa pn en hn72 hg0) (gi_V wm_318 wm_319 wm_320 wm_1 wm_321) rfl rfl (by decide +kernel) ⟨(Nat.le_of_ble_eq_true rfl), (Nat.le_of_ble_eq_true rfl)⟩ (va_recv hK (P_r hP) (ci := 0) (q0 := 0) rfl cw_X) hZ hK hP hD hS (fun q h9 => Or.inr h9) (fun q h9 hl9 => nA_in (c := cc CA g h ad) q h9 hl9) rfl hl.1 rfl (Nat.le_of_ble_eq_true rfl) dL_aged_5 ⟨(Nat.le_of_ble_eq_true rfl), (Nat.le_of_ble_eq_true rfl)⟩ (fun E ce q9 H locs hte hP hD hS hce hcv hcl => ?_) (fun r0 u9 H locs hpo hP hD hS => ?_)
  · rcases hte with ⟨rfl, hb1⟩ | ⟨-, -, hb9⟩ | ⟨-, -, -, hb9⟩
    · refine vx_catch hown [] ⟨0, 10, 13, 13⟩ [] hTab (fun z hz => absurd hz List.not_mem_nil) rfl (by decide) (hT _ wm_113) (xc1 hZ.2.2.1) hce hcv hcl ?_
      refine lv_astore (lv' := [(4, .ref q9), (0, .ref (ad 0)), (1, .int pn), (2, .int en), (3, .ref qo)]) hx hb dL_aged_13 hl (by decide) rfl (fun ls hl => ?_)
      refine lv_iconst (v := 1) hx hb dL_aged_15 (by decide) ?_
      exact W.iret (v := 1) hx hb hr (fun t ht hW => ⟨⟨_, (g, f9), rfl, Or.inl ⟨rfl, hb1, rfl⟩, gpost_at hP hK hD ht hW.alike⟩, hS.F ht⟩) hS.2.2 dL_aged_16
    · exact hb9.elim
    · exact hb9.elim
  · refine lv_i2l hx hb dL_aged_8 rfl ?_
    refine va_last (D := D) hx hb hK hP hD hS 0 4 rfl rfl (vp_in_nI (n := 0) (N := 1) (by decide) (by decide)) dL_aged_9 (fun H locs hP hD hS => ?_)
    have hP : va_P D vwCl ([(qo, oc (CA 4) (vp_updL f9 0 r0.toInt64))] ++ cw CA u9 h ad) H := hP
    have hD : va_D (lA h ad qo s.heap.size) ([(qo, oc (CA 4) (vp_updL f9 0 r0.toInt64))] ++ cw CA u9 h ad) := hD
    refine lv_goto (tgt := 17) hx hb dL_aged_10 (by decide) ?_
    refine lv_iconst (v := 0) hx hb dL_aged_17 (by decide) ?_
    exact W.iret (v := 0) hx hb hr (fun t ht hW => ⟨⟨_, (u9, vp_updL f9 0 r0.toInt64), rfl, Or.inr (Or.inr (Or.inr ⟨rfl, r0, hpo, by simp [vp_updL]⟩)), gpost_at hP hK hD ht hW.alike⟩, hS.F ht⟩) hS.2.2 dL_aged_18
set_option maxHeartbeats 4000000 in
set_option maxRecDepth 100000 in
theorem kL_unsure (l : Launch) (hlt : l.stackTraces = false) (D : va_G) (CA : Nat → ClassId) (g : Nat → Nat → Int32) (h : Nat → Nat → Nat) (ad : Nat → Nat) (sz : Nat) (sa : Nat → Nat) (qo : Nat) (f9 : Nat → Int64) (pn : Int32) (hn72 : h 0 0 ≤ 72) (hg0 : g 0 2 = nI (h 0 0)) (hq6 : ∀ p, p < h 0 0 → h 2 p < 6) : Met l yL_unsure wL_unsure (rm 2 1 6) (va_Pc [.ref (ad 0), .int pn, .ref qo] (fun U => gpre D (tyL CA) ([(qo, oc (CA 4) (f9))] ++ cw CA g h ad) sz U ∧ xz (lA h ad qo sz) sa U U.heap ∧ xn U)) (va_Qi (fun (r : Int32) (u : (Nat → Nat → Int32) × (Nat → Int64)) => w4 (ib pn (g 0 2)) False False r (u = (g, f9)) (∃ r0, (fun (r : Int32) (u : Nat → Nat → Int32) => ¬ (ib pn (g 0 2)) ∧ ∃ p, p < h 0 0 ∧ pn = nI p ∧ r = (if g (57 + p) 5 = 3 then 0 else 1) ∧ u = (u2 (u2 g (57 + p) 5 3) (3 + 9 * (h 2 p)) 7 1)) r0 u.1 ∧ u.2 0 = (if r0 = 0 then 0 else 1))) (fun u t => gpost D (tyL CA) ([(qo, oc (CA 4) (u.2))] ++ cw CA u.1 h ad) (lA h ad qo sz) t) (lA h ad qo sz)) 1 6 (lA h ad qo sz) := by
  refine va_MetW (cc := cL_unsure) (maxL := 4) (ret := (some .int)) (hh := [(0, 16, 19, 13)]) (by decide) rfl ?_
  intro p e s m args below meth c s₁ B hml hv
  obtain ⟨rfl, ⟨hsz, hP, hK, hD0⟩, hZ, hN⟩ := hv
  have hx := B.exec
  have hb := B.bytes
  have hr := B.returns
  have hT0 : ∀ w ∈ wL_unsure, w.before _ s = true := fun w hw => atoms_spec (ws := wL_unsure) B.pre w hw
  have hT : ∀ w ∈ TB, w.before _ s = true := fun w hw => hT0 w (List.mem_cons_of_mem _ hw)
  have hTab := vx_table (x := yL_unsure) B (hT0 _ List.mem_cons_self)
  have hown : s.vm.findClass "CountLeastLaw" = some m.cls := findClass_of_methodNamed B.named
  subst hsz
  have hD := D_lA (sz := s.heap.size) hD0
  have hS : va_S (lA h ad qo s.heap.size) s.heap s.heap [] := va_S.rf
  have hP : va_P D vwCl ([(qo, oc (CA 4) (f9))] ++ cw CA g h ad) s.heap := hP
  have hl := lv_entry ([.ref (ad 0), .int pn, .ref qo]) (n := 4) (Nat.le_of_ble_eq_true rfl)
  rw [lg_entry_eq]
  generalize (lg_sl ([.ref (ad 0), .int pn, .ref qo]) ++ List.replicate (4 - (lg_sl ([.ref (ad 0), .int pn, .ref qo])).length) Slot.unset).toArray = ls at hl ⊢
  have hl : lv_has ls 4 [(0, .ref (ad 0)), (1, .int pn), (2, .ref qo)] := hl
  refine lv_aload_n hx hb dL_unsure_0 rfl (lv_at hl 2 rfl) ?_
  refine lv_iconst (v := 0) hx hb dL_unsure_1 (by decide) ?_
  refine lv_aload_n hx hb dL_unsure_2 rfl (lv_at hl 0 rfl) ?_
  refine lv_iload_n hx hb dL_unsure_3 rfl (lv_at hl 1 rfl) ?_
  refine kLi (n := 1) (D := D) (CA := CA) (wB := [(qo, oc (CA 4) f9)]) (wx := fun z => cw CA z h ad) (g0 := g) (wd := (fun u : Nat → Nat → Int32 => cw CA u h ad)) (te := te3 (ib pn (g 0 2)) False False) (As := [.int pn]) (rest := [.int 0, .ref qo]) ⟨hx, hb, hml, hown, hT⟩ (kC_unsure l hlt D CA g h ad s.heap.size sa pn hn72 hg0 hq6) (gi_V wm_325 wm_326 wm_327 wm_1 wm_328) rfl rfl (by decide +kernel) ⟨(Nat.le_of_ble_eq_true rfl), (Nat.le_of_ble_eq_true rfl)⟩ (va_recv hK (P_r hP) (ci := 0) (q0 := 0) rfl cw_X) hZ hK hP hD hS (fun q h9 => Or.inr h9) (fun q h9 hl9 => nA_in (c := cc CA g h ad) q h9 hl9) rfl hl.1 rfl (Nat.le_of_ble_eq_true rfl) dL_unsure_4 ⟨(Nat.le_of_ble_eq_true rfl), (Nat.le_of_ble_eq_true rfl)⟩ (fun E ce q9 H locs hte hP hD hS hce hcv hcl => ?_) (fun r0 u9 H locs hpo hP hD hS => ?_)
  · rcases hte with ⟨rfl, hb1⟩ | ⟨-, -, hb9⟩ | ⟨-, -, -, hb9⟩
    · refine vx_catch hown [] ⟨0, 16, 19, 13⟩ [] hTab (fun z hz => absurd hz List.not_mem_nil) rfl (by decide) (hT _ wm_113) (xc1 hZ.2.2.1) hce hcv hcl ?_
      refine lv_astore_n (lv' := [(3, .ref q9), (0, .ref (ad 0)), (1, .int pn), (2, .ref qo)]) hx hb dL_unsure_19 rfl hl (by decide) rfl (fun ls hl => ?_)
      refine lv_iconst (v := 1) hx hb dL_unsure_20 (by decide) ?_
      exact W.iret (v := 1) hx hb hr (fun t ht hW => ⟨⟨_, (g, f9), rfl, Or.inl ⟨rfl, hb1, rfl⟩, gpost_at hP hK hD ht hW.alike⟩, hS.F ht⟩) hS.2.2 dL_unsure_21
    · exact hb9.elim
    · exact hb9.elim
  · refine lv_if_eq (tgt := 14) hx hb dL_unsure_7 (by decide) (fun c_1 => ?_) (fun c_1 => ?_)
    · refine lv_lconst (v := 0) hx hb dL_unsure_14 (by decide) ?_
      refine va_last (D := D) hx hb hK hP hD hS 0 4 rfl rfl (vp_in_nI (n := 0) (N := 1) (by decide) (by decide)) dL_unsure_15 (fun H locs hP hD hS => ?_)
      have hP : va_P D vwCl ([(qo, oc (CA 4) (vp_updL f9 0 0))] ++ cw CA u9 h ad) H := hP
      have hD : va_D (lA h ad qo s.heap.size) ([(qo, oc (CA 4) (vp_updL f9 0 0))] ++ cw CA u9 h ad) := hD
      refine lv_goto (tgt := 22) hx hb dL_unsure_16 (by decide) ?_
      refine lv_iconst (v := 0) hx hb dL_unsure_22 (by decide) ?_
      exact W.iret (v := 0) hx hb hr (fun t ht hW => ⟨⟨_, (u9, vp_updL f9 0 0), rfl, Or.inr (Or.inr (Or.inr ⟨rfl, r0, hpo, by simp [vp_updL, c_1]⟩)), gpost_at hP hK hD ht hW.alike⟩, hS.F ht⟩) hS.2.2 dL_unsure_23
    · refine lv_lconst (v := 1) hx hb dL_unsure_10 (by decide) ?_
      refine lv_goto (tgt := 15) hx hb dL_unsure_11 (by decide) ?_
      refine va_last (D := D) hx hb hK hP hD hS 0 4 rfl rfl (vp_in_nI (n := 0) (N := 1) (by decide) (by decide)) dL_unsure_15 (fun H locs hP hD hS => ?_)
      have hP : va_P D vwCl ([(qo, oc (CA 4) (vp_updL f9 0 1))] ++ cw CA u9 h ad) H := hP
      have hD : va_D (lA h ad qo s.heap.size) ([(qo, oc (CA 4) (vp_updL f9 0 1))] ++ cw CA u9 h ad) := hD
      refine lv_goto (tgt := 22) hx hb dL_unsure_16 (by decide) ?_
      refine lv_iconst (v := 0) hx hb dL_unsure_22 (by decide) ?_
      exact W.iret (v := 0) hx hb hr (fun t ht hW => ⟨⟨_, (u9, vp_updL f9 0 1), rfl, Or.inr (Or.inr (Or.inr ⟨rfl, r0, hpo, by simp [vp_updL, c_1]⟩)), gpost_at hP hK hD ht hW.alike⟩, hS.F ht⟩) hS.2.2 dL_unsure_23
set_option maxHeartbeats 4000000 in
set_option maxRecDepth 100000 in
theorem kL_clash (l : Launch) (hlt : l.stackTraces = false) (D : va_G) (CA : Nat → ClassId) (g : Nat → Nat → Int32) (h : Nat → Nat → Nat) (ad : Nat → Nat) (sz : Nat) (sa : Nat → Nat) (qo : Nat) (f9 : Nat → Int64) (p1 q1 : Int32) (jp : Nat → Nat) (hI : CIv g h jp) : Met l yL_clash wL_clash (rm 3 3 18) (va_Pc [.ref (ad 0), .int p1, .int q1, .ref qo] (fun U => gpre D (tyL CA) ([(qo, oc (CA 4) (f9))] ++ cw CA g h ad) sz U ∧ xz (lA h ad qo sz) sa U U.heap ∧ xn U)) (va_Qi (fun (r : Int32) (u : (Nat → Nat → Int32) × (Nat → Int64)) => w4 (ib p1 (g 0 2) ∨ ib q1 (g 0 2)) (p1 = q1 ∨ ¬ h 2 (n32 p1) = h 2 (n32 q1)) False r (u = (g, f9)) (∃ r0, (fun (r : Int32) (u : Nat → Nat → Int32) => ¬ (ib p1 (g 0 2) ∨ ib q1 (g 0 2)) ∧ ¬ (p1 = q1 ∨ ¬ h 2 (n32 p1) = h 2 (n32 q1)) ∧ ∃ p p2, p < h 0 0 ∧ p2 < h 0 0 ∧ p1 = nI p ∧ q1 = nI p2 ∧ h 2 p = h 2 p2 ∧ r = ruI g (h 2 p) (jp p) p p2 ∧ u = g) r0 u.1 ∧ u.2 0 = r0.toInt64)) (fun u t => gpost D (tyL CA) ([(qo, oc (CA 4) (u.2))] ++ cw CA u.1 h ad) (lA h ad qo sz) t) (lA h ad qo sz)) 3 18 (lA h ad qo sz) := by
  refine va_MetW (cc := cL_clash) (maxL := 5) (ret := (some .int)) (hh := [(0, 10, 13, 13), (0, 10, 17, 15)]) (by decide) rfl ?_
  intro p e s m args below meth c s₁ B hml hv
  obtain ⟨rfl, ⟨hsz, hP, hK, hD0⟩, hZ, hN⟩ := hv
  have hx := B.exec
  have hb := B.bytes
  have hr := B.returns
  have hT0 : ∀ w ∈ wL_clash, w.before _ s = true := fun w hw => atoms_spec (ws := wL_clash) B.pre w hw
  have hT : ∀ w ∈ TB, w.before _ s = true := fun w hw => hT0 w (List.mem_cons_of_mem _ hw)
  have hTab := vx_table (x := yL_clash) B (hT0 _ List.mem_cons_self)
  have hown : s.vm.findClass "CountLeastLaw" = some m.cls := findClass_of_methodNamed B.named
  subst hsz
  have hD := D_lA (sz := s.heap.size) hD0
  have hS : va_S (lA h ad qo s.heap.size) s.heap s.heap [] := va_S.rf
  have hP : va_P D vwCl ([(qo, oc (CA 4) (f9))] ++ cw CA g h ad) s.heap := hP
  have hl := lv_entry ([.ref (ad 0), .int p1, .int q1, .ref qo]) (n := 5) (Nat.le_of_ble_eq_true rfl)
  rw [lg_entry_eq]
  generalize (lg_sl ([.ref (ad 0), .int p1, .int q1, .ref qo]) ++ List.replicate (5 - (lg_sl ([.ref (ad 0), .int p1, .int q1, .ref qo])).length) Slot.unset).toArray = ls at hl ⊢
  have hl : lv_has ls 5 [(0, .ref (ad 0)), (1, .int p1), (2, .int q1), (3, .ref qo)] := hl
  refine lv_aload_n hx hb dL_clash_0 rfl (lv_at hl 3 rfl) ?_
  refine lv_iconst (v := 0) hx hb dL_clash_1 (by decide) ?_
  refine lv_aload_n hx hb dL_clash_2 rfl (lv_at hl 0 rfl) ?_
  refine lv_iload_n hx hb dL_clash_3 rfl (lv_at hl 1 rfl) ?_
  refine lv_iload_n hx hb dL_clash_4 rfl (lv_at hl 2 rfl) ?_
  refine kLi (n := 2) (D := D) (CA := CA) (wB := [(qo, oc (CA 4) f9)]) (wx := fun z => cw CA z h ad) (g0 := g) (wd := (fun u : Nat → Nat → Int32 => cw CA u h ad)) (te := te3 (ib p1 (g 0 2) ∨ ib q1 (g 0 2)) (p1 = q1 ∨ ¬ h 2 (n32 p1) = h 2 (n32 q1)) False) (As := [.int p1, .int q1]) (rest := [.int 0, .ref qo]) ⟨hx, hb, hml, hown, hT⟩ (kC_clash l hlt D CA g h ad s.heap.size sa p1 q1 jp hI) (gi_V wm_332 wm_333 wm_334 wm_1 wm_335) rfl rfl (by decide +kernel) ⟨(Nat.le_of_ble_eq_true rfl), (Nat.le_of_ble_eq_true rfl)⟩ (va_recv hK (P_r hP) (ci := 0) (q0 := 0) rfl cw_X) hZ hK hP hD hS (fun q h9 => Or.inr h9) (fun q h9 hl9 => nA_in (c := cc CA g h ad) q h9 hl9) rfl hl.1 rfl (Nat.le_of_ble_eq_true rfl) dL_clash_5 ⟨(Nat.le_of_ble_eq_true rfl), (Nat.le_of_ble_eq_true rfl)⟩ (fun E ce q9 H locs hte hP hD hS hce hcv hcl => ?_) (fun r0 u9 H locs hpo hP hD hS => ?_)
  · rcases hte with ⟨rfl, hb1⟩ | ⟨rfl, hb1, hb2⟩ | ⟨-, -, -, hb9⟩
    · refine vx_catch hown [] ⟨0, 10, 13, 13⟩ [⟨0, 10, 17, 15⟩] hTab (fun z hz => absurd hz List.not_mem_nil) rfl (by decide) (hT _ wm_113) (xc1 hZ.2.2.1) hce hcv hcl ?_
      refine lv_astore (lv' := [(4, .ref q9), (0, .ref (ad 0)), (1, .int p1), (2, .int q1), (3, .ref qo)]) hx hb dL_clash_13 hl (by decide) rfl (fun ls hl => ?_)
      refine lv_iconst (v := 1) hx hb dL_clash_15 (by decide) ?_
      exact W.iret (v := 1) hx hb hr (fun t ht hW => ⟨⟨_, (g, f9), rfl, Or.inl ⟨rfl, hb1, rfl⟩, gpost_at hP hK hD ht hW.alike⟩, hS.F ht⟩) hS.2.2 dL_clash_16
    · refine vx_catch hown [⟨0, 10, 13, 13⟩] ⟨0, 10, 17, 15⟩ [] hTab (fun z hz => by rw [List.mem_singleton.mp hz]; exact Or.inr ⟨by decide, _, (hT _ wm_113), hN.1⟩) rfl (by decide) (hT _ wm_114) (xc2 hZ.2.2.1) hce hcv hcl ?_
      refine lv_astore (lv' := [(4, .ref q9), (0, .ref (ad 0)), (1, .int p1), (2, .int q1), (3, .ref qo)]) hx hb dL_clash_17 hl (by decide) rfl (fun ls hl => ?_)
      refine lv_iconst (v := 2) hx hb dL_clash_19 (by decide) ?_
      exact W.iret (v := 2) hx hb hr (fun t ht hW => ⟨⟨_, (g, f9), rfl, Or.inr (Or.inl ⟨rfl, hb1, hb2, rfl⟩), gpost_at hP hK hD ht hW.alike⟩, hS.F ht⟩) hS.2.2 dL_clash_20
    · exact hb9.elim
  · refine lv_i2l hx hb dL_clash_8 rfl ?_
    refine va_last (D := D) hx hb hK hP hD hS 0 4 rfl rfl (vp_in_nI (n := 0) (N := 1) (by decide) (by decide)) dL_clash_9 (fun H locs hP hD hS => ?_)
    have hP : va_P D vwCl ([(qo, oc (CA 4) (vp_updL f9 0 r0.toInt64))] ++ cw CA u9 h ad) H := hP
    have hD : va_D (lA h ad qo s.heap.size) ([(qo, oc (CA 4) (vp_updL f9 0 r0.toInt64))] ++ cw CA u9 h ad) := hD
    refine lv_goto (tgt := 21) hx hb dL_clash_10 (by decide) ?_
    refine lv_iconst (v := 0) hx hb dL_clash_21 (by decide) ?_
    exact W.iret (v := 0) hx hb hr (fun t ht hW => ⟨⟨_, (u9, vp_updL f9 0 r0.toInt64), rfl, Or.inr (Or.inr (Or.inr ⟨rfl, r0, hpo, by simp [vp_updL]⟩)), gpost_at hP hK hD ht hW.alike⟩, hS.F ht⟩) hS.2.2 dL_clash_22
set_option maxHeartbeats 4000000 in
set_option maxRecDepth 100000 in
theorem kL_least (l : Launch) (hlt : l.stackTraces = false) (D : va_G) (CA : Nat → ClassId) (g : Nat → Nat → Int32) (h : Nat → Nat → Nat) (ad : Nat → Nat) (sz : Nat) (sa : Nat → Nat) (qo : Nat) (f9 : Nat → Int64) (kd : Int32) (jp : Nat → Nat) (hI : CIv g h jp) : Met l yL_least wL_least (rm 19 1 6) (va_Pc [.ref (ad 0), .int kd, .ref qo] (fun U => gpre D (tyL CA) ([(qo, oc (CA 4) (f9))] ++ cw CA g h ad) sz U ∧ xz (lA h ad qo sz) sa U U.heap ∧ xn U)) (va_Qi (fun (r : Int32) (u : (Nat → Nat → Int32) × (Nat → Int64)) => w4 (ib kd 6) False False r (u = (g, f9)) (∃ r0, (fun (r : Int32) (u : Nat → Nat → Int32) => ¬ (ib kd 6) ∧ ∃ k, k < 6 ∧ kd = nI k ∧ par g h jp k u ∧ r = u (8 + 9 * k) 0) r0 u.1 ∧ u.2 0 = r0.toInt64)) (fun u t => gpost D (tyL CA) ([(qo, oc (CA 4) (u.2))] ++ cw CA u.1 h ad) (lA h ad qo sz) t) (lA h ad qo sz)) 1 6 (lA h ad qo sz) := by
  refine va_MetW (cc := cL_least) (maxL := 4) (ret := (some .int)) (hh := [(0, 9, 12, 13)]) (by decide) rfl ?_
  intro p e s m args below meth c s₁ B hml hv
  obtain ⟨rfl, ⟨hsz, hP, hK, hD0⟩, hZ, hN⟩ := hv
  have hx := B.exec
  have hb := B.bytes
  have hr := B.returns
  have hT0 : ∀ w ∈ wL_least, w.before _ s = true := fun w hw => atoms_spec (ws := wL_least) B.pre w hw
  have hT : ∀ w ∈ TB, w.before _ s = true := fun w hw => hT0 w (List.mem_cons_of_mem _ hw)
  have hTab := vx_table (x := yL_least) B (hT0 _ List.mem_cons_self)
  have hown : s.vm.findClass "CountLeastLaw" = some m.cls := findClass_of_methodNamed B.named
  subst hsz
  have hD := D_lA (sz := s.heap.size) hD0
  have hS : va_S (lA h ad qo s.heap.size) s.heap s.heap [] := va_S.rf
  have hP : va_P D vwCl ([(qo, oc (CA 4) (f9))] ++ cw CA g h ad) s.heap := hP
  have hl := lv_entry ([.ref (ad 0), .int kd, .ref qo]) (n := 4) (Nat.le_of_ble_eq_true rfl)
  rw [lg_entry_eq]
  generalize (lg_sl ([.ref (ad 0), .int kd, .ref qo]) ++ List.replicate (4 - (lg_sl ([.ref (ad 0), .int kd, .ref qo])).length) Slot.unset).toArray = ls at hl ⊢
  have hl : lv_has ls 4 [(0, .ref (ad 0)), (1, .int kd), (2, .ref qo)] := hl
  refine lv_aload_n hx hb dL_least_0 rfl (lv_at hl 2 rfl) ?_
  refine lv_iconst (v := 0) hx hb dL_least_1 (by decide) ?_
  refine lv_aload_n hx hb dL_least_2 rfl (lv_at hl 0 rfl) ?_
  refine lv_iload_n hx hb dL_least_3 rfl (lv_at hl 1 rfl) ?_
  refine kLi (n := 1) (D := D) (CA := CA) (wB := [(qo, oc (CA 4) f9)]) (wx := fun z => cw CA z h ad) (g0 := g) (wd := (fun u : Nat → Nat → Int32 => cw CA u h ad)) (te := te3 (ib kd 6) False False) (As := [.int kd]) (rest := [.int 0, .ref qo]) ⟨hx, hb, hml, hown, hT⟩ (kC_least l hlt D CA g h ad s.heap.size sa kd jp hI) (gi_V wm_355 wm_356 wm_357 wm_1 wm_358) rfl rfl (by decide +kernel) ⟨(Nat.le_of_ble_eq_true rfl), (Nat.le_of_ble_eq_true rfl)⟩ (va_recv hK (P_r hP) (ci := 0) (q0 := 0) rfl cw_X) hZ hK hP hD hS (fun q h9 => Or.inr h9) (fun q h9 hl9 => nA_in (c := cc CA g h ad) q h9 hl9) rfl hl.1 rfl (Nat.le_of_ble_eq_true rfl) dL_least_4 ⟨(Nat.le_of_ble_eq_true rfl), (Nat.le_of_ble_eq_true rfl)⟩ (fun E ce q9 H locs hte hP hD hS hce hcv hcl => ?_) (fun r0 u9 H locs hpo hP hD hS => ?_)
  · rcases hte with ⟨rfl, hb1⟩ | ⟨-, -, hb9⟩ | ⟨-, -, -, hb9⟩
    · refine vx_catch hown [] ⟨0, 9, 12, 13⟩ [] hTab (fun z hz => absurd hz List.not_mem_nil) rfl (by decide) (hT _ wm_113) (xc1 hZ.2.2.1) hce hcv hcl ?_
      refine lv_astore_n (lv' := [(3, .ref q9), (0, .ref (ad 0)), (1, .int kd), (2, .ref qo)]) hx hb dL_least_12 rfl hl (by decide) rfl (fun ls hl => ?_)
      refine lv_iconst (v := 1) hx hb dL_least_13 (by decide) ?_
      exact W.iret (v := 1) hx hb hr (fun t ht hW => ⟨⟨_, (g, f9), rfl, Or.inl ⟨rfl, hb1, rfl⟩, gpost_at hP hK hD ht hW.alike⟩, hS.F ht⟩) hS.2.2 dL_least_14
    · exact hb9.elim
    · exact hb9.elim
  · refine lv_i2l hx hb dL_least_7 rfl ?_
    refine va_last (D := D) hx hb hK hP hD hS 0 4 rfl rfl (vp_in_nI (n := 0) (N := 1) (by decide) (by decide)) dL_least_8 (fun H locs hP hD hS => ?_)
    have hP : va_P D vwCl ([(qo, oc (CA 4) (vp_updL f9 0 r0.toInt64))] ++ cw CA u9 h ad) H := hP
    have hD : va_D (lA h ad qo s.heap.size) ([(qo, oc (CA 4) (vp_updL f9 0 r0.toInt64))] ++ cw CA u9 h ad) := hD
    refine lv_goto (tgt := 15) hx hb dL_least_9 (by decide) ?_
    refine lv_iconst (v := 0) hx hb dL_least_15 (by decide) ?_
    exact W.iret (v := 0) hx hb hr (fun t ht hW => ⟨⟨_, (u9, vp_updL f9 0 r0.toInt64), rfl, Or.inr (Or.inr (Or.inr ⟨rfl, r0, hpo, by simp [vp_updL]⟩)), gpost_at hP hK hD ht hW.alike⟩, hS.F ht⟩) hS.2.2 dL_least_16
set_option maxHeartbeats 4000000 in
set_option maxRecDepth 100000 in
theorem kL_animal (l : Launch) (hlt : l.stackTraces = false) (D : va_G) (CA : Nat → ClassId) (g : Nat → Nat → Int32) (h : Nat → Nat → Nat) (ad : Nat → Nat) (sz : Nat) (sa : Nat → Nat) (qo : Nat) (f9 : Nat → Int64) (pn : Int32) (jp : Nat → Nat) (hI : CIv g h jp) : Met l yL_animal wL_animal (rm 19 1 6) (va_Pc [.ref (ad 0), .int pn, .ref qo] (fun U => gpre D (tyL CA) ([(qo, oc (CA 4) (f9))] ++ cw CA g h ad) sz U ∧ xz (lA h ad qo sz) sa U U.heap ∧ xn U)) (va_Qi (fun (r : Int32) (u : (Nat → Nat → Int32) × (Nat → Int64)) => w4 (ib pn (g 0 2)) False False r (u = (g, f9)) (∃ r0, (fun (r : Int32) (u : Nat → Nat → Int32) => ¬ (ib pn (g 0 2)) ∧ ∃ p, p < h 0 0 ∧ pn = nI p ∧ par g h jp (h 2 p) u ∧ ∀ j, j < h 1 (h 2 p) → g (57 + p) 2 = nI j → r = u (10 + 9 * h 2 p) j) r0 u.1 ∧ u.2 0 = r0.toInt64)) (fun u t => gpost D (tyL CA) ([(qo, oc (CA 4) (u.2))] ++ cw CA u.1 h ad) (lA h ad qo sz) t) (lA h ad qo sz)) 1 6 (lA h ad qo sz) := by
  refine va_MetW (cc := cL_animal) (maxL := 4) (ret := (some .int)) (hh := [(0, 9, 12, 13)]) (by decide) rfl ?_
  intro p e s m args below meth c s₁ B hml hv
  obtain ⟨rfl, ⟨hsz, hP, hK, hD0⟩, hZ, hN⟩ := hv
  have hx := B.exec
  have hb := B.bytes
  have hr := B.returns
  have hT0 : ∀ w ∈ wL_animal, w.before _ s = true := fun w hw => atoms_spec (ws := wL_animal) B.pre w hw
  have hT : ∀ w ∈ TB, w.before _ s = true := fun w hw => hT0 w (List.mem_cons_of_mem _ hw)
  have hTab := vx_table (x := yL_animal) B (hT0 _ List.mem_cons_self)
  have hown : s.vm.findClass "CountLeastLaw" = some m.cls := findClass_of_methodNamed B.named
  subst hsz
  have hD := D_lA (sz := s.heap.size) hD0
  have hS : va_S (lA h ad qo s.heap.size) s.heap s.heap [] := va_S.rf
  have hP : va_P D vwCl ([(qo, oc (CA 4) (f9))] ++ cw CA g h ad) s.heap := hP
  have hl := lv_entry ([.ref (ad 0), .int pn, .ref qo]) (n := 4) (Nat.le_of_ble_eq_true rfl)
  rw [lg_entry_eq]
  generalize (lg_sl ([.ref (ad 0), .int pn, .ref qo]) ++ List.replicate (4 - (lg_sl ([.ref (ad 0), .int pn, .ref qo])).length) Slot.unset).toArray = ls at hl ⊢
  have hl : lv_has ls 4 [(0, .ref (ad 0)), (1, .int pn), (2, .ref qo)] := hl
  refine lv_aload_n hx hb dL_animal_0 rfl (lv_at hl 2 rfl) ?_
  refine lv_iconst (v := 0) hx hb dL_animal_1 (by decide) ?_
  refine lv_aload_n hx hb dL_animal_2 rfl (lv_at hl 0 rfl) ?_
  refine lv_iload_n hx hb dL_animal_3 rfl (lv_at hl 1 rfl) ?_
  refine kLi (n := 1) (D := D) (CA := CA) (wB := [(qo, oc (CA 4) f9)]) (wx := fun z => cw CA z h ad) (g0 := g) (wd := (fun u : Nat → Nat → Int32 => cw CA u h ad)) (te := te3 (ib pn (g 0 2)) False False) (As := [.int pn]) (rest := [.int 0, .ref qo]) ⟨hx, hb, hml, hown, hT⟩ (kC_animal l hlt D CA g h ad s.heap.size sa pn jp hI) (gi_V wm_403 wm_404 wm_405 wm_1 wm_406) rfl rfl (by decide +kernel) ⟨(Nat.le_of_ble_eq_true rfl), (Nat.le_of_ble_eq_true rfl)⟩ (va_recv hK (P_r hP) (ci := 0) (q0 := 0) rfl cw_X) hZ hK hP hD hS (fun q h9 => Or.inr h9) (fun q h9 hl9 => nA_in (c := cc CA g h ad) q h9 hl9) rfl hl.1 rfl (Nat.le_of_ble_eq_true rfl) dL_animal_4 ⟨(Nat.le_of_ble_eq_true rfl), (Nat.le_of_ble_eq_true rfl)⟩ (fun E ce q9 H locs hte hP hD hS hce hcv hcl => ?_) (fun r0 u9 H locs hpo hP hD hS => ?_)
  · rcases hte with ⟨rfl, hb1⟩ | ⟨-, -, hb9⟩ | ⟨-, -, -, hb9⟩
    · refine vx_catch hown [] ⟨0, 9, 12, 13⟩ [] hTab (fun z hz => absurd hz List.not_mem_nil) rfl (by decide) (hT _ wm_113) (xc1 hZ.2.2.1) hce hcv hcl ?_
      refine lv_astore_n (lv' := [(3, .ref q9), (0, .ref (ad 0)), (1, .int pn), (2, .ref qo)]) hx hb dL_animal_12 rfl hl (by decide) rfl (fun ls hl => ?_)
      refine lv_iconst (v := 1) hx hb dL_animal_13 (by decide) ?_
      exact W.iret (v := 1) hx hb hr (fun t ht hW => ⟨⟨_, (g, f9), rfl, Or.inl ⟨rfl, hb1, rfl⟩, gpost_at hP hK hD ht hW.alike⟩, hS.F ht⟩) hS.2.2 dL_animal_14
    · exact hb9.elim
    · exact hb9.elim
  · refine lv_i2l hx hb dL_animal_7 rfl ?_
    refine va_last (D := D) hx hb hK hP hD hS 0 4 rfl rfl (vp_in_nI (n := 0) (N := 1) (by decide) (by decide)) dL_animal_8 (fun H locs hP hD hS => ?_)
    have hP : va_P D vwCl ([(qo, oc (CA 4) (vp_updL f9 0 r0.toInt64))] ++ cw CA u9 h ad) H := hP
    have hD : va_D (lA h ad qo s.heap.size) ([(qo, oc (CA 4) (vp_updL f9 0 r0.toInt64))] ++ cw CA u9 h ad) := hD
    refine lv_goto (tgt := 15) hx hb dL_animal_9 (by decide) ?_
    refine lv_iconst (v := 0) hx hb dL_animal_15 (by decide) ?_
    exact W.iret (v := 0) hx hb hr (fun t ht hW => ⟨⟨_, (u9, vp_updL f9 0 r0.toInt64), rfl, Or.inr (Or.inr (Or.inr ⟨rfl, r0, hpo, by simp [vp_updL]⟩)), gpost_at hP hK hD ht hW.alike⟩, hS.F ht⟩) hS.2.2 dL_animal_16
set_option maxHeartbeats 4000000 in
set_option maxRecDepth 100000 in
theorem kL_clashing (l : Launch) (hlt : l.stackTraces = false) (D : va_G) (CA : Nat → ClassId) (g : Nat → Nat → Int32) (h : Nat → Nat → Nat) (ad : Nat → Nat) (sz : Nat) (sa : Nat → Nat) (qo : Nat) (f9 : Nat → Int64) (kd x : Int32) (jp : Nat → Nat) (hI : CIv g h jp) : Met l yL_clashing wL_clashing (rm 19 2 12) (va_Pc [.ref (ad 0), .int kd, .int x, .ref qo] (fun U => gpre D (tyL CA) ([(qo, oc (CA 4) (f9))] ++ cw CA g h ad) sz U ∧ xz (lA h ad qo sz) sa U U.heap ∧ xn U)) (va_Qi (fun (r : Int32) (u : (Nat → Nat → Int32) × (Nat → Int64)) => w4 (ib kd 6 ∨ x < 0) False False r (u = (g, f9)) (∃ r0, (fun (r : Int32) (u : Nat → Nat → Int32) => ¬ (ib kd 6 ∨ x < 0) ∧ ∃ k m, k < 6 ∧ kd = nI k ∧ par g h jp k u ∧ m < 4096 ∧ u (8 + 9 * k) 2 = nI m ∧ (∀ j, j < h 1 k → pof m x (h 1 k) 0 0 = nI j → r = u (57 + h (3 + k) j) 1) ∧ (ib (pof m x (h 1 k) 0 0) (nI (h 1 k)) → r = -1)) r0 u.1 ∧ u.2 0 = r0.toInt64)) (fun u t => gpost D (tyL CA) ([(qo, oc (CA 4) (u.2))] ++ cw CA u.1 h ad) (lA h ad qo sz) t) (lA h ad qo sz)) 2 12 (lA h ad qo sz) := by
  refine va_MetW (cc := cL_clashing) (maxL := 5) (ret := (some .int)) (hh := [(0, 10, 13, 13)]) (by decide) rfl ?_
  intro p e s m args below meth c s₁ B hml hv
  obtain ⟨rfl, ⟨hsz, hP, hK, hD0⟩, hZ, hN⟩ := hv
  have hx := B.exec
  have hb := B.bytes
  have hr := B.returns
  have hT0 : ∀ w ∈ wL_clashing, w.before _ s = true := fun w hw => atoms_spec (ws := wL_clashing) B.pre w hw
  have hT : ∀ w ∈ TB, w.before _ s = true := fun w hw => hT0 w (List.mem_cons_of_mem _ hw)
  have hTab := vx_table (x := yL_clashing) B (hT0 _ List.mem_cons_self)
  have hown : s.vm.findClass "CountLeastLaw" = some m.cls := findClass_of_methodNamed B.named
  subst hsz
  have hD := D_lA (sz := s.heap.size) hD0
  have hS : va_S (lA h ad qo s.heap.size) s.heap s.heap [] := va_S.rf
  have hP : va_P D vwCl ([(qo, oc (CA 4) (f9))] ++ cw CA g h ad) s.heap := hP
  have hl := lv_entry ([.ref (ad 0), .int kd, .int x, .ref qo]) (n := 5) (Nat.le_of_ble_eq_true rfl)
  rw [lg_entry_eq]
  generalize (lg_sl ([.ref (ad 0), .int kd, .int x, .ref qo]) ++ List.replicate (5 - (lg_sl ([.ref (ad 0), .int kd, .int x, .ref qo])).length) Slot.unset).toArray = ls at hl ⊢
  have hl : lv_has ls 5 [(0, .ref (ad 0)), (1, .int kd), (2, .int x), (3, .ref qo)] := hl
  refine lv_aload_n hx hb dL_clashing_0 rfl (lv_at hl 3 rfl) ?_
  refine lv_iconst (v := 0) hx hb dL_clashing_1 (by decide) ?_
  refine lv_aload_n hx hb dL_clashing_2 rfl (lv_at hl 0 rfl) ?_
  refine lv_iload_n hx hb dL_clashing_3 rfl (lv_at hl 1 rfl) ?_
  refine lv_iload_n hx hb dL_clashing_4 rfl (lv_at hl 2 rfl) ?_
  refine kLi (n := 2) (D := D) (CA := CA) (wB := [(qo, oc (CA 4) f9)]) (wx := fun z => cw CA z h ad) (g0 := g) (wd := (fun u : Nat → Nat → Int32 => cw CA u h ad)) (te := te3 (ib kd 6 ∨ x < 0) False False) (As := [.int kd, .int x]) (rest := [.int 0, .ref qo]) ⟨hx, hb, hml, hown, hT⟩ (kC_clashing l hlt D CA g h ad s.heap.size sa kd x jp hI) (gi_V wm_414 wm_415 wm_416 wm_1 wm_417) rfl rfl (by decide +kernel) ⟨(Nat.le_of_ble_eq_true rfl), (Nat.le_of_ble_eq_true rfl)⟩ (va_recv hK (P_r hP) (ci := 0) (q0 := 0) rfl cw_X) hZ hK hP hD hS (fun q h9 => Or.inr h9) (fun q h9 hl9 => nA_in (c := cc CA g h ad) q h9 hl9) rfl hl.1 rfl (Nat.le_of_ble_eq_true rfl) dL_clashing_5 ⟨(Nat.le_of_ble_eq_true rfl), (Nat.le_of_ble_eq_true rfl)⟩ (fun E ce q9 H locs hte hP hD hS hce hcv hcl => ?_) (fun r0 u9 H locs hpo hP hD hS => ?_)
  · rcases hte with ⟨rfl, hb1⟩ | ⟨-, -, hb9⟩ | ⟨-, -, -, hb9⟩
    · refine vx_catch hown [] ⟨0, 10, 13, 13⟩ [] hTab (fun z hz => absurd hz List.not_mem_nil) rfl (by decide) (hT _ wm_113) (xc1 hZ.2.2.1) hce hcv hcl ?_
      refine lv_astore (lv' := [(4, .ref q9), (0, .ref (ad 0)), (1, .int kd), (2, .int x), (3, .ref qo)]) hx hb dL_clashing_13 hl (by decide) rfl (fun ls hl => ?_)
      refine lv_iconst (v := 1) hx hb dL_clashing_15 (by decide) ?_
      exact W.iret (v := 1) hx hb hr (fun t ht hW => ⟨⟨_, (g, f9), rfl, Or.inl ⟨rfl, hb1, rfl⟩, gpost_at hP hK hD ht hW.alike⟩, hS.F ht⟩) hS.2.2 dL_clashing_16
    · exact hb9.elim
    · exact hb9.elim
  · refine lv_i2l hx hb dL_clashing_8 rfl ?_
    refine va_last (D := D) hx hb hK hP hD hS 0 4 rfl rfl (vp_in_nI (n := 0) (N := 1) (by decide) (by decide)) dL_clashing_9 (fun H locs hP hD hS => ?_)
    have hP : va_P D vwCl ([(qo, oc (CA 4) (vp_updL f9 0 r0.toInt64))] ++ cw CA u9 h ad) H := hP
    have hD : va_D (lA h ad qo s.heap.size) ([(qo, oc (CA 4) (vp_updL f9 0 r0.toInt64))] ++ cw CA u9 h ad) := hD
    refine lv_goto (tgt := 17) hx hb dL_clashing_10 (by decide) ?_
    refine lv_iconst (v := 0) hx hb dL_clashing_17 (by decide) ?_
    exact W.iret (v := 0) hx hb hr (fun t ht hW => ⟨⟨_, (u9, vp_updL f9 0 r0.toInt64), rfl, Or.inr (Or.inr (Or.inr ⟨rfl, r0, hpo, by simp [vp_updL]⟩)), gpost_at hP hK hD ht hW.alike⟩, hS.F ht⟩) hS.2.2 dL_clashing_18
set_option maxHeartbeats 4000000 in
set_option maxRecDepth 100000 in
theorem kL_weight (l : Launch) (hlt : l.stackTraces = false) (D : va_G) (CA : Nat → ClassId) (g : Nat → Nat → Int32) (h : Nat → Nat → Nat) (ad : Nat → Nat) (sz : Nat) (sa : Nat → Nat) (qo : Nat) (f9 : Nat → Int64) (pn gr : Int32) (hn72 : h 0 0 ≤ 72) (hg0 : g 0 2 = nI (h 0 0)) : Met l yL_weight wL_weight (rm 2 2 12) (va_Pc [.ref (ad 0), .int pn, .int gr, .ref qo] (fun U => gpre D (tyL CA) ([(qo, oc (CA 4) (f9))] ++ cw CA g h ad) sz U ∧ xz (lA h ad qo sz) sa U U.heap ∧ xn U)) (va_Qi (fun (r : Int32) (u : (Nat → Nat → Int32) × (Nat → Int64)) => w4 (ib pn (g 0 2)) (rb gr 0 1000000) False r (u = (g, f9)) (∃ r0, (fun (r : Int32) (u : Nat → Nat → Int32) => ¬ (ib pn (g 0 2)) ∧ ¬ (rb gr 0 1000000) ∧ ∃ p, p < h 0 0 ∧ pn = nI p ∧ r = g (57 + p) 8 ∧ u = (u2 g (57 + p) 8 gr)) r0 u.1 ∧ u.2 0 = r0.toInt64)) (fun u t => gpost D (tyL CA) ([(qo, oc (CA 4) (u.2))] ++ cw CA u.1 h ad) (lA h ad qo sz) t) (lA h ad qo sz)) 2 12 (lA h ad qo sz) := by
  refine va_MetW (cc := cL_weight) (maxL := 5) (ret := (some .int)) (hh := [(0, 10, 13, 13), (0, 10, 17, 15)]) (by decide) rfl ?_
  intro p e s m args below meth c s₁ B hml hv
  obtain ⟨rfl, ⟨hsz, hP, hK, hD0⟩, hZ, hN⟩ := hv
  have hx := B.exec
  have hb := B.bytes
  have hr := B.returns
  have hT0 : ∀ w ∈ wL_weight, w.before _ s = true := fun w hw => atoms_spec (ws := wL_weight) B.pre w hw
  have hT : ∀ w ∈ TB, w.before _ s = true := fun w hw => hT0 w (List.mem_cons_of_mem _ hw)
  have hTab := vx_table (x := yL_weight) B (hT0 _ List.mem_cons_self)
  have hown : s.vm.findClass "CountLeastLaw" = some m.cls := findClass_of_methodNamed B.named
  subst hsz
  have hD := D_lA (sz := s.heap.size) hD0
  have hS : va_S (lA h ad qo s.heap.size) s.heap s.heap [] := va_S.rf
  have hP : va_P D vwCl ([(qo, oc (CA 4) (f9))] ++ cw CA g h ad) s.heap := hP
  have hl := lv_entry ([.ref (ad 0), .int pn, .int gr, .ref qo]) (n := 5) (Nat.le_of_ble_eq_true rfl)
  rw [lg_entry_eq]
  generalize (lg_sl ([.ref (ad 0), .int pn, .int gr, .ref qo]) ++ List.replicate (5 - (lg_sl ([.ref (ad 0), .int pn, .int gr, .ref qo])).length) Slot.unset).toArray = ls at hl ⊢
  have hl : lv_has ls 5 [(0, .ref (ad 0)), (1, .int pn), (2, .int gr), (3, .ref qo)] := hl
  refine lv_aload_n hx hb dL_weight_0 rfl (lv_at hl 3 rfl) ?_
  refine lv_iconst (v := 0) hx hb dL_weight_1 (by decide) ?_
  refine lv_aload_n hx hb dL_weight_2 rfl (lv_at hl 0 rfl) ?_
  refine lv_iload_n hx hb dL_weight_3 rfl (lv_at hl 1 rfl) ?_
  refine lv_iload_n hx hb dL_weight_4 rfl (lv_at hl 2 rfl) ?_
  refine kLi (n := 2) (D := D) (CA := CA) (wB := [(qo, oc (CA 4) f9)]) (wx := fun z => cw CA z h ad) (g0 := g) (wd := (fun u : Nat → Nat → Int32 => cw CA u h ad)) (te := te3 (ib pn (g 0 2)) (rb gr 0 1000000) False) (As := [.int pn, .int gr]) (rest := [.int 0, .ref qo]) ⟨hx, hb, hml, hown, hT⟩ (kC_weight l hlt D CA g h ad s.heap.size sa pn gr hn72 hg0) (gi_V wm_430 wm_431 wm_432 wm_1 wm_433) rfl rfl (by decide +kernel) ⟨(Nat.le_of_ble_eq_true rfl), (Nat.le_of_ble_eq_true rfl)⟩ (va_recv hK (P_r hP) (ci := 0) (q0 := 0) rfl cw_X) hZ hK hP hD hS (fun q h9 => Or.inr h9) (fun q h9 hl9 => nA_in (c := cc CA g h ad) q h9 hl9) rfl hl.1 rfl (Nat.le_of_ble_eq_true rfl) dL_weight_5 ⟨(Nat.le_of_ble_eq_true rfl), (Nat.le_of_ble_eq_true rfl)⟩ (fun E ce q9 H locs hte hP hD hS hce hcv hcl => ?_) (fun r0 u9 H locs hpo hP hD hS => ?_)
  · rcases hte with ⟨rfl, hb1⟩ | ⟨rfl, hb1, hb2⟩ | ⟨-, -, -, hb9⟩
    · refine vx_catch hown [] ⟨0, 10, 13, 13⟩ [⟨0, 10, 17, 15⟩] hTab (fun z hz => absurd hz List.not_mem_nil) rfl (by decide) (hT _ wm_113) (xc1 hZ.2.2.1) hce hcv hcl ?_
      refine lv_astore (lv' := [(4, .ref q9), (0, .ref (ad 0)), (1, .int pn), (2, .int gr), (3, .ref qo)]) hx hb dL_weight_13 hl (by decide) rfl (fun ls hl => ?_)
      refine lv_iconst (v := 1) hx hb dL_weight_15 (by decide) ?_
      exact W.iret (v := 1) hx hb hr (fun t ht hW => ⟨⟨_, (g, f9), rfl, Or.inl ⟨rfl, hb1, rfl⟩, gpost_at hP hK hD ht hW.alike⟩, hS.F ht⟩) hS.2.2 dL_weight_16
    · refine vx_catch hown [⟨0, 10, 13, 13⟩] ⟨0, 10, 17, 15⟩ [] hTab (fun z hz => by rw [List.mem_singleton.mp hz]; exact Or.inr ⟨by decide, _, (hT _ wm_113), hN.1⟩) rfl (by decide) (hT _ wm_114) (xc2 hZ.2.2.1) hce hcv hcl ?_
      refine lv_astore (lv' := [(4, .ref q9), (0, .ref (ad 0)), (1, .int pn), (2, .int gr), (3, .ref qo)]) hx hb dL_weight_17 hl (by decide) rfl (fun ls hl => ?_)
      refine lv_iconst (v := 2) hx hb dL_weight_19 (by decide) ?_
      exact W.iret (v := 2) hx hb hr (fun t ht hW => ⟨⟨_, (g, f9), rfl, Or.inr (Or.inl ⟨rfl, hb1, hb2, rfl⟩), gpost_at hP hK hD ht hW.alike⟩, hS.F ht⟩) hS.2.2 dL_weight_20
    · exact hb9.elim
  · refine lv_i2l hx hb dL_weight_8 rfl ?_
    refine va_last (D := D) hx hb hK hP hD hS 0 4 rfl rfl (vp_in_nI (n := 0) (N := 1) (by decide) (by decide)) dL_weight_9 (fun H locs hP hD hS => ?_)
    have hP : va_P D vwCl ([(qo, oc (CA 4) (vp_updL f9 0 r0.toInt64))] ++ cw CA u9 h ad) H := hP
    have hD : va_D (lA h ad qo s.heap.size) ([(qo, oc (CA 4) (vp_updL f9 0 r0.toInt64))] ++ cw CA u9 h ad) := hD
    refine lv_goto (tgt := 21) hx hb dL_weight_10 (by decide) ?_
    refine lv_iconst (v := 0) hx hb dL_weight_21 (by decide) ?_
    exact W.iret (v := 0) hx hb hr (fun t ht hW => ⟨⟨_, (u9, vp_updL f9 0 r0.toInt64), rfl, Or.inr (Or.inr (Or.inr ⟨rfl, r0, hpo, by simp [vp_updL]⟩)), gpost_at hP hK hD ht hW.alike⟩, hS.F ht⟩) hS.2.2 dL_weight_22
set_option maxHeartbeats 4000000 in
set_option maxRecDepth 100000 in
theorem kL_sum (l : Launch) (hlt : l.stackTraces = false) (D : va_G) (CA : Nat → ClassId) (g : Nat → Nat → Int32) (h : Nat → Nat → Nat) (ad : Nat → Nat) (sz : Nat) (sa : Nat → Nat) (qo : Nat) (f9 : Nat → Int64) (kd : Int32) (jp : Nat → Nat) (hI : CIv g h jp) : Met l yL_sum wL_sum (rm 2 1 6) (va_Pc [.ref (ad 0), .int kd, .ref qo] (fun U => gpre D (tyL CA) ([(qo, oc (CA 4) (f9))] ++ cw CA g h ad) sz U ∧ xz (lA h ad qo sz) sa U U.heap ∧ xn U)) (va_Qi (fun (r : Int32) (u : (Nat → Nat → Int32) × (Nat → Int64)) => w4 (ib kd 6) False False r (u = (g, f9)) (∃ r0, (fun (r : Int32) (u : Nat → Nat → Int32) => ¬ (ib kd 6) ∧ ∃ k, k < 6 ∧ kd = nI k ∧ r = l_sum (fun j => g (57 + h (3 + k) j) 8) (h 1 k) ∧ u = g) r0 u.1 ∧ u.2 0 = r0.toInt64)) (fun u t => gpost D (tyL CA) ([(qo, oc (CA 4) (u.2))] ++ cw CA u.1 h ad) (lA h ad qo sz) t) (lA h ad qo sz)) 1 6 (lA h ad qo sz) := by
  refine va_MetW (cc := cL_sum) (maxL := 4) (ret := (some .int)) (hh := [(0, 9, 12, 13)]) (by decide) rfl ?_
  intro p e s m args below meth c s₁ B hml hv
  obtain ⟨rfl, ⟨hsz, hP, hK, hD0⟩, hZ, hN⟩ := hv
  have hx := B.exec
  have hb := B.bytes
  have hr := B.returns
  have hT0 : ∀ w ∈ wL_sum, w.before _ s = true := fun w hw => atoms_spec (ws := wL_sum) B.pre w hw
  have hT : ∀ w ∈ TB, w.before _ s = true := fun w hw => hT0 w (List.mem_cons_of_mem _ hw)
  have hTab := vx_table (x := yL_sum) B (hT0 _ List.mem_cons_self)
  have hown : s.vm.findClass "CountLeastLaw" = some m.cls := findClass_of_methodNamed B.named
  subst hsz
  have hD := D_lA (sz := s.heap.size) hD0
  have hS : va_S (lA h ad qo s.heap.size) s.heap s.heap [] := va_S.rf
  have hP : va_P D vwCl ([(qo, oc (CA 4) (f9))] ++ cw CA g h ad) s.heap := hP
  have hl := lv_entry ([.ref (ad 0), .int kd, .ref qo]) (n := 4) (Nat.le_of_ble_eq_true rfl)
  rw [lg_entry_eq]
  generalize (lg_sl ([.ref (ad 0), .int kd, .ref qo]) ++ List.replicate (4 - (lg_sl ([.ref (ad 0), .int kd, .ref qo])).length) Slot.unset).toArray = ls at hl ⊢
  have hl : lv_has ls 4 [(0, .ref (ad 0)), (1, .int kd), (2, .ref qo)] := hl
  refine lv_aload_n hx hb dL_sum_0 rfl (lv_at hl 2 rfl) ?_
  refine lv_iconst (v := 0) hx hb dL_sum_1 (by decide) ?_
  refine lv_aload_n hx hb dL_sum_2 rfl (lv_at hl 0 rfl) ?_
  refine lv_iload_n hx hb dL_sum_3 rfl (lv_at hl 1 rfl) ?_
  refine kLi (n := 1) (D := D) (CA := CA) (wB := [(qo, oc (CA 4) f9)]) (wx := fun z => cw CA z h ad) (g0 := g) (wd := (fun u : Nat → Nat → Int32 => cw CA u h ad)) (te := te3 (ib kd 6) False False) (As := [.int kd]) (rest := [.int 0, .ref qo]) ⟨hx, hb, hml, hown, hT⟩ (kC_sum l hlt D CA g h ad s.heap.size sa kd jp hI) (gi_V wm_438 wm_439 wm_440 wm_1 wm_441) rfl rfl (by decide +kernel) ⟨(Nat.le_of_ble_eq_true rfl), (Nat.le_of_ble_eq_true rfl)⟩ (va_recv hK (P_r hP) (ci := 0) (q0 := 0) rfl cw_X) hZ hK hP hD hS (fun q h9 => Or.inr h9) (fun q h9 hl9 => nA_in (c := cc CA g h ad) q h9 hl9) rfl hl.1 rfl (Nat.le_of_ble_eq_true rfl) dL_sum_4 ⟨(Nat.le_of_ble_eq_true rfl), (Nat.le_of_ble_eq_true rfl)⟩ (fun E ce q9 H locs hte hP hD hS hce hcv hcl => ?_) (fun r0 u9 H locs hpo hP hD hS => ?_)
  · rcases hte with ⟨rfl, hb1⟩ | ⟨-, -, hb9⟩ | ⟨-, -, -, hb9⟩
    · refine vx_catch hown [] ⟨0, 9, 12, 13⟩ [] hTab (fun z hz => absurd hz List.not_mem_nil) rfl (by decide) (hT _ wm_113) (xc1 hZ.2.2.1) hce hcv hcl ?_
      refine lv_astore_n (lv' := [(3, .ref q9), (0, .ref (ad 0)), (1, .int kd), (2, .ref qo)]) hx hb dL_sum_12 rfl hl (by decide) rfl (fun ls hl => ?_)
      refine lv_iconst (v := 1) hx hb dL_sum_13 (by decide) ?_
      exact W.iret (v := 1) hx hb hr (fun t ht hW => ⟨⟨_, (g, f9), rfl, Or.inl ⟨rfl, hb1, rfl⟩, gpost_at hP hK hD ht hW.alike⟩, hS.F ht⟩) hS.2.2 dL_sum_14
    · exact hb9.elim
    · exact hb9.elim
  · refine lv_i2l hx hb dL_sum_7 rfl ?_
    refine va_last (D := D) hx hb hK hP hD hS 0 4 rfl rfl (vp_in_nI (n := 0) (N := 1) (by decide) (by decide)) dL_sum_8 (fun H locs hP hD hS => ?_)
    have hP : va_P D vwCl ([(qo, oc (CA 4) (vp_updL f9 0 r0.toInt64))] ++ cw CA u9 h ad) H := hP
    have hD : va_D (lA h ad qo s.heap.size) ([(qo, oc (CA 4) (vp_updL f9 0 r0.toInt64))] ++ cw CA u9 h ad) := hD
    refine lv_goto (tgt := 15) hx hb dL_sum_9 (by decide) ?_
    refine lv_iconst (v := 0) hx hb dL_sum_15 (by decide) ?_
    exact W.iret (v := 0) hx hb hr (fun t ht hW => ⟨⟨_, (u9, vp_updL f9 0 r0.toInt64), rfl, Or.inr (Or.inr (Or.inr ⟨rfl, r0, hpo, by simp [vp_updL]⟩)), gpost_at hP hK hD ht hW.alike⟩, hS.F ht⟩) hS.2.2 dL_sum_16
set_option maxHeartbeats 4000000 in
set_option maxRecDepth 100000 in
theorem kL_share (l : Launch) (hlt : l.stackTraces = false) (D : va_G) (CA : Nat → ClassId) (g : Nat → Nat → Int32) (h : Nat → Nat → Nat) (ad : Nat → Nat) (sz : Nat) (sa : Nat → Nat) (qo : Nat) (f9 : Nat → Int64) (kd pt : Int32) (jp : Nat → Nat) (hI : CIv g h jp) : Met l yL_share wL_share (rm 19 2 12) (va_Pc [.ref (ad 0), .int kd, .int pt, .ref qo] (fun U => gpre D (tyL CA) ([(qo, oc (CA 4) (f9))] ++ cw CA g h ad) sz U ∧ xz (lA h ad qo sz) sa U U.heap ∧ xn U)) (va_Qi (fun (r : Int32) (u : (Nat → Nat → Int32) × (Nat → Int64)) => w4 (ib kd 6 ∨ ib pt 2) False False r (u = (g, f9)) (∃ r0, (fun (r : Int32) (u : Nat → Nat → Int32) => ¬ (ib kd 6 ∨ ib pt 2) ∧ ∃ k v A K, k < 6 ∧ kd = nI k ∧ prs h jp g 6 v A ∧ par v h jp k u ∧ u (8 + 9 * k) 0 = nI K ∧ K < 25 ∧ r = les K A pt) r0 u.1 ∧ u.2 0 = r0.toInt64)) (fun u t => gpost D (tyL CA) ([(qo, oc (CA 4) (u.2))] ++ cw CA u.1 h ad) (lA h ad qo sz) t) (lA h ad qo sz)) 2 12 (lA h ad qo sz) := by
  refine va_MetW (cc := cL_share) (maxL := 5) (ret := (some .int)) (hh := [(0, 10, 13, 13)]) (by decide) rfl ?_
  intro p e s m args below meth c s₁ B hml hv
  obtain ⟨rfl, ⟨hsz, hP, hK, hD0⟩, hZ, hN⟩ := hv
  have hx := B.exec
  have hb := B.bytes
  have hr := B.returns
  have hT0 : ∀ w ∈ wL_share, w.before _ s = true := fun w hw => atoms_spec (ws := wL_share) B.pre w hw
  have hT : ∀ w ∈ TB, w.before _ s = true := fun w hw => hT0 w (List.mem_cons_of_mem _ hw)
  have hTab := vx_table (x := yL_share) B (hT0 _ List.mem_cons_self)
  have hown : s.vm.findClass "CountLeastLaw" = some m.cls := findClass_of_methodNamed B.named
  subst hsz
  have hD := D_lA (sz := s.heap.size) hD0
  have hS : va_S (lA h ad qo s.heap.size) s.heap s.heap [] := va_S.rf
  have hP : va_P D vwCl ([(qo, oc (CA 4) (f9))] ++ cw CA g h ad) s.heap := hP
  have hl := lv_entry ([.ref (ad 0), .int kd, .int pt, .ref qo]) (n := 5) (Nat.le_of_ble_eq_true rfl)
  rw [lg_entry_eq]
  generalize (lg_sl ([.ref (ad 0), .int kd, .int pt, .ref qo]) ++ List.replicate (5 - (lg_sl ([.ref (ad 0), .int kd, .int pt, .ref qo])).length) Slot.unset).toArray = ls at hl ⊢
  have hl : lv_has ls 5 [(0, .ref (ad 0)), (1, .int kd), (2, .int pt), (3, .ref qo)] := hl
  refine lv_aload_n hx hb dL_share_0 rfl (lv_at hl 3 rfl) ?_
  refine lv_iconst (v := 0) hx hb dL_share_1 (by decide) ?_
  refine lv_aload_n hx hb dL_share_2 rfl (lv_at hl 0 rfl) ?_
  refine lv_iload_n hx hb dL_share_3 rfl (lv_at hl 1 rfl) ?_
  refine lv_iload_n hx hb dL_share_4 rfl (lv_at hl 2 rfl) ?_
  refine kLi (n := 2) (D := D) (CA := CA) (wB := [(qo, oc (CA 4) f9)]) (wx := fun z => cw CA z h ad) (g0 := g) (wd := (fun u : Nat → Nat → Int32 => cw CA u h ad)) (te := te3 (ib kd 6 ∨ ib pt 2) False False) (As := [.int kd, .int pt]) (rest := [.int 0, .ref qo]) ⟨hx, hb, hml, hown, hT⟩ (kC_share l hlt D CA g h ad s.heap.size sa kd pt jp hI) (gi_V wm_449 wm_450 wm_451 wm_1 wm_452) rfl rfl (by decide +kernel) ⟨(Nat.le_of_ble_eq_true rfl), (Nat.le_of_ble_eq_true rfl)⟩ (va_recv hK (P_r hP) (ci := 0) (q0 := 0) rfl cw_X) hZ hK hP hD hS (fun q h9 => Or.inr h9) (fun q h9 hl9 => nA_in (c := cc CA g h ad) q h9 hl9) rfl hl.1 rfl (Nat.le_of_ble_eq_true rfl) dL_share_5 ⟨(Nat.le_of_ble_eq_true rfl), (Nat.le_of_ble_eq_true rfl)⟩ (fun E ce q9 H locs hte hP hD hS hce hcv hcl => ?_) (fun r0 u9 H locs hpo hP hD hS => ?_)
  · rcases hte with ⟨rfl, hb1⟩ | ⟨-, -, hb9⟩ | ⟨-, -, -, hb9⟩
    · refine vx_catch hown [] ⟨0, 10, 13, 13⟩ [] hTab (fun z hz => absurd hz List.not_mem_nil) rfl (by decide) (hT _ wm_113) (xc1 hZ.2.2.1) hce hcv hcl ?_
      refine lv_astore (lv' := [(4, .ref q9), (0, .ref (ad 0)), (1, .int kd), (2, .int pt), (3, .ref qo)]) hx hb dL_share_13 hl (by decide) rfl (fun ls hl => ?_)
      refine lv_iconst (v := 1) hx hb dL_share_15 (by decide) ?_
      exact W.iret (v := 1) hx hb hr (fun t ht hW => ⟨⟨_, (g, f9), rfl, Or.inl ⟨rfl, hb1, rfl⟩, gpost_at hP hK hD ht hW.alike⟩, hS.F ht⟩) hS.2.2 dL_share_16
    · exact hb9.elim
    · exact hb9.elim
  · refine lv_i2l hx hb dL_share_8 rfl ?_
    refine va_last (D := D) hx hb hK hP hD hS 0 4 rfl rfl (vp_in_nI (n := 0) (N := 1) (by decide) (by decide)) dL_share_9 (fun H locs hP hD hS => ?_)
    have hP : va_P D vwCl ([(qo, oc (CA 4) (vp_updL f9 0 r0.toInt64))] ++ cw CA u9 h ad) H := hP
    have hD : va_D (lA h ad qo s.heap.size) ([(qo, oc (CA 4) (vp_updL f9 0 r0.toInt64))] ++ cw CA u9 h ad) := hD
    refine lv_goto (tgt := 17) hx hb dL_share_10 (by decide) ?_
    refine lv_iconst (v := 0) hx hb dL_share_17 (by decide) ?_
    exact W.iret (v := 0) hx hb hr (fun t ht hW => ⟨⟨_, (u9, vp_updL f9 0 r0.toInt64), rfl, Or.inr (Or.inr (Or.inr ⟨rfl, r0, hpo, by simp [vp_updL]⟩)), gpost_at hP hK hD ht hW.alike⟩, hS.F ht⟩) hS.2.2 dL_share_18
set_option maxHeartbeats 4000000 in
set_option maxRecDepth 100000 in
theorem kL_sieve (l : Launch) (hlt : l.stackTraces = false) (D : va_G) (CA : Nat → ClassId) (g : Nat → Nat → Int32) (h : Nat → Nat → Nat) (ad : Nat → Nat) (sz : Nat) (sa : Nat → Nat) (qo : Nat) (f9 : Nat → Int64) (kd av bv : Int32) : Met l yL_sieve wL_sieve (rm 2 3 18) (va_Pc [.ref (ad 0), .int kd, .int av, .int bv] (fun U => gpre D (tyL CA) ([(qo, oc (CA 4) (f9))] ++ cw CA g h ad) sz U ∧ xz (lA h ad qo sz) sa U U.heap ∧ xn U)) (va_Qi (fun (r : Int32) (u : (Nat → Nat → Int32) × (Nat → Int64)) => w4 (ib kd 6) (rb av 1 10000 ∨ rb bv 1 av) False r (u = (g, f9)) ((fun (u : Nat → Nat → Int32) => ¬ (ib kd 6) ∧ ¬ (rb av 1 10000 ∨ rb bv 1 av) ∧ ∃ k, k < 6 ∧ kd = nI k ∧ u = (u2 (u2 g (3 + 9 * k) 4 av) (3 + 9 * k) 5 bv)) u.1 ∧ u.2 = f9)) (fun u t => gpost D (tyL CA) ([(qo, oc (CA 4) (u.2))] ++ cw CA u.1 h ad) (lA h ad qo sz) t) (lA h ad qo sz)) 3 18 (lA h ad qo sz) := by
  refine va_MetW (cc := cL_sieve) (maxL := 5) (ret := (some .int)) (hh := [(0, 7, 10, 13), (0, 7, 14, 15)]) (by decide) rfl ?_
  intro p e s m args below meth c s₁ B hml hv
  obtain ⟨rfl, ⟨hsz, hP, hK, hD0⟩, hZ, hN⟩ := hv
  have hx := B.exec
  have hb := B.bytes
  have hr := B.returns
  have hT0 : ∀ w ∈ wL_sieve, w.before _ s = true := fun w hw => atoms_spec (ws := wL_sieve) B.pre w hw
  have hT : ∀ w ∈ TB, w.before _ s = true := fun w hw => hT0 w (List.mem_cons_of_mem _ hw)
  have hTab := vx_table (x := yL_sieve) B (hT0 _ List.mem_cons_self)
  have hown : s.vm.findClass "CountLeastLaw" = some m.cls := findClass_of_methodNamed B.named
  subst hsz
  have hD := D_lA (sz := s.heap.size) hD0
  have hS : va_S (lA h ad qo s.heap.size) s.heap s.heap [] := va_S.rf
  have hP : va_P D vwCl ([(qo, oc (CA 4) (f9))] ++ cw CA g h ad) s.heap := hP
  have hl := lv_entry ([.ref (ad 0), .int kd, .int av, .int bv]) (n := 5) (Nat.le_of_ble_eq_true rfl)
  rw [lg_entry_eq]
  generalize (lg_sl ([.ref (ad 0), .int kd, .int av, .int bv]) ++ List.replicate (5 - (lg_sl ([.ref (ad 0), .int kd, .int av, .int bv])).length) Slot.unset).toArray = ls at hl ⊢
  have hl : lv_has ls 5 [(0, .ref (ad 0)), (1, .int kd), (2, .int av), (3, .int bv)] := hl
  refine lv_aload_n hx hb dL_sieve_0 rfl (lv_at hl 0 rfl) ?_
  refine lv_iload_n hx hb dL_sieve_1 rfl (lv_at hl 1 rfl) ?_
  refine lv_iload_n hx hb dL_sieve_2 rfl (lv_at hl 2 rfl) ?_
  refine lv_iload_n hx hb dL_sieve_3 rfl (lv_at hl 3 rfl) ?_
  refine kLv (n := 3) (D := D) (CA := CA) (wB := [(qo, oc (CA 4) f9)]) (wx := fun z => cw CA z h ad) (g0 := g) (wd := (fun u : Nat → Nat → Int32 => cw CA u h ad)) (te := te3 (ib kd 6) (rb av 1 10000 ∨ rb bv 1 av) False) (As := [.int kd, .int av, .int bv]) (rest := []) ⟨hx, hb, hml, hown, hT⟩ (kC_sieve l hlt D CA g h ad s.heap.size sa kd av bv) (gi_V wm_465 wm_466 wm_467 wm_1 wm_468) rfl rfl (by decide +kernel) ⟨(Nat.le_of_ble_eq_true rfl), (Nat.le_of_ble_eq_true rfl)⟩ (va_recv hK (P_r hP) (ci := 0) (q0 := 0) rfl cw_X) hZ hK hP hD hS (fun q h9 => Or.inr h9) (fun q h9 hl9 => nA_in (c := cc CA g h ad) q h9 hl9) rfl hl.1 rfl (Nat.le_of_ble_eq_true rfl) dL_sieve_4 ⟨(Nat.le_of_ble_eq_true rfl), (Nat.le_of_ble_eq_true rfl)⟩ (fun E ce q9 H locs hte hP hD hS hce hcv hcl => ?_) (fun u9 H locs hpo hP hD hS => ?_)
  · rcases hte with ⟨rfl, hb1⟩ | ⟨rfl, hb1, hb2⟩ | ⟨-, -, -, hb9⟩
    · refine vx_catch hown [] ⟨0, 7, 10, 13⟩ [⟨0, 7, 14, 15⟩] hTab (fun z hz => absurd hz List.not_mem_nil) rfl (by decide) (hT _ wm_113) (xc1 hZ.2.2.1) hce hcv hcl ?_
      refine lv_astore (lv' := [(4, .ref q9), (0, .ref (ad 0)), (1, .int kd), (2, .int av), (3, .int bv)]) hx hb dL_sieve_10 hl (by decide) rfl (fun ls hl => ?_)
      refine lv_iconst (v := 1) hx hb dL_sieve_12 (by decide) ?_
      exact W.iret (v := 1) hx hb hr (fun t ht hW => ⟨⟨_, (g, f9), rfl, Or.inl ⟨rfl, hb1, rfl⟩, gpost_at hP hK hD ht hW.alike⟩, hS.F ht⟩) hS.2.2 dL_sieve_13
    · refine vx_catch hown [⟨0, 7, 10, 13⟩] ⟨0, 7, 14, 15⟩ [] hTab (fun z hz => by rw [List.mem_singleton.mp hz]; exact Or.inr ⟨by decide, _, (hT _ wm_113), hN.1⟩) rfl (by decide) (hT _ wm_114) (xc2 hZ.2.2.1) hce hcv hcl ?_
      refine lv_astore (lv' := [(4, .ref q9), (0, .ref (ad 0)), (1, .int kd), (2, .int av), (3, .int bv)]) hx hb dL_sieve_14 hl (by decide) rfl (fun ls hl => ?_)
      refine lv_iconst (v := 2) hx hb dL_sieve_16 (by decide) ?_
      exact W.iret (v := 2) hx hb hr (fun t ht hW => ⟨⟨_, (g, f9), rfl, Or.inr (Or.inl ⟨rfl, hb1, hb2, rfl⟩), gpost_at hP hK hD ht hW.alike⟩, hS.F ht⟩) hS.2.2 dL_sieve_17
    · exact hb9.elim
  · refine lv_goto (tgt := 18) hx hb dL_sieve_7 (by decide) ?_
    refine lv_iconst (v := 0) hx hb dL_sieve_18 (by decide) ?_
    exact W.iret (v := 0) hx hb hr (fun t ht hW => ⟨⟨_, (u9, f9), rfl, Or.inr (Or.inr (Or.inr ⟨rfl, hpo, rfl⟩)), gpost_at hP hK hD ht hW.alike⟩, hS.F ht⟩) hS.2.2 dL_sieve_19
set_option maxHeartbeats 4000000 in
set_option maxRecDepth 100000 in
theorem kL_scaled (l : Launch) (hlt : l.stackTraces = false) (D : va_G) (CA : Nat → ClassId) (g : Nat → Nat → Int32) (h : Nat → Nat → Nat) (ad : Nat → Nat) (sz : Nat) (sa : Nat → Nat) (qo : Nat) (f9 : Nat → Int64) (kd pt : Int32) (jp : Nat → Nat) (hI : CIv g h jp) (hF : ∀ k, k < 6 → ∃ fa fb, fa ≤ 10000 ∧ 1 ≤ fb ∧ fb ≤ 10000 ∧ g (3 + 9 * k) 4 = nI fa ∧ g (3 + 9 * k) 5 = nI fb) : Met l yL_scaled wL_scaled (rm 3 2 12) (va_Pc [.ref (ad 0), .int kd, .int pt, .ref qo] (fun U => gpre D (tyL CA) ([(qo, oc (CA 4) (f9))] ++ cw CA g h ad) sz U ∧ xz (lA h ad qo sz) sa U U.heap ∧ xn U)) (va_Qi (fun (r : Int32) (u : (Nat → Nat → Int32) × (Nat → Int64)) => w4 (ib kd 6 ∨ ib pt 3) False False r (u = (g, f9)) (∃ r0, (fun (r : Int32) (u : Nat → Nat → Int32) => ¬ (ib kd 6 ∨ ib pt 3) ∧ ∃ k fa fb, k < 6 ∧ kd = nI k ∧ fa ≤ 10000 ∧ 1 ≤ fb ∧ fb ≤ 10000 ∧ g (3 + 9 * k) 4 = nI fa ∧ g (3 + 9 * k) 5 = nI fb ∧ r = scl (h 1 k) fa fb pt ∧ u = g) r0 u.1 ∧ u.2 0 = r0.toInt64)) (fun u t => gpost D (tyL CA) ([(qo, oc (CA 4) (u.2))] ++ cw CA u.1 h ad) (lA h ad qo sz) t) (lA h ad qo sz)) 2 12 (lA h ad qo sz) := by
  refine va_MetW (cc := cL_scaled) (maxL := 5) (ret := (some .int)) (hh := [(0, 10, 13, 13)]) (by decide) rfl ?_
  intro p e s m args below meth c s₁ B hml hv
  obtain ⟨rfl, ⟨hsz, hP, hK, hD0⟩, hZ, hN⟩ := hv
  have hx := B.exec
  have hb := B.bytes
  have hr := B.returns
  have hT0 : ∀ w ∈ wL_scaled, w.before _ s = true := fun w hw => atoms_spec (ws := wL_scaled) B.pre w hw
  have hT : ∀ w ∈ TB, w.before _ s = true := fun w hw => hT0 w (List.mem_cons_of_mem _ hw)
  have hTab := vx_table (x := yL_scaled) B (hT0 _ List.mem_cons_self)
  have hown : s.vm.findClass "CountLeastLaw" = some m.cls := findClass_of_methodNamed B.named
  subst hsz
  have hD := D_lA (sz := s.heap.size) hD0
  have hS : va_S (lA h ad qo s.heap.size) s.heap s.heap [] := va_S.rf
  have hP : va_P D vwCl ([(qo, oc (CA 4) (f9))] ++ cw CA g h ad) s.heap := hP
  have hl := lv_entry ([.ref (ad 0), .int kd, .int pt, .ref qo]) (n := 5) (Nat.le_of_ble_eq_true rfl)
  rw [lg_entry_eq]
  generalize (lg_sl ([.ref (ad 0), .int kd, .int pt, .ref qo]) ++ List.replicate (5 - (lg_sl ([.ref (ad 0), .int kd, .int pt, .ref qo])).length) Slot.unset).toArray = ls at hl ⊢
  have hl : lv_has ls 5 [(0, .ref (ad 0)), (1, .int kd), (2, .int pt), (3, .ref qo)] := hl
  refine lv_aload_n hx hb dL_scaled_0 rfl (lv_at hl 3 rfl) ?_
  refine lv_iconst (v := 0) hx hb dL_scaled_1 (by decide) ?_
  refine lv_aload_n hx hb dL_scaled_2 rfl (lv_at hl 0 rfl) ?_
  refine lv_iload_n hx hb dL_scaled_3 rfl (lv_at hl 1 rfl) ?_
  refine lv_iload_n hx hb dL_scaled_4 rfl (lv_at hl 2 rfl) ?_
  refine kLi (n := 2) (D := D) (CA := CA) (wB := [(qo, oc (CA 4) f9)]) (wx := fun z => cw CA z h ad) (g0 := g) (wd := (fun u : Nat → Nat → Int32 => cw CA u h ad)) (te := te3 (ib kd 6 ∨ ib pt 3) False False) (As := [.int kd, .int pt]) (rest := [.int 0, .ref qo]) ⟨hx, hb, hml, hown, hT⟩ (kC_scaled l hlt D CA g h ad s.heap.size sa kd pt jp hI hF) (gi_V wm_472 wm_473 wm_474 wm_1 wm_475) rfl rfl (by decide +kernel) ⟨(Nat.le_of_ble_eq_true rfl), (Nat.le_of_ble_eq_true rfl)⟩ (va_recv hK (P_r hP) (ci := 0) (q0 := 0) rfl cw_X) hZ hK hP hD hS (fun q h9 => Or.inr h9) (fun q h9 hl9 => nA_in (c := cc CA g h ad) q h9 hl9) rfl hl.1 rfl (Nat.le_of_ble_eq_true rfl) dL_scaled_5 ⟨(Nat.le_of_ble_eq_true rfl), (Nat.le_of_ble_eq_true rfl)⟩ (fun E ce q9 H locs hte hP hD hS hce hcv hcl => ?_) (fun r0 u9 H locs hpo hP hD hS => ?_)
  · rcases hte with ⟨rfl, hb1⟩ | ⟨-, -, hb9⟩ | ⟨-, -, -, hb9⟩
    · refine vx_catch hown [] ⟨0, 10, 13, 13⟩ [] hTab (fun z hz => absurd hz List.not_mem_nil) rfl (by decide) (hT _ wm_113) (xc1 hZ.2.2.1) hce hcv hcl ?_
      refine lv_astore (lv' := [(4, .ref q9), (0, .ref (ad 0)), (1, .int kd), (2, .int pt), (3, .ref qo)]) hx hb dL_scaled_13 hl (by decide) rfl (fun ls hl => ?_)
      refine lv_iconst (v := 1) hx hb dL_scaled_15 (by decide) ?_
      exact W.iret (v := 1) hx hb hr (fun t ht hW => ⟨⟨_, (g, f9), rfl, Or.inl ⟨rfl, hb1, rfl⟩, gpost_at hP hK hD ht hW.alike⟩, hS.F ht⟩) hS.2.2 dL_scaled_16
    · exact hb9.elim
    · exact hb9.elim
  · refine lv_i2l hx hb dL_scaled_8 rfl ?_
    refine va_last (D := D) hx hb hK hP hD hS 0 4 rfl rfl (vp_in_nI (n := 0) (N := 1) (by decide) (by decide)) dL_scaled_9 (fun H locs hP hD hS => ?_)
    have hP : va_P D vwCl ([(qo, oc (CA 4) (vp_updL f9 0 r0.toInt64))] ++ cw CA u9 h ad) H := hP
    have hD : va_D (lA h ad qo s.heap.size) ([(qo, oc (CA 4) (vp_updL f9 0 r0.toInt64))] ++ cw CA u9 h ad) := hD
    refine lv_goto (tgt := 17) hx hb dL_scaled_10 (by decide) ?_
    refine lv_iconst (v := 0) hx hb dL_scaled_17 (by decide) ?_
    exact W.iret (v := 0) hx hb hr (fun t ht hW => ⟨⟨_, (u9, vp_updL f9 0 r0.toInt64), rfl, Or.inr (Or.inr (Or.inr ⟨rfl, r0, hpo, by simp [vp_updL]⟩)), gpost_at hP hK hD ht hW.alike⟩, hS.F ht⟩) hS.2.2 dL_scaled_18
set_option maxHeartbeats 4000000 in
set_option maxRecDepth 100000 in
theorem kL_diverse (l : Launch) (hlt : l.stackTraces = false) (D : va_G) (CA : Nat → ClassId) (g : Nat → Nat → Int32) (h : Nat → Nat → Nat) (ad : Nat → Nat) (sz : Nat) (sa : Nat → Nat) (qo : Nat) (f9 : Nat → Int64) (pt : Int32) (jp : Nat → Nat) (hI : CIv g h jp) (hal : aln h 6 ≤ (h 0 0 * (h 0 0 - 1))) : Met l yL_diverse wL_diverse (rm 3 1 6) (va_Pc [.ref (ad 0), .int pt, .ref qo] (fun U => gpre D (tyL CA) ([(qo, oc (CA 4) (f9))] ++ cw CA g h ad) sz U ∧ xz (lA h ad qo sz) sa U U.heap ∧ xn U)) (va_Qi (fun (r : Int32) (u : (Nat → Nat → Int32) × (Nat → Int64)) => w4 (ib pt 2) False False r (u = (g, f9)) (∃ r0, (fun (r : Int32) (u : Nat → Nat → Int32) => ¬ (ib pt 2) ∧ r = les ((h 0 0 * (h 0 0 - 1)) - aln h 6) (h 0 0 * (h 0 0 - 1)) pt ∧ u = g) r0 u.1 ∧ u.2 0 = r0.toInt64)) (fun u t => gpost D (tyL CA) ([(qo, oc (CA 4) (u.2))] ++ cw CA u.1 h ad) (lA h ad qo sz) t) (lA h ad qo sz)) 1 6 (lA h ad qo sz) := by
  refine va_MetW (cc := cL_diverse) (maxL := 4) (ret := (some .int)) (hh := [(0, 9, 12, 13)]) (by decide) rfl ?_
  intro p e s m args below meth c s₁ B hml hv
  obtain ⟨rfl, ⟨hsz, hP, hK, hD0⟩, hZ, hN⟩ := hv
  have hx := B.exec
  have hb := B.bytes
  have hr := B.returns
  have hT0 : ∀ w ∈ wL_diverse, w.before _ s = true := fun w hw => atoms_spec (ws := wL_diverse) B.pre w hw
  have hT : ∀ w ∈ TB, w.before _ s = true := fun w hw => hT0 w (List.mem_cons_of_mem _ hw)
  have hTab := vx_table (x := yL_diverse) B (hT0 _ List.mem_cons_self)
  have hown : s.vm.findClass "CountLeastLaw" = some m.cls := findClass_of_methodNamed B.named
  subst hsz
  have hD := D_lA (sz := s.heap.size) hD0
  have hS : va_S (lA h ad qo s.heap.size) s.heap s.heap [] := va_S.rf
  have hP : va_P D vwCl ([(qo, oc (CA 4) (f9))] ++ cw CA g h ad) s.heap := hP
  have hl := lv_entry ([.ref (ad 0), .int pt, .ref qo]) (n := 4) (Nat.le_of_ble_eq_true rfl)
  rw [lg_entry_eq]
  generalize (lg_sl ([.ref (ad 0), .int pt, .ref qo]) ++ List.replicate (4 - (lg_sl ([.ref (ad 0), .int pt, .ref qo])).length) Slot.unset).toArray = ls at hl ⊢
  have hl : lv_has ls 4 [(0, .ref (ad 0)), (1, .int pt), (2, .ref qo)] := hl
  refine lv_aload_n hx hb dL_diverse_0 rfl (lv_at hl 2 rfl) ?_
  refine lv_iconst (v := 0) hx hb dL_diverse_1 (by decide) ?_
  refine lv_aload_n hx hb dL_diverse_2 rfl (lv_at hl 0 rfl) ?_
  refine lv_iload_n hx hb dL_diverse_3 rfl (lv_at hl 1 rfl) ?_
  refine kLi (n := 1) (D := D) (CA := CA) (wB := [(qo, oc (CA 4) f9)]) (wx := fun z => cw CA z h ad) (g0 := g) (wd := (fun u : Nat → Nat → Int32 => cw CA u h ad)) (te := te3 (ib pt 2) False False) (As := [.int pt]) (rest := [.int 0, .ref qo]) ⟨hx, hb, hml, hown, hT⟩ (kC_diverse l hlt D CA g h ad s.heap.size sa pt jp hI hal) (gi_V wm_479 wm_480 wm_481 wm_1 wm_482) rfl rfl (by decide +kernel) ⟨(Nat.le_of_ble_eq_true rfl), (Nat.le_of_ble_eq_true rfl)⟩ (va_recv hK (P_r hP) (ci := 0) (q0 := 0) rfl cw_X) hZ hK hP hD hS (fun q h9 => Or.inr h9) (fun q h9 hl9 => nA_in (c := cc CA g h ad) q h9 hl9) rfl hl.1 rfl (Nat.le_of_ble_eq_true rfl) dL_diverse_4 ⟨(Nat.le_of_ble_eq_true rfl), (Nat.le_of_ble_eq_true rfl)⟩ (fun E ce q9 H locs hte hP hD hS hce hcv hcl => ?_) (fun r0 u9 H locs hpo hP hD hS => ?_)
  · rcases hte with ⟨rfl, hb1⟩ | ⟨-, -, hb9⟩ | ⟨-, -, -, hb9⟩
    · refine vx_catch hown [] ⟨0, 9, 12, 13⟩ [] hTab (fun z hz => absurd hz List.not_mem_nil) rfl (by decide) (hT _ wm_113) (xc1 hZ.2.2.1) hce hcv hcl ?_
      refine lv_astore_n (lv' := [(3, .ref q9), (0, .ref (ad 0)), (1, .int pt), (2, .ref qo)]) hx hb dL_diverse_12 rfl hl (by decide) rfl (fun ls hl => ?_)
      refine lv_iconst (v := 1) hx hb dL_diverse_13 (by decide) ?_
      exact W.iret (v := 1) hx hb hr (fun t ht hW => ⟨⟨_, (g, f9), rfl, Or.inl ⟨rfl, hb1, rfl⟩, gpost_at hP hK hD ht hW.alike⟩, hS.F ht⟩) hS.2.2 dL_diverse_14
    · exact hb9.elim
    · exact hb9.elim
  · refine lv_i2l hx hb dL_diverse_7 rfl ?_
    refine va_last (D := D) hx hb hK hP hD hS 0 4 rfl rfl (vp_in_nI (n := 0) (N := 1) (by decide) (by decide)) dL_diverse_8 (fun H locs hP hD hS => ?_)
    have hP : va_P D vwCl ([(qo, oc (CA 4) (vp_updL f9 0 r0.toInt64))] ++ cw CA u9 h ad) H := hP
    have hD : va_D (lA h ad qo s.heap.size) ([(qo, oc (CA 4) (vp_updL f9 0 r0.toInt64))] ++ cw CA u9 h ad) := hD
    refine lv_goto (tgt := 15) hx hb dL_diverse_9 (by decide) ?_
    refine lv_iconst (v := 0) hx hb dL_diverse_15 (by decide) ?_
    exact W.iret (v := 0) hx hb hr (fun t ht hW => ⟨⟨_, (u9, vp_updL f9 0 r0.toInt64), rfl, Or.inr (Or.inr (Or.inr ⟨rfl, r0, hpo, by simp [vp_updL]⟩)), gpost_at hP hK hD ht hW.alike⟩, hS.F ht⟩) hS.2.2 dL_diverse_16
set_option maxHeartbeats 4000000 in
set_option maxRecDepth 100000 in
theorem kL_pieces (l : Launch) (hlt : l.stackTraces = false) (D : va_G) (CA : Nat → ClassId) (g : Nat → Nat → Int32) (h : Nat → Nat → Nat) (ad : Nat → Nat) (sz : Nat) (sa : Nat → Nat) (qo : Nat) (f9 : Nat → Int64) (kd : Int32) : Met l yL_pieces wL_pieces (rm 2 1 6) (va_Pc [.ref (ad 0), .int kd, .ref qo] (fun U => gpre D (tyL CA) ([(qo, oc (CA 4) (f9))] ++ cw CA g h ad) sz U ∧ xz (lA h ad qo sz) sa U U.heap ∧ xn U)) (va_Qi (fun (r : Int32) (u : (Nat → Nat → Int32) × (Nat → Int64)) => w4 ((¬ kd = -1 ∧ ib kd 6)) False False r (u = (g, f9)) (∃ r0, (fun (r : Int32) (u : Nat → Nat → Int32) => ¬ ((¬ kd = -1 ∧ ib kd 6)) ∧ (kd = -1 ∧ r = g 0 2 ∨ ∃ k, k < 6 ∧ kd = nI k ∧ r = g (3 + 9 * k) 6) ∧ u = g) r0 u.1 ∧ u.2 0 = r0.toInt64)) (fun u t => gpost D (tyL CA) ([(qo, oc (CA 4) (u.2))] ++ cw CA u.1 h ad) (lA h ad qo sz) t) (lA h ad qo sz)) 1 6 (lA h ad qo sz) := by
  refine va_MetW (cc := cL_pieces) (maxL := 4) (ret := (some .int)) (hh := [(0, 9, 12, 13)]) (by decide) rfl ?_
  intro p e s m args below meth c s₁ B hml hv
  obtain ⟨rfl, ⟨hsz, hP, hK, hD0⟩, hZ, hN⟩ := hv
  have hx := B.exec
  have hb := B.bytes
  have hr := B.returns
  have hT0 : ∀ w ∈ wL_pieces, w.before _ s = true := fun w hw => atoms_spec (ws := wL_pieces) B.pre w hw
  have hT : ∀ w ∈ TB, w.before _ s = true := fun w hw => hT0 w (List.mem_cons_of_mem _ hw)
  have hTab := vx_table (x := yL_pieces) B (hT0 _ List.mem_cons_self)
  have hown : s.vm.findClass "CountLeastLaw" = some m.cls := findClass_of_methodNamed B.named
  subst hsz
  have hD := D_lA (sz := s.heap.size) hD0
  have hS : va_S (lA h ad qo s.heap.size) s.heap s.heap [] := va_S.rf
  have hP : va_P D vwCl ([(qo, oc (CA 4) (f9))] ++ cw CA g h ad) s.heap := hP
  have hl := lv_entry ([.ref (ad 0), .int kd, .ref qo]) (n := 4) (Nat.le_of_ble_eq_true rfl)
  rw [lg_entry_eq]
  generalize (lg_sl ([.ref (ad 0), .int kd, .ref qo]) ++ List.replicate (4 - (lg_sl ([.ref (ad 0), .int kd, .ref qo])).length) Slot.unset).toArray = ls at hl ⊢
  have hl : lv_has ls 4 [(0, .ref (ad 0)), (1, .int kd), (2, .ref qo)] := hl
  refine lv_aload_n hx hb dL_pieces_0 rfl (lv_at hl 2 rfl) ?_
  refine lv_iconst (v := 0) hx hb dL_pieces_1 (by decide) ?_
  refine lv_aload_n hx hb dL_pieces_2 rfl (lv_at hl 0 rfl) ?_
  refine lv_iload_n hx hb dL_pieces_3 rfl (lv_at hl 1 rfl) ?_
  refine kLi (n := 1) (D := D) (CA := CA) (wB := [(qo, oc (CA 4) f9)]) (wx := fun z => cw CA z h ad) (g0 := g) (wd := (fun u : Nat → Nat → Int32 => cw CA u h ad)) (te := te3 ((¬ kd = -1 ∧ ib kd 6)) False False) (As := [.int kd]) (rest := [.int 0, .ref qo]) ⟨hx, hb, hml, hown, hT⟩ (kC_pieces l hlt D CA g h ad s.heap.size sa kd) (gi_V wm_489 wm_490 wm_491 wm_1 wm_492) rfl rfl (by decide +kernel) ⟨(Nat.le_of_ble_eq_true rfl), (Nat.le_of_ble_eq_true rfl)⟩ (va_recv hK (P_r hP) (ci := 0) (q0 := 0) rfl cw_X) hZ hK hP hD hS (fun q h9 => Or.inr h9) (fun q h9 hl9 => nA_in (c := cc CA g h ad) q h9 hl9) rfl hl.1 rfl (Nat.le_of_ble_eq_true rfl) dL_pieces_4 ⟨(Nat.le_of_ble_eq_true rfl), (Nat.le_of_ble_eq_true rfl)⟩ (fun E ce q9 H locs hte hP hD hS hce hcv hcl => ?_) (fun r0 u9 H locs hpo hP hD hS => ?_)
  · rcases hte with ⟨rfl, hb1⟩ | ⟨-, -, hb9⟩ | ⟨-, -, -, hb9⟩
    · refine vx_catch hown [] ⟨0, 9, 12, 13⟩ [] hTab (fun z hz => absurd hz List.not_mem_nil) rfl (by decide) (hT _ wm_113) (xc1 hZ.2.2.1) hce hcv hcl ?_
      refine lv_astore_n (lv' := [(3, .ref q9), (0, .ref (ad 0)), (1, .int kd), (2, .ref qo)]) hx hb dL_pieces_12 rfl hl (by decide) rfl (fun ls hl => ?_)
      refine lv_iconst (v := 1) hx hb dL_pieces_13 (by decide) ?_
      exact W.iret (v := 1) hx hb hr (fun t ht hW => ⟨⟨_, (g, f9), rfl, Or.inl ⟨rfl, hb1, rfl⟩, gpost_at hP hK hD ht hW.alike⟩, hS.F ht⟩) hS.2.2 dL_pieces_14
    · exact hb9.elim
    · exact hb9.elim
  · refine lv_i2l hx hb dL_pieces_7 rfl ?_
    refine va_last (D := D) hx hb hK hP hD hS 0 4 rfl rfl (vp_in_nI (n := 0) (N := 1) (by decide) (by decide)) dL_pieces_8 (fun H locs hP hD hS => ?_)
    have hP : va_P D vwCl ([(qo, oc (CA 4) (vp_updL f9 0 r0.toInt64))] ++ cw CA u9 h ad) H := hP
    have hD : va_D (lA h ad qo s.heap.size) ([(qo, oc (CA 4) (vp_updL f9 0 r0.toInt64))] ++ cw CA u9 h ad) := hD
    refine lv_goto (tgt := 15) hx hb dL_pieces_9 (by decide) ?_
    refine lv_iconst (v := 0) hx hb dL_pieces_15 (by decide) ?_
    exact W.iret (v := 0) hx hb hr (fun t ht hW => ⟨⟨_, (u9, vp_updL f9 0 r0.toInt64), rfl, Or.inr (Or.inr (Or.inr ⟨rfl, r0, hpo, by simp [vp_updL]⟩)), gpost_at hP hK hD ht hW.alike⟩, hS.F ht⟩) hS.2.2 dL_pieces_16
