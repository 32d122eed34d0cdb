set_option maxHeartbeats 4000000 in
set_option maxRecDepth 100000 in
theorem kC_bound (l : Launch) (hlt : l.stackTraces = false) (D : va_G) (CA : Nat → ClassId) (g : Nat → Nat → Int32) (h : Nat → Nat → Nat) (ad : Nat → Nat) (sz : Nat) (sa : Nat → Nat) (kd tn : Int32) : vx_Met l yC_bound wC_bound (rm 1 2 12) (va_Pc [.ref (ad 0), .int kd, .int tn] (fun U => gpre D (cty CA) (cw CA g h ad) sz U ∧ xz (cA h ad sz) sa U U.heap)) (va_Qi (fun r (u : Nat → Nat → Int32) => ¬ (ib kd 6) ∧ ¬ (rb tn 0 30000) ∧ ∃ k, k < 6 ∧ kd = nI k ∧ r = g (3 + 9 * k) 3 ∧ u = (u2 (u2 g (3 + 9 * k) 3 tn) (3 + 9 * k) 7 1)) (fun u t => gpost D (cty CA) (cw CA u h ad) (cA h ad sz) t) (cA h ad sz)) (vx_X (fun u : Nat → Nat → Int32 => u = g) (fun E u t => te3 (ib kd 6) (rb tn 0 30000) False E ∧ gpost D (cty CA) (cw CA u h ad) (cA h ad sz) t) (cA h ad sz)) 2 12 (cA h ad sz) := by
  refine vx_ofW (cc := cC_bound) (maxL := 5) (ret := (some .int)) (by decide) rfl ?_
  intro p e s m args below meth c s₁ B hml hno hv
  obtain ⟨rfl, ⟨hsz, hP, hK, hD0⟩, hZ⟩ := hv
  have hx := B.exec
  have hb := B.bytes
  have hr := B.returns
  have hT : ∀ w ∈ TB, w.before _ s = true := fun w hw => atoms_spec (ws := wC_bound) B.pre w (List.mem_cons_of_mem _ hw)
  have hown : s.vm.findClass "CountLeast" = some m.cls := findClass_of_methodNamed B.named
  have hlocks := B.notSynchronized
  subst hsz
  have hD := nA_self (sz := s.heap.size) hD0
  have hS : va_S (cA h ad s.heap.size) s.heap s.heap [] := va_S.rf
  have hP : va_P D vwCl (cw CA g h ad) s.heap := hP
  have hl := lv_entry ([.ref (ad 0), .int kd, .int tn]) (n := 5) (Nat.le_of_ble_eq_true rfl)
  rw [lg_entry_eq]
  generalize (lg_sl ([.ref (ad 0), .int kd, .int tn]) ++ List.replicate (5 - (lg_sl ([.ref (ad 0), .int kd, .int tn])).length) Slot.unset).toArray = ls at hl ⊢
  have hl : lv_has ls 5 [(0, .ref (ad 0)), (1, .int kd), (2, .int tn)] := hl
  refine lv_aload_n hx hb dC_bound_0 rfl (lv_at hl 0 rfl) ?_
  refine lv_iload_n hx hb dC_bound_1 rfl (lv_at hl 1 rfl) ?_
  refine kVx (n := 1) (D := D) (wd := fun z => cw CA z h ad) (A1 := fun sz => cA h ad sz) (As := [.int kd]) (rest := []) (te := (te3 (ib kd 6) (rb tn 0 30000) False)) ⟨hx, hb, hml, hown, hT⟩ (kC_kindAt l hlt D CA g h ad s.heap.size sa kd) (gi_V wm_120 wm_122 wp_0 wm_1 wm_123) rfl rfl (by decide +kernel) ⟨(Nat.le_of_ble_eq_true rfl), (Nat.le_of_ble_eq_true rfl)⟩ (va_recv hK hP (ci := 0) (q0 := 0) rfl cw_X) hlocks hno hZ (fun _ h9 => h9) hK hP hD hS (fun _ h9 => h9) (nA_mono hS.1) (fun E h9 => Or.inl ⟨h9.1, h9.2⟩) rfl hl.1 rfl (Nat.le_of_ble_eq_true rfl) dC_bound_2 ⟨(Nat.le_of_ble_eq_true rfl), (Nat.le_of_ble_eq_true rfl)⟩ (Nat.le_of_ble_eq_true rfl) (Nat.le_of_ble_eq_true rfl) (fun a9 H locs ha hz hP hS => ?_)
  obtain ⟨k, hk, rfl, rfl⟩ := ha
  have f_1 : ¬ ib (nI k) 6 := nib hk (by decide)
  refine lv_astore_n (lv' := [(3, .ref (ad (3 + 9 * k))), (0, .ref (ad 0)), (1, .int (nI k)), (2, .int tn)]) hx hb dC_bound_5 rfl hl (by decide) rfl (fun ls hl => ?_)
  refine lv_iload_n hx hb dC_bound_6 rfl (lv_at hl 3 rfl) ?_
  refine lv_iconst (v := 0) hx hb dC_bound_7 (by decide) ?_
  refine lv_sipush (v := 30000) hx hb dC_bound_8 (by decide) ?_
  refine kSx (n := 3) (D := D) (wd := fun z => cw CA z h ad) (As := [.int tn, .int 0, .int 30000]) (rest := []) (te := (te3 (ib (nI k) 6) (rb tn 0 30000) False)) hml ⟨hx, hb, hml, hown, hT⟩ (kC_checkRange l hlt sa H.size tn 0 30000) (gi_S wm_196 wm_197 wm_1 wm_198) rfl rfl (by decide +kernel) ⟨(Nat.le_of_ble_eq_true rfl), (Nat.le_of_ble_eq_true rfl)⟩ hlocks hno hZ (fun _ h9 => Or.inr h9) (fun _ h9 => h9) hK hP hD hS (fun E h9 => Or.inr (Or.inl ⟨h9.1, f_1, h9.2⟩)) rfl hl.1 rfl (Nat.le_of_ble_eq_true rfl) dC_bound_11 ⟨(Nat.le_of_ble_eq_true rfl), (Nat.le_of_ble_eq_true rfl)⟩ (Nat.le_of_ble_eq_true rfl) (Nat.le_of_ble_eq_true rfl) (fun H locs hok hz hP hS => ?_)
  have f_2 := hok
  refine lv_aload_n hx hb dC_bound_14 rfl (lv_at hl 0 rfl) ?_
  refine va_get (D := D) (ci := 1) (C := RK) (T := TK) (N := 10) hx hb hT inK hown hK hP (3 + 9 * k) (cw_K hk) rfl 3 (by decide) (hT _ wm_67) (fun _ h9 => h9) rfl dC_bound_15 ?_
  refine lv_istore (lv' := [(4, .int (g (3 + 9 * k) 3)), (3, .ref (ad (3 + 9 * k))), (0, .ref (ad 0)), (1, .int (nI k)), (2, .int tn)]) hx hb dC_bound_18 hl (by decide) rfl (fun ls hl => ?_)
  refine lv_aload_n hx hb dC_bound_20 rfl (lv_at hl 1 rfl) ?_
  refine lv_iload_n hx hb dC_bound_21 rfl (lv_at hl 4 rfl) ?_
  refine va_put (D := D) (ci := 1) (v := .int tn) (ty := .int) (C := RK) (T := TK) (N := 10) hx hb hT inK tyK tyokK nmK hown hK hP hD hS (3 + 9 * k) (cw_K hk) rfl 3 (by decide) (hT _ wm_67) (fun _ h9 => h9) rfl (by decide +kernel) rfl rfl (Nat.le_of_ble_eq_true rfl) dC_bound_22 (fun H locs hP hD hS => ?_)
  rw [cw_sK hk (by simp)] at hP hD
  refine lv_aload_n hx hb dC_bound_25 rfl (lv_at hl 1 rfl) ?_
  refine lv_iconst (v := 1) hx hb dC_bound_26 (by decide) ?_
  refine va_put (D := D) (ci := 1) (v := .int 1) (ty := .boolean) (C := RK) (T := TK) (N := 10) hx hb hT inK tyK tyokK nmK hown hK hP hD hS (3 + 9 * k) (cw_K hk) rfl 7 (by decide) (hT _ wm_76) (fun _ h9 => h9) rfl (by decide +kernel) rfl rfl (Nat.le_of_ble_eq_true rfl) dC_bound_27 (fun H locs hP hD hS => ?_)
  rw [cw_sK hk (by simp)] at hP hD
  refine lv_iload hx hb dC_bound_30 (lv_at hl 0 rfl) ?_
  refine vx_ret ?_
  exact W.iret (v := g (3 + 9 * k) 3) hx hb hr (fun t ht hW => ⟨⟨_, (u2 (u2 g (3 + 9 * k) 3 tn) (3 + 9 * k) 7 1), rfl, ⟨f_1, f_2, k, hk, rfl, rfl, rfl⟩, gpost_at hP hK hD ht hW.alike⟩, hS.F ht⟩) hS.2.2 dC_bound_32
set_option maxHeartbeats 4000000 in
set_option maxRecDepth 100000 in
theorem kC_single (l : Launch) (hlt : l.stackTraces = false) (D : va_G) (CA : Nat → ClassId) (g : Nat → Nat → Int32) (h : Nat → Nat → Nat) (ad : Nat → Nat) (sz : Nat) (sa : Nat → Nat) (kd pt z : Int32) (hz9 : z = 0 ∨ z = 1) : vx_Met l yC_single wC_single (rm 1 2 12) (va_Pc [.ref (ad 0), .int kd, .int pt, .int z] (fun U => gpre D (cty CA) (cw CA g h ad) sz U ∧ xz (cA h ad sz) sa U U.heap)) (va_Qi (fun r (u : Nat → Nat → Int32) => ¬ (ib kd 6 ∨ ib pt 16) ∧ ∃ k j, k < 6 ∧ j < 16 ∧ kd = nI k ∧ pt = nI j ∧ r = (if g (4 + 9 * k) j = z then 0 else 1) ∧ u = (u2 (u2 g (4 + 9 * k) j z) (3 + 9 * k) 7 1)) (fun u t => gpost D (cty CA) (cw CA u h ad) (cA h ad sz) t) (cA h ad sz)) (vx_X (fun u : Nat → Nat → Int32 => u = g) (fun E u t => te3 (ib kd 6 ∨ ib pt 16) False False E ∧ gpost D (cty CA) (cw CA u h ad) (cA h ad sz) t) (cA h ad sz)) 2 12 (cA h ad sz) := by
  refine vx_ofW (cc := cC_single) (maxL := 6) (ret := (some .boolean)) (by decide) rfl ?_
  intro p e s m args below meth c s₁ B hml hno hv
  obtain ⟨rfl, ⟨hsz, hP, hK, hD0⟩, hZ⟩ := hv
  have hx := B.exec
  have hb := B.bytes
  have hr := B.returns
  have hT : ∀ w ∈ TB, w.before _ s = true := fun w hw => atoms_spec (ws := wC_single) B.pre w (List.mem_cons_of_mem _ hw)
  have hown : s.vm.findClass "CountLeast" = some m.cls := findClass_of_methodNamed B.named
  have hlocks := B.notSynchronized
  subst hsz
  have hD := nA_self (sz := s.heap.size) hD0
  have hS : va_S (cA h ad s.heap.size) s.heap s.heap [] := va_S.rf
  have hP : va_P D vwCl (cw CA g h ad) s.heap := hP
  have hl := lv_entry ([.ref (ad 0), .int kd, .int pt, .int z]) (n := 6) (Nat.le_of_ble_eq_true rfl)
  rw [lg_entry_eq]
  generalize (lg_sl ([.ref (ad 0), .int kd, .int pt, .int z]) ++ List.replicate (6 - (lg_sl ([.ref (ad 0), .int kd, .int pt, .int z])).length) Slot.unset).toArray = ls at hl ⊢
  have hl : lv_has ls 6 [(0, .ref (ad 0)), (1, .int kd), (2, .int pt), (3, .int z)] := hl
  have hnz : vp_nar .boolean z = z := by rcases hz9 with rfl | rfl <;> rfl
  refine lv_aload_n hx hb dC_single_0 rfl (lv_at hl 0 rfl) ?_
  refine lv_iload_n hx hb dC_single_1 rfl (lv_at hl 1 rfl) ?_
  refine kVx (n := 1) (D := D) (wd := fun z => cw CA z h ad) (A1 := fun sz => cA h ad sz) (As := [.int kd]) (rest := []) (te := (te3 (ib kd 6 ∨ ib pt 16) False False)) ⟨hx, hb, hml, hown, hT⟩ (kC_kindAt l hlt D CA g h ad s.heap.size sa kd) (gi_V wm_120 wm_122 wp_0 wm_1 wm_123) rfl rfl (by decide +kernel) ⟨(Nat.le_of_ble_eq_true rfl), (Nat.le_of_ble_eq_true rfl)⟩ (va_recv hK hP (ci := 0) (q0 := 0) rfl cw_X) hlocks hno hZ (fun _ h9 => h9) hK hP hD hS (fun _ h9 => h9) (nA_mono hS.1) (fun E h9 => Or.inl ⟨h9.1, (Or.inl h9.2)⟩) rfl hl.1 rfl (Nat.le_of_ble_eq_true rfl) dC_single_2 ⟨(Nat.le_of_ble_eq_true rfl), (Nat.le_of_ble_eq_true rfl)⟩ (Nat.le_of_ble_eq_true rfl) (Nat.le_of_ble_eq_true rfl) (fun a9 H locs ha hz hP hS => ?_)
  obtain ⟨k, hk, rfl, rfl⟩ := ha
  have f_1 : ¬ ib (nI k) 6 := nib hk (by decide)
  refine lv_astore (lv' := [(4, .ref (ad (3 + 9 * k))), (0, .ref (ad 0)), (1, .int (nI k)), (2, .int pt), (3, .int z)]) hx hb dC_single_5 hl (by decide) rfl (fun ls hl => ?_)
  refine lv_iload_n hx hb dC_single_7 rfl (lv_at hl 3 rfl) ?_
  refine lv_bipush (v := 16) hx hb dC_single_8 (by decide) ?_
  refine kSx (n := 2) (D := D) (wd := fun z => cw CA z h ad) (As := [.int pt, .int 16]) (rest := []) (te := (te3 (ib (nI k) 6 ∨ ib pt 16) False False)) hml ⟨hx, hb, hml, hown, hT⟩ (kC_checkIndex l hlt sa H.size pt 16) (gi_S wm_192 wm_193 wm_1 wm_194) rfl rfl (by decide +kernel) ⟨(Nat.le_of_ble_eq_true rfl), (Nat.le_of_ble_eq_true rfl)⟩ hlocks hno hZ (fun _ h9 => Or.inr h9) (fun _ h9 => h9) hK hP hD hS (fun E h9 => Or.inl ⟨h9.1, (Or.inr h9.2)⟩) rfl hl.1 rfl (Nat.le_of_ble_eq_true rfl) dC_single_10 ⟨(Nat.le_of_ble_eq_true rfl), (Nat.le_of_ble_eq_true rfl)⟩ (Nat.le_of_ble_eq_true rfl) (Nat.le_of_ble_eq_true rfl) (fun H locs hok hz hP hS => ?_)
  have f_2 := hok
  obtain ⟨j, hj, rfl⟩ := ibn (n := 16)  (by decide) f_2
  refine lv_aload hx hb dC_single_13 (lv_at hl 0 rfl) ?_
  refine va_get (D := D) (ci := 1) (C := RK) (T := TK) (N := 10) hx hb hT inK hown hK hP (3 + 9 * k) (cw_K hk) rfl 0 (by decide) (hT _ wm_61) (fun _ h9 => h9) rfl dC_single_15 ?_
  refine lv_iload_n hx hb dC_single_18 rfl (lv_at hl 3 rfl) ?_
  refine va_zald (D := D) hx hb hK hP (4 + 9 * k) 1 (cw_AL hk) rfl (vp_in_nI (by omega) (by decide)) dC_single_19 ?_
  rw [nI_clamp (n := j) (by omega)]
  refine lv_iload_n hx hb dC_single_20 rfl (lv_at hl 4 rfl) ?_
  refine lv_icmp_eq (tgt := 28) hx hb dC_single_21 (by decide) (fun c_3 => ?_) (fun c_3 => ?_)
  · refine lv_iconst (v := 0) hx hb dC_single_28 (by decide) ?_
    refine lv_istore (lv' := [(5, .int 0), (4, .ref (ad (3 + 9 * k))), (0, .ref (ad 0)), (1, .int (nI k)), (2, .int (nI j)), (3, .int z)]) hx hb dC_single_29 hl (by decide) rfl (fun ls hl => ?_)
    refine lv_aload hx hb dC_single_31 (lv_at hl 1 rfl) ?_
    refine va_get (D := D) (ci := 1) (C := RK) (T := TK) (N := 10) hx hb hT inK hown hK hP (3 + 9 * k) (cw_K hk) rfl 0 (by decide) (hT _ wm_61) (fun _ h9 => h9) rfl dC_single_33 ?_
    refine lv_iload_n hx hb dC_single_36 rfl (lv_at hl 4 rfl) ?_
    refine lv_iload_n hx hb dC_single_37 rfl (lv_at hl 5 rfl) ?_
    refine va_zast (D := D) hx hb hK hP hD hS (4 + 9 * k) 1 (cw_AL hk) rfl (vp_in_nI (by omega) (by decide)) dC_single_38 (fun H locs hP hD hS => ?_)
    rw [nI_clamp (n := j) (by omega), hnz, cw_sAL hk] at hP hD
    refine lv_aload hx hb dC_single_39 (lv_at hl 1 rfl) ?_
    refine lv_iconst (v := 1) hx hb dC_single_41 (by decide) ?_
    refine va_put (D := D) (ci := 1) (v := .int 1) (ty := .boolean) (C := RK) (T := TK) (N := 10) hx hb hT inK tyK tyokK nmK hown hK hP hD hS (3 + 9 * k) (cw_K hk) rfl 7 (by decide) (hT _ wm_76) (fun _ h9 => h9) rfl (by decide +kernel) rfl rfl (Nat.le_of_ble_eq_true rfl) dC_single_42 (fun H locs hP hD hS => ?_)
    rw [cw_sK hk (by simp)] at hP hD
    refine lv_iload hx hb dC_single_45 (lv_at hl 0 rfl) ?_
    refine vx_ret ?_
    exact W.zret (v := 0) hx hb hr rfl (fun t ht hW => ⟨⟨_, (u2 (u2 g (4 + 9 * k) j z) (3 + 9 * k) 7 1), rfl, ⟨(not_or.mpr ⟨f_1, f_2⟩), k, j, hk, hj, rfl, rfl, by simp [c_3], rfl⟩, gpost_at hP hK hD ht hW.alike⟩, hS.F ht⟩) hS.2.2 dC_single_47
  · refine lv_iconst (v := 1) hx hb dC_single_24 (by decide) ?_
    refine lv_goto (tgt := 29) hx hb dC_single_25 (by decide) ?_
    refine lv_istore (lv' := [(5, .int 1), (4, .ref (ad (3 + 9 * k))), (0, .ref (ad 0)), (1, .int (nI k)), (2, .int (nI j)), (3, .int z)]) hx hb dC_single_29 hl (by decide) rfl (fun ls hl => ?_)
    refine lv_aload hx hb dC_single_31 (lv_at hl 1 rfl) ?_
    refine va_get (D := D) (ci := 1) (C := RK) (T := TK) (N := 10) hx hb hT inK hown hK hP (3 + 9 * k) (cw_K hk) rfl 0 (by decide) (hT _ wm_61) (fun _ h9 => h9) rfl dC_single_33 ?_
    refine lv_iload_n hx hb dC_single_36 rfl (lv_at hl 4 rfl) ?_
    refine lv_iload_n hx hb dC_single_37 rfl (lv_at hl 5 rfl) ?_
    refine va_zast (D := D) hx hb hK hP hD hS (4 + 9 * k) 1 (cw_AL hk) rfl (vp_in_nI (by omega) (by decide)) dC_single_38 (fun H locs hP hD hS => ?_)
    rw [nI_clamp (n := j) (by omega), hnz, cw_sAL hk] at hP hD
    refine lv_aload hx hb dC_single_39 (lv_at hl 1 rfl) ?_
    refine lv_iconst (v := 1) hx hb dC_single_41 (by decide) ?_
    refine va_put (D := D) (ci := 1) (v := .int 1) (ty := .boolean) (C := RK) (T := TK) (N := 10) hx hb hT inK tyK tyokK nmK hown hK hP hD hS (3 + 9 * k) (cw_K hk) rfl 7 (by decide) (hT _ wm_76) (fun _ h9 => h9) rfl (by decide +kernel) rfl rfl (Nat.le_of_ble_eq_true rfl) dC_single_42 (fun H locs hP hD hS => ?_)
    rw [cw_sK hk (by simp)] at hP hD
    refine lv_iload hx hb dC_single_45 (lv_at hl 0 rfl) ?_
    refine vx_ret ?_
    exact W.zret (v := 1) hx hb hr rfl (fun t ht hW => ⟨⟨_, (u2 (u2 g (4 + 9 * k) j z) (3 + 9 * k) 7 1), rfl, ⟨(not_or.mpr ⟨f_1, f_2⟩), k, j, hk, hj, rfl, rfl, by simp [c_3], rfl⟩, gpost_at hP hK hD ht hW.alike⟩, hS.F ht⟩) hS.2.2 dC_single_47
set_option maxHeartbeats 4000000 in
set_option maxRecDepth 100000 in
theorem kC_table (l : Launch) (hlt : l.stackTraces = false) (D : va_G) (CA : Nat → ClassId) (g : Nat → Nat → Int32) (h : Nat → Nat → Nat) (ad : Nat → Nat) (sz : Nat) (sa : Nat → Nat) (kd wr fr tt : Int32) : vx_Met l yC_table wC_table (rm 1 4 24) (va_Pc [.ref (ad 0), .int kd, .int wr, .int fr, .int tt] (fun U => gpre D (cty CA) (cw CA g h ad) sz U ∧ xz (cA h ad sz) sa U U.heap)) (va_Qv (fun (u : Nat → Nat → Int32) => ¬ (ib kd 6 ∨ ib wr 16) ∧ ¬ (rb tt 0 999 ∨ rb fr 0 tt) ∧ ∃ k j, k < 6 ∧ j < 16 ∧ kd = nI k ∧ wr = nI j ∧ u = (u2 (u2 g (5 + 9 * k) j fr) (6 + 9 * k) j tt)) (fun u t => gpost D (cty CA) (cw CA u h ad) (cA h ad sz) t) (cA h ad sz)) (vx_X (fun u : Nat → Nat → Int32 => u = g) (fun E u t => te3 (ib kd 6 ∨ ib wr 16) (rb tt 0 999 ∨ rb fr 0 tt) False E ∧ gpost D (cty CA) (cw CA u h ad) (cA h ad sz) t) (cA h ad sz)) 4 24 (cA h ad sz) := by
  refine vx_ofW (cc := cC_table) (maxL := 6) (ret := none) (by decide) rfl ?_
  intro p e s m args below meth c s₁ B hml hno hv
  obtain ⟨rfl, ⟨hsz, hP, hK, hD0⟩, hZ⟩ := hv
  have hx := B.exec
  have hb := B.bytes
  have hr := B.returns
  have hT : ∀ w ∈ TB, w.before _ s = true := fun w hw => atoms_spec (ws := wC_table) B.pre w (List.mem_cons_of_mem _ hw)
  have hown : s.vm.findClass "CountLeast" = some m.cls := findClass_of_methodNamed B.named
  have hlocks := B.notSynchronized
  subst hsz
  have hD := nA_self (sz := s.heap.size) hD0
  have hS : va_S (cA h ad s.heap.size) s.heap s.heap [] := va_S.rf
  have hP : va_P D vwCl (cw CA g h ad) s.heap := hP
  have hl := lv_entry ([.ref (ad 0), .int kd, .int wr, .int fr, .int tt]) (n := 6) (Nat.le_of_ble_eq_true rfl)
  rw [lg_entry_eq]
  generalize (lg_sl ([.ref (ad 0), .int kd, .int wr, .int fr, .int tt]) ++ List.replicate (6 - (lg_sl ([.ref (ad 0), .int kd, .int wr, .int fr, .int tt])).length) Slot.unset).toArray = ls at hl ⊢
  have hl : lv_has ls 6 [(0, .ref (ad 0)), (1, .int kd), (2, .int wr), (3, .int fr), (4, .int tt)] := hl
  refine lv_aload_n hx hb dC_table_0 rfl (lv_at hl 0 rfl) ?_
  refine lv_iload_n hx hb dC_table_1 rfl (lv_at hl 1 rfl) ?_
  refine kVx (n := 1) (D := D) (wd := fun z => cw CA z h ad) (A1 := fun sz => cA h ad sz) (As := [.int kd]) (rest := []) (te := (te3 (ib kd 6 ∨ ib wr 16) (rb tt 0 999 ∨ rb fr 0 tt) False)) ⟨hx, hb, hml, hown, hT⟩ (kC_kindAt l hlt D CA g h ad s.heap.size sa kd) (gi_V wm_120 wm_122 wp_0 wm_1 wm_123) rfl rfl (by decide +kernel) ⟨(Nat.le_of_ble_eq_true rfl), (Nat.le_of_ble_eq_true rfl)⟩ (va_recv hK hP (ci := 0) (q0 := 0) rfl cw_X) hlocks hno hZ (fun _ h9 => h9) hK hP hD hS (fun _ h9 => h9) (nA_mono hS.1) (fun E h9 => Or.inl ⟨h9.1, (Or.inl h9.2)⟩) rfl hl.1 rfl (Nat.le_of_ble_eq_true rfl) dC_table_2 ⟨(Nat.le_of_ble_eq_true rfl), (Nat.le_of_ble_eq_true rfl)⟩ (Nat.le_of_ble_eq_true rfl) (Nat.le_of_ble_eq_true rfl) (fun a9 H locs ha hz hP hS => ?_)
  obtain ⟨k, hk, rfl, rfl⟩ := ha
  have f_1 : ¬ ib (nI k) 6 := nib hk (by decide)
  refine lv_astore (lv' := [(5, .ref (ad (3 + 9 * k))), (0, .ref (ad 0)), (1, .int (nI k)), (2, .int wr), (3, .int fr), (4, .int tt)]) hx hb dC_table_5 hl (by decide) rfl (fun ls hl => ?_)
  refine lv_iload_n hx hb dC_table_7 rfl (lv_at hl 3 rfl) ?_
  refine lv_bipush (v := 16) hx hb dC_table_8 (by decide) ?_
  refine kSx (n := 2) (D := D) (wd := fun z => cw CA z h ad) (As := [.int wr, .int 16]) (rest := []) (te := (te3 (ib (nI k) 6 ∨ ib wr 16) (rb tt 0 999 ∨ rb fr 0 tt) False)) hml ⟨hx, hb, hml, hown, hT⟩ (kC_checkIndex l hlt sa H.size wr 16) (gi_S wm_192 wm_193 wm_1 wm_194) rfl rfl (by decide +kernel) ⟨(Nat.le_of_ble_eq_true rfl), (Nat.le_of_ble_eq_true rfl)⟩ hlocks hno hZ (fun _ h9 => Or.inr h9) (fun _ h9 => h9) hK hP hD hS (fun E h9 => Or.inl ⟨h9.1, (Or.inr h9.2)⟩) rfl hl.1 rfl (Nat.le_of_ble_eq_true rfl) dC_table_10 ⟨(Nat.le_of_ble_eq_true rfl), (Nat.le_of_ble_eq_true rfl)⟩ (Nat.le_of_ble_eq_true rfl) (Nat.le_of_ble_eq_true rfl) (fun H locs hok hz hP hS => ?_)
  have f_2 := hok
  obtain ⟨j, hj, rfl⟩ := ibn (n := 16)  (by decide) f_2
  refine lv_iload hx hb dC_table_13 (lv_at hl 5 rfl) ?_
  refine lv_iconst (v := 0) hx hb dC_table_15 (by decide) ?_
  refine lv_sipush (v := 999) hx hb dC_table_16 (by decide) ?_
  refine kSx (n := 3) (D := D) (wd := fun z => cw CA z h ad) (As := [.int tt, .int 0, .int 999]) (rest := []) (te := (te3 (ib (nI k) 6 ∨ ib (nI j) 16) (rb tt 0 999 ∨ rb fr 0 tt) False)) hml ⟨hx, hb, hml, hown, hT⟩ (kC_checkRange l hlt sa H.size tt 0 999) (gi_S wm_196 wm_197 wm_1 wm_198) rfl rfl (by decide +kernel) ⟨(Nat.le_of_ble_eq_true rfl), (Nat.le_of_ble_eq_true rfl)⟩ hlocks hno hZ (fun _ h9 => Or.inr h9) (fun _ h9 => h9) hK hP hD hS (fun E h9 => Or.inr (Or.inl ⟨h9.1, (not_or.mpr ⟨f_1, f_2⟩), (Or.inl h9.2)⟩)) rfl hl.1 rfl (Nat.le_of_ble_eq_true rfl) dC_table_19 ⟨(Nat.le_of_ble_eq_true rfl), (Nat.le_of_ble_eq_true rfl)⟩ (Nat.le_of_ble_eq_true rfl) (Nat.le_of_ble_eq_true rfl) (fun H locs hok hz hP hS => ?_)
  have f_3 := hok
  refine lv_iload_n hx hb dC_table_22 rfl (lv_at hl 4 rfl) ?_
  refine lv_iconst (v := 0) hx hb dC_table_23 (by decide) ?_
  refine lv_iload hx hb dC_table_24 (lv_at hl 5 rfl) ?_
  refine kSx (n := 3) (D := D) (wd := fun z => cw CA z h ad) (As := [.int fr, .int 0, .int tt]) (rest := []) (te := (te3 (ib (nI k) 6 ∨ ib (nI j) 16) (rb tt 0 999 ∨ rb fr 0 tt) False)) hml ⟨hx, hb, hml, hown, hT⟩ (kC_checkRange l hlt sa H.size fr 0 tt) (gi_S wm_196 wm_197 wm_1 wm_198) rfl rfl (by decide +kernel) ⟨(Nat.le_of_ble_eq_true rfl), (Nat.le_of_ble_eq_true rfl)⟩ hlocks hno hZ (fun _ h9 => Or.inr h9) (fun _ h9 => h9) hK hP hD hS (fun E h9 => Or.inr (Or.inl ⟨h9.1, (not_or.mpr ⟨f_1, f_2⟩), (Or.inr h9.2)⟩)) rfl hl.1 rfl (Nat.le_of_ble_eq_true rfl) dC_table_26 ⟨(Nat.le_of_ble_eq_true rfl), (Nat.le_of_ble_eq_true rfl)⟩ (Nat.le_of_ble_eq_true rfl) (Nat.le_of_ble_eq_true rfl) (fun H locs hok hz hP hS => ?_)
  have f_4 := hok
  refine lv_aload hx hb dC_table_29 (lv_at hl 0 rfl) ?_
  refine va_get (D := D) (ci := 1) (C := RK) (T := TK) (N := 10) hx hb hT inK hown hK hP (3 + 9 * k) (cw_K hk) rfl 1 (by decide) (hT _ wm_63) (fun _ h9 => h9) rfl dC_table_31 ?_
  refine lv_iload_n hx hb dC_table_34 rfl (lv_at hl 3 rfl) ?_
  refine lv_iload_n hx hb dC_table_35 rfl (lv_at hl 4 rfl) ?_
  refine va_iast (D := D) hx hb hK hP hD hS (5 + 9 * k) 0 (cw_WF hk) rfl (vp_in_nI (by omega) (by decide)) dC_table_36 (fun H locs hP hD hS => ?_)
  rw [nI_clamp (n := j) (by omega), cw_sWF hk] at hP hD
  refine lv_aload hx hb dC_table_37 (lv_at hl 0 rfl) ?_
  refine va_get (D := D) (ci := 1) (C := RK) (T := TK) (N := 10) hx hb hT inK hown hK hP (3 + 9 * k) (cw_K hk) rfl 2 (by decide) (hT _ wm_65) (fun _ h9 => h9) rfl dC_table_39 ?_
  refine lv_iload_n hx hb dC_table_42 rfl (lv_at hl 3 rfl) ?_
  refine lv_iload hx hb dC_table_43 (lv_at hl 5 rfl) ?_
  refine va_iast (D := D) hx hb hK hP hD hS (6 + 9 * k) 0 (cw_WT hk) rfl (vp_in_nI (by omega) (by decide)) dC_table_45 (fun H locs hP hD hS => ?_)
  rw [nI_clamp (n := j) (by omega), cw_sWT hk] at hP hD
  refine vx_ret ?_
  exact W.vret hx hb hr (fun t ht hW => ⟨⟨(u2 (u2 g (5 + 9 * k) j fr) (6 + 9 * k) j tt), rfl, ⟨(not_or.mpr ⟨f_1, f_2⟩), (not_or.mpr ⟨f_3, f_4⟩), k, j, hk, hj, rfl, rfl, rfl⟩, gpost_at hP hK hD ht hW.alike⟩, hS.F ht⟩) hS.2.2 dC_table_46
set_option maxHeartbeats 4000000 in
set_option maxRecDepth 100000 in
theorem kC_worn (l : Launch) (hlt : l.stackTraces = false) (D : va_G) (CA : Nat → ClassId) (g : Nat → Nat → Int32) (h : Nat → Nat → Nat) (ad : Nat → Nat) (sz : Nat) (sa : Nat → Nat) (pn wr : Int32) (hn72 : h 0 0 ≤ 72) (hg0 : g 0 2 = nI (h 0 0)) (hq6 : ∀ p, p < h 0 0 → h 2 p < 6) : vx_Met l yC_worn wC_worn (rm 1 2 12) (va_Pc [.ref (ad 0), .int pn, .int wr] (fun U => gpre D (cty CA) (cw CA g h ad) sz U ∧ xz (cA h ad sz) sa U U.heap)) (va_Qv (fun (u : Nat → Nat → Int32) => ¬ (ib pn (g 0 2) ∨ ib wr 16) ∧ ∃ p j, p < h 0 0 ∧ j < 16 ∧ pn = nI p ∧ wr = nI j ∧ u = (u2 (u2 (u2 g (57 + p) 6 (g (5 + 9 * (h 2 p)) j)) (57 + p) 7 ((u2 g (57 + p) 6 (g (5 + 9 * (h 2 p)) j)) (6 + 9 * (h 2 p)) j)) (3 + 9 * (h 2 p)) 7 1)) (fun u t => gpost D (cty CA) (cw CA u h ad) (cA h ad sz) t) (cA h ad sz)) (vx_X (fun u : Nat → Nat → Int32 => u = g) (fun E u t => te3 (ib pn (g 0 2) ∨ ib wr 16) False False E ∧ gpost D (cty CA) (cw CA u h ad) (cA h ad sz) t) (cA h ad sz)) 2 12 (cA h ad sz) := by
  refine vx_ofW (cc := cC_worn) (maxL := 4) (ret := none) (by decide) rfl ?_
  intro p e s m args below meth c s₁ B hml hno hv
  obtain ⟨rfl, ⟨hsz, hP, hK, hD0⟩, hZ⟩ := hv
  have hx := B.exec
  have hb := B.bytes
  have hr := B.returns
  have hT : ∀ w ∈ TB, w.before _ s = true := fun w hw => atoms_spec (ws := wC_worn) B.pre w (List.mem_cons_of_mem _ hw)
  have hown : s.vm.findClass "CountLeast" = some m.cls := findClass_of_methodNamed B.named
  have hlocks := B.notSynchronized
  subst hsz
  have hD := nA_self (sz := s.heap.size) hD0
  have hS : va_S (cA h ad s.heap.size) s.heap s.heap [] := va_S.rf
  have hP : va_P D vwCl (cw CA g h ad) s.heap := hP
  have hl := lv_entry ([.ref (ad 0), .int pn, .int wr]) (n := 4) (Nat.le_of_ble_eq_true rfl)
  rw [lg_entry_eq]
  generalize (lg_sl ([.ref (ad 0), .int pn, .int wr]) ++ List.replicate (4 - (lg_sl ([.ref (ad 0), .int pn, .int wr])).length) Slot.unset).toArray = ls at hl ⊢
  have hl : lv_has ls 4 [(0, .ref (ad 0)), (1, .int pn), (2, .int wr)] := hl
  refine lv_aload_n hx hb dC_worn_0 rfl (lv_at hl 0 rfl) ?_
  refine lv_iload_n hx hb dC_worn_1 rfl (lv_at hl 1 rfl) ?_
  refine kVx (n := 1) (D := D) (wd := fun z => cw CA z h ad) (A1 := fun sz => cA h ad sz) (As := [.int pn]) (rest := []) (te := (te3 (ib pn (g 0 2) ∨ ib wr 16) False False)) ⟨hx, hb, hml, hown, hT⟩ (kC_pieceAt l hlt D CA g h ad s.heap.size sa pn hn72 hg0) (gi_V wm_310 wm_312 wp_2 wm_1 wm_313) rfl rfl (by decide +kernel) ⟨(Nat.le_of_ble_eq_true rfl), (Nat.le_of_ble_eq_true rfl)⟩ (va_recv hK hP (ci := 0) (q0 := 0) rfl cw_X) hlocks hno hZ (fun _ h9 => h9) hK hP hD hS (fun _ h9 => h9) (nA_mono hS.1) (fun E h9 => Or.inl ⟨h9.1, (Or.inl h9.2)⟩) rfl hl.1 rfl (Nat.le_of_ble_eq_true rfl) dC_worn_2 ⟨(Nat.le_of_ble_eq_true rfl), (Nat.le_of_ble_eq_true rfl)⟩ (Nat.le_of_ble_eq_true rfl) (Nat.le_of_ble_eq_true rfl) (fun a9 H locs ha hz hP hS => ?_)
  obtain ⟨p, hp, rfl, rfl⟩ := ha
  have f_1 : ¬ ib (nI p) (g 0 2) := by rw [hg0]; exact nib hp (by omega)
  refine lv_astore_n (lv' := [(3, .ref (ad (57 + p))), (0, .ref (ad 0)), (1, .int (nI p)), (2, .int wr)]) hx hb dC_worn_5 rfl hl (by decide) rfl (fun ls hl => ?_)
  refine lv_iload_n hx hb dC_worn_6 rfl (lv_at hl 3 rfl) ?_
  refine lv_bipush (v := 16) hx hb dC_worn_7 (by decide) ?_
  refine kSx (n := 2) (D := D) (wd := fun z => cw CA z h ad) (As := [.int wr, .int 16]) (rest := []) (te := (te3 (ib (nI p) (g 0 2) ∨ ib wr 16) False False)) hml ⟨hx, hb, hml, hown, hT⟩ (kC_checkIndex l hlt sa H.size wr 16) (gi_S wm_192 wm_193 wm_1 wm_194) rfl rfl (by decide +kernel) ⟨(Nat.le_of_ble_eq_true rfl), (Nat.le_of_ble_eq_true rfl)⟩ hlocks hno hZ (fun _ h9 => Or.inr h9) (fun _ h9 => h9) hK hP hD hS (fun E h9 => Or.inl ⟨h9.1, (Or.inr h9.2)⟩) rfl hl.1 rfl (Nat.le_of_ble_eq_true rfl) dC_worn_9 ⟨(Nat.le_of_ble_eq_true rfl), (Nat.le_of_ble_eq_true rfl)⟩ (Nat.le_of_ble_eq_true rfl) (Nat.le_of_ble_eq_true rfl) (fun H locs hok hz hP hS => ?_)
  have f_2 := hok
  obtain ⟨j, hj, rfl⟩ := ibn (n := 16)  (by decide) f_2
  refine lv_aload_n hx hb dC_worn_12 rfl (lv_at hl 0 rfl) ?_
  refine lv_aload_n hx hb dC_worn_13 rfl (lv_at hl 0 rfl) ?_
  refine va_get (D := D) (ci := 3) (C := RQ) (T := TQ) (N := 9) hx hb hT inQ hown hK hP (57 + p) (cw_Q hp) rfl 0 (by decide) (hT _ wm_237) (fun _ h9 => h9) rfl dC_worn_14 ?_
  refine va_get (D := D) (ci := 1) (C := RK) (T := TK) (N := 10) hx hb hT inK hown hK hP (3 + 9 * (h 2 p)) (cw_K (hq6 p hp)) rfl 1 (by decide) (hT _ wm_63) (fun _ h9 => h9) rfl dC_worn_17 ?_
  refine lv_iload_n hx hb dC_worn_20 rfl (lv_at hl 3 rfl) ?_
  refine va_iald (D := D) hx hb hK hP (5 + 9 * (h 2 p)) 0 (cw_WF (hq6 p hp)) rfl (vp_in_nI (by omega) (by decide)) dC_worn_21 ?_
  rw [nI_clamp (n := j) (by omega)]
  refine va_put (D := D) (ci := 3) (v := .int (g (5 + 9 * (h 2 p)) j)) (ty := .int) (C := RQ) (T := TQ) (N := 9) hx hb hT inQ tyQ tyokQ nmQ hown hK hP hD hS (57 + p) (cw_Q hp) rfl 6 (by decide) (hT _ wm_252) (fun _ h9 => h9) rfl (by decide +kernel) rfl rfl (Nat.le_of_ble_eq_true rfl) dC_worn_22 (fun H locs hP hD hS => ?_)
  rw [cw_sQ (by simp)] at hP hD
  refine lv_aload_n hx hb dC_worn_25 rfl (lv_at hl 0 rfl) ?_
  refine lv_aload_n hx hb dC_worn_26 rfl (lv_at hl 0 rfl) ?_
  refine va_get (D := D) (ci := 3) (C := RQ) (T := TQ) (N := 9) hx hb hT inQ hown hK hP (57 + p) (cw_Q hp) rfl 0 (by decide) (hT _ wm_237) (fun _ h9 => h9) rfl dC_worn_27 ?_
  refine va_get (D := D) (ci := 1) (C := RK) (T := TK) (N := 10) hx hb hT inK hown hK hP (3 + 9 * (h 2 p)) (cw_K (hq6 p hp)) rfl 2 (by decide) (hT _ wm_65) (fun _ h9 => h9) rfl dC_worn_30 ?_
  refine lv_iload_n hx hb dC_worn_33 rfl (lv_at hl 3 rfl) ?_
  refine va_iald (D := D) hx hb hK hP (6 + 9 * (h 2 p)) 0 (cw_WT (hq6 p hp)) rfl (vp_in_nI (by omega) (by decide)) dC_worn_34 ?_
  rw [nI_clamp (n := j) (by omega)]
  refine va_put (D := D) (ci := 3) (v := .int ((u2 g (57 + p) 6 (g (5 + 9 * (h 2 p)) j)) (6 + 9 * (h 2 p)) j)) (ty := .int) (C := RQ) (T := TQ) (N := 9) hx hb hT inQ tyQ tyokQ nmQ hown hK hP hD hS (57 + p) (cw_Q hp) rfl 7 (by decide) (hT _ wm_255) (fun _ h9 => h9) rfl (by decide +kernel) rfl rfl (Nat.le_of_ble_eq_true rfl) dC_worn_35 (fun H locs hP hD hS => ?_)
  rw [cw_sQ (by simp)] at hP hD
  refine lv_aload_n hx hb dC_worn_38 rfl (lv_at hl 0 rfl) ?_
  refine va_get (D := D) (ci := 3) (C := RQ) (T := TQ) (N := 9) hx hb hT inQ hown hK hP (57 + p) (cw_Q hp) rfl 0 (by decide) (hT _ wm_237) (fun _ h9 => h9) rfl dC_worn_39 ?_
  refine lv_iconst (v := 1) hx hb dC_worn_42 (by decide) ?_
  refine va_put (D := D) (ci := 1) (v := .int 1) (ty := .boolean) (C := RK) (T := TK) (N := 10) hx hb hT inK tyK tyokK nmK hown hK hP hD hS (3 + 9 * (h 2 p)) (cw_K (hq6 p hp)) rfl 7 (by decide) (hT _ wm_76) (fun _ h9 => h9) rfl (by decide +kernel) rfl rfl (Nat.le_of_ble_eq_true rfl) dC_worn_43 (fun H locs hP hD hS => ?_)
  rw [cw_sK (hq6 p hp) (by simp)] at hP hD
  refine vx_ret ?_
  exact W.vret hx hb hr (fun t ht hW => ⟨⟨(u2 (u2 (u2 g (57 + p) 6 (g (5 + 9 * (h 2 p)) j)) (57 + p) 7 ((u2 g (57 + p) 6 (g (5 + 9 * (h 2 p)) j)) (6 + 9 * (h 2 p)) j)) (3 + 9 * (h 2 p)) 7 1), rfl, ⟨(not_or.mpr ⟨f_1, f_2⟩), p, j, hp, hj, rfl, rfl, rfl⟩, gpost_at hP hK hD ht hW.alike⟩, hS.F ht⟩) hS.2.2 dC_worn_46
set_option maxHeartbeats 4000000 in
set_option maxRecDepth 100000 in
theorem kC_aged (l : Launch) (hlt : l.stackTraces = false) (D : va_G) (CA : Nat → ClassId) (g : Nat → Nat → Int32) (h : Nat → Nat → Nat) (ad : Nat → Nat) (sz : Nat) (sa : Nat → Nat) (pn en : Int32) (hn72 : h 0 0 ≤ 72) (hg0 : g 0 2 = nI (h 0 0)) : vx_Met l yC_aged wC_aged (rm 1 2 12) (va_Pc [.ref (ad 0), .int pn, .int en] (fun U => gpre D (cty CA) (cw CA g h ad) sz U ∧ xz (cA h ad sz) sa U U.heap)) (va_Qi (fun r (u : Nat → Nat → Int32) => ¬ (ib pn (g 0 2) ∨ ib en 2) ∧ ∃ p, p < h 0 0 ∧ pn = nI p ∧ r = (if en = 0 then g (57 + p) 6 else g (57 + p) 7) ∧ u = g) (fun u t => gpost D (cty CA) (cw CA u h ad) (cA h ad sz) t) (cA h ad sz)) (vx_X (fun u : Nat → Nat → Int32 => u = g) (fun E u t => te3 (ib pn (g 0 2) ∨ ib en 2) False False E ∧ gpost D (cty CA) (cw CA u h ad) (cA h ad sz) t) (cA h ad sz)) 2 12 (cA h ad sz) := by
  refine vx_ofW (cc := cC_aged) (maxL := 4) (ret := (some .int)) (by decide) rfl ?_
  intro p e s m args below meth c s₁ B hml hno hv
  obtain ⟨rfl, ⟨hsz, hP, hK, hD0⟩, hZ⟩ := hv
  have hx := B.exec
  have hb := B.bytes
  have hr := B.returns
  have hT : ∀ w ∈ TB, w.before _ s = true := fun w hw => atoms_spec (ws := wC_aged) B.pre w (List.mem_cons_of_mem _ hw)
  have hown : s.vm.findClass "CountLeast" = some m.cls := findClass_of_methodNamed B.named
  have hlocks := B.notSynchronized
  subst hsz
  have hD := nA_self (sz := s.heap.size) hD0
  have hS : va_S (cA h ad s.heap.size) s.heap s.heap [] := va_S.rf
  have hP : va_P D vwCl (cw CA g h ad) s.heap := hP
  have hl := lv_entry ([.ref (ad 0), .int pn, .int en]) (n := 4) (Nat.le_of_ble_eq_true rfl)
  rw [lg_entry_eq]
  generalize (lg_sl ([.ref (ad 0), .int pn, .int en]) ++ List.replicate (4 - (lg_sl ([.ref (ad 0), .int pn, .int en])).length) Slot.unset).toArray = ls at hl ⊢
  have hl : lv_has ls 4 [(0, .ref (ad 0)), (1, .int pn), (2, .int en)] := hl
  refine lv_aload_n hx hb dC_aged_0 rfl (lv_at hl 0 rfl) ?_
  refine lv_iload_n hx hb dC_aged_1 rfl (lv_at hl 1 rfl) ?_
  refine kVx (n := 1) (D := D) (wd := fun z => cw CA z h ad) (A1 := fun sz => cA h ad sz) (As := [.int pn]) (rest := []) (te := (te3 (ib pn (g 0 2) ∨ ib en 2) False False)) ⟨hx, hb, hml, hown, hT⟩ (kC_pieceAt l hlt D CA g h ad s.heap.size sa pn hn72 hg0) (gi_V wm_310 wm_312 wp_2 wm_1 wm_313) rfl rfl (by decide +kernel) ⟨(Nat.le_of_ble_eq_true rfl), (Nat.le_of_ble_eq_true rfl)⟩ (va_recv hK hP (ci := 0) (q0 := 0) rfl cw_X) hlocks hno hZ (fun _ h9 => h9) hK hP hD hS (fun _ h9 => h9) (nA_mono hS.1) (fun E h9 => Or.inl ⟨h9.1, (Or.inl h9.2)⟩) rfl hl.1 rfl (Nat.le_of_ble_eq_true rfl) dC_aged_2 ⟨(Nat.le_of_ble_eq_true rfl), (Nat.le_of_ble_eq_true rfl)⟩ (Nat.le_of_ble_eq_true rfl) (Nat.le_of_ble_eq_true rfl) (fun a9 H locs ha hz hP hS => ?_)
  obtain ⟨p, hp, rfl, rfl⟩ := ha
  have f_1 : ¬ ib (nI p) (g 0 2) := by rw [hg0]; exact nib hp (by omega)
  refine lv_astore_n (lv' := [(3, .ref (ad (57 + p))), (0, .ref (ad 0)), (1, .int (nI p)), (2, .int en)]) hx hb dC_aged_5 rfl hl (by decide) rfl (fun ls hl => ?_)
  refine lv_iload_n hx hb dC_aged_6 rfl (lv_at hl 3 rfl) ?_
  refine lv_iconst (v := 2) hx hb dC_aged_7 (by decide) ?_
  refine kSx (n := 2) (D := D) (wd := fun z => cw CA z h ad) (As := [.int en, .int 2]) (rest := []) (te := (te3 (ib (nI p) (g 0 2) ∨ ib en 2) False False)) hml ⟨hx, hb, hml, hown, hT⟩ (kC_checkIndex l hlt sa H.size en 2) (gi_S wm_192 wm_193 wm_1 wm_194) rfl rfl (by decide +kernel) ⟨(Nat.le_of_ble_eq_true rfl), (Nat.le_of_ble_eq_true rfl)⟩ hlocks hno hZ (fun _ h9 => Or.inr h9) (fun _ h9 => h9) hK hP hD hS (fun E h9 => Or.inl ⟨h9.1, (Or.inr h9.2)⟩) rfl hl.1 rfl (Nat.le_of_ble_eq_true rfl) dC_aged_8 ⟨(Nat.le_of_ble_eq_true rfl), (Nat.le_of_ble_eq_true rfl)⟩ (Nat.le_of_ble_eq_true rfl) (Nat.le_of_ble_eq_true rfl) (fun H locs hok hz hP hS => ?_)
  have f_2 := hok
  refine lv_iload_n hx hb dC_aged_11 rfl (lv_at hl 3 rfl) ?_
  refine lv_if_ne (tgt := 22) hx hb dC_aged_12 (by decide) (fun c_3 => ?_) (fun c_3 => ?_)
  · refine lv_aload_n hx hb dC_aged_22 rfl (lv_at hl 0 rfl) ?_
    refine va_get (D := D) (ci := 3) (C := RQ) (T := TQ) (N := 9) hx hb hT inQ hown hK hP (57 + p) (cw_Q hp) rfl 7 (by decide) (hT _ wm_255) (fun _ h9 => h9) rfl dC_aged_23 ?_
    refine vx_ret ?_
    exact W.iret (v := g (57 + p) 7) hx hb hr (fun t ht hW => ⟨⟨_, g, rfl, ⟨(not_or.mpr ⟨f_1, f_2⟩), p, hp, rfl, by simp [c_3], rfl⟩, gpost_at hP hK hD ht hW.alike⟩, hS.F ht⟩) hS.2.2 dC_aged_26
  · refine lv_aload_n hx hb dC_aged_15 rfl (lv_at hl 0 rfl) ?_
    refine va_get (D := D) (ci := 3) (C := RQ) (T := TQ) (N := 9) hx hb hT inQ hown hK hP (57 + p) (cw_Q hp) rfl 6 (by decide) (hT _ wm_252) (fun _ h9 => h9) rfl dC_aged_16 ?_
    refine lv_goto (tgt := 26) hx hb dC_aged_19 (by decide) ?_
    refine vx_ret ?_
    exact W.iret (v := g (57 + p) 6) hx hb hr (fun t ht hW => ⟨⟨_, g, rfl, ⟨(not_or.mpr ⟨f_1, f_2⟩), p, hp, rfl, by simp [c_3], rfl⟩, gpost_at hP hK hD ht hW.alike⟩, hS.F ht⟩) hS.2.2 dC_aged_26
set_option maxHeartbeats 4000000 in
set_option maxRecDepth 100000 in
theorem kC_unsure (l : Launch) (hlt : l.stackTraces = false) (D : va_G) (CA : Nat → ClassId) (g : Nat → Nat → Int32) (h : Nat → Nat → Nat) (ad : Nat → Nat) (sz : Nat) (sa : Nat → Nat) (pn : Int32) (hn72 : h 0 0 ≤ 72) (hg0 : g 0 2 = nI (h 0 0)) (hq6 : ∀ p, p < h 0 0 → h 2 p < 6) : vx_Met l yC_unsure wC_unsure (rm 1 1 6) (va_Pc [.ref (ad 0), .int pn] (fun U => gpre D (cty CA) (cw CA g h ad) sz U ∧ xz (cA h ad sz) sa U U.heap)) (va_Qi (fun r (u : Nat → Nat → Int32) => ¬ (ib pn (g 0 2)) ∧ ∃ p, p < h 0 0 ∧ pn = nI p ∧ r = (if g (57 + p) 5 = 3 then 0 else 1) ∧ u = (u2 (u2 g (57 + p) 5 3) (3 + 9 * (h 2 p)) 7 1)) (fun u t => gpost D (cty CA) (cw CA u h ad) (cA h ad sz) t) (cA h ad sz)) (vx_X (fun u : Nat → Nat → Int32 => u = g) (fun E u t => te3 (ib pn (g 0 2)) False False E ∧ gpost D (cty CA) (cw CA u h ad) (cA h ad sz) t) (cA h ad sz)) 1 6 (cA h ad sz) := by
  refine vx_ofW (cc := cC_unsure) (maxL := 4) (ret := (some .boolean)) (by decide) rfl ?_
  intro p e s m args below meth c s₁ B hml hno hv
  obtain ⟨rfl, ⟨hsz, hP, hK, hD0⟩, hZ⟩ := hv
  have hx := B.exec
  have hb := B.bytes
  have hr := B.returns
  have hT : ∀ w ∈ TB, w.before _ s = true := fun w hw => atoms_spec (ws := wC_unsure) B.pre w (List.mem_cons_of_mem _ hw)
  have hown : s.vm.findClass "CountLeast" = some m.cls := findClass_of_methodNamed B.named
  have hlocks := B.notSynchronized
  subst hsz
  have hD := nA_self (sz := s.heap.size) hD0
  have hS : va_S (cA h ad s.heap.size) s.heap s.heap [] := va_S.rf
  have hP : va_P D vwCl (cw CA g h ad) s.heap := hP
  have hl := lv_entry ([.ref (ad 0), .int pn]) (n := 4) (Nat.le_of_ble_eq_true rfl)
  rw [lg_entry_eq]
  generalize (lg_sl ([.ref (ad 0), .int pn]) ++ List.replicate (4 - (lg_sl ([.ref (ad 0), .int pn])).length) Slot.unset).toArray = ls at hl ⊢
  have hl : lv_has ls 4 [(0, .ref (ad 0)), (1, .int pn)] := hl
  refine lv_aload_n hx hb dC_unsure_0 rfl (lv_at hl 0 rfl) ?_
  refine lv_iload_n hx hb dC_unsure_1 rfl (lv_at hl 1 rfl) ?_
  refine kVx (n := 1) (D := D) (wd := fun z => cw CA z h ad) (A1 := fun sz => cA h ad sz) (As := [.int pn]) (rest := []) (te := (te3 (ib pn (g 0 2)) False False)) ⟨hx, hb, hml, hown, hT⟩ (kC_pieceAt l hlt D CA g h ad s.heap.size sa pn hn72 hg0) (gi_V wm_310 wm_312 wp_2 wm_1 wm_313) rfl rfl (by decide +kernel) ⟨(Nat.le_of_ble_eq_true rfl), (Nat.le_of_ble_eq_true rfl)⟩ (va_recv hK hP (ci := 0) (q0 := 0) rfl cw_X) hlocks hno hZ (fun _ h9 => h9) hK hP hD hS (fun _ h9 => h9) (nA_mono hS.1) (fun E h9 => Or.inl ⟨h9.1, h9.2⟩) rfl hl.1 rfl (Nat.le_of_ble_eq_true rfl) dC_unsure_2 ⟨(Nat.le_of_ble_eq_true rfl), (Nat.le_of_ble_eq_true rfl)⟩ (Nat.le_of_ble_eq_true rfl) (Nat.le_of_ble_eq_true rfl) (fun a9 H locs ha hz hP hS => ?_)
  obtain ⟨p, hp, rfl, rfl⟩ := ha
  have f_1 : ¬ ib (nI p) (g 0 2) := by rw [hg0]; exact nib hp (by omega)
  refine lv_astore_n (lv' := [(2, .ref (ad (57 + p))), (0, .ref (ad 0)), (1, .int (nI p))]) hx hb dC_unsure_5 rfl hl (by decide) rfl (fun ls hl => ?_)
  refine lv_aload_n hx hb dC_unsure_6 rfl (lv_at hl 0 rfl) ?_
  refine va_get (D := D) (ci := 3) (C := RQ) (T := TQ) (N := 9) hx hb hT inQ hown hK hP (57 + p) (cw_Q hp) rfl 5 (by decide) (hT _ wm_249) (fun _ h9 => h9) rfl dC_unsure_7 ?_
  refine lv_iconst (v := 3) hx hb dC_unsure_10 (by decide) ?_
  refine lv_icmp_eq (tgt := 18) hx hb dC_unsure_11 (by decide) (fun c_2 => ?_) (fun c_2 => ?_)
  · refine lv_iconst (v := 0) hx hb dC_unsure_18 (by decide) ?_
    refine lv_istore_n (lv' := [(3, .int 0), (2, .ref (ad (57 + p))), (0, .ref (ad 0)), (1, .int (nI p))]) hx hb dC_unsure_19 rfl hl (by decide) rfl (fun ls hl => ?_)
    refine lv_aload_n hx hb dC_unsure_20 rfl (lv_at hl 1 rfl) ?_
    refine lv_iconst (v := 3) hx hb dC_unsure_21 (by decide) ?_
    refine va_put (D := D) (ci := 3) (v := .int 3) (ty := .int) (C := RQ) (T := TQ) (N := 9) hx hb hT inQ tyQ tyokQ nmQ hown hK hP hD hS (57 + p) (cw_Q hp) rfl 5 (by decide) (hT _ wm_249) (fun _ h9 => h9) rfl (by decide +kernel) rfl rfl (Nat.le_of_ble_eq_true rfl) dC_unsure_22 (fun H locs hP hD hS => ?_)
    rw [cw_sQ (by simp)] at hP hD
    refine lv_aload_n hx hb dC_unsure_25 rfl (lv_at hl 1 rfl) ?_
    refine va_get (D := D) (ci := 3) (C := RQ) (T := TQ) (N := 9) hx hb hT inQ hown hK hP (57 + p) (cw_Q hp) rfl 0 (by decide) (hT _ wm_237) (fun _ h9 => h9) rfl dC_unsure_26 ?_
    refine lv_iconst (v := 1) hx hb dC_unsure_29 (by decide) ?_
    refine va_put (D := D) (ci := 1) (v := .int 1) (ty := .boolean) (C := RK) (T := TK) (N := 10) hx hb hT inK tyK tyokK nmK hown hK hP hD hS (3 + 9 * (h 2 p)) (cw_K (hq6 p hp)) rfl 7 (by decide) (hT _ wm_76) (fun _ h9 => h9) rfl (by decide +kernel) rfl rfl (Nat.le_of_ble_eq_true rfl) dC_unsure_30 (fun H locs hP hD hS => ?_)
    rw [cw_sK (hq6 p hp) (by simp)] at hP hD
    refine lv_iload_n hx hb dC_unsure_33 rfl (lv_at hl 0 rfl) ?_
    refine vx_ret ?_
    exact W.zret (v := 0) hx hb hr rfl (fun t ht hW => ⟨⟨_, (u2 (u2 g (57 + p) 5 3) (3 + 9 * (h 2 p)) 7 1), rfl, ⟨f_1, p, hp, rfl, by simp [c_2], rfl⟩, gpost_at hP hK hD ht hW.alike⟩, hS.F ht⟩) hS.2.2 dC_unsure_34
  · refine lv_iconst (v := 1) hx hb dC_unsure_14 (by decide) ?_
    refine lv_goto (tgt := 19) hx hb dC_unsure_15 (by decide) ?_
    refine lv_istore_n (lv' := [(3, .int 1), (2, .ref (ad (57 + p))), (0, .ref (ad 0)), (1, .int (nI p))]) hx hb dC_unsure_19 rfl hl (by decide) rfl (fun ls hl => ?_)
    refine lv_aload_n hx hb dC_unsure_20 rfl (lv_at hl 1 rfl) ?_
    refine lv_iconst (v := 3) hx hb dC_unsure_21 (by decide) ?_
    refine va_put (D := D) (ci := 3) (v := .int 3) (ty := .int) (C := RQ) (T := TQ) (N := 9) hx hb hT inQ tyQ tyokQ nmQ hown hK hP hD hS (57 + p) (cw_Q hp) rfl 5 (by decide) (hT _ wm_249) (fun _ h9 => h9) rfl (by decide +kernel) rfl rfl (Nat.le_of_ble_eq_true rfl) dC_unsure_22 (fun H locs hP hD hS => ?_)
    rw [cw_sQ (by simp)] at hP hD
    refine lv_aload_n hx hb dC_unsure_25 rfl (lv_at hl 1 rfl) ?_
    refine va_get (D := D) (ci := 3) (C := RQ) (T := TQ) (N := 9) hx hb hT inQ hown hK hP (57 + p) (cw_Q hp) rfl 0 (by decide) (hT _ wm_237) (fun _ h9 => h9) rfl dC_unsure_26 ?_
    refine lv_iconst (v := 1) hx hb dC_unsure_29 (by decide) ?_
    refine va_put (D := D) (ci := 1) (v := .int 1) (ty := .boolean) (C := RK) (T := TK) (N := 10) hx hb hT inK tyK tyokK nmK hown hK hP hD hS (3 + 9 * (h 2 p)) (cw_K (hq6 p hp)) rfl 7 (by decide) (hT _ wm_76) (fun _ h9 => h9) rfl (by decide +kernel) rfl rfl (Nat.le_of_ble_eq_true rfl) dC_unsure_30 (fun H locs hP hD hS => ?_)
    rw [cw_sK (hq6 p hp) (by simp)] at hP hD
    refine lv_iload_n hx hb dC_unsure_33 rfl (lv_at hl 0 rfl) ?_
    refine vx_ret ?_
    exact W.zret (v := 1) hx hb hr rfl (fun t ht hW => ⟨⟨_, (u2 (u2 g (57 + p) 5 3) (3 + 9 * (h 2 p)) 7 1), rfl, ⟨f_1, p, hp, rfl, by simp [c_2], rfl⟩, gpost_at hP hK hD ht hW.alike⟩, hS.F ht⟩) hS.2.2 dC_unsure_34
set_option maxHeartbeats 4000000 in
set_option maxRecDepth 100000 in
theorem kC_weight (l : Launch) (hlt : l.stackTraces = false) (D : va_G) (CA : Nat → ClassId) (g : Nat → Nat → Int32) (h : Nat → Nat → Nat) (ad : Nat → Nat) (sz : Nat) (sa : Nat → Nat) (pn gr : Int32) (hn72 : h 0 0 ≤ 72) (hg0 : g 0 2 = nI (h 0 0)) : vx_Met l yC_weight wC_weight (rm 1 2 12) (va_Pc [.ref (ad 0), .int pn, .int gr] (fun U => gpre D (cty CA) (cw CA g h ad) sz U ∧ xz (cA h ad sz) sa U U.heap)) (va_Qi (fun r (u : Nat → Nat → Int32) => ¬ (ib pn (g 0 2)) ∧ ¬ (rb gr 0 1000000) ∧ ∃ p, p < h 0 0 ∧ pn = nI p ∧ r = g (57 + p) 8 ∧ u = (u2 g (57 + p) 8 gr)) (fun u t => gpost D (cty CA) (cw CA u h ad) (cA h ad sz) t) (cA h ad sz)) (vx_X (fun u : Nat → Nat → Int32 => u = g) (fun E u t => te3 (ib pn (g 0 2)) (rb gr 0 1000000) False E ∧ gpost D (cty CA) (cw CA u h ad) (cA h ad sz) t) (cA h ad sz)) 2 12 (cA h ad sz) := by
  refine vx_ofW (cc := cC_weight) (maxL := 5) (ret := (some .int)) (by decide) rfl ?_
  intro p e s m args below meth c s₁ B hml hno hv
  obtain ⟨rfl, ⟨hsz, hP, hK, hD0⟩, hZ⟩ := hv
  have hx := B.exec
  have hb := B.bytes
  have hr := B.returns
  have hT : ∀ w ∈ TB, w.before _ s = true := fun w hw => atoms_spec (ws := wC_weight) B.pre w (List.mem_cons_of_mem _ hw)
  have hown : s.vm.findClass "CountLeast" = some m.cls := findClass_of_methodNamed B.named
  have hlocks := B.notSynchronized
  subst hsz
  have hD := nA_self (sz := s.heap.size) hD0
  have hS : va_S (cA h ad s.heap.size) s.heap s.heap [] := va_S.rf
  have hP : va_P D vwCl (cw CA g h ad) s.heap := hP
  have hl := lv_entry ([.ref (ad 0), .int pn, .int gr]) (n := 5) (Nat.le_of_ble_eq_true rfl)
  rw [lg_entry_eq]
  generalize (lg_sl ([.ref (ad 0), .int pn, .int gr]) ++ List.replicate (5 - (lg_sl ([.ref (ad 0), .int pn, .int gr])).length) Slot.unset).toArray = ls at hl ⊢
  have hl : lv_has ls 5 [(0, .ref (ad 0)), (1, .int pn), (2, .int gr)] := hl
  refine lv_aload_n hx hb dC_weight_0 rfl (lv_at hl 0 rfl) ?_
  refine lv_iload_n hx hb dC_weight_1 rfl (lv_at hl 1 rfl) ?_
  refine kVx (n := 1) (D := D) (wd := fun z => cw CA z h ad) (A1 := fun sz => cA h ad sz) (As := [.int pn]) (rest := []) (te := (te3 (ib pn (g 0 2)) (rb gr 0 1000000) False)) ⟨hx, hb, hml, hown, hT⟩ (kC_pieceAt l hlt D CA g h ad s.heap.size sa pn hn72 hg0) (gi_V wm_310 wm_312 wp_2 wm_1 wm_313) rfl rfl (by decide +kernel) ⟨(Nat.le_of_ble_eq_true rfl), (Nat.le_of_ble_eq_true rfl)⟩ (va_recv hK hP (ci := 0) (q0 := 0) rfl cw_X) hlocks hno hZ (fun _ h9 => h9) hK hP hD hS (fun _ h9 => h9) (nA_mono hS.1) (fun E h9 => Or.inl ⟨h9.1, h9.2⟩) rfl hl.1 rfl (Nat.le_of_ble_eq_true rfl) dC_weight_2 ⟨(Nat.le_of_ble_eq_true rfl), (Nat.le_of_ble_eq_true rfl)⟩ (Nat.le_of_ble_eq_true rfl) (Nat.le_of_ble_eq_true rfl) (fun a9 H locs ha hz hP hS => ?_)
  obtain ⟨p, hp, rfl, rfl⟩ := ha
  have f_1 : ¬ ib (nI p) (g 0 2) := by rw [hg0]; exact nib hp (by omega)
  refine lv_astore_n (lv' := [(3, .ref (ad (57 + p))), (0, .ref (ad 0)), (1, .int (nI p)), (2, .int gr)]) hx hb dC_weight_5 rfl hl (by decide) rfl (fun ls hl => ?_)
  refine lv_iload_n hx hb dC_weight_6 rfl (lv_at hl 3 rfl) ?_
  refine lv_iconst (v := 0) hx hb dC_weight_7 (by decide) ?_
  refine lv_ldc (own := "CountLeast") (v := 1000000) hx hb hown (hT _ wm_434) dC_weight_8 ?_
  refine kSx (n := 3) (D := D) (wd := fun z => cw CA z h ad) (As := [.int gr, .int 0, .int 1000000]) (rest := []) (te := (te3 (ib (nI p) (g 0 2)) (rb gr 0 1000000) False)) hml ⟨hx, hb, hml, hown, hT⟩ (kC_checkRange l hlt sa H.size gr 0 1000000) (gi_S wm_196 wm_197 wm_1 wm_198) rfl rfl (by decide +kernel) ⟨(Nat.le_of_ble_eq_true rfl), (Nat.le_of_ble_eq_true rfl)⟩ hlocks hno hZ (fun _ h9 => Or.inr h9) (fun _ h9 => h9) hK hP hD hS (fun E h9 => Or.inr (Or.inl ⟨h9.1, f_1, h9.2⟩)) rfl hl.1 rfl (Nat.le_of_ble_eq_true rfl) dC_weight_10 ⟨(Nat.le_of_ble_eq_true rfl), (Nat.le_of_ble_eq_true rfl)⟩ (Nat.le_of_ble_eq_true rfl) (Nat.le_of_ble_eq_true rfl) (fun H locs hok hz hP hS => ?_)
  have f_2 := hok
  refine lv_aload_n hx hb dC_weight_13 rfl (lv_at hl 0 rfl) ?_
  refine va_get (D := D) (ci := 3) (C := RQ) (T := TQ) (N := 9) hx hb hT inQ hown hK hP (57 + p) (cw_Q hp) rfl 8 (by decide) (hT _ wm_258) (fun _ h9 => h9) rfl dC_weight_14 ?_
  refine lv_istore (lv' := [(4, .int (g (57 + p) 8)), (3, .ref (ad (57 + p))), (0, .ref (ad 0)), (1, .int (nI p)), (2, .int gr)]) hx hb dC_weight_17 hl (by decide) rfl (fun ls hl => ?_)
  refine lv_aload_n hx hb dC_weight_19 rfl (lv_at hl 1 rfl) ?_
  refine lv_iload_n hx hb dC_weight_20 rfl (lv_at hl 4 rfl) ?_
  refine va_put (D := D) (ci := 3) (v := .int gr) (ty := .int) (C := RQ) (T := TQ) (N := 9) hx hb hT inQ tyQ tyokQ nmQ hown hK hP hD hS (57 + p) (cw_Q hp) rfl 8 (by decide) (hT _ wm_258) (fun _ h9 => h9) rfl (by decide +kernel) rfl rfl (Nat.le_of_ble_eq_true rfl) dC_weight_21 (fun H locs hP hD hS => ?_)
  rw [cw_sQ (by simp)] at hP hD
  refine lv_iload hx hb dC_weight_24 (lv_at hl 0 rfl) ?_
  refine vx_ret ?_
  exact W.iret (v := g (57 + p) 8) hx hb hr (fun t ht hW => ⟨⟨_, (u2 g (57 + p) 8 gr), rfl, ⟨f_1, f_2, p, hp, rfl, rfl, rfl⟩, gpost_at hP hK hD ht hW.alike⟩, hS.F ht⟩) hS.2.2 dC_weight_26
set_option maxHeartbeats 4000000 in
set_option maxRecDepth 100000 in
theorem kC_sieve (l : Launch) (hlt : l.stackTraces = false) (D : va_G) (CA : Nat → ClassId) (g : Nat → Nat → Int32) (h : Nat → Nat → Nat) (ad : Nat → Nat) (sz : Nat) (sa : Nat → Nat) (kd av bv : Int32) : vx_Met l yC_sieve wC_sieve (rm 1 3 18) (va_Pc [.ref (ad 0), .int kd, .int av, .int bv] (fun U => gpre D (cty CA) (cw CA g h ad) sz U ∧ xz (cA h ad sz) sa U U.heap)) (va_Qv (fun (u : Nat → Nat → Int32) => ¬ (ib kd 6) ∧ ¬ (rb av 1 10000 ∨ rb bv 1 av) ∧ ∃ k, k < 6 ∧ kd = nI k ∧ u = (u2 (u2 g (3 + 9 * k) 4 av) (3 + 9 * k) 5 bv)) (fun u t => gpost D (cty CA) (cw CA u h ad) (cA h ad sz) t) (cA h ad sz)) (vx_X (fun u : Nat → Nat → Int32 => u = g) (fun E u t => te3 (ib kd 6) (rb av 1 10000 ∨ rb bv 1 av) False E ∧ gpost D (cty CA) (cw CA u h ad) (cA h ad sz) t) (cA h ad sz)) 3 18 (cA h ad sz) := by
  refine vx_ofW (cc := cC_sieve) (maxL := 5) (ret := none) (by decide) rfl ?_
  intro p e s m args below meth c s₁ B hml hno hv
  obtain ⟨rfl, ⟨hsz, hP, hK, hD0⟩, hZ⟩ := hv
  have hx := B.exec
  have hb := B.bytes
  have hr := B.returns
  have hT : ∀ w ∈ TB, w.before _ s = true := fun w hw => atoms_spec (ws := wC_sieve) B.pre w (List.mem_cons_of_mem _ hw)
  have hown : s.vm.findClass "CountLeast" = some m.cls := findClass_of_methodNamed B.named
  have hlocks := B.notSynchronized
  subst hsz
  have hD := nA_self (sz := s.heap.size) hD0
  have hS : va_S (cA h ad s.heap.size) s.heap s.heap [] := va_S.rf
  have hP : va_P D vwCl (cw CA g h ad) s.heap := hP
  have hl := lv_entry ([.ref (ad 0), .int kd, .int av, .int bv]) (n := 5) (Nat.le_of_ble_eq_true rfl)
  rw [lg_entry_eq]
  generalize (lg_sl ([.ref (ad 0), .int kd, .int av, .int bv]) ++ List.replicate (5 - (lg_sl ([.ref (ad 0), .int kd, .int av, .int bv])).length) Slot.unset).toArray = ls at hl ⊢
  have hl : lv_has ls 5 [(0, .ref (ad 0)), (1, .int kd), (2, .int av), (3, .int bv)] := hl
  refine lv_aload_n hx hb dC_sieve_0 rfl (lv_at hl 0 rfl) ?_
  refine lv_iload_n hx hb dC_sieve_1 rfl (lv_at hl 1 rfl) ?_
  refine kVx (n := 1) (D := D) (wd := fun z => cw CA z h ad) (A1 := fun sz => cA h ad sz) (As := [.int kd]) (rest := []) (te := (te3 (ib kd 6) (rb av 1 10000 ∨ rb bv 1 av) False)) ⟨hx, hb, hml, hown, hT⟩ (kC_kindAt l hlt D CA g h ad s.heap.size sa kd) (gi_V wm_120 wm_122 wp_0 wm_1 wm_123) rfl rfl (by decide +kernel) ⟨(Nat.le_of_ble_eq_true rfl), (Nat.le_of_ble_eq_true rfl)⟩ (va_recv hK hP (ci := 0) (q0 := 0) rfl cw_X) hlocks hno hZ (fun _ h9 => h9) hK hP hD hS (fun _ h9 => h9) (nA_mono hS.1) (fun E h9 => Or.inl ⟨h9.1, h9.2⟩) rfl hl.1 rfl (Nat.le_of_ble_eq_true rfl) dC_sieve_2 ⟨(Nat.le_of_ble_eq_true rfl), (Nat.le_of_ble_eq_true rfl)⟩ (Nat.le_of_ble_eq_true rfl) (Nat.le_of_ble_eq_true rfl) (fun a9 H locs ha hz hP hS => ?_)
  obtain ⟨k, hk, rfl, rfl⟩ := ha
  have f_1 : ¬ ib (nI k) 6 := nib hk (by decide)
  refine lv_astore (lv' := [(4, .ref (ad (3 + 9 * k))), (0, .ref (ad 0)), (1, .int (nI k)), (2, .int av), (3, .int bv)]) hx hb dC_sieve_5 hl (by decide) rfl (fun ls hl => ?_)
  refine lv_iload_n hx hb dC_sieve_7 rfl (lv_at hl 3 rfl) ?_
  refine lv_iconst (v := 1) hx hb dC_sieve_8 (by decide) ?_
  refine lv_sipush (v := 10000) hx hb dC_sieve_9 (by decide) ?_
  refine kSx (n := 3) (D := D) (wd := fun z => cw CA z h ad) (As := [.int av, .int 1, .int 10000]) (rest := []) (te := (te3 (ib (nI k) 6) (rb av 1 10000 ∨ rb bv 1 av) False)) hml ⟨hx, hb, hml, hown, hT⟩ (kC_checkRange l hlt sa H.size av 1 10000) (gi_S wm_196 wm_197 wm_1 wm_198) rfl rfl (by decide +kernel) ⟨(Nat.le_of_ble_eq_true rfl), (Nat.le_of_ble_eq_true rfl)⟩ hlocks hno hZ (fun _ h9 => Or.inr h9) (fun _ h9 => h9) hK hP hD hS (fun E h9 => Or.inr (Or.inl ⟨h9.1, f_1, (Or.inl h9.2)⟩)) rfl hl.1 rfl (Nat.le_of_ble_eq_true rfl) dC_sieve_12 ⟨(Nat.le_of_ble_eq_true rfl), (Nat.le_of_ble_eq_true rfl)⟩ (Nat.le_of_ble_eq_true rfl) (Nat.le_of_ble_eq_true rfl) (fun H locs hok hz hP hS => ?_)
  have f_2 := hok
  refine lv_iload_n hx hb dC_sieve_15 rfl (lv_at hl 4 rfl) ?_
  refine lv_iconst (v := 1) hx hb dC_sieve_16 (by decide) ?_
  refine lv_iload_n hx hb dC_sieve_17 rfl (lv_at hl 3 rfl) ?_
  refine kSx (n := 3) (D := D) (wd := fun z => cw CA z h ad) (As := [.int bv, .int 1, .int av]) (rest := []) (te := (te3 (ib (nI k) 6) (rb av 1 10000 ∨ rb bv 1 av) False)) hml ⟨hx, hb, hml, hown, hT⟩ (kC_checkRange l hlt sa H.size bv 1 av) (gi_S wm_196 wm_197 wm_1 wm_198) rfl rfl (by decide +kernel) ⟨(Nat.le_of_ble_eq_true rfl), (Nat.le_of_ble_eq_true rfl)⟩ hlocks hno hZ (fun _ h9 => Or.inr h9) (fun _ h9 => h9) hK hP hD hS (fun E h9 => Or.inr (Or.inl ⟨h9.1, f_1, (Or.inr h9.2)⟩)) rfl hl.1 rfl (Nat.le_of_ble_eq_true rfl) dC_sieve_18 ⟨(Nat.le_of_ble_eq_true rfl), (Nat.le_of_ble_eq_true rfl)⟩ (Nat.le_of_ble_eq_true rfl) (Nat.le_of_ble_eq_true rfl) (fun H locs hok hz hP hS => ?_)
  have f_3 := hok
  refine lv_aload hx hb dC_sieve_21 (lv_at hl 0 rfl) ?_
  refine lv_iload_n hx hb dC_sieve_23 rfl (lv_at hl 3 rfl) ?_
  refine va_put (D := D) (ci := 1) (v := .int av) (ty := .int) (C := RK) (T := TK) (N := 10) hx hb hT inK tyK tyokK nmK hown hK hP hD hS (3 + 9 * k) (cw_K hk) rfl 4 (by decide) (hT _ wm_69) (fun _ h9 => h9) rfl (by decide +kernel) rfl rfl (Nat.le_of_ble_eq_true rfl) dC_sieve_24 (fun H locs hP hD hS => ?_)
  rw [cw_sK hk (by simp)] at hP hD
  refine lv_aload hx hb dC_sieve_27 (lv_at hl 0 rfl) ?_
  refine lv_iload_n hx hb dC_sieve_29 rfl (lv_at hl 4 rfl) ?_
  refine va_put (D := D) (ci := 1) (v := .int bv) (ty := .int) (C := RK) (T := TK) (N := 10) hx hb hT inK tyK tyokK nmK hown hK hP hD hS (3 + 9 * k) (cw_K hk) rfl 5 (by decide) (hT _ wm_71) (fun _ h9 => h9) rfl (by decide +kernel) rfl rfl (Nat.le_of_ble_eq_true rfl) dC_sieve_30 (fun H locs hP hD hS => ?_)
  rw [cw_sK hk (by simp)] at hP hD
  refine vx_ret ?_
  exact W.vret hx hb hr (fun t ht hW => ⟨⟨(u2 (u2 g (3 + 9 * k) 4 av) (3 + 9 * k) 5 bv), rfl, ⟨f_1, (not_or.mpr ⟨f_2, f_3⟩), k, hk, rfl, rfl⟩, gpost_at hP hK hD ht hW.alike⟩, hS.F ht⟩) hS.2.2 dC_sieve_33
set_option maxHeartbeats 4000000 in
set_option maxRecDepth 100000 in
theorem kC_pieces (l : Launch) (hlt : l.stackTraces = false) (D : va_G) (CA : Nat → ClassId) (g : Nat → Nat → Int32) (h : Nat → Nat → Nat) (ad : Nat → Nat) (sz : Nat) (sa : Nat → Nat) (kd : Int32) : vx_Met l yC_pieces wC_pieces (rm 1 1 6) (va_Pc [.ref (ad 0), .int kd] (fun U => gpre D (cty CA) (cw CA g h ad) sz U ∧ xz (cA h ad sz) sa U U.heap)) (va_Qi (fun r (u : Nat → Nat → Int32) => ¬ ((¬ kd = -1 ∧ ib kd 6)) ∧ (kd = -1 ∧ r = g 0 2 ∨ ∃ k, k < 6 ∧ kd = nI k ∧ r = g (3 + 9 * k) 6) ∧ u = g) (fun u t => gpost D (cty CA) (cw CA u h ad) (cA h ad sz) t) (cA h ad sz)) (vx_X (fun u : Nat → Nat → Int32 => u = g) (fun E u t => te3 ((¬ kd = -1 ∧ ib kd 6)) False False E ∧ gpost D (cty CA) (cw CA u h ad) (cA h ad sz) t) (cA h ad sz)) 1 6 (cA h ad sz) := by
  refine vx_ofW (cc := cC_pieces) (maxL := 2) (ret := (some .int)) (by decide) rfl ?_
  intro p e s m args below meth c s₁ B hml hno hv
  obtain ⟨rfl, ⟨hsz, hP, hK, hD0⟩, hZ⟩ := hv
  have hx := B.exec
  have hb := B.bytes
  have hr := B.returns
  have hT : ∀ w ∈ TB, w.before _ s = true := fun w hw => atoms_spec (ws := wC_pieces) B.pre w (List.mem_cons_of_mem _ hw)
  have hown : s.vm.findClass "CountLeast" = some m.cls := findClass_of_methodNamed B.named
  have hlocks := B.notSynchronized
  subst hsz
  have hD := nA_self (sz := s.heap.size) hD0
  have hS : va_S (cA h ad s.heap.size) s.heap s.heap [] := va_S.rf
  have hP : va_P D vwCl (cw CA g h ad) s.heap := hP
  have hl := lv_entry ([.ref (ad 0), .int kd]) (n := 2) (Nat.le_of_ble_eq_true rfl)
  rw [lg_entry_eq]
  generalize (lg_sl ([.ref (ad 0), .int kd]) ++ List.replicate (2 - (lg_sl ([.ref (ad 0), .int kd])).length) Slot.unset).toArray = ls at hl ⊢
  have hl : lv_has ls 2 [(0, .ref (ad 0)), (1, .int kd)] := hl
  refine lv_iload_n hx hb dC_pieces_0 rfl (lv_at hl 1 rfl) ?_
  refine lv_iconst (v := (-1)) hx hb dC_pieces_1 (by decide) ?_
  refine lv_icmp_ne (tgt := 12) hx hb dC_pieces_2 (by decide) (fun c_1 => ?_) (fun c_1 => ?_)
  · refine lv_aload_n hx hb dC_pieces_12 rfl (lv_at hl 0 rfl) ?_
    refine lv_iload_n hx hb dC_pieces_13 rfl (lv_at hl 1 rfl) ?_
    refine kVx (n := 1) (D := D) (wd := fun z => cw CA z h ad) (A1 := fun sz => cA h ad sz) (As := [.int kd]) (rest := []) (te := (te3 ((¬ kd = -1 ∧ ib kd 6)) False False)) ⟨hx, hb, hml, hown, hT⟩ (kC_kindAt l hlt D CA g h ad s.heap.size sa kd) (gi_V wm_120 wm_122 wp_0 wm_1 wm_123) rfl rfl (by decide +kernel) ⟨(Nat.le_of_ble_eq_true rfl), (Nat.le_of_ble_eq_true rfl)⟩ (va_recv hK hP (ci := 0) (q0 := 0) rfl cw_X) hlocks hno hZ (fun _ h9 => h9) hK hP hD hS (fun _ h9 => h9) (nA_mono hS.1) (fun E h9 => Or.inl ⟨h9.1, ⟨c_1, h9.2⟩⟩) rfl hl.1 rfl (Nat.le_of_ble_eq_true rfl) dC_pieces_14 ⟨(Nat.le_of_ble_eq_true rfl), (Nat.le_of_ble_eq_true rfl)⟩ (Nat.le_of_ble_eq_true rfl) (Nat.le_of_ble_eq_true rfl) (fun a9 H locs ha hz hP hS => ?_)
    obtain ⟨k, hk, rfl, rfl⟩ := ha
    have f_2 : ¬ ib (nI k) 6 := nib hk (by decide)
    refine va_get (D := D) (ci := 1) (C := RK) (T := TK) (N := 10) hx hb hT inK hown hK hP (3 + 9 * k) (cw_K hk) rfl 6 (by decide) (hT _ wm_74) (fun _ h9 => h9) rfl dC_pieces_17 ?_
    refine vx_ret ?_
    exact W.iret (v := g (3 + 9 * k) 6) hx hb hr (fun t ht hW => ⟨⟨_, g, rfl, ⟨(fun q => f_2 q.2), Or.inr ⟨k, hk, rfl, rfl⟩, rfl⟩, gpost_at hP hK hD ht hW.alike⟩, hS.F ht⟩) hS.2.2 dC_pieces_20
  · refine lv_aload_n hx hb dC_pieces_5 rfl (lv_at hl 0 rfl) ?_
    refine va_get (D := D) (ci := 0) (C := RC) (T := TC) (N := 3) hx hb hT inC hown hK hP (0) (cw_X) rfl 2 (by decide) (hT _ wm_102) (fun _ h9 => h9) rfl dC_pieces_6 ?_
    refine lv_goto (tgt := 20) hx hb dC_pieces_9 (by decide) ?_
    refine W.widen (k := 1) (n := 6) (Nat.le_of_ble_eq_true rfl) (Nat.le_of_ble_eq_true rfl) ?_
    refine vx_ret ?_
    exact W.iret (v := g 0 2) hx hb hr (fun t ht hW => ⟨⟨_, g, rfl, ⟨(fun q => q.1 c_1), Or.inl ⟨c_1, rfl⟩, rfl⟩, gpost_at hP hK hD ht hW.alike⟩, hS.F ht⟩) hS.2.2 dC_pieces_20
