set_option maxHeartbeats 4000000 in
set_option maxRecDepth 100000 in
theorem kM_bound (l : Launch) (D : va_G) (CA : Nat → ClassId) (g : Nat → Nat → Int32) (ad : Nat → Nat) (sz : Nat)  (kd tn : Int32) : Met l yM_bound wM_bound (rm 2 0 0) (va_Pc [.ref (ad 0), .int kd, .int tn] (gpre D (cty CA) (mw CA g ad) sz)) (va_Qi (fun r (u : Nat → Nat → Int32) => t4 (ib kd 6) (rb tn 0 30000) False g u (∃ k, k < 6 ∧ kd = nI k ∧ r = g 11 k ∧ u = (u2 (u2 g 0 0 0) (11) k tn))) (fun u t => gpost D (cty CA) (mw CA u ad) (mA ad sz) t) (mA ad sz)) 0 0 (mA ad sz) := by
  refine Met.ofW (cc := cM_bound) (maxL := 4) (ret := (some .int)) (by decide) rfl ?_
  intro p e s m args below meth c s₁ B hml hv
  obtain ⟨rfl, hsz, hP, hK, hD0⟩ := hv
  have hx := B.exec
  have hb := B.bytes
  have hr := B.returns
  have hT : ∀ w ∈ TB, w.before _ s = true := fun w hw => atoms_spec (ws := wM_bound) B.pre w (List.mem_cons_of_mem _ hw)
  have hown : s.vm.findClass "CountLeastModel" = some m.cls := findClass_of_methodNamed B.named
  have hlocks := B.notSynchronized
  subst hsz
  have hD := nA_self (sz := s.heap.size) hD0
  have hS : va_S (mA ad s.heap.size) s.heap s.heap [] := va_S.rf
  have hP : va_P D vwCl (mw CA g ad) s.heap := hP
  have hl := lv_entry ([.ref (ad 0), .int kd, .int tn]) (n := 4) (Nat.le_of_ble_eq_true rfl)
  rw [lg_entry_eq]
  generalize (lg_sl ([.ref (ad 0), .int kd, .int tn]) ++ List.replicate (4 - (lg_sl ([.ref (ad 0), .int kd, .int tn])).length) Slot.unset).toArray = ls at hl ⊢
  have hl : lv_has ls 4 [(0, .ref (ad 0)), (1, .int kd), (2, .int tn)] := hl
  refine lv_aload_n hx hb dM_bound_0 rfl (lv_at hl 0 rfl) ?_
  refine lv_iload_n hx hb dM_bound_1 rfl (lv_at hl 1 rfl) ?_
  refine kSi (n := 1) (D := D) (As := [.int kd]) (rest := [.ref (ad 0)]) ⟨hx, hb, hml, hown, hT⟩ (kM_isKind l kd) (gi_S wm_571 wm_572 wm_4 wm_573) rfl rfl (by decide +kernel) ⟨(Nat.le_of_ble_eq_true rfl), (Nat.le_of_ble_eq_true rfl)⟩ hP hS rfl hl.1 rfl (Nat.le_of_ble_eq_true rfl) dM_bound_2 ⟨(Nat.le_of_ble_eq_true rfl), (Nat.le_of_ble_eq_true rfl)⟩ (fun r_1 H locs e_2 hz hP hS => ?_)
  rcases e_2 with ⟨rfl, f_3⟩ | ⟨rfl, f_3⟩
  · refine lv_if_ne (tgt := 12) hx hb dM_bound_5 (by decide) (fun c_4 => ?_) (fun c_4 => absurd c_4 (by decide))
    refine lv_iconst (v := 0) hx hb dM_bound_12 (by decide) ?_
    refine lv_iload_n hx hb dM_bound_13 rfl (lv_at hl 2 rfl) ?_
    refine lv_iconst (v := 0) hx hb dM_bound_14 (by decide) ?_
    refine lv_sipush (v := 30000) hx hb dM_bound_15 (by decide) ?_
    refine kSi (n := 3) (D := D) (As := [.int tn, .int 0, .int 30000]) (rest := [.int 0, .ref (ad 0)]) ⟨hx, hb, hml, hown, hT⟩ (kM_in l tn 0 30000) (gi_S wm_574 wm_575 wm_4 wm_576) rfl rfl (by decide +kernel) ⟨(Nat.le_of_ble_eq_true rfl), (Nat.le_of_ble_eq_true rfl)⟩ hP hS rfl hl.1 rfl (Nat.le_of_ble_eq_true rfl) dM_bound_18 ⟨(Nat.le_of_ble_eq_true rfl), (Nat.le_of_ble_eq_true rfl)⟩ (fun r_5 H locs e_6 hz hP hS => ?_)
    rcases e_6 with ⟨rfl, f_7⟩ | ⟨rfl, f_7⟩
    · refine lv_if_ne (tgt := 28) hx hb dM_bound_21 (by decide) (fun c_8 => ?_) (fun c_8 => absurd c_8 (by decide))
      refine lv_iconst (v := 0) hx hb dM_bound_28 (by decide) ?_
      refine lv_iconst (v := 0) hx hb dM_bound_29 (by decide) ?_
      refine kVi (n := 3) (D := D) (wd := fun z => mw CA z ad) (A1 := fun sz => mA ad sz) (As := [.int 0, .int 0, .int 0]) (rest := []) ⟨hx, hb, hml, hown, hT⟩ (kM_throwing l D CA g ad H.size 0 0 0) (gi_V wm_577 wm_579 wp_8 wm_4 wm_580) rfl rfl (by decide +kernel) ⟨(Nat.le_of_ble_eq_true rfl), (Nat.le_of_ble_eq_true rfl)⟩ (va_recv hK hP (ci := 4) (q0 := 0) rfl mw_O) hK hP hD hS (fun _ h9 => h9) (nA_mono hS.1) rfl hl.1 rfl (Nat.le_of_ble_eq_true rfl) dM_bound_30 ⟨(Nat.le_of_ble_eq_true rfl), (Nat.le_of_ble_eq_true rfl)⟩ (fun r_9 u_10 H locs w_11 hz hP hD hS => ?_)
      obtain ⟨rfl, rfl⟩ := th_000 w_11
      obtain ⟨k, hk, rfl⟩ := ibn (n := 6) (by decide) f_3
      refine lv_if_eq (tgt := 38) hx hb dM_bound_33 (by decide) (fun c_12 => ?_) (fun c_12 => absurd (by decide) c_12)
      refine lv_aload_n hx hb dM_bound_38 rfl (lv_at hl 0 rfl) ?_
      refine va_get (D := D) (ci := 4) (C := RM) (T := TM) (N := 21) hx hb hT inM hown hK hP (0) (mw_O) rfl 12 (by decide) (hT _ wm_511) (fun _ h9 => h9) rfl dM_bound_39 ?_
      refine lv_iload_n hx hb dM_bound_42 rfl (lv_at hl 1 rfl) ?_
      refine va_iald (D := D) hx hb hK hP (11) 0 (mw_a11) rfl (vp_in_nI (by omega) (by decide)) dM_bound_43 ?_
      rw [nI_clamp (n := k) (by omega)]
      refine lv_istore_n (lv' := [(3, .int ((u2 g 0 0 0) (11) k)), (0, .ref (ad 0)), (1, .int (nI k)), (2, .int tn)]) hx hb dM_bound_44 rfl hl (by decide) rfl (fun ls hl => ?_)
      refine lv_aload_n hx hb dM_bound_45 rfl (lv_at hl 1 rfl) ?_
      refine va_get (D := D) (ci := 4) (C := RM) (T := TM) (N := 21) hx hb hT inM hown hK hP (0) (mw_O) rfl 12 (by decide) (hT _ wm_511) (fun _ h9 => h9) rfl dM_bound_46 ?_
      refine lv_iload_n hx hb dM_bound_49 rfl (lv_at hl 2 rfl) ?_
      refine lv_iload_n hx hb dM_bound_50 rfl (lv_at hl 3 rfl) ?_
      refine va_iast (D := D) hx hb hK hP hD hS (11) 0 (mw_a11) rfl (vp_in_nI (by omega) (by decide)) dM_bound_51 (fun H locs hP hD hS => ?_)
      rw [nI_clamp (n := k) (by omega), mw_s11] at hP hD
      refine lv_iload_n hx hb dM_bound_52 rfl (lv_at hl 0 rfl) ?_
      exact W.iret (v := (u2 g 0 0 0) (11) k) hx hb hr (fun t ht hW => ⟨⟨_, (u2 (u2 g 0 0 0) (11) k tn), rfl, Or.inr (Or.inr (Or.inr ⟨f_3, f_7, (fun h9 : False => h9), k, hk, rfl, rfl, rfl⟩)), gpost_at hP hK hD ht hW.alike⟩, hS.F ht⟩) hS.2.2 dM_bound_53
    · refine lv_if_ne (tgt := 28) hx hb dM_bound_21 (by decide) (fun c_13 => absurd rfl c_13) (fun c_13 => ?_)
      refine lv_iconst (v := 1) hx hb dM_bound_24 (by decide) ?_
      refine lv_goto (tgt := 29) hx hb dM_bound_25 (by decide) ?_
      refine lv_iconst (v := 0) hx hb dM_bound_29 (by decide) ?_
      refine kVi (n := 3) (D := D) (wd := fun z => mw CA z ad) (A1 := fun sz => mA ad sz) (As := [.int 0, .int 1, .int 0]) (rest := []) ⟨hx, hb, hml, hown, hT⟩ (kM_throwing l D CA g ad H.size 0 1 0) (gi_V wm_577 wm_579 wp_8 wm_4 wm_580) rfl rfl (by decide +kernel) ⟨(Nat.le_of_ble_eq_true rfl), (Nat.le_of_ble_eq_true rfl)⟩ (va_recv hK hP (ci := 4) (q0 := 0) rfl mw_O) hK hP hD hS (fun _ h9 => h9) (nA_mono hS.1) rfl hl.1 rfl (Nat.le_of_ble_eq_true rfl) dM_bound_30 ⟨(Nat.le_of_ble_eq_true rfl), (Nat.le_of_ble_eq_true rfl)⟩ (fun r_14 u_15 H locs w_16 hz hP hD hS => ?_)
      obtain ⟨rfl, rfl⟩ := th_010 w_16
      refine lv_if_eq (tgt := 38) hx hb dM_bound_33 (by decide) (fun c_17 => absurd c_17 (by decide)) (fun c_17 => ?_)
      refine lv_iconst (v := 0) hx hb dM_bound_36 (by decide) ?_
      exact W.iret (v := 0) hx hb hr (fun t ht hW => ⟨⟨_, (u2 g 0 0 2), rfl, Or.inr (Or.inl ⟨f_3, f_7, rfl⟩), gpost_at hP hK hD ht hW.alike⟩, hS.F ht⟩) hS.2.2 dM_bound_37
  · refine lv_if_ne (tgt := 12) hx hb dM_bound_5 (by decide) (fun c_18 => absurd rfl c_18) (fun c_18 => ?_)
    refine lv_iconst (v := 1) hx hb dM_bound_8 (by decide) ?_
    refine lv_goto (tgt := 13) hx hb dM_bound_9 (by decide) ?_
    refine lv_iload_n hx hb dM_bound_13 rfl (lv_at hl 2 rfl) ?_
    refine lv_iconst (v := 0) hx hb dM_bound_14 (by decide) ?_
    refine lv_sipush (v := 30000) hx hb dM_bound_15 (by decide) ?_
    refine kSi (n := 3) (D := D) (As := [.int tn, .int 0, .int 30000]) (rest := [.int 1, .ref (ad 0)]) ⟨hx, hb, hml, hown, hT⟩ (kM_in l tn 0 30000) (gi_S wm_574 wm_575 wm_4 wm_576) rfl rfl (by decide +kernel) ⟨(Nat.le_of_ble_eq_true rfl), (Nat.le_of_ble_eq_true rfl)⟩ hP hS rfl hl.1 rfl (Nat.le_of_ble_eq_true rfl) dM_bound_18 ⟨(Nat.le_of_ble_eq_true rfl), (Nat.le_of_ble_eq_true rfl)⟩ (fun r_19 H locs e_20 hz hP hS => ?_)
    rcases e_20 with ⟨rfl, f_21⟩ | ⟨rfl, f_21⟩
    · refine lv_if_ne (tgt := 28) hx hb dM_bound_21 (by decide) (fun c_22 => ?_) (fun c_22 => absurd c_22 (by decide))
      refine lv_iconst (v := 0) hx hb dM_bound_28 (by decide) ?_
      refine lv_iconst (v := 0) hx hb dM_bound_29 (by decide) ?_
      refine kVi (n := 3) (D := D) (wd := fun z => mw CA z ad) (A1 := fun sz => mA ad sz) (As := [.int 1, .int 0, .int 0]) (rest := []) ⟨hx, hb, hml, hown, hT⟩ (kM_throwing l D CA g ad H.size 1 0 0) (gi_V wm_577 wm_579 wp_8 wm_4 wm_580) rfl rfl (by decide +kernel) ⟨(Nat.le_of_ble_eq_true rfl), (Nat.le_of_ble_eq_true rfl)⟩ (va_recv hK hP (ci := 4) (q0 := 0) rfl mw_O) hK hP hD hS (fun _ h9 => h9) (nA_mono hS.1) rfl hl.1 rfl (Nat.le_of_ble_eq_true rfl) dM_bound_30 ⟨(Nat.le_of_ble_eq_true rfl), (Nat.le_of_ble_eq_true rfl)⟩ (fun r_23 u_24 H locs w_25 hz hP hD hS => ?_)
      obtain ⟨rfl, rfl⟩ := th_100 w_25
      refine lv_if_eq (tgt := 38) hx hb dM_bound_33 (by decide) (fun c_26 => absurd c_26 (by decide)) (fun c_26 => ?_)
      refine lv_iconst (v := 0) hx hb dM_bound_36 (by decide) ?_
      exact W.iret (v := 0) hx hb hr (fun t ht hW => ⟨⟨_, (u2 g 0 0 1), rfl, Or.inl ⟨f_3, rfl⟩, gpost_at hP hK hD ht hW.alike⟩, hS.F ht⟩) hS.2.2 dM_bound_37
    · refine lv_if_ne (tgt := 28) hx hb dM_bound_21 (by decide) (fun c_27 => absurd rfl c_27) (fun c_27 => ?_)
      refine lv_iconst (v := 1) hx hb dM_bound_24 (by decide) ?_
      refine lv_goto (tgt := 29) hx hb dM_bound_25 (by decide) ?_
      refine lv_iconst (v := 0) hx hb dM_bound_29 (by decide) ?_
      refine kVi (n := 3) (D := D) (wd := fun z => mw CA z ad) (A1 := fun sz => mA ad sz) (As := [.int 1, .int 1, .int 0]) (rest := []) ⟨hx, hb, hml, hown, hT⟩ (kM_throwing l D CA g ad H.size 1 1 0) (gi_V wm_577 wm_579 wp_8 wm_4 wm_580) rfl rfl (by decide +kernel) ⟨(Nat.le_of_ble_eq_true rfl), (Nat.le_of_ble_eq_true rfl)⟩ (va_recv hK hP (ci := 4) (q0 := 0) rfl mw_O) hK hP hD hS (fun _ h9 => h9) (nA_mono hS.1) rfl hl.1 rfl (Nat.le_of_ble_eq_true rfl) dM_bound_30 ⟨(Nat.le_of_ble_eq_true rfl), (Nat.le_of_ble_eq_true rfl)⟩ (fun r_28 u_29 H locs w_30 hz hP hD hS => ?_)
      obtain ⟨rfl, rfl⟩ := th_110 w_30
      refine lv_if_eq (tgt := 38) hx hb dM_bound_33 (by decide) (fun c_31 => absurd c_31 (by decide)) (fun c_31 => ?_)
      refine lv_iconst (v := 0) hx hb dM_bound_36 (by decide) ?_
      exact W.iret (v := 0) hx hb hr (fun t ht hW => ⟨⟨_, (u2 g 0 0 1), rfl, Or.inl ⟨f_3, rfl⟩, gpost_at hP hK hD ht hW.alike⟩, hS.F ht⟩) hS.2.2 dM_bound_37
set_option maxHeartbeats 4000000 in
set_option maxRecDepth 100000 in
theorem kM_single (l : Launch) (D : va_G) (CA : Nat → ClassId) (g : Nat → Nat → Int32) (ad : Nat → Nat) (sz : Nat)  (kd pt z : Int32) (hz9 : z = 0 ∨ z = 1) : Met l yM_single wM_single (rm 2 0 0) (va_Pc [.ref (ad 0), .int kd, .int pt, .int z] (gpre D (cty CA) (mw CA g ad) sz)) (va_Qi (fun r (u : Nat → Nat → Int32) => t4 (ib kd 6 ∨ ib pt 16) False False g u (∃ k j, k < 6 ∧ j < 16 ∧ kd = nI k ∧ pt = nI j ∧ r = (if g 10 (16 * k + j) = z then 0 else 1) ∧ u = u2 (u2 g 0 0 0) 10 (16 * k + j) z)) (fun u t => gpost D (cty CA) (mw CA u ad) (mA ad sz) t) (mA ad sz)) 0 0 (mA ad sz) := by
  refine Met.ofW (cc := cM_single) (maxL := 5) (ret := (some .boolean)) (by decide) rfl ?_
  intro p e s m args below meth c s₁ B hml hv
  obtain ⟨rfl, hsz, hP, hK, hD0⟩ := hv
  have hx := B.exec
  have hb := B.bytes
  have hr := B.returns
  have hT : ∀ w ∈ TB, w.before _ s = true := fun w hw => atoms_spec (ws := wM_single) B.pre w (List.mem_cons_of_mem _ hw)
  have hown : s.vm.findClass "CountLeastModel" = some m.cls := findClass_of_methodNamed B.named
  have hlocks := B.notSynchronized
  subst hsz
  have hD := nA_self (sz := s.heap.size) hD0
  have hS : va_S (mA ad s.heap.size) s.heap s.heap [] := va_S.rf
  have hP : va_P D vwCl (mw CA g ad) s.heap := hP
  have hl := lv_entry ([.ref (ad 0), .int kd, .int pt, .int z]) (n := 5) (Nat.le_of_ble_eq_true rfl)
  rw [lg_entry_eq]
  generalize (lg_sl ([.ref (ad 0), .int kd, .int pt, .int z]) ++ List.replicate (5 - (lg_sl ([.ref (ad 0), .int kd, .int pt, .int z])).length) Slot.unset).toArray = ls at hl ⊢
  have hl : lv_has ls 5 [(0, .ref (ad 0)), (1, .int kd), (2, .int pt), (3, .int z)] := hl
  have hnz : vp_nar .boolean z = z := by rcases hz9 with rfl | rfl <;> rfl
  refine lv_aload_n hx hb dM_single_0 rfl (lv_at hl 0 rfl) ?_
  refine lv_iload_n hx hb dM_single_1 rfl (lv_at hl 1 rfl) ?_
  refine kSi (n := 1) (D := D) (As := [.int kd]) (rest := [.ref (ad 0)]) ⟨hx, hb, hml, hown, hT⟩ (kM_isKind l kd) (gi_S wm_571 wm_572 wm_4 wm_573) rfl rfl (by decide +kernel) ⟨(Nat.le_of_ble_eq_true rfl), (Nat.le_of_ble_eq_true rfl)⟩ hP hS rfl hl.1 rfl (Nat.le_of_ble_eq_true rfl) dM_single_2 ⟨(Nat.le_of_ble_eq_true rfl), (Nat.le_of_ble_eq_true rfl)⟩ (fun r_1 H locs e_2 hz hP hS => ?_)
  rcases e_2 with ⟨rfl, f_3⟩ | ⟨rfl, f_3⟩
  · refine lv_if_eq (tgt := 18) hx hb dM_single_5 (by decide) (fun c_4 => absurd c_4 (by decide)) (fun c_4 => ?_)
    refine lv_iload_n hx hb dM_single_8 rfl (lv_at hl 2 rfl) ?_
    refine lv_iconst (v := 0) hx hb dM_single_9 (by decide) ?_
    refine lv_bipush (v := 15) hx hb dM_single_10 (by decide) ?_
    refine kSi (n := 3) (D := D) (As := [.int pt, .int 0, .int 15]) (rest := [.ref (ad 0)]) ⟨hx, hb, hml, hown, hT⟩ (kM_in l pt 0 15) (gi_S wm_574 wm_575 wm_4 wm_576) rfl rfl (by decide +kernel) ⟨(Nat.le_of_ble_eq_true rfl), (Nat.le_of_ble_eq_true rfl)⟩ hP hS rfl hl.1 rfl (Nat.le_of_ble_eq_true rfl) dM_single_12 ⟨(Nat.le_of_ble_eq_true rfl), (Nat.le_of_ble_eq_true rfl)⟩ (fun r_5 H locs e_6 hz hP hS => ?_)
    rcases e_6 with ⟨rfl, f_7⟩ | ⟨rfl, f_7⟩
    · refine lv_if_ne (tgt := 22) hx hb dM_single_15 (by decide) (fun c_8 => ?_) (fun c_8 => absurd c_8 (by decide))
      refine lv_iconst (v := 0) hx hb dM_single_22 (by decide) ?_
      refine lv_iconst (v := 0) hx hb dM_single_23 (by decide) ?_
      refine lv_iconst (v := 0) hx hb dM_single_24 (by decide) ?_
      refine kVi (n := 3) (D := D) (wd := fun z => mw CA z ad) (A1 := fun sz => mA ad sz) (As := [.int 0, .int 0, .int 0]) (rest := []) ⟨hx, hb, hml, hown, hT⟩ (kM_throwing l D CA g ad H.size 0 0 0) (gi_V wm_577 wm_579 wp_8 wm_4 wm_580) rfl rfl (by decide +kernel) ⟨(Nat.le_of_ble_eq_true rfl), (Nat.le_of_ble_eq_true rfl)⟩ (va_recv hK hP (ci := 4) (q0 := 0) rfl mw_O) hK hP hD hS (fun _ h9 => h9) (nA_mono hS.1) rfl hl.1 rfl (Nat.le_of_ble_eq_true rfl) dM_single_25 ⟨(Nat.le_of_ble_eq_true rfl), (Nat.le_of_ble_eq_true rfl)⟩ (fun r_9 u_10 H locs w_11 hz hP hD hS => ?_)
      obtain ⟨rfl, rfl⟩ := th_000 w_11
      obtain ⟨k, hk, rfl⟩ := ibn (n := 6) (by decide) f_3
      obtain ⟨j, hj, rfl⟩ := ibn (n := 16) (by decide) (ib_nb (n := 16) (by decide) (by decide) f_7)
      refine lv_if_eq (tgt := 33) hx hb dM_single_28 (by decide) (fun c_12 => ?_) (fun c_12 => absurd (by decide) c_12)
      refine lv_aload_n hx hb dM_single_33 rfl (lv_at hl 0 rfl) ?_
      refine va_get (D := D) (ci := 4) (C := RM) (T := TM) (N := 21) hx hb hT inM hown hK hP (0) (mw_O) rfl 11 (by decide) (hT _ wm_510) (fun _ h9 => h9) rfl dM_single_34 ?_
      refine lv_bipush (v := 16) hx hb dM_single_37 (by decide) ?_
      refine lv_iload_n hx hb dM_single_39 rfl (lv_at hl 1 rfl) ?_
      refine lv_imul hx hb dM_single_40 ?_
      refine W.eq (g2 := F0 m 41 ls [.int (nI (16 * k)), .ref (ad 10)]) (by rw [m16 _]) ?_
      refine lv_iload_n hx hb dM_single_41 rfl (lv_at hl 2 rfl) ?_
      refine lv_iadd hx hb dM_single_42 ?_
      refine W.eq (g2 := F0 m 43 ls [.int (nI (16 * k + j)), .ref (ad 10)]) (by rw [nI_add]) ?_
      refine va_zald (D := D) hx hb hK hP (10) 1 (mw_a10) rfl (vp_in_nI (by omega) (by decide)) dM_single_43 ?_
      rw [nI_clamp (n := 16 * k + j) (by omega)]
      refine lv_istore (lv' := [(4, .int ((u2 g 0 0 0) (10) (16 * k + j))), (0, .ref (ad 0)), (1, .int (nI k)), (2, .int (nI j)), (3, .int z)]) hx hb dM_single_44 hl (by decide) rfl (fun ls hl => ?_)
      refine lv_aload_n hx hb dM_single_46 rfl (lv_at hl 1 rfl) ?_
      refine va_get (D := D) (ci := 4) (C := RM) (T := TM) (N := 21) hx hb hT inM hown hK hP (0) (mw_O) rfl 11 (by decide) (hT _ wm_510) (fun _ h9 => h9) rfl dM_single_47 ?_
      refine lv_bipush (v := 16) hx hb dM_single_50 (by decide) ?_
      refine lv_iload_n hx hb dM_single_52 rfl (lv_at hl 2 rfl) ?_
      refine lv_imul hx hb dM_single_53 ?_
      refine W.eq (g2 := F0 m 54 ls [.int (nI (16 * k)), .ref (ad 10)]) (by rw [m16 _]) ?_
      refine lv_iload_n hx hb dM_single_54 rfl (lv_at hl 3 rfl) ?_
      refine lv_iadd hx hb dM_single_55 ?_
      refine W.eq (g2 := F0 m 56 ls [.int (nI (16 * k + j)), .ref (ad 10)]) (by rw [nI_add]) ?_
      refine lv_iload_n hx hb dM_single_56 rfl (lv_at hl 4 rfl) ?_
      refine va_zast (D := D) hx hb hK hP hD hS (10) 1 (mw_a10) rfl (vp_in_nI (by omega) (by decide)) dM_single_57 (fun H locs hP hD hS => ?_)
      rw [nI_clamp (n := 16 * k + j) (by omega), hnz, mw_s10] at hP hD
      refine lv_iload hx hb dM_single_58 (lv_at hl 0 rfl) ?_
      refine lv_iload_n hx hb dM_single_60 rfl (lv_at hl 4 rfl) ?_
      refine lv_icmp_eq (tgt := 68) hx hb dM_single_61 (by decide) (fun c_13 => ?_) (fun c_13 => ?_)
      · refine lv_iconst (v := 0) hx hb dM_single_68 (by decide) ?_
        exact W.zret (v := 0) hx hb hr rfl (fun t ht hW => ⟨⟨_, (u2 (u2 g 0 0 0) (10) (16 * k + j) z), rfl, Or.inr (Or.inr (Or.inr ⟨(not_or.mpr ⟨f_3, (ib_nb (n := 16) (by decide) (by decide) f_7)⟩), (fun h9 : False => h9), (fun h9 : False => h9), k, j, hk, hj, rfl, rfl, by simp [show g 10 (16 * k + j) = z from c_13], rfl⟩)), gpost_at hP hK hD ht hW.alike⟩, hS.F ht⟩) hS.2.2 dM_single_69
      · refine lv_iconst (v := 1) hx hb dM_single_64 (by decide) ?_
        refine lv_goto (tgt := 69) hx hb dM_single_65 (by decide) ?_
        exact W.zret (v := 1) hx hb hr rfl (fun t ht hW => ⟨⟨_, (u2 (u2 g 0 0 0) (10) (16 * k + j) z), rfl, Or.inr (Or.inr (Or.inr ⟨(not_or.mpr ⟨f_3, (ib_nb (n := 16) (by decide) (by decide) f_7)⟩), (fun h9 : False => h9), (fun h9 : False => h9), k, j, hk, hj, rfl, rfl, by simp [show ¬ g 10 (16 * k + j) = z from c_13], rfl⟩)), gpost_at hP hK hD ht hW.alike⟩, hS.F ht⟩) hS.2.2 dM_single_69
    · refine lv_if_ne (tgt := 22) hx hb dM_single_15 (by decide) (fun c_14 => absurd rfl c_14) (fun c_14 => ?_)
      refine lv_iconst (v := 1) hx hb dM_single_18 (by decide) ?_
      refine lv_goto (tgt := 23) hx hb dM_single_19 (by decide) ?_
      refine lv_iconst (v := 0) hx hb dM_single_23 (by decide) ?_
      refine lv_iconst (v := 0) hx hb dM_single_24 (by decide) ?_
      refine kVi (n := 3) (D := D) (wd := fun z => mw CA z ad) (A1 := fun sz => mA ad sz) (As := [.int 1, .int 0, .int 0]) (rest := []) ⟨hx, hb, hml, hown, hT⟩ (kM_throwing l D CA g ad H.size 1 0 0) (gi_V wm_577 wm_579 wp_8 wm_4 wm_580) rfl rfl (by decide +kernel) ⟨(Nat.le_of_ble_eq_true rfl), (Nat.le_of_ble_eq_true rfl)⟩ (va_recv hK hP (ci := 4) (q0 := 0) rfl mw_O) hK hP hD hS (fun _ h9 => h9) (nA_mono hS.1) rfl hl.1 rfl (Nat.le_of_ble_eq_true rfl) dM_single_25 ⟨(Nat.le_of_ble_eq_true rfl), (Nat.le_of_ble_eq_true rfl)⟩ (fun r_15 u_16 H locs w_17 hz hP hD hS => ?_)
      obtain ⟨rfl, rfl⟩ := th_100 w_17
      refine lv_if_eq (tgt := 33) hx hb dM_single_28 (by decide) (fun c_18 => absurd c_18 (by decide)) (fun c_18 => ?_)
      refine lv_iconst (v := 0) hx hb dM_single_31 (by decide) ?_
      exact W.zret (v := 0) hx hb hr rfl (fun t ht hW => ⟨⟨_, (u2 g 0 0 1), rfl, Or.inl ⟨(Or.inr (ib_yb (n := 16) (by decide) (by decide) f_7)), rfl⟩, gpost_at hP hK hD ht hW.alike⟩, hS.F ht⟩) hS.2.2 dM_single_32
  · refine lv_if_eq (tgt := 18) hx hb dM_single_5 (by decide) (fun c_19 => ?_) (fun c_19 => absurd (by decide) c_19)
    refine lv_iconst (v := 1) hx hb dM_single_18 (by decide) ?_
    refine lv_goto (tgt := 23) hx hb dM_single_19 (by decide) ?_
    refine lv_iconst (v := 0) hx hb dM_single_23 (by decide) ?_
    refine lv_iconst (v := 0) hx hb dM_single_24 (by decide) ?_
    refine kVi (n := 3) (D := D) (wd := fun z => mw CA z ad) (A1 := fun sz => mA ad sz) (As := [.int 1, .int 0, .int 0]) (rest := []) ⟨hx, hb, hml, hown, hT⟩ (kM_throwing l D CA g ad H.size 1 0 0) (gi_V wm_577 wm_579 wp_8 wm_4 wm_580) rfl rfl (by decide +kernel) ⟨(Nat.le_of_ble_eq_true rfl), (Nat.le_of_ble_eq_true rfl)⟩ (va_recv hK hP (ci := 4) (q0 := 0) rfl mw_O) hK hP hD hS (fun _ h9 => h9) (nA_mono hS.1) rfl hl.1 rfl (Nat.le_of_ble_eq_true rfl) dM_single_25 ⟨(Nat.le_of_ble_eq_true rfl), (Nat.le_of_ble_eq_true rfl)⟩ (fun r_20 u_21 H locs w_22 hz hP hD hS => ?_)
    obtain ⟨rfl, rfl⟩ := th_100 w_22
    refine lv_if_eq (tgt := 33) hx hb dM_single_28 (by decide) (fun c_23 => absurd c_23 (by decide)) (fun c_23 => ?_)
    refine lv_iconst (v := 0) hx hb dM_single_31 (by decide) ?_
    exact W.zret (v := 0) hx hb hr rfl (fun t ht hW => ⟨⟨_, (u2 g 0 0 1), rfl, Or.inl ⟨(Or.inl f_3), rfl⟩, gpost_at hP hK hD ht hW.alike⟩, hS.F ht⟩) hS.2.2 dM_single_32
set_option maxHeartbeats 4000000 in
set_option maxRecDepth 100000 in
theorem kM_table (l : Launch) (D : va_G) (CA : Nat → ClassId) (g : Nat → Nat → Int32) (ad : Nat → Nat) (sz : Nat)  (kd wr fr tt : Int32) : Met l yM_table wM_table (rm 2 0 0) (va_Pc [.ref (ad 0), .int kd, .int wr, .int fr, .int tt] (gpre D (cty CA) (mw CA g ad) sz)) (va_Qv (fun (u : Nat → Nat → Int32) => t4 (ib kd 6 ∨ ib wr 16) (fr < 0 ∨ tt < fr ∨ ¬ tt ≤ 999) False g u (∃ k j, k < 6 ∧ j < 16 ∧ kd = nI k ∧ wr = nI j ∧ u = (u2 (u2 (u2 g 0 0 0) (12) (16 * k + j) fr) (13) (16 * k + j) tt))) (fun u t => gpost D (cty CA) (mw CA u ad) (mA ad sz) t) (mA ad sz)) 0 0 (mA ad sz) := by
  refine Met.ofW (cc := cM_table) (maxL := 5) (ret := none) (by decide) rfl ?_
  intro p e s m args below meth c s₁ B hml hv
  obtain ⟨rfl, hsz, hP, hK, hD0⟩ := hv
  have hx := B.exec
  have hb := B.bytes
  have hr := B.returns
  have hT : ∀ w ∈ TB, w.before _ s = true := fun w hw => atoms_spec (ws := wM_table) B.pre w (List.mem_cons_of_mem _ hw)
  have hown : s.vm.findClass "CountLeastModel" = some m.cls := findClass_of_methodNamed B.named
  have hlocks := B.notSynchronized
  subst hsz
  have hD := nA_self (sz := s.heap.size) hD0
  have hS : va_S (mA ad s.heap.size) s.heap s.heap [] := va_S.rf
  have hP : va_P D vwCl (mw CA g ad) s.heap := hP
  have hl := lv_entry ([.ref (ad 0), .int kd, .int wr, .int fr, .int tt]) (n := 5) (Nat.le_of_ble_eq_true rfl)
  rw [lg_entry_eq]
  generalize (lg_sl ([.ref (ad 0), .int kd, .int wr, .int fr, .int tt]) ++ List.replicate (5 - (lg_sl ([.ref (ad 0), .int kd, .int wr, .int fr, .int tt])).length) Slot.unset).toArray = ls at hl ⊢
  have hl : lv_has ls 5 [(0, .ref (ad 0)), (1, .int kd), (2, .int wr), (3, .int fr), (4, .int tt)] := hl
  refine lv_aload_n hx hb dM_table_0 rfl (lv_at hl 0 rfl) ?_
  refine lv_iload_n hx hb dM_table_1 rfl (lv_at hl 1 rfl) ?_
  refine kSi (n := 1) (D := D) (As := [.int kd]) (rest := [.ref (ad 0)]) ⟨hx, hb, hml, hown, hT⟩ (kM_isKind l kd) (gi_S wm_571 wm_572 wm_4 wm_573) rfl rfl (by decide +kernel) ⟨(Nat.le_of_ble_eq_true rfl), (Nat.le_of_ble_eq_true rfl)⟩ hP hS rfl hl.1 rfl (Nat.le_of_ble_eq_true rfl) dM_table_2 ⟨(Nat.le_of_ble_eq_true rfl), (Nat.le_of_ble_eq_true rfl)⟩ (fun r_1 H locs e_2 hz hP hS => ?_)
  rcases e_2 with ⟨rfl, f_3⟩ | ⟨rfl, f_3⟩
  · refine lv_if_eq (tgt := 18) hx hb dM_table_5 (by decide) (fun c_4 => absurd c_4 (by decide)) (fun c_4 => ?_)
    refine lv_iload_n hx hb dM_table_8 rfl (lv_at hl 2 rfl) ?_
    refine lv_iconst (v := 0) hx hb dM_table_9 (by decide) ?_
    refine lv_bipush (v := 15) hx hb dM_table_10 (by decide) ?_
    refine kSi (n := 3) (D := D) (As := [.int wr, .int 0, .int 15]) (rest := [.ref (ad 0)]) ⟨hx, hb, hml, hown, hT⟩ (kM_in l wr 0 15) (gi_S wm_574 wm_575 wm_4 wm_576) rfl rfl (by decide +kernel) ⟨(Nat.le_of_ble_eq_true rfl), (Nat.le_of_ble_eq_true rfl)⟩ hP hS rfl hl.1 rfl (Nat.le_of_ble_eq_true rfl) dM_table_12 ⟨(Nat.le_of_ble_eq_true rfl), (Nat.le_of_ble_eq_true rfl)⟩ (fun r_5 H locs e_6 hz hP hS => ?_)
    rcases e_6 with ⟨rfl, f_7⟩ | ⟨rfl, f_7⟩
    · refine lv_if_ne (tgt := 22) hx hb dM_table_15 (by decide) (fun c_8 => ?_) (fun c_8 => absurd c_8 (by decide))
      refine lv_iconst (v := 0) hx hb dM_table_22 (by decide) ?_
      refine lv_iload_n hx hb dM_table_23 rfl (lv_at hl 3 rfl) ?_
      refine lv_if_lt (tgt := 41) hx hb dM_table_24 (by decide) (fun c_9 => ?_) (fun c_9 => ?_)
      · refine lv_iconst (v := 1) hx hb dM_table_41 (by decide) ?_
        refine lv_goto (tgt := 46) hx hb dM_table_42 (by decide) ?_
        refine lv_iconst (v := 0) hx hb dM_table_46 (by decide) ?_
        refine kVi (n := 3) (D := D) (wd := fun z => mw CA z ad) (A1 := fun sz => mA ad sz) (As := [.int 0, .int 1, .int 0]) (rest := []) ⟨hx, hb, hml, hown, hT⟩ (kM_throwing l D CA g ad H.size 0 1 0) (gi_V wm_577 wm_579 wp_8 wm_4 wm_580) rfl rfl (by decide +kernel) ⟨(Nat.le_of_ble_eq_true rfl), (Nat.le_of_ble_eq_true rfl)⟩ (va_recv hK hP (ci := 4) (q0 := 0) rfl mw_O) hK hP hD hS (fun _ h9 => h9) (nA_mono hS.1) rfl hl.1 rfl (Nat.le_of_ble_eq_true rfl) dM_table_47 ⟨(Nat.le_of_ble_eq_true rfl), (Nat.le_of_ble_eq_true rfl)⟩ (fun r_10 u_11 H locs w_12 hz hP hD hS => ?_)
        obtain ⟨rfl, rfl⟩ := th_010 w_12
        refine lv_if_eq (tgt := 54) hx hb dM_table_50 (by decide) (fun c_13 => absurd c_13 (by decide)) (fun c_13 => ?_)
        exact W.vret hx hb hr (fun t ht hW => ⟨⟨(u2 g 0 0 2), rfl, Or.inr (Or.inl ⟨(not_or.mpr ⟨f_3, (ib_nb (n := 16) (by decide) (by decide) f_7)⟩), (Or.inl c_9), rfl⟩), gpost_at hP hK hD ht hW.alike⟩, hS.F ht⟩) hS.2.2 dM_table_53
      · refine lv_iload_n hx hb dM_table_27 rfl (lv_at hl 3 rfl) ?_
        refine lv_iload hx hb dM_table_28 (lv_at hl 4 rfl) ?_
        refine lv_icmp_gt (tgt := 41) hx hb dM_table_30 (by decide) (fun c_14 => ?_) (fun c_14 => ?_)
        · refine lv_iconst (v := 1) hx hb dM_table_41 (by decide) ?_
          refine lv_goto (tgt := 46) hx hb dM_table_42 (by decide) ?_
          refine lv_iconst (v := 0) hx hb dM_table_46 (by decide) ?_
          refine kVi (n := 3) (D := D) (wd := fun z => mw CA z ad) (A1 := fun sz => mA ad sz) (As := [.int 0, .int 1, .int 0]) (rest := []) ⟨hx, hb, hml, hown, hT⟩ (kM_throwing l D CA g ad H.size 0 1 0) (gi_V wm_577 wm_579 wp_8 wm_4 wm_580) rfl rfl (by decide +kernel) ⟨(Nat.le_of_ble_eq_true rfl), (Nat.le_of_ble_eq_true rfl)⟩ (va_recv hK hP (ci := 4) (q0 := 0) rfl mw_O) hK hP hD hS (fun _ h9 => h9) (nA_mono hS.1) rfl hl.1 rfl (Nat.le_of_ble_eq_true rfl) dM_table_47 ⟨(Nat.le_of_ble_eq_true rfl), (Nat.le_of_ble_eq_true rfl)⟩ (fun r_15 u_16 H locs w_17 hz hP hD hS => ?_)
          obtain ⟨rfl, rfl⟩ := th_010 w_17
          refine lv_if_eq (tgt := 54) hx hb dM_table_50 (by decide) (fun c_18 => absurd c_18 (by decide)) (fun c_18 => ?_)
          exact W.vret hx hb hr (fun t ht hW => ⟨⟨(u2 g 0 0 2), rfl, Or.inr (Or.inl ⟨(not_or.mpr ⟨f_3, (ib_nb (n := 16) (by decide) (by decide) f_7)⟩), (Or.inr (Or.inl c_14)), rfl⟩), gpost_at hP hK hD ht hW.alike⟩, hS.F ht⟩) hS.2.2 dM_table_53
        · refine lv_iload hx hb dM_table_33 (lv_at hl 4 rfl) ?_
          refine lv_sipush (v := 999) hx hb dM_table_35 (by decide) ?_
          refine lv_icmp_le (tgt := 45) hx hb dM_table_38 (by decide) (fun c_19 => ?_) (fun c_19 => ?_)
          · refine lv_iconst (v := 0) hx hb dM_table_45 (by decide) ?_
            refine lv_iconst (v := 0) hx hb dM_table_46 (by decide) ?_
            refine kVi (n := 3) (D := D) (wd := fun z => mw CA z ad) (A1 := fun sz => mA ad sz) (As := [.int 0, .int 0, .int 0]) (rest := []) ⟨hx, hb, hml, hown, hT⟩ (kM_throwing l D CA g ad H.size 0 0 0) (gi_V wm_577 wm_579 wp_8 wm_4 wm_580) rfl rfl (by decide +kernel) ⟨(Nat.le_of_ble_eq_true rfl), (Nat.le_of_ble_eq_true rfl)⟩ (va_recv hK hP (ci := 4) (q0 := 0) rfl mw_O) hK hP hD hS (fun _ h9 => h9) (nA_mono hS.1) rfl hl.1 rfl (Nat.le_of_ble_eq_true rfl) dM_table_47 ⟨(Nat.le_of_ble_eq_true rfl), (Nat.le_of_ble_eq_true rfl)⟩ (fun r_20 u_21 H locs w_22 hz hP hD hS => ?_)
            obtain ⟨rfl, rfl⟩ := th_000 w_22
            obtain ⟨k, hk, rfl⟩ := ibn (n := 6) (by decide) f_3
            obtain ⟨j, hj, rfl⟩ := ibn (n := 16) (by decide) (ib_nb (n := 16) (by decide) (by decide) f_7)
            refine lv_if_eq (tgt := 54) hx hb dM_table_50 (by decide) (fun c_23 => ?_) (fun c_23 => absurd (by decide) c_23)
            refine lv_aload_n hx hb dM_table_54 rfl (lv_at hl 0 rfl) ?_
            refine va_get (D := D) (ci := 4) (C := RM) (T := TM) (N := 21) hx hb hT inM hown hK hP (0) (mw_O) rfl 13 (by decide) (hT _ wm_512) (fun _ h9 => h9) rfl dM_table_55 ?_
            refine lv_bipush (v := 16) hx hb dM_table_58 (by decide) ?_
            refine lv_iload_n hx hb dM_table_60 rfl (lv_at hl 1 rfl) ?_
            refine lv_imul hx hb dM_table_61 ?_
            refine W.eq (g2 := F0 m 62 ls [.int (nI (16 * k)), .ref (ad 12)]) (by rw [m16 _]) ?_
            refine lv_iload_n hx hb dM_table_62 rfl (lv_at hl 2 rfl) ?_
            refine lv_iadd hx hb dM_table_63 ?_
            refine W.eq (g2 := F0 m 64 ls [.int (nI (16 * k + j)), .ref (ad 12)]) (by rw [nI_add]) ?_
            refine lv_iload_n hx hb dM_table_64 rfl (lv_at hl 3 rfl) ?_
            refine va_iast (D := D) hx hb hK hP hD hS (12) 0 (mw_a12) rfl (vp_in_nI (by omega) (by decide)) dM_table_65 (fun H locs hP hD hS => ?_)
            rw [nI_clamp (n := 16 * k + j) (by omega), mw_s12] at hP hD
            refine lv_aload_n hx hb dM_table_66 rfl (lv_at hl 0 rfl) ?_
            refine va_get (D := D) (ci := 4) (C := RM) (T := TM) (N := 21) hx hb hT inM hown hK hP (0) (mw_O) rfl 14 (by decide) (hT _ wm_513) (fun _ h9 => h9) rfl dM_table_67 ?_
            refine lv_bipush (v := 16) hx hb dM_table_70 (by decide) ?_
            refine lv_iload_n hx hb dM_table_72 rfl (lv_at hl 1 rfl) ?_
            refine lv_imul hx hb dM_table_73 ?_
            refine W.eq (g2 := F0 m 74 ls [.int (nI (16 * k)), .ref (ad 13)]) (by rw [m16 _]) ?_
            refine lv_iload_n hx hb dM_table_74 rfl (lv_at hl 2 rfl) ?_
            refine lv_iadd hx hb dM_table_75 ?_
            refine W.eq (g2 := F0 m 76 ls [.int (nI (16 * k + j)), .ref (ad 13)]) (by rw [nI_add]) ?_
            refine lv_iload hx hb dM_table_76 (lv_at hl 4 rfl) ?_
            refine va_iast (D := D) hx hb hK hP hD hS (13) 0 (mw_a13) rfl (vp_in_nI (by omega) (by decide)) dM_table_78 (fun H locs hP hD hS => ?_)
            rw [nI_clamp (n := 16 * k + j) (by omega), mw_s13] at hP hD
            exact W.vret hx hb hr (fun t ht hW => ⟨⟨(u2 (u2 (u2 g 0 0 0) (12) (16 * k + j) fr) (13) (16 * k + j) tt), rfl, Or.inr (Or.inr (Or.inr ⟨(not_or.mpr ⟨f_3, (ib_nb (n := 16) (by decide) (by decide) f_7)⟩), (not_or.mpr ⟨c_9, (not_or.mpr ⟨c_14, (fun q => q c_19)⟩)⟩), (fun h9 : False => h9), k, j, hk, hj, rfl, rfl, rfl⟩)), gpost_at hP hK hD ht hW.alike⟩, hS.F ht⟩) hS.2.2 dM_table_79
          · refine lv_iconst (v := 1) hx hb dM_table_41 (by decide) ?_
            refine lv_goto (tgt := 46) hx hb dM_table_42 (by decide) ?_
            refine lv_iconst (v := 0) hx hb dM_table_46 (by decide) ?_
            refine kVi (n := 3) (D := D) (wd := fun z => mw CA z ad) (A1 := fun sz => mA ad sz) (As := [.int 0, .int 1, .int 0]) (rest := []) ⟨hx, hb, hml, hown, hT⟩ (kM_throwing l D CA g ad H.size 0 1 0) (gi_V wm_577 wm_579 wp_8 wm_4 wm_580) rfl rfl (by decide +kernel) ⟨(Nat.le_of_ble_eq_true rfl), (Nat.le_of_ble_eq_true rfl)⟩ (va_recv hK hP (ci := 4) (q0 := 0) rfl mw_O) hK hP hD hS (fun _ h9 => h9) (nA_mono hS.1) rfl hl.1 rfl (Nat.le_of_ble_eq_true rfl) dM_table_47 ⟨(Nat.le_of_ble_eq_true rfl), (Nat.le_of_ble_eq_true rfl)⟩ (fun r_24 u_25 H locs w_26 hz hP hD hS => ?_)
            obtain ⟨rfl, rfl⟩ := th_010 w_26
            refine lv_if_eq (tgt := 54) hx hb dM_table_50 (by decide) (fun c_27 => absurd c_27 (by decide)) (fun c_27 => ?_)
            exact W.vret hx hb hr (fun t ht hW => ⟨⟨(u2 g 0 0 2), rfl, Or.inr (Or.inl ⟨(not_or.mpr ⟨f_3, (ib_nb (n := 16) (by decide) (by decide) f_7)⟩), (Or.inr (Or.inr c_19)), rfl⟩), gpost_at hP hK hD ht hW.alike⟩, hS.F ht⟩) hS.2.2 dM_table_53
    · refine lv_if_ne (tgt := 22) hx hb dM_table_15 (by decide) (fun c_28 => absurd rfl c_28) (fun c_28 => ?_)
      refine lv_iconst (v := 1) hx hb dM_table_18 (by decide) ?_
      refine lv_goto (tgt := 23) hx hb dM_table_19 (by decide) ?_
      refine lv_iload_n hx hb dM_table_23 rfl (lv_at hl 3 rfl) ?_
      refine lv_if_lt (tgt := 41) hx hb dM_table_24 (by decide) (fun c_29 => ?_) (fun c_29 => ?_)
      · refine lv_iconst (v := 1) hx hb dM_table_41 (by decide) ?_
        refine lv_goto (tgt := 46) hx hb dM_table_42 (by decide) ?_
        refine lv_iconst (v := 0) hx hb dM_table_46 (by decide) ?_
        refine kVi (n := 3) (D := D) (wd := fun z => mw CA z ad) (A1 := fun sz => mA ad sz) (As := [.int 1, .int 1, .int 0]) (rest := []) ⟨hx, hb, hml, hown, hT⟩ (kM_throwing l D CA g ad H.size 1 1 0) (gi_V wm_577 wm_579 wp_8 wm_4 wm_580) rfl rfl (by decide +kernel) ⟨(Nat.le_of_ble_eq_true rfl), (Nat.le_of_ble_eq_true rfl)⟩ (va_recv hK hP (ci := 4) (q0 := 0) rfl mw_O) hK hP hD hS (fun _ h9 => h9) (nA_mono hS.1) rfl hl.1 rfl (Nat.le_of_ble_eq_true rfl) dM_table_47 ⟨(Nat.le_of_ble_eq_true rfl), (Nat.le_of_ble_eq_true rfl)⟩ (fun r_30 u_31 H locs w_32 hz hP hD hS => ?_)
        obtain ⟨rfl, rfl⟩ := th_110 w_32
        refine lv_if_eq (tgt := 54) hx hb dM_table_50 (by decide) (fun c_33 => absurd c_33 (by decide)) (fun c_33 => ?_)
        exact W.vret hx hb hr (fun t ht hW => ⟨⟨(u2 g 0 0 1), rfl, Or.inl ⟨(Or.inr (ib_yb (n := 16) (by decide) (by decide) f_7)), rfl⟩, gpost_at hP hK hD ht hW.alike⟩, hS.F ht⟩) hS.2.2 dM_table_53
      · refine lv_iload_n hx hb dM_table_27 rfl (lv_at hl 3 rfl) ?_
        refine lv_iload hx hb dM_table_28 (lv_at hl 4 rfl) ?_
        refine lv_icmp_gt (tgt := 41) hx hb dM_table_30 (by decide) (fun c_34 => ?_) (fun c_34 => ?_)
        · refine lv_iconst (v := 1) hx hb dM_table_41 (by decide) ?_
          refine lv_goto (tgt := 46) hx hb dM_table_42 (by decide) ?_
          refine lv_iconst (v := 0) hx hb dM_table_46 (by decide) ?_
          refine kVi (n := 3) (D := D) (wd := fun z => mw CA z ad) (A1 := fun sz => mA ad sz) (As := [.int 1, .int 1, .int 0]) (rest := []) ⟨hx, hb, hml, hown, hT⟩ (kM_throwing l D CA g ad H.size 1 1 0) (gi_V wm_577 wm_579 wp_8 wm_4 wm_580) rfl rfl (by decide +kernel) ⟨(Nat.le_of_ble_eq_true rfl), (Nat.le_of_ble_eq_true rfl)⟩ (va_recv hK hP (ci := 4) (q0 := 0) rfl mw_O) hK hP hD hS (fun _ h9 => h9) (nA_mono hS.1) rfl hl.1 rfl (Nat.le_of_ble_eq_true rfl) dM_table_47 ⟨(Nat.le_of_ble_eq_true rfl), (Nat.le_of_ble_eq_true rfl)⟩ (fun r_35 u_36 H locs w_37 hz hP hD hS => ?_)
          obtain ⟨rfl, rfl⟩ := th_110 w_37
          refine lv_if_eq (tgt := 54) hx hb dM_table_50 (by decide) (fun c_38 => absurd c_38 (by decide)) (fun c_38 => ?_)
          exact W.vret hx hb hr (fun t ht hW => ⟨⟨(u2 g 0 0 1), rfl, Or.inl ⟨(Or.inr (ib_yb (n := 16) (by decide) (by decide) f_7)), rfl⟩, gpost_at hP hK hD ht hW.alike⟩, hS.F ht⟩) hS.2.2 dM_table_53
        · refine lv_iload hx hb dM_table_33 (lv_at hl 4 rfl) ?_
          refine lv_sipush (v := 999) hx hb dM_table_35 (by decide) ?_
          refine lv_icmp_le (tgt := 45) hx hb dM_table_38 (by decide) (fun c_39 => ?_) (fun c_39 => ?_)
          · refine lv_iconst (v := 0) hx hb dM_table_45 (by decide) ?_
            refine lv_iconst (v := 0) hx hb dM_table_46 (by decide) ?_
            refine kVi (n := 3) (D := D) (wd := fun z => mw CA z ad) (A1 := fun sz => mA ad sz) (As := [.int 1, .int 0, .int 0]) (rest := []) ⟨hx, hb, hml, hown, hT⟩ (kM_throwing l D CA g ad H.size 1 0 0) (gi_V wm_577 wm_579 wp_8 wm_4 wm_580) rfl rfl (by decide +kernel) ⟨(Nat.le_of_ble_eq_true rfl), (Nat.le_of_ble_eq_true rfl)⟩ (va_recv hK hP (ci := 4) (q0 := 0) rfl mw_O) hK hP hD hS (fun _ h9 => h9) (nA_mono hS.1) rfl hl.1 rfl (Nat.le_of_ble_eq_true rfl) dM_table_47 ⟨(Nat.le_of_ble_eq_true rfl), (Nat.le_of_ble_eq_true rfl)⟩ (fun r_40 u_41 H locs w_42 hz hP hD hS => ?_)
            obtain ⟨rfl, rfl⟩ := th_100 w_42
            refine lv_if_eq (tgt := 54) hx hb dM_table_50 (by decide) (fun c_43 => absurd c_43 (by decide)) (fun c_43 => ?_)
            exact W.vret hx hb hr (fun t ht hW => ⟨⟨(u2 g 0 0 1), rfl, Or.inl ⟨(Or.inr (ib_yb (n := 16) (by decide) (by decide) f_7)), rfl⟩, gpost_at hP hK hD ht hW.alike⟩, hS.F ht⟩) hS.2.2 dM_table_53
          · refine lv_iconst (v := 1) hx hb dM_table_41 (by decide) ?_
            refine lv_goto (tgt := 46) hx hb dM_table_42 (by decide) ?_
            refine lv_iconst (v := 0) hx hb dM_table_46 (by decide) ?_
            refine kVi (n := 3) (D := D) (wd := fun z => mw CA z ad) (A1 := fun sz => mA ad sz) (As := [.int 1, .int 1, .int 0]) (rest := []) ⟨hx, hb, hml, hown, hT⟩ (kM_throwing l D CA g ad H.size 1 1 0) (gi_V wm_577 wm_579 wp_8 wm_4 wm_580) rfl rfl (by decide +kernel) ⟨(Nat.le_of_ble_eq_true rfl), (Nat.le_of_ble_eq_true rfl)⟩ (va_recv hK hP (ci := 4) (q0 := 0) rfl mw_O) hK hP hD hS (fun _ h9 => h9) (nA_mono hS.1) rfl hl.1 rfl (Nat.le_of_ble_eq_true rfl) dM_table_47 ⟨(Nat.le_of_ble_eq_true rfl), (Nat.le_of_ble_eq_true rfl)⟩ (fun r_44 u_45 H locs w_46 hz hP hD hS => ?_)
            obtain ⟨rfl, rfl⟩ := th_110 w_46
            refine lv_if_eq (tgt := 54) hx hb dM_table_50 (by decide) (fun c_47 => absurd c_47 (by decide)) (fun c_47 => ?_)
            exact W.vret hx hb hr (fun t ht hW => ⟨⟨(u2 g 0 0 1), rfl, Or.inl ⟨(Or.inr (ib_yb (n := 16) (by decide) (by decide) f_7)), rfl⟩, gpost_at hP hK hD ht hW.alike⟩, hS.F ht⟩) hS.2.2 dM_table_53
  · refine lv_if_eq (tgt := 18) hx hb dM_table_5 (by decide) (fun c_48 => ?_) (fun c_48 => absurd (by decide) c_48)
    refine lv_iconst (v := 1) hx hb dM_table_18 (by decide) ?_
    refine lv_goto (tgt := 23) hx hb dM_table_19 (by decide) ?_
    refine lv_iload_n hx hb dM_table_23 rfl (lv_at hl 3 rfl) ?_
    refine lv_if_lt (tgt := 41) hx hb dM_table_24 (by decide) (fun c_49 => ?_) (fun c_49 => ?_)
    · refine lv_iconst (v := 1) hx hb dM_table_41 (by decide) ?_
      refine lv_goto (tgt := 46) hx hb dM_table_42 (by decide) ?_
      refine lv_iconst (v := 0) hx hb dM_table_46 (by decide) ?_
      refine kVi (n := 3) (D := D) (wd := fun z => mw CA z ad) (A1 := fun sz => mA ad sz) (As := [.int 1, .int 1, .int 0]) (rest := []) ⟨hx, hb, hml, hown, hT⟩ (kM_throwing l D CA g ad H.size 1 1 0) (gi_V wm_577 wm_579 wp_8 wm_4 wm_580) rfl rfl (by decide +kernel) ⟨(Nat.le_of_ble_eq_true rfl), (Nat.le_of_ble_eq_true rfl)⟩ (va_recv hK hP (ci := 4) (q0 := 0) rfl mw_O) hK hP hD hS (fun _ h9 => h9) (nA_mono hS.1) rfl hl.1 rfl (Nat.le_of_ble_eq_true rfl) dM_table_47 ⟨(Nat.le_of_ble_eq_true rfl), (Nat.le_of_ble_eq_true rfl)⟩ (fun r_50 u_51 H locs w_52 hz hP hD hS => ?_)
      obtain ⟨rfl, rfl⟩ := th_110 w_52
      refine lv_if_eq (tgt := 54) hx hb dM_table_50 (by decide) (fun c_53 => absurd c_53 (by decide)) (fun c_53 => ?_)
      exact W.vret hx hb hr (fun t ht hW => ⟨⟨(u2 g 0 0 1), rfl, Or.inl ⟨(Or.inl f_3), rfl⟩, gpost_at hP hK hD ht hW.alike⟩, hS.F ht⟩) hS.2.2 dM_table_53
    · refine lv_iload_n hx hb dM_table_27 rfl (lv_at hl 3 rfl) ?_
      refine lv_iload hx hb dM_table_28 (lv_at hl 4 rfl) ?_
      refine lv_icmp_gt (tgt := 41) hx hb dM_table_30 (by decide) (fun c_54 => ?_) (fun c_54 => ?_)
      · refine lv_iconst (v := 1) hx hb dM_table_41 (by decide) ?_
        refine lv_goto (tgt := 46) hx hb dM_table_42 (by decide) ?_
        refine lv_iconst (v := 0) hx hb dM_table_46 (by decide) ?_
        refine kVi (n := 3) (D := D) (wd := fun z => mw CA z ad) (A1 := fun sz => mA ad sz) (As := [.int 1, .int 1, .int 0]) (rest := []) ⟨hx, hb, hml, hown, hT⟩ (kM_throwing l D CA g ad H.size 1 1 0) (gi_V wm_577 wm_579 wp_8 wm_4 wm_580) rfl rfl (by decide +kernel) ⟨(Nat.le_of_ble_eq_true rfl), (Nat.le_of_ble_eq_true rfl)⟩ (va_recv hK hP (ci := 4) (q0 := 0) rfl mw_O) hK hP hD hS (fun _ h9 => h9) (nA_mono hS.1) rfl hl.1 rfl (Nat.le_of_ble_eq_true rfl) dM_table_47 ⟨(Nat.le_of_ble_eq_true rfl), (Nat.le_of_ble_eq_true rfl)⟩ (fun r_55 u_56 H locs w_57 hz hP hD hS => ?_)
        obtain ⟨rfl, rfl⟩ := th_110 w_57
        refine lv_if_eq (tgt := 54) hx hb dM_table_50 (by decide) (fun c_58 => absurd c_58 (by decide)) (fun c_58 => ?_)
        exact W.vret hx hb hr (fun t ht hW => ⟨⟨(u2 g 0 0 1), rfl, Or.inl ⟨(Or.inl f_3), rfl⟩, gpost_at hP hK hD ht hW.alike⟩, hS.F ht⟩) hS.2.2 dM_table_53
      · refine lv_iload hx hb dM_table_33 (lv_at hl 4 rfl) ?_
        refine lv_sipush (v := 999) hx hb dM_table_35 (by decide) ?_
        refine lv_icmp_le (tgt := 45) hx hb dM_table_38 (by decide) (fun c_59 => ?_) (fun c_59 => ?_)
        · refine lv_iconst (v := 0) hx hb dM_table_45 (by decide) ?_
          refine lv_iconst (v := 0) hx hb dM_table_46 (by decide) ?_
          refine kVi (n := 3) (D := D) (wd := fun z => mw CA z ad) (A1 := fun sz => mA ad sz) (As := [.int 1, .int 0, .int 0]) (rest := []) ⟨hx, hb, hml, hown, hT⟩ (kM_throwing l D CA g ad H.size 1 0 0) (gi_V wm_577 wm_579 wp_8 wm_4 wm_580) rfl rfl (by decide +kernel) ⟨(Nat.le_of_ble_eq_true rfl), (Nat.le_of_ble_eq_true rfl)⟩ (va_recv hK hP (ci := 4) (q0 := 0) rfl mw_O) hK hP hD hS (fun _ h9 => h9) (nA_mono hS.1) rfl hl.1 rfl (Nat.le_of_ble_eq_true rfl) dM_table_47 ⟨(Nat.le_of_ble_eq_true rfl), (Nat.le_of_ble_eq_true rfl)⟩ (fun r_60 u_61 H locs w_62 hz hP hD hS => ?_)
          obtain ⟨rfl, rfl⟩ := th_100 w_62
          refine lv_if_eq (tgt := 54) hx hb dM_table_50 (by decide) (fun c_63 => absurd c_63 (by decide)) (fun c_63 => ?_)
          exact W.vret hx hb hr (fun t ht hW => ⟨⟨(u2 g 0 0 1), rfl, Or.inl ⟨(Or.inl f_3), rfl⟩, gpost_at hP hK hD ht hW.alike⟩, hS.F ht⟩) hS.2.2 dM_table_53
        · refine lv_iconst (v := 1) hx hb dM_table_41 (by decide) ?_
          refine lv_goto (tgt := 46) hx hb dM_table_42 (by decide) ?_
          refine lv_iconst (v := 0) hx hb dM_table_46 (by decide) ?_
          refine kVi (n := 3) (D := D) (wd := fun z => mw CA z ad) (A1 := fun sz => mA ad sz) (As := [.int 1, .int 1, .int 0]) (rest := []) ⟨hx, hb, hml, hown, hT⟩ (kM_throwing l D CA g ad H.size 1 1 0) (gi_V wm_577 wm_579 wp_8 wm_4 wm_580) rfl rfl (by decide +kernel) ⟨(Nat.le_of_ble_eq_true rfl), (Nat.le_of_ble_eq_true rfl)⟩ (va_recv hK hP (ci := 4) (q0 := 0) rfl mw_O) hK hP hD hS (fun _ h9 => h9) (nA_mono hS.1) rfl hl.1 rfl (Nat.le_of_ble_eq_true rfl) dM_table_47 ⟨(Nat.le_of_ble_eq_true rfl), (Nat.le_of_ble_eq_true rfl)⟩ (fun r_64 u_65 H locs w_66 hz hP hD hS => ?_)
          obtain ⟨rfl, rfl⟩ := th_110 w_66
          refine lv_if_eq (tgt := 54) hx hb dM_table_50 (by decide) (fun c_67 => absurd c_67 (by decide)) (fun c_67 => ?_)
          exact W.vret hx hb hr (fun t ht hW => ⟨⟨(u2 g 0 0 1), rfl, Or.inl ⟨(Or.inl f_3), rfl⟩, gpost_at hP hK hD ht hW.alike⟩, hS.F ht⟩) hS.2.2 dM_table_53
set_option maxHeartbeats 4000000 in
set_option maxRecDepth 100000 in
theorem kM_worn (l : Launch) (D : va_G) (CA : Nat → ClassId) (g : Nat → Nat → Int32) (ad : Nat → Nat) (sz : Nat) (h : Nat → Nat → Nat) (jp : Nat → Nat) (hm : MI g h jp) (pn wr : Int32) : Met l yM_worn wM_worn (rm 2 0 0) (va_Pc [.ref (ad 0), .int pn, .int wr] (gpre D (cty CA) (mw CA g ad) sz)) (va_Qv (fun (u : Nat → Nat → Int32) => t4 (ib pn (nI (h 0 0)) ∨ ib wr 16) False False g u (∃ q j, q < h 0 0 ∧ j < 16 ∧ pn = nI q ∧ wr = nI j ∧ u = u2 (u2 (u2 g 0 0 0) 5 q (g 12 (16 * h 2 q + j))) 6 q (g 13 (16 * h 2 q + j)))) (fun u t => gpost D (cty CA) (mw CA u ad) (mA ad sz) t) (mA ad sz)) 0 0 (mA ad sz) := by
  refine Met.ofW (cc := cM_worn) (maxL := 3) (ret := none) (by decide) rfl ?_
  intro p e s m args below meth c s₁ B hml hv
  obtain ⟨rfl, hsz, hP, hK, hD0⟩ := hv
  have hx := B.exec
  have hb := B.bytes
  have hr := B.returns
  have hT : ∀ w ∈ TB, w.before _ s = true := fun w hw => atoms_spec (ws := wM_worn) B.pre w (List.mem_cons_of_mem _ hw)
  have hown : s.vm.findClass "CountLeastModel" = some m.cls := findClass_of_methodNamed B.named
  have hlocks := B.notSynchronized
  subst hsz
  have hD := nA_self (sz := s.heap.size) hD0
  have hS : va_S (mA ad s.heap.size) s.heap s.heap [] := va_S.rf
  have hP : va_P D vwCl (mw CA g ad) s.heap := hP
  have hl := lv_entry ([.ref (ad 0), .int pn, .int wr]) (n := 3) (Nat.le_of_ble_eq_true rfl)
  rw [lg_entry_eq]
  generalize (lg_sl ([.ref (ad 0), .int pn, .int wr]) ++ List.replicate (3 - (lg_sl ([.ref (ad 0), .int pn, .int wr])).length) Slot.unset).toArray = ls at hl ⊢
  have hl : lv_has ls 3 [(0, .ref (ad 0)), (1, .int pn), (2, .int wr)] := hl
  refine lv_aload_n hx hb dM_worn_0 rfl (lv_at hl 0 rfl) ?_
  refine lv_aload_n hx hb dM_worn_1 rfl (lv_at hl 0 rfl) ?_
  refine lv_iload_n hx hb dM_worn_2 rfl (lv_at hl 1 rfl) ?_
  refine kVi (n := 1) (D := D) (wd := fun z => mw CA z ad) (A1 := fun sz => mA ad sz) (As := [.int pn]) (rest := [.ref (ad 0)]) ⟨hx, hb, hml, hown, hT⟩ (kM_isPiece l D CA g ad s.heap.size h jp hm pn) (gi_V wm_597 wm_599 wp_9 wm_4 wm_600) rfl rfl (by decide +kernel) ⟨(Nat.le_of_ble_eq_true rfl), (Nat.le_of_ble_eq_true rfl)⟩ (va_recv hK hP (ci := 4) (q0 := 0) rfl mw_O) hK hP hD hS (fun _ h9 => h9) (nA_mono hS.1) rfl hl.1 rfl (Nat.le_of_ble_eq_true rfl) dM_worn_3 ⟨(Nat.le_of_ble_eq_true rfl), (Nat.le_of_ble_eq_true rfl)⟩ (fun r_1 u_2 H locs w_3 hz hP hD hS => ?_)
  obtain ⟨hu9, w_3⟩ := w_3
  rw [hu9] at hP hD
  rcases w_3 with ⟨rfl, f_4⟩ | ⟨rfl, f_4⟩
  · refine lv_if_eq (tgt := 19) hx hb dM_worn_6 (by decide) (fun c_5 => absurd c_5 (by decide)) (fun c_5 => ?_)
    refine lv_iload_n hx hb dM_worn_9 rfl (lv_at hl 2 rfl) ?_
    refine lv_iconst (v := 0) hx hb dM_worn_10 (by decide) ?_
    refine lv_bipush (v := 15) hx hb dM_worn_11 (by decide) ?_
    refine kSi (n := 3) (D := D) (As := [.int wr, .int 0, .int 15]) (rest := [.ref (ad 0)]) ⟨hx, hb, hml, hown, hT⟩ (kM_in l wr 0 15) (gi_S wm_574 wm_575 wm_4 wm_576) rfl rfl (by decide +kernel) ⟨(Nat.le_of_ble_eq_true rfl), (Nat.le_of_ble_eq_true rfl)⟩ hP hS rfl hl.1 rfl (Nat.le_of_ble_eq_true rfl) dM_worn_13 ⟨(Nat.le_of_ble_eq_true rfl), (Nat.le_of_ble_eq_true rfl)⟩ (fun r_6 H locs e_7 hz hP hS => ?_)
    rcases e_7 with ⟨rfl, f_8⟩ | ⟨rfl, f_8⟩
    · refine lv_if_ne (tgt := 23) hx hb dM_worn_16 (by decide) (fun c_9 => ?_) (fun c_9 => absurd c_9 (by decide))
      refine lv_iconst (v := 0) hx hb dM_worn_23 (by decide) ?_
      refine lv_iconst (v := 0) hx hb dM_worn_24 (by decide) ?_
      refine lv_iconst (v := 0) hx hb dM_worn_25 (by decide) ?_
      refine kVi (n := 3) (D := D) (wd := fun z => mw CA z ad) (A1 := fun sz => mA ad sz) (As := [.int 0, .int 0, .int 0]) (rest := []) ⟨hx, hb, hml, hown, hT⟩ (kM_throwing l D CA g ad H.size 0 0 0) (gi_V wm_577 wm_579 wp_8 wm_4 wm_580) rfl rfl (by decide +kernel) ⟨(Nat.le_of_ble_eq_true rfl), (Nat.le_of_ble_eq_true rfl)⟩ (va_recv hK hP (ci := 4) (q0 := 0) rfl mw_O) hK hP hD hS (fun _ h9 => h9) (nA_mono hS.1) rfl hl.1 rfl (Nat.le_of_ble_eq_true rfl) dM_worn_26 ⟨(Nat.le_of_ble_eq_true rfl), (Nat.le_of_ble_eq_true rfl)⟩ (fun r_10 u_11 H locs w_12 hz hP hD hS => ?_)
      obtain ⟨rfl, rfl⟩ := th_000 w_12
      obtain ⟨q, hq, rfl⟩ := ibn (n := h 0 0) (by have := hm.le; omega) f_4
      obtain ⟨j, hj, rfl⟩ := ibn (n := 16) (by decide) (ib_nb (n := 16) (by decide) (by decide) f_8)
      have hm0 := (hm).t (v := 0)
      have h72 := hm.le
      have hk6 := hm.k6 hq
      refine lv_if_eq (tgt := 33) hx hb dM_worn_29 (by decide) (fun c_13 => ?_) (fun c_13 => absurd (by decide) c_13)
      refine lv_aload_n hx hb dM_worn_33 rfl (lv_at hl 0 rfl) ?_
      refine va_get (D := D) (ci := 4) (C := RM) (T := TM) (N := 21) hx hb hT inM hown hK hP (0) (mw_O) rfl 6 (by decide) (hT _ wm_505) (fun _ h9 => h9) rfl dM_worn_34 ?_
      refine lv_iload_n hx hb dM_worn_37 rfl (lv_at hl 1 rfl) ?_
      refine lv_aload_n hx hb dM_worn_38 rfl (lv_at hl 0 rfl) ?_
      refine va_get (D := D) (ci := 4) (C := RM) (T := TM) (N := 21) hx hb hT inM hown hK hP (0) (mw_O) rfl 13 (by decide) (hT _ wm_512) (fun _ h9 => h9) rfl dM_worn_39 ?_
      refine lv_bipush (v := 16) hx hb dM_worn_42 (by decide) ?_
      refine lv_aload_n hx hb dM_worn_44 rfl (lv_at hl 0 rfl) ?_
      refine va_get (D := D) (ci := 4) (C := RM) (T := TM) (N := 21) hx hb hT inM hown hK hP (0) (mw_O) rfl 2 (by decide) (hT _ wm_501) (fun _ h9 => h9) rfl dM_worn_45 ?_
      refine lv_iload_n hx hb dM_worn_48 rfl (lv_at hl 1 rfl) ?_
      refine va_iald (D := D) hx hb hK hP (1) 0 (mw_a1) rfl (vp_in_nI (by omega) (by decide)) dM_worn_49 ?_
      rw [nI_clamp (n := q) (by omega)]
      refine W.eq (g2 := F0 m 50 ls [.int (nI (h 2 q)), .int 16, .ref (ad 12), .int (nI q), .ref (ad 5)]) (by rw [hm0.kind (q := q) (by omega)]) ?_
      refine lv_imul hx hb dM_worn_50 ?_
      refine W.eq (g2 := F0 m 51 ls [.int (nI (16 * (h 2 q))), .ref (ad 12), .int (nI q), .ref (ad 5)]) (by rw [m16 _]) ?_
      refine lv_iload_n hx hb dM_worn_51 rfl (lv_at hl 2 rfl) ?_
      refine lv_iadd hx hb dM_worn_52 ?_
      refine W.eq (g2 := F0 m 53 ls [.int (nI (16 * (h 2 q) + j)), .ref (ad 12), .int (nI q), .ref (ad 5)]) (by rw [nI_add]) ?_
      refine va_iald (D := D) hx hb hK hP (12) 0 (mw_a12) rfl (vp_in_nI (by omega) (by decide)) dM_worn_53 ?_
      rw [nI_clamp (n := 16 * (h 2 q) + j) (by omega)]
      refine va_iast (D := D) hx hb hK hP hD hS (5) 0 (mw_a5) rfl (vp_in_nI (by omega) (by decide)) dM_worn_54 (fun H locs hP hD hS => ?_)
      rw [nI_clamp (n := q) (by omega), mw_s5] at hP hD
      have hm0 := (hm0).to (u := u2 (u2 g 0 0 0) 5 q (u2 g 0 0 0 12 (16 * h 2 q + j))) (u2_n (by decide)) (u2_row (by decide)) (u2_row (by decide)) (u2_row (by decide)) (u2_row (by decide))
      refine lv_aload_n hx hb dM_worn_55 rfl (lv_at hl 0 rfl) ?_
      refine va_get (D := D) (ci := 4) (C := RM) (T := TM) (N := 21) hx hb hT inM hown hK hP (0) (mw_O) rfl 7 (by decide) (hT _ wm_506) (fun _ h9 => h9) rfl dM_worn_56 ?_
      refine lv_iload_n hx hb dM_worn_59 rfl (lv_at hl 1 rfl) ?_
      refine lv_aload_n hx hb dM_worn_60 rfl (lv_at hl 0 rfl) ?_
      refine va_get (D := D) (ci := 4) (C := RM) (T := TM) (N := 21) hx hb hT inM hown hK hP (0) (mw_O) rfl 14 (by decide) (hT _ wm_513) (fun _ h9 => h9) rfl dM_worn_61 ?_
      refine lv_bipush (v := 16) hx hb dM_worn_64 (by decide) ?_
      refine lv_aload_n hx hb dM_worn_66 rfl (lv_at hl 0 rfl) ?_
      refine va_get (D := D) (ci := 4) (C := RM) (T := TM) (N := 21) hx hb hT inM hown hK hP (0) (mw_O) rfl 2 (by decide) (hT _ wm_501) (fun _ h9 => h9) rfl dM_worn_67 ?_
      refine lv_iload_n hx hb dM_worn_70 rfl (lv_at hl 1 rfl) ?_
      refine va_iald (D := D) hx hb hK hP (1) 0 (mw_a1) rfl (vp_in_nI (by omega) (by decide)) dM_worn_71 ?_
      rw [nI_clamp (n := q) (by omega)]
      refine W.eq (g2 := F0 m 72 ls [.int (nI (h 2 q)), .int 16, .ref (ad 13), .int (nI q), .ref (ad 6)]) (by rw [hm0.kind (q := q) (by omega)]) ?_
      refine lv_imul hx hb dM_worn_72 ?_
      refine W.eq (g2 := F0 m 73 ls [.int (nI (16 * (h 2 q))), .ref (ad 13), .int (nI q), .ref (ad 6)]) (by rw [m16 _]) ?_
      refine lv_iload_n hx hb dM_worn_73 rfl (lv_at hl 2 rfl) ?_
      refine lv_iadd hx hb dM_worn_74 ?_
      refine W.eq (g2 := F0 m 75 ls [.int (nI (16 * (h 2 q) + j)), .ref (ad 13), .int (nI q), .ref (ad 6)]) (by rw [nI_add]) ?_
      refine va_iald (D := D) hx hb hK hP (13) 0 (mw_a13) rfl (vp_in_nI (by omega) (by decide)) dM_worn_75 ?_
      rw [nI_clamp (n := 16 * (h 2 q) + j) (by omega)]
      refine va_iast (D := D) hx hb hK hP hD hS (6) 0 (mw_a6) rfl (vp_in_nI (by omega) (by decide)) dM_worn_76 (fun H locs hP hD hS => ?_)
      rw [nI_clamp (n := q) (by omega), mw_s6] at hP hD
      exact W.vret hx hb hr (fun t ht hW => ⟨⟨(u2 (u2 (u2 g 0 0 0) (5) q ((u2 g 0 0 0) (12) (16 * (h 2 q) + j))) (6) q ((u2 (u2 g 0 0 0) (5) q ((u2 g 0 0 0) (12) (16 * (h 2 q) + j))) (13) (16 * (h 2 q) + j))), rfl, Or.inr (Or.inr (Or.inr ⟨(not_or.mpr ⟨f_4, (ib_nb (n := 16) (by decide) (by decide) f_8)⟩), (fun h9 : False => h9), (fun h9 : False => h9), q, j, hq, hj, rfl, rfl, rfl⟩)), gpost_at hP hK hD ht hW.alike⟩, hS.F ht⟩) hS.2.2 dM_worn_77
    · refine lv_if_ne (tgt := 23) hx hb dM_worn_16 (by decide) (fun c_14 => absurd rfl c_14) (fun c_14 => ?_)
      refine lv_iconst (v := 1) hx hb dM_worn_19 (by decide) ?_
      refine lv_goto (tgt := 24) hx hb dM_worn_20 (by decide) ?_
      refine lv_iconst (v := 0) hx hb dM_worn_24 (by decide) ?_
      refine lv_iconst (v := 0) hx hb dM_worn_25 (by decide) ?_
      refine kVi (n := 3) (D := D) (wd := fun z => mw CA z ad) (A1 := fun sz => mA ad sz) (As := [.int 1, .int 0, .int 0]) (rest := []) ⟨hx, hb, hml, hown, hT⟩ (kM_throwing l D CA g ad H.size 1 0 0) (gi_V wm_577 wm_579 wp_8 wm_4 wm_580) rfl rfl (by decide +kernel) ⟨(Nat.le_of_ble_eq_true rfl), (Nat.le_of_ble_eq_true rfl)⟩ (va_recv hK hP (ci := 4) (q0 := 0) rfl mw_O) hK hP hD hS (fun _ h9 => h9) (nA_mono hS.1) rfl hl.1 rfl (Nat.le_of_ble_eq_true rfl) dM_worn_26 ⟨(Nat.le_of_ble_eq_true rfl), (Nat.le_of_ble_eq_true rfl)⟩ (fun r_15 u_16 H locs w_17 hz hP hD hS => ?_)
      obtain ⟨rfl, rfl⟩ := th_100 w_17
      refine lv_if_eq (tgt := 33) hx hb dM_worn_29 (by decide) (fun c_18 => absurd c_18 (by decide)) (fun c_18 => ?_)
      exact W.vret hx hb hr (fun t ht hW => ⟨⟨(u2 g 0 0 1), rfl, Or.inl ⟨(Or.inr (ib_yb (n := 16) (by decide) (by decide) f_8)), rfl⟩, gpost_at hP hK hD ht hW.alike⟩, hS.F ht⟩) hS.2.2 dM_worn_32
  · refine lv_if_eq (tgt := 19) hx hb dM_worn_6 (by decide) (fun c_19 => ?_) (fun c_19 => absurd (by decide) c_19)
    refine lv_iconst (v := 1) hx hb dM_worn_19 (by decide) ?_
    refine lv_goto (tgt := 24) hx hb dM_worn_20 (by decide) ?_
    refine lv_iconst (v := 0) hx hb dM_worn_24 (by decide) ?_
    refine lv_iconst (v := 0) hx hb dM_worn_25 (by decide) ?_
    refine kVi (n := 3) (D := D) (wd := fun z => mw CA z ad) (A1 := fun sz => mA ad sz) (As := [.int 1, .int 0, .int 0]) (rest := []) ⟨hx, hb, hml, hown, hT⟩ (kM_throwing l D CA g ad H.size 1 0 0) (gi_V wm_577 wm_579 wp_8 wm_4 wm_580) rfl rfl (by decide +kernel) ⟨(Nat.le_of_ble_eq_true rfl), (Nat.le_of_ble_eq_true rfl)⟩ (va_recv hK hP (ci := 4) (q0 := 0) rfl mw_O) hK hP hD hS (fun _ h9 => h9) (nA_mono hS.1) rfl hl.1 rfl (Nat.le_of_ble_eq_true rfl) dM_worn_26 ⟨(Nat.le_of_ble_eq_true rfl), (Nat.le_of_ble_eq_true rfl)⟩ (fun r_20 u_21 H locs w_22 hz hP hD hS => ?_)
    obtain ⟨rfl, rfl⟩ := th_100 w_22
    refine lv_if_eq (tgt := 33) hx hb dM_worn_29 (by decide) (fun c_23 => absurd c_23 (by decide)) (fun c_23 => ?_)
    exact W.vret hx hb hr (fun t ht hW => ⟨⟨(u2 g 0 0 1), rfl, Or.inl ⟨(Or.inl f_4), rfl⟩, gpost_at hP hK hD ht hW.alike⟩, hS.F ht⟩) hS.2.2 dM_worn_32
set_option maxHeartbeats 4000000 in
set_option maxRecDepth 100000 in
theorem kM_aged (l : Launch) (D : va_G) (CA : Nat → ClassId) (g : Nat → Nat → Int32) (ad : Nat → Nat) (sz : Nat) (h : Nat → Nat → Nat) (jp : Nat → Nat) (hm : MI g h jp) (pn en : Int32) : Met l yM_aged wM_aged (rm 2 0 0) (va_Pc [.ref (ad 0), .int pn, .int en] (gpre D (cty CA) (mw CA g ad) sz)) (va_Qi (fun r (u : Nat → Nat → Int32) => t4 (ib pn (nI (h 0 0)) ∨ ib en 2) False False g u (∃ q, q < h 0 0 ∧ pn = nI q ∧ r = (if en = 0 then g 5 q else g 6 q) ∧ u = u2 g 0 0 0)) (fun u t => gpost D (cty CA) (mw CA u ad) (mA ad sz) t) (mA ad sz)) 0 0 (mA ad sz) := by
  refine Met.ofW (cc := cM_aged) (maxL := 3) (ret := (some .int)) (by decide) rfl ?_
  intro p e s m args below meth c s₁ B hml hv
  obtain ⟨rfl, hsz, hP, hK, hD0⟩ := hv
  have hx := B.exec
  have hb := B.bytes
  have hr := B.returns
  have hT : ∀ w ∈ TB, w.before _ s = true := fun w hw => atoms_spec (ws := wM_aged) B.pre w (List.mem_cons_of_mem _ hw)
  have hown : s.vm.findClass "CountLeastModel" = some m.cls := findClass_of_methodNamed B.named
  have hlocks := B.notSynchronized
  subst hsz
  have hD := nA_self (sz := s.heap.size) hD0
  have hS : va_S (mA ad s.heap.size) s.heap s.heap [] := va_S.rf
  have hP : va_P D vwCl (mw CA g ad) s.heap := hP
  have hl := lv_entry ([.ref (ad 0), .int pn, .int en]) (n := 3) (Nat.le_of_ble_eq_true rfl)
  rw [lg_entry_eq]
  generalize (lg_sl ([.ref (ad 0), .int pn, .int en]) ++ List.replicate (3 - (lg_sl ([.ref (ad 0), .int pn, .int en])).length) Slot.unset).toArray = ls at hl ⊢
  have hl : lv_has ls 3 [(0, .ref (ad 0)), (1, .int pn), (2, .int en)] := hl
  refine lv_aload_n hx hb dM_aged_0 rfl (lv_at hl 0 rfl) ?_
  refine lv_aload_n hx hb dM_aged_1 rfl (lv_at hl 0 rfl) ?_
  refine lv_iload_n hx hb dM_aged_2 rfl (lv_at hl 1 rfl) ?_
  refine kVi (n := 1) (D := D) (wd := fun z => mw CA z ad) (A1 := fun sz => mA ad sz) (As := [.int pn]) (rest := [.ref (ad 0)]) ⟨hx, hb, hml, hown, hT⟩ (kM_isPiece l D CA g ad s.heap.size h jp hm pn) (gi_V wm_597 wm_599 wp_9 wm_4 wm_600) rfl rfl (by decide +kernel) ⟨(Nat.le_of_ble_eq_true rfl), (Nat.le_of_ble_eq_true rfl)⟩ (va_recv hK hP (ci := 4) (q0 := 0) rfl mw_O) hK hP hD hS (fun _ h9 => h9) (nA_mono hS.1) rfl hl.1 rfl (Nat.le_of_ble_eq_true rfl) dM_aged_3 ⟨(Nat.le_of_ble_eq_true rfl), (Nat.le_of_ble_eq_true rfl)⟩ (fun r_1 u_2 H locs w_3 hz hP hD hS => ?_)
  obtain ⟨hu9, w_3⟩ := w_3
  rw [hu9] at hP hD
  rcases w_3 with ⟨rfl, f_4⟩ | ⟨rfl, f_4⟩
  · refine lv_if_eq (tgt := 18) hx hb dM_aged_6 (by decide) (fun c_5 => absurd c_5 (by decide)) (fun c_5 => ?_)
    refine lv_iload_n hx hb dM_aged_9 rfl (lv_at hl 2 rfl) ?_
    refine lv_iconst (v := 0) hx hb dM_aged_10 (by decide) ?_
    refine lv_iconst (v := 1) hx hb dM_aged_11 (by decide) ?_
    refine kSi (n := 3) (D := D) (As := [.int en, .int 0, .int 1]) (rest := [.ref (ad 0)]) ⟨hx, hb, hml, hown, hT⟩ (kM_in l en 0 1) (gi_S wm_574 wm_575 wm_4 wm_576) rfl rfl (by decide +kernel) ⟨(Nat.le_of_ble_eq_true rfl), (Nat.le_of_ble_eq_true rfl)⟩ hP hS rfl hl.1 rfl (Nat.le_of_ble_eq_true rfl) dM_aged_12 ⟨(Nat.le_of_ble_eq_true rfl), (Nat.le_of_ble_eq_true rfl)⟩ (fun r_6 H locs e_7 hz hP hS => ?_)
    rcases e_7 with ⟨rfl, f_8⟩ | ⟨rfl, f_8⟩
    · refine lv_if_ne (tgt := 22) hx hb dM_aged_15 (by decide) (fun c_9 => ?_) (fun c_9 => absurd c_9 (by decide))
      refine lv_iconst (v := 0) hx hb dM_aged_22 (by decide) ?_
      refine lv_iconst (v := 0) hx hb dM_aged_23 (by decide) ?_
      refine lv_iconst (v := 0) hx hb dM_aged_24 (by decide) ?_
      refine kVi (n := 3) (D := D) (wd := fun z => mw CA z ad) (A1 := fun sz => mA ad sz) (As := [.int 0, .int 0, .int 0]) (rest := []) ⟨hx, hb, hml, hown, hT⟩ (kM_throwing l D CA g ad H.size 0 0 0) (gi_V wm_577 wm_579 wp_8 wm_4 wm_580) rfl rfl (by decide +kernel) ⟨(Nat.le_of_ble_eq_true rfl), (Nat.le_of_ble_eq_true rfl)⟩ (va_recv hK hP (ci := 4) (q0 := 0) rfl mw_O) hK hP hD hS (fun _ h9 => h9) (nA_mono hS.1) rfl hl.1 rfl (Nat.le_of_ble_eq_true rfl) dM_aged_25 ⟨(Nat.le_of_ble_eq_true rfl), (Nat.le_of_ble_eq_true rfl)⟩ (fun r_10 u_11 H locs w_12 hz hP hD hS => ?_)
      obtain ⟨rfl, rfl⟩ := th_000 w_12
      obtain ⟨q, hq, rfl⟩ := ibn (n := h 0 0) (by have := hm.le; omega) f_4
      have hm0 := (hm).t (v := 0)
      have h72 := hm.le
      refine lv_if_eq (tgt := 33) hx hb dM_aged_28 (by decide) (fun c_13 => ?_) (fun c_13 => absurd (by decide) c_13)
      refine lv_iload_n hx hb dM_aged_33 rfl (lv_at hl 2 rfl) ?_
      refine lv_if_ne (tgt := 46) hx hb dM_aged_34 (by decide) (fun c_14 => ?_) (fun c_14 => ?_)
      · refine lv_aload_n hx hb dM_aged_46 rfl (lv_at hl 0 rfl) ?_
        refine va_get (D := D) (ci := 4) (C := RM) (T := TM) (N := 21) hx hb hT inM hown hK hP (0) (mw_O) rfl 7 (by decide) (hT _ wm_506) (fun _ h9 => h9) rfl dM_aged_47 ?_
        refine lv_iload_n hx hb dM_aged_50 rfl (lv_at hl 1 rfl) ?_
        refine va_iald (D := D) hx hb hK hP (6) 0 (mw_a6) rfl (vp_in_nI (by omega) (by decide)) dM_aged_51 ?_
        rw [nI_clamp (n := q) (by omega)]
        exact W.iret (v := (u2 g 0 0 0) (6) q) hx hb hr (fun t ht hW => ⟨⟨_, (u2 g 0 0 0), rfl, Or.inr (Or.inr (Or.inr ⟨(not_or.mpr ⟨f_4, (ib_nb (n := 2) (by decide) (by decide) f_8)⟩), (fun h9 : False => h9), (fun h9 : False => h9), q, hq, rfl, by simp [c_14]; rfl, rfl⟩)), gpost_at hP hK hD ht hW.alike⟩, hS.F ht⟩) hS.2.2 dM_aged_52
      · refine lv_aload_n hx hb dM_aged_37 rfl (lv_at hl 0 rfl) ?_
        refine va_get (D := D) (ci := 4) (C := RM) (T := TM) (N := 21) hx hb hT inM hown hK hP (0) (mw_O) rfl 6 (by decide) (hT _ wm_505) (fun _ h9 => h9) rfl dM_aged_38 ?_
        refine lv_iload_n hx hb dM_aged_41 rfl (lv_at hl 1 rfl) ?_
        refine va_iald (D := D) hx hb hK hP (5) 0 (mw_a5) rfl (vp_in_nI (by omega) (by decide)) dM_aged_42 ?_
        rw [nI_clamp (n := q) (by omega)]
        refine lv_goto (tgt := 52) hx hb dM_aged_43 (by decide) ?_
        exact W.iret (v := (u2 g 0 0 0) (5) q) hx hb hr (fun t ht hW => ⟨⟨_, (u2 g 0 0 0), rfl, Or.inr (Or.inr (Or.inr ⟨(not_or.mpr ⟨f_4, (ib_nb (n := 2) (by decide) (by decide) f_8)⟩), (fun h9 : False => h9), (fun h9 : False => h9), q, hq, rfl, by simp [c_14]; rfl, rfl⟩)), gpost_at hP hK hD ht hW.alike⟩, hS.F ht⟩) hS.2.2 dM_aged_52
    · refine lv_if_ne (tgt := 22) hx hb dM_aged_15 (by decide) (fun c_15 => absurd rfl c_15) (fun c_15 => ?_)
      refine lv_iconst (v := 1) hx hb dM_aged_18 (by decide) ?_
      refine lv_goto (tgt := 23) hx hb dM_aged_19 (by decide) ?_
      refine lv_iconst (v := 0) hx hb dM_aged_23 (by decide) ?_
      refine lv_iconst (v := 0) hx hb dM_aged_24 (by decide) ?_
      refine kVi (n := 3) (D := D) (wd := fun z => mw CA z ad) (A1 := fun sz => mA ad sz) (As := [.int 1, .int 0, .int 0]) (rest := []) ⟨hx, hb, hml, hown, hT⟩ (kM_throwing l D CA g ad H.size 1 0 0) (gi_V wm_577 wm_579 wp_8 wm_4 wm_580) rfl rfl (by decide +kernel) ⟨(Nat.le_of_ble_eq_true rfl), (Nat.le_of_ble_eq_true rfl)⟩ (va_recv hK hP (ci := 4) (q0 := 0) rfl mw_O) hK hP hD hS (fun _ h9 => h9) (nA_mono hS.1) rfl hl.1 rfl (Nat.le_of_ble_eq_true rfl) dM_aged_25 ⟨(Nat.le_of_ble_eq_true rfl), (Nat.le_of_ble_eq_true rfl)⟩ (fun r_16 u_17 H locs w_18 hz hP hD hS => ?_)
      obtain ⟨rfl, rfl⟩ := th_100 w_18
      refine lv_if_eq (tgt := 33) hx hb dM_aged_28 (by decide) (fun c_19 => absurd c_19 (by decide)) (fun c_19 => ?_)
      refine lv_iconst (v := 0) hx hb dM_aged_31 (by decide) ?_
      exact W.iret (v := 0) hx hb hr (fun t ht hW => ⟨⟨_, (u2 g 0 0 1), rfl, Or.inl ⟨(Or.inr (ib_yb (n := 2) (by decide) (by decide) f_8)), rfl⟩, gpost_at hP hK hD ht hW.alike⟩, hS.F ht⟩) hS.2.2 dM_aged_32
  · refine lv_if_eq (tgt := 18) hx hb dM_aged_6 (by decide) (fun c_20 => ?_) (fun c_20 => absurd (by decide) c_20)
    refine lv_iconst (v := 1) hx hb dM_aged_18 (by decide) ?_
    refine lv_goto (tgt := 23) hx hb dM_aged_19 (by decide) ?_
    refine lv_iconst (v := 0) hx hb dM_aged_23 (by decide) ?_
    refine lv_iconst (v := 0) hx hb dM_aged_24 (by decide) ?_
    refine kVi (n := 3) (D := D) (wd := fun z => mw CA z ad) (A1 := fun sz => mA ad sz) (As := [.int 1, .int 0, .int 0]) (rest := []) ⟨hx, hb, hml, hown, hT⟩ (kM_throwing l D CA g ad H.size 1 0 0) (gi_V wm_577 wm_579 wp_8 wm_4 wm_580) rfl rfl (by decide +kernel) ⟨(Nat.le_of_ble_eq_true rfl), (Nat.le_of_ble_eq_true rfl)⟩ (va_recv hK hP (ci := 4) (q0 := 0) rfl mw_O) hK hP hD hS (fun _ h9 => h9) (nA_mono hS.1) rfl hl.1 rfl (Nat.le_of_ble_eq_true rfl) dM_aged_25 ⟨(Nat.le_of_ble_eq_true rfl), (Nat.le_of_ble_eq_true rfl)⟩ (fun r_21 u_22 H locs w_23 hz hP hD hS => ?_)
    obtain ⟨rfl, rfl⟩ := th_100 w_23
    refine lv_if_eq (tgt := 33) hx hb dM_aged_28 (by decide) (fun c_24 => absurd c_24 (by decide)) (fun c_24 => ?_)
    refine lv_iconst (v := 0) hx hb dM_aged_31 (by decide) ?_
    exact W.iret (v := 0) hx hb hr (fun t ht hW => ⟨⟨_, (u2 g 0 0 1), rfl, Or.inl ⟨(Or.inl f_4), rfl⟩, gpost_at hP hK hD ht hW.alike⟩, hS.F ht⟩) hS.2.2 dM_aged_32
set_option maxHeartbeats 4000000 in
set_option maxRecDepth 100000 in
theorem kM_unsure (l : Launch) (D : va_G) (CA : Nat → ClassId) (g : Nat → Nat → Int32) (ad : Nat → Nat) (sz : Nat) (h : Nat → Nat → Nat) (jp : Nat → Nat) (hm : MI g h jp) (pn : Int32) : Met l yM_unsure wM_unsure (rm 2 0 0) (va_Pc [.ref (ad 0), .int pn] (gpre D (cty CA) (mw CA g ad) sz)) (va_Qi (fun r (u : Nat → Nat → Int32) => t4 (ib pn (nI (h 0 0))) False False g u (∃ q, q < h 0 0 ∧ pn = nI q ∧ r = (if g 3 q = 3 then 0 else 1) ∧ u = u2 (u2 g 0 0 0) 3 q 3)) (fun u t => gpost D (cty CA) (mw CA u ad) (mA ad sz) t) (mA ad sz)) 0 0 (mA ad sz) := by
  refine Met.ofW (cc := cM_unsure) (maxL := 3) (ret := (some .boolean)) (by decide) rfl ?_
  intro p e s m args below meth c s₁ B hml hv
  obtain ⟨rfl, hsz, hP, hK, hD0⟩ := hv
  have hx := B.exec
  have hb := B.bytes
  have hr := B.returns
  have hT : ∀ w ∈ TB, w.before _ s = true := fun w hw => atoms_spec (ws := wM_unsure) B.pre w (List.mem_cons_of_mem _ hw)
  have hown : s.vm.findClass "CountLeastModel" = some m.cls := findClass_of_methodNamed B.named
  have hlocks := B.notSynchronized
  subst hsz
  have hD := nA_self (sz := s.heap.size) hD0
  have hS : va_S (mA ad s.heap.size) s.heap s.heap [] := va_S.rf
  have hP : va_P D vwCl (mw CA g ad) s.heap := hP
  have hl := lv_entry ([.ref (ad 0), .int pn]) (n := 3) (Nat.le_of_ble_eq_true rfl)
  rw [lg_entry_eq]
  generalize (lg_sl ([.ref (ad 0), .int pn]) ++ List.replicate (3 - (lg_sl ([.ref (ad 0), .int pn])).length) Slot.unset).toArray = ls at hl ⊢
  have hl : lv_has ls 3 [(0, .ref (ad 0)), (1, .int pn)] := hl
  refine lv_aload_n hx hb dM_unsure_0 rfl (lv_at hl 0 rfl) ?_
  refine lv_aload_n hx hb dM_unsure_1 rfl (lv_at hl 0 rfl) ?_
  refine lv_iload_n hx hb dM_unsure_2 rfl (lv_at hl 1 rfl) ?_
  refine kVi (n := 1) (D := D) (wd := fun z => mw CA z ad) (A1 := fun sz => mA ad sz) (As := [.int pn]) (rest := [.ref (ad 0)]) ⟨hx, hb, hml, hown, hT⟩ (kM_isPiece l D CA g ad s.heap.size h jp hm pn) (gi_V wm_597 wm_599 wp_9 wm_4 wm_600) rfl rfl (by decide +kernel) ⟨(Nat.le_of_ble_eq_true rfl), (Nat.le_of_ble_eq_true rfl)⟩ (va_recv hK hP (ci := 4) (q0 := 0) rfl mw_O) hK hP hD hS (fun _ h9 => h9) (nA_mono hS.1) rfl hl.1 rfl (Nat.le_of_ble_eq_true rfl) dM_unsure_3 ⟨(Nat.le_of_ble_eq_true rfl), (Nat.le_of_ble_eq_true rfl)⟩ (fun r_1 u_2 H locs w_3 hz hP hD hS => ?_)
  obtain ⟨hu9, w_3⟩ := w_3
  rw [hu9] at hP hD
  rcases w_3 with ⟨rfl, f_4⟩ | ⟨rfl, f_4⟩
  · refine lv_if_ne (tgt := 13) hx hb dM_unsure_6 (by decide) (fun c_5 => ?_) (fun c_5 => absurd c_5 (by decide))
    refine lv_iconst (v := 0) hx hb dM_unsure_13 (by decide) ?_
    refine lv_iconst (v := 0) hx hb dM_unsure_14 (by decide) ?_
    refine lv_iconst (v := 0) hx hb dM_unsure_15 (by decide) ?_
    refine kVi (n := 3) (D := D) (wd := fun z => mw CA z ad) (A1 := fun sz => mA ad sz) (As := [.int 0, .int 0, .int 0]) (rest := []) ⟨hx, hb, hml, hown, hT⟩ (kM_throwing l D CA g ad H.size 0 0 0) (gi_V wm_577 wm_579 wp_8 wm_4 wm_580) rfl rfl (by decide +kernel) ⟨(Nat.le_of_ble_eq_true rfl), (Nat.le_of_ble_eq_true rfl)⟩ (va_recv hK hP (ci := 4) (q0 := 0) rfl mw_O) hK hP hD hS (fun _ h9 => h9) (nA_mono hS.1) rfl hl.1 rfl (Nat.le_of_ble_eq_true rfl) dM_unsure_16 ⟨(Nat.le_of_ble_eq_true rfl), (Nat.le_of_ble_eq_true rfl)⟩ (fun r_6 u_7 H locs w_8 hz hP hD hS => ?_)
    obtain ⟨rfl, rfl⟩ := th_000 w_8
    obtain ⟨q, hq, rfl⟩ := ibn (n := h 0 0) (by have := hm.le; omega) f_4
    have hm0 := (hm).t (v := 0)
    have h72 := hm.le
    refine lv_if_eq (tgt := 24) hx hb dM_unsure_19 (by decide) (fun c_9 => ?_) (fun c_9 => absurd (by decide) c_9)
    refine lv_aload_n hx hb dM_unsure_24 rfl (lv_at hl 0 rfl) ?_
    refine va_get (D := D) (ci := 4) (C := RM) (T := TM) (N := 21) hx hb hT inM hown hK hP (0) (mw_O) rfl 4 (by decide) (hT _ wm_503) (fun _ h9 => h9) rfl dM_unsure_25 ?_
    refine lv_iload_n hx hb dM_unsure_28 rfl (lv_at hl 1 rfl) ?_
    refine va_iald (D := D) hx hb hK hP (3) 0 (mw_a3) rfl (vp_in_nI (by omega) (by decide)) dM_unsure_29 ?_
    rw [nI_clamp (n := q) (by omega)]
    refine lv_iconst (v := 3) hx hb dM_unsure_30 (by decide) ?_
    refine lv_icmp_ne (tgt := 38) hx hb dM_unsure_31 (by decide) (fun c_10 => ?_) (fun c_10 => ?_)
    · refine lv_iconst (v := 0) hx hb dM_unsure_38 (by decide) ?_
      refine lv_istore_n (lv' := [(2, .int 0), (0, .ref (ad 0)), (1, .int (nI q))]) hx hb dM_unsure_39 rfl hl (by decide) rfl (fun ls hl => ?_)
      refine lv_aload_n hx hb dM_unsure_40 rfl (lv_at hl 1 rfl) ?_
      refine va_get (D := D) (ci := 4) (C := RM) (T := TM) (N := 21) hx hb hT inM hown hK hP (0) (mw_O) rfl 4 (by decide) (hT _ wm_503) (fun _ h9 => h9) rfl dM_unsure_41 ?_
      refine lv_iload_n hx hb dM_unsure_44 rfl (lv_at hl 2 rfl) ?_
      refine lv_iconst (v := 3) hx hb dM_unsure_45 (by decide) ?_
      refine va_iast (D := D) hx hb hK hP hD hS (3) 0 (mw_a3) rfl (vp_in_nI (by omega) (by decide)) dM_unsure_46 (fun H locs hP hD hS => ?_)
      rw [nI_clamp (n := q) (by omega), mw_s3] at hP hD
      refine lv_iload_n hx hb dM_unsure_47 rfl (lv_at hl 0 rfl) ?_
      refine lv_if_ne (tgt := 55) hx hb dM_unsure_48 (by decide) (fun c_11 => absurd rfl c_11) (fun c_11 => ?_)
      refine lv_iconst (v := 1) hx hb dM_unsure_51 (by decide) ?_
      refine lv_goto (tgt := 56) hx hb dM_unsure_52 (by decide) ?_
      exact W.zret (v := 1) hx hb hr rfl (fun t ht hW => ⟨⟨_, (u2 (u2 g 0 0 0) (3) q 3), rfl, Or.inr (Or.inr (Or.inr ⟨f_4, (fun h9 : False => h9), (fun h9 : False => h9), q, hq, rfl, by simp [show ¬ g 3 q = 3 from c_10], rfl⟩)), gpost_at hP hK hD ht hW.alike⟩, hS.F ht⟩) hS.2.2 dM_unsure_56
    · refine lv_iconst (v := 1) hx hb dM_unsure_34 (by decide) ?_
      refine lv_goto (tgt := 39) hx hb dM_unsure_35 (by decide) ?_
      refine lv_istore_n (lv' := [(2, .int 1), (0, .ref (ad 0)), (1, .int (nI q))]) hx hb dM_unsure_39 rfl hl (by decide) rfl (fun ls hl => ?_)
      refine lv_aload_n hx hb dM_unsure_40 rfl (lv_at hl 1 rfl) ?_
      refine va_get (D := D) (ci := 4) (C := RM) (T := TM) (N := 21) hx hb hT inM hown hK hP (0) (mw_O) rfl 4 (by decide) (hT _ wm_503) (fun _ h9 => h9) rfl dM_unsure_41 ?_
      refine lv_iload_n hx hb dM_unsure_44 rfl (lv_at hl 2 rfl) ?_
      refine lv_iconst (v := 3) hx hb dM_unsure_45 (by decide) ?_
      refine va_iast (D := D) hx hb hK hP hD hS (3) 0 (mw_a3) rfl (vp_in_nI (by omega) (by decide)) dM_unsure_46 (fun H locs hP hD hS => ?_)
      rw [nI_clamp (n := q) (by omega), mw_s3] at hP hD
      refine lv_iload_n hx hb dM_unsure_47 rfl (lv_at hl 0 rfl) ?_
      refine lv_if_ne (tgt := 55) hx hb dM_unsure_48 (by decide) (fun c_12 => ?_) (fun c_12 => absurd c_12 (by decide))
      refine lv_iconst (v := 0) hx hb dM_unsure_55 (by decide) ?_
      exact W.zret (v := 0) hx hb hr rfl (fun t ht hW => ⟨⟨_, (u2 (u2 g 0 0 0) (3) q 3), rfl, Or.inr (Or.inr (Or.inr ⟨f_4, (fun h9 : False => h9), (fun h9 : False => h9), q, hq, rfl, by simp [show g 3 q = 3 from c_10], rfl⟩)), gpost_at hP hK hD ht hW.alike⟩, hS.F ht⟩) hS.2.2 dM_unsure_56
  · refine lv_if_ne (tgt := 13) hx hb dM_unsure_6 (by decide) (fun c_13 => absurd rfl c_13) (fun c_13 => ?_)
    refine lv_iconst (v := 1) hx hb dM_unsure_9 (by decide) ?_
    refine lv_goto (tgt := 14) hx hb dM_unsure_10 (by decide) ?_
    refine lv_iconst (v := 0) hx hb dM_unsure_14 (by decide) ?_
    refine lv_iconst (v := 0) hx hb dM_unsure_15 (by decide) ?_
    refine kVi (n := 3) (D := D) (wd := fun z => mw CA z ad) (A1 := fun sz => mA ad sz) (As := [.int 1, .int 0, .int 0]) (rest := []) ⟨hx, hb, hml, hown, hT⟩ (kM_throwing l D CA g ad H.size 1 0 0) (gi_V wm_577 wm_579 wp_8 wm_4 wm_580) rfl rfl (by decide +kernel) ⟨(Nat.le_of_ble_eq_true rfl), (Nat.le_of_ble_eq_true rfl)⟩ (va_recv hK hP (ci := 4) (q0 := 0) rfl mw_O) hK hP hD hS (fun _ h9 => h9) (nA_mono hS.1) rfl hl.1 rfl (Nat.le_of_ble_eq_true rfl) dM_unsure_16 ⟨(Nat.le_of_ble_eq_true rfl), (Nat.le_of_ble_eq_true rfl)⟩ (fun r_14 u_15 H locs w_16 hz hP hD hS => ?_)
    obtain ⟨rfl, rfl⟩ := th_100 w_16
    refine lv_if_eq (tgt := 24) hx hb dM_unsure_19 (by decide) (fun c_17 => absurd c_17 (by decide)) (fun c_17 => ?_)
    refine lv_iconst (v := 0) hx hb dM_unsure_22 (by decide) ?_
    exact W.zret (v := 0) hx hb hr rfl (fun t ht hW => ⟨⟨_, (u2 g 0 0 1), rfl, Or.inl ⟨f_4, rfl⟩, gpost_at hP hK hD ht hW.alike⟩, hS.F ht⟩) hS.2.2 dM_unsure_23
set_option maxHeartbeats 4000000 in
set_option maxRecDepth 100000 in
theorem kM_weight (l : Launch) (D : va_G) (CA : Nat → ClassId) (g : Nat → Nat → Int32) (ad : Nat → Nat) (sz : Nat) (h : Nat → Nat → Nat) (jp : Nat → Nat) (hm : MI g h jp) (pn gv : Int32) : Met l yM_weight wM_weight (rm 2 0 0) (va_Pc [.ref (ad 0), .int pn, .int gv] (gpre D (cty CA) (mw CA g ad) sz)) (va_Qi (fun r (u : Nat → Nat → Int32) => t4 (ib pn (nI (h 0 0))) (rb gv 0 1000000) False g u (∃ q, q < h 0 0 ∧ pn = nI q ∧ r = g 7 q ∧ u = u2 (u2 g 0 0 0) 7 q gv)) (fun u t => gpost D (cty CA) (mw CA u ad) (mA ad sz) t) (mA ad sz)) 0 0 (mA ad sz) := by
  refine Met.ofW (cc := cM_weight) (maxL := 4) (ret := (some .int)) (by decide) rfl ?_
  intro p e s m args below meth c s₁ B hml hv
  obtain ⟨rfl, hsz, hP, hK, hD0⟩ := hv
  have hx := B.exec
  have hb := B.bytes
  have hr := B.returns
  have hT : ∀ w ∈ TB, w.before _ s = true := fun w hw => atoms_spec (ws := wM_weight) B.pre w (List.mem_cons_of_mem _ hw)
  have hown : s.vm.findClass "CountLeastModel" = some m.cls := findClass_of_methodNamed B.named
  have hlocks := B.notSynchronized
  subst hsz
  have hD := nA_self (sz := s.heap.size) hD0
  have hS : va_S (mA ad s.heap.size) s.heap s.heap [] := va_S.rf
  have hP : va_P D vwCl (mw CA g ad) s.heap := hP
  have hl := lv_entry ([.ref (ad 0), .int pn, .int gv]) (n := 4) (Nat.le_of_ble_eq_true rfl)
  rw [lg_entry_eq]
  generalize (lg_sl ([.ref (ad 0), .int pn, .int gv]) ++ List.replicate (4 - (lg_sl ([.ref (ad 0), .int pn, .int gv])).length) Slot.unset).toArray = ls at hl ⊢
  have hl : lv_has ls 4 [(0, .ref (ad 0)), (1, .int pn), (2, .int gv)] := hl
  refine lv_aload_n hx hb dM_weight_0 rfl (lv_at hl 0 rfl) ?_
  refine lv_aload_n hx hb dM_weight_1 rfl (lv_at hl 0 rfl) ?_
  refine lv_iload_n hx hb dM_weight_2 rfl (lv_at hl 1 rfl) ?_
  refine kVi (n := 1) (D := D) (wd := fun z => mw CA z ad) (A1 := fun sz => mA ad sz) (As := [.int pn]) (rest := [.ref (ad 0)]) ⟨hx, hb, hml, hown, hT⟩ (kM_isPiece l D CA g ad s.heap.size h jp hm pn) (gi_V wm_597 wm_599 wp_9 wm_4 wm_600) rfl rfl (by decide +kernel) ⟨(Nat.le_of_ble_eq_true rfl), (Nat.le_of_ble_eq_true rfl)⟩ (va_recv hK hP (ci := 4) (q0 := 0) rfl mw_O) hK hP hD hS (fun _ h9 => h9) (nA_mono hS.1) rfl hl.1 rfl (Nat.le_of_ble_eq_true rfl) dM_weight_3 ⟨(Nat.le_of_ble_eq_true rfl), (Nat.le_of_ble_eq_true rfl)⟩ (fun r_1 u_2 H locs w_3 hz hP hD hS => ?_)
  obtain ⟨hu9, w_3⟩ := w_3
  rw [hu9] at hP hD
  rcases w_3 with ⟨rfl, f_4⟩ | ⟨rfl, f_4⟩
  · refine lv_if_ne (tgt := 13) hx hb dM_weight_6 (by decide) (fun c_5 => ?_) (fun c_5 => absurd c_5 (by decide))
    refine lv_iconst (v := 0) hx hb dM_weight_13 (by decide) ?_
    refine lv_iload_n hx hb dM_weight_14 rfl (lv_at hl 2 rfl) ?_
    refine lv_iconst (v := 0) hx hb dM_weight_15 (by decide) ?_
    refine lv_ldc (own := "CountLeastModel") (v := 1000000) hx hb hown (hT _ wm_660) dM_weight_16 ?_
    refine kSi (n := 3) (D := D) (As := [.int gv, .int 0, .int 1000000]) (rest := [.int 0, .ref (ad 0)]) ⟨hx, hb, hml, hown, hT⟩ (kM_in l gv 0 1000000) (gi_S wm_574 wm_575 wm_4 wm_576) rfl rfl (by decide +kernel) ⟨(Nat.le_of_ble_eq_true rfl), (Nat.le_of_ble_eq_true rfl)⟩ hP hS rfl hl.1 rfl (Nat.le_of_ble_eq_true rfl) dM_weight_18 ⟨(Nat.le_of_ble_eq_true rfl), (Nat.le_of_ble_eq_true rfl)⟩ (fun r_6 H locs e_7 hz hP hS => ?_)
    rcases e_7 with ⟨rfl, f_8⟩ | ⟨rfl, f_8⟩
    · refine lv_if_ne (tgt := 28) hx hb dM_weight_21 (by decide) (fun c_9 => ?_) (fun c_9 => absurd c_9 (by decide))
      refine lv_iconst (v := 0) hx hb dM_weight_28 (by decide) ?_
      refine lv_iconst (v := 0) hx hb dM_weight_29 (by decide) ?_
      refine kVi (n := 3) (D := D) (wd := fun z => mw CA z ad) (A1 := fun sz => mA ad sz) (As := [.int 0, .int 0, .int 0]) (rest := []) ⟨hx, hb, hml, hown, hT⟩ (kM_throwing l D CA g ad H.size 0 0 0) (gi_V wm_577 wm_579 wp_8 wm_4 wm_580) rfl rfl (by decide +kernel) ⟨(Nat.le_of_ble_eq_true rfl), (Nat.le_of_ble_eq_true rfl)⟩ (va_recv hK hP (ci := 4) (q0 := 0) rfl mw_O) hK hP hD hS (fun _ h9 => h9) (nA_mono hS.1) rfl hl.1 rfl (Nat.le_of_ble_eq_true rfl) dM_weight_30 ⟨(Nat.le_of_ble_eq_true rfl), (Nat.le_of_ble_eq_true rfl)⟩ (fun r_10 u_11 H locs w_12 hz hP hD hS => ?_)
      obtain ⟨rfl, rfl⟩ := th_000 w_12
      obtain ⟨q, hq, rfl⟩ := ibn (n := h 0 0) (by have := hm.le; omega) f_4
      have hm0 := (hm).t (v := 0)
      have h72 := hm.le
      refine lv_if_eq (tgt := 38) hx hb dM_weight_33 (by decide) (fun c_13 => ?_) (fun c_13 => absurd (by decide) c_13)
      refine lv_aload_n hx hb dM_weight_38 rfl (lv_at hl 0 rfl) ?_
      refine va_get (D := D) (ci := 4) (C := RM) (T := TM) (N := 21) hx hb hT inM hown hK hP (0) (mw_O) rfl 8 (by decide) (hT _ wm_507) (fun _ h9 => h9) rfl dM_weight_39 ?_
      refine lv_iload_n hx hb dM_weight_42 rfl (lv_at hl 1 rfl) ?_
      refine va_iald (D := D) hx hb hK hP (7) 0 (mw_a7) rfl (vp_in_nI (by omega) (by decide)) dM_weight_43 ?_
      rw [nI_clamp (n := q) (by omega)]
      refine lv_istore_n (lv' := [(3, .int ((u2 g 0 0 0) (7) q)), (0, .ref (ad 0)), (1, .int (nI q)), (2, .int gv)]) hx hb dM_weight_44 rfl hl (by decide) rfl (fun ls hl => ?_)
      refine lv_aload_n hx hb dM_weight_45 rfl (lv_at hl 1 rfl) ?_
      refine va_get (D := D) (ci := 4) (C := RM) (T := TM) (N := 21) hx hb hT inM hown hK hP (0) (mw_O) rfl 8 (by decide) (hT _ wm_507) (fun _ h9 => h9) rfl dM_weight_46 ?_
      refine lv_iload_n hx hb dM_weight_49 rfl (lv_at hl 2 rfl) ?_
      refine lv_iload_n hx hb dM_weight_50 rfl (lv_at hl 3 rfl) ?_
      refine va_iast (D := D) hx hb hK hP hD hS (7) 0 (mw_a7) rfl (vp_in_nI (by omega) (by decide)) dM_weight_51 (fun H locs hP hD hS => ?_)
      rw [nI_clamp (n := q) (by omega), mw_s7] at hP hD
      refine lv_iload_n hx hb dM_weight_52 rfl (lv_at hl 0 rfl) ?_
      exact W.iret (v := (u2 g 0 0 0) (7) q) hx hb hr (fun t ht hW => ⟨⟨_, (u2 (u2 g 0 0 0) (7) q gv), rfl, Or.inr (Or.inr (Or.inr ⟨f_4, f_8, (fun h9 : False => h9), q, hq, rfl, rfl, rfl⟩)), gpost_at hP hK hD ht hW.alike⟩, hS.F ht⟩) hS.2.2 dM_weight_53
    · refine lv_if_ne (tgt := 28) hx hb dM_weight_21 (by decide) (fun c_14 => absurd rfl c_14) (fun c_14 => ?_)
      refine lv_iconst (v := 1) hx hb dM_weight_24 (by decide) ?_
      refine lv_goto (tgt := 29) hx hb dM_weight_25 (by decide) ?_
      refine lv_iconst (v := 0) hx hb dM_weight_29 (by decide) ?_
      refine kVi (n := 3) (D := D) (wd := fun z => mw CA z ad) (A1 := fun sz => mA ad sz) (As := [.int 0, .int 1, .int 0]) (rest := []) ⟨hx, hb, hml, hown, hT⟩ (kM_throwing l D CA g ad H.size 0 1 0) (gi_V wm_577 wm_579 wp_8 wm_4 wm_580) rfl rfl (by decide +kernel) ⟨(Nat.le_of_ble_eq_true rfl), (Nat.le_of_ble_eq_true rfl)⟩ (va_recv hK hP (ci := 4) (q0 := 0) rfl mw_O) hK hP hD hS (fun _ h9 => h9) (nA_mono hS.1) rfl hl.1 rfl (Nat.le_of_ble_eq_true rfl) dM_weight_30 ⟨(Nat.le_of_ble_eq_true rfl), (Nat.le_of_ble_eq_true rfl)⟩ (fun r_15 u_16 H locs w_17 hz hP hD hS => ?_)
      obtain ⟨rfl, rfl⟩ := th_010 w_17
      refine lv_if_eq (tgt := 38) hx hb dM_weight_33 (by decide) (fun c_18 => absurd c_18 (by decide)) (fun c_18 => ?_)
      refine lv_iconst (v := 0) hx hb dM_weight_36 (by decide) ?_
      exact W.iret (v := 0) hx hb hr (fun t ht hW => ⟨⟨_, (u2 g 0 0 2), rfl, Or.inr (Or.inl ⟨f_4, f_8, rfl⟩), gpost_at hP hK hD ht hW.alike⟩, hS.F ht⟩) hS.2.2 dM_weight_37
  · refine lv_if_ne (tgt := 13) hx hb dM_weight_6 (by decide) (fun c_19 => absurd rfl c_19) (fun c_19 => ?_)
    refine lv_iconst (v := 1) hx hb dM_weight_9 (by decide) ?_
    refine lv_goto (tgt := 14) hx hb dM_weight_10 (by decide) ?_
    refine lv_iload_n hx hb dM_weight_14 rfl (lv_at hl 2 rfl) ?_
    refine lv_iconst (v := 0) hx hb dM_weight_15 (by decide) ?_
    refine lv_ldc (own := "CountLeastModel") (v := 1000000) hx hb hown (hT _ wm_660) dM_weight_16 ?_
    refine kSi (n := 3) (D := D) (As := [.int gv, .int 0, .int 1000000]) (rest := [.int 1, .ref (ad 0)]) ⟨hx, hb, hml, hown, hT⟩ (kM_in l gv 0 1000000) (gi_S wm_574 wm_575 wm_4 wm_576) rfl rfl (by decide +kernel) ⟨(Nat.le_of_ble_eq_true rfl), (Nat.le_of_ble_eq_true rfl)⟩ hP hS rfl hl.1 rfl (Nat.le_of_ble_eq_true rfl) dM_weight_18 ⟨(Nat.le_of_ble_eq_true rfl), (Nat.le_of_ble_eq_true rfl)⟩ (fun r_20 H locs e_21 hz hP hS => ?_)
    rcases e_21 with ⟨rfl, f_22⟩ | ⟨rfl, f_22⟩
    · refine lv_if_ne (tgt := 28) hx hb dM_weight_21 (by decide) (fun c_23 => ?_) (fun c_23 => absurd c_23 (by decide))
      refine lv_iconst (v := 0) hx hb dM_weight_28 (by decide) ?_
      refine lv_iconst (v := 0) hx hb dM_weight_29 (by decide) ?_
      refine kVi (n := 3) (D := D) (wd := fun z => mw CA z ad) (A1 := fun sz => mA ad sz) (As := [.int 1, .int 0, .int 0]) (rest := []) ⟨hx, hb, hml, hown, hT⟩ (kM_throwing l D CA g ad H.size 1 0 0) (gi_V wm_577 wm_579 wp_8 wm_4 wm_580) rfl rfl (by decide +kernel) ⟨(Nat.le_of_ble_eq_true rfl), (Nat.le_of_ble_eq_true rfl)⟩ (va_recv hK hP (ci := 4) (q0 := 0) rfl mw_O) hK hP hD hS (fun _ h9 => h9) (nA_mono hS.1) rfl hl.1 rfl (Nat.le_of_ble_eq_true rfl) dM_weight_30 ⟨(Nat.le_of_ble_eq_true rfl), (Nat.le_of_ble_eq_true rfl)⟩ (fun r_24 u_25 H locs w_26 hz hP hD hS => ?_)
      obtain ⟨rfl, rfl⟩ := th_100 w_26
      refine lv_if_eq (tgt := 38) hx hb dM_weight_33 (by decide) (fun c_27 => absurd c_27 (by decide)) (fun c_27 => ?_)
      refine lv_iconst (v := 0) hx hb dM_weight_36 (by decide) ?_
      exact W.iret (v := 0) hx hb hr (fun t ht hW => ⟨⟨_, (u2 g 0 0 1), rfl, Or.inl ⟨f_4, rfl⟩, gpost_at hP hK hD ht hW.alike⟩, hS.F ht⟩) hS.2.2 dM_weight_37
    · refine lv_if_ne (tgt := 28) hx hb dM_weight_21 (by decide) (fun c_28 => absurd rfl c_28) (fun c_28 => ?_)
      refine lv_iconst (v := 1) hx hb dM_weight_24 (by decide) ?_
      refine lv_goto (tgt := 29) hx hb dM_weight_25 (by decide) ?_
      refine lv_iconst (v := 0) hx hb dM_weight_29 (by decide) ?_
      refine kVi (n := 3) (D := D) (wd := fun z => mw CA z ad) (A1 := fun sz => mA ad sz) (As := [.int 1, .int 1, .int 0]) (rest := []) ⟨hx, hb, hml, hown, hT⟩ (kM_throwing l D CA g ad H.size 1 1 0) (gi_V wm_577 wm_579 wp_8 wm_4 wm_580) rfl rfl (by decide +kernel) ⟨(Nat.le_of_ble_eq_true rfl), (Nat.le_of_ble_eq_true rfl)⟩ (va_recv hK hP (ci := 4) (q0 := 0) rfl mw_O) hK hP hD hS (fun _ h9 => h9) (nA_mono hS.1) rfl hl.1 rfl (Nat.le_of_ble_eq_true rfl) dM_weight_30 ⟨(Nat.le_of_ble_eq_true rfl), (Nat.le_of_ble_eq_true rfl)⟩ (fun r_29 u_30 H locs w_31 hz hP hD hS => ?_)
      obtain ⟨rfl, rfl⟩ := th_110 w_31
      refine lv_if_eq (tgt := 38) hx hb dM_weight_33 (by decide) (fun c_32 => absurd c_32 (by decide)) (fun c_32 => ?_)
      refine lv_iconst (v := 0) hx hb dM_weight_36 (by decide) ?_
      exact W.iret (v := 0) hx hb hr (fun t ht hW => ⟨⟨_, (u2 g 0 0 1), rfl, Or.inl ⟨f_4, rfl⟩, gpost_at hP hK hD ht hW.alike⟩, hS.F ht⟩) hS.2.2 dM_weight_37
set_option maxHeartbeats 4000000 in
set_option maxRecDepth 100000 in
theorem kM_sieve (l : Launch) (D : va_G) (CA : Nat → ClassId) (g : Nat → Nat → Int32) (ad : Nat → Nat) (sz : Nat)  (kd av bv : Int32) : Met l yM_sieve wM_sieve (rm 2 0 0) (va_Pc [.ref (ad 0), .int kd, .int av, .int bv] (gpre D (cty CA) (mw CA g ad) sz)) (va_Qv (fun (u : Nat → Nat → Int32) => t4 (ib kd 6) (bv < 1 ∨ av < bv ∨ ¬ av ≤ 10000) False g u (∃ k, k < 6 ∧ kd = nI k ∧ u = u2 (u2 (u2 g 0 0 0) 14 k av) 15 k bv)) (fun u t => gpost D (cty CA) (mw CA u ad) (mA ad sz) t) (mA ad sz)) 0 0 (mA ad sz) := by
  refine Met.ofW (cc := cM_sieve) (maxL := 4) (ret := none) (by decide) rfl ?_
  intro p e s m args below meth c s₁ B hml hv
  obtain ⟨rfl, hsz, hP, hK, hD0⟩ := hv
  have hx := B.exec
  have hb := B.bytes
  have hr := B.returns
  have hT : ∀ w ∈ TB, w.before _ s = true := fun w hw => atoms_spec (ws := wM_sieve) B.pre w (List.mem_cons_of_mem _ hw)
  have hown : s.vm.findClass "CountLeastModel" = some m.cls := findClass_of_methodNamed B.named
  have hlocks := B.notSynchronized
  subst hsz
  have hD := nA_self (sz := s.heap.size) hD0
  have hS : va_S (mA ad s.heap.size) s.heap s.heap [] := va_S.rf
  have hP : va_P D vwCl (mw CA g ad) s.heap := hP
  have hl := lv_entry ([.ref (ad 0), .int kd, .int av, .int bv]) (n := 4) (Nat.le_of_ble_eq_true rfl)
  rw [lg_entry_eq]
  generalize (lg_sl ([.ref (ad 0), .int kd, .int av, .int bv]) ++ List.replicate (4 - (lg_sl ([.ref (ad 0), .int kd, .int av, .int bv])).length) Slot.unset).toArray = ls at hl ⊢
  have hl : lv_has ls 4 [(0, .ref (ad 0)), (1, .int kd), (2, .int av), (3, .int bv)] := hl
  refine lv_aload_n hx hb dM_sieve_0 rfl (lv_at hl 0 rfl) ?_
  refine lv_iload_n hx hb dM_sieve_1 rfl (lv_at hl 1 rfl) ?_
  refine kSi (n := 1) (D := D) (As := [.int kd]) (rest := [.ref (ad 0)]) ⟨hx, hb, hml, hown, hT⟩ (kM_isKind l kd) (gi_S wm_571 wm_572 wm_4 wm_573) rfl rfl (by decide +kernel) ⟨(Nat.le_of_ble_eq_true rfl), (Nat.le_of_ble_eq_true rfl)⟩ hP hS rfl hl.1 rfl (Nat.le_of_ble_eq_true rfl) dM_sieve_2 ⟨(Nat.le_of_ble_eq_true rfl), (Nat.le_of_ble_eq_true rfl)⟩ (fun r_1 H locs e_2 hz hP hS => ?_)
  rcases e_2 with ⟨rfl, f_3⟩ | ⟨rfl, f_3⟩
  · refine lv_if_ne (tgt := 12) hx hb dM_sieve_5 (by decide) (fun c_4 => ?_) (fun c_4 => absurd c_4 (by decide))
    refine lv_iconst (v := 0) hx hb dM_sieve_12 (by decide) ?_
    refine lv_iload_n hx hb dM_sieve_13 rfl (lv_at hl 3 rfl) ?_
    refine lv_iconst (v := 1) hx hb dM_sieve_14 (by decide) ?_
    refine lv_icmp_lt (tgt := 30) hx hb dM_sieve_15 (by decide) (fun c_5 => ?_) (fun c_5 => ?_)
    · refine lv_iconst (v := 1) hx hb dM_sieve_30 (by decide) ?_
      refine lv_goto (tgt := 35) hx hb dM_sieve_31 (by decide) ?_
      refine lv_iconst (v := 0) hx hb dM_sieve_35 (by decide) ?_
      refine kVi (n := 3) (D := D) (wd := fun z => mw CA z ad) (A1 := fun sz => mA ad sz) (As := [.int 0, .int 1, .int 0]) (rest := []) ⟨hx, hb, hml, hown, hT⟩ (kM_throwing l D CA g ad H.size 0 1 0) (gi_V wm_577 wm_579 wp_8 wm_4 wm_580) rfl rfl (by decide +kernel) ⟨(Nat.le_of_ble_eq_true rfl), (Nat.le_of_ble_eq_true rfl)⟩ (va_recv hK hP (ci := 4) (q0 := 0) rfl mw_O) hK hP hD hS (fun _ h9 => h9) (nA_mono hS.1) rfl hl.1 rfl (Nat.le_of_ble_eq_true rfl) dM_sieve_36 ⟨(Nat.le_of_ble_eq_true rfl), (Nat.le_of_ble_eq_true rfl)⟩ (fun r_6 u_7 H locs w_8 hz hP hD hS => ?_)
      obtain ⟨rfl, rfl⟩ := th_010 w_8
      refine lv_if_eq (tgt := 43) hx hb dM_sieve_39 (by decide) (fun c_9 => absurd c_9 (by decide)) (fun c_9 => ?_)
      exact W.vret hx hb hr (fun t ht hW => ⟨⟨(u2 g 0 0 2), rfl, Or.inr (Or.inl ⟨f_3, (Or.inl c_5), rfl⟩), gpost_at hP hK hD ht hW.alike⟩, hS.F ht⟩) hS.2.2 dM_sieve_42
    · refine lv_iload_n hx hb dM_sieve_18 rfl (lv_at hl 3 rfl) ?_
      refine lv_iload_n hx hb dM_sieve_19 rfl (lv_at hl 2 rfl) ?_
      refine lv_icmp_gt (tgt := 30) hx hb dM_sieve_20 (by decide) (fun c_10 => ?_) (fun c_10 => ?_)
      · refine lv_iconst (v := 1) hx hb dM_sieve_30 (by decide) ?_
        refine lv_goto (tgt := 35) hx hb dM_sieve_31 (by decide) ?_
        refine lv_iconst (v := 0) hx hb dM_sieve_35 (by decide) ?_
        refine kVi (n := 3) (D := D) (wd := fun z => mw CA z ad) (A1 := fun sz => mA ad sz) (As := [.int 0, .int 1, .int 0]) (rest := []) ⟨hx, hb, hml, hown, hT⟩ (kM_throwing l D CA g ad H.size 0 1 0) (gi_V wm_577 wm_579 wp_8 wm_4 wm_580) rfl rfl (by decide +kernel) ⟨(Nat.le_of_ble_eq_true rfl), (Nat.le_of_ble_eq_true rfl)⟩ (va_recv hK hP (ci := 4) (q0 := 0) rfl mw_O) hK hP hD hS (fun _ h9 => h9) (nA_mono hS.1) rfl hl.1 rfl (Nat.le_of_ble_eq_true rfl) dM_sieve_36 ⟨(Nat.le_of_ble_eq_true rfl), (Nat.le_of_ble_eq_true rfl)⟩ (fun r_11 u_12 H locs w_13 hz hP hD hS => ?_)
        obtain ⟨rfl, rfl⟩ := th_010 w_13
        refine lv_if_eq (tgt := 43) hx hb dM_sieve_39 (by decide) (fun c_14 => absurd c_14 (by decide)) (fun c_14 => ?_)
        exact W.vret hx hb hr (fun t ht hW => ⟨⟨(u2 g 0 0 2), rfl, Or.inr (Or.inl ⟨f_3, (Or.inr (Or.inl c_10)), rfl⟩), gpost_at hP hK hD ht hW.alike⟩, hS.F ht⟩) hS.2.2 dM_sieve_42
      · refine lv_iload_n hx hb dM_sieve_23 rfl (lv_at hl 2 rfl) ?_
        refine lv_sipush (v := 10000) hx hb dM_sieve_24 (by decide) ?_
        refine lv_icmp_le (tgt := 34) hx hb dM_sieve_27 (by decide) (fun c_15 => ?_) (fun c_15 => ?_)
        · refine lv_iconst (v := 0) hx hb dM_sieve_34 (by decide) ?_
          refine lv_iconst (v := 0) hx hb dM_sieve_35 (by decide) ?_
          refine kVi (n := 3) (D := D) (wd := fun z => mw CA z ad) (A1 := fun sz => mA ad sz) (As := [.int 0, .int 0, .int 0]) (rest := []) ⟨hx, hb, hml, hown, hT⟩ (kM_throwing l D CA g ad H.size 0 0 0) (gi_V wm_577 wm_579 wp_8 wm_4 wm_580) rfl rfl (by decide +kernel) ⟨(Nat.le_of_ble_eq_true rfl), (Nat.le_of_ble_eq_true rfl)⟩ (va_recv hK hP (ci := 4) (q0 := 0) rfl mw_O) hK hP hD hS (fun _ h9 => h9) (nA_mono hS.1) rfl hl.1 rfl (Nat.le_of_ble_eq_true rfl) dM_sieve_36 ⟨(Nat.le_of_ble_eq_true rfl), (Nat.le_of_ble_eq_true rfl)⟩ (fun r_16 u_17 H locs w_18 hz hP hD hS => ?_)
          obtain ⟨rfl, rfl⟩ := th_000 w_18
          obtain ⟨k, hk, rfl⟩ := ibn (n := 6) (by decide) f_3
          refine lv_if_eq (tgt := 43) hx hb dM_sieve_39 (by decide) (fun c_19 => ?_) (fun c_19 => absurd (by decide) c_19)
          refine lv_aload_n hx hb dM_sieve_43 rfl (lv_at hl 0 rfl) ?_
          refine va_get (D := D) (ci := 4) (C := RM) (T := TM) (N := 21) hx hb hT inM hown hK hP (0) (mw_O) rfl 15 (by decide) (hT _ wm_514) (fun _ h9 => h9) rfl dM_sieve_44 ?_
          refine lv_iload_n hx hb dM_sieve_47 rfl (lv_at hl 1 rfl) ?_
          refine lv_iload_n hx hb dM_sieve_48 rfl (lv_at hl 2 rfl) ?_
          refine va_iast (D := D) hx hb hK hP hD hS (14) 0 (mw_a14) rfl (vp_in_nI (by omega) (by decide)) dM_sieve_49 (fun H locs hP hD hS => ?_)
          rw [nI_clamp (n := k) (by omega), mw_s14] at hP hD
          refine lv_aload_n hx hb dM_sieve_50 rfl (lv_at hl 0 rfl) ?_
          refine va_get (D := D) (ci := 4) (C := RM) (T := TM) (N := 21) hx hb hT inM hown hK hP (0) (mw_O) rfl 16 (by decide) (hT _ wm_515) (fun _ h9 => h9) rfl dM_sieve_51 ?_
          refine lv_iload_n hx hb dM_sieve_54 rfl (lv_at hl 1 rfl) ?_
          refine lv_iload_n hx hb dM_sieve_55 rfl (lv_at hl 3 rfl) ?_
          refine va_iast (D := D) hx hb hK hP hD hS (15) 0 (mw_a15) rfl (vp_in_nI (by omega) (by decide)) dM_sieve_56 (fun H locs hP hD hS => ?_)
          rw [nI_clamp (n := k) (by omega), mw_s15] at hP hD
          exact W.vret hx hb hr (fun t ht hW => ⟨⟨(u2 (u2 (u2 g 0 0 0) (14) k av) (15) k bv), rfl, Or.inr (Or.inr (Or.inr ⟨f_3, (not_or.mpr ⟨c_5, (not_or.mpr ⟨c_10, (fun q => q c_15)⟩)⟩), (fun h9 : False => h9), k, hk, rfl, rfl⟩)), gpost_at hP hK hD ht hW.alike⟩, hS.F ht⟩) hS.2.2 dM_sieve_57
        · refine lv_iconst (v := 1) hx hb dM_sieve_30 (by decide) ?_
          refine lv_goto (tgt := 35) hx hb dM_sieve_31 (by decide) ?_
          refine lv_iconst (v := 0) hx hb dM_sieve_35 (by decide) ?_
          refine kVi (n := 3) (D := D) (wd := fun z => mw CA z ad) (A1 := fun sz => mA ad sz) (As := [.int 0, .int 1, .int 0]) (rest := []) ⟨hx, hb, hml, hown, hT⟩ (kM_throwing l D CA g ad H.size 0 1 0) (gi_V wm_577 wm_579 wp_8 wm_4 wm_580) rfl rfl (by decide +kernel) ⟨(Nat.le_of_ble_eq_true rfl), (Nat.le_of_ble_eq_true rfl)⟩ (va_recv hK hP (ci := 4) (q0 := 0) rfl mw_O) hK hP hD hS (fun _ h9 => h9) (nA_mono hS.1) rfl hl.1 rfl (Nat.le_of_ble_eq_true rfl) dM_sieve_36 ⟨(Nat.le_of_ble_eq_true rfl), (Nat.le_of_ble_eq_true rfl)⟩ (fun r_20 u_21 H locs w_22 hz hP hD hS => ?_)
          obtain ⟨rfl, rfl⟩ := th_010 w_22
          refine lv_if_eq (tgt := 43) hx hb dM_sieve_39 (by decide) (fun c_23 => absurd c_23 (by decide)) (fun c_23 => ?_)
          exact W.vret hx hb hr (fun t ht hW => ⟨⟨(u2 g 0 0 2), rfl, Or.inr (Or.inl ⟨f_3, (Or.inr (Or.inr c_15)), rfl⟩), gpost_at hP hK hD ht hW.alike⟩, hS.F ht⟩) hS.2.2 dM_sieve_42
  · refine lv_if_ne (tgt := 12) hx hb dM_sieve_5 (by decide) (fun c_24 => absurd rfl c_24) (fun c_24 => ?_)
    refine lv_iconst (v := 1) hx hb dM_sieve_8 (by decide) ?_
    refine lv_goto (tgt := 13) hx hb dM_sieve_9 (by decide) ?_
    refine lv_iload_n hx hb dM_sieve_13 rfl (lv_at hl 3 rfl) ?_
    refine lv_iconst (v := 1) hx hb dM_sieve_14 (by decide) ?_
    refine lv_icmp_lt (tgt := 30) hx hb dM_sieve_15 (by decide) (fun c_25 => ?_) (fun c_25 => ?_)
    · refine lv_iconst (v := 1) hx hb dM_sieve_30 (by decide) ?_
      refine lv_goto (tgt := 35) hx hb dM_sieve_31 (by decide) ?_
      refine lv_iconst (v := 0) hx hb dM_sieve_35 (by decide) ?_
      refine kVi (n := 3) (D := D) (wd := fun z => mw CA z ad) (A1 := fun sz => mA ad sz) (As := [.int 1, .int 1, .int 0]) (rest := []) ⟨hx, hb, hml, hown, hT⟩ (kM_throwing l D CA g ad H.size 1 1 0) (gi_V wm_577 wm_579 wp_8 wm_4 wm_580) rfl rfl (by decide +kernel) ⟨(Nat.le_of_ble_eq_true rfl), (Nat.le_of_ble_eq_true rfl)⟩ (va_recv hK hP (ci := 4) (q0 := 0) rfl mw_O) hK hP hD hS (fun _ h9 => h9) (nA_mono hS.1) rfl hl.1 rfl (Nat.le_of_ble_eq_true rfl) dM_sieve_36 ⟨(Nat.le_of_ble_eq_true rfl), (Nat.le_of_ble_eq_true rfl)⟩ (fun r_26 u_27 H locs w_28 hz hP hD hS => ?_)
      obtain ⟨rfl, rfl⟩ := th_110 w_28
      refine lv_if_eq (tgt := 43) hx hb dM_sieve_39 (by decide) (fun c_29 => absurd c_29 (by decide)) (fun c_29 => ?_)
      exact W.vret hx hb hr (fun t ht hW => ⟨⟨(u2 g 0 0 1), rfl, Or.inl ⟨f_3, rfl⟩, gpost_at hP hK hD ht hW.alike⟩, hS.F ht⟩) hS.2.2 dM_sieve_42
    · refine lv_iload_n hx hb dM_sieve_18 rfl (lv_at hl 3 rfl) ?_
      refine lv_iload_n hx hb dM_sieve_19 rfl (lv_at hl 2 rfl) ?_
      refine lv_icmp_gt (tgt := 30) hx hb dM_sieve_20 (by decide) (fun c_30 => ?_) (fun c_30 => ?_)
      · refine lv_iconst (v := 1) hx hb dM_sieve_30 (by decide) ?_
        refine lv_goto (tgt := 35) hx hb dM_sieve_31 (by decide) ?_
        refine lv_iconst (v := 0) hx hb dM_sieve_35 (by decide) ?_
        refine kVi (n := 3) (D := D) (wd := fun z => mw CA z ad) (A1 := fun sz => mA ad sz) (As := [.int 1, .int 1, .int 0]) (rest := []) ⟨hx, hb, hml, hown, hT⟩ (kM_throwing l D CA g ad H.size 1 1 0) (gi_V wm_577 wm_579 wp_8 wm_4 wm_580) rfl rfl (by decide +kernel) ⟨(Nat.le_of_ble_eq_true rfl), (Nat.le_of_ble_eq_true rfl)⟩ (va_recv hK hP (ci := 4) (q0 := 0) rfl mw_O) hK hP hD hS (fun _ h9 => h9) (nA_mono hS.1) rfl hl.1 rfl (Nat.le_of_ble_eq_true rfl) dM_sieve_36 ⟨(Nat.le_of_ble_eq_true rfl), (Nat.le_of_ble_eq_true rfl)⟩ (fun r_31 u_32 H locs w_33 hz hP hD hS => ?_)
        obtain ⟨rfl, rfl⟩ := th_110 w_33
        refine lv_if_eq (tgt := 43) hx hb dM_sieve_39 (by decide) (fun c_34 => absurd c_34 (by decide)) (fun c_34 => ?_)
        exact W.vret hx hb hr (fun t ht hW => ⟨⟨(u2 g 0 0 1), rfl, Or.inl ⟨f_3, rfl⟩, gpost_at hP hK hD ht hW.alike⟩, hS.F ht⟩) hS.2.2 dM_sieve_42
      · refine lv_iload_n hx hb dM_sieve_23 rfl (lv_at hl 2 rfl) ?_
        refine lv_sipush (v := 10000) hx hb dM_sieve_24 (by decide) ?_
        refine lv_icmp_le (tgt := 34) hx hb dM_sieve_27 (by decide) (fun c_35 => ?_) (fun c_35 => ?_)
        · refine lv_iconst (v := 0) hx hb dM_sieve_34 (by decide) ?_
          refine lv_iconst (v := 0) hx hb dM_sieve_35 (by decide) ?_
          refine kVi (n := 3) (D := D) (wd := fun z => mw CA z ad) (A1 := fun sz => mA ad sz) (As := [.int 1, .int 0, .int 0]) (rest := []) ⟨hx, hb, hml, hown, hT⟩ (kM_throwing l D CA g ad H.size 1 0 0) (gi_V wm_577 wm_579 wp_8 wm_4 wm_580) rfl rfl (by decide +kernel) ⟨(Nat.le_of_ble_eq_true rfl), (Nat.le_of_ble_eq_true rfl)⟩ (va_recv hK hP (ci := 4) (q0 := 0) rfl mw_O) hK hP hD hS (fun _ h9 => h9) (nA_mono hS.1) rfl hl.1 rfl (Nat.le_of_ble_eq_true rfl) dM_sieve_36 ⟨(Nat.le_of_ble_eq_true rfl), (Nat.le_of_ble_eq_true rfl)⟩ (fun r_36 u_37 H locs w_38 hz hP hD hS => ?_)
          obtain ⟨rfl, rfl⟩ := th_100 w_38
          refine lv_if_eq (tgt := 43) hx hb dM_sieve_39 (by decide) (fun c_39 => absurd c_39 (by decide)) (fun c_39 => ?_)
          exact W.vret hx hb hr (fun t ht hW => ⟨⟨(u2 g 0 0 1), rfl, Or.inl ⟨f_3, rfl⟩, gpost_at hP hK hD ht hW.alike⟩, hS.F ht⟩) hS.2.2 dM_sieve_42
        · refine lv_iconst (v := 1) hx hb dM_sieve_30 (by decide) ?_
          refine lv_goto (tgt := 35) hx hb dM_sieve_31 (by decide) ?_
          refine lv_iconst (v := 0) hx hb dM_sieve_35 (by decide) ?_
          refine kVi (n := 3) (D := D) (wd := fun z => mw CA z ad) (A1 := fun sz => mA ad sz) (As := [.int 1, .int 1, .int 0]) (rest := []) ⟨hx, hb, hml, hown, hT⟩ (kM_throwing l D CA g ad H.size 1 1 0) (gi_V wm_577 wm_579 wp_8 wm_4 wm_580) rfl rfl (by decide +kernel) ⟨(Nat.le_of_ble_eq_true rfl), (Nat.le_of_ble_eq_true rfl)⟩ (va_recv hK hP (ci := 4) (q0 := 0) rfl mw_O) hK hP hD hS (fun _ h9 => h9) (nA_mono hS.1) rfl hl.1 rfl (Nat.le_of_ble_eq_true rfl) dM_sieve_36 ⟨(Nat.le_of_ble_eq_true rfl), (Nat.le_of_ble_eq_true rfl)⟩ (fun r_40 u_41 H locs w_42 hz hP hD hS => ?_)
          obtain ⟨rfl, rfl⟩ := th_110 w_42
          refine lv_if_eq (tgt := 43) hx hb dM_sieve_39 (by decide) (fun c_43 => absurd c_43 (by decide)) (fun c_43 => ?_)
          exact W.vret hx hb hr (fun t ht hW => ⟨⟨(u2 g 0 0 1), rfl, Or.inl ⟨f_3, rfl⟩, gpost_at hP hK hD ht hW.alike⟩, hS.F ht⟩) hS.2.2 dM_sieve_42
set_option maxHeartbeats 4000000 in
set_option maxRecDepth 100000 in
theorem kM_pieces (l : Launch) (D : va_G) (CA : Nat → ClassId) (g : Nat → Nat → Int32) (ad : Nat → Nat) (sz : Nat)  (kd : Int32) : Met l yM_pieces wM_pieces (rm 2 0 0) (va_Pc [.ref (ad 0), .int kd] (gpre D (cty CA) (mw CA g ad) sz)) (va_Qi (fun r (u : Nat → Nat → Int32) => t4 ((¬ kd = -1 ∧ ib kd 6)) False False g u ((kd = -1 ∧ r = g 0 1 ∨ ∃ k, k < 6 ∧ kd = nI k ∧ r = g 8 k) ∧ u = u2 g 0 0 0)) (fun u t => gpost D (cty CA) (mw CA u ad) (mA ad sz) t) (mA ad sz)) 0 0 (mA ad sz) := by
  refine Met.ofW (cc := cM_pieces) (maxL := 2) (ret := (some .int)) (by decide) rfl ?_
  intro p e s m args below meth c s₁ B hml hv
  obtain ⟨rfl, hsz, hP, hK, hD0⟩ := hv
  have hx := B.exec
  have hb := B.bytes
  have hr := B.returns
  have hT : ∀ w ∈ TB, w.before _ s = true := fun w hw => atoms_spec (ws := wM_pieces) B.pre w (List.mem_cons_of_mem _ hw)
  have hown : s.vm.findClass "CountLeastModel" = some m.cls := findClass_of_methodNamed B.named
  have hlocks := B.notSynchronized
  subst hsz
  have hD := nA_self (sz := s.heap.size) hD0
  have hS : va_S (mA ad s.heap.size) s.heap s.heap [] := va_S.rf
  have hP : va_P D vwCl (mw CA g ad) s.heap := hP
  have hl := lv_entry ([.ref (ad 0), .int kd]) (n := 2) (Nat.le_of_ble_eq_true rfl)
  rw [lg_entry_eq]
  generalize (lg_sl ([.ref (ad 0), .int kd]) ++ List.replicate (2 - (lg_sl ([.ref (ad 0), .int kd])).length) Slot.unset).toArray = ls at hl ⊢
  have hl : lv_has ls 2 [(0, .ref (ad 0)), (1, .int kd)] := hl
  refine lv_aload_n hx hb dM_pieces_0 rfl (lv_at hl 0 rfl) ?_
  refine lv_iload_n hx hb dM_pieces_1 rfl (lv_at hl 1 rfl) ?_
  refine lv_iconst (v := (-1)) hx hb dM_pieces_2 (by decide) ?_
  refine lv_icmp_eq (tgt := 17) hx hb dM_pieces_3 (by decide) (fun c_1 => ?_) (fun c_1 => ?_)
  · refine lv_iconst (v := 0) hx hb dM_pieces_17 (by decide) ?_
    refine lv_iconst (v := 0) hx hb dM_pieces_18 (by decide) ?_
    refine lv_iconst (v := 0) hx hb dM_pieces_19 (by decide) ?_
    refine kVi (n := 3) (D := D) (wd := fun z => mw CA z ad) (A1 := fun sz => mA ad sz) (As := [.int 0, .int 0, .int 0]) (rest := []) ⟨hx, hb, hml, hown, hT⟩ (kM_throwing l D CA g ad s.heap.size 0 0 0) (gi_V wm_577 wm_579 wp_8 wm_4 wm_580) rfl rfl (by decide +kernel) ⟨(Nat.le_of_ble_eq_true rfl), (Nat.le_of_ble_eq_true rfl)⟩ (va_recv hK hP (ci := 4) (q0 := 0) rfl mw_O) hK hP hD hS (fun _ h9 => h9) (nA_mono hS.1) rfl hl.1 rfl (Nat.le_of_ble_eq_true rfl) dM_pieces_20 ⟨(Nat.le_of_ble_eq_true rfl), (Nat.le_of_ble_eq_true rfl)⟩ (fun r_2 u_3 H locs w_4 hz hP hD hS => ?_)
    obtain ⟨rfl, rfl⟩ := th_000 w_4
    refine lv_if_eq (tgt := 28) hx hb dM_pieces_23 (by decide) (fun c_5 => ?_) (fun c_5 => absurd (by decide) c_5)
    refine lv_iload_n hx hb dM_pieces_28 rfl (lv_at hl 1 rfl) ?_
    refine lv_iconst (v := (-1)) hx hb dM_pieces_29 (by decide) ?_
    refine lv_icmp_ne (tgt := 40) hx hb dM_pieces_30 (by decide) (fun c_6 => absurd c_1 c_6) (fun c_6 => ?_)
    refine lv_aload_n hx hb dM_pieces_33 rfl (lv_at hl 0 rfl) ?_
    refine va_get (D := D) (ci := 4) (C := RM) (T := TM) (N := 21) hx hb hT inM hown hK hP (0) (mw_O) rfl 1 (by decide) (hT _ wm_500) (fun _ h9 => h9) rfl dM_pieces_34 ?_
    refine lv_goto (tgt := 46) hx hb dM_pieces_37 (by decide) ?_
    exact W.iret (v := (u2 g 0 0 0) 0 1) hx hb hr (fun t ht hW => ⟨⟨_, (u2 g 0 0 0), rfl, Or.inr (Or.inr (Or.inr ⟨(fun q => q.1 c_1), (fun h9 : False => h9), (fun h9 : False => h9), Or.inl ⟨c_1, rfl⟩, rfl⟩)), gpost_at hP hK hD ht hW.alike⟩, hS.F ht⟩) hS.2.2 dM_pieces_46
  · refine lv_iload_n hx hb dM_pieces_6 rfl (lv_at hl 1 rfl) ?_
    refine kSi (n := 1) (D := D) (As := [.int kd]) (rest := [.ref (ad 0)]) ⟨hx, hb, hml, hown, hT⟩ (kM_isKind l kd) (gi_S wm_571 wm_572 wm_4 wm_573) rfl rfl (by decide +kernel) ⟨(Nat.le_of_ble_eq_true rfl), (Nat.le_of_ble_eq_true rfl)⟩ hP hS rfl hl.1 rfl (Nat.le_of_ble_eq_true rfl) dM_pieces_7 ⟨(Nat.le_of_ble_eq_true rfl), (Nat.le_of_ble_eq_true rfl)⟩ (fun r_7 H locs e_8 hz hP hS => ?_)
    rcases e_8 with ⟨rfl, f_9⟩ | ⟨rfl, f_9⟩
    · refine lv_if_ne (tgt := 17) hx hb dM_pieces_10 (by decide) (fun c_10 => ?_) (fun c_10 => absurd c_10 (by decide))
      refine lv_iconst (v := 0) hx hb dM_pieces_17 (by decide) ?_
      refine lv_iconst (v := 0) hx hb dM_pieces_18 (by decide) ?_
      refine lv_iconst (v := 0) hx hb dM_pieces_19 (by decide) ?_
      refine kVi (n := 3) (D := D) (wd := fun z => mw CA z ad) (A1 := fun sz => mA ad sz) (As := [.int 0, .int 0, .int 0]) (rest := []) ⟨hx, hb, hml, hown, hT⟩ (kM_throwing l D CA g ad H.size 0 0 0) (gi_V wm_577 wm_579 wp_8 wm_4 wm_580) rfl rfl (by decide +kernel) ⟨(Nat.le_of_ble_eq_true rfl), (Nat.le_of_ble_eq_true rfl)⟩ (va_recv hK hP (ci := 4) (q0 := 0) rfl mw_O) hK hP hD hS (fun _ h9 => h9) (nA_mono hS.1) rfl hl.1 rfl (Nat.le_of_ble_eq_true rfl) dM_pieces_20 ⟨(Nat.le_of_ble_eq_true rfl), (Nat.le_of_ble_eq_true rfl)⟩ (fun r_11 u_12 H locs w_13 hz hP hD hS => ?_)
      obtain ⟨rfl, rfl⟩ := th_000 w_13
      obtain ⟨k, hk, rfl⟩ := ibn (n := 6) (by decide) f_9
      refine lv_if_eq (tgt := 28) hx hb dM_pieces_23 (by decide) (fun c_14 => ?_) (fun c_14 => absurd (by decide) c_14)
      refine lv_iload_n hx hb dM_pieces_28 rfl (lv_at hl 1 rfl) ?_
      refine lv_iconst (v := (-1)) hx hb dM_pieces_29 (by decide) ?_
      refine lv_icmp_ne (tgt := 40) hx hb dM_pieces_30 (by decide) (fun c_15 => ?_) (fun c_15 => absurd c_15 c_1)
      refine lv_aload_n hx hb dM_pieces_40 rfl (lv_at hl 0 rfl) ?_
      refine va_get (D := D) (ci := 4) (C := RM) (T := TM) (N := 21) hx hb hT inM hown hK hP (0) (mw_O) rfl 9 (by decide) (hT _ wm_508) (fun _ h9 => h9) rfl dM_pieces_41 ?_
      refine lv_iload_n hx hb dM_pieces_44 rfl (lv_at hl 1 rfl) ?_
      refine va_iald (D := D) hx hb hK hP (8) 0 (mw_a8) rfl (vp_in_nI (by omega) (by decide)) dM_pieces_45 ?_
      rw [nI_clamp (n := k) (by omega)]
      exact W.iret (v := (u2 g 0 0 0) (8) k) hx hb hr (fun t ht hW => ⟨⟨_, (u2 g 0 0 0), rfl, Or.inr (Or.inr (Or.inr ⟨(fun q => f_9 q.2), (fun h9 : False => h9), (fun h9 : False => h9), Or.inr ⟨k, hk, rfl, rfl⟩, rfl⟩)), gpost_at hP hK hD ht hW.alike⟩, hS.F ht⟩) hS.2.2 dM_pieces_46
    · refine lv_if_ne (tgt := 17) hx hb dM_pieces_10 (by decide) (fun c_16 => absurd rfl c_16) (fun c_16 => ?_)
      refine lv_iconst (v := 1) hx hb dM_pieces_13 (by decide) ?_
      refine lv_goto (tgt := 18) hx hb dM_pieces_14 (by decide) ?_
      refine lv_iconst (v := 0) hx hb dM_pieces_18 (by decide) ?_
      refine lv_iconst (v := 0) hx hb dM_pieces_19 (by decide) ?_
      refine kVi (n := 3) (D := D) (wd := fun z => mw CA z ad) (A1 := fun sz => mA ad sz) (As := [.int 1, .int 0, .int 0]) (rest := []) ⟨hx, hb, hml, hown, hT⟩ (kM_throwing l D CA g ad H.size 1 0 0) (gi_V wm_577 wm_579 wp_8 wm_4 wm_580) rfl rfl (by decide +kernel) ⟨(Nat.le_of_ble_eq_true rfl), (Nat.le_of_ble_eq_true rfl)⟩ (va_recv hK hP (ci := 4) (q0 := 0) rfl mw_O) hK hP hD hS (fun _ h9 => h9) (nA_mono hS.1) rfl hl.1 rfl (Nat.le_of_ble_eq_true rfl) dM_pieces_20 ⟨(Nat.le_of_ble_eq_true rfl), (Nat.le_of_ble_eq_true rfl)⟩ (fun r_17 u_18 H locs w_19 hz hP hD hS => ?_)
      obtain ⟨rfl, rfl⟩ := th_100 w_19
      refine lv_if_eq (tgt := 28) hx hb dM_pieces_23 (by decide) (fun c_20 => absurd c_20 (by decide)) (fun c_20 => ?_)
      refine lv_iconst (v := 0) hx hb dM_pieces_26 (by decide) ?_
      exact W.iret (v := 0) hx hb hr (fun t ht hW => ⟨⟨_, (u2 g 0 0 1), rfl, Or.inl ⟨⟨c_1, f_9⟩, rfl⟩, gpost_at hP hK hD ht hW.alike⟩, hS.F ht⟩) hS.2.2 dM_pieces_27
