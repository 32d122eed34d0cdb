def qA (h : Nat → Nat → Nat) (ad : Nat → Nat) (q sz : Nat) : Nat → Prop := fun x => cA h ad sz x ∨ x = q
theorem qA_D {CA : Nat → ClassId} {g : Nat → Nat → Int32} {h : Nat → Nat → Nat} {ad : Nat → Nat} {A : Nat → Prop} {q sz : Nat} {e : va_E} (hD : va_D A (cw CA g h ad ++ [(q, e)])) : va_D (qA h ad q sz) (cw CA g h ad ++ [(q, e)]) := by
  refine ⟨hD.1, fun k x hx => ?_⟩
  by_cases hk : k < (cw CA g h ad).length
  · rw [List.getElem?_append_left hk] at hx
    obtain ⟨h1, rfl⟩ := nw_get_inv hx
    exact Or.inl (Or.inl ⟨k, h1, rfl⟩)
  · rw [List.getElem?_append_right (by omega)] at hx
    have : k - (cw CA g h ad).length = 0 := by
      have := (List.getElem?_eq_some_iff.mp hx).1
      simp at this
      exact this
    rw [this] at hx
    cases hx
    exact Or.inr rfl
abbrev tyG (CA : Nat → ClassId) := cty CA
set_option maxHeartbeats 4000000 in
set_option maxRecDepth 100000 in
theorem kQ_init (l : Launch) (D : va_G) (CA : Nat → ClassId) (g : Nat → Nat → Int32) (h : Nat → Nat → Nat) (ad : Nat → Nat) (sz : Nat) (q0 k : Nat) (hk : k < 6) (nu pt sd z9 : Int32) : Met l yQ_init wQ_init (rm 0 0 0) (va_Pc [.ref q0, .ref (ad (3 + 9 * k)), .int nu, .int pt, .int sd, .int z9] (gpre D (cty CA) (cw CA g h ad ++ [(q0, .inr (3, [.null, .int 0, .int 0, .int 0, .int 0, .int 0, .int 0, .int 0, .int 0]))]) sz)) (va_Qv (fun (_ : Unit) => True) (fun _ t => gpost D (cty CA) (cw CA g h ad ++ [(q0, .inr (3, [.ref (ad (3 + 9 * k)), .int nu, .int (g (3 + 9 * k) 6), .int pt, .int z9, .int sd, .int 0, .int 999, .int 0]))]) (qA h ad q0 sz) t) (qA h ad q0 sz)) 0 0 (qA h ad q0 sz) := by
  refine Met.ofW (cc := cQ_init) (maxL := 6) (ret := none) (by decide) rfl ?_
  intro p e s m args below meth c s₁ B hml hv
  obtain ⟨rfl, hsz, hP, hK, hD0⟩ := hv
  have hx := B.exec
  have hb := B.bytes
  have hr := B.returns
  have hT : ∀ w ∈ TB, w.before _ s = true := fun w hw => atoms_spec (ws := wQ_init) B.pre w (List.mem_cons_of_mem _ hw)
  have hown : s.vm.findClass "CountLeast$Piece" = some m.cls := findClass_of_methodNamed B.named
  have hlocks := B.notSynchronized
  have hin : meth.name = "<init>" := (name_of_methodNamed B.named B.method).1
  subst hsz
  have hD := qA_D (sz := s.heap.size) hD0
  have hS : va_S (qA h ad q0 s.heap.size) s.heap s.heap [] := va_S.rf
  have hl := lv_entry ([.ref q0, .ref (ad (3 + 9 * k)), .int nu, .int pt, .int sd, .int z9]) (n := 6) (Nat.le_of_ble_eq_true rfl)
  rw [lg_entry_eq]
  generalize (lg_sl ([.ref q0, .ref (ad (3 + 9 * k)), .int nu, .int pt, .int sd, .int z9]) ++ List.replicate (6 - (lg_sl ([.ref q0, .ref (ad (3 + 9 * k)), .int nu, .int pt, .int sd, .int z9])).length) Slot.unset).toArray = ls at hl ⊢
  have hl : lv_has ls 6 [(0, .ref q0), (1, .ref (ad (3 + 9 * k))), (2, .int nu), (3, .int pt), (4, .int sd), (5, .int z9)] := hl
  refine lv_aload_n hx hb dQ_init_0 rfl (lv_at hl 0 rfl) ?_
  refine W.objInit hx hb hown (hT _ wm_235) (hT _ wm_20) (hT _ wm_21) rfl (by rw [hml]; exact hl.1) rfl dQ_init_1 (Nat.le_of_ble_eq_true rfl) (Nat.le_of_ble_eq_true rfl) ?_
  refine W.eq (g2 := F0 m 4 ls []) rfl ?_
  refine lv_aload_n hx hb dQ_init_4 rfl (lv_at hl 0 rfl) ?_
  refine lv_iconst (v := 0) hx hb dQ_init_5 (by decide) ?_
  refine va_put (D := D) (ci := 3) (v := .int 0) (ty := .int) (C := RQ) (T := TQ) (N := 9) hx hb hT inQ tyQ tyokQ nmQ hown hK hP hD hS (57 + h 0 0) cwq_q rfl 6 (by decide) (hT _ wm_250) (fun _ h9 => h9) rfl (by decide +kernel) rfl rfl (Nat.le_of_ble_eq_true rfl) dQ_init_6 (fun H locs hP hD hS => ?_)
  rw [cwq_s] at hP hD
  have hP : va_P D vwCl (cw CA g h ad ++ [(q0, .inr (3, [.null, .int 0, .int 0, .int 0, .int 0, .int 0, .int 0, .int 0, .int 0]))]) H := hP
  have hD : va_D (qA h ad q0 s.heap.size) (cw CA g h ad ++ [(q0, .inr (3, [.null, .int 0, .int 0, .int 0, .int 0, .int 0, .int 0, .int 0, .int 0]))]) := hD
  refine lv_aload_n hx hb dQ_init_9 rfl (lv_at hl 0 rfl) ?_
  refine lv_sipush (v := 999) hx hb dQ_init_10 (by decide) ?_
  refine va_put (D := D) (ci := 3) (v := .int 999) (ty := .int) (C := RQ) (T := TQ) (N := 9) hx hb hT inQ tyQ tyokQ nmQ hown hK hP hD hS (57 + h 0 0) cwq_q rfl 7 (by decide) (hT _ wm_253) (fun _ h9 => h9) rfl (by decide +kernel) rfl rfl (Nat.le_of_ble_eq_true rfl) dQ_init_13 (fun H locs hP hD hS => ?_)
  rw [cwq_s] at hP hD
  have hP : va_P D vwCl (cw CA g h ad ++ [(q0, .inr (3, [.null, .int 0, .int 0, .int 0, .int 0, .int 0, .int 0, .int 999, .int 0]))]) H := hP
  have hD : va_D (qA h ad q0 s.heap.size) (cw CA g h ad ++ [(q0, .inr (3, [.null, .int 0, .int 0, .int 0, .int 0, .int 0, .int 0, .int 999, .int 0]))]) := hD
  refine lv_aload_n hx hb dQ_init_16 rfl (lv_at hl 0 rfl) ?_
  refine lv_iconst (v := 0) hx hb dQ_init_17 (by decide) ?_
  refine va_put (D := D) (ci := 3) (v := .int 0) (ty := .int) (C := RQ) (T := TQ) (N := 9) hx hb hT inQ tyQ tyokQ nmQ hown hK hP hD hS (57 + h 0 0) cwq_q rfl 8 (by decide) (hT _ wm_256) (fun _ h9 => h9) rfl (by decide +kernel) rfl rfl (Nat.le_of_ble_eq_true rfl) dQ_init_18 (fun H locs hP hD hS => ?_)
  rw [cwq_s] at hP hD
  have hP : va_P D vwCl (cw CA g h ad ++ [(q0, .inr (3, [.null, .int 0, .int 0, .int 0, .int 0, .int 0, .int 0, .int 999, .int 0]))]) H := hP
  have hD : va_D (qA h ad q0 s.heap.size) (cw CA g h ad ++ [(q0, .inr (3, [.null, .int 0, .int 0, .int 0, .int 0, .int 0, .int 0, .int 999, .int 0]))]) := hD
  refine lv_aload_n hx hb dQ_init_21 rfl (lv_at hl 0 rfl) ?_
  refine lv_aload_n hx hb dQ_init_22 rfl (lv_at hl 1 rfl) ?_
  refine va_putF (D := D) (ci := 3) (v := .ref (ad (3 + 9 * k))) (ty := (.object "CountLeast$Kind")) (C := RQ) (T := TQ) (N := 9) hx hb hT inQ tyQ tyokQ nmQ hown hK hP hD hS (57 + h 0 0) cwq_q rfl 0 (by decide) (hT _ wm_236) (fun _ h9 => h9) rfl hin rfl (by decide +kernel) rfl rfl (Nat.le_of_ble_eq_true rfl) dQ_init_23 (fun H locs hP hD hS => ?_)
  rw [cwq_s] at hP hD
  have hP : va_P D vwCl (cw CA g h ad ++ [(q0, .inr (3, [.ref (ad (3 + 9 * k)), .int 0, .int 0, .int 0, .int 0, .int 0, .int 0, .int 999, .int 0]))]) H := hP
  have hD : va_D (qA h ad q0 s.heap.size) (cw CA g h ad ++ [(q0, .inr (3, [.ref (ad (3 + 9 * k)), .int 0, .int 0, .int 0, .int 0, .int 0, .int 0, .int 999, .int 0]))]) := hD
  refine lv_aload_n hx hb dQ_init_26 rfl (lv_at hl 0 rfl) ?_
  refine lv_iload_n hx hb dQ_init_27 rfl (lv_at hl 2 rfl) ?_
  refine va_putF (D := D) (ci := 3) (v := .int nu) (ty := .int) (C := RQ) (T := TQ) (N := 9) hx hb hT inQ tyQ tyokQ nmQ hown hK hP hD hS (57 + h 0 0) cwq_q rfl 1 (by decide) (hT _ wm_238) (fun _ h9 => h9) rfl hin rfl (by decide +kernel) rfl rfl (Nat.le_of_ble_eq_true rfl) dQ_init_28 (fun H locs hP hD hS => ?_)
  rw [cwq_s] at hP hD
  have hP : va_P D vwCl (cw CA g h ad ++ [(q0, .inr (3, [.ref (ad (3 + 9 * k)), .int nu, .int 0, .int 0, .int 0, .int 0, .int 0, .int 999, .int 0]))]) H := hP
  have hD : va_D (qA h ad q0 s.heap.size) (cw CA g h ad ++ [(q0, .inr (3, [.ref (ad (3 + 9 * k)), .int nu, .int 0, .int 0, .int 0, .int 0, .int 0, .int 999, .int 0]))]) := hD
  refine lv_aload_n hx hb dQ_init_31 rfl (lv_at hl 0 rfl) ?_
  refine lv_aload_n hx hb dQ_init_32 rfl (lv_at hl 1 rfl) ?_
  refine va_get (D := D) (ci := 1) (C := RK) (T := TK) (N := 10) hx hb hT inK hown hK hP (3 + 9 * k) (cwq_l (cw_K hk)) rfl 6 (by decide) (hT _ wm_72) (fun _ h9 => h9) rfl dQ_init_33 ?_
  refine va_putF (D := D) (ci := 3) (v := .int (g (3 + 9 * k) 6)) (ty := .int) (C := RQ) (T := TQ) (N := 9) hx hb hT inQ tyQ tyokQ nmQ hown hK hP hD hS (57 + h 0 0) cwq_q rfl 2 (by decide) (hT _ wm_241) (fun _ h9 => h9) rfl hin rfl (by decide +kernel) rfl rfl (Nat.le_of_ble_eq_true rfl) dQ_init_36 (fun H locs hP hD hS => ?_)
  rw [cwq_s] at hP hD
  have hP : va_P D vwCl (cw CA g h ad ++ [(q0, .inr (3, [.ref (ad (3 + 9 * k)), .int nu, .int (g (3 + 9 * k) 6), .int 0, .int 0, .int 0, .int 0, .int 999, .int 0]))]) H := hP
  have hD : va_D (qA h ad q0 s.heap.size) (cw CA g h ad ++ [(q0, .inr (3, [.ref (ad (3 + 9 * k)), .int nu, .int (g (3 + 9 * k) 6), .int 0, .int 0, .int 0, .int 0, .int 999, .int 0]))]) := hD
  refine lv_aload_n hx hb dQ_init_39 rfl (lv_at hl 0 rfl) ?_
  refine lv_iload_n hx hb dQ_init_40 rfl (lv_at hl 3 rfl) ?_
  refine va_putF (D := D) (ci := 3) (v := .int pt) (ty := .int) (C := RQ) (T := TQ) (N := 9) hx hb hT inQ tyQ tyokQ nmQ hown hK hP hD hS (57 + h 0 0) cwq_q rfl 3 (by decide) (hT _ wm_243) (fun _ h9 => h9) rfl hin rfl (by decide +kernel) rfl rfl (Nat.le_of_ble_eq_true rfl) dQ_init_41 (fun H locs hP hD hS => ?_)
  rw [cwq_s] at hP hD
  have hP : va_P D vwCl (cw CA g h ad ++ [(q0, .inr (3, [.ref (ad (3 + 9 * k)), .int nu, .int (g (3 + 9 * k) 6), .int pt, .int 0, .int 0, .int 0, .int 999, .int 0]))]) H := hP
  have hD : va_D (qA h ad q0 s.heap.size) (cw CA g h ad ++ [(q0, .inr (3, [.ref (ad (3 + 9 * k)), .int nu, .int (g (3 + 9 * k) 6), .int pt, .int 0, .int 0, .int 0, .int 999, .int 0]))]) := hD
  refine lv_aload_n hx hb dQ_init_44 rfl (lv_at hl 0 rfl) ?_
  refine lv_iload hx hb dQ_init_45 (lv_at hl 4 rfl) ?_
  refine va_put (D := D) (ci := 3) (v := .int sd) (ty := .int) (C := RQ) (T := TQ) (N := 9) hx hb hT inQ tyQ tyokQ nmQ hown hK hP hD hS (57 + h 0 0) cwq_q rfl 5 (by decide) (hT _ wm_247) (fun _ h9 => h9) rfl (by decide +kernel) rfl rfl (Nat.le_of_ble_eq_true rfl) dQ_init_47 (fun H locs hP hD hS => ?_)
  rw [cwq_s] at hP hD
  have hP : va_P D vwCl (cw CA g h ad ++ [(q0, .inr (3, [.ref (ad (3 + 9 * k)), .int nu, .int (g (3 + 9 * k) 6), .int pt, .int 0, .int sd, .int 0, .int 999, .int 0]))]) H := hP
  have hD : va_D (qA h ad q0 s.heap.size) (cw CA g h ad ++ [(q0, .inr (3, [.ref (ad (3 + 9 * k)), .int nu, .int (g (3 + 9 * k) 6), .int pt, .int 0, .int sd, .int 0, .int 999, .int 0]))]) := hD
  refine lv_aload_n hx hb dQ_init_50 rfl (lv_at hl 0 rfl) ?_
  refine lv_iload hx hb dQ_init_51 (lv_at hl 5 rfl) ?_
  refine va_putF (D := D) (ci := 3) (v := .int z9) (ty := .int) (C := RQ) (T := TQ) (N := 9) hx hb hT inQ tyQ tyokQ nmQ hown hK hP hD hS (57 + h 0 0) cwq_q rfl 4 (by decide) (hT _ wm_245) (fun _ h9 => h9) rfl hin rfl (by decide +kernel) rfl rfl (Nat.le_of_ble_eq_true rfl) dQ_init_53 (fun H locs hP hD hS => ?_)
  rw [cwq_s] at hP hD
  have hP : va_P D vwCl (cw CA g h ad ++ [(q0, .inr (3, [.ref (ad (3 + 9 * k)), .int nu, .int (g (3 + 9 * k) 6), .int pt, .int z9, .int sd, .int 0, .int 999, .int 0]))]) H := hP
  have hD : va_D (qA h ad q0 s.heap.size) (cw CA g h ad ++ [(q0, .inr (3, [.ref (ad (3 + 9 * k)), .int nu, .int (g (3 + 9 * k) 6), .int pt, .int z9, .int sd, .int 0, .int 999, .int 0]))]) := hD
  exact W.vret hx hb hr (fun t ht hW => ⟨⟨(), rfl, trivial, gpost_at hP hK hD ht hW.alike⟩, hS.F ht⟩) hS.2.2 dQ_init_56
set_option maxHeartbeats 4000000 in
set_option maxRecDepth 100000 in
theorem kK_take (l : Launch) (D : va_G) (CA : Nat → ClassId) (N : Nat) (g : Nat → Nat → Int32) (fa : Nat → Option Nat) (ow : Nat → Nat → Option Nat) (h2 : Nat → Nat) (ad : Nat → Nat) (sz k c9 pz : Nat) (hk : k < 6) (hN : 57 ≤ N) (hp : 57 + pz < N) (hc : g (3 + 9 * k) 6 = nI c9) (hc12 : c9 < 12) : Met l yK_take wK_take (rm 0 0 0) (va_Pc [.ref (ad (3 + 9 * k)), .ref (ad (57 + pz))] (gpre D (cty CA) (cwG N CA g fa ow h2 ad) sz)) (va_Qv (fun (_ : Unit) => True) (fun _ t => gpost D (cty CA) (cwG N CA (u2 (u2 g (3 + 9 * k) 6 (nI (c9 + 1))) (3 + 9 * k) 7 1) fa (va_up ow k (va_up (ow k) c9 (some (ad (57 + pz))))) h2 ad) (nA N ad sz) t) (nA N ad sz)) 0 0 (nA N ad sz) := by
  refine Met.ofW (cc := cK_take) (maxL := 2) (ret := none) (by decide) rfl ?_
  intro p e s m args below meth c s₁ B hml hv
  obtain ⟨rfl, hsz, hP, hK, hD0⟩ := hv
  have hx := B.exec
  have hb := B.bytes
  have hr := B.returns
  have hT : ∀ w ∈ TB, w.before _ s = true := fun w hw => atoms_spec (ws := wK_take) B.pre w (List.mem_cons_of_mem _ hw)
  have hown : s.vm.findClass "CountLeast$Kind" = some m.cls := findClass_of_methodNamed B.named
  have hlocks := B.notSynchronized
  subst hsz
  have hD := nA_self (sz := s.heap.size) hD0
  have hS : va_S (nA N ad s.heap.size) s.heap s.heap [] := va_S.rf
  have hP : va_P D vwCl (cwG N CA g fa ow h2 ad) s.heap := hP
  have hl := lv_entry ([.ref (ad (3 + 9 * k)), .ref (ad (57 + pz))]) (n := 2) (Nat.le_of_ble_eq_true rfl)
  rw [lg_entry_eq]
  generalize (lg_sl ([.ref (ad (3 + 9 * k)), .ref (ad (57 + pz))]) ++ List.replicate (2 - (lg_sl ([.ref (ad (3 + 9 * k)), .ref (ad (57 + pz))])).length) Slot.unset).toArray = ls at hl ⊢
  have hl : lv_has ls 2 [(0, .ref (ad (3 + 9 * k))), (1, .ref (ad (57 + pz)))] := hl
  refine lv_aload_n hx hb dK_take_0 rfl (lv_at hl 0 rfl) ?_
  refine va_get (D := D) (ci := 1) (C := RK) (T := TK) (N := 10) hx hb hT inK hown hK hP (3 + 9 * k) (G_K hN hk) rfl 6 (by decide) (hT _ wm_73) (fun _ h9 => h9) rfl dK_take_1 ?_
  refine W.eq (g2 := F0 m 4 ls [.int (nI c9)]) (by rw [hc]) ?_
  refine lv_aload_n hx hb dK_take_4 rfl (lv_at hl 0 rfl) ?_
  refine va_get (D := D) (ci := 1) (C := RK) (T := TK) (N := 10) hx hb hT inK hown hK hP (3 + 9 * k) (G_K hN hk) rfl 8 (by decide) (hT _ wm_77) (fun _ h9 => h9) rfl dK_take_5 ?_
  refine va_alen (D := D) hx hb hK hP (7 + 9 * k) 3 (G_OW hN hk) rfl (v := 12) rfl dK_take_8 ?_
  refine lv_icmp_ge (tgt := 37) hx hb dK_take_9 (by decide) (fun c_1 => absurd c_1 (nI_ge (b := 12) hc12 (by decide))) (fun c_1 => ?_)
  refine lv_aload_n hx hb dK_take_12 rfl (lv_at hl 0 rfl) ?_
  refine va_get (D := D) (ci := 1) (C := RK) (T := TK) (N := 10) hx hb hT inK hown hK hP (3 + 9 * k) (G_K hN hk) rfl 8 (by decide) (hT _ wm_77) (fun _ h9 => h9) rfl dK_take_13 ?_
  refine lv_aload_n hx hb dK_take_16 rfl (lv_at hl 0 rfl) ?_
  refine va_get (D := D) (ci := 1) (C := RK) (T := TK) (N := 10) hx hb hT inK hown hK hP (3 + 9 * k) (G_K hN hk) rfl 6 (by decide) (hT _ wm_73) (fun _ h9 => h9) rfl dK_take_17 ?_
  refine W.eq (g2 := F0 m 20 ls [.int (nI c9), .ref (ad (7 + 9 * k))]) (by rw [hc]) ?_
  refine lv_aload_n hx hb dK_take_20 rfl (lv_at hl 1 rfl) ?_
  refine va_astq (D := D) hx hb hK hP hD hS (7 + 9 * k) 3 (57 + pz) 3 (r := (RQ, TQ, 9)) (G_OW hN hk) rfl (G_Q hp) rfl (vp_in_nI (show c9 < 12 by omega) (by decide)) dK_take_21 (fun H locs hP hD hS => ?_)
  rw [nI_clamp (n := c9) (by omega), G_sOW hk] at hP hD
  refine lv_aload_n hx hb dK_take_22 rfl (lv_at hl 0 rfl) ?_
  refine lv_dup hx hb dK_take_23 rfl ?_
  refine va_get (D := D) (ci := 1) (C := RK) (T := TK) (N := 10) hx hb hT inK hown hK hP (3 + 9 * k) (G_K hN hk) rfl 6 (by decide) (hT _ wm_73) (fun _ h9 => h9) rfl dK_take_24 ?_
  refine W.eq (g2 := F0 m 27 ls [.int (nI c9), .ref (ad (3 + 9 * k))]) (by rw [hc]) ?_
  refine lv_iconst (v := 1) hx hb dK_take_27 (by decide) ?_
  refine lv_iadd hx hb dK_take_28 ?_
  refine W.eq (g2 := F0 m 29 ls [.int (nI (c9 + 1)), .ref (ad (3 + 9 * k))]) (by rw [nI_1]) ?_
  refine va_put (D := D) (ci := 1) (v := .int (nI (c9 + 1))) (ty := .int) (C := RK) (T := TK) (N := 10) hx hb hT inK tyK tyokK nmK hown hK hP hD hS (3 + 9 * k) (G_K hN hk) rfl 6 (by decide) (hT _ wm_73) (fun _ h9 => h9) rfl (by decide +kernel) rfl rfl (Nat.le_of_ble_eq_true rfl) dK_take_29 (fun H locs hP hD hS => ?_)
  rw [G_sK hk (by simp)] at hP hD
  refine lv_aload_n hx hb dK_take_32 rfl (lv_at hl 0 rfl) ?_
  refine lv_iconst (v := 1) hx hb dK_take_33 (by decide) ?_
  refine va_put (D := D) (ci := 1) (v := .int 1) (ty := .boolean) (C := RK) (T := TK) (N := 10) hx hb hT inK tyK tyokK nmK hown hK hP hD hS (3 + 9 * k) (G_K hN hk) rfl 7 (by decide) (hT _ wm_75) (fun _ h9 => h9) rfl (by decide +kernel) rfl rfl (Nat.le_of_ble_eq_true rfl) dK_take_34 (fun H locs hP hD hS => ?_)
  rw [G_sK hk (by simp)] at hP hD
  exact W.vret hx hb hr (fun t ht hW => ⟨⟨(), rfl, trivial, gpost_at hP hK hD ht hW.alike⟩, hS.F ht⟩) hS.2.2 dK_take_37
set_option maxHeartbeats 4000000 in
set_option maxRecDepth 100000 in
theorem kC_piece (l : Launch) (hlt : l.stackTraces = false) (D : va_G) (CA : Nat → ClassId) (g : Nat → Nat → Int32) (h : Nat → Nat → Nat) (ad : Nat → Nat) (sz : Nat) (sa : Nat → Nat) (kd pt sd z9 : Int32) (jp : Nat → Nat) (hI : CIv g h jp) (hlt9 : ∀ k, k < 6 → h 1 k < 12 → h 0 0 < 72) : vx_Met l yC_piece wC_piece (rm 2 5 33) (va_Pc [.ref (ad 0), .int kd, .int pt, .int sd, .int z9] (fun U => gpre D (cty CA) (cw CA g h ad) sz U ∧ xz (cA h ad sz) sa U U.heap)) (va_Qi (fun r (u : (Nat → Nat → Int32) × (Nat → Nat → Nat) × (Nat → Nat)) => ¬ (ib kd 6 ∨ ib pt 16) ∧ ¬ (rb sd 0 3 ∨ rb z9 0 30000) ∧ ¬ (12 ≤ g (3 + 9 * n32 kd) 6) ∧ ∃ k, k < 6 ∧ kd = nI k ∧ r = nI (h 0 0) ∧ u.1 = (u2 (u2 (u2 (gp g (57 + h 0 0) (fun b => [0, nI (h 0 0), nI (h 1 k), pt, z9, sd, 0, 999, 0].getD b (0 : Int32))) (3 + 9 * k) 6 (nI (h 1 k + 1))) (3 + 9 * k) 7 1) 0 2 (nI (h 0 0 + 1))) ∧ u.2.1 = hpz h k ∧ u.2.2 0 = ad 0) (fun u t => gpost D (cty CA) (cw CA u.1 u.2.1 u.2.2) (cA h ad sz) t) (cA h ad sz)) (vx_X (fun u : Nat → Nat → Int32 => u = g) (fun E u t => te3 (ib kd 6 ∨ ib pt 16) (rb sd 0 3 ∨ rb z9 0 30000) (12 ≤ g (3 + 9 * n32 kd) 6) E ∧ gpost D (cty CA) (cw CA u h ad) (cA h ad sz) t) (cA h ad sz)) 5 33 (cA h ad sz) := by
  refine vx_ofW (cc := cC_piece) (maxL := 7) (ret := (some .int)) (by decide) rfl ?_
  intro p e s m args below meth c s₁ B hml hno hv
  obtain ⟨rfl, ⟨hsz, hP, hK, hD0⟩, hZ⟩ := hv
  have hx := B.exec
  have hb := B.bytes
  have hr := B.returns
  have hT : ∀ w ∈ TB, w.before _ s = true := fun w hw => atoms_spec (ws := wC_piece) B.pre w (List.mem_cons_of_mem _ hw)
  have hown : s.vm.findClass "CountLeast" = some m.cls := findClass_of_methodNamed B.named
  have hlocks := B.notSynchronized
  subst hsz
  have hD := nA_self (sz := s.heap.size) hD0
  have hS : va_S (cA h ad s.heap.size) s.heap s.heap [] := va_S.rf
  have hP : va_P D vwCl (cw CA g h ad) s.heap := hP
  have hl := lv_entry ([.ref (ad 0), .int kd, .int pt, .int sd, .int z9]) (n := 7) (Nat.le_of_ble_eq_true rfl)
  rw [lg_entry_eq]
  generalize (lg_sl ([.ref (ad 0), .int kd, .int pt, .int sd, .int z9]) ++ List.replicate (7 - (lg_sl ([.ref (ad 0), .int kd, .int pt, .int sd, .int z9])).length) Slot.unset).toArray = ls at hl ⊢
  have hl : lv_has ls 7 [(0, .ref (ad 0)), (1, .int kd), (2, .int pt), (3, .int sd), (4, .int z9)] := hl
  have hn72 := hI.1
  have hg0 := hI.2.1
  have hkk := hI.2.2.1
  have hpp := hI.2.2.2.1
  have hq6 : ∀ p, p < h 0 0 → h 2 p < 6 := fun p hp => (hpp p hp).1
  refine lv_aload_n hx hb dC_piece_0 rfl (lv_at hl 0 rfl) ?_
  refine lv_iload_n hx hb dC_piece_1 rfl (lv_at hl 1 rfl) ?_
  refine kVx (n := 1) (D := D) (wd := fun z => cw CA z h ad) (A1 := fun sz => cA h ad sz) (As := [.int kd]) (rest := []) (te := (te3 (ib kd 6 ∨ ib pt 16) (rb sd 0 3 ∨ rb z9 0 30000) (12 ≤ g (3 + 9 * n32 kd) 6))) ⟨hx, hb, hml, hown, hT⟩ (kC_kindAt l hlt D CA g h ad s.heap.size sa kd) (gi_V wm_120 wm_122 wp_0 wm_1 wm_123) rfl rfl (by decide +kernel) ⟨(Nat.le_of_ble_eq_true rfl), (Nat.le_of_ble_eq_true rfl)⟩ (va_recv hK hP (ci := 0) (q0 := 0) rfl cw_X) hlocks hno hZ (fun _ h9 => h9) hK hP hD hS (fun _ h9 => h9) (nA_mono hS.1) (fun E h9 => Or.inl ⟨h9.1, (Or.inl h9.2)⟩) rfl hl.1 rfl (Nat.le_of_ble_eq_true rfl) dC_piece_2 ⟨(Nat.le_of_ble_eq_true rfl), (Nat.le_of_ble_eq_true rfl)⟩ (Nat.le_of_ble_eq_true rfl) (Nat.le_of_ble_eq_true rfl) (fun a9 H locs ha hz hP hS => ?_)
  obtain ⟨k, hk, rfl, rfl⟩ := ha
  have f_1 : ¬ ib (nI k) 6 := nib hk (by decide)
  refine lv_astore (lv' := [(5, .ref (ad (3 + 9 * k))), (0, .ref (ad 0)), (1, .int (nI k)), (2, .int pt), (3, .int sd), (4, .int z9)]) hx hb dC_piece_5 hl (by decide) rfl (fun ls hl => ?_)
  refine lv_iload_n hx hb dC_piece_7 rfl (lv_at hl 3 rfl) ?_
  refine lv_bipush (v := 16) hx hb dC_piece_8 (by decide) ?_
  refine kSx (n := 2) (D := D) (wd := fun z => cw CA z h ad) (As := [.int pt, .int 16]) (rest := []) (te := (te3 (ib (nI k) 6 ∨ ib pt 16) (rb sd 0 3 ∨ rb z9 0 30000) (12 ≤ g (3 + 9 * n32 (nI k)) 6))) hml ⟨hx, hb, hml, hown, hT⟩ (kC_checkIndex l hlt sa H.size pt 16) (gi_S wm_192 wm_193 wm_1 wm_194) rfl rfl (by decide +kernel) ⟨(Nat.le_of_ble_eq_true rfl), (Nat.le_of_ble_eq_true rfl)⟩ hlocks hno hZ (fun _ h9 => Or.inr h9) (fun _ h9 => h9) hK hP hD hS (fun E h9 => Or.inl ⟨h9.1, (Or.inr h9.2)⟩) rfl hl.1 rfl (Nat.le_of_ble_eq_true rfl) dC_piece_10 ⟨(Nat.le_of_ble_eq_true rfl), (Nat.le_of_ble_eq_true rfl)⟩ (Nat.le_of_ble_eq_true rfl) (Nat.le_of_ble_eq_true rfl) (fun H locs hok hz hP hS => ?_)
  have f_2 := hok
  refine lv_iload_n hx hb dC_piece_13 rfl (lv_at hl 4 rfl) ?_
  refine lv_iconst (v := 0) hx hb dC_piece_14 (by decide) ?_
  refine lv_iconst (v := 3) hx hb dC_piece_15 (by decide) ?_
  refine kSx (n := 3) (D := D) (wd := fun z => cw CA z h ad) (As := [.int sd, .int 0, .int 3]) (rest := []) (te := (te3 (ib (nI k) 6 ∨ ib pt 16) (rb sd 0 3 ∨ rb z9 0 30000) (12 ≤ g (3 + 9 * n32 (nI k)) 6))) hml ⟨hx, hb, hml, hown, hT⟩ (kC_checkRange l hlt sa H.size sd 0 3) (gi_S wm_196 wm_197 wm_1 wm_198) rfl rfl (by decide +kernel) ⟨(Nat.le_of_ble_eq_true rfl), (Nat.le_of_ble_eq_true rfl)⟩ hlocks hno hZ (fun _ h9 => Or.inr h9) (fun _ h9 => h9) hK hP hD hS (fun E h9 => Or.inr (Or.inl ⟨h9.1, (not_or.mpr ⟨f_1, f_2⟩), (Or.inl h9.2)⟩)) rfl hl.1 rfl (Nat.le_of_ble_eq_true rfl) dC_piece_16 ⟨(Nat.le_of_ble_eq_true rfl), (Nat.le_of_ble_eq_true rfl)⟩ (Nat.le_of_ble_eq_true rfl) (Nat.le_of_ble_eq_true rfl) (fun H locs hok hz hP hS => ?_)
  have f_3 := hok
  refine lv_iload hx hb dC_piece_19 (lv_at hl 5 rfl) ?_
  refine lv_iconst (v := 0) hx hb dC_piece_21 (by decide) ?_
  refine lv_sipush (v := 30000) hx hb dC_piece_22 (by decide) ?_
  refine kSx (n := 3) (D := D) (wd := fun z => cw CA z h ad) (As := [.int z9, .int 0, .int 30000]) (rest := []) (te := (te3 (ib (nI k) 6 ∨ ib pt 16) (rb sd 0 3 ∨ rb z9 0 30000) (12 ≤ g (3 + 9 * n32 (nI k)) 6))) hml ⟨hx, hb, hml, hown, hT⟩ (kC_checkRange l hlt sa H.size z9 0 30000) (gi_S wm_196 wm_197 wm_1 wm_198) rfl rfl (by decide +kernel) ⟨(Nat.le_of_ble_eq_true rfl), (Nat.le_of_ble_eq_true rfl)⟩ hlocks hno hZ (fun _ h9 => Or.inr h9) (fun _ h9 => h9) hK hP hD hS (fun E h9 => Or.inr (Or.inl ⟨h9.1, (not_or.mpr ⟨f_1, f_2⟩), (Or.inr h9.2)⟩)) rfl hl.1 rfl (Nat.le_of_ble_eq_true rfl) dC_piece_25 ⟨(Nat.le_of_ble_eq_true rfl), (Nat.le_of_ble_eq_true rfl)⟩ (Nat.le_of_ble_eq_true rfl) (Nat.le_of_ble_eq_true rfl) (fun H locs hok hz hP hS => ?_)
  have f_4 := hok
  refine lv_aload hx hb dC_piece_28 (lv_at hl 0 rfl) ?_
  refine va_get (D := D) (ci := 1) (C := RK) (T := TK) (N := 10) hx hb hT inK hown hK hP (3 + 9 * k) (cw_K hk) rfl 6 (by decide) (hT _ wm_74) (fun _ h9 => h9) rfl dC_piece_30 ?_
  refine lv_bipush (v := 12) hx hb dC_piece_33 (by decide) ?_
  refine lv_icmp_ge (tgt := 50) hx hb dC_piece_35 (by decide) (fun c_5 => ?_) (fun c_5 => ?_)
  · exact xt3 (is := 43) (text := "the kind has twelve pieces") hx hb hlt hown hT hZ hZ.2.2.2.2.2.2.1 hS hml hl.1 dC_piece_50 dC_piece_53 dC_piece_54 dC_piece_56 dC_piece_59 hno (Nat.le_of_ble_eq_true rfl) (Nat.le_of_ble_eq_true rfl) (Nat.le_of_ble_eq_true rfl) (Nat.le_of_ble_eq_true rfl) hlocks (fun t ha h1 h2 => xout (wd := fun z => cw CA z h ad) (te := (te3 (ib (nI k) 6 ∨ ib pt 16) (rb sd 0 3 ∨ rb z9 0 30000) (12 ≤ g (3 + 9 * n32 (nI k)) 6))) hK hP hD hS ha h1 h2 (Or.inr (Or.inr ⟨rfl, (not_or.mpr ⟨f_1, f_2⟩), (not_or.mpr ⟨f_3, f_4⟩), by rw [n32n k (by omega)]; exact c_5⟩))) hS.2.2 (Nat.le_of_ble_eq_true rfl) (Nat.le_of_ble_eq_true rfl)
  · refine lv_aload_n hx hb dC_piece_38 rfl (lv_at hl 1 rfl) ?_
    refine va_get (D := D) (ci := 0) (C := RC) (T := TC) (N := 3) hx hb hT inC hown hK hP (0) (cw_X) rfl 2 (by decide) (hT _ wm_102) (fun _ h9 => h9) rfl dC_piece_39 ?_
    refine lv_aload_n hx hb dC_piece_42 rfl (lv_at hl 1 rfl) ?_
    refine va_get (D := D) (ci := 0) (C := RC) (T := TC) (N := 3) hx hb hT inC hown hK hP (0) (cw_X) rfl 1 (by decide) (hT _ wm_101) (fun _ h9 => h9) rfl dC_piece_43 ?_
    refine va_alen (D := D) hx hb hK hP (2) 3 (cw_FA) rfl (v := 72) rfl dC_piece_46 ?_
    refine lv_icmp_lt (tgt := 60) hx hb dC_piece_47 (by decide) (fun c_6 => ?_) (fun c_6 => absurd (by rw [hg0]; exact nI_lt (b := 72) (hlt9 k hk (by have := c_5; rw [(hkk k hk).2.1] at this; exact Nat.lt_of_not_le (fun z => this (nI_le (a := 12) z (by have := (hkk k hk).1; omega))))) (by decide)) c_6)
    have hlt12 : h 1 k < 12 := by have := c_5; rw [(hkk k hk).2.1] at this; exact Nat.lt_of_not_le (fun z => this (nI_le (a := 12) z (by have := (hkk k hk).1; omega)))
    refine va_new (ci := 3) (fs := [.null, .int 0, .int 0, .int 0, .int 0, .int 0, .int 0, .int 0, .int 0]) (own := "CountLeast") (C := RQ) (T := TQ) (N := 9) hx hb hT inQ tyQ tyokQ hown (hT _ wm_24) (hT _ wm_231) (hT _ wm_11) hK hP hD hS (fun _ h9 => Or.inr h9) rfl (fun j hj => by rcases (show j = 0 ∨ j = 1 ∨ j = 2 ∨ j = 3 ∨ j = 4 ∨ j = 5 ∨ j = 6 ∨ j = 7 ∨ j = 8 by omega) with rfl | rfl | rfl | rfl | rfl | rfl | rfl | rfl | rfl <;> rfl) (Nat.le_of_ble_eq_true rfl) (Nat.le_of_ble_eq_true rfl) dC_piece_60 (fun q9 H hP hD hS => ?_)
    refine W.widen (k := 5) (n := 33) (Nat.le_refl _) (Nat.le_refl _) ?_
    refine lv_dup hx hb dC_piece_63 rfl ?_
    refine lv_aload hx hb dC_piece_64 (lv_at hl 0 rfl) ?_
    refine lv_aload_n hx hb dC_piece_66 rfl (lv_at hl 1 rfl) ?_
    refine va_get (D := D) (ci := 0) (C := RC) (T := TC) (N := 3) hx hb hT inC hown hK hP 0 (cwq_l cw_X) rfl 2 (by decide) (hT _ wm_102) (fun _ h9 => h9) rfl dC_piece_67 ?_
    refine W.eq (g2 := F0 m 70 ls [.int (nI (h 0 0)), .ref (ad (3 + 9 * k)), .ref q9, .ref q9]) (by rw [hg0]) ?_
    refine lv_iload_n hx hb dC_piece_70 rfl (lv_at hl 3 rfl) ?_
    refine lv_iload_n hx hb dC_piece_71 rfl (lv_at hl 4 rfl) ?_
    refine lv_iload hx hb dC_piece_72 (lv_at hl 5 rfl) ?_
    have hqN := (D_right hD).2 0 _ rfl
    have hFA : ∀ x, qA h ad q9 H.size x → cA h ad s.heap.size x := fun x hx9 => hx9.elim (fun e9 => nA_mono hS.1 x e9) (fun e9 => by rw [e9]; exact hqN)
    refine va_callv (va_runI (As := [.ref (ad (3 + 9 * k)), .int (nI (h 0 0)), .int pt, .int sd, .int z9]) (rest := [.ref q9]) ⟨hx, hb, hml, hown, hT⟩ (kQ_init l D CA g h ad H.size q9 k hk (nI (h 0 0)) pt sd z9) (cwI 5 hT (gi_cons wm_234 gi_TB) rfl rfl rfl (hT _ wm_11) (hT _ wm_232) (hT _ wm_233) rfl (by decide +kernel) ⟨(Nat.le_of_ble_eq_true rfl), (Nat.le_of_ble_eq_true rfl)⟩) ⟨fun a U fr mk q => ⟨q.1, gpre_blind fr mk a q.2⟩, fun U hU hW9 => ⟨rfl, gpre_at hP hK hD hU hW9⟩⟩ rfl rfl hl.1 rfl (lv_room (Nat.le_of_ble_eq_true rfl)) dC_piece_74 ⟨(Nat.le_of_ble_eq_true rfl), (Nat.le_of_ble_eq_true rfl)⟩) hS (fun x _ hx9 => hFA x hx9) hFA (fun u9 t9 H1 locs ht9 hvm9 _ hB9 hz9 hk9 hS => ?_)
    obtain ⟨hP, -, hD⟩ := hB9
    rw [ht9] at hP
    rw [(hkk k hk).2.1] at hP hD
    have hD := hD.weaken (fun _ x _ h9 => hFA x.1 h9)
    generalize H1 = H at hP hS ⊢
    obtain ⟨ad', ead⟩ : ∃ z, z = va_up ad (57 + h 0 0) q9 := ⟨_, rfl⟩
    have eG := cwq_G (CA := CA) (g := g) (h := h) (ad := ad) (q := q9) (r := (fun b => [0, nI (h 0 0), nI (h 1 k), pt, z9, sd, 0, 999, 0].getD b (0 : Int32))) hk hq6
    rw [← ead] at eG
    have hP : va_P D vwCl (cwG (57 + h 0 0 + 1) CA (gp g (57 + h 0 0) (fun b => [0, nI (h 0 0), nI (h 1 k), pt, z9, sd, 0, 999, 0].getD b (0 : Int32))) (fun x => if x < h 0 0 then some (ad (57 + x)) else none) (fun k x => if x < h 1 k then some (ad (57 + h (3 + k) x)) else none) (va_up (h 2) (h 0 0) k) ad') H := by rw [← eG]; exact hP
    have hD : va_D (cA h ad s.heap.size) (cwG (57 + h 0 0 + 1) CA (gp g (57 + h 0 0) (fun b => [0, nI (h 0 0), nI (h 1 k), pt, z9, sd, 0, 999, 0].getD b (0 : Int32))) (fun x => if x < h 0 0 then some (ad (57 + x)) else none) (fun k x => if x < h 1 k then some (ad (57 + h (3 + k) x)) else none) (va_up (h 2) (h 0 0) k) ad') := by rw [← eG]; exact hD
    have e0 : ad' 0 = ad 0 := by rw [ead]; exact va_up_ne _ _ (by omega)
    have ek : ad' (3 + 9 * k) = ad (3 + 9 * k) := by rw [ead]; exact va_up_ne _ _ (by omega)
    have eN : ad' (57 + h 0 0) = q9 := by rw [ead]; exact va_up_self _ _ _
    have hN : 57 ≤ (57 + h 0 0 + 1) := by omega
    have hp : 57 + h 0 0 < (57 + h 0 0 + 1) := by omega
    obtain ⟨g9, eg9⟩ : ∃ z, z = gp g (57 + h 0 0) (fun b => [0, nI (h 0 0), nI (h 1 k), pt, z9, sd, 0, 999, 0].getD b (0 : Int32)) := ⟨_, rfl⟩
    rw [← eg9] at hP hD
    have hAA9 : ∀ x, nA (57 + h 0 0 + 1) ad' s.heap.size x → cA h ad s.heap.size x := fun x hx9 => hx9.elim (fun ⟨i9, h1, h2⟩ => by rw [h2]; exact (nw_D.mp hD).2 i9 h1) Or.inr
    refine lv_astore (lv' := [(6, .ref q9), (5, .ref (ad (3 + 9 * k))), (0, .ref (ad 0)), (1, .int (nI k)), (2, .int pt), (3, .int sd), (4, .int z9)]) hx hb dC_piece_77 hl (by decide) rfl (fun ls hl => ?_)
    rw [← eN, ← ek, ← e0] at hl
    refine lv_aload hx hb dC_piece_79 (lv_at hl 1 rfl) ?_
    refine lv_aload hx hb dC_piece_81 (lv_at hl 0 rfl) ?_
    refine kVv (n := 1) (D := D) (wd := fun (_ : Unit) => cwG (57 + h 0 0 + 1) CA (u2 (u2 g9 (3 + 9 * k) 6 (nI (h 1 k + 1))) (3 + 9 * k) 7 1) (fun x => if x < h 0 0 then some (ad (57 + x)) else none) (va_up (fun k x => if x < h 1 k then some (ad (57 + h (3 + k) x)) else none) k (va_up ((fun k x => if x < h 1 k then some (ad (57 + h (3 + k) x)) else none) k) (h 1 k) (some (ad' (57 + h 0 0))))) (va_up (h 2) (h 0 0) k) ad') (A1 := fun sz => nA (57 + h 0 0 + 1) ad' sz) (As := [.ref (ad' (57 + h 0 0))]) (rest := []) ⟨hx, hb, hml, hown, hT⟩ (kK_take l D CA (57 + h 0 0 + 1) g9 (fun x => if x < h 0 0 then some (ad (57 + x)) else none) (fun k x => if x < h 1 k then some (ad (57 + h (3 + k) x)) else none) (va_up (h 2) (h 0 0) k) ad' H.size k (h 1 k) (h 0 0) hk hN hp (by rw [eg9]; simp only [gp]; rw [if_neg (by omega)]; exact (hkk k hk).2.1) hlt12) (gi_V wm_278 wm_279 wm_280 wm_2 wm_281) rfl rfl (by decide +kernel) ⟨(Nat.le_of_ble_eq_true rfl), (Nat.le_of_ble_eq_true rfl)⟩ (va_recv hK hP (ci := 1) (q0 := 3 + 9 * k) rfl (G_K hN hk)) hK hP hD hS hAA9 (nA_mono hS.1) rfl hl.1 rfl (Nat.le_of_ble_eq_true rfl) dC_piece_83 ⟨(Nat.le_of_ble_eq_true rfl), (Nat.le_of_ble_eq_true rfl)⟩ (fun u8 H locs _ hz hP hD hS => ?_)
    refine lv_aload_n hx hb dC_piece_86 rfl (lv_at hl 2 rfl) ?_
    refine va_get (D := D) (ci := 0) (C := RC) (T := TC) (N := 3) hx hb hT inC hown hK hP (0) (G_X hN) rfl 1 (by decide) (hT _ wm_101) (fun _ h9 => h9) rfl dC_piece_87 ?_
    refine lv_aload_n hx hb dC_piece_90 rfl (lv_at hl 2 rfl) ?_
    refine va_get (D := D) (ci := 0) (C := RC) (T := TC) (N := 3) hx hb hT inC hown hK hP (0) (G_X hN) rfl 2 (by decide) (hT _ wm_102) (fun _ h9 => h9) rfl dC_piece_91 ?_
    refine W.eq (g2 := F0 m 94 ls [.int (nI (h 0 0)), .ref (ad' 2)]) (by rw [show (u2 (u2 g9 (3 + 9 * k) 6 (nI (h 1 k + 1))) (3 + 9 * k) 7 1) 0 2 = nI (h 0 0) by rw [eg9]; simp [u2, gp, show ¬ 0 = 3 + 9 * k by omega, show ¬ 0 = 57 + h 0 0 by omega, hg0]]) ?_
    refine lv_aload hx hb dC_piece_94 (lv_at hl 0 rfl) ?_
    refine va_astq (D := D) hx hb hK hP hD hS (2) 3 (57 + (h 0 0)) 3 (r := (RQ, TQ, 9)) (G_FA hN) rfl (G_Q hp) rfl (vp_in_nI (show (h 0 0) < 72 by exact hlt9 k hk hlt12) (by decide)) dC_piece_96 (fun H locs hP hD hS => ?_)
    rw [nI_clamp (n := (h 0 0)) (by omega), G_sFA] at hP hD
    refine lv_aload_n hx hb dC_piece_97 rfl (lv_at hl 2 rfl) ?_
    refine lv_dup hx hb dC_piece_98 rfl ?_
    refine va_get (D := D) (ci := 0) (C := RC) (T := TC) (N := 3) hx hb hT inC hown hK hP (0) (G_X hN) rfl 2 (by decide) (hT _ wm_102) (fun _ h9 => h9) rfl dC_piece_99 ?_
    refine W.eq (g2 := F0 m 102 ls [.int (nI (h 0 0)), .ref (ad' 0)]) (by rw [show (u2 (u2 g9 (3 + 9 * k) 6 (nI (h 1 k + 1))) (3 + 9 * k) 7 1) 0 2 = nI (h 0 0) by rw [eg9]; simp [u2, gp, show ¬ 0 = 3 + 9 * k by omega, show ¬ 0 = 57 + h 0 0 by omega, hg0]]) ?_
    refine lv_iconst (v := 1) hx hb dC_piece_102 (by decide) ?_
    refine lv_iadd hx hb dC_piece_103 ?_
    refine W.eq (g2 := F0 m 104 ls [.int (nI (h 0 0 + 1)), .ref (ad' 0)]) (by rw [nI_1]) ?_
    refine va_put (D := D) (ci := 0) (v := .int (nI (h 0 0 + 1))) (ty := .int) (C := RC) (T := TC) (N := 3) hx hb hT inC tyC tyokC nmC hown hK hP hD hS (0) (G_X hN) rfl 2 (by decide) (hT _ wm_102) (fun _ h9 => h9) rfl (by decide +kernel) rfl rfl (Nat.le_of_ble_eq_true rfl) dC_piece_104 (fun H locs hP hD hS => ?_)
    rw [G_sX] at hP hD
    refine lv_aload hx hb dC_piece_107 (lv_at hl 0 rfl) ?_
    refine va_get (D := D) (ci := 3) (C := RQ) (T := TQ) (N := 9) hx hb hT inQ hown hK hP (57 + (h 0 0)) (G_Q hp) rfl 1 (by decide) (hT _ wm_239) (fun _ h9 => h9) rfl dC_piece_109 ?_
    refine W.eq (g2 := F0 m 112 ls [.int (nI (h 0 0))]) (by rw [show (u2 (u2 (u2 g9 (3 + 9 * k) 6 (nI (h 1 k + 1))) (3 + 9 * k) 7 1) 0 2 (nI (h 0 0 + 1))) (57 + h 0 0) 1 = nI (h 0 0) by rw [eg9]; simp [u2, gp, show ¬ 57 + h 0 0 = 3 + 9 * k by omega, show ¬ 57 + h 0 0 = 0 by omega]]) ?_
    rw [eN, ead, cwG_end hk (fun k9 hk9 => (hkk k9 hk9).2.2) rfl, ← ead, eg9] at hP hD
    refine vx_ret ?_
    exact W.iret (v := nI (h 0 0)) hx hb hr (fun t ht hW => ⟨⟨_, ((u2 (u2 (u2 (gp g (57 + h 0 0) (fun b => [0, nI (h 0 0), nI (h 1 k), pt, z9, sd, 0, 999, 0].getD b (0 : Int32))) (3 + 9 * k) 6 (nI (h 1 k + 1))) (3 + 9 * k) 7 1) 0 2 (nI (h 0 0 + 1))), hpz h k, ad'), rfl, ⟨(not_or.mpr ⟨f_1, f_2⟩), (not_or.mpr ⟨f_3, f_4⟩), (by rw [n32n k (by omega)]; exact c_5), k, hk, rfl, rfl, rfl, rfl, e0⟩, gpost_at hP hK hD ht hW.alike⟩, hS.F ht⟩) hS.2.2 dC_piece_112
