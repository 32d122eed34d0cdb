set_option maxHeartbeats 4000000 in
set_option maxRecDepth 100000 in
theorem whole_start {p : Program} {e : Env} {s : State} {m : MethodId} {below : List Frame} {meth : Method} {c : Code} (l : Launch) (hlt : l.stackTraces = false) {b L : Nat} {xs : Nat → Int32} (hL : L ≤ 2560) (C0 : lw_At p s m meth c b L xs) : W p l e room_1 s m #[Value.ref b] below meth c s.heap [] 0 0 (lw_Z below #[Value.ref b] s) (entryFrame m ([Value.ref b] : List Value).toArray 7) := by
  obtain ⟨hx, hb, hr, hml, hown, hts, hX, hbl, hlocks, hgv⟩ := id C0
  have hT : ∀ w ∈ TB, w.before #[Value.ref b] s = true := fun w hw => hts w (List.mem_filter.mp hw).1
  obtain ⟨D, CA, hK⟩ := known_K hts
  obtain ⟨⟨sa, hZ⟩, hN, hNs⟩ := known_x hts hgv
  have hown : s.vm.findClass "CountLeastLaw" = some m.cls := hown
  have hb : c.code = cL_law := hb
  have hA : ∀ q : Nat, s.heap.size ≤ q → (fun q : Nat => s.heap.size ≤ q) q := fun _ h => h
  have hS : va_S (fun q : Nat => s.heap.size ≤ q) s.heap s.heap [] := va_S.rf
  have hP : va_P D vwCl [] s.heap := fun k q h => by simp at h
  have hD : va_D (fun q : Nat => s.heap.size ≤ q) [] := ⟨fun i j p q h => by simp at h, fun k q h => by simp at h⟩
  have hl := lv_entry ([.ref b]) (n := 7) (Nat.le_of_ble_eq_true rfl)
  rw [lg_entry_eq]
  generalize (lg_sl ([.ref b]) ++ List.replicate (7 - (lg_sl ([.ref b])).length) Slot.unset).toArray = ls at hl ⊢
  have hl : lv_has ls 7 [(0, .ref b)] := hl
  refine va_new (ci := 0) (fs := [.null, .null, .int 0]) (own := "CountLeastLaw") (C := RC) (T := TC) (N := 3) hx hb hT inC tyC tyokC hown (hT _ wm_14) (hT _ wm_15) (hT _ wm_1) hK hP hD hS hA rfl (fun j hj => by rcases (show j = 0 ∨ j = 1 ∨ j = 2 by omega) with rfl | rfl | rfl <;> rfl) (Nat.le_of_ble_eq_true rfl) (Nat.le_of_ble_eq_true rfl) dL_law_0 (fun q1 H hP hD hS => ?_)
  have hP : va_P D vwCl [(q1, .inr (0, [.null, .null, .int 0]))] H := hP
  have hD : va_D (fun q : Nat => s.heap.size ≤ q) [(q1, .inr (0, [.null, .null, .int 0]))] := hD
  refine lv_dup hx hb dL_law_3 rfl ?_
  have hFA : ∀ x, oA q1 H.size x → (fun q : Nat => s.heap.size ≤ q) x := fun x hx9 => hx9.elim (fun e9 => by rw [e9]; exact hD.2 0 _ rfl) (fun e9 => Nat.le_trans hS.1 e9)
  refine va_callv (va_runI (As := []) (rest := [.ref q1]) ⟨hx, hb, hml, hown, hT⟩ (kC_init l D CA H.size q1) (cwI 0 hT (gi_cons wm_18 gi_TB) rfl rfl rfl (hT _ wm_1) (hT _ wm_16) (hT _ wm_17) rfl (by decide +kernel) ⟨(Nat.le_of_ble_eq_true rfl), (Nat.le_of_ble_eq_true rfl)⟩) ⟨fun a U fr mk q => ⟨q.1, gpre_blind fr mk a q.2.1, nst_blind fr mk a q.2.2⟩, fun U hU hW9 => ⟨rfl, gpre_at hP (K_L hK) hD hU hW9, nst_warm hW9 hNs⟩⟩ rfl rfl hl.1 rfl (lv_room (Nat.le_of_ble_eq_true rfl)) dL_law_4 ⟨(Nat.le_of_ble_eq_true rfl), (Nat.le_of_ble_eq_true rfl)⟩) hS (fun x _ hx9 => hFA x hx9) hFA (fun u9 t9 H1 locs ht9 hvm9 hw9 hB9 hz9 hk9 hS => ?_)
  obtain ⟨hP1, -, hD1⟩ := hB9
  rw [ht9] at hP1
  have hD : va_D (fun q : Nat => s.heap.size ≤ q) (cw CA g00 h00 u9) := hD1.weaken (fun _ _ _ h9 => hFA _ h9)
  have hP : va_P D vwCl (cw CA g00 h00 u9) H1 := hP1
  clear hP1 hD1 hFA
  generalize H1 = H at hP hS ⊢
  refine W.widen (k := 57) (n := 753) (Nat.le_refl _) (Nat.le_refl _) ?_
  refine lv_astore_n (lv' := [(1, .ref q1), (0, .ref b)]) hx hb dL_law_7 rfl hl (by decide) rfl (fun ls hl => ?_)
  refine va_new (ci := 4) (fs := [.int 0, .int 0, .null, .null, .null, .null, .null, .null, .null, .null, .null, .null, .null, .null, .null, .null, .null, .null, .null, .int 0, .int 0]) (own := "CountLeastLaw") (C := RM) (T := TM) (N := 21) hx hb hT inM tyM tyokM hown (hT _ wm_493) (hT _ wm_494) (hT _ wm_4) hK hP hD hS hA rfl (fun j hj => by rcases (show j = 0 ∨ j = 1 ∨ j = 2 ∨ j = 3 ∨ j = 4 ∨ j = 5 ∨ j = 6 ∨ j = 7 ∨ j = 8 ∨ j = 9 ∨ j = 10 ∨ j = 11 ∨ j = 12 ∨ j = 13 ∨ j = 14 ∨ j = 15 ∨ j = 16 ∨ j = 17 ∨ j = 18 ∨ j = 19 ∨ j = 20 by omega) with rfl | rfl | rfl | rfl | rfl | rfl | rfl | rfl | rfl | rfl | rfl | rfl | rfl | rfl | rfl | rfl | rfl | rfl | rfl | rfl | rfl <;> rfl) (Nat.le_of_ble_eq_true rfl) (Nat.le_of_ble_eq_true rfl) dL_law_8 (fun q2 H hP hD hS => ?_)
  refine lv_dup hx hb dL_law_11 rfl ?_
  have hFA : ∀ x, oA q2 H.size x → (fun q : Nat => s.heap.size ≤ q) x := fun x hx9 => hx9.elim (fun e9 => by rw [e9]; exact (D_r hD).2 0 _ rfl) (fun e9 => Nat.le_trans hS.1 e9)
  refine va_callv (va_runI (As := []) (rest := [.ref q2]) ⟨hx, hb, hml, hown, hT⟩ (kM_init l D CA H.size q2) (cwI 0 hT (gi_cons wm_497 gi_TB) rfl rfl rfl (hT _ wm_4) (hT _ wm_495) (hT _ wm_496) rfl (by decide +kernel) ⟨(Nat.le_of_ble_eq_true rfl), (Nat.le_of_ble_eq_true rfl)⟩) ⟨fun a U fr mk q => ⟨q.1, gpre_blind fr mk a q.2⟩, fun U hU hW9 => ⟨rfl, gpre_at (P_r hP) (K_L hK) (D_r hD) hU hW9⟩⟩ rfl rfl hl.1 rfl (lv_room (Nat.le_of_ble_eq_true rfl)) dL_law_12 ⟨(Nat.le_of_ble_eq_true rfl), (Nat.le_of_ble_eq_true rfl)⟩) hS (fun x _ hx9 => hFA x hx9) hFA (fun u8 t8 H1 locs ht8 hvm8 hw8 hB8 hz8 hk8 hS => ?_)
  obtain ⟨hP1, -, hD1⟩ := hB8
  rw [ht8] at hP1
  obtain ⟨hP, hD⟩ := nj2 hP hD hk8 oA_in hP1 hD1 hFA
  clear hP1 hD1 hFA
  generalize H1 = H at hP hS ⊢
  refine W.widen (k := 75) (n := 1687) (Nat.le_refl _) (Nat.le_refl _) ?_
  refine lv_astore_n (lv' := [(2, .ref q2), (1, .ref q1), (0, .ref b)]) hx hb dL_law_15 rfl hl (by decide) rfl (fun ls hl => ?_)
  refine lv_iconst (v := 1) hx hb dL_law_16 (by decide) ?_
  refine va_newa (atype := .long) (a0 := (1, .inr (.inl (fun _ => 0)))) hx hb (hT _ wm_689) (ty := .long) rfl hK hP hD hS hA (fun cA => rfl) (by decide) (by decide) (by decide) (Nat.le_of_ble_eq_true rfl) (Nat.le_of_ble_eq_true rfl) dL_law_17 (fun q3 cA H hK9 hP hD hS => ?_)
  obtain rfl : cA = CA 4 := ra_u (hK9.2 5 _ rfl).2 (hK.2 4 _ rfl).2
  have hP : va_P D vwCl (WD CA g00 h00 u9 (fun _ => 0) gM0 u8 q3) H := rotP hP
  have hD : va_D (fun q : Nat => s.heap.size ≤ q) (WD CA g00 h00 u9 (fun _ => 0) gM0 u8 q3) := rotD hD
  refine W.widen (k := 76) (n := 1688) (Nat.le_refl _) (Nat.le_refl _) ?_
  refine lv_astore_n (lv' := [(3, .ref q3), (2, .ref q2), (1, .ref q1), (0, .ref b)]) hx hb dL_law_19 rfl hl (by decide) rfl (fun ls hl => ?_)
  refine lv_iconst (v := 0) hx hb dL_law_20 (by decide) ?_
  refine lv_istore (lv' := [(4, .int 0), (3, .ref q3), (2, .ref q2), (1, .ref q1), (0, .ref b)]) hx hb dL_law_21 hl (by decide) rfl (fun ls hl => ?_)
  exact li_law hlt hx hb hml hown hT hK hZ hN hX hbl hL (fun H locs hS ls => by
    refine lv_iconst (v := 1) hx hb dL_law_1324 (by decide) ?_
    refine va_forget (fun q hq => hS.2.2 q hq) ?_
    exact lw_ret hx hb hr hlocks dL_law_1325) L 0 (by omega) (Nat.zero_le L) H _ ⟨g00, gM0, h00, fun _ => 0, fun _ => 0, u9, u8, fun _ => 0, SR_0, hw9, hw8, hP, hD⟩ hS ls (lv_sub hl [4, 3, 2, 1, 0] rfl)
