/-! numbers in a range, and not -/
theorem ibn {x : Int32} {n : Nat} (hn : n < 2 ^ 31) (h : ¬ ib x (nI n)) : ∃ j : Nat, j < n ∧ x = nI j := by
  rcases pk_ix x hn with h1 | h1 | h1
  · exact absurd (Or.inl h1) h
  · exact absurd (Or.inr (by rw [Int32.not_lt]; exact h1)) h
  · exact h1
theorem nib {k n : Nat} (h : k < n) (hn : n < 2 ^ 31) : ¬ ib (nI k) (nI n) := by
  intro hh
  rcases hh with h1 | h1
  · exact nI_pos (by omega) h1
  · exact h1 (nI_lt h hn)
theorem rbn {x : Int32} {n : Nat} (hn : n < 2 ^ 31) (h : ¬ rb x 0 (nI n)) : ∃ j : Nat, j ≤ n ∧ x = nI j := by
  have h1 : ¬ x < 0 := fun q => h (Or.inl q)
  have h2 : x ≤ nI n := Decidable.not_not.mp (fun q => h (Or.inr q))
  exact nI_of2 (nI_toInt hn) h1 h2
/-- which exception: the first of three conditions that holds -/
def te3 (b1 b2 b3 : Prop) (E : String) : Prop := (E = xE1 ∧ b1) ∨ (E = xE2 ∧ ¬ b1 ∧ b2) ∨ (E = xE3 ∧ ¬ b1 ∧ ¬ b2 ∧ b3)
/-- Euclid's steps -/
def ed : Nat → Nat → Nat → Nat
  | 0, x, _ => x
  | f + 1, x, y => if y = 0 then x else ed f y (x % y)
set_option maxHeartbeats 4000000 in
set_option maxRecDepth 100000 in
theorem kC_kindAt (l : Launch) (hlt : l.stackTraces = false) (D : va_G) (CA : Nat → ClassId) (g : Nat → Nat → Int32) (h : Nat → Nat → Nat) (ad : Nat → Nat) (sz : Nat) (sa : Nat → Nat) (nn : Int32) : vx_Met l yC_kindAt wC_kindAt (rm 0 1 6) (va_Pc [.ref (ad 0), .int nn] (fun U => gpre D (cty CA) (cw CA g h ad) sz U ∧ xz (cA h ad sz) sa U U.heap)) (va_Qr (fun u : Nat → Nat → Int32 => u = g) (fun u a t => (∃ k, k < 6 ∧ nn = nI k ∧ a = ad (3 + 9 * k)) ∧ gpost D (cty CA) (cw CA u h ad) (cA h ad sz) t) (cA h ad sz)) (vx_X (fun u : Nat → Nat → Int32 => u = g) (fun E u t => (E = xE1 ∧ ib nn 6) ∧ gpost D (cty CA) (cw CA u h ad) (cA h ad sz) t) (cA h ad sz)) 1 6 (cA h ad sz) := by
  refine vx_ofW (cc := cC_kindAt) (maxL := 2) (ret := (some (.object "CountLeast$Kind"))) (by decide) rfl ?_
  intro p e s m args below meth c s₁ B hml hno hv
  obtain ⟨rfl, ⟨hsz, hP, hK, hD0⟩, hZ⟩ := hv
  have hx := B.exec
  have hb := B.bytes
  have hr := B.returns
  have hT : ∀ w ∈ TB, w.before _ s = true := fun w hw => atoms_spec (ws := wC_kindAt) B.pre w (List.mem_cons_of_mem _ hw)
  have hown : s.vm.findClass "CountLeast" = some m.cls := findClass_of_methodNamed B.named
  have hlocks := B.notSynchronized
  subst hsz
  have hD := nA_self (sz := s.heap.size) hD0
  have hS : va_S (cA h ad s.heap.size) s.heap s.heap [] := va_S.rf
  have hP : va_P D vwCl (cw CA g h ad) s.heap := hP
  have hl := lv_entry ([.ref (ad 0), .int nn]) (n := 2) (Nat.le_of_ble_eq_true rfl)
  rw [lg_entry_eq]
  generalize (lg_sl ([.ref (ad 0), .int nn]) ++ List.replicate (2 - (lg_sl ([.ref (ad 0), .int nn])).length) Slot.unset).toArray = ls at hl ⊢
  have hl : lv_has ls 2 [(0, .ref (ad 0)), (1, .int nn)] := hl
  refine lv_iload_n hx hb dC_kindAt_0 rfl (lv_at hl 1 rfl) ?_
  refine lv_if_lt (tgt := 10) hx hb dC_kindAt_1 (by decide) (fun c_1 => ?_) (fun c_1 => ?_)
  · exact xt1 (is := 154) (text := "no such kind") hx hb hlt hown hT hZ hZ.2.2.2.1 hS hml hl.1 dC_kindAt_10 dC_kindAt_13 dC_kindAt_14 dC_kindAt_16 dC_kindAt_19 hno (Nat.le_of_ble_eq_true rfl) (Nat.le_of_ble_eq_true rfl) (Nat.le_of_ble_eq_true rfl) (Nat.le_of_ble_eq_true rfl) hlocks (fun t ha h1 h2 => xout (wd := fun z => cw CA z h ad) (te := fun E => E = xE1 ∧ ib nn 6) hK hP hD hS ha h1 h2 ⟨rfl, by first | exact Or.inl c_1 | exact Or.inr c_2⟩) hS.2.2 (Nat.le_of_ble_eq_true rfl) (Nat.le_of_ble_eq_true rfl)
  · refine lv_iload_n hx hb dC_kindAt_4 rfl (lv_at hl 1 rfl) ?_
    refine lv_bipush (v := 6) hx hb dC_kindAt_5 (by decide) ?_
    refine lv_icmp_lt (tgt := 20) hx hb dC_kindAt_7 (by decide) (fun c_2 => ?_) (fun c_2 => ?_)
    · obtain ⟨j, hj, rfl⟩ := ibn (n := 6) (by decide) (show ¬ ib nn (nI 6) from not_or.mpr ⟨c_1, fun q => q c_2⟩)
      refine lv_aload_n hx hb dC_kindAt_20 rfl (lv_at hl 0 rfl) ?_
      refine va_get (D := D) (ci := 0) (C := RC) (T := TC) (N := 3) hx hb hT inC hown hK hP (0) (cw_X) rfl 0 (by decide) (hT _ wm_100) (fun _ h9 => h9) rfl dC_kindAt_21 ?_
      refine lv_iload_n hx hb dC_kindAt_24 rfl (lv_at hl 1 rfl) ?_
      refine va_aldq (D := D) hx hb hK hP (1) 2 (cw_KA) rfl (vp_in_nI hj (by decide)) dC_kindAt_25 ?_
      refine W.eq (g2 := F0 m 26 ls [.ref (ad (3 + 9 * j))]) (by rw [nI_clamp (n := j) (by omega)]; simp [va_rf, hj]) ?_
      refine W.widen (k := 1) (n := 6) (Nat.le_of_ble_eq_true rfl) (Nat.le_of_ble_eq_true rfl) ?_
      refine vx_ret ?_
      exact W.aret (v := .ref (ad (3 + 9 * j))) hx hb hr (Or.inl ⟨_, rfl⟩) (Or.inr ⟨_, rfl⟩) (fun t ht hW => ⟨⟨g, _, rfl, rfl, ⟨j, hj, rfl, rfl⟩, gpost_at hP hK hD ht hW.alike⟩, hS.F ht⟩) hS.2.2 dC_kindAt_26
    · exact xt1 (is := 154) (text := "no such kind") hx hb hlt hown hT hZ hZ.2.2.2.1 hS hml hl.1 dC_kindAt_10 dC_kindAt_13 dC_kindAt_14 dC_kindAt_16 dC_kindAt_19 hno (Nat.le_of_ble_eq_true rfl) (Nat.le_of_ble_eq_true rfl) (Nat.le_of_ble_eq_true rfl) (Nat.le_of_ble_eq_true rfl) hlocks (fun t ha h1 h2 => xout (wd := fun z => cw CA z h ad) (te := fun E => E = xE1 ∧ ib nn 6) hK hP hD hS ha h1 h2 ⟨rfl, by first | exact Or.inl c_1 | exact Or.inr c_2⟩) hS.2.2 (Nat.le_of_ble_eq_true rfl) (Nat.le_of_ble_eq_true rfl)
set_option maxHeartbeats 4000000 in
set_option maxRecDepth 100000 in
theorem kC_pieceAt (l : Launch) (hlt : l.stackTraces = false) (D : va_G) (CA : Nat → ClassId) (g : Nat → Nat → Int32) (h : Nat → Nat → Nat) (ad : Nat → Nat) (sz : Nat) (sa : Nat → Nat) (nn : Int32) (hn72 : h 0 0 ≤ 72) (hg0 : g 0 2 = nI (h 0 0)) : vx_Met l yC_pieceAt wC_pieceAt (rm 0 1 6) (va_Pc [.ref (ad 0), .int nn] (fun U => gpre D (cty CA) (cw CA g h ad) sz U ∧ xz (cA h ad sz) sa U U.heap)) (va_Qr (fun u : Nat → Nat → Int32 => u = g) (fun u a t => (∃ k, k < h 0 0 ∧ nn = nI k ∧ a = ad (57 + k)) ∧ gpost D (cty CA) (cw CA u h ad) (cA h ad sz) t) (cA h ad sz)) (vx_X (fun u : Nat → Nat → Int32 => u = g) (fun E u t => (E = xE1 ∧ ib nn (g 0 2)) ∧ gpost D (cty CA) (cw CA u h ad) (cA h ad sz) t) (cA h ad sz)) 1 6 (cA h ad sz) := by
  refine vx_ofW (cc := cC_pieceAt) (maxL := 2) (ret := (some (.object "CountLeast$Piece"))) (by decide) rfl ?_
  intro p e s m args below meth c s₁ B hml hno hv
  obtain ⟨rfl, ⟨hsz, hP, hK, hD0⟩, hZ⟩ := hv
  have hx := B.exec
  have hb := B.bytes
  have hr := B.returns
  have hT : ∀ w ∈ TB, w.before _ s = true := fun w hw => atoms_spec (ws := wC_pieceAt) B.pre w (List.mem_cons_of_mem _ hw)
  have hown : s.vm.findClass "CountLeast" = some m.cls := findClass_of_methodNamed B.named
  have hlocks := B.notSynchronized
  subst hsz
  have hD := nA_self (sz := s.heap.size) hD0
  have hS : va_S (cA h ad s.heap.size) s.heap s.heap [] := va_S.rf
  have hP : va_P D vwCl (cw CA g h ad) s.heap := hP
  have hl := lv_entry ([.ref (ad 0), .int nn]) (n := 2) (Nat.le_of_ble_eq_true rfl)
  rw [lg_entry_eq]
  generalize (lg_sl ([.ref (ad 0), .int nn]) ++ List.replicate (2 - (lg_sl ([.ref (ad 0), .int nn])).length) Slot.unset).toArray = ls at hl ⊢
  have hl : lv_has ls 2 [(0, .ref (ad 0)), (1, .int nn)] := hl
  refine lv_iload_n hx hb dC_pieceAt_0 rfl (lv_at hl 1 rfl) ?_
  refine lv_if_lt (tgt := 12) hx hb dC_pieceAt_1 (by decide) (fun c_1 => ?_) (fun c_1 => ?_)
  · exact xt1 (is := 156) (text := "no such piece") hx hb hlt hown hT hZ hZ.2.2.2.2.2.2.2.1 hS hml hl.1 dC_pieceAt_12 dC_pieceAt_15 dC_pieceAt_16 dC_pieceAt_18 dC_pieceAt_21 hno (Nat.le_of_ble_eq_true rfl) (Nat.le_of_ble_eq_true rfl) (Nat.le_of_ble_eq_true rfl) (Nat.le_of_ble_eq_true rfl) hlocks (fun t ha h1 h2 => xout (wd := fun z => cw CA z h ad) (te := fun E => E = xE1 ∧ ib nn (g 0 2)) hK hP hD hS ha h1 h2 ⟨rfl, by first | exact Or.inl c_1 | exact Or.inr c_2⟩) hS.2.2 (Nat.le_of_ble_eq_true rfl) (Nat.le_of_ble_eq_true rfl)
  · refine lv_iload_n hx hb dC_pieceAt_4 rfl (lv_at hl 1 rfl) ?_
    refine lv_aload_n hx hb dC_pieceAt_5 rfl (lv_at hl 0 rfl) ?_
    refine va_get (D := D) (ci := 0) (C := RC) (T := TC) (N := 3) hx hb hT inC hown hK hP (0) (cw_X) rfl 2 (by decide) (hT _ wm_102) (fun _ h9 => h9) rfl dC_pieceAt_6 ?_
    refine lv_icmp_lt (tgt := 22) hx hb dC_pieceAt_9 (by decide) (fun c_2 => ?_) (fun c_2 => ?_)
    · obtain ⟨j, hj, rfl⟩ := ibn (n := h 0 0) (by omega) (show ¬ ib nn (nI (h 0 0)) from not_or.mpr ⟨c_1, fun q => q (by rw [← hg0]; exact c_2)⟩)
      refine lv_aload_n hx hb dC_pieceAt_22 rfl (lv_at hl 0 rfl) ?_
      refine va_get (D := D) (ci := 0) (C := RC) (T := TC) (N := 3) hx hb hT inC hown hK hP (0) (cw_X) rfl 1 (by decide) (hT _ wm_101) (fun _ h9 => h9) rfl dC_pieceAt_23 ?_
      refine lv_iload_n hx hb dC_pieceAt_26 rfl (lv_at hl 1 rfl) ?_
      refine va_aldq (D := D) hx hb hK hP (2) 3 (cw_FA) rfl (vp_in_nI (by omega) (by decide)) dC_pieceAt_27 ?_
      refine W.eq (g2 := F0 m 28 ls [.ref (ad (57 + j))]) (by rw [nI_clamp (n := j) (by omega)]; simp [va_rf, hj]) ?_
      refine W.widen (k := 1) (n := 6) (Nat.le_of_ble_eq_true rfl) (Nat.le_of_ble_eq_true rfl) ?_
      refine vx_ret ?_
      exact W.aret (v := .ref (ad (57 + j))) hx hb hr (Or.inl ⟨_, rfl⟩) (Or.inr ⟨_, rfl⟩) (fun t ht hW => ⟨⟨g, _, rfl, rfl, ⟨j, hj, rfl, rfl⟩, gpost_at hP hK hD ht hW.alike⟩, hS.F ht⟩) hS.2.2 dC_pieceAt_28
    · exact xt1 (is := 156) (text := "no such piece") hx hb hlt hown hT hZ hZ.2.2.2.2.2.2.2.1 hS hml hl.1 dC_pieceAt_12 dC_pieceAt_15 dC_pieceAt_16 dC_pieceAt_18 dC_pieceAt_21 hno (Nat.le_of_ble_eq_true rfl) (Nat.le_of_ble_eq_true rfl) (Nat.le_of_ble_eq_true rfl) (Nat.le_of_ble_eq_true rfl) hlocks (fun t ha h1 h2 => xout (wd := fun z => cw CA z h ad) (te := fun E => E = xE1 ∧ ib nn (g 0 2)) hK hP hD hS ha h1 h2 ⟨rfl, by first | exact Or.inl c_1 | exact Or.inr c_2⟩) hS.2.2 (Nat.le_of_ble_eq_true rfl) (Nat.le_of_ble_eq_true rfl)
