/-! numbers out of a range -/
abbrev ib (x n : Int32) : Prop := x < 0 ∨ ¬ x < n
abbrev rb (v a b : Int32) : Prop := v < a ∨ ¬ v ≤ b
set_option maxHeartbeats 4000000 in
set_option maxRecDepth 100000 in
theorem kC_checkIndex (l : Launch) (hlt : l.stackTraces = false) (sa : Nat → Nat) (sz : Nat) (i n : Int32) : vx_Met l yC_checkIndex wC_checkIndex (rm 0 1 6) (va_Pc [.int i, .int n] (fun U => xz (fun q => sz ≤ q) sa U U.heap)) (va_Qv (fun (_ : Unit) => ¬ ib i n) (fun _ _ => True) (fun _ => False)) (vx_X (fun (_ : Unit) => True) (fun E _ _ => E = xE1 ∧ ib i n) (fun _ => False)) 1 6 (fun q => sz ≤ q) := by
  refine vx_ofW (cc := cC_checkIndex) (maxL := 2) (ret := none) (by decide) rfl ?_
  intro p e s m args below meth c s₁ B hml hno hv
  obtain ⟨rfl, hZ⟩ := hv
  have hx := B.exec
  have hb := B.bytes
  have hr := B.returns
  have hT : ∀ w ∈ TB, w.before _ s = true := fun w hw => atoms_spec (ws := wC_checkIndex) B.pre w (List.mem_cons_of_mem _ hw)
  have hown : s.vm.findClass "CountLeast" = some m.cls := findClass_of_methodNamed B.named
  have hlocks := B.notSynchronized
  have hS : va_S (fun q => sz ≤ q) s.heap s.heap [] := va_S.rf
  have hl := lv_entry ([.int i, .int n]) (n := 2) (Nat.le_of_ble_eq_true rfl)
  rw [lg_entry_eq]
  generalize (lg_sl ([.int i, .int n]) ++ List.replicate (2 - (lg_sl ([.int i, .int n])).length) Slot.unset).toArray = ls at hl ⊢
  have hl : lv_has ls 2 [(0, .int i), (1, .int n)] := hl
  refine lv_iload_n hx hb dC_checkIndex_0 rfl (lv_at hl 0 rfl) ?_
  refine lv_if_lt (tgt := 9) hx hb dC_checkIndex_1 (by decide) (fun c_1 => ?_) (fun c_1 => ?_)
  · exact xt1 (is := 158) (text := "no such part, wear or place") hx hb hlt hown hT hZ hZ.2.2.2.2.1 hS hml hl.1 dC_checkIndex_9 dC_checkIndex_12 dC_checkIndex_13 dC_checkIndex_15 dC_checkIndex_18 hno (Nat.le_of_ble_eq_true rfl) (Nat.le_of_ble_eq_true rfl) (Nat.le_of_ble_eq_true rfl) (Nat.le_of_ble_eq_true rfl) hlocks (fun t ha h1 h2 => ⟨(), trivial, ⟨rfl, by first | exact Or.inl c_1 | exact Or.inr c_2⟩, h1, fun q a _ => h2 q a⟩) hS.2.2 (Nat.le_of_ble_eq_true rfl) (Nat.le_of_ble_eq_true rfl)
  · refine lv_iload_n hx hb dC_checkIndex_4 rfl (lv_at hl 0 rfl) ?_
    refine lv_iload_n hx hb dC_checkIndex_5 rfl (lv_at hl 1 rfl) ?_
    refine lv_icmp_lt (tgt := 19) hx hb dC_checkIndex_6 (by decide) (fun c_2 => ?_) (fun c_2 => ?_)
    · refine W.widen (k := 1) (n := 6) (Nat.le_of_ble_eq_true rfl) (Nat.le_of_ble_eq_true rfl) ?_
      refine vx_ret ?_
      exact W.vret hx hb hr (fun t ht hW => ⟨⟨(), rfl, not_or.mpr ⟨c_1, fun q => q c_2⟩, trivial⟩, ff0 ht⟩) (fun _ h => by cases h) dC_checkIndex_19
    · exact xt1 (is := 158) (text := "no such part, wear or place") hx hb hlt hown hT hZ hZ.2.2.2.2.1 hS hml hl.1 dC_checkIndex_9 dC_checkIndex_12 dC_checkIndex_13 dC_checkIndex_15 dC_checkIndex_18 hno (Nat.le_of_ble_eq_true rfl) (Nat.le_of_ble_eq_true rfl) (Nat.le_of_ble_eq_true rfl) (Nat.le_of_ble_eq_true rfl) hlocks (fun t ha h1 h2 => ⟨(), trivial, ⟨rfl, by first | exact Or.inl c_1 | exact Or.inr c_2⟩, h1, fun q a _ => h2 q a⟩) hS.2.2 (Nat.le_of_ble_eq_true rfl) (Nat.le_of_ble_eq_true rfl)
set_option maxHeartbeats 4000000 in
set_option maxRecDepth 100000 in
theorem kC_checkRange (l : Launch) (hlt : l.stackTraces = false) (sa : Nat → Nat) (sz : Nat) (v a b : Int32) : vx_Met l yC_checkRange wC_checkRange (rm 0 1 6) (va_Pc [.int v, .int a, .int b] (fun U => xz (fun q => sz ≤ q) sa U U.heap)) (va_Qv (fun (_ : Unit) => ¬ rb v a b) (fun _ _ => True) (fun _ => False)) (vx_X (fun (_ : Unit) => True) (fun E _ _ => E = xE2 ∧ rb v a b) (fun _ => False)) 1 6 (fun q => sz ≤ q) := by
  refine vx_ofW (cc := cC_checkRange) (maxL := 3) (ret := none) (by decide) rfl ?_
  intro p e s m args below meth c s₁ B hml hno hv
  obtain ⟨rfl, hZ⟩ := hv
  have hx := B.exec
  have hb := B.bytes
  have hr := B.returns
  have hT : ∀ w ∈ TB, w.before _ s = true := fun w hw => atoms_spec (ws := wC_checkRange) B.pre w (List.mem_cons_of_mem _ hw)
  have hown : s.vm.findClass "CountLeast" = some m.cls := findClass_of_methodNamed B.named
  have hlocks := B.notSynchronized
  have hS : va_S (fun q => sz ≤ q) s.heap s.heap [] := va_S.rf
  have hl := lv_entry ([.int v, .int a, .int b]) (n := 3) (Nat.le_of_ble_eq_true rfl)
  rw [lg_entry_eq]
  generalize (lg_sl ([.int v, .int a, .int b]) ++ List.replicate (3 - (lg_sl ([.int v, .int a, .int b])).length) Slot.unset).toArray = ls at hl ⊢
  have hl : lv_has ls 3 [(0, .int v), (1, .int a), (2, .int b)] := hl
  refine lv_iload_n hx hb dC_checkRange_0 rfl (lv_at hl 0 rfl) ?_
  refine lv_iload_n hx hb dC_checkRange_1 rfl (lv_at hl 1 rfl) ?_
  refine lv_icmp_lt (tgt := 10) hx hb dC_checkRange_2 (by decide) (fun c_1 => ?_) (fun c_1 => ?_)
  · exact xt2 (is := 160) (text := "out of its range") hx hb hlt hown hT hZ hZ.2.2.2.2.2.1 hS hml hl.1 dC_checkRange_10 dC_checkRange_13 dC_checkRange_14 dC_checkRange_16 dC_checkRange_19 hno (Nat.le_of_ble_eq_true rfl) (Nat.le_of_ble_eq_true rfl) (Nat.le_of_ble_eq_true rfl) (Nat.le_of_ble_eq_true rfl) hlocks (fun t ha h1 h2 => ⟨(), trivial, ⟨rfl, by first | exact Or.inl c_1 | exact Or.inr c_2⟩, h1, fun q a _ => h2 q a⟩) hS.2.2 (Nat.le_of_ble_eq_true rfl) (Nat.le_of_ble_eq_true rfl)
  · refine lv_iload_n hx hb dC_checkRange_5 rfl (lv_at hl 0 rfl) ?_
    refine lv_iload_n hx hb dC_checkRange_6 rfl (lv_at hl 2 rfl) ?_
    refine lv_icmp_le (tgt := 20) hx hb dC_checkRange_7 (by decide) (fun c_2 => ?_) (fun c_2 => ?_)
    · refine W.widen (k := 1) (n := 6) (Nat.le_of_ble_eq_true rfl) (Nat.le_of_ble_eq_true rfl) ?_
      refine vx_ret ?_
      exact W.vret hx hb hr (fun t ht hW => ⟨⟨(), rfl, not_or.mpr ⟨c_1, fun q => q c_2⟩, trivial⟩, ff0 ht⟩) (fun _ h => by cases h) dC_checkRange_20
    · exact xt2 (is := 160) (text := "out of its range") hx hb hlt hown hT hZ hZ.2.2.2.2.2.1 hS hml hl.1 dC_checkRange_10 dC_checkRange_13 dC_checkRange_14 dC_checkRange_16 dC_checkRange_19 hno (Nat.le_of_ble_eq_true rfl) (Nat.le_of_ble_eq_true rfl) (Nat.le_of_ble_eq_true rfl) (Nat.le_of_ble_eq_true rfl) hlocks (fun t ha h1 h2 => ⟨(), trivial, ⟨rfl, by first | exact Or.inl c_1 | exact Or.inr c_2⟩, h1, fun q a _ => h2 q a⟩) hS.2.2 (Nat.le_of_ble_eq_true rfl) (Nat.le_of_ble_eq_true rfl)
set_option maxHeartbeats 4000000 in
set_option maxRecDepth 100000 in
theorem kC_orderedPairs (l : Launch) (n : Int32) : Met l yC_orderedPairs wC_orderedPairs (rm 0 0 0) (va_Pc [.int n] (fun _ => True)) (va_Qi (fun r (_ : Unit) => r = n * (n - 1)) (fun _ _ => True) (fun _ => False)) 0 0 (fun _ => False) := by
  refine Met.ofW (cc := cC_orderedPairs) (maxL := 1) (ret := (some .int)) (by decide) rfl ?_
  intro p e s m args below meth c s₁ B hml hv
  obtain ⟨rfl, -⟩ := hv
  have hx := B.exec
  have hb := B.bytes
  have hr := B.returns
  have hT : ∀ w ∈ TB, w.before _ s = true := fun w hw => atoms_spec (ws := wC_orderedPairs) B.pre w (List.mem_cons_of_mem _ hw)
  have hown : s.vm.findClass "CountLeast" = some m.cls := findClass_of_methodNamed B.named
  have hlocks := B.notSynchronized
  have hS : va_S (fun _ => False) s.heap s.heap [] := va_S.rf
  have hl := lv_entry ([.int n]) (n := 1) (Nat.le_of_ble_eq_true rfl)
  rw [lg_entry_eq]
  generalize (lg_sl ([.int n]) ++ List.replicate (1 - (lg_sl ([.int n])).length) Slot.unset).toArray = ls at hl ⊢
  have hl : lv_has ls 1 [(0, .int n)] := hl
  refine lv_iload_n hx hb dC_orderedPairs_0 rfl (lv_at hl 0 rfl) ?_
  refine lv_iload_n hx hb dC_orderedPairs_1 rfl (lv_at hl 0 rfl) ?_
  refine lv_iconst (v := 1) hx hb dC_orderedPairs_2 (by decide) ?_
  refine lv_isub hx hb dC_orderedPairs_3 ?_
  refine lv_imul hx hb dC_orderedPairs_4 ?_
  exact W.iret (v := n * (n - 1)) hx hb hr (fun t ht hW => ⟨⟨_, (), rfl, rfl, trivial⟩, hS.F ht⟩) hS.2.2 dC_orderedPairs_5
set_option maxHeartbeats 4000000 in
set_option maxRecDepth 100000 in
theorem kC_quotient (l : Launch) (a b : Int32) : Met l yC_quotient wC_quotient (rm 0 0 0) (va_Pc [.int a, .int b] (fun _ => True)) (va_Qi (fun r (_ : Unit) => r = if b = 0 then 0 else a / b) (fun _ _ => True) (fun _ => False)) 0 0 (fun _ => False) := by
  refine Met.ofW (cc := cC_quotient) (maxL := 2) (ret := (some .int)) (by decide) rfl ?_
  intro p e s m args below meth c s₁ B hml hv
  obtain ⟨rfl, -⟩ := hv
  have hx := B.exec
  have hb := B.bytes
  have hr := B.returns
  have hT : ∀ w ∈ TB, w.before _ s = true := fun w hw => atoms_spec (ws := wC_quotient) B.pre w (List.mem_cons_of_mem _ hw)
  have hown : s.vm.findClass "CountLeast" = some m.cls := findClass_of_methodNamed B.named
  have hlocks := B.notSynchronized
  have hS : va_S (fun _ => False) s.heap s.heap [] := va_S.rf
  have hl := lv_entry ([.int a, .int b]) (n := 2) (Nat.le_of_ble_eq_true rfl)
  rw [lg_entry_eq]
  generalize (lg_sl ([.int a, .int b]) ++ List.replicate (2 - (lg_sl ([.int a, .int b])).length) Slot.unset).toArray = ls at hl ⊢
  have hl : lv_has ls 2 [(0, .int a), (1, .int b)] := hl
  refine lv_iload_n hx hb dC_quotient_0 rfl (lv_at hl 1 rfl) ?_
  refine lv_if_ne (tgt := 8) hx hb dC_quotient_1 (by decide) (fun c_1 => ?_) (fun c_1 => ?_)
  · refine lv_iload_n hx hb dC_quotient_8 rfl (lv_at hl 0 rfl) ?_
    refine lv_iload_n hx hb dC_quotient_9 rfl (lv_at hl 1 rfl) ?_
    refine lv_idiv hx hb dC_quotient_10 c_1 ?_
    exact W.iret (v := a / b) hx hb hr (fun t ht hW => ⟨⟨_, (), rfl, by simp [c_1], trivial⟩, hS.F ht⟩) hS.2.2 dC_quotient_11
  · refine lv_iconst (v := 0) hx hb dC_quotient_4 (by decide) ?_
    refine lv_goto (tgt := 11) hx hb dC_quotient_5 (by decide) ?_
    exact W.iret (v := 0) hx hb hr (fun t ht hW => ⟨⟨_, (), rfl, by simp [c_1], trivial⟩, hS.F ht⟩) hS.2.2 dC_quotient_11
