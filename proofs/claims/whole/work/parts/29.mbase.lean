theorem in_1 {v a b : Int32} (h1 : ¬ v < a) (h2 : v ≤ b) : ¬ rb v a b := not_or.mpr ⟨h1, fun q => q h2⟩
set_option maxHeartbeats 4000000 in
set_option maxRecDepth 100000 in
theorem kM_in (l : Launch) (v a b : Int32) : Met l yM_in wM_in (rm 0 0 0) (va_Pc [.int v, .int a, .int b] (fun _ => True)) (va_Qi (fun r (_ : Unit) => (r = 1 ∧ ¬ rb v a b) ∨ (r = 0 ∧ rb v a b)) (fun _ _ => True) (fun _ => False)) 0 0 (fun _ => False) := by
  refine Met.ofW (cc := cM_in) (maxL := 3) (ret := (some .boolean)) (by decide) rfl ?_
  intro p e s m args below meth c s₁ B hml hv
  obtain ⟨rfl, -⟩ := hv
  have hx := B.exec
  have hb := B.bytes
  have hr := B.returns
  have hT : ∀ w ∈ TB, w.before _ s = true := fun w hw => atoms_spec (ws := wM_in) B.pre w (List.mem_cons_of_mem _ hw)
  have hown : s.vm.findClass "CountLeastModel" = some m.cls := findClass_of_methodNamed B.named
  have hlocks := B.notSynchronized
  have hS : va_S (fun _ => False) s.heap s.heap [] := va_S.rf
  have hl := lv_entry ([.int v, .int a, .int b]) (n := 3) (Nat.le_of_ble_eq_true rfl)
  rw [lg_entry_eq]
  generalize (lg_sl ([.int v, .int a, .int b]) ++ List.replicate (3 - (lg_sl ([.int v, .int a, .int b])).length) Slot.unset).toArray = ls at hl ⊢
  have hl : lv_has ls 3 [(0, .int v), (1, .int a), (2, .int b)] := hl
  refine lv_iload_n hx hb dM_in_0 rfl (lv_at hl 0 rfl) ?_
  refine lv_iload_n hx hb dM_in_1 rfl (lv_at hl 1 rfl) ?_
  refine lv_icmp_lt (tgt := 14) hx hb dM_in_2 (by decide) (fun c_1 => ?_) (fun c_1 => ?_)
  · refine lv_iconst (v := 0) hx hb dM_in_14 (by decide) ?_
    exact W.zret (v := 0) hx hb hr rfl (fun t ht hW => ⟨⟨_, (), rfl, Or.inr ⟨rfl, Or.inl c_1⟩, trivial⟩, hS.F ht⟩) hS.2.2 dM_in_15
  · refine lv_iload_n hx hb dM_in_5 rfl (lv_at hl 0 rfl) ?_
    refine lv_iload_n hx hb dM_in_6 rfl (lv_at hl 2 rfl) ?_
    refine lv_icmp_gt (tgt := 14) hx hb dM_in_7 (by decide) (fun c_2 => ?_) (fun c_2 => ?_)
    · refine lv_iconst (v := 0) hx hb dM_in_14 (by decide) ?_
      exact W.zret (v := 0) hx hb hr rfl (fun t ht hW => ⟨⟨_, (), rfl, Or.inr ⟨rfl, Or.inr (Int32.not_le.mpr c_2)⟩, trivial⟩, hS.F ht⟩) hS.2.2 dM_in_15
    · refine lv_iconst (v := 1) hx hb dM_in_10 (by decide) ?_
      refine lv_goto (tgt := 15) hx hb dM_in_11 (by decide) ?_
      exact W.zret (v := 1) hx hb hr rfl (fun t ht hW => ⟨⟨_, (), rfl, Or.inl ⟨rfl, in_1 c_1 (Int32.not_lt.mp c_2)⟩, trivial⟩, hS.F ht⟩) hS.2.2 dM_in_15
set_option maxHeartbeats 4000000 in
set_option maxRecDepth 100000 in
theorem kM_isKind (l : Launch) (k : Int32) : Met l yM_isKind wM_isKind (rm 1 0 0) (va_Pc [.int k] (fun _ => True)) (va_Qi (fun r (_ : Unit) => (r = 1 ∧ ¬ ib k 6) ∨ (r = 0 ∧ ib k 6)) (fun _ _ => True) (fun _ => False)) 0 0 (fun _ => False) := by
  refine Met.ofW (cc := cM_isKind) (maxL := 1) (ret := (some .boolean)) (by decide) rfl ?_
  intro p e s m args below meth c s₁ B hml hv
  obtain ⟨rfl, -⟩ := hv
  have hx := B.exec
  have hb := B.bytes
  have hr := B.returns
  have hT : ∀ w ∈ TB, w.before _ s = true := fun w hw => atoms_spec (ws := wM_isKind) B.pre w (List.mem_cons_of_mem _ hw)
  have hown : s.vm.findClass "CountLeastModel" = some m.cls := findClass_of_methodNamed B.named
  have hlocks := B.notSynchronized
  have hS : va_S (fun _ => False) s.heap s.heap [] := va_S.rf
  let D : va_G := (fun _ => m.cls, fun _ _ => 0)
  have hP : va_P D vwCl [] s.heap := fun k q hq => by simp at hq
  have hl := lv_entry ([.int k]) (n := 1) (Nat.le_of_ble_eq_true rfl)
  rw [lg_entry_eq]
  generalize (lg_sl ([.int k]) ++ List.replicate (1 - (lg_sl ([.int k])).length) Slot.unset).toArray = ls at hl ⊢
  have hl : lv_has ls 1 [(0, .int k)] := hl
  refine lv_iload_n hx hb dM_isKind_0 rfl (lv_at hl 0 rfl) ?_
  refine lv_iconst (v := 0) hx hb dM_isKind_1 (by decide) ?_
  refine lv_iconst (v := 5) hx hb dM_isKind_2 (by decide) ?_
  refine kSi (n := 3) (D := D) (As := [.int k, .int 0, .int 5]) (rest := []) ⟨hx, hb, hml, hown, hT⟩ (kM_in l k 0 5) (gi_S wm_574 wm_575 wm_4 wm_576) rfl rfl (by decide +kernel) ⟨(Nat.le_of_ble_eq_true rfl), (Nat.le_of_ble_eq_true rfl)⟩ hP hS rfl hl.1 rfl (Nat.le_of_ble_eq_true rfl) dM_isKind_3 ⟨(Nat.le_of_ble_eq_true rfl), (Nat.le_of_ble_eq_true rfl)⟩ (fun r_1 H locs e_2 hz hP hS => ?_)
  rcases e_2 with ⟨rfl, f_3⟩ | ⟨rfl, f_3⟩
  · exact W.zret (v := 1) hx hb hr rfl (fun t ht hW => ⟨⟨_, (), rfl, Or.inl ⟨rfl, ib_nb (n := 6) (by decide) (by decide) f_3⟩, trivial⟩, hS.F ht⟩) hS.2.2 dM_isKind_6
  · exact W.zret (v := 0) hx hb hr rfl (fun t ht hW => ⟨⟨_, (), rfl, Or.inr ⟨rfl, ib_yb (n := 6) (by decide) (by decide) f_3⟩, trivial⟩, hS.F ht⟩) hS.2.2 dM_isKind_6
theorem ibP {v : Int32} {n : Nat} (h : n ≤ 72) : rb v 0 (nI n - 1) ↔ ib v (nI n) := by
  rcases Nat.eq_zero_or_pos n with rfl | h0
  · unfold rb ib
    have e : v ≤ nI 0 - 1 ↔ v < nI 0 := by
      rw [Int32.le_iff_toInt_le, Int32.lt_iff_toInt_lt, show (nI 0 - 1).toInt = -1 by decide, show (nI 0).toInt = 0 by decide]
      omega
    rw [e]
  · rw [show (1 : Int32) = nI 1 from rfl, pk_sub h0]
    exact rb_ib h0 (by omega)
set_option maxHeartbeats 4000000 in
set_option maxRecDepth 100000 in
theorem kM_isPiece (l : Launch) (D : va_G) (CA : Nat → ClassId) (g : Nat → Nat → Int32) (ad : Nat → Nat) (sz : Nat) (h : Nat → Nat → Nat) (jp : Nat → Nat) (hm : MI g h jp) (q : Int32) : Met l yM_isPiece wM_isPiece (rm 1 0 0) (va_Pc [.ref (ad 0), .int q] (gpre D (cty CA) (mw CA g ad) sz)) (va_Qi (fun r (u : Nat → Nat → Int32) => u = g ∧ ((r = 1 ∧ ¬ ib q (nI (h 0 0))) ∨ (r = 0 ∧ ib q (nI (h 0 0))))) (fun u t => gpost D (cty CA) (mw CA u ad) (mA ad sz) t) (mA ad sz)) 0 0 (mA ad sz) := by
  refine Met.ofW (cc := cM_isPiece) (maxL := 2) (ret := (some .boolean)) (by decide) rfl ?_
  intro p e s m args below meth c s₁ B hml hv
  obtain ⟨rfl, hsz, hP, hK, hD0⟩ := hv
  have hx := B.exec
  have hb := B.bytes
  have hr := B.returns
  have hT : ∀ w ∈ TB, w.before _ s = true := fun w hw => atoms_spec (ws := wM_isPiece) B.pre w (List.mem_cons_of_mem _ hw)
  have hown : s.vm.findClass "CountLeastModel" = some m.cls := findClass_of_methodNamed B.named
  have hlocks := B.notSynchronized
  subst hsz
  have hD := nA_self (sz := s.heap.size) hD0
  have hS : va_S (mA ad s.heap.size) s.heap s.heap [] := va_S.rf
  have hP : va_P D vwCl (mw CA g ad) s.heap := hP
  have hl := lv_entry ([.ref (ad 0), .int q]) (n := 2) (Nat.le_of_ble_eq_true rfl)
  rw [lg_entry_eq]
  generalize (lg_sl ([.ref (ad 0), .int q]) ++ List.replicate (2 - (lg_sl ([.ref (ad 0), .int q])).length) Slot.unset).toArray = ls at hl ⊢
  have hl : lv_has ls 2 [(0, .ref (ad 0)), (1, .int q)] := hl
  refine lv_iload_n hx hb dM_isPiece_0 rfl (lv_at hl 1 rfl) ?_
  refine lv_iconst (v := 0) hx hb dM_isPiece_1 (by decide) ?_
  refine lv_aload_n hx hb dM_isPiece_2 rfl (lv_at hl 0 rfl) ?_
  refine va_get (D := D) (ci := 4) (C := RM) (T := TM) (N := 21) hx hb hT inM hown hK hP (0) (mw_O) rfl 1 (by decide) (hT _ wm_500) (fun _ h9 => h9) rfl dM_isPiece_3 ?_
  refine W.eq (g2 := F0 m 6 ls [.int (nI (h 0 0)), .int 0, .int q]) (by rw [hm.many]) ?_
  refine lv_iconst (v := 1) hx hb dM_isPiece_6 (by decide) ?_
  refine lv_isub hx hb dM_isPiece_7 ?_
  refine kSi (n := 3) (D := D) (As := [.int q, .int 0, .int ((nI (h 0 0)) - 1)]) (rest := []) ⟨hx, hb, hml, hown, hT⟩ (kM_in l q 0 ((nI (h 0 0)) - 1)) (gi_S wm_574 wm_575 wm_4 wm_576) rfl rfl (by decide +kernel) ⟨(Nat.le_of_ble_eq_true rfl), (Nat.le_of_ble_eq_true rfl)⟩ hP hS rfl hl.1 rfl (Nat.le_of_ble_eq_true rfl) dM_isPiece_8 ⟨(Nat.le_of_ble_eq_true rfl), (Nat.le_of_ble_eq_true rfl)⟩ (fun r_1 H locs e_2 hz hP hS => ?_)
  rcases e_2 with ⟨rfl, f_3⟩ | ⟨rfl, f_3⟩
  · exact W.zret (v := 1) hx hb hr rfl (fun t ht hW => ⟨⟨_, g, rfl, ⟨rfl, Or.inl ⟨rfl, fun a => f_3 ((ibP hm.le).mpr a)⟩⟩, gpost_at hP hK hD ht hW.alike⟩, hS.F ht⟩) hS.2.2 dM_isPiece_11
  · exact W.zret (v := 0) hx hb hr rfl (fun t ht hW => ⟨⟨_, g, rfl, ⟨rfl, Or.inr ⟨rfl, (ibP hm.le).mp f_3⟩⟩, gpost_at hP hK hD ht hW.alike⟩, hS.F ht⟩) hS.2.2 dM_isPiece_11
set_option maxHeartbeats 4000000 in
set_option maxRecDepth 100000 in
theorem kM_throwing (l : Launch) (D : va_G) (CA : Nat → ClassId) (g : Nat → Nat → Int32) (ad : Nat → Nat) (sz : Nat) (a b d : Int32) : Met l yM_throwing wM_throwing (rm 0 0 0) (va_Pc [.ref (ad 0), .int a, .int b, .int d] (gpre D (cty CA) (mw CA g ad) sz)) (va_Qi (fun r (u : Nat → Nat → Int32) => r = (if tzv a b d ≤ 0 then 0 else 1) ∧ u = u2 g 0 0 (tzv a b d)) (fun u t => gpost D (cty CA) (mw CA u ad) (mA ad sz) t) (mA ad sz)) 0 0 (mA ad sz) := by
  refine Met.ofW (cc := cM_throwing) (maxL := 4) (ret := (some .boolean)) (by decide) rfl ?_
  intro p e s m args below meth c s₁ B hml hv
  obtain ⟨rfl, hsz, hP, hK, hD0⟩ := hv
  have hx := B.exec
  have hb := B.bytes
  have hr := B.returns
  have hT : ∀ w ∈ TB, w.before _ s = true := fun w hw => atoms_spec (ws := wM_throwing) B.pre w (List.mem_cons_of_mem _ hw)
  have hown : s.vm.findClass "CountLeastModel" = some m.cls := findClass_of_methodNamed B.named
  have hlocks := B.notSynchronized
  subst hsz
  have hD := nA_self (sz := s.heap.size) hD0
  have hS : va_S (mA ad s.heap.size) s.heap s.heap [] := va_S.rf
  have hP : va_P D vwCl (mw CA g ad) s.heap := hP
  have hl := lv_entry ([.ref (ad 0), .int a, .int b, .int d]) (n := 4) (Nat.le_of_ble_eq_true rfl)
  rw [lg_entry_eq]
  generalize (lg_sl ([.ref (ad 0), .int a, .int b, .int d]) ++ List.replicate (4 - (lg_sl ([.ref (ad 0), .int a, .int b, .int d])).length) Slot.unset).toArray = ls at hl ⊢
  have hl : lv_has ls 4 [(0, .ref (ad 0)), (1, .int a), (2, .int b), (3, .int d)] := hl
  refine lv_aload_n hx hb dM_throwing_0 rfl (lv_at hl 0 rfl) ?_
  refine lv_iload_n hx hb dM_throwing_1 rfl (lv_at hl 1 rfl) ?_
  refine lv_if_eq (tgt := 9) hx hb dM_throwing_2 (by decide) (fun c_1 => ?_) (fun c_1 => ?_)
  · refine lv_iload_n hx hb dM_throwing_9 rfl (lv_at hl 2 rfl) ?_
    refine lv_if_eq (tgt := 17) hx hb dM_throwing_10 (by decide) (fun c_2 => ?_) (fun c_2 => ?_)
    · refine lv_iload_n hx hb dM_throwing_17 rfl (lv_at hl 3 rfl) ?_
      refine lv_if_eq (tgt := 25) hx hb dM_throwing_18 (by decide) (fun c_3 => ?_) (fun c_3 => ?_)
      · refine lv_iconst (v := 0) hx hb dM_throwing_25 (by decide) ?_
        refine va_put (D := D) (ci := 4) (v := .int 0) (ty := .int) (C := RM) (T := TM) (N := 21) hx hb hT inM tyM tyokM nmM hown hK hP hD hS (0) (mw_O) rfl 0 (by decide) (hT _ wm_499) (fun _ h9 => h9) rfl (by decide +kernel) rfl rfl (Nat.le_of_ble_eq_true rfl) dM_throwing_26 (fun H locs hP hD hS => ?_)
        rw [mw_sO (by simp)] at hP hD
        refine lv_aload_n hx hb dM_throwing_29 rfl (lv_at hl 0 rfl) ?_
        refine va_get (D := D) (ci := 4) (C := RM) (T := TM) (N := 21) hx hb hT inM hown hK hP (0) (mw_O) rfl 0 (by decide) (hT _ wm_499) (fun _ h9 => h9) rfl dM_throwing_30 ?_
        refine W.eq (g2 := F0 m 33 ls [.int 0]) (by rw [u2_s]) ?_
        refine lv_if_le (tgt := 40) hx hb dM_throwing_33 (by decide) (fun c_4 => ?_) (fun c_4 => absurd (by decide) c_4)
        refine lv_iconst (v := 0) hx hb dM_throwing_40 (by decide) ?_
        exact W.zret (v := 0) hx hb hr rfl (fun t ht hW => ⟨⟨_, (u2 g (0) 0 0), rfl, ⟨by simp [tzv, c_1, c_2, c_3], by simp [tzv, c_1, c_2, c_3]⟩, gpost_at hP hK hD ht hW.alike⟩, hS.F ht⟩) hS.2.2 dM_throwing_41
      · refine lv_iconst (v := 3) hx hb dM_throwing_21 (by decide) ?_
        refine lv_goto (tgt := 26) hx hb dM_throwing_22 (by decide) ?_
        refine va_put (D := D) (ci := 4) (v := .int 3) (ty := .int) (C := RM) (T := TM) (N := 21) hx hb hT inM tyM tyokM nmM hown hK hP hD hS (0) (mw_O) rfl 0 (by decide) (hT _ wm_499) (fun _ h9 => h9) rfl (by decide +kernel) rfl rfl (Nat.le_of_ble_eq_true rfl) dM_throwing_26 (fun H locs hP hD hS => ?_)
        rw [mw_sO (by simp)] at hP hD
        refine lv_aload_n hx hb dM_throwing_29 rfl (lv_at hl 0 rfl) ?_
        refine va_get (D := D) (ci := 4) (C := RM) (T := TM) (N := 21) hx hb hT inM hown hK hP (0) (mw_O) rfl 0 (by decide) (hT _ wm_499) (fun _ h9 => h9) rfl dM_throwing_30 ?_
        refine W.eq (g2 := F0 m 33 ls [.int 3]) (by rw [u2_s]) ?_
        refine lv_if_le (tgt := 40) hx hb dM_throwing_33 (by decide) (fun c_5 => absurd c_5 (by decide)) (fun c_5 => ?_)
        refine lv_iconst (v := 1) hx hb dM_throwing_36 (by decide) ?_
        refine lv_goto (tgt := 41) hx hb dM_throwing_37 (by decide) ?_
        exact W.zret (v := 1) hx hb hr rfl (fun t ht hW => ⟨⟨_, (u2 g (0) 0 3), rfl, ⟨by simp [tzv, c_1, c_2, c_3], by simp [tzv, c_1, c_2, c_3]⟩, gpost_at hP hK hD ht hW.alike⟩, hS.F ht⟩) hS.2.2 dM_throwing_41
    · refine lv_iconst (v := 2) hx hb dM_throwing_13 (by decide) ?_
      refine lv_goto (tgt := 26) hx hb dM_throwing_14 (by decide) ?_
      refine va_put (D := D) (ci := 4) (v := .int 2) (ty := .int) (C := RM) (T := TM) (N := 21) hx hb hT inM tyM tyokM nmM hown hK hP hD hS (0) (mw_O) rfl 0 (by decide) (hT _ wm_499) (fun _ h9 => h9) rfl (by decide +kernel) rfl rfl (Nat.le_of_ble_eq_true rfl) dM_throwing_26 (fun H locs hP hD hS => ?_)
      rw [mw_sO (by simp)] at hP hD
      refine lv_aload_n hx hb dM_throwing_29 rfl (lv_at hl 0 rfl) ?_
      refine va_get (D := D) (ci := 4) (C := RM) (T := TM) (N := 21) hx hb hT inM hown hK hP (0) (mw_O) rfl 0 (by decide) (hT _ wm_499) (fun _ h9 => h9) rfl dM_throwing_30 ?_
      refine W.eq (g2 := F0 m 33 ls [.int 2]) (by rw [u2_s]) ?_
      refine lv_if_le (tgt := 40) hx hb dM_throwing_33 (by decide) (fun c_6 => absurd c_6 (by decide)) (fun c_6 => ?_)
      refine lv_iconst (v := 1) hx hb dM_throwing_36 (by decide) ?_
      refine lv_goto (tgt := 41) hx hb dM_throwing_37 (by decide) ?_
      exact W.zret (v := 1) hx hb hr rfl (fun t ht hW => ⟨⟨_, (u2 g (0) 0 2), rfl, ⟨by simp [tzv, c_1, c_2], by simp [tzv, c_1, c_2]⟩, gpost_at hP hK hD ht hW.alike⟩, hS.F ht⟩) hS.2.2 dM_throwing_41
  · refine lv_iconst (v := 1) hx hb dM_throwing_5 (by decide) ?_
    refine lv_goto (tgt := 26) hx hb dM_throwing_6 (by decide) ?_
    refine va_put (D := D) (ci := 4) (v := .int 1) (ty := .int) (C := RM) (T := TM) (N := 21) hx hb hT inM tyM tyokM nmM hown hK hP hD hS (0) (mw_O) rfl 0 (by decide) (hT _ wm_499) (fun _ h9 => h9) rfl (by decide +kernel) rfl rfl (Nat.le_of_ble_eq_true rfl) dM_throwing_26 (fun H locs hP hD hS => ?_)
    rw [mw_sO (by simp)] at hP hD
    refine lv_aload_n hx hb dM_throwing_29 rfl (lv_at hl 0 rfl) ?_
    refine va_get (D := D) (ci := 4) (C := RM) (T := TM) (N := 21) hx hb hT inM hown hK hP (0) (mw_O) rfl 0 (by decide) (hT _ wm_499) (fun _ h9 => h9) rfl dM_throwing_30 ?_
    refine W.eq (g2 := F0 m 33 ls [.int 1]) (by rw [u2_s]) ?_
    refine lv_if_le (tgt := 40) hx hb dM_throwing_33 (by decide) (fun c_7 => absurd c_7 (by decide)) (fun c_7 => ?_)
    refine lv_iconst (v := 1) hx hb dM_throwing_36 (by decide) ?_
    refine lv_goto (tgt := 41) hx hb dM_throwing_37 (by decide) ?_
    exact W.zret (v := 1) hx hb hr rfl (fun t ht hW => ⟨⟨_, (u2 g (0) 0 1), rfl, ⟨by simp [tzv, c_1], by simp [tzv, c_1]⟩, gpost_at hP hK hD ht hW.alike⟩, hS.F ht⟩) hS.2.2 dM_throwing_41
theorem th_000 {r : Int32} {u g : Nat → Nat → Int32} (w : r = (if tzv 0 0 0 ≤ 0 then 0 else 1) ∧ u = u2 g 0 0 (tzv 0 0 0)) : r = 0 ∧ u = u2 g 0 0 0 := by
  rw [show tzv 0 0 0 = 0 by decide] at w
  exact ⟨w.1.trans (by decide), w.2⟩
theorem th_001 {r : Int32} {u g : Nat → Nat → Int32} (w : r = (if tzv 0 0 1 ≤ 0 then 0 else 1) ∧ u = u2 g 0 0 (tzv 0 0 1)) : r = 1 ∧ u = u2 g 0 0 3 := by
  rw [show tzv 0 0 1 = 3 by decide] at w
  exact ⟨w.1.trans (by decide), w.2⟩
theorem th_010 {r : Int32} {u g : Nat → Nat → Int32} (w : r = (if tzv 0 1 0 ≤ 0 then 0 else 1) ∧ u = u2 g 0 0 (tzv 0 1 0)) : r = 1 ∧ u = u2 g 0 0 2 := by
  rw [show tzv 0 1 0 = 2 by decide] at w
  exact ⟨w.1.trans (by decide), w.2⟩
theorem th_011 {r : Int32} {u g : Nat → Nat → Int32} (w : r = (if tzv 0 1 1 ≤ 0 then 0 else 1) ∧ u = u2 g 0 0 (tzv 0 1 1)) : r = 1 ∧ u = u2 g 0 0 2 := by
  rw [show tzv 0 1 1 = 2 by decide] at w
  exact ⟨w.1.trans (by decide), w.2⟩
theorem th_100 {r : Int32} {u g : Nat → Nat → Int32} (w : r = (if tzv 1 0 0 ≤ 0 then 0 else 1) ∧ u = u2 g 0 0 (tzv 1 0 0)) : r = 1 ∧ u = u2 g 0 0 1 := by
  rw [show tzv 1 0 0 = 1 by decide] at w
  exact ⟨w.1.trans (by decide), w.2⟩
theorem th_101 {r : Int32} {u g : Nat → Nat → Int32} (w : r = (if tzv 1 0 1 ≤ 0 then 0 else 1) ∧ u = u2 g 0 0 (tzv 1 0 1)) : r = 1 ∧ u = u2 g 0 0 1 := by
  rw [show tzv 1 0 1 = 1 by decide] at w
  exact ⟨w.1.trans (by decide), w.2⟩
theorem th_110 {r : Int32} {u g : Nat → Nat → Int32} (w : r = (if tzv 1 1 0 ≤ 0 then 0 else 1) ∧ u = u2 g 0 0 (tzv 1 1 0)) : r = 1 ∧ u = u2 g 0 0 1 := by
  rw [show tzv 1 1 0 = 1 by decide] at w
  exact ⟨w.1.trans (by decide), w.2⟩
theorem th_111 {r : Int32} {u g : Nat → Nat → Int32} (w : r = (if tzv 1 1 1 ≤ 0 then 0 else 1) ∧ u = u2 g 0 0 (tzv 1 1 1)) : r = 1 ∧ u = u2 g 0 0 1 := by
  rw [show tzv 1 1 1 = 1 by decide] at w
  exact ⟨w.1.trans (by decide), w.2⟩
set_option maxHeartbeats 4000000 in
set_option maxRecDepth 100000 in
theorem kM_thrown (l : Launch) (D : va_G) (CA : Nat → ClassId) (g : Nat → Nat → Int32) (ad : Nat → Nat) (sz : Nat)  : Met l yM_thrown wM_thrown (rm 0 0 0) (va_Pc [.ref (ad 0)] (gpre D (cty CA) (mw CA g ad) sz)) (va_Qi (fun r (u : Nat → Nat → Int32) => r = g 0 0 ∧ u = g) (fun u t => gpost D (cty CA) (mw CA u ad) (mA ad sz) t) (mA ad sz)) 0 0 (mA ad sz) := by
  refine Met.ofW (cc := cM_thrown) (maxL := 1) (ret := (some .int)) (by decide) rfl ?_
  intro p e s m args below meth c s₁ B hml hv
  obtain ⟨rfl, hsz, hP, hK, hD0⟩ := hv
  have hx := B.exec
  have hb := B.bytes
  have hr := B.returns
  have hT : ∀ w ∈ TB, w.before _ s = true := fun w hw => atoms_spec (ws := wM_thrown) B.pre w (List.mem_cons_of_mem _ hw)
  have hown : s.vm.findClass "CountLeastModel" = some m.cls := findClass_of_methodNamed B.named
  have hlocks := B.notSynchronized
  subst hsz
  have hD := nA_self (sz := s.heap.size) hD0
  have hS : va_S (mA ad s.heap.size) s.heap s.heap [] := va_S.rf
  have hP : va_P D vwCl (mw CA g ad) s.heap := hP
  have hl := lv_entry ([.ref (ad 0)]) (n := 1) (Nat.le_of_ble_eq_true rfl)
  rw [lg_entry_eq]
  generalize (lg_sl ([.ref (ad 0)]) ++ List.replicate (1 - (lg_sl ([.ref (ad 0)])).length) Slot.unset).toArray = ls at hl ⊢
  have hl : lv_has ls 1 [(0, .ref (ad 0))] := hl
  refine lv_aload_n hx hb dM_thrown_0 rfl (lv_at hl 0 rfl) ?_
  refine va_get (D := D) (ci := 4) (C := RM) (T := TM) (N := 21) hx hb hT inM hown hK hP (0) (mw_O) rfl 0 (by decide) (hT _ wm_499) (fun _ h9 => h9) rfl dM_thrown_1 ?_
  exact W.iret (v := g 0 0) hx hb hr (fun t ht hW => ⟨⟨_, g, rfl, ⟨rfl, rfl⟩, gpost_at hP hK hD ht hW.alike⟩, hS.F ht⟩) hS.2.2 dM_thrown_4
