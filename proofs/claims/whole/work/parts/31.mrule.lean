/-! the model's rule on the numbers -/
def ruM (g : Nat → Nat → Int32) (k ja a b : Nat) : Int32 :=
  if (g 2 a == g 2 b && g 3 a == g 3 b && (decide (g 3 a < 2) || (g 3 a == 2 && g 10 (16 * k + ja) != 0))) = true then 1
  else if agB (g 5 a) (g 6 a) (g 5 b) (g 6 b) = true then 2
  else if (g 2 a == g 2 b && !decide (g 4 a ≤ 0) && !decide (g 4 b ≤ 0) && !decide ((if g 4 a ≤ g 4 b then g 4 b - g 4 a else g 4 a - g 4 b) ≤ g 11 k)) = true then 3 else 0
theorem ruM_le {g : Nat → Nat → Int32} {k ja a b : Nat} : ruM g k ja a b ≤ 0 ↔ ruM g k ja a b = 0 := by
  unfold ruM
  split
  · decide
  · split
    · decide
    · split <;> (first | decide | (split <;> decide))
def cM (g : Nat → Nat → Int32) (h : Nat → Nat → Nat) (jp : Nat → Nat) (k i j : Nat) : Bool := decide (¬ ruM g (h 2 (h (3 + k) i)) (jp (h (3 + k) i)) (h (3 + k) i) (h (3 + k) j) = 0)
set_option maxHeartbeats 4000000 in
set_option maxRecDepth 100000 in
theorem kM_rule (l : Launch) (D : va_G) (CA : Nat → ClassId) (g : Nat → Nat → Int32) (ad : Nat → Nat) (sz : Nat) (h : Nat → Nat → Nat) (jp : Nat → Nat) (hm : MI g h jp) (a b : Nat) (ha : a < h 0 0) (hb9 : b < h 0 0) : Met l yM_rule wM_rule (rm 0 0 0) (va_Pc [.ref (ad 0), .int (nI a), .int (nI b)] (gpre D (cty CA) (mw CA g ad) sz)) (va_Qi (fun r (u : Nat → Nat → Int32) => r = ruM g (h 2 a) (jp a) a b ∧ u = g) (fun u t => gpost D (cty CA) (mw CA u ad) (mA ad sz) t) (mA ad sz)) 0 0 (mA ad sz) := by
  refine Met.ofW (cc := cM_rule) (maxL := 5) (ret := (some .int)) (by decide) rfl ?_
  intro p e s m args below meth c s₁ B hml hv
  obtain ⟨rfl, hsz, hP, hK, hD0⟩ := hv
  have hx := B.exec
  have hb := B.bytes
  have hr := B.returns
  have hT : ∀ w ∈ TB, w.before _ s = true := fun w hw => atoms_spec (ws := wM_rule) B.pre w (List.mem_cons_of_mem _ hw)
  have hown : s.vm.findClass "CountLeastModel" = some m.cls := findClass_of_methodNamed B.named
  have hlocks := B.notSynchronized
  subst hsz
  have hD := nA_self (sz := s.heap.size) hD0
  have hS : va_S (mA ad s.heap.size) s.heap s.heap [] := va_S.rf
  have hP : va_P D vwCl (mw CA g ad) s.heap := hP
  have hl := lv_entry ([.ref (ad 0), .int (nI a), .int (nI b)]) (n := 5) (Nat.le_of_ble_eq_true rfl)
  rw [lg_entry_eq]
  generalize (lg_sl ([.ref (ad 0), .int (nI a), .int (nI b)]) ++ List.replicate (5 - (lg_sl ([.ref (ad 0), .int (nI a), .int (nI b)])).length) Slot.unset).toArray = ls at hl ⊢
  have hl : lv_has ls 5 [(0, .ref (ad 0)), (1, .int (nI a)), (2, .int (nI b))] := hl
  have h72 := hm.le
  have hk6 := hm.k6 ha
  have hj6 := hm.j16 ha
  refine lv_aload_n hx hb dM_rule_0 rfl (lv_at hl 0 rfl) ?_
  refine va_get (D := D) (ci := 4) (C := RM) (T := TM) (N := 21) hx hb hT inM hown hK hP (0) (mw_O) rfl 3 (by decide) (hT _ wm_502) (fun _ h9 => h9) rfl dM_rule_1 ?_
  refine lv_iload_n hx hb dM_rule_4 rfl (lv_at hl 1 rfl) ?_
  refine va_iald (D := D) hx hb hK hP (2) 0 (mw_a2) rfl (vp_in_nI (by omega) (by decide)) dM_rule_5 ?_
  rw [nI_clamp (n := a) (by omega)]
  refine lv_aload_n hx hb dM_rule_6 rfl (lv_at hl 0 rfl) ?_
  refine va_get (D := D) (ci := 4) (C := RM) (T := TM) (N := 21) hx hb hT inM hown hK hP (0) (mw_O) rfl 3 (by decide) (hT _ wm_502) (fun _ h9 => h9) rfl dM_rule_7 ?_
  refine lv_iload_n hx hb dM_rule_10 rfl (lv_at hl 2 rfl) ?_
  refine va_iald (D := D) hx hb hK hP (2) 0 (mw_a2) rfl (vp_in_nI (by omega) (by decide)) dM_rule_11 ?_
  rw [nI_clamp (n := b) (by omega)]
  refine lv_icmp_ne (tgt := 19) hx hb dM_rule_12 (by decide) (fun c_1 => ?_) (fun c_1 => ?_)
  · refine lv_iconst (v := 0) hx hb dM_rule_19 (by decide) ?_
    refine lv_istore_n (lv' := [(3, .int 0), (0, .ref (ad 0)), (1, .int (nI a)), (2, .int (nI b))]) hx hb dM_rule_20 rfl hl (by decide) rfl (fun ls hl => ?_)
    refine lv_iload_n hx hb dM_rule_21 rfl (lv_at hl 0 rfl) ?_
    refine lv_if_eq (tgt := 86) hx hb dM_rule_22 (by decide) (fun c_2 => ?_) (fun c_2 => absurd (by decide) c_2)
    refine lv_aload_n hx hb dM_rule_86 rfl (lv_at hl 1 rfl) ?_
    refine va_get (D := D) (ci := 4) (C := RM) (T := TM) (N := 21) hx hb hT inM hown hK hP (0) (mw_O) rfl 6 (by decide) (hT _ wm_505) (fun _ h9 => h9) rfl dM_rule_87 ?_
    refine lv_iload_n hx hb dM_rule_90 rfl (lv_at hl 2 rfl) ?_
    refine va_iald (D := D) hx hb hK hP (5) 0 (mw_a5) rfl (vp_in_nI (by omega) (by decide)) dM_rule_91 ?_
    rw [nI_clamp (n := a) (by omega)]
    refine lv_aload_n hx hb dM_rule_92 rfl (lv_at hl 1 rfl) ?_
    refine va_get (D := D) (ci := 4) (C := RM) (T := TM) (N := 21) hx hb hT inM hown hK hP (0) (mw_O) rfl 7 (by decide) (hT _ wm_506) (fun _ h9 => h9) rfl dM_rule_93 ?_
    refine lv_iload_n hx hb dM_rule_96 rfl (lv_at hl 3 rfl) ?_
    refine va_iald (D := D) hx hb hK hP (6) 0 (mw_a6) rfl (vp_in_nI (by omega) (by decide)) dM_rule_97 ?_
    rw [nI_clamp (n := b) (by omega)]
    refine lv_icmp_gt (tgt := 116) hx hb dM_rule_98 (by decide) (fun c_3 => ?_) (fun c_3 => ?_)
    · refine lv_iconst (v := 2) hx hb dM_rule_116 (by decide) ?_
      exact W.iret (v := 2) hx hb hr (fun t ht hW => ⟨⟨_, g, rfl, ⟨by simp [ruM, agB, c_1, c_3], rfl⟩, gpost_at hP hK hD ht hW.alike⟩, hS.F ht⟩) hS.2.2 dM_rule_117
    · refine lv_aload_n hx hb dM_rule_101 rfl (lv_at hl 1 rfl) ?_
      refine va_get (D := D) (ci := 4) (C := RM) (T := TM) (N := 21) hx hb hT inM hown hK hP (0) (mw_O) rfl 6 (by decide) (hT _ wm_505) (fun _ h9 => h9) rfl dM_rule_102 ?_
      refine lv_iload_n hx hb dM_rule_105 rfl (lv_at hl 3 rfl) ?_
      refine va_iald (D := D) hx hb hK hP (5) 0 (mw_a5) rfl (vp_in_nI (by omega) (by decide)) dM_rule_106 ?_
      rw [nI_clamp (n := b) (by omega)]
      refine lv_aload_n hx hb dM_rule_107 rfl (lv_at hl 1 rfl) ?_
      refine va_get (D := D) (ci := 4) (C := RM) (T := TM) (N := 21) hx hb hT inM hown hK hP (0) (mw_O) rfl 7 (by decide) (hT _ wm_506) (fun _ h9 => h9) rfl dM_rule_108 ?_
      refine lv_iload_n hx hb dM_rule_111 rfl (lv_at hl 2 rfl) ?_
      refine va_iald (D := D) hx hb hK hP (6) 0 (mw_a6) rfl (vp_in_nI (by omega) (by decide)) dM_rule_112 ?_
      rw [nI_clamp (n := a) (by omega)]
      refine lv_icmp_le (tgt := 118) hx hb dM_rule_113 (by decide) (fun c_4 => ?_) (fun c_4 => ?_)
      · refine lv_aload_n hx hb dM_rule_118 rfl (lv_at hl 1 rfl) ?_
        refine va_get (D := D) (ci := 4) (C := RM) (T := TM) (N := 21) hx hb hT inM hown hK hP (0) (mw_O) rfl 5 (by decide) (hT _ wm_504) (fun _ h9 => h9) rfl dM_rule_119 ?_
        refine lv_iload_n hx hb dM_rule_122 rfl (lv_at hl 2 rfl) ?_
        refine va_iald (D := D) hx hb hK hP (4) 0 (mw_a4) rfl (vp_in_nI (by omega) (by decide)) dM_rule_123 ?_
        rw [nI_clamp (n := a) (by omega)]
        refine lv_aload_n hx hb dM_rule_124 rfl (lv_at hl 1 rfl) ?_
        refine va_get (D := D) (ci := 4) (C := RM) (T := TM) (N := 21) hx hb hT inM hown hK hP (0) (mw_O) rfl 5 (by decide) (hT _ wm_504) (fun _ h9 => h9) rfl dM_rule_125 ?_
        refine lv_iload_n hx hb dM_rule_128 rfl (lv_at hl 3 rfl) ?_
        refine va_iald (D := D) hx hb hK hP (4) 0 (mw_a4) rfl (vp_in_nI (by omega) (by decide)) dM_rule_129 ?_
        rw [nI_clamp (n := b) (by omega)]
        refine lv_icmp_le (tgt := 149) hx hb dM_rule_130 (by decide) (fun c_5 => ?_) (fun c_5 => ?_)
        · refine lv_aload_n hx hb dM_rule_149 rfl (lv_at hl 1 rfl) ?_
          refine va_get (D := D) (ci := 4) (C := RM) (T := TM) (N := 21) hx hb hT inM hown hK hP (0) (mw_O) rfl 5 (by decide) (hT _ wm_504) (fun _ h9 => h9) rfl dM_rule_150 ?_
          refine lv_iload_n hx hb dM_rule_153 rfl (lv_at hl 3 rfl) ?_
          refine va_iald (D := D) hx hb hK hP (4) 0 (mw_a4) rfl (vp_in_nI (by omega) (by decide)) dM_rule_154 ?_
          rw [nI_clamp (n := b) (by omega)]
          refine lv_aload_n hx hb dM_rule_155 rfl (lv_at hl 1 rfl) ?_
          refine va_get (D := D) (ci := 4) (C := RM) (T := TM) (N := 21) hx hb hT inM hown hK hP (0) (mw_O) rfl 5 (by decide) (hT _ wm_504) (fun _ h9 => h9) rfl dM_rule_156 ?_
          refine lv_iload_n hx hb dM_rule_159 rfl (lv_at hl 2 rfl) ?_
          refine va_iald (D := D) hx hb hK hP (4) 0 (mw_a4) rfl (vp_in_nI (by omega) (by decide)) dM_rule_160 ?_
          rw [nI_clamp (n := a) (by omega)]
          refine lv_isub hx hb dM_rule_161 ?_
          refine lv_istore (lv' := [(4, .int ((g (4) b) - (g (4) a))), (3, .int 0), (0, .ref (ad 0)), (1, .int (nI a)), (2, .int (nI b))]) hx hb dM_rule_162 hl (by decide) rfl (fun ls hl => ?_)
          refine lv_iload_n hx hb dM_rule_164 rfl (lv_at hl 1 rfl) ?_
          refine lv_if_eq (tgt := 206) hx hb dM_rule_165 (by decide) (fun c_6 => ?_) (fun c_6 => absurd (by decide) c_6)
          refine lv_iconst (v := 0) hx hb dM_rule_206 (by decide) ?_
          exact W.iret (v := 0) hx hb hr (fun t ht hW => ⟨⟨_, g, rfl, ⟨by simp [ruM, agB, c_1, c_3, c_4, c_5], rfl⟩, gpost_at hP hK hD ht hW.alike⟩, hS.F ht⟩) hS.2.2 dM_rule_207
        · refine lv_aload_n hx hb dM_rule_133 rfl (lv_at hl 1 rfl) ?_
          refine va_get (D := D) (ci := 4) (C := RM) (T := TM) (N := 21) hx hb hT inM hown hK hP (0) (mw_O) rfl 5 (by decide) (hT _ wm_504) (fun _ h9 => h9) rfl dM_rule_134 ?_
          refine lv_iload_n hx hb dM_rule_137 rfl (lv_at hl 2 rfl) ?_
          refine va_iald (D := D) hx hb hK hP (4) 0 (mw_a4) rfl (vp_in_nI (by omega) (by decide)) dM_rule_138 ?_
          rw [nI_clamp (n := a) (by omega)]
          refine lv_aload_n hx hb dM_rule_139 rfl (lv_at hl 1 rfl) ?_
          refine va_get (D := D) (ci := 4) (C := RM) (T := TM) (N := 21) hx hb hT inM hown hK hP (0) (mw_O) rfl 5 (by decide) (hT _ wm_504) (fun _ h9 => h9) rfl dM_rule_140 ?_
          refine lv_iload_n hx hb dM_rule_143 rfl (lv_at hl 3 rfl) ?_
          refine va_iald (D := D) hx hb hK hP (4) 0 (mw_a4) rfl (vp_in_nI (by omega) (by decide)) dM_rule_144 ?_
          rw [nI_clamp (n := b) (by omega)]
          refine lv_isub hx hb dM_rule_145 ?_
          refine lv_goto (tgt := 162) hx hb dM_rule_146 (by decide) ?_
          refine lv_istore (lv' := [(4, .int ((g (4) a) - (g (4) b))), (3, .int 0), (0, .ref (ad 0)), (1, .int (nI a)), (2, .int (nI b))]) hx hb dM_rule_162 hl (by decide) rfl (fun ls hl => ?_)
          refine lv_iload_n hx hb dM_rule_164 rfl (lv_at hl 1 rfl) ?_
          refine lv_if_eq (tgt := 206) hx hb dM_rule_165 (by decide) (fun c_7 => ?_) (fun c_7 => absurd (by decide) c_7)
          refine lv_iconst (v := 0) hx hb dM_rule_206 (by decide) ?_
          exact W.iret (v := 0) hx hb hr (fun t ht hW => ⟨⟨_, g, rfl, ⟨by simp [ruM, agB, c_1, c_3, c_4, c_5], rfl⟩, gpost_at hP hK hD ht hW.alike⟩, hS.F ht⟩) hS.2.2 dM_rule_207
      · refine lv_iconst (v := 2) hx hb dM_rule_116 (by decide) ?_
        exact W.iret (v := 2) hx hb hr (fun t ht hW => ⟨⟨_, g, rfl, ⟨by simp [ruM, agB, c_1, c_3, c_4], rfl⟩, gpost_at hP hK hD ht hW.alike⟩, hS.F ht⟩) hS.2.2 dM_rule_117
  · refine lv_iconst (v := 1) hx hb dM_rule_15 (by decide) ?_
    refine lv_goto (tgt := 20) hx hb dM_rule_16 (by decide) ?_
    refine lv_istore_n (lv' := [(3, .int 1), (0, .ref (ad 0)), (1, .int (nI a)), (2, .int (nI b))]) hx hb dM_rule_20 rfl hl (by decide) rfl (fun ls hl => ?_)
    refine lv_iload_n hx hb dM_rule_21 rfl (lv_at hl 0 rfl) ?_
    refine lv_if_eq (tgt := 86) hx hb dM_rule_22 (by decide) (fun c_8 => absurd c_8 (by decide)) (fun c_8 => ?_)
    refine lv_aload_n hx hb dM_rule_25 rfl (lv_at hl 1 rfl) ?_
    refine va_get (D := D) (ci := 4) (C := RM) (T := TM) (N := 21) hx hb hT inM hown hK hP (0) (mw_O) rfl 4 (by decide) (hT _ wm_503) (fun _ h9 => h9) rfl dM_rule_26 ?_
    refine lv_iload_n hx hb dM_rule_29 rfl (lv_at hl 2 rfl) ?_
    refine va_iald (D := D) hx hb hK hP (3) 0 (mw_a3) rfl (vp_in_nI (by omega) (by decide)) dM_rule_30 ?_
    rw [nI_clamp (n := a) (by omega)]
    refine lv_aload_n hx hb dM_rule_31 rfl (lv_at hl 1 rfl) ?_
    refine va_get (D := D) (ci := 4) (C := RM) (T := TM) (N := 21) hx hb hT inM hown hK hP (0) (mw_O) rfl 4 (by decide) (hT _ wm_503) (fun _ h9 => h9) rfl dM_rule_32 ?_
    refine lv_iload_n hx hb dM_rule_35 rfl (lv_at hl 3 rfl) ?_
    refine va_iald (D := D) hx hb hK hP (3) 0 (mw_a3) rfl (vp_in_nI (by omega) (by decide)) dM_rule_36 ?_
    rw [nI_clamp (n := b) (by omega)]
    refine lv_icmp_ne (tgt := 86) hx hb dM_rule_37 (by decide) (fun c_9 => ?_) (fun c_9 => ?_)
    · refine lv_aload_n hx hb dM_rule_86 rfl (lv_at hl 1 rfl) ?_
      refine va_get (D := D) (ci := 4) (C := RM) (T := TM) (N := 21) hx hb hT inM hown hK hP (0) (mw_O) rfl 6 (by decide) (hT _ wm_505) (fun _ h9 => h9) rfl dM_rule_87 ?_
      refine lv_iload_n hx hb dM_rule_90 rfl (lv_at hl 2 rfl) ?_
      refine va_iald (D := D) hx hb hK hP (5) 0 (mw_a5) rfl (vp_in_nI (by omega) (by decide)) dM_rule_91 ?_
      rw [nI_clamp (n := a) (by omega)]
      refine lv_aload_n hx hb dM_rule_92 rfl (lv_at hl 1 rfl) ?_
      refine va_get (D := D) (ci := 4) (C := RM) (T := TM) (N := 21) hx hb hT inM hown hK hP (0) (mw_O) rfl 7 (by decide) (hT _ wm_506) (fun _ h9 => h9) rfl dM_rule_93 ?_
      refine lv_iload_n hx hb dM_rule_96 rfl (lv_at hl 3 rfl) ?_
      refine va_iald (D := D) hx hb hK hP (6) 0 (mw_a6) rfl (vp_in_nI (by omega) (by decide)) dM_rule_97 ?_
      rw [nI_clamp (n := b) (by omega)]
      refine lv_icmp_gt (tgt := 116) hx hb dM_rule_98 (by decide) (fun c_10 => ?_) (fun c_10 => ?_)
      · refine lv_iconst (v := 2) hx hb dM_rule_116 (by decide) ?_
        exact W.iret (v := 2) hx hb hr (fun t ht hW => ⟨⟨_, g, rfl, ⟨by simp [ruM, agB, ← c_1, c_9, c_10], rfl⟩, gpost_at hP hK hD ht hW.alike⟩, hS.F ht⟩) hS.2.2 dM_rule_117
      · refine lv_aload_n hx hb dM_rule_101 rfl (lv_at hl 1 rfl) ?_
        refine va_get (D := D) (ci := 4) (C := RM) (T := TM) (N := 21) hx hb hT inM hown hK hP (0) (mw_O) rfl 6 (by decide) (hT _ wm_505) (fun _ h9 => h9) rfl dM_rule_102 ?_
        refine lv_iload_n hx hb dM_rule_105 rfl (lv_at hl 3 rfl) ?_
        refine va_iald (D := D) hx hb hK hP (5) 0 (mw_a5) rfl (vp_in_nI (by omega) (by decide)) dM_rule_106 ?_
        rw [nI_clamp (n := b) (by omega)]
        refine lv_aload_n hx hb dM_rule_107 rfl (lv_at hl 1 rfl) ?_
        refine va_get (D := D) (ci := 4) (C := RM) (T := TM) (N := 21) hx hb hT inM hown hK hP (0) (mw_O) rfl 7 (by decide) (hT _ wm_506) (fun _ h9 => h9) rfl dM_rule_108 ?_
        refine lv_iload_n hx hb dM_rule_111 rfl (lv_at hl 2 rfl) ?_
        refine va_iald (D := D) hx hb hK hP (6) 0 (mw_a6) rfl (vp_in_nI (by omega) (by decide)) dM_rule_112 ?_
        rw [nI_clamp (n := a) (by omega)]
        refine lv_icmp_le (tgt := 118) hx hb dM_rule_113 (by decide) (fun c_11 => ?_) (fun c_11 => ?_)
        · refine lv_aload_n hx hb dM_rule_118 rfl (lv_at hl 1 rfl) ?_
          refine va_get (D := D) (ci := 4) (C := RM) (T := TM) (N := 21) hx hb hT inM hown hK hP (0) (mw_O) rfl 5 (by decide) (hT _ wm_504) (fun _ h9 => h9) rfl dM_rule_119 ?_
          refine lv_iload_n hx hb dM_rule_122 rfl (lv_at hl 2 rfl) ?_
          refine va_iald (D := D) hx hb hK hP (4) 0 (mw_a4) rfl (vp_in_nI (by omega) (by decide)) dM_rule_123 ?_
          rw [nI_clamp (n := a) (by omega)]
          refine lv_aload_n hx hb dM_rule_124 rfl (lv_at hl 1 rfl) ?_
          refine va_get (D := D) (ci := 4) (C := RM) (T := TM) (N := 21) hx hb hT inM hown hK hP (0) (mw_O) rfl 5 (by decide) (hT _ wm_504) (fun _ h9 => h9) rfl dM_rule_125 ?_
          refine lv_iload_n hx hb dM_rule_128 rfl (lv_at hl 3 rfl) ?_
          refine va_iald (D := D) hx hb hK hP (4) 0 (mw_a4) rfl (vp_in_nI (by omega) (by decide)) dM_rule_129 ?_
          rw [nI_clamp (n := b) (by omega)]
          refine lv_icmp_le (tgt := 149) hx hb dM_rule_130 (by decide) (fun c_12 => ?_) (fun c_12 => ?_)
          · refine lv_aload_n hx hb dM_rule_149 rfl (lv_at hl 1 rfl) ?_
            refine va_get (D := D) (ci := 4) (C := RM) (T := TM) (N := 21) hx hb hT inM hown hK hP (0) (mw_O) rfl 5 (by decide) (hT _ wm_504) (fun _ h9 => h9) rfl dM_rule_150 ?_
            refine lv_iload_n hx hb dM_rule_153 rfl (lv_at hl 3 rfl) ?_
            refine va_iald (D := D) hx hb hK hP (4) 0 (mw_a4) rfl (vp_in_nI (by omega) (by decide)) dM_rule_154 ?_
            rw [nI_clamp (n := b) (by omega)]
            refine lv_aload_n hx hb dM_rule_155 rfl (lv_at hl 1 rfl) ?_
            refine va_get (D := D) (ci := 4) (C := RM) (T := TM) (N := 21) hx hb hT inM hown hK hP (0) (mw_O) rfl 5 (by decide) (hT _ wm_504) (fun _ h9 => h9) rfl dM_rule_156 ?_
            refine lv_iload_n hx hb dM_rule_159 rfl (lv_at hl 2 rfl) ?_
            refine va_iald (D := D) hx hb hK hP (4) 0 (mw_a4) rfl (vp_in_nI (by omega) (by decide)) dM_rule_160 ?_
            rw [nI_clamp (n := a) (by omega)]
            refine lv_isub hx hb dM_rule_161 ?_
            refine lv_istore (lv' := [(4, .int ((g (4) b) - (g (4) a))), (3, .int 1), (0, .ref (ad 0)), (1, .int (nI a)), (2, .int (nI b))]) hx hb dM_rule_162 hl (by decide) rfl (fun ls hl => ?_)
            refine lv_iload_n hx hb dM_rule_164 rfl (lv_at hl 1 rfl) ?_
            refine lv_if_eq (tgt := 206) hx hb dM_rule_165 (by decide) (fun c_13 => absurd c_13 (by decide)) (fun c_13 => ?_)
            refine lv_aload_n hx hb dM_rule_168 rfl (lv_at hl 2 rfl) ?_
            refine va_get (D := D) (ci := 4) (C := RM) (T := TM) (N := 21) hx hb hT inM hown hK hP (0) (mw_O) rfl 5 (by decide) (hT _ wm_504) (fun _ h9 => h9) rfl dM_rule_169 ?_
            refine lv_iload_n hx hb dM_rule_172 rfl (lv_at hl 3 rfl) ?_
            refine va_iald (D := D) hx hb hK hP (4) 0 (mw_a4) rfl (vp_in_nI (by omega) (by decide)) dM_rule_173 ?_
            rw [nI_clamp (n := a) (by omega)]
            refine lv_if_le (tgt := 206) hx hb dM_rule_174 (by decide) (fun c_14 => ?_) (fun c_14 => ?_)
            · refine lv_iconst (v := 0) hx hb dM_rule_206 (by decide) ?_
              exact W.iret (v := 0) hx hb hr (fun t ht hW => ⟨⟨_, g, rfl, ⟨by simp [ruM, agB, ← c_1, c_9, c_10, c_11, c_12, c_14], rfl⟩, gpost_at hP hK hD ht hW.alike⟩, hS.F ht⟩) hS.2.2 dM_rule_207
            · refine lv_aload_n hx hb dM_rule_177 rfl (lv_at hl 2 rfl) ?_
              refine va_get (D := D) (ci := 4) (C := RM) (T := TM) (N := 21) hx hb hT inM hown hK hP (0) (mw_O) rfl 5 (by decide) (hT _ wm_504) (fun _ h9 => h9) rfl dM_rule_178 ?_
              refine lv_iload_n hx hb dM_rule_181 rfl (lv_at hl 4 rfl) ?_
              refine va_iald (D := D) hx hb hK hP (4) 0 (mw_a4) rfl (vp_in_nI (by omega) (by decide)) dM_rule_182 ?_
              rw [nI_clamp (n := b) (by omega)]
              refine lv_if_le (tgt := 206) hx hb dM_rule_183 (by decide) (fun c_15 => ?_) (fun c_15 => ?_)
              · refine lv_iconst (v := 0) hx hb dM_rule_206 (by decide) ?_
                exact W.iret (v := 0) hx hb hr (fun t ht hW => ⟨⟨_, g, rfl, ⟨by simp [ruM, agB, ← c_1, c_9, c_10, c_11, c_12, c_14, c_15], rfl⟩, gpost_at hP hK hD ht hW.alike⟩, hS.F ht⟩) hS.2.2 dM_rule_207
              · refine lv_iload hx hb dM_rule_186 (lv_at hl 0 rfl) ?_
                refine lv_aload_n hx hb dM_rule_188 rfl (lv_at hl 2 rfl) ?_
                refine va_get (D := D) (ci := 4) (C := RM) (T := TM) (N := 21) hx hb hT inM hown hK hP (0) (mw_O) rfl 12 (by decide) (hT _ wm_511) (fun _ h9 => h9) rfl dM_rule_189 ?_
                refine lv_aload_n hx hb dM_rule_192 rfl (lv_at hl 2 rfl) ?_
                refine va_get (D := D) (ci := 4) (C := RM) (T := TM) (N := 21) hx hb hT inM hown hK hP (0) (mw_O) rfl 2 (by decide) (hT _ wm_501) (fun _ h9 => h9) rfl dM_rule_193 ?_
                refine lv_iload_n hx hb dM_rule_196 rfl (lv_at hl 3 rfl) ?_
                refine va_iald (D := D) hx hb hK hP (1) 0 (mw_a1) rfl (vp_in_nI (by omega) (by decide)) dM_rule_197 ?_
                rw [nI_clamp (n := a) (by omega)]
                refine W.eq (g2 := F0 m 198 ls [.int (nI (h 2 a)), .ref (ad 11), .int ((g (4) b) - (g (4) a))]) (by rw [hm.kind (q := a) (by omega)]) ?_
                refine va_iald (D := D) hx hb hK hP (11) 0 (mw_a11) rfl (vp_in_nI (by omega) (by decide)) dM_rule_198 ?_
                rw [nI_clamp (n := h 2 a) (by omega)]
                refine lv_icmp_le (tgt := 206) hx hb dM_rule_199 (by decide) (fun c_16 => ?_) (fun c_16 => ?_)
                · refine lv_iconst (v := 0) hx hb dM_rule_206 (by decide) ?_
                  exact W.iret (v := 0) hx hb hr (fun t ht hW => ⟨⟨_, g, rfl, ⟨by simp [ruM, agB, ← c_1, c_9, c_10, c_11, c_12, c_14, c_15, c_16], rfl⟩, gpost_at hP hK hD ht hW.alike⟩, hS.F ht⟩) hS.2.2 dM_rule_207
                · refine lv_iconst (v := 3) hx hb dM_rule_202 (by decide) ?_
                  refine lv_goto (tgt := 207) hx hb dM_rule_203 (by decide) ?_
                  exact W.iret (v := 3) hx hb hr (fun t ht hW => ⟨⟨_, g, rfl, ⟨by simp [ruM, agB, ← c_1, c_9, c_10, c_11, c_12, c_14, c_15, c_16], rfl⟩, gpost_at hP hK hD ht hW.alike⟩, hS.F ht⟩) hS.2.2 dM_rule_207
          · refine lv_aload_n hx hb dM_rule_133 rfl (lv_at hl 1 rfl) ?_
            refine va_get (D := D) (ci := 4) (C := RM) (T := TM) (N := 21) hx hb hT inM hown hK hP (0) (mw_O) rfl 5 (by decide) (hT _ wm_504) (fun _ h9 => h9) rfl dM_rule_134 ?_
            refine lv_iload_n hx hb dM_rule_137 rfl (lv_at hl 2 rfl) ?_
            refine va_iald (D := D) hx hb hK hP (4) 0 (mw_a4) rfl (vp_in_nI (by omega) (by decide)) dM_rule_138 ?_
            rw [nI_clamp (n := a) (by omega)]
            refine lv_aload_n hx hb dM_rule_139 rfl (lv_at hl 1 rfl) ?_
            refine va_get (D := D) (ci := 4) (C := RM) (T := TM) (N := 21) hx hb hT inM hown hK hP (0) (mw_O) rfl 5 (by decide) (hT _ wm_504) (fun _ h9 => h9) rfl dM_rule_140 ?_
            refine lv_iload_n hx hb dM_rule_143 rfl (lv_at hl 3 rfl) ?_
            refine va_iald (D := D) hx hb hK hP (4) 0 (mw_a4) rfl (vp_in_nI (by omega) (by decide)) dM_rule_144 ?_
            rw [nI_clamp (n := b) (by omega)]
            refine lv_isub hx hb dM_rule_145 ?_
            refine lv_goto (tgt := 162) hx hb dM_rule_146 (by decide) ?_
            refine lv_istore (lv' := [(4, .int ((g (4) a) - (g (4) b))), (3, .int 1), (0, .ref (ad 0)), (1, .int (nI a)), (2, .int (nI b))]) hx hb dM_rule_162 hl (by decide) rfl (fun ls hl => ?_)
            refine lv_iload_n hx hb dM_rule_164 rfl (lv_at hl 1 rfl) ?_
            refine lv_if_eq (tgt := 206) hx hb dM_rule_165 (by decide) (fun c_17 => absurd c_17 (by decide)) (fun c_17 => ?_)
            refine lv_aload_n hx hb dM_rule_168 rfl (lv_at hl 2 rfl) ?_
            refine va_get (D := D) (ci := 4) (C := RM) (T := TM) (N := 21) hx hb hT inM hown hK hP (0) (mw_O) rfl 5 (by decide) (hT _ wm_504) (fun _ h9 => h9) rfl dM_rule_169 ?_
            refine lv_iload_n hx hb dM_rule_172 rfl (lv_at hl 3 rfl) ?_
            refine va_iald (D := D) hx hb hK hP (4) 0 (mw_a4) rfl (vp_in_nI (by omega) (by decide)) dM_rule_173 ?_
            rw [nI_clamp (n := a) (by omega)]
            refine lv_if_le (tgt := 206) hx hb dM_rule_174 (by decide) (fun c_18 => ?_) (fun c_18 => ?_)
            · refine lv_iconst (v := 0) hx hb dM_rule_206 (by decide) ?_
              exact W.iret (v := 0) hx hb hr (fun t ht hW => ⟨⟨_, g, rfl, ⟨by simp [ruM, agB, ← c_1, c_9, c_10, c_11, c_12, c_18], rfl⟩, gpost_at hP hK hD ht hW.alike⟩, hS.F ht⟩) hS.2.2 dM_rule_207
            · refine lv_aload_n hx hb dM_rule_177 rfl (lv_at hl 2 rfl) ?_
              refine va_get (D := D) (ci := 4) (C := RM) (T := TM) (N := 21) hx hb hT inM hown hK hP (0) (mw_O) rfl 5 (by decide) (hT _ wm_504) (fun _ h9 => h9) rfl dM_rule_178 ?_
              refine lv_iload_n hx hb dM_rule_181 rfl (lv_at hl 4 rfl) ?_
              refine va_iald (D := D) hx hb hK hP (4) 0 (mw_a4) rfl (vp_in_nI (by omega) (by decide)) dM_rule_182 ?_
              rw [nI_clamp (n := b) (by omega)]
              refine lv_if_le (tgt := 206) hx hb dM_rule_183 (by decide) (fun c_19 => ?_) (fun c_19 => ?_)
              · refine lv_iconst (v := 0) hx hb dM_rule_206 (by decide) ?_
                exact W.iret (v := 0) hx hb hr (fun t ht hW => ⟨⟨_, g, rfl, ⟨by simp [ruM, agB, ← c_1, c_9, c_10, c_11, c_12, c_18, c_19], rfl⟩, gpost_at hP hK hD ht hW.alike⟩, hS.F ht⟩) hS.2.2 dM_rule_207
              · refine lv_iload hx hb dM_rule_186 (lv_at hl 0 rfl) ?_
                refine lv_aload_n hx hb dM_rule_188 rfl (lv_at hl 2 rfl) ?_
                refine va_get (D := D) (ci := 4) (C := RM) (T := TM) (N := 21) hx hb hT inM hown hK hP (0) (mw_O) rfl 12 (by decide) (hT _ wm_511) (fun _ h9 => h9) rfl dM_rule_189 ?_
                refine lv_aload_n hx hb dM_rule_192 rfl (lv_at hl 2 rfl) ?_
                refine va_get (D := D) (ci := 4) (C := RM) (T := TM) (N := 21) hx hb hT inM hown hK hP (0) (mw_O) rfl 2 (by decide) (hT _ wm_501) (fun _ h9 => h9) rfl dM_rule_193 ?_
                refine lv_iload_n hx hb dM_rule_196 rfl (lv_at hl 3 rfl) ?_
                refine va_iald (D := D) hx hb hK hP (1) 0 (mw_a1) rfl (vp_in_nI (by omega) (by decide)) dM_rule_197 ?_
                rw [nI_clamp (n := a) (by omega)]
                refine W.eq (g2 := F0 m 198 ls [.int (nI (h 2 a)), .ref (ad 11), .int ((g (4) a) - (g (4) b))]) (by rw [hm.kind (q := a) (by omega)]) ?_
                refine va_iald (D := D) hx hb hK hP (11) 0 (mw_a11) rfl (vp_in_nI (by omega) (by decide)) dM_rule_198 ?_
                rw [nI_clamp (n := h 2 a) (by omega)]
                refine lv_icmp_le (tgt := 206) hx hb dM_rule_199 (by decide) (fun c_20 => ?_) (fun c_20 => ?_)
                · refine lv_iconst (v := 0) hx hb dM_rule_206 (by decide) ?_
                  exact W.iret (v := 0) hx hb hr (fun t ht hW => ⟨⟨_, g, rfl, ⟨by simp [ruM, agB, ← c_1, c_9, c_10, c_11, c_12, c_18, c_19, c_20], rfl⟩, gpost_at hP hK hD ht hW.alike⟩, hS.F ht⟩) hS.2.2 dM_rule_207
                · refine lv_iconst (v := 3) hx hb dM_rule_202 (by decide) ?_
                  refine lv_goto (tgt := 207) hx hb dM_rule_203 (by decide) ?_
                  exact W.iret (v := 3) hx hb hr (fun t ht hW => ⟨⟨_, g, rfl, ⟨by simp [ruM, agB, ← c_1, c_9, c_10, c_11, c_12, c_18, c_19, c_20], rfl⟩, gpost_at hP hK hD ht hW.alike⟩, hS.F ht⟩) hS.2.2 dM_rule_207
        · refine lv_iconst (v := 2) hx hb dM_rule_116 (by decide) ?_
          exact W.iret (v := 2) hx hb hr (fun t ht hW => ⟨⟨_, g, rfl, ⟨by simp [ruM, agB, ← c_1, c_9, c_10, c_11], rfl⟩, gpost_at hP hK hD ht hW.alike⟩, hS.F ht⟩) hS.2.2 dM_rule_117
    · refine lv_aload_n hx hb dM_rule_40 rfl (lv_at hl 1 rfl) ?_
      refine va_get (D := D) (ci := 4) (C := RM) (T := TM) (N := 21) hx hb hT inM hown hK hP (0) (mw_O) rfl 4 (by decide) (hT _ wm_503) (fun _ h9 => h9) rfl dM_rule_41 ?_
      refine lv_iload_n hx hb dM_rule_44 rfl (lv_at hl 2 rfl) ?_
      refine va_iald (D := D) hx hb hK hP (3) 0 (mw_a3) rfl (vp_in_nI (by omega) (by decide)) dM_rule_45 ?_
      rw [nI_clamp (n := a) (by omega)]
      refine lv_iconst (v := 2) hx hb dM_rule_46 (by decide) ?_
      refine lv_icmp_lt (tgt := 84) hx hb dM_rule_47 (by decide) (fun c_21 => ?_) (fun c_21 => ?_)
      · refine lv_iconst (v := 1) hx hb dM_rule_84 (by decide) ?_
        exact W.iret (v := 1) hx hb hr (fun t ht hW => ⟨⟨_, g, rfl, ⟨by simp [ruM, agB, ← c_1, ← c_9, c_21], rfl⟩, gpost_at hP hK hD ht hW.alike⟩, hS.F ht⟩) hS.2.2 dM_rule_85
      · refine lv_aload_n hx hb dM_rule_50 rfl (lv_at hl 1 rfl) ?_
        refine va_get (D := D) (ci := 4) (C := RM) (T := TM) (N := 21) hx hb hT inM hown hK hP (0) (mw_O) rfl 4 (by decide) (hT _ wm_503) (fun _ h9 => h9) rfl dM_rule_51 ?_
        refine lv_iload_n hx hb dM_rule_54 rfl (lv_at hl 2 rfl) ?_
        refine va_iald (D := D) hx hb hK hP (3) 0 (mw_a3) rfl (vp_in_nI (by omega) (by decide)) dM_rule_55 ?_
        rw [nI_clamp (n := a) (by omega)]
        refine lv_iconst (v := 2) hx hb dM_rule_56 (by decide) ?_
        refine lv_icmp_ne (tgt := 86) hx hb dM_rule_57 (by decide) (fun c_22 => ?_) (fun c_22 => ?_)
        · refine lv_aload_n hx hb dM_rule_86 rfl (lv_at hl 1 rfl) ?_
          refine va_get (D := D) (ci := 4) (C := RM) (T := TM) (N := 21) hx hb hT inM hown hK hP (0) (mw_O) rfl 6 (by decide) (hT _ wm_505) (fun _ h9 => h9) rfl dM_rule_87 ?_
          refine lv_iload_n hx hb dM_rule_90 rfl (lv_at hl 2 rfl) ?_
          refine va_iald (D := D) hx hb hK hP (5) 0 (mw_a5) rfl (vp_in_nI (by omega) (by decide)) dM_rule_91 ?_
          rw [nI_clamp (n := a) (by omega)]
          refine lv_aload_n hx hb dM_rule_92 rfl (lv_at hl 1 rfl) ?_
          refine va_get (D := D) (ci := 4) (C := RM) (T := TM) (N := 21) hx hb hT inM hown hK hP (0) (mw_O) rfl 7 (by decide) (hT _ wm_506) (fun _ h9 => h9) rfl dM_rule_93 ?_
          refine lv_iload_n hx hb dM_rule_96 rfl (lv_at hl 3 rfl) ?_
          refine va_iald (D := D) hx hb hK hP (6) 0 (mw_a6) rfl (vp_in_nI (by omega) (by decide)) dM_rule_97 ?_
          rw [nI_clamp (n := b) (by omega)]
          refine lv_icmp_gt (tgt := 116) hx hb dM_rule_98 (by decide) (fun c_23 => ?_) (fun c_23 => ?_)
          · refine lv_iconst (v := 2) hx hb dM_rule_116 (by decide) ?_
            exact W.iret (v := 2) hx hb hr (fun t ht hW => ⟨⟨_, g, rfl, ⟨by simp [ruM, agB, ← c_1, ← c_9, c_21, c_22, c_23], rfl⟩, gpost_at hP hK hD ht hW.alike⟩, hS.F ht⟩) hS.2.2 dM_rule_117
          · refine lv_aload_n hx hb dM_rule_101 rfl (lv_at hl 1 rfl) ?_
            refine va_get (D := D) (ci := 4) (C := RM) (T := TM) (N := 21) hx hb hT inM hown hK hP (0) (mw_O) rfl 6 (by decide) (hT _ wm_505) (fun _ h9 => h9) rfl dM_rule_102 ?_
            refine lv_iload_n hx hb dM_rule_105 rfl (lv_at hl 3 rfl) ?_
            refine va_iald (D := D) hx hb hK hP (5) 0 (mw_a5) rfl (vp_in_nI (by omega) (by decide)) dM_rule_106 ?_
            rw [nI_clamp (n := b) (by omega)]
            refine lv_aload_n hx hb dM_rule_107 rfl (lv_at hl 1 rfl) ?_
            refine va_get (D := D) (ci := 4) (C := RM) (T := TM) (N := 21) hx hb hT inM hown hK hP (0) (mw_O) rfl 7 (by decide) (hT _ wm_506) (fun _ h9 => h9) rfl dM_rule_108 ?_
            refine lv_iload_n hx hb dM_rule_111 rfl (lv_at hl 2 rfl) ?_
            refine va_iald (D := D) hx hb hK hP (6) 0 (mw_a6) rfl (vp_in_nI (by omega) (by decide)) dM_rule_112 ?_
            rw [nI_clamp (n := a) (by omega)]
            refine lv_icmp_le (tgt := 118) hx hb dM_rule_113 (by decide) (fun c_24 => ?_) (fun c_24 => ?_)
            · refine lv_aload_n hx hb dM_rule_118 rfl (lv_at hl 1 rfl) ?_
              refine va_get (D := D) (ci := 4) (C := RM) (T := TM) (N := 21) hx hb hT inM hown hK hP (0) (mw_O) rfl 5 (by decide) (hT _ wm_504) (fun _ h9 => h9) rfl dM_rule_119 ?_
              refine lv_iload_n hx hb dM_rule_122 rfl (lv_at hl 2 rfl) ?_
              refine va_iald (D := D) hx hb hK hP (4) 0 (mw_a4) rfl (vp_in_nI (by omega) (by decide)) dM_rule_123 ?_
              rw [nI_clamp (n := a) (by omega)]
              refine lv_aload_n hx hb dM_rule_124 rfl (lv_at hl 1 rfl) ?_
              refine va_get (D := D) (ci := 4) (C := RM) (T := TM) (N := 21) hx hb hT inM hown hK hP (0) (mw_O) rfl 5 (by decide) (hT _ wm_504) (fun _ h9 => h9) rfl dM_rule_125 ?_
              refine lv_iload_n hx hb dM_rule_128 rfl (lv_at hl 3 rfl) ?_
              refine va_iald (D := D) hx hb hK hP (4) 0 (mw_a4) rfl (vp_in_nI (by omega) (by decide)) dM_rule_129 ?_
              rw [nI_clamp (n := b) (by omega)]
              refine lv_icmp_le (tgt := 149) hx hb dM_rule_130 (by decide) (fun c_25 => ?_) (fun c_25 => ?_)
              · refine lv_aload_n hx hb dM_rule_149 rfl (lv_at hl 1 rfl) ?_
                refine va_get (D := D) (ci := 4) (C := RM) (T := TM) (N := 21) hx hb hT inM hown hK hP (0) (mw_O) rfl 5 (by decide) (hT _ wm_504) (fun _ h9 => h9) rfl dM_rule_150 ?_
                refine lv_iload_n hx hb dM_rule_153 rfl (lv_at hl 3 rfl) ?_
                refine va_iald (D := D) hx hb hK hP (4) 0 (mw_a4) rfl (vp_in_nI (by omega) (by decide)) dM_rule_154 ?_
                rw [nI_clamp (n := b) (by omega)]
                refine lv_aload_n hx hb dM_rule_155 rfl (lv_at hl 1 rfl) ?_
                refine va_get (D := D) (ci := 4) (C := RM) (T := TM) (N := 21) hx hb hT inM hown hK hP (0) (mw_O) rfl 5 (by decide) (hT _ wm_504) (fun _ h9 => h9) rfl dM_rule_156 ?_
                refine lv_iload_n hx hb dM_rule_159 rfl (lv_at hl 2 rfl) ?_
                refine va_iald (D := D) hx hb hK hP (4) 0 (mw_a4) rfl (vp_in_nI (by omega) (by decide)) dM_rule_160 ?_
                rw [nI_clamp (n := a) (by omega)]
                refine lv_isub hx hb dM_rule_161 ?_
                refine lv_istore (lv' := [(4, .int ((g (4) b) - (g (4) a))), (3, .int 1), (0, .ref (ad 0)), (1, .int (nI a)), (2, .int (nI b))]) hx hb dM_rule_162 hl (by decide) rfl (fun ls hl => ?_)
                refine lv_iload_n hx hb dM_rule_164 rfl (lv_at hl 1 rfl) ?_
                refine lv_if_eq (tgt := 206) hx hb dM_rule_165 (by decide) (fun c_26 => absurd c_26 (by decide)) (fun c_26 => ?_)
                refine lv_aload_n hx hb dM_rule_168 rfl (lv_at hl 2 rfl) ?_
                refine va_get (D := D) (ci := 4) (C := RM) (T := TM) (N := 21) hx hb hT inM hown hK hP (0) (mw_O) rfl 5 (by decide) (hT _ wm_504) (fun _ h9 => h9) rfl dM_rule_169 ?_
                refine lv_iload_n hx hb dM_rule_172 rfl (lv_at hl 3 rfl) ?_
                refine va_iald (D := D) hx hb hK hP (4) 0 (mw_a4) rfl (vp_in_nI (by omega) (by decide)) dM_rule_173 ?_
                rw [nI_clamp (n := a) (by omega)]
                refine lv_if_le (tgt := 206) hx hb dM_rule_174 (by decide) (fun c_27 => ?_) (fun c_27 => ?_)
                · refine lv_iconst (v := 0) hx hb dM_rule_206 (by decide) ?_
                  exact W.iret (v := 0) hx hb hr (fun t ht hW => ⟨⟨_, g, rfl, ⟨by simp [ruM, agB, ← c_1, ← c_9, c_21, c_22, c_23, c_24, c_25, c_27], rfl⟩, gpost_at hP hK hD ht hW.alike⟩, hS.F ht⟩) hS.2.2 dM_rule_207
                · refine lv_aload_n hx hb dM_rule_177 rfl (lv_at hl 2 rfl) ?_
                  refine va_get (D := D) (ci := 4) (C := RM) (T := TM) (N := 21) hx hb hT inM hown hK hP (0) (mw_O) rfl 5 (by decide) (hT _ wm_504) (fun _ h9 => h9) rfl dM_rule_178 ?_
                  refine lv_iload_n hx hb dM_rule_181 rfl (lv_at hl 4 rfl) ?_
                  refine va_iald (D := D) hx hb hK hP (4) 0 (mw_a4) rfl (vp_in_nI (by omega) (by decide)) dM_rule_182 ?_
                  rw [nI_clamp (n := b) (by omega)]
                  refine lv_if_le (tgt := 206) hx hb dM_rule_183 (by decide) (fun c_28 => ?_) (fun c_28 => ?_)
                  · refine lv_iconst (v := 0) hx hb dM_rule_206 (by decide) ?_
                    exact W.iret (v := 0) hx hb hr (fun t ht hW => ⟨⟨_, g, rfl, ⟨by simp [ruM, agB, ← c_1, ← c_9, c_21, c_22, c_23, c_24, c_25, c_27, c_28], rfl⟩, gpost_at hP hK hD ht hW.alike⟩, hS.F ht⟩) hS.2.2 dM_rule_207
                  · refine lv_iload hx hb dM_rule_186 (lv_at hl 0 rfl) ?_
                    refine lv_aload_n hx hb dM_rule_188 rfl (lv_at hl 2 rfl) ?_
                    refine va_get (D := D) (ci := 4) (C := RM) (T := TM) (N := 21) hx hb hT inM hown hK hP (0) (mw_O) rfl 12 (by decide) (hT _ wm_511) (fun _ h9 => h9) rfl dM_rule_189 ?_
                    refine lv_aload_n hx hb dM_rule_192 rfl (lv_at hl 2 rfl) ?_
                    refine va_get (D := D) (ci := 4) (C := RM) (T := TM) (N := 21) hx hb hT inM hown hK hP (0) (mw_O) rfl 2 (by decide) (hT _ wm_501) (fun _ h9 => h9) rfl dM_rule_193 ?_
                    refine lv_iload_n hx hb dM_rule_196 rfl (lv_at hl 3 rfl) ?_
                    refine va_iald (D := D) hx hb hK hP (1) 0 (mw_a1) rfl (vp_in_nI (by omega) (by decide)) dM_rule_197 ?_
                    rw [nI_clamp (n := a) (by omega)]
                    refine W.eq (g2 := F0 m 198 ls [.int (nI (h 2 a)), .ref (ad 11), .int ((g (4) b) - (g (4) a))]) (by rw [hm.kind (q := a) (by omega)]) ?_
                    refine va_iald (D := D) hx hb hK hP (11) 0 (mw_a11) rfl (vp_in_nI (by omega) (by decide)) dM_rule_198 ?_
                    rw [nI_clamp (n := h 2 a) (by omega)]
                    refine lv_icmp_le (tgt := 206) hx hb dM_rule_199 (by decide) (fun c_29 => ?_) (fun c_29 => ?_)
                    · refine lv_iconst (v := 0) hx hb dM_rule_206 (by decide) ?_
                      exact W.iret (v := 0) hx hb hr (fun t ht hW => ⟨⟨_, g, rfl, ⟨by simp [ruM, agB, ← c_1, ← c_9, c_21, c_22, c_23, c_24, c_25, c_27, c_28, c_29], rfl⟩, gpost_at hP hK hD ht hW.alike⟩, hS.F ht⟩) hS.2.2 dM_rule_207
                    · refine lv_iconst (v := 3) hx hb dM_rule_202 (by decide) ?_
                      refine lv_goto (tgt := 207) hx hb dM_rule_203 (by decide) ?_
                      exact W.iret (v := 3) hx hb hr (fun t ht hW => ⟨⟨_, g, rfl, ⟨by simp [ruM, agB, ← c_1, ← c_9, c_21, c_22, c_23, c_24, c_25, c_27, c_28, c_29], rfl⟩, gpost_at hP hK hD ht hW.alike⟩, hS.F ht⟩) hS.2.2 dM_rule_207
              · refine lv_aload_n hx hb dM_rule_133 rfl (lv_at hl 1 rfl) ?_
                refine va_get (D := D) (ci := 4) (C := RM) (T := TM) (N := 21) hx hb hT inM hown hK hP (0) (mw_O) rfl 5 (by decide) (hT _ wm_504) (fun _ h9 => h9) rfl dM_rule_134 ?_
                refine lv_iload_n hx hb dM_rule_137 rfl (lv_at hl 2 rfl) ?_
                refine va_iald (D := D) hx hb hK hP (4) 0 (mw_a4) rfl (vp_in_nI (by omega) (by decide)) dM_rule_138 ?_
                rw [nI_clamp (n := a) (by omega)]
                refine lv_aload_n hx hb dM_rule_139 rfl (lv_at hl 1 rfl) ?_
                refine va_get (D := D) (ci := 4) (C := RM) (T := TM) (N := 21) hx hb hT inM hown hK hP (0) (mw_O) rfl 5 (by decide) (hT _ wm_504) (fun _ h9 => h9) rfl dM_rule_140 ?_
                refine lv_iload_n hx hb dM_rule_143 rfl (lv_at hl 3 rfl) ?_
                refine va_iald (D := D) hx hb hK hP (4) 0 (mw_a4) rfl (vp_in_nI (by omega) (by decide)) dM_rule_144 ?_
                rw [nI_clamp (n := b) (by omega)]
                refine lv_isub hx hb dM_rule_145 ?_
                refine lv_goto (tgt := 162) hx hb dM_rule_146 (by decide) ?_
                refine lv_istore (lv' := [(4, .int ((g (4) a) - (g (4) b))), (3, .int 1), (0, .ref (ad 0)), (1, .int (nI a)), (2, .int (nI b))]) hx hb dM_rule_162 hl (by decide) rfl (fun ls hl => ?_)
                refine lv_iload_n hx hb dM_rule_164 rfl (lv_at hl 1 rfl) ?_
                refine lv_if_eq (tgt := 206) hx hb dM_rule_165 (by decide) (fun c_30 => absurd c_30 (by decide)) (fun c_30 => ?_)
                refine lv_aload_n hx hb dM_rule_168 rfl (lv_at hl 2 rfl) ?_
                refine va_get (D := D) (ci := 4) (C := RM) (T := TM) (N := 21) hx hb hT inM hown hK hP (0) (mw_O) rfl 5 (by decide) (hT _ wm_504) (fun _ h9 => h9) rfl dM_rule_169 ?_
                refine lv_iload_n hx hb dM_rule_172 rfl (lv_at hl 3 rfl) ?_
                refine va_iald (D := D) hx hb hK hP (4) 0 (mw_a4) rfl (vp_in_nI (by omega) (by decide)) dM_rule_173 ?_
                rw [nI_clamp (n := a) (by omega)]
                refine lv_if_le (tgt := 206) hx hb dM_rule_174 (by decide) (fun c_31 => ?_) (fun c_31 => ?_)
                · refine lv_iconst (v := 0) hx hb dM_rule_206 (by decide) ?_
                  exact W.iret (v := 0) hx hb hr (fun t ht hW => ⟨⟨_, g, rfl, ⟨by simp [ruM, agB, ← c_1, ← c_9, c_21, c_22, c_23, c_24, c_25, c_31], rfl⟩, gpost_at hP hK hD ht hW.alike⟩, hS.F ht⟩) hS.2.2 dM_rule_207
                · refine lv_aload_n hx hb dM_rule_177 rfl (lv_at hl 2 rfl) ?_
                  refine va_get (D := D) (ci := 4) (C := RM) (T := TM) (N := 21) hx hb hT inM hown hK hP (0) (mw_O) rfl 5 (by decide) (hT _ wm_504) (fun _ h9 => h9) rfl dM_rule_178 ?_
                  refine lv_iload_n hx hb dM_rule_181 rfl (lv_at hl 4 rfl) ?_
                  refine va_iald (D := D) hx hb hK hP (4) 0 (mw_a4) rfl (vp_in_nI (by omega) (by decide)) dM_rule_182 ?_
                  rw [nI_clamp (n := b) (by omega)]
                  refine lv_if_le (tgt := 206) hx hb dM_rule_183 (by decide) (fun c_32 => ?_) (fun c_32 => ?_)
                  · refine lv_iconst (v := 0) hx hb dM_rule_206 (by decide) ?_
                    exact W.iret (v := 0) hx hb hr (fun t ht hW => ⟨⟨_, g, rfl, ⟨by simp [ruM, agB, ← c_1, ← c_9, c_21, c_22, c_23, c_24, c_25, c_31, c_32], rfl⟩, gpost_at hP hK hD ht hW.alike⟩, hS.F ht⟩) hS.2.2 dM_rule_207
                  · refine lv_iload hx hb dM_rule_186 (lv_at hl 0 rfl) ?_
                    refine lv_aload_n hx hb dM_rule_188 rfl (lv_at hl 2 rfl) ?_
                    refine va_get (D := D) (ci := 4) (C := RM) (T := TM) (N := 21) hx hb hT inM hown hK hP (0) (mw_O) rfl 12 (by decide) (hT _ wm_511) (fun _ h9 => h9) rfl dM_rule_189 ?_
                    refine lv_aload_n hx hb dM_rule_192 rfl (lv_at hl 2 rfl) ?_
                    refine va_get (D := D) (ci := 4) (C := RM) (T := TM) (N := 21) hx hb hT inM hown hK hP (0) (mw_O) rfl 2 (by decide) (hT _ wm_501) (fun _ h9 => h9) rfl dM_rule_193 ?_
                    refine lv_iload_n hx hb dM_rule_196 rfl (lv_at hl 3 rfl) ?_
                    refine va_iald (D := D) hx hb hK hP (1) 0 (mw_a1) rfl (vp_in_nI (by omega) (by decide)) dM_rule_197 ?_
                    rw [nI_clamp (n := a) (by omega)]
                    refine W.eq (g2 := F0 m 198 ls [.int (nI (h 2 a)), .ref (ad 11), .int ((g (4) a) - (g (4) b))]) (by rw [hm.kind (q := a) (by omega)]) ?_
                    refine va_iald (D := D) hx hb hK hP (11) 0 (mw_a11) rfl (vp_in_nI (by omega) (by decide)) dM_rule_198 ?_
                    rw [nI_clamp (n := h 2 a) (by omega)]
                    refine lv_icmp_le (tgt := 206) hx hb dM_rule_199 (by decide) (fun c_33 => ?_) (fun c_33 => ?_)
                    · refine lv_iconst (v := 0) hx hb dM_rule_206 (by decide) ?_
                      exact W.iret (v := 0) hx hb hr (fun t ht hW => ⟨⟨_, g, rfl, ⟨by simp [ruM, agB, ← c_1, ← c_9, c_21, c_22, c_23, c_24, c_25, c_31, c_32, c_33], rfl⟩, gpost_at hP hK hD ht hW.alike⟩, hS.F ht⟩) hS.2.2 dM_rule_207
                    · refine lv_iconst (v := 3) hx hb dM_rule_202 (by decide) ?_
                      refine lv_goto (tgt := 207) hx hb dM_rule_203 (by decide) ?_
                      exact W.iret (v := 3) hx hb hr (fun t ht hW => ⟨⟨_, g, rfl, ⟨by simp [ruM, agB, ← c_1, ← c_9, c_21, c_22, c_23, c_24, c_25, c_31, c_32, c_33], rfl⟩, gpost_at hP hK hD ht hW.alike⟩, hS.F ht⟩) hS.2.2 dM_rule_207
            · refine lv_iconst (v := 2) hx hb dM_rule_116 (by decide) ?_
              exact W.iret (v := 2) hx hb hr (fun t ht hW => ⟨⟨_, g, rfl, ⟨by simp [ruM, agB, ← c_1, ← c_9, c_21, c_22, c_23, c_24], rfl⟩, gpost_at hP hK hD ht hW.alike⟩, hS.F ht⟩) hS.2.2 dM_rule_117
        · refine lv_aload_n hx hb dM_rule_60 rfl (lv_at hl 1 rfl) ?_
          refine va_get (D := D) (ci := 4) (C := RM) (T := TM) (N := 21) hx hb hT inM hown hK hP (0) (mw_O) rfl 11 (by decide) (hT _ wm_510) (fun _ h9 => h9) rfl dM_rule_61 ?_
          refine lv_bipush (v := 16) hx hb dM_rule_64 (by decide) ?_
          refine lv_aload_n hx hb dM_rule_66 rfl (lv_at hl 1 rfl) ?_
          refine va_get (D := D) (ci := 4) (C := RM) (T := TM) (N := 21) hx hb hT inM hown hK hP (0) (mw_O) rfl 2 (by decide) (hT _ wm_501) (fun _ h9 => h9) rfl dM_rule_67 ?_
          refine lv_iload_n hx hb dM_rule_70 rfl (lv_at hl 2 rfl) ?_
          refine va_iald (D := D) hx hb hK hP (1) 0 (mw_a1) rfl (vp_in_nI (by omega) (by decide)) dM_rule_71 ?_
          rw [nI_clamp (n := a) (by omega)]
          refine W.eq (g2 := F0 m 72 ls [.int (nI (h 2 a)), .int 16, .ref (ad 10)]) (by rw [hm.kind (q := a) (by omega)]) ?_
          refine lv_imul hx hb dM_rule_72 ?_
          refine W.eq (g2 := F0 m 73 ls [.int (nI (16 * (h 2 a))), .ref (ad 10)]) (by rw [m16 _]) ?_
          refine lv_aload_n hx hb dM_rule_73 rfl (lv_at hl 1 rfl) ?_
          refine va_get (D := D) (ci := 4) (C := RM) (T := TM) (N := 21) hx hb hT inM hown hK hP (0) (mw_O) rfl 3 (by decide) (hT _ wm_502) (fun _ h9 => h9) rfl dM_rule_74 ?_
          refine lv_iload_n hx hb dM_rule_77 rfl (lv_at hl 2 rfl) ?_
          refine va_iald (D := D) hx hb hK hP (2) 0 (mw_a2) rfl (vp_in_nI (by omega) (by decide)) dM_rule_78 ?_
          rw [nI_clamp (n := a) (by omega)]
          refine W.eq (g2 := F0 m 79 ls [.int (nI (jp a)), .int (nI (16 * (h 2 a))), .ref (ad 10)]) (by rw [hm.part (q := a) (by omega)]) ?_
          refine lv_iadd hx hb dM_rule_79 ?_
          refine W.eq (g2 := F0 m 80 ls [.int (nI (16 * (h 2 a) + (jp a))), .ref (ad 10)]) (by rw [nI_add]) ?_
          refine va_zald (D := D) hx hb hK hP (10) 1 (mw_a10) rfl (vp_in_nI (by omega) (by decide)) dM_rule_80 ?_
          rw [nI_clamp (n := 16 * (h 2 a) + (jp a)) (by omega)]
          refine lv_if_eq (tgt := 86) hx hb dM_rule_81 (by decide) (fun c_34 => ?_) (fun c_34 => ?_)
          · refine lv_aload_n hx hb dM_rule_86 rfl (lv_at hl 1 rfl) ?_
            refine va_get (D := D) (ci := 4) (C := RM) (T := TM) (N := 21) hx hb hT inM hown hK hP (0) (mw_O) rfl 6 (by decide) (hT _ wm_505) (fun _ h9 => h9) rfl dM_rule_87 ?_
            refine lv_iload_n hx hb dM_rule_90 rfl (lv_at hl 2 rfl) ?_
            refine va_iald (D := D) hx hb hK hP (5) 0 (mw_a5) rfl (vp_in_nI (by omega) (by decide)) dM_rule_91 ?_
            rw [nI_clamp (n := a) (by omega)]
            refine lv_aload_n hx hb dM_rule_92 rfl (lv_at hl 1 rfl) ?_
            refine va_get (D := D) (ci := 4) (C := RM) (T := TM) (N := 21) hx hb hT inM hown hK hP (0) (mw_O) rfl 7 (by decide) (hT _ wm_506) (fun _ h9 => h9) rfl dM_rule_93 ?_
            refine lv_iload_n hx hb dM_rule_96 rfl (lv_at hl 3 rfl) ?_
            refine va_iald (D := D) hx hb hK hP (6) 0 (mw_a6) rfl (vp_in_nI (by omega) (by decide)) dM_rule_97 ?_
            rw [nI_clamp (n := b) (by omega)]
            refine lv_icmp_gt (tgt := 116) hx hb dM_rule_98 (by decide) (fun c_35 => ?_) (fun c_35 => ?_)
            · refine lv_iconst (v := 2) hx hb dM_rule_116 (by decide) ?_
              exact W.iret (v := 2) hx hb hr (fun t ht hW => ⟨⟨_, g, rfl, ⟨by simp [ruM, agB, ← c_1, ← c_9, c_21, c_22, c_34, c_35], rfl⟩, gpost_at hP hK hD ht hW.alike⟩, hS.F ht⟩) hS.2.2 dM_rule_117
            · refine lv_aload_n hx hb dM_rule_101 rfl (lv_at hl 1 rfl) ?_
              refine va_get (D := D) (ci := 4) (C := RM) (T := TM) (N := 21) hx hb hT inM hown hK hP (0) (mw_O) rfl 6 (by decide) (hT _ wm_505) (fun _ h9 => h9) rfl dM_rule_102 ?_
              refine lv_iload_n hx hb dM_rule_105 rfl (lv_at hl 3 rfl) ?_
              refine va_iald (D := D) hx hb hK hP (5) 0 (mw_a5) rfl (vp_in_nI (by omega) (by decide)) dM_rule_106 ?_
              rw [nI_clamp (n := b) (by omega)]
              refine lv_aload_n hx hb dM_rule_107 rfl (lv_at hl 1 rfl) ?_
              refine va_get (D := D) (ci := 4) (C := RM) (T := TM) (N := 21) hx hb hT inM hown hK hP (0) (mw_O) rfl 7 (by decide) (hT _ wm_506) (fun _ h9 => h9) rfl dM_rule_108 ?_
              refine lv_iload_n hx hb dM_rule_111 rfl (lv_at hl 2 rfl) ?_
              refine va_iald (D := D) hx hb hK hP (6) 0 (mw_a6) rfl (vp_in_nI (by omega) (by decide)) dM_rule_112 ?_
              rw [nI_clamp (n := a) (by omega)]
              refine lv_icmp_le (tgt := 118) hx hb dM_rule_113 (by decide) (fun c_36 => ?_) (fun c_36 => ?_)
              · refine lv_aload_n hx hb dM_rule_118 rfl (lv_at hl 1 rfl) ?_
                refine va_get (D := D) (ci := 4) (C := RM) (T := TM) (N := 21) hx hb hT inM hown hK hP (0) (mw_O) rfl 5 (by decide) (hT _ wm_504) (fun _ h9 => h9) rfl dM_rule_119 ?_
                refine lv_iload_n hx hb dM_rule_122 rfl (lv_at hl 2 rfl) ?_
                refine va_iald (D := D) hx hb hK hP (4) 0 (mw_a4) rfl (vp_in_nI (by omega) (by decide)) dM_rule_123 ?_
                rw [nI_clamp (n := a) (by omega)]
                refine lv_aload_n hx hb dM_rule_124 rfl (lv_at hl 1 rfl) ?_
                refine va_get (D := D) (ci := 4) (C := RM) (T := TM) (N := 21) hx hb hT inM hown hK hP (0) (mw_O) rfl 5 (by decide) (hT _ wm_504) (fun _ h9 => h9) rfl dM_rule_125 ?_
                refine lv_iload_n hx hb dM_rule_128 rfl (lv_at hl 3 rfl) ?_
                refine va_iald (D := D) hx hb hK hP (4) 0 (mw_a4) rfl (vp_in_nI (by omega) (by decide)) dM_rule_129 ?_
                rw [nI_clamp (n := b) (by omega)]
                refine lv_icmp_le (tgt := 149) hx hb dM_rule_130 (by decide) (fun c_37 => ?_) (fun c_37 => ?_)
                · refine lv_aload_n hx hb dM_rule_149 rfl (lv_at hl 1 rfl) ?_
                  refine va_get (D := D) (ci := 4) (C := RM) (T := TM) (N := 21) hx hb hT inM hown hK hP (0) (mw_O) rfl 5 (by decide) (hT _ wm_504) (fun _ h9 => h9) rfl dM_rule_150 ?_
                  refine lv_iload_n hx hb dM_rule_153 rfl (lv_at hl 3 rfl) ?_
                  refine va_iald (D := D) hx hb hK hP (4) 0 (mw_a4) rfl (vp_in_nI (by omega) (by decide)) dM_rule_154 ?_
                  rw [nI_clamp (n := b) (by omega)]
                  refine lv_aload_n hx hb dM_rule_155 rfl (lv_at hl 1 rfl) ?_
                  refine va_get (D := D) (ci := 4) (C := RM) (T := TM) (N := 21) hx hb hT inM hown hK hP (0) (mw_O) rfl 5 (by decide) (hT _ wm_504) (fun _ h9 => h9) rfl dM_rule_156 ?_
                  refine lv_iload_n hx hb dM_rule_159 rfl (lv_at hl 2 rfl) ?_
                  refine va_iald (D := D) hx hb hK hP (4) 0 (mw_a4) rfl (vp_in_nI (by omega) (by decide)) dM_rule_160 ?_
                  rw [nI_clamp (n := a) (by omega)]
                  refine lv_isub hx hb dM_rule_161 ?_
                  refine lv_istore (lv' := [(4, .int ((g (4) b) - (g (4) a))), (3, .int 1), (0, .ref (ad 0)), (1, .int (nI a)), (2, .int (nI b))]) hx hb dM_rule_162 hl (by decide) rfl (fun ls hl => ?_)
                  refine lv_iload_n hx hb dM_rule_164 rfl (lv_at hl 1 rfl) ?_
                  refine lv_if_eq (tgt := 206) hx hb dM_rule_165 (by decide) (fun c_38 => absurd c_38 (by decide)) (fun c_38 => ?_)
                  refine lv_aload_n hx hb dM_rule_168 rfl (lv_at hl 2 rfl) ?_
                  refine va_get (D := D) (ci := 4) (C := RM) (T := TM) (N := 21) hx hb hT inM hown hK hP (0) (mw_O) rfl 5 (by decide) (hT _ wm_504) (fun _ h9 => h9) rfl dM_rule_169 ?_
                  refine lv_iload_n hx hb dM_rule_172 rfl (lv_at hl 3 rfl) ?_
                  refine va_iald (D := D) hx hb hK hP (4) 0 (mw_a4) rfl (vp_in_nI (by omega) (by decide)) dM_rule_173 ?_
                  rw [nI_clamp (n := a) (by omega)]
                  refine lv_if_le (tgt := 206) hx hb dM_rule_174 (by decide) (fun c_39 => ?_) (fun c_39 => ?_)
                  · refine lv_iconst (v := 0) hx hb dM_rule_206 (by decide) ?_
                    exact W.iret (v := 0) hx hb hr (fun t ht hW => ⟨⟨_, g, rfl, ⟨by simp [ruM, agB, ← c_1, ← c_9, c_21, c_22, c_34, c_35, c_36, c_37, c_39], rfl⟩, gpost_at hP hK hD ht hW.alike⟩, hS.F ht⟩) hS.2.2 dM_rule_207
                  · refine lv_aload_n hx hb dM_rule_177 rfl (lv_at hl 2 rfl) ?_
                    refine va_get (D := D) (ci := 4) (C := RM) (T := TM) (N := 21) hx hb hT inM hown hK hP (0) (mw_O) rfl 5 (by decide) (hT _ wm_504) (fun _ h9 => h9) rfl dM_rule_178 ?_
                    refine lv_iload_n hx hb dM_rule_181 rfl (lv_at hl 4 rfl) ?_
                    refine va_iald (D := D) hx hb hK hP (4) 0 (mw_a4) rfl (vp_in_nI (by omega) (by decide)) dM_rule_182 ?_
                    rw [nI_clamp (n := b) (by omega)]
                    refine lv_if_le (tgt := 206) hx hb dM_rule_183 (by decide) (fun c_40 => ?_) (fun c_40 => ?_)
                    · refine lv_iconst (v := 0) hx hb dM_rule_206 (by decide) ?_
                      exact W.iret (v := 0) hx hb hr (fun t ht hW => ⟨⟨_, g, rfl, ⟨by simp [ruM, agB, ← c_1, ← c_9, c_21, c_22, c_34, c_35, c_36, c_37, c_39, c_40], rfl⟩, gpost_at hP hK hD ht hW.alike⟩, hS.F ht⟩) hS.2.2 dM_rule_207
                    · refine lv_iload hx hb dM_rule_186 (lv_at hl 0 rfl) ?_
                      refine lv_aload_n hx hb dM_rule_188 rfl (lv_at hl 2 rfl) ?_
                      refine va_get (D := D) (ci := 4) (C := RM) (T := TM) (N := 21) hx hb hT inM hown hK hP (0) (mw_O) rfl 12 (by decide) (hT _ wm_511) (fun _ h9 => h9) rfl dM_rule_189 ?_
                      refine lv_aload_n hx hb dM_rule_192 rfl (lv_at hl 2 rfl) ?_
                      refine va_get (D := D) (ci := 4) (C := RM) (T := TM) (N := 21) hx hb hT inM hown hK hP (0) (mw_O) rfl 2 (by decide) (hT _ wm_501) (fun _ h9 => h9) rfl dM_rule_193 ?_
                      refine lv_iload_n hx hb dM_rule_196 rfl (lv_at hl 3 rfl) ?_
                      refine va_iald (D := D) hx hb hK hP (1) 0 (mw_a1) rfl (vp_in_nI (by omega) (by decide)) dM_rule_197 ?_
                      rw [nI_clamp (n := a) (by omega)]
                      refine W.eq (g2 := F0 m 198 ls [.int (nI (h 2 a)), .ref (ad 11), .int ((g (4) b) - (g (4) a))]) (by rw [hm.kind (q := a) (by omega)]) ?_
                      refine va_iald (D := D) hx hb hK hP (11) 0 (mw_a11) rfl (vp_in_nI (by omega) (by decide)) dM_rule_198 ?_
                      rw [nI_clamp (n := h 2 a) (by omega)]
                      refine lv_icmp_le (tgt := 206) hx hb dM_rule_199 (by decide) (fun c_41 => ?_) (fun c_41 => ?_)
                      · refine lv_iconst (v := 0) hx hb dM_rule_206 (by decide) ?_
                        exact W.iret (v := 0) hx hb hr (fun t ht hW => ⟨⟨_, g, rfl, ⟨by simp [ruM, agB, ← c_1, ← c_9, c_21, c_22, c_34, c_35, c_36, c_37, c_39, c_40, c_41], rfl⟩, gpost_at hP hK hD ht hW.alike⟩, hS.F ht⟩) hS.2.2 dM_rule_207
                      · refine lv_iconst (v := 3) hx hb dM_rule_202 (by decide) ?_
                        refine lv_goto (tgt := 207) hx hb dM_rule_203 (by decide) ?_
                        exact W.iret (v := 3) hx hb hr (fun t ht hW => ⟨⟨_, g, rfl, ⟨by simp [ruM, agB, ← c_1, ← c_9, c_21, c_22, c_34, c_35, c_36, c_37, c_39, c_40, c_41], rfl⟩, gpost_at hP hK hD ht hW.alike⟩, hS.F ht⟩) hS.2.2 dM_rule_207
                · refine lv_aload_n hx hb dM_rule_133 rfl (lv_at hl 1 rfl) ?_
                  refine va_get (D := D) (ci := 4) (C := RM) (T := TM) (N := 21) hx hb hT inM hown hK hP (0) (mw_O) rfl 5 (by decide) (hT _ wm_504) (fun _ h9 => h9) rfl dM_rule_134 ?_
                  refine lv_iload_n hx hb dM_rule_137 rfl (lv_at hl 2 rfl) ?_
                  refine va_iald (D := D) hx hb hK hP (4) 0 (mw_a4) rfl (vp_in_nI (by omega) (by decide)) dM_rule_138 ?_
                  rw [nI_clamp (n := a) (by omega)]
                  refine lv_aload_n hx hb dM_rule_139 rfl (lv_at hl 1 rfl) ?_
                  refine va_get (D := D) (ci := 4) (C := RM) (T := TM) (N := 21) hx hb hT inM hown hK hP (0) (mw_O) rfl 5 (by decide) (hT _ wm_504) (fun _ h9 => h9) rfl dM_rule_140 ?_
                  refine lv_iload_n hx hb dM_rule_143 rfl (lv_at hl 3 rfl) ?_
                  refine va_iald (D := D) hx hb hK hP (4) 0 (mw_a4) rfl (vp_in_nI (by omega) (by decide)) dM_rule_144 ?_
                  rw [nI_clamp (n := b) (by omega)]
                  refine lv_isub hx hb dM_rule_145 ?_
                  refine lv_goto (tgt := 162) hx hb dM_rule_146 (by decide) ?_
                  refine lv_istore (lv' := [(4, .int ((g (4) a) - (g (4) b))), (3, .int 1), (0, .ref (ad 0)), (1, .int (nI a)), (2, .int (nI b))]) hx hb dM_rule_162 hl (by decide) rfl (fun ls hl => ?_)
                  refine lv_iload_n hx hb dM_rule_164 rfl (lv_at hl 1 rfl) ?_
                  refine lv_if_eq (tgt := 206) hx hb dM_rule_165 (by decide) (fun c_42 => absurd c_42 (by decide)) (fun c_42 => ?_)
                  refine lv_aload_n hx hb dM_rule_168 rfl (lv_at hl 2 rfl) ?_
                  refine va_get (D := D) (ci := 4) (C := RM) (T := TM) (N := 21) hx hb hT inM hown hK hP (0) (mw_O) rfl 5 (by decide) (hT _ wm_504) (fun _ h9 => h9) rfl dM_rule_169 ?_
                  refine lv_iload_n hx hb dM_rule_172 rfl (lv_at hl 3 rfl) ?_
                  refine va_iald (D := D) hx hb hK hP (4) 0 (mw_a4) rfl (vp_in_nI (by omega) (by decide)) dM_rule_173 ?_
                  rw [nI_clamp (n := a) (by omega)]
                  refine lv_if_le (tgt := 206) hx hb dM_rule_174 (by decide) (fun c_43 => ?_) (fun c_43 => ?_)
                  · refine lv_iconst (v := 0) hx hb dM_rule_206 (by decide) ?_
                    exact W.iret (v := 0) hx hb hr (fun t ht hW => ⟨⟨_, g, rfl, ⟨by simp [ruM, agB, ← c_1, ← c_9, c_21, c_22, c_34, c_35, c_36, c_37, c_43], rfl⟩, gpost_at hP hK hD ht hW.alike⟩, hS.F ht⟩) hS.2.2 dM_rule_207
                  · refine lv_aload_n hx hb dM_rule_177 rfl (lv_at hl 2 rfl) ?_
                    refine va_get (D := D) (ci := 4) (C := RM) (T := TM) (N := 21) hx hb hT inM hown hK hP (0) (mw_O) rfl 5 (by decide) (hT _ wm_504) (fun _ h9 => h9) rfl dM_rule_178 ?_
                    refine lv_iload_n hx hb dM_rule_181 rfl (lv_at hl 4 rfl) ?_
                    refine va_iald (D := D) hx hb hK hP (4) 0 (mw_a4) rfl (vp_in_nI (by omega) (by decide)) dM_rule_182 ?_
                    rw [nI_clamp (n := b) (by omega)]
                    refine lv_if_le (tgt := 206) hx hb dM_rule_183 (by decide) (fun c_44 => ?_) (fun c_44 => ?_)
                    · refine lv_iconst (v := 0) hx hb dM_rule_206 (by decide) ?_
                      exact W.iret (v := 0) hx hb hr (fun t ht hW => ⟨⟨_, g, rfl, ⟨by simp [ruM, agB, ← c_1, ← c_9, c_21, c_22, c_34, c_35, c_36, c_37, c_43, c_44], rfl⟩, gpost_at hP hK hD ht hW.alike⟩, hS.F ht⟩) hS.2.2 dM_rule_207
                    · refine lv_iload hx hb dM_rule_186 (lv_at hl 0 rfl) ?_
                      refine lv_aload_n hx hb dM_rule_188 rfl (lv_at hl 2 rfl) ?_
                      refine va_get (D := D) (ci := 4) (C := RM) (T := TM) (N := 21) hx hb hT inM hown hK hP (0) (mw_O) rfl 12 (by decide) (hT _ wm_511) (fun _ h9 => h9) rfl dM_rule_189 ?_
                      refine lv_aload_n hx hb dM_rule_192 rfl (lv_at hl 2 rfl) ?_
                      refine va_get (D := D) (ci := 4) (C := RM) (T := TM) (N := 21) hx hb hT inM hown hK hP (0) (mw_O) rfl 2 (by decide) (hT _ wm_501) (fun _ h9 => h9) rfl dM_rule_193 ?_
                      refine lv_iload_n hx hb dM_rule_196 rfl (lv_at hl 3 rfl) ?_
                      refine va_iald (D := D) hx hb hK hP (1) 0 (mw_a1) rfl (vp_in_nI (by omega) (by decide)) dM_rule_197 ?_
                      rw [nI_clamp (n := a) (by omega)]
                      refine W.eq (g2 := F0 m 198 ls [.int (nI (h 2 a)), .ref (ad 11), .int ((g (4) a) - (g (4) b))]) (by rw [hm.kind (q := a) (by omega)]) ?_
                      refine va_iald (D := D) hx hb hK hP (11) 0 (mw_a11) rfl (vp_in_nI (by omega) (by decide)) dM_rule_198 ?_
                      rw [nI_clamp (n := h 2 a) (by omega)]
                      refine lv_icmp_le (tgt := 206) hx hb dM_rule_199 (by decide) (fun c_45 => ?_) (fun c_45 => ?_)
                      · refine lv_iconst (v := 0) hx hb dM_rule_206 (by decide) ?_
                        exact W.iret (v := 0) hx hb hr (fun t ht hW => ⟨⟨_, g, rfl, ⟨by simp [ruM, agB, ← c_1, ← c_9, c_21, c_22, c_34, c_35, c_36, c_37, c_43, c_44, c_45], rfl⟩, gpost_at hP hK hD ht hW.alike⟩, hS.F ht⟩) hS.2.2 dM_rule_207
                      · refine lv_iconst (v := 3) hx hb dM_rule_202 (by decide) ?_
                        refine lv_goto (tgt := 207) hx hb dM_rule_203 (by decide) ?_
                        exact W.iret (v := 3) hx hb hr (fun t ht hW => ⟨⟨_, g, rfl, ⟨by simp [ruM, agB, ← c_1, ← c_9, c_21, c_22, c_34, c_35, c_36, c_37, c_43, c_44, c_45], rfl⟩, gpost_at hP hK hD ht hW.alike⟩, hS.F ht⟩) hS.2.2 dM_rule_207
              · refine lv_iconst (v := 2) hx hb dM_rule_116 (by decide) ?_
                exact W.iret (v := 2) hx hb hr (fun t ht hW => ⟨⟨_, g, rfl, ⟨by simp [ruM, agB, ← c_1, ← c_9, c_21, c_22, c_34, c_35, c_36], rfl⟩, gpost_at hP hK hD ht hW.alike⟩, hS.F ht⟩) hS.2.2 dM_rule_117
          · refine lv_iconst (v := 1) hx hb dM_rule_84 (by decide) ?_
            exact W.iret (v := 1) hx hb hr (fun t ht hW => ⟨⟨_, g, rfl, ⟨by simp [ruM, agB, ← c_1, ← c_9, c_21, c_22, c_34], rfl⟩, gpost_at hP hK hD ht hW.alike⟩, hS.F ht⟩) hS.2.2 dM_rule_85
set_option maxHeartbeats 4000000 in
set_option maxRecDepth 100000 in
theorem kM_clash (l : Launch) (D : va_G) (CA : Nat → ClassId) (g : Nat → Nat → Int32) (ad : Nat → Nat) (sz : Nat) (h : Nat → Nat → Nat) (jp : Nat → Nat) (hm : MI g h jp) (p1 q1 : Int32) : Met l yM_clash wM_clash (rm 2 0 0) (va_Pc [.ref (ad 0), .int p1, .int q1] (gpre D (cty CA) (mw CA g ad) sz)) (va_Qi (fun r (u : Nat → Nat → Int32) => t4 (ib p1 (nI (h 0 0)) ∨ ib q1 (nI (h 0 0))) (p1 = q1 ∨ ¬ h 2 (n32 p1) = h 2 (n32 q1)) False g u (∃ q q2, q < h 0 0 ∧ q2 < h 0 0 ∧ p1 = nI q ∧ q1 = nI q2 ∧ h 2 q = h 2 q2 ∧ r = ruM (u2 g 0 0 0) (h 2 q) (jp q) q q2 ∧ u = u2 g 0 0 0)) (fun u t => gpost D (cty CA) (mw CA u ad) (mA ad sz) t) (mA ad sz)) 0 0 (mA ad sz) := by
  refine Met.ofW (cc := cM_clash) (maxL := 4) (ret := (some .int)) (by decide) rfl ?_
  intro p e s m args below meth c s₁ B hml hv
  obtain ⟨rfl, hsz, hP, hK, hD0⟩ := hv
  have hx := B.exec
  have hb := B.bytes
  have hr := B.returns
  have hT : ∀ w ∈ TB, w.before _ s = true := fun w hw => atoms_spec (ws := wM_clash) B.pre w (List.mem_cons_of_mem _ hw)
  have hown : s.vm.findClass "CountLeastModel" = some m.cls := findClass_of_methodNamed B.named
  have hlocks := B.notSynchronized
  subst hsz
  have hD := nA_self (sz := s.heap.size) hD0
  have hS : va_S (mA ad s.heap.size) s.heap s.heap [] := va_S.rf
  have hP : va_P D vwCl (mw CA g ad) s.heap := hP
  have hl := lv_entry ([.ref (ad 0), .int p1, .int q1]) (n := 4) (Nat.le_of_ble_eq_true rfl)
  rw [lg_entry_eq]
  generalize (lg_sl ([.ref (ad 0), .int p1, .int q1]) ++ List.replicate (4 - (lg_sl ([.ref (ad 0), .int p1, .int q1])).length) Slot.unset).toArray = ls at hl ⊢
  have hl : lv_has ls 4 [(0, .ref (ad 0)), (1, .int p1), (2, .int q1)] := hl
  refine lv_aload_n hx hb dM_clash_0 rfl (lv_at hl 0 rfl) ?_
  refine lv_iload_n hx hb dM_clash_1 rfl (lv_at hl 1 rfl) ?_
  refine kVi (n := 1) (D := D) (wd := fun z => mw CA z ad) (A1 := fun sz => mA ad sz) (As := [.int p1]) (rest := []) ⟨hx, hb, hml, hown, hT⟩ (kM_isPiece l D CA g ad s.heap.size h jp hm p1) (gi_V wm_597 wm_599 wp_9 wm_4 wm_600) rfl rfl (by decide +kernel) ⟨(Nat.le_of_ble_eq_true rfl), (Nat.le_of_ble_eq_true rfl)⟩ (va_recv hK hP (ci := 4) (q0 := 0) rfl mw_O) hK hP hD hS (fun _ h9 => h9) (nA_mono hS.1) rfl hl.1 rfl (Nat.le_of_ble_eq_true rfl) dM_clash_2 ⟨(Nat.le_of_ble_eq_true rfl), (Nat.le_of_ble_eq_true rfl)⟩ (fun r_1 u_2 H locs w_3 hz hP hD hS => ?_)
  obtain ⟨hu9, w_3⟩ := w_3
  rw [hu9] at hP hD
  rcases w_3 with ⟨rfl, f_4⟩ | ⟨rfl, f_4⟩
  · refine lv_if_eq (tgt := 16) hx hb dM_clash_5 (by decide) (fun c_5 => absurd c_5 (by decide)) (fun c_5 => ?_)
    refine lv_aload_n hx hb dM_clash_8 rfl (lv_at hl 0 rfl) ?_
    refine lv_iload_n hx hb dM_clash_9 rfl (lv_at hl 2 rfl) ?_
    refine kVi (n := 1) (D := D) (wd := fun z => mw CA z ad) (A1 := fun sz => mA ad sz) (As := [.int q1]) (rest := []) ⟨hx, hb, hml, hown, hT⟩ (kM_isPiece l D CA g ad H.size h jp hm q1) (gi_V wm_597 wm_599 wp_9 wm_4 wm_600) rfl rfl (by decide +kernel) ⟨(Nat.le_of_ble_eq_true rfl), (Nat.le_of_ble_eq_true rfl)⟩ (va_recv hK hP (ci := 4) (q0 := 0) rfl mw_O) hK hP hD hS (fun _ h9 => h9) (nA_mono hS.1) rfl hl.1 rfl (Nat.le_of_ble_eq_true rfl) dM_clash_10 ⟨(Nat.le_of_ble_eq_true rfl), (Nat.le_of_ble_eq_true rfl)⟩ (fun r_6 u_7 H locs w_8 hz hP hD hS => ?_)
    obtain ⟨hu9, w_8⟩ := w_8
    rw [hu9] at hP hD
    rcases w_8 with ⟨rfl, f_9⟩ | ⟨rfl, f_9⟩
    · refine lv_if_ne (tgt := 20) hx hb dM_clash_13 (by decide) (fun c_10 => ?_) (fun c_10 => absurd c_10 (by decide))
      refine lv_iconst (v := 0) hx hb dM_clash_20 (by decide) ?_
      refine lv_istore_n (lv' := [(3, .int 0), (0, .ref (ad 0)), (1, .int p1), (2, .int q1)]) hx hb dM_clash_21 rfl hl (by decide) rfl (fun ls hl => ?_)
      refine lv_aload_n hx hb dM_clash_22 rfl (lv_at hl 1 rfl) ?_
      refine lv_iload_n hx hb dM_clash_23 rfl (lv_at hl 0 rfl) ?_
      refine lv_iload_n hx hb dM_clash_24 rfl (lv_at hl 0 rfl) ?_
      refine lv_if_ne (tgt := 52) hx hb dM_clash_25 (by decide) (fun c_11 => absurd rfl c_11) (fun c_11 => ?_)
      have h72 := hm.le
      obtain ⟨q, hq, rfl⟩ := ibn (n := h 0 0) (by have := hm.le; omega) f_4
      obtain ⟨q2, hq2, rfl⟩ := ibn (n := h 0 0) (by have := hm.le; omega) f_9
      have k61 := hm.k6 hq
      have k62 := hm.k6 hq2
      refine lv_iload_n hx hb dM_clash_28 rfl (lv_at hl 2 rfl) ?_
      refine lv_iload_n hx hb dM_clash_29 rfl (lv_at hl 3 rfl) ?_
      refine lv_icmp_eq (tgt := 48) hx hb dM_clash_30 (by decide) (fun c_12 => ?_) (fun c_12 => ?_)
      · refine lv_iconst (v := 1) hx hb dM_clash_48 (by decide) ?_
        refine lv_goto (tgt := 53) hx hb dM_clash_49 (by decide) ?_
        refine lv_iconst (v := 0) hx hb dM_clash_53 (by decide) ?_
        refine kVi (n := 3) (D := D) (wd := fun z => mw CA z ad) (A1 := fun sz => mA ad sz) (As := [.int 0, .int 1, .int 0]) (rest := []) ⟨hx, hb, hml, hown, hT⟩ (kM_throwing l D CA g ad H.size 0 1 0) (gi_V wm_577 wm_579 wp_8 wm_4 wm_580) rfl rfl (by decide +kernel) ⟨(Nat.le_of_ble_eq_true rfl), (Nat.le_of_ble_eq_true rfl)⟩ (va_recv hK hP (ci := 4) (q0 := 0) rfl mw_O) hK hP hD hS (fun _ h9 => h9) (nA_mono hS.1) rfl hl.1 rfl (Nat.le_of_ble_eq_true rfl) dM_clash_54 ⟨(Nat.le_of_ble_eq_true rfl), (Nat.le_of_ble_eq_true rfl)⟩ (fun r_13 u_14 H locs w_15 hz hP hD hS => ?_)
        obtain ⟨rfl, rfl⟩ := th_010 w_15
        refine lv_if_eq (tgt := 62) hx hb dM_clash_57 (by decide) (fun c_16 => absurd c_16 (by decide)) (fun c_16 => ?_)
        refine lv_iconst (v := 0) hx hb dM_clash_60 (by decide) ?_
        exact W.iret (v := 0) hx hb hr (fun t ht hW => ⟨⟨_, (u2 g 0 0 2), rfl, Or.inr (Or.inl ⟨(not_or.mpr ⟨f_4, f_9⟩), (Or.inl c_12), rfl⟩), gpost_at hP hK hD ht hW.alike⟩, hS.F ht⟩) hS.2.2 dM_clash_61
      · refine lv_aload_n hx hb dM_clash_33 rfl (lv_at hl 1 rfl) ?_
        refine va_get (D := D) (ci := 4) (C := RM) (T := TM) (N := 21) hx hb hT inM hown hK hP (0) (mw_O) rfl 2 (by decide) (hT _ wm_501) (fun _ h9 => h9) rfl dM_clash_34 ?_
        refine lv_iload_n hx hb dM_clash_37 rfl (lv_at hl 2 rfl) ?_
        refine va_iald (D := D) hx hb hK hP (1) 0 (mw_a1) rfl (vp_in_nI (by omega) (by decide)) dM_clash_38 ?_
        rw [nI_clamp (n := q) (by omega)]
        refine W.eq (g2 := F0 m 39 ls [.int (nI (h 2 q)), .int 0, .ref (ad 0)]) (by rw [hm.kind (q := q) (by omega)]) ?_
        refine lv_aload_n hx hb dM_clash_39 rfl (lv_at hl 1 rfl) ?_
        refine va_get (D := D) (ci := 4) (C := RM) (T := TM) (N := 21) hx hb hT inM hown hK hP (0) (mw_O) rfl 2 (by decide) (hT _ wm_501) (fun _ h9 => h9) rfl dM_clash_40 ?_
        refine lv_iload_n hx hb dM_clash_43 rfl (lv_at hl 3 rfl) ?_
        refine va_iald (D := D) hx hb hK hP (1) 0 (mw_a1) rfl (vp_in_nI (by omega) (by decide)) dM_clash_44 ?_
        rw [nI_clamp (n := q2) (by omega)]
        refine W.eq (g2 := F0 m 45 ls [.int (nI (h 2 q2)), .int (nI (h 2 q)), .int 0, .ref (ad 0)]) (by rw [hm.kind (q := q2) (by omega)]) ?_
        refine lv_icmp_eq (tgt := 52) hx hb dM_clash_45 (by decide) (fun c_17 => ?_) (fun c_17 => ?_)
        · refine lv_iconst (v := 0) hx hb dM_clash_52 (by decide) ?_
          refine lv_iconst (v := 0) hx hb dM_clash_53 (by decide) ?_
          refine kVi (n := 3) (D := D) (wd := fun z => mw CA z ad) (A1 := fun sz => mA ad sz) (As := [.int 0, .int 0, .int 0]) (rest := []) ⟨hx, hb, hml, hown, hT⟩ (kM_throwing l D CA g ad H.size 0 0 0) (gi_V wm_577 wm_579 wp_8 wm_4 wm_580) rfl rfl (by decide +kernel) ⟨(Nat.le_of_ble_eq_true rfl), (Nat.le_of_ble_eq_true rfl)⟩ (va_recv hK hP (ci := 4) (q0 := 0) rfl mw_O) hK hP hD hS (fun _ h9 => h9) (nA_mono hS.1) rfl hl.1 rfl (Nat.le_of_ble_eq_true rfl) dM_clash_54 ⟨(Nat.le_of_ble_eq_true rfl), (Nat.le_of_ble_eq_true rfl)⟩ (fun r_18 u_19 H locs w_20 hz hP hD hS => ?_)
          obtain ⟨rfl, rfl⟩ := th_000 w_20
          have hm0 := (hm).t (v := 0)
          refine lv_if_eq (tgt := 62) hx hb dM_clash_57 (by decide) (fun c_21 => ?_) (fun c_21 => absurd (by decide) c_21)
          refine lv_aload_n hx hb dM_clash_62 rfl (lv_at hl 1 rfl) ?_
          refine lv_iload_n hx hb dM_clash_63 rfl (lv_at hl 2 rfl) ?_
          refine lv_iload_n hx hb dM_clash_64 rfl (lv_at hl 3 rfl) ?_
          refine kVi (n := 2) (D := D) (wd := fun z => mw CA z ad) (A1 := fun sz => mA ad sz) (As := [.int (nI q), .int (nI q2)]) (rest := []) ⟨hx, hb, hml, hown, hT⟩ (kM_rule l D CA (u2 g 0 0 0) ad H.size h jp hm0 q q2 hq hq2) (gi_V wm_613 wm_615 wp_10 wm_4 wm_616) rfl rfl (by decide +kernel) ⟨(Nat.le_of_ble_eq_true rfl), (Nat.le_of_ble_eq_true rfl)⟩ (va_recv hK hP (ci := 4) (q0 := 0) rfl mw_O) hK hP hD hS (fun _ h9 => h9) (nA_mono hS.1) rfl hl.1 rfl (Nat.le_of_ble_eq_true rfl) dM_clash_65 ⟨(Nat.le_of_ble_eq_true rfl), (Nat.le_of_ble_eq_true rfl)⟩ (fun r_22 u_23 H locs w_24 hz hP hD hS => ?_)
          obtain ⟨w_24, hu9⟩ := w_24
          rw [hu9] at hP hD
          exact W.iret (v := r_22) hx hb hr (fun t ht hW => ⟨⟨_, (u2 g 0 0 0), rfl, Or.inr (Or.inr (Or.inr ⟨(not_or.mpr ⟨f_4, f_9⟩), (not_or.mpr ⟨c_12, (fun z => z (by rw [n32n q (by omega), n32n q2 (by omega)]; exact (nI_eq (by omega) (by omega)).mp c_17))⟩), (fun h9 : False => h9), q, q2, hq, hq2, rfl, rfl, (nI_eq (by omega) (by omega)).mp c_17, w_24, rfl⟩)), gpost_at hP hK hD ht hW.alike⟩, hS.F ht⟩) hS.2.2 dM_clash_68
        · refine lv_iconst (v := 1) hx hb dM_clash_48 (by decide) ?_
          refine lv_goto (tgt := 53) hx hb dM_clash_49 (by decide) ?_
          refine lv_iconst (v := 0) hx hb dM_clash_53 (by decide) ?_
          refine kVi (n := 3) (D := D) (wd := fun z => mw CA z ad) (A1 := fun sz => mA ad sz) (As := [.int 0, .int 1, .int 0]) (rest := []) ⟨hx, hb, hml, hown, hT⟩ (kM_throwing l D CA g ad H.size 0 1 0) (gi_V wm_577 wm_579 wp_8 wm_4 wm_580) rfl rfl (by decide +kernel) ⟨(Nat.le_of_ble_eq_true rfl), (Nat.le_of_ble_eq_true rfl)⟩ (va_recv hK hP (ci := 4) (q0 := 0) rfl mw_O) hK hP hD hS (fun _ h9 => h9) (nA_mono hS.1) rfl hl.1 rfl (Nat.le_of_ble_eq_true rfl) dM_clash_54 ⟨(Nat.le_of_ble_eq_true rfl), (Nat.le_of_ble_eq_true rfl)⟩ (fun r_25 u_26 H locs w_27 hz hP hD hS => ?_)
          obtain ⟨rfl, rfl⟩ := th_010 w_27
          refine lv_if_eq (tgt := 62) hx hb dM_clash_57 (by decide) (fun c_28 => absurd c_28 (by decide)) (fun c_28 => ?_)
          refine lv_iconst (v := 0) hx hb dM_clash_60 (by decide) ?_
          exact W.iret (v := 0) hx hb hr (fun t ht hW => ⟨⟨_, (u2 g 0 0 2), rfl, Or.inr (Or.inl ⟨(not_or.mpr ⟨f_4, f_9⟩), (Or.inr (fun z => c_17 (by rw [n32n q (by omega), n32n q2 (by omega)] at z; rw [z]))), rfl⟩), gpost_at hP hK hD ht hW.alike⟩, hS.F ht⟩) hS.2.2 dM_clash_61
    · refine lv_if_ne (tgt := 20) hx hb dM_clash_13 (by decide) (fun c_29 => absurd rfl c_29) (fun c_29 => ?_)
      refine lv_iconst (v := 1) hx hb dM_clash_16 (by decide) ?_
      refine lv_goto (tgt := 21) hx hb dM_clash_17 (by decide) ?_
      refine lv_istore_n (lv' := [(3, .int 1), (0, .ref (ad 0)), (1, .int p1), (2, .int q1)]) hx hb dM_clash_21 rfl hl (by decide) rfl (fun ls hl => ?_)
      refine lv_aload_n hx hb dM_clash_22 rfl (lv_at hl 1 rfl) ?_
      refine lv_iload_n hx hb dM_clash_23 rfl (lv_at hl 0 rfl) ?_
      refine lv_iload_n hx hb dM_clash_24 rfl (lv_at hl 0 rfl) ?_
      refine lv_if_ne (tgt := 52) hx hb dM_clash_25 (by decide) (fun c_30 => ?_) (fun c_30 => absurd c_30 (by decide))
      refine lv_iconst (v := 0) hx hb dM_clash_52 (by decide) ?_
      refine lv_iconst (v := 0) hx hb dM_clash_53 (by decide) ?_
      refine kVi (n := 3) (D := D) (wd := fun z => mw CA z ad) (A1 := fun sz => mA ad sz) (As := [.int 1, .int 0, .int 0]) (rest := []) ⟨hx, hb, hml, hown, hT⟩ (kM_throwing l D CA g ad H.size 1 0 0) (gi_V wm_577 wm_579 wp_8 wm_4 wm_580) rfl rfl (by decide +kernel) ⟨(Nat.le_of_ble_eq_true rfl), (Nat.le_of_ble_eq_true rfl)⟩ (va_recv hK hP (ci := 4) (q0 := 0) rfl mw_O) hK hP hD hS (fun _ h9 => h9) (nA_mono hS.1) rfl hl.1 rfl (Nat.le_of_ble_eq_true rfl) dM_clash_54 ⟨(Nat.le_of_ble_eq_true rfl), (Nat.le_of_ble_eq_true rfl)⟩ (fun r_31 u_32 H locs w_33 hz hP hD hS => ?_)
      obtain ⟨rfl, rfl⟩ := th_100 w_33
      refine lv_if_eq (tgt := 62) hx hb dM_clash_57 (by decide) (fun c_34 => absurd c_34 (by decide)) (fun c_34 => ?_)
      refine lv_iconst (v := 0) hx hb dM_clash_60 (by decide) ?_
      exact W.iret (v := 0) hx hb hr (fun t ht hW => ⟨⟨_, (u2 g 0 0 1), rfl, Or.inl ⟨(Or.inr f_9), rfl⟩, gpost_at hP hK hD ht hW.alike⟩, hS.F ht⟩) hS.2.2 dM_clash_61
  · refine lv_if_eq (tgt := 16) hx hb dM_clash_5 (by decide) (fun c_35 => ?_) (fun c_35 => absurd (by decide) c_35)
    refine lv_iconst (v := 1) hx hb dM_clash_16 (by decide) ?_
    refine lv_goto (tgt := 21) hx hb dM_clash_17 (by decide) ?_
    refine lv_istore_n (lv' := [(3, .int 1), (0, .ref (ad 0)), (1, .int p1), (2, .int q1)]) hx hb dM_clash_21 rfl hl (by decide) rfl (fun ls hl => ?_)
    refine lv_aload_n hx hb dM_clash_22 rfl (lv_at hl 1 rfl) ?_
    refine lv_iload_n hx hb dM_clash_23 rfl (lv_at hl 0 rfl) ?_
    refine lv_iload_n hx hb dM_clash_24 rfl (lv_at hl 0 rfl) ?_
    refine lv_if_ne (tgt := 52) hx hb dM_clash_25 (by decide) (fun c_36 => ?_) (fun c_36 => absurd c_36 (by decide))
    refine lv_iconst (v := 0) hx hb dM_clash_52 (by decide) ?_
    refine lv_iconst (v := 0) hx hb dM_clash_53 (by decide) ?_
    refine kVi (n := 3) (D := D) (wd := fun z => mw CA z ad) (A1 := fun sz => mA ad sz) (As := [.int 1, .int 0, .int 0]) (rest := []) ⟨hx, hb, hml, hown, hT⟩ (kM_throwing l D CA g ad H.size 1 0 0) (gi_V wm_577 wm_579 wp_8 wm_4 wm_580) rfl rfl (by decide +kernel) ⟨(Nat.le_of_ble_eq_true rfl), (Nat.le_of_ble_eq_true rfl)⟩ (va_recv hK hP (ci := 4) (q0 := 0) rfl mw_O) hK hP hD hS (fun _ h9 => h9) (nA_mono hS.1) rfl hl.1 rfl (Nat.le_of_ble_eq_true rfl) dM_clash_54 ⟨(Nat.le_of_ble_eq_true rfl), (Nat.le_of_ble_eq_true rfl)⟩ (fun r_37 u_38 H locs w_39 hz hP hD hS => ?_)
    obtain ⟨rfl, rfl⟩ := th_100 w_39
    refine lv_if_eq (tgt := 62) hx hb dM_clash_57 (by decide) (fun c_40 => absurd c_40 (by decide)) (fun c_40 => ?_)
    refine lv_iconst (v := 0) hx hb dM_clash_60 (by decide) ?_
    exact W.iret (v := 0) hx hb hr (fun t ht hW => ⟨⟨_, (u2 g 0 0 1), rfl, Or.inl ⟨(Or.inl f_4), rfl⟩, gpost_at hP hK hD ht hW.alike⟩, hS.F ht⟩) hS.2.2 dM_clash_61
set_option maxHeartbeats 4000000 in
set_option maxRecDepth 100000 in
theorem kM_clashes (l : Launch) (D : va_G) (CA : Nat → ClassId) (g : Nat → Nat → Int32) (ad : Nat → Nat) (sz : Nat) (h : Nat → Nat → Nat) (jp : Nat → Nat) (hm : MI g h jp) (k i j : Nat) (hk : k < 6) (hi : i < h 1 k) (hj : j < h 1 k) : Met l yM_clashes wM_clashes (rm 1 0 0) (va_Pc [.ref (ad 0), .int (nI k), .int (nI i), .int (nI j)] (gpre D (cty CA) (mw CA g ad) sz)) (va_Qi (fun r (u : Nat → Nat → Int32) => r = (if cM g h jp k i j = true then 1 else 0) ∧ u = g) (fun u t => gpost D (cty CA) (mw CA u ad) (mA ad sz) t) (mA ad sz)) 0 0 (mA ad sz) := by
  refine Met.ofW (cc := cM_clashes) (maxL := 4) (ret := (some .boolean)) (by decide) rfl ?_
  intro p e s m args below meth c s₁ B hml hv
  obtain ⟨rfl, hsz, hP, hK, hD0⟩ := hv
  have hx := B.exec
  have hb := B.bytes
  have hr := B.returns
  have hT : ∀ w ∈ TB, w.before _ s = true := fun w hw => atoms_spec (ws := wM_clashes) B.pre w (List.mem_cons_of_mem _ hw)
  have hown : s.vm.findClass "CountLeastModel" = some m.cls := findClass_of_methodNamed B.named
  have hlocks := B.notSynchronized
  subst hsz
  have hD := nA_self (sz := s.heap.size) hD0
  have hS : va_S (mA ad s.heap.size) s.heap s.heap [] := va_S.rf
  have hP : va_P D vwCl (mw CA g ad) s.heap := hP
  have hl := lv_entry ([.ref (ad 0), .int (nI k), .int (nI i), .int (nI j)]) (n := 4) (Nat.le_of_ble_eq_true rfl)
  rw [lg_entry_eq]
  generalize (lg_sl ([.ref (ad 0), .int (nI k), .int (nI i), .int (nI j)]) ++ List.replicate (4 - (lg_sl ([.ref (ad 0), .int (nI k), .int (nI i), .int (nI j)])).length) Slot.unset).toArray = ls at hl ⊢
  have hl : lv_has ls 4 [(0, .ref (ad 0)), (1, .int (nI k)), (2, .int (nI i)), (3, .int (nI j))] := hl
  have h12 := hm.c12 hk
  have r1 := hm.rl hk hi
  have r2 := hm.rl hk hj
  refine lv_aload_n hx hb dM_clashes_0 rfl (lv_at hl 0 rfl) ?_
  refine lv_aload_n hx hb dM_clashes_1 rfl (lv_at hl 0 rfl) ?_
  refine va_get (D := D) (ci := 4) (C := RM) (T := TM) (N := 21) hx hb hT inM hown hK hP (0) (mw_O) rfl 10 (by decide) (hT _ wm_509) (fun _ h9 => h9) rfl dM_clashes_2 ?_
  refine lv_bipush (v := 12) hx hb dM_clashes_5 (by decide) ?_
  refine lv_iload_n hx hb dM_clashes_7 rfl (lv_at hl 1 rfl) ?_
  refine lv_imul hx hb dM_clashes_8 ?_
  refine W.eq (g2 := F0 m 9 ls [.int (nI (12 * k)), .ref (ad 9), .ref (ad 0)]) (by rw [m12 _]) ?_
  refine lv_iload_n hx hb dM_clashes_9 rfl (lv_at hl 2 rfl) ?_
  refine lv_iadd hx hb dM_clashes_10 ?_
  refine W.eq (g2 := F0 m 11 ls [.int (nI (12 * k + i)), .ref (ad 9), .ref (ad 0)]) (by rw [nI_add]) ?_
  refine va_iald (D := D) hx hb hK hP (9) 0 (mw_a9) rfl (vp_in_nI (by omega) (by decide)) dM_clashes_11 ?_
  rw [nI_clamp (n := 12 * k + i) (by omega)]
  refine W.eq (g2 := F0 m 12 ls [.int (nI (h (3 + k) i)), .ref (ad 0)]) (by rw [hm.row (k := k) (j := i) (by omega) (by omega)]) ?_
  refine lv_aload_n hx hb dM_clashes_12 rfl (lv_at hl 0 rfl) ?_
  refine va_get (D := D) (ci := 4) (C := RM) (T := TM) (N := 21) hx hb hT inM hown hK hP (0) (mw_O) rfl 10 (by decide) (hT _ wm_509) (fun _ h9 => h9) rfl dM_clashes_13 ?_
  refine lv_bipush (v := 12) hx hb dM_clashes_16 (by decide) ?_
  refine lv_iload_n hx hb dM_clashes_18 rfl (lv_at hl 1 rfl) ?_
  refine lv_imul hx hb dM_clashes_19 ?_
  refine W.eq (g2 := F0 m 20 ls [.int (nI (12 * k)), .ref (ad 9), .int (nI (h (3 + k) i)), .ref (ad 0)]) (by rw [m12 _]) ?_
  refine lv_iload_n hx hb dM_clashes_20 rfl (lv_at hl 3 rfl) ?_
  refine lv_iadd hx hb dM_clashes_21 ?_
  refine W.eq (g2 := F0 m 22 ls [.int (nI (12 * k + j)), .ref (ad 9), .int (nI (h (3 + k) i)), .ref (ad 0)]) (by rw [nI_add]) ?_
  refine va_iald (D := D) hx hb hK hP (9) 0 (mw_a9) rfl (vp_in_nI (by omega) (by decide)) dM_clashes_22 ?_
  rw [nI_clamp (n := 12 * k + j) (by omega)]
  refine W.eq (g2 := F0 m 23 ls [.int (nI (h (3 + k) j)), .int (nI (h (3 + k) i)), .ref (ad 0)]) (by rw [hm.row (k := k) (j := j) (by omega) (by omega)]) ?_
  refine kVi (n := 2) (D := D) (wd := fun z => mw CA z ad) (A1 := fun sz => mA ad sz) (As := [.int (nI (h (3 + k) i)), .int (nI (h (3 + k) j))]) (rest := []) ⟨hx, hb, hml, hown, hT⟩ (kM_rule l D CA g ad s.heap.size h jp hm (h (3 + k) i) (h (3 + k) j) r1 r2) (gi_V wm_613 wm_615 wp_10 wm_4 wm_616) rfl rfl (by decide +kernel) ⟨(Nat.le_of_ble_eq_true rfl), (Nat.le_of_ble_eq_true rfl)⟩ (va_recv hK hP (ci := 4) (q0 := 0) rfl mw_O) hK hP hD hS (fun _ h9 => h9) (nA_mono hS.1) rfl hl.1 rfl (Nat.le_of_ble_eq_true rfl) dM_clashes_23 ⟨(Nat.le_of_ble_eq_true rfl), (Nat.le_of_ble_eq_true rfl)⟩ (fun r_1 u_2 H locs w_3 hz hP hD hS => ?_)
  obtain ⟨w_3, hu9⟩ := w_3
  rw [hu9] at hP hD
  refine lv_if_le (tgt := 33) hx hb dM_clashes_26 (by decide) (fun c_4 => ?_) (fun c_4 => ?_)
  · refine lv_iconst (v := 0) hx hb dM_clashes_33 (by decide) ?_
    exact W.zret (v := 0) hx hb hr rfl (fun t ht hW => ⟨⟨_, g, rfl, ⟨by simp [cM, ← w_3, show  r_1 = 0 from by rw [w_3] at c_4 ⊢; exact ruM_le.mp c_4], rfl⟩, gpost_at hP hK hD ht hW.alike⟩, hS.F ht⟩) hS.2.2 dM_clashes_34
  · refine lv_iconst (v := 1) hx hb dM_clashes_29 (by decide) ?_
    refine lv_goto (tgt := 34) hx hb dM_clashes_30 (by decide) ?_
    exact W.zret (v := 1) hx hb hr rfl (fun t ht hW => ⟨⟨_, g, rfl, ⟨by simp [cM, ← w_3, show ¬ r_1 = 0 from fun z => c_4 (by rw [z]; decide)], rfl⟩, gpost_at hP hK hD ht hW.alike⟩, hS.F ht⟩) hS.2.2 dM_clashes_34
set_option maxHeartbeats 4000000 in
set_option maxRecDepth 100000 in
theorem loM_sum {p : Program} {l : Launch} {e : Env} {s : State} {m : MethodId} {args : Array Value} {below : List Frame} {meth : Method} {c : Code} {Q : State → Prop} {D : va_G} {CA : Nat → ClassId} {ad : Nat → Nat} {R : Room} {g : Nat → Nat → Int32} {h : Nat → Nat → Nat} {jp : Nat → Nat} (hm : MI g h jp) {k : Nat} (hk : k < 6) (hx : p.tables.exec = Jvm.exec) (hb : c.code = cM_sum) (hml : c.maxLocals = 4) (hown : s.vm.findClass "CountLeastModel" = some m.cls) (hT : ∀ w ∈ TB, w.before args s = true) (hK : va_K D vwCl (cty CA) s) (kx : ∀ (H : Heap) (locs : List Loc), va_P D vwCl (mw CA (g) ad) H → va_D (mA ad s.heap.size) (mw CA (g) ad) → va_S (mA ad s.heap.size) s.heap H locs → ∀ ls, lv_has ls 4 [(3, .int (nI (h 0 0))), (2, .int (l_sum (fun q => if h 2 q = k then g 7 q else 0) (h 0 0))), (1, .int (nI k)), (0, .ref (ad 0))] → W p l e R s m args below meth c H locs 0 0 Q (F0 m 64 ls [])) :
    ∀ (n i : Nat), i + n = h 0 0 → ∀ (H : Heap) (locs : List Loc), va_P D vwCl (mw CA (g) ad) H → va_D (mA ad s.heap.size) (mw CA (g) ad) → va_S (mA ad s.heap.size) s.heap H locs → ∀ ls, lv_has ls 4 [(3, .int (nI i)), (2, .int (l_sum (fun q => if h 2 q = k then g 7 q else 0) i)), (1, .int (nI k)), (0, .ref (ad 0))] → W p l e R s m args below meth c H locs 0 0 Q (F0 m 27 ls []) := by
  intro n
  induction n with
  | zero =>
    intro i hi H locs hP hD hS ls hl
    have hi : i = h 0 0 := by omega
    refine lv_iload_n hx hb dM_sum_27 rfl (lv_at hl 0 rfl) ?_
    refine lv_aload_n hx hb dM_sum_28 rfl (lv_at hl 3 rfl) ?_
    refine va_get (D := D) (ci := 4) (C := RM) (T := TM) (N := 21) hx hb hT inM hown hK hP (0) (mw_O) rfl 1 (by decide) (hT _ wm_500) (fun _ h9 => h9) rfl dM_sum_29 ?_
    refine W.eq (g2 := F0 m 32 ls [.int (nI (h 0 0)), .int (nI i)]) (by rw [hm.many]) ?_
    refine lv_icmp_ge (tgt := 64) hx hb dM_sum_32 (by decide) (fun c_1 => ?_) (fun c_1 => absurd (nI_le (by omega) (by have := hm.le; omega)) c_1)
    rw [hi] at hl
    exact kx H locs hP hD hS ls (lv_sub hl [0, 1, 2, 3] rfl)
  | succ n ih =>
    intro i hi H locs hP hD hS ls hl
    have h72 := hm.le
    have hi7 : i < h 0 0 := by omega
    have hk6 := hm.k6 hi7
    refine lv_iload_n hx hb dM_sum_27 rfl (lv_at hl 0 rfl) ?_
    refine lv_aload_n hx hb dM_sum_28 rfl (lv_at hl 3 rfl) ?_
    refine va_get (D := D) (ci := 4) (C := RM) (T := TM) (N := 21) hx hb hT inM hown hK hP (0) (mw_O) rfl 1 (by decide) (hT _ wm_500) (fun _ h9 => h9) rfl dM_sum_29 ?_
    refine W.eq (g2 := F0 m 32 ls [.int (nI (h 0 0)), .int (nI i)]) (by rw [hm.many]) ?_
    refine lv_icmp_ge (tgt := 64) hx hb dM_sum_32 (by decide) (fun c_1 => absurd c_1 (nI_ge (by omega) (by have := hm.le; omega))) (fun c_1 => ?_)
    refine lv_iload_n hx hb dM_sum_35 rfl (lv_at hl 1 rfl) ?_
    refine lv_aload_n hx hb dM_sum_36 rfl (lv_at hl 3 rfl) ?_
    refine va_get (D := D) (ci := 4) (C := RM) (T := TM) (N := 21) hx hb hT inM hown hK hP (0) (mw_O) rfl 2 (by decide) (hT _ wm_501) (fun _ h9 => h9) rfl dM_sum_37 ?_
    refine lv_iload_n hx hb dM_sum_40 rfl (lv_at hl 0 rfl) ?_
    refine va_iald (D := D) hx hb hK hP (1) 0 (mw_a1) rfl (vp_in_nI (by omega) (by decide)) dM_sum_41 ?_
    rw [nI_clamp (n := i) (by omega)]
    refine W.eq (g2 := F0 m 42 ls [.int (nI (h 2 i)), .int (l_sum (fun q => if h 2 q = k then g 7 q else 0) i)]) (by rw [hm.kind (q := i) (by omega)]) ?_
    refine lv_iload_n hx hb dM_sum_42 rfl (lv_at hl 2 rfl) ?_
    refine lv_icmp_ne (tgt := 55) hx hb dM_sum_43 (by decide) (fun c_2 => ?_) (fun c_2 => ?_)
    · refine lv_iconst (v := 0) hx hb dM_sum_55 (by decide) ?_
      refine lv_iadd hx hb dM_sum_56 ?_
      refine lv_istore_n (lv' := [(2, .int ((l_sum (fun q => if h 2 q = k then g 7 q else 0) i) + 0)), (3, .int (nI i)), (1, .int (nI k)), (0, .ref (ad 0))]) hx hb dM_sum_57 rfl hl (by decide) rfl (fun ls hl => ?_)
      refine lv_iinc (v := nI (i + 1)) (lv' := [(3, .int (nI (i + 1))), (2, .int ((l_sum (fun q => if h 2 q = k then g 7 q else 0) i) + 0)), (1, .int (nI k)), (0, .ref (ad 0))]) hx hb dM_sum_58 hl (k := 1) rfl (nI_1 _) (by decide) rfl (fun ls hl => ?_)
      refine lv_goto (tgt := 27) hx hb dM_sum_61 (by decide) ?_
      have hq9 : ¬ h 2 i = k := fun z => c_2 (by rw [z])
      have e9 : (l_sum (fun q => if h 2 q = k then g 7 q else 0) i) + 0 = l_sum (fun q => if h 2 q = k then g 7 q else 0) (i + 1) := by simp [l_sum, hq9]
      rw [e9] at hl
      exact ih (i + 1) (by omega) H locs hP hD hS ls (lv_sub hl [0, 1, 2, 3] rfl)
    · refine lv_aload_n hx hb dM_sum_46 rfl (lv_at hl 3 rfl) ?_
      refine va_get (D := D) (ci := 4) (C := RM) (T := TM) (N := 21) hx hb hT inM hown hK hP (0) (mw_O) rfl 8 (by decide) (hT _ wm_507) (fun _ h9 => h9) rfl dM_sum_47 ?_
      refine lv_iload_n hx hb dM_sum_50 rfl (lv_at hl 0 rfl) ?_
      refine va_iald (D := D) hx hb hK hP (7) 0 (mw_a7) rfl (vp_in_nI (by omega) (by decide)) dM_sum_51 ?_
      rw [nI_clamp (n := i) (by omega)]
      refine lv_goto (tgt := 56) hx hb dM_sum_52 (by decide) ?_
      refine lv_iadd hx hb dM_sum_56 ?_
      refine lv_istore_n (lv' := [(2, .int ((l_sum (fun q => if h 2 q = k then g 7 q else 0) i) + (g (7) i))), (3, .int (nI i)), (1, .int (nI k)), (0, .ref (ad 0))]) hx hb dM_sum_57 rfl hl (by decide) rfl (fun ls hl => ?_)
      refine lv_iinc (v := nI (i + 1)) (lv' := [(3, .int (nI (i + 1))), (2, .int ((l_sum (fun q => if h 2 q = k then g 7 q else 0) i) + (g (7) i))), (1, .int (nI k)), (0, .ref (ad 0))]) hx hb dM_sum_58 hl (k := 1) rfl (nI_1 _) (by decide) rfl (fun ls hl => ?_)
      refine lv_goto (tgt := 27) hx hb dM_sum_61 (by decide) ?_
      have hq9 : h 2 i = k := (nI_eq (by omega) (by omega)).mp c_2
      have e9 : (l_sum (fun q => if h 2 q = k then g 7 q else 0) i) + (g (7) i) = l_sum (fun q => if h 2 q = k then g 7 q else 0) (i + 1) := by simp [l_sum, hq9]
      rw [e9] at hl
      exact ih (i + 1) (by omega) H locs hP hD hS ls (lv_sub hl [0, 1, 2, 3] rfl)
set_option maxHeartbeats 4000000 in
set_option maxRecDepth 100000 in
theorem kM_sum (l : Launch) (D : va_G) (CA : Nat → ClassId) (g : Nat → Nat → Int32) (ad : Nat → Nat) (sz : Nat) (h : Nat → Nat → Nat) (jp : Nat → Nat) (hm : MI g h jp) (kd : Int32) : Met l yM_sum wM_sum (rm 2 0 0) (va_Pc [.ref (ad 0), .int kd] (gpre D (cty CA) (mw CA g ad) sz)) (va_Qi (fun r (u : Nat → Nat → Int32) => t4 (ib kd 6) False False g u (∃ k, k < 6 ∧ kd = nI k ∧ r = l_sum (fun q => if h 2 q = k then g 7 q else 0) (h 0 0) ∧ u = u2 g 0 0 0)) (fun u t => gpost D (cty CA) (mw CA u ad) (mA ad sz) t) (mA ad sz)) 0 0 (mA ad sz) := by
  refine Met.ofW (cc := cM_sum) (maxL := 4) (ret := (some .int)) (by decide) rfl ?_
  intro p e s m args below meth c s₁ B hml hv
  obtain ⟨rfl, hsz, hP, hK, hD0⟩ := hv
  have hx := B.exec
  have hb := B.bytes
  have hr := B.returns
  have hT : ∀ w ∈ TB, w.before _ s = true := fun w hw => atoms_spec (ws := wM_sum) B.pre w (List.mem_cons_of_mem _ hw)
  have hown : s.vm.findClass "CountLeastModel" = some m.cls := findClass_of_methodNamed B.named
  have hlocks := B.notSynchronized
  subst hsz
  have hD := nA_self (sz := s.heap.size) hD0
  have hS : va_S (mA ad s.heap.size) s.heap s.heap [] := va_S.rf
  have hP : va_P D vwCl (mw CA g ad) s.heap := hP
  have hl := lv_entry ([.ref (ad 0), .int kd]) (n := 4) (Nat.le_of_ble_eq_true rfl)
  rw [lg_entry_eq]
  generalize (lg_sl ([.ref (ad 0), .int kd]) ++ List.replicate (4 - (lg_sl ([.ref (ad 0), .int kd])).length) Slot.unset).toArray = ls at hl ⊢
  have hl : lv_has ls 4 [(0, .ref (ad 0)), (1, .int kd)] := hl
  refine lv_aload_n hx hb dM_sum_0 rfl (lv_at hl 0 rfl) ?_
  refine lv_iload_n hx hb dM_sum_1 rfl (lv_at hl 1 rfl) ?_
  refine kSi (n := 1) (D := D) (As := [.int kd]) (rest := [.ref (ad 0)]) ⟨hx, hb, hml, hown, hT⟩ (kM_isKind l kd) (gi_S wm_571 wm_572 wm_4 wm_573) rfl rfl (by decide +kernel) ⟨(Nat.le_of_ble_eq_true rfl), (Nat.le_of_ble_eq_true rfl)⟩ hP hS rfl hl.1 rfl (Nat.le_of_ble_eq_true rfl) dM_sum_2 ⟨(Nat.le_of_ble_eq_true rfl), (Nat.le_of_ble_eq_true rfl)⟩ (fun r_1 H locs e_2 hz hP hS => ?_)
  rcases e_2 with ⟨rfl, f_3⟩ | ⟨rfl, f_3⟩
  · refine lv_if_ne (tgt := 12) hx hb dM_sum_5 (by decide) (fun c_4 => ?_) (fun c_4 => absurd c_4 (by decide))
    refine lv_iconst (v := 0) hx hb dM_sum_12 (by decide) ?_
    refine lv_iconst (v := 0) hx hb dM_sum_13 (by decide) ?_
    refine lv_iconst (v := 0) hx hb dM_sum_14 (by decide) ?_
    refine kVi (n := 3) (D := D) (wd := fun z => mw CA z ad) (A1 := fun sz => mA ad sz) (As := [.int 0, .int 0, .int 0]) (rest := []) ⟨hx, hb, hml, hown, hT⟩ (kM_throwing l D CA g ad H.size 0 0 0) (gi_V wm_577 wm_579 wp_8 wm_4 wm_580) rfl rfl (by decide +kernel) ⟨(Nat.le_of_ble_eq_true rfl), (Nat.le_of_ble_eq_true rfl)⟩ (va_recv hK hP (ci := 4) (q0 := 0) rfl mw_O) hK hP hD hS (fun _ h9 => h9) (nA_mono hS.1) rfl hl.1 rfl (Nat.le_of_ble_eq_true rfl) dM_sum_15 ⟨(Nat.le_of_ble_eq_true rfl), (Nat.le_of_ble_eq_true rfl)⟩ (fun r_5 u_6 H locs w_7 hz hP hD hS => ?_)
    obtain ⟨rfl, rfl⟩ := th_000 w_7
    obtain ⟨k, hk, rfl⟩ := ibn (n := 6) (by decide) f_3
    have hm0 := (hm).t (v := 0)
    refine lv_if_eq (tgt := 23) hx hb dM_sum_18 (by decide) (fun c_8 => ?_) (fun c_8 => absurd (by decide) c_8)
    refine lv_iconst (v := 0) hx hb dM_sum_23 (by decide) ?_
    refine lv_istore_n (lv' := [(2, .int 0), (0, .ref (ad 0)), (1, .int (nI k))]) hx hb dM_sum_24 rfl hl (by decide) rfl (fun ls hl => ?_)
    refine lv_iconst (v := 0) hx hb dM_sum_25 (by decide) ?_
    refine lv_istore_n (lv' := [(3, .int 0), (2, .int 0), (0, .ref (ad 0)), (1, .int (nI k))]) hx hb dM_sum_26 rfl hl (by decide) rfl (fun ls hl => ?_)
    refine loM_sum hm0 hk hx hb hml hown hT hK (fun H locs hP hD hS ls hl => ?_) (h 0 0) 0 (by omega) H locs hP hD hS ls (lv_sub hl [0, 1, 3, 2] rfl)
    refine lv_iload_n hx hb dM_sum_64 rfl (lv_at hl 1 rfl) ?_
    exact W.iret (v := l_sum (fun q => if h 2 q = k then u2 g 0 0 0 7 q else 0) (h 0 0)) hx hb hr (fun t ht hW => ⟨⟨_, (u2 g 0 0 0), rfl, Or.inr (Or.inr (Or.inr ⟨f_3, (fun h9 : False => h9), (fun h9 : False => h9), k, hk, rfl, rfl, rfl⟩)), gpost_at hP hK hD ht hW.alike⟩, hS.F ht⟩) hS.2.2 dM_sum_65
  · refine lv_if_ne (tgt := 12) hx hb dM_sum_5 (by decide) (fun c_9 => absurd rfl c_9) (fun c_9 => ?_)
    refine lv_iconst (v := 1) hx hb dM_sum_8 (by decide) ?_
    refine lv_goto (tgt := 13) hx hb dM_sum_9 (by decide) ?_
    refine lv_iconst (v := 0) hx hb dM_sum_13 (by decide) ?_
    refine lv_iconst (v := 0) hx hb dM_sum_14 (by decide) ?_
    refine kVi (n := 3) (D := D) (wd := fun z => mw CA z ad) (A1 := fun sz => mA ad sz) (As := [.int 1, .int 0, .int 0]) (rest := []) ⟨hx, hb, hml, hown, hT⟩ (kM_throwing l D CA g ad H.size 1 0 0) (gi_V wm_577 wm_579 wp_8 wm_4 wm_580) rfl rfl (by decide +kernel) ⟨(Nat.le_of_ble_eq_true rfl), (Nat.le_of_ble_eq_true rfl)⟩ (va_recv hK hP (ci := 4) (q0 := 0) rfl mw_O) hK hP hD hS (fun _ h9 => h9) (nA_mono hS.1) rfl hl.1 rfl (Nat.le_of_ble_eq_true rfl) dM_sum_15 ⟨(Nat.le_of_ble_eq_true rfl), (Nat.le_of_ble_eq_true rfl)⟩ (fun r_10 u_11 H locs w_12 hz hP hD hS => ?_)
    obtain ⟨rfl, rfl⟩ := th_100 w_12
    refine lv_if_eq (tgt := 23) hx hb dM_sum_18 (by decide) (fun c_13 => absurd c_13 (by decide)) (fun c_13 => ?_)
    refine lv_iconst (v := 0) hx hb dM_sum_21 (by decide) ?_
    exact W.iret (v := 0) hx hb hr (fun t ht hW => ⟨⟨_, (u2 g 0 0 1), rfl, Or.inl ⟨f_3, rfl⟩, gpost_at hP hK hD ht hW.alike⟩, hS.F ht⟩) hS.2.2 dM_sum_22
