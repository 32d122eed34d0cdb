set_option maxHeartbeats 4000000 in
set_option maxRecDepth 100000 in
theorem kM_piece (l : Launch) (D : va_G) (CA : Nat → ClassId) (g : Nat → Nat → Int32) (ad : Nat → Nat) (sz : Nat) (h : Nat → Nat → Nat) (jp : Nat → Nat) (hm : MI g h jp) (kd pt sd z9 : Int32) (hlt9 : ∀ k, k < 6 → h 1 k < 12 → h 0 0 < 72) : Met l yM_piece wM_piece (rm 2 0 0) (va_Pc [.ref (ad 0), .int kd, .int pt, .int sd, .int z9] (gpre D (cty CA) (mw CA g ad) sz)) (va_Qi (fun r (u : Nat → Nat → Int32) => t4 (ib kd 6 ∨ ib pt 16) (rb sd 0 3 ∨ rb z9 0 30000) (12 ≤ h 1 (n32 kd)) g u (∃ k, k < 6 ∧ kd = nI k ∧ r = nI (h 0 0) ∧ u = (u2 (u2 (u2 (u2 (u2 (u2 (u2 (u2 (u2 (u2 (u2 g 0 0 0) (1) (h 0 0) (nI k)) (2) (h 0 0) pt) (3) (h 0 0) sd) (4) (h 0 0) z9) (5) (h 0 0) 0) (6) (h 0 0) 999) (7) (h 0 0) 0) (9) (12 * k + (h 1 k)) (nI (h 0 0))) (8) k (nI ((h 1 k) + 1))) (0) 1 (nI ((h 0 0) + 1))))) (fun u t => gpost D (cty CA) (mw CA u ad) (mA ad sz) t) (mA ad sz)) 0 0 (mA ad sz) := by
  refine Met.ofW (cc := cM_piece) (maxL := 6) (ret := (some .int)) (by decide) rfl ?_
  intro p e s m args below meth c s₁ B hml hv
  obtain ⟨rfl, hsz, hP, hK, hD0⟩ := hv
  have hx := B.exec
  have hb := B.bytes
  have hr := B.returns
  have hT : ∀ w ∈ TB, w.before _ s = true := fun w hw => atoms_spec (ws := wM_piece) B.pre w (List.mem_cons_of_mem _ hw)
  have hown : s.vm.findClass "CountLeastModel" = some m.cls := findClass_of_methodNamed B.named
  have hlocks := B.notSynchronized
  subst hsz
  have hD := nA_self (sz := s.heap.size) hD0
  have hS : va_S (mA ad s.heap.size) s.heap s.heap [] := va_S.rf
  have hP : va_P D vwCl (mw CA g ad) s.heap := hP
  have hl := lv_entry ([.ref (ad 0), .int kd, .int pt, .int sd, .int z9]) (n := 6) (Nat.le_of_ble_eq_true rfl)
  rw [lg_entry_eq]
  generalize (lg_sl ([.ref (ad 0), .int kd, .int pt, .int sd, .int z9]) ++ List.replicate (6 - (lg_sl ([.ref (ad 0), .int kd, .int pt, .int sd, .int z9])).length) Slot.unset).toArray = ls at hl ⊢
  have hl : lv_has ls 6 [(0, .ref (ad 0)), (1, .int kd), (2, .int pt), (3, .int sd), (4, .int z9)] := hl
  refine lv_iload_n hx hb dM_piece_0 rfl (lv_at hl 1 rfl) ?_
  refine kSi (n := 1) (D := D) (As := [.int kd]) (rest := []) ⟨hx, hb, hml, hown, hT⟩ (kM_isKind l kd) (gi_S wm_571 wm_572 wm_4 wm_573) rfl rfl (by decide +kernel) ⟨(Nat.le_of_ble_eq_true rfl), (Nat.le_of_ble_eq_true rfl)⟩ hP hS rfl hl.1 rfl (Nat.le_of_ble_eq_true rfl) dM_piece_1 ⟨(Nat.le_of_ble_eq_true rfl), (Nat.le_of_ble_eq_true rfl)⟩ (fun r_1 H locs e_2 hz hP hS => ?_)
  rcases e_2 with ⟨rfl, f_3⟩ | ⟨rfl, f_3⟩
  · refine lv_if_eq (tgt := 17) hx hb dM_piece_4 (by decide) (fun c_4 => absurd c_4 (by decide)) (fun c_4 => ?_)
    refine lv_iload_n hx hb dM_piece_7 rfl (lv_at hl 2 rfl) ?_
    refine lv_iconst (v := 0) hx hb dM_piece_8 (by decide) ?_
    refine lv_bipush (v := 15) hx hb dM_piece_9 (by decide) ?_
    refine kSi (n := 3) (D := D) (As := [.int pt, .int 0, .int 15]) (rest := []) ⟨hx, hb, hml, hown, hT⟩ (kM_in l pt 0 15) (gi_S wm_574 wm_575 wm_4 wm_576) rfl rfl (by decide +kernel) ⟨(Nat.le_of_ble_eq_true rfl), (Nat.le_of_ble_eq_true rfl)⟩ hP hS rfl hl.1 rfl (Nat.le_of_ble_eq_true rfl) dM_piece_11 ⟨(Nat.le_of_ble_eq_true rfl), (Nat.le_of_ble_eq_true rfl)⟩ (fun r_5 H locs e_6 hz hP hS => ?_)
    rcases e_6 with ⟨rfl, f_7⟩ | ⟨rfl, f_7⟩
    · refine lv_if_ne (tgt := 21) hx hb dM_piece_14 (by decide) (fun c_8 => ?_) (fun c_8 => absurd c_8 (by decide))
      refine lv_iconst (v := 0) hx hb dM_piece_21 (by decide) ?_
      refine lv_istore (lv' := [(5, .int 0), (0, .ref (ad 0)), (1, .int kd), (2, .int pt), (3, .int sd), (4, .int z9)]) hx hb dM_piece_22 hl (by decide) rfl (fun ls hl => ?_)
      refine lv_aload_n hx hb dM_piece_24 rfl (lv_at hl 1 rfl) ?_
      refine lv_iload hx hb dM_piece_25 (lv_at hl 0 rfl) ?_
      refine lv_iload_n hx hb dM_piece_27 rfl (lv_at hl 4 rfl) ?_
      refine lv_iconst (v := 0) hx hb dM_piece_28 (by decide) ?_
      refine lv_iconst (v := 3) hx hb dM_piece_29 (by decide) ?_
      refine kSi (n := 3) (D := D) (As := [.int sd, .int 0, .int 3]) (rest := [.int 0, .ref (ad 0)]) ⟨hx, hb, hml, hown, hT⟩ (kM_in l sd 0 3) (gi_S wm_574 wm_575 wm_4 wm_576) rfl rfl (by decide +kernel) ⟨(Nat.le_of_ble_eq_true rfl), (Nat.le_of_ble_eq_true rfl)⟩ hP hS rfl hl.1 rfl (Nat.le_of_ble_eq_true rfl) dM_piece_30 ⟨(Nat.le_of_ble_eq_true rfl), (Nat.le_of_ble_eq_true rfl)⟩ (fun r_9 H locs e_10 hz hP hS => ?_)
      rcases e_10 with ⟨rfl, f_11⟩ | ⟨rfl, f_11⟩
      · refine lv_if_eq (tgt := 48) hx hb dM_piece_33 (by decide) (fun c_12 => absurd c_12 (by decide)) (fun c_12 => ?_)
        refine lv_iload hx hb dM_piece_36 (lv_at hl 5 rfl) ?_
        refine lv_iconst (v := 0) hx hb dM_piece_38 (by decide) ?_
        refine lv_sipush (v := 30000) hx hb dM_piece_39 (by decide) ?_
        refine kSi (n := 3) (D := D) (As := [.int z9, .int 0, .int 30000]) (rest := [.int 0, .ref (ad 0)]) ⟨hx, hb, hml, hown, hT⟩ (kM_in l z9 0 30000) (gi_S wm_574 wm_575 wm_4 wm_576) rfl rfl (by decide +kernel) ⟨(Nat.le_of_ble_eq_true rfl), (Nat.le_of_ble_eq_true rfl)⟩ hP hS rfl hl.1 rfl (Nat.le_of_ble_eq_true rfl) dM_piece_42 ⟨(Nat.le_of_ble_eq_true rfl), (Nat.le_of_ble_eq_true rfl)⟩ (fun r_13 H locs e_14 hz hP hS => ?_)
        rcases e_14 with ⟨rfl, f_15⟩ | ⟨rfl, f_15⟩
        · refine lv_if_ne (tgt := 52) hx hb dM_piece_45 (by decide) (fun c_16 => ?_) (fun c_16 => absurd c_16 (by decide))
          refine lv_iconst (v := 0) hx hb dM_piece_52 (by decide) ?_
          refine lv_iload hx hb dM_piece_53 (lv_at hl 0 rfl) ?_
          refine lv_if_ne (tgt := 73) hx hb dM_piece_55 (by decide) (fun c_17 => absurd rfl c_17) (fun c_17 => ?_)
          obtain ⟨k, hk, rfl⟩ := ibn (n := 6) (by decide) f_3
          have h12 := hm.c12 hk
          have h72 := hm.le
          refine lv_aload_n hx hb dM_piece_58 rfl (lv_at hl 1 rfl) ?_
          refine va_get (D := D) (ci := 4) (C := RM) (T := TM) (N := 21) hx hb hT inM hown hK hP (0) (mw_O) rfl 9 (by decide) (hT _ wm_508) (fun _ h9 => h9) rfl dM_piece_59 ?_
          refine lv_iload_n hx hb dM_piece_62 rfl (lv_at hl 2 rfl) ?_
          refine va_iald (D := D) hx hb hK hP (8) 0 (mw_a8) rfl (vp_in_nI (by omega) (by decide)) dM_piece_63 ?_
          rw [nI_clamp (n := k) (by omega)]
          refine W.eq (g2 := F0 m 64 ls [.int (nI (h 1 k)), .int 0, .int 0, .ref (ad 0)]) (by rw [hm.cnt (k := k) (by omega)]) ?_
          refine lv_bipush (v := 12) hx hb dM_piece_64 (by decide) ?_
          refine lv_icmp_ne (tgt := 73) hx hb dM_piece_66 (by decide) (fun c_18 => ?_) (fun c_18 => ?_)
          · refine lv_iconst (v := 0) hx hb dM_piece_73 (by decide) ?_
            refine kVi (n := 3) (D := D) (wd := fun z => mw CA z ad) (A1 := fun sz => mA ad sz) (As := [.int 0, .int 0, .int 0]) (rest := []) ⟨hx, hb, hml, hown, hT⟩ (kM_throwing l D CA g ad H.size 0 0 0) (gi_V wm_577 wm_579 wp_8 wm_4 wm_580) rfl rfl (by decide +kernel) ⟨(Nat.le_of_ble_eq_true rfl), (Nat.le_of_ble_eq_true rfl)⟩ (va_recv hK hP (ci := 4) (q0 := 0) rfl mw_O) hK hP hD hS (fun _ h9 => h9) (nA_mono hS.1) rfl hl.1 rfl (Nat.le_of_ble_eq_true rfl) dM_piece_74 ⟨(Nat.le_of_ble_eq_true rfl), (Nat.le_of_ble_eq_true rfl)⟩ (fun r_19 u_20 H locs w_21 hz hP hD hS => ?_)
            obtain ⟨rfl, rfl⟩ := th_000 w_21
            have hm0 := (hm).t (v := 0)
            refine lv_if_eq (tgt := 82) hx hb dM_piece_77 (by decide) (fun c_22 => ?_) (fun c_22 => absurd (by decide) c_22)
            have hl12 : h 1 k < 12 := by have z : ¬ h 1 k = 12 := fun y => c_18 ((nI_eq (a := h 1 k) (b := 12) (by omega) (by decide)).mpr y); omega
            have hl72 := hlt9 k hk hl12
            refine lv_aload_n hx hb dM_piece_82 rfl (lv_at hl 1 rfl) ?_
            refine va_get (D := D) (ci := 4) (C := RM) (T := TM) (N := 21) hx hb hT inM hown hK hP (0) (mw_O) rfl 2 (by decide) (hT _ wm_501) (fun _ h9 => h9) rfl dM_piece_83 ?_
            refine lv_aload_n hx hb dM_piece_86 rfl (lv_at hl 1 rfl) ?_
            refine va_get (D := D) (ci := 4) (C := RM) (T := TM) (N := 21) hx hb hT inM hown hK hP (0) (mw_O) rfl 1 (by decide) (hT _ wm_500) (fun _ h9 => h9) rfl dM_piece_87 ?_
            have e9 : (u2 g 0 0 0) 0 1 = nI (h 0 0) := by simp [u2, hm.many]
            refine W.eq (g2 := F0 m 90 ls [.int (nI (h 0 0)), .ref (ad 1)]) (by rw [e9]) ?_
            refine lv_iload_n hx hb dM_piece_90 rfl (lv_at hl 2 rfl) ?_
            refine va_iast (D := D) hx hb hK hP hD hS (1) 0 (mw_a1) rfl (vp_in_nI (by omega) (by decide)) dM_piece_91 (fun H locs hP hD hS => ?_)
            rw [nI_clamp (n := h 0 0) (by omega), mw_s1] at hP hD
            refine lv_aload_n hx hb dM_piece_92 rfl (lv_at hl 1 rfl) ?_
            refine va_get (D := D) (ci := 4) (C := RM) (T := TM) (N := 21) hx hb hT inM hown hK hP (0) (mw_O) rfl 3 (by decide) (hT _ wm_502) (fun _ h9 => h9) rfl dM_piece_93 ?_
            refine lv_aload_n hx hb dM_piece_96 rfl (lv_at hl 1 rfl) ?_
            refine va_get (D := D) (ci := 4) (C := RM) (T := TM) (N := 21) hx hb hT inM hown hK hP (0) (mw_O) rfl 1 (by decide) (hT _ wm_500) (fun _ h9 => h9) rfl dM_piece_97 ?_
            have e9 : (u2 (u2 g 0 0 0) (1) (h 0 0) (nI k)) 0 1 = nI (h 0 0) := by simp [u2, hm.many]
            refine W.eq (g2 := F0 m 100 ls [.int (nI (h 0 0)), .ref (ad 2)]) (by rw [e9]) ?_
            refine lv_iload_n hx hb dM_piece_100 rfl (lv_at hl 3 rfl) ?_
            refine va_iast (D := D) hx hb hK hP hD hS (2) 0 (mw_a2) rfl (vp_in_nI (by omega) (by decide)) dM_piece_101 (fun H locs hP hD hS => ?_)
            rw [nI_clamp (n := h 0 0) (by omega), mw_s2] at hP hD
            refine lv_aload_n hx hb dM_piece_102 rfl (lv_at hl 1 rfl) ?_
            refine va_get (D := D) (ci := 4) (C := RM) (T := TM) (N := 21) hx hb hT inM hown hK hP (0) (mw_O) rfl 4 (by decide) (hT _ wm_503) (fun _ h9 => h9) rfl dM_piece_103 ?_
            refine lv_aload_n hx hb dM_piece_106 rfl (lv_at hl 1 rfl) ?_
            refine va_get (D := D) (ci := 4) (C := RM) (T := TM) (N := 21) hx hb hT inM hown hK hP (0) (mw_O) rfl 1 (by decide) (hT _ wm_500) (fun _ h9 => h9) rfl dM_piece_107 ?_
            have e9 : (u2 (u2 (u2 g 0 0 0) (1) (h 0 0) (nI k)) (2) (h 0 0) pt) 0 1 = nI (h 0 0) := by simp [u2, hm.many]
            refine W.eq (g2 := F0 m 110 ls [.int (nI (h 0 0)), .ref (ad 3)]) (by rw [e9]) ?_
            refine lv_iload_n hx hb dM_piece_110 rfl (lv_at hl 4 rfl) ?_
            refine va_iast (D := D) hx hb hK hP hD hS (3) 0 (mw_a3) rfl (vp_in_nI (by omega) (by decide)) dM_piece_111 (fun H locs hP hD hS => ?_)
            rw [nI_clamp (n := h 0 0) (by omega), mw_s3] at hP hD
            refine lv_aload_n hx hb dM_piece_112 rfl (lv_at hl 1 rfl) ?_
            refine va_get (D := D) (ci := 4) (C := RM) (T := TM) (N := 21) hx hb hT inM hown hK hP (0) (mw_O) rfl 5 (by decide) (hT _ wm_504) (fun _ h9 => h9) rfl dM_piece_113 ?_
            refine lv_aload_n hx hb dM_piece_116 rfl (lv_at hl 1 rfl) ?_
            refine va_get (D := D) (ci := 4) (C := RM) (T := TM) (N := 21) hx hb hT inM hown hK hP (0) (mw_O) rfl 1 (by decide) (hT _ wm_500) (fun _ h9 => h9) rfl dM_piece_117 ?_
            have e9 : (u2 (u2 (u2 (u2 g 0 0 0) (1) (h 0 0) (nI k)) (2) (h 0 0) pt) (3) (h 0 0) sd) 0 1 = nI (h 0 0) := by simp [u2, hm.many]
            refine W.eq (g2 := F0 m 120 ls [.int (nI (h 0 0)), .ref (ad 4)]) (by rw [e9]) ?_
            refine lv_iload hx hb dM_piece_120 (lv_at hl 5 rfl) ?_
            refine va_iast (D := D) hx hb hK hP hD hS (4) 0 (mw_a4) rfl (vp_in_nI (by omega) (by decide)) dM_piece_122 (fun H locs hP hD hS => ?_)
            rw [nI_clamp (n := h 0 0) (by omega), mw_s4] at hP hD
            refine lv_aload_n hx hb dM_piece_123 rfl (lv_at hl 1 rfl) ?_
            refine va_get (D := D) (ci := 4) (C := RM) (T := TM) (N := 21) hx hb hT inM hown hK hP (0) (mw_O) rfl 6 (by decide) (hT _ wm_505) (fun _ h9 => h9) rfl dM_piece_124 ?_
            refine lv_aload_n hx hb dM_piece_127 rfl (lv_at hl 1 rfl) ?_
            refine va_get (D := D) (ci := 4) (C := RM) (T := TM) (N := 21) hx hb hT inM hown hK hP (0) (mw_O) rfl 1 (by decide) (hT _ wm_500) (fun _ h9 => h9) rfl dM_piece_128 ?_
            have e9 : (u2 (u2 (u2 (u2 (u2 g 0 0 0) (1) (h 0 0) (nI k)) (2) (h 0 0) pt) (3) (h 0 0) sd) (4) (h 0 0) z9) 0 1 = nI (h 0 0) := by simp [u2, hm.many]
            refine W.eq (g2 := F0 m 131 ls [.int (nI (h 0 0)), .ref (ad 5)]) (by rw [e9]) ?_
            refine lv_iconst (v := 0) hx hb dM_piece_131 (by decide) ?_
            refine va_iast (D := D) hx hb hK hP hD hS (5) 0 (mw_a5) rfl (vp_in_nI (by omega) (by decide)) dM_piece_132 (fun H locs hP hD hS => ?_)
            rw [nI_clamp (n := h 0 0) (by omega), mw_s5] at hP hD
            refine lv_aload_n hx hb dM_piece_133 rfl (lv_at hl 1 rfl) ?_
            refine va_get (D := D) (ci := 4) (C := RM) (T := TM) (N := 21) hx hb hT inM hown hK hP (0) (mw_O) rfl 7 (by decide) (hT _ wm_506) (fun _ h9 => h9) rfl dM_piece_134 ?_
            refine lv_aload_n hx hb dM_piece_137 rfl (lv_at hl 1 rfl) ?_
            refine va_get (D := D) (ci := 4) (C := RM) (T := TM) (N := 21) hx hb hT inM hown hK hP (0) (mw_O) rfl 1 (by decide) (hT _ wm_500) (fun _ h9 => h9) rfl dM_piece_138 ?_
            have e9 : (u2 (u2 (u2 (u2 (u2 (u2 g 0 0 0) (1) (h 0 0) (nI k)) (2) (h 0 0) pt) (3) (h 0 0) sd) (4) (h 0 0) z9) (5) (h 0 0) 0) 0 1 = nI (h 0 0) := by simp [u2, hm.many]
            refine W.eq (g2 := F0 m 141 ls [.int (nI (h 0 0)), .ref (ad 6)]) (by rw [e9]) ?_
            refine lv_sipush (v := 999) hx hb dM_piece_141 (by decide) ?_
            refine va_iast (D := D) hx hb hK hP hD hS (6) 0 (mw_a6) rfl (vp_in_nI (by omega) (by decide)) dM_piece_144 (fun H locs hP hD hS => ?_)
            rw [nI_clamp (n := h 0 0) (by omega), mw_s6] at hP hD
            refine lv_aload_n hx hb dM_piece_145 rfl (lv_at hl 1 rfl) ?_
            refine va_get (D := D) (ci := 4) (C := RM) (T := TM) (N := 21) hx hb hT inM hown hK hP (0) (mw_O) rfl 8 (by decide) (hT _ wm_507) (fun _ h9 => h9) rfl dM_piece_146 ?_
            refine lv_aload_n hx hb dM_piece_149 rfl (lv_at hl 1 rfl) ?_
            refine va_get (D := D) (ci := 4) (C := RM) (T := TM) (N := 21) hx hb hT inM hown hK hP (0) (mw_O) rfl 1 (by decide) (hT _ wm_500) (fun _ h9 => h9) rfl dM_piece_150 ?_
            have e9 : (u2 (u2 (u2 (u2 (u2 (u2 (u2 g 0 0 0) (1) (h 0 0) (nI k)) (2) (h 0 0) pt) (3) (h 0 0) sd) (4) (h 0 0) z9) (5) (h 0 0) 0) (6) (h 0 0) 999) 0 1 = nI (h 0 0) := by simp [u2, hm.many]
            refine W.eq (g2 := F0 m 153 ls [.int (nI (h 0 0)), .ref (ad 7)]) (by rw [e9]) ?_
            refine lv_iconst (v := 0) hx hb dM_piece_153 (by decide) ?_
            refine va_iast (D := D) hx hb hK hP hD hS (7) 0 (mw_a7) rfl (vp_in_nI (by omega) (by decide)) dM_piece_154 (fun H locs hP hD hS => ?_)
            rw [nI_clamp (n := h 0 0) (by omega), mw_s7] at hP hD
            refine lv_aload_n hx hb dM_piece_155 rfl (lv_at hl 1 rfl) ?_
            refine va_get (D := D) (ci := 4) (C := RM) (T := TM) (N := 21) hx hb hT inM hown hK hP (0) (mw_O) rfl 10 (by decide) (hT _ wm_509) (fun _ h9 => h9) rfl dM_piece_156 ?_
            refine lv_bipush (v := 12) hx hb dM_piece_159 (by decide) ?_
            refine lv_iload_n hx hb dM_piece_161 rfl (lv_at hl 2 rfl) ?_
            refine lv_imul hx hb dM_piece_162 ?_
            refine W.eq (g2 := F0 m 163 ls [.int (nI (12 * k)), .ref (ad 9)]) (by rw [m12 _]) ?_
            refine lv_aload_n hx hb dM_piece_163 rfl (lv_at hl 1 rfl) ?_
            refine va_get (D := D) (ci := 4) (C := RM) (T := TM) (N := 21) hx hb hT inM hown hK hP (0) (mw_O) rfl 9 (by decide) (hT _ wm_508) (fun _ h9 => h9) rfl dM_piece_164 ?_
            refine lv_iload_n hx hb dM_piece_167 rfl (lv_at hl 2 rfl) ?_
            refine va_iald (D := D) hx hb hK hP (8) 0 (mw_a8) rfl (vp_in_nI (by omega) (by decide)) dM_piece_168 ?_
            rw [nI_clamp (n := k) (by omega)]
            have e9 : (u2 (u2 (u2 (u2 (u2 (u2 (u2 (u2 g 0 0 0) (1) (h 0 0) (nI k)) (2) (h 0 0) pt) (3) (h 0 0) sd) (4) (h 0 0) z9) (5) (h 0 0) 0) (6) (h 0 0) 999) (7) (h 0 0) 0) (8) k = nI (h 1 k) := by simp [u2, hm.cnt hk]
            refine W.eq (g2 := F0 m 169 ls [.int (nI (h 1 k)), .int (nI (12 * k)), .ref (ad 9)]) (by rw [e9]) ?_
            refine lv_iadd hx hb dM_piece_169 ?_
            refine W.eq (g2 := F0 m 170 ls [.int (nI (12 * k + (h 1 k))), .ref (ad 9)]) (by rw [nI_add]) ?_
            refine lv_aload_n hx hb dM_piece_170 rfl (lv_at hl 1 rfl) ?_
            refine va_get (D := D) (ci := 4) (C := RM) (T := TM) (N := 21) hx hb hT inM hown hK hP (0) (mw_O) rfl 1 (by decide) (hT _ wm_500) (fun _ h9 => h9) rfl dM_piece_171 ?_
            have e9 : (u2 (u2 (u2 (u2 (u2 (u2 (u2 (u2 g 0 0 0) (1) (h 0 0) (nI k)) (2) (h 0 0) pt) (3) (h 0 0) sd) (4) (h 0 0) z9) (5) (h 0 0) 0) (6) (h 0 0) 999) (7) (h 0 0) 0) 0 1 = nI (h 0 0) := by simp [u2, hm.many]
            refine W.eq (g2 := F0 m 174 ls [.int (nI (h 0 0)), .int (nI (12 * k + (h 1 k))), .ref (ad 9)]) (by rw [e9]) ?_
            refine va_iast (D := D) hx hb hK hP hD hS (9) 0 (mw_a9) rfl (vp_in_nI (by omega) (by decide)) dM_piece_174 (fun H locs hP hD hS => ?_)
            rw [nI_clamp (n := 12 * k + (h 1 k)) (by omega), mw_s9] at hP hD
            refine lv_aload_n hx hb dM_piece_175 rfl (lv_at hl 1 rfl) ?_
            refine va_get (D := D) (ci := 4) (C := RM) (T := TM) (N := 21) hx hb hT inM hown hK hP (0) (mw_O) rfl 9 (by decide) (hT _ wm_508) (fun _ h9 => h9) rfl dM_piece_176 ?_
            refine lv_iload_n hx hb dM_piece_179 rfl (lv_at hl 2 rfl) ?_
            refine lv_dup2_11 hx hb dM_piece_180 rfl rfl ?_
            refine va_iald (D := D) hx hb hK hP (8) 0 (mw_a8) rfl (vp_in_nI (by omega) (by decide)) dM_piece_181 ?_
            rw [nI_clamp (n := k) (by omega)]
            have e9 : (u2 (u2 (u2 (u2 (u2 (u2 (u2 (u2 (u2 g 0 0 0) (1) (h 0 0) (nI k)) (2) (h 0 0) pt) (3) (h 0 0) sd) (4) (h 0 0) z9) (5) (h 0 0) 0) (6) (h 0 0) 999) (7) (h 0 0) 0) (9) (12 * k + (h 1 k)) (nI (h 0 0))) (8) k = nI (h 1 k) := by simp [u2, hm.cnt hk]
            refine W.eq (g2 := F0 m 182 ls [.int (nI (h 1 k)), .int (nI k), .ref (ad 8)]) (by rw [e9]) ?_
            refine lv_iconst (v := 1) hx hb dM_piece_182 (by decide) ?_
            refine lv_iadd hx hb dM_piece_183 ?_
            refine W.eq (g2 := F0 m 184 ls [.int (nI ((h 1 k) + 1)), .int (nI k), .ref (ad 8)]) (by rw [nI_1]) ?_
            refine va_iast (D := D) hx hb hK hP hD hS (8) 0 (mw_a8) rfl (vp_in_nI (by omega) (by decide)) dM_piece_184 (fun H locs hP hD hS => ?_)
            rw [nI_clamp (n := k) (by omega), mw_s8] at hP hD
            refine lv_aload_n hx hb dM_piece_185 rfl (lv_at hl 1 rfl) ?_
            refine lv_dup hx hb dM_piece_186 rfl ?_
            refine va_get (D := D) (ci := 4) (C := RM) (T := TM) (N := 21) hx hb hT inM hown hK hP (0) (mw_O) rfl 1 (by decide) (hT _ wm_500) (fun _ h9 => h9) rfl dM_piece_187 ?_
            have e9 : (u2 (u2 (u2 (u2 (u2 (u2 (u2 (u2 (u2 (u2 g 0 0 0) (1) (h 0 0) (nI k)) (2) (h 0 0) pt) (3) (h 0 0) sd) (4) (h 0 0) z9) (5) (h 0 0) 0) (6) (h 0 0) 999) (7) (h 0 0) 0) (9) (12 * k + (h 1 k)) (nI (h 0 0))) (8) k (nI ((h 1 k) + 1))) 0 1 = nI (h 0 0) := by simp [u2, hm.many]
            refine W.eq (g2 := F0 m 190 ls [.int (nI (h 0 0)), .ref (ad 0)]) (by rw [e9]) ?_
            refine lv_iconst (v := 1) hx hb dM_piece_190 (by decide) ?_
            refine lv_iadd hx hb dM_piece_191 ?_
            refine W.eq (g2 := F0 m 192 ls [.int (nI ((h 0 0) + 1)), .ref (ad 0)]) (by rw [nI_1]) ?_
            refine va_put (D := D) (ci := 4) (v := .int (nI ((h 0 0) + 1))) (ty := .int) (C := RM) (T := TM) (N := 21) hx hb hT inM tyM tyokM nmM hown hK hP hD hS (0) (mw_O) rfl 1 (by decide) (hT _ wm_500) (fun _ h9 => h9) rfl (by decide +kernel) rfl rfl (Nat.le_of_ble_eq_true rfl) dM_piece_192 (fun H locs hP hD hS => ?_)
            rw [mw_sO (by simp)] at hP hD
            refine lv_aload_n hx hb dM_piece_195 rfl (lv_at hl 1 rfl) ?_
            refine va_get (D := D) (ci := 4) (C := RM) (T := TM) (N := 21) hx hb hT inM hown hK hP (0) (mw_O) rfl 1 (by decide) (hT _ wm_500) (fun _ h9 => h9) rfl dM_piece_196 ?_
            have e9 : (u2 (u2 (u2 (u2 (u2 (u2 (u2 (u2 (u2 (u2 (u2 g 0 0 0) (1) (h 0 0) (nI k)) (2) (h 0 0) pt) (3) (h 0 0) sd) (4) (h 0 0) z9) (5) (h 0 0) 0) (6) (h 0 0) 999) (7) (h 0 0) 0) (9) (12 * k + (h 1 k)) (nI (h 0 0))) (8) k (nI ((h 1 k) + 1))) (0) 1 (nI ((h 0 0) + 1))) 0 1 = nI (h 0 0 + 1) := by simp [u2]
            refine W.eq (g2 := F0 m 199 ls [.int (nI (h 0 0 + 1))]) (by rw [e9]) ?_
            refine lv_iconst (v := 1) hx hb dM_piece_199 (by decide) ?_
            refine lv_isub hx hb dM_piece_200 ?_
            have e9 : nI (h 0 0 + 1) - 1 = nI (h 0 0) := pk_sub (a := h 0 0 + 1) (b := 1) (by omega)
            refine W.eq (g2 := F0 m 201 ls [.int (nI (h 0 0))]) (by rw [e9]) ?_
            exact W.iret (v := nI (h 0 0)) hx hb hr (fun t ht hW => ⟨⟨_, (u2 (u2 (u2 (u2 (u2 (u2 (u2 (u2 (u2 (u2 (u2 g 0 0 0) (1) (h 0 0) (nI k)) (2) (h 0 0) pt) (3) (h 0 0) sd) (4) (h 0 0) z9) (5) (h 0 0) 0) (6) (h 0 0) 999) (7) (h 0 0) 0) (9) (12 * k + (h 1 k)) (nI (h 0 0))) (8) k (nI ((h 1 k) + 1))) (0) 1 (nI ((h 0 0) + 1))), rfl, Or.inr (Or.inr (Or.inr ⟨(not_or.mpr ⟨f_3, (ib_nb (n := 16) (by decide) (by decide) f_7)⟩), (not_or.mpr ⟨f_11, f_15⟩), (fun z => c_18 ((nI_eq (a := h 1 k) (b := 12) (by omega) (by decide)).mpr (by rw [n32n k (by omega)] at z; omega))), k, hk, rfl, rfl, rfl⟩)), gpost_at hP hK hD ht hW.alike⟩, hS.F ht⟩) hS.2.2 dM_piece_201
          · refine lv_iconst (v := 1) hx hb dM_piece_69 (by decide) ?_
            refine lv_goto (tgt := 74) hx hb dM_piece_70 (by decide) ?_
            refine kVi (n := 3) (D := D) (wd := fun z => mw CA z ad) (A1 := fun sz => mA ad sz) (As := [.int 0, .int 0, .int 1]) (rest := []) ⟨hx, hb, hml, hown, hT⟩ (kM_throwing l D CA g ad H.size 0 0 1) (gi_V wm_577 wm_579 wp_8 wm_4 wm_580) rfl rfl (by decide +kernel) ⟨(Nat.le_of_ble_eq_true rfl), (Nat.le_of_ble_eq_true rfl)⟩ (va_recv hK hP (ci := 4) (q0 := 0) rfl mw_O) hK hP hD hS (fun _ h9 => h9) (nA_mono hS.1) rfl hl.1 rfl (Nat.le_of_ble_eq_true rfl) dM_piece_74 ⟨(Nat.le_of_ble_eq_true rfl), (Nat.le_of_ble_eq_true rfl)⟩ (fun r_23 u_24 H locs w_25 hz hP hD hS => ?_)
            obtain ⟨rfl, rfl⟩ := th_001 w_25
            refine lv_if_eq (tgt := 82) hx hb dM_piece_77 (by decide) (fun c_26 => absurd c_26 (by decide)) (fun c_26 => ?_)
            refine lv_iconst (v := 0) hx hb dM_piece_80 (by decide) ?_
            exact W.iret (v := 0) hx hb hr (fun t ht hW => ⟨⟨_, (u2 g 0 0 3), rfl, Or.inr (Or.inr (Or.inl ⟨(not_or.mpr ⟨f_3, (ib_nb (n := 16) (by decide) (by decide) f_7)⟩), (not_or.mpr ⟨f_11, f_15⟩), (by have := (nI_eq (a := h 1 k) (b := 12) (by omega) (by decide)).mp c_18; rw [n32n k (by omega)]; omega), rfl⟩)), gpost_at hP hK hD ht hW.alike⟩, hS.F ht⟩) hS.2.2 dM_piece_81
        · refine lv_if_ne (tgt := 52) hx hb dM_piece_45 (by decide) (fun c_27 => absurd rfl c_27) (fun c_27 => ?_)
          refine lv_iconst (v := 1) hx hb dM_piece_48 (by decide) ?_
          refine lv_goto (tgt := 53) hx hb dM_piece_49 (by decide) ?_
          refine lv_iload hx hb dM_piece_53 (lv_at hl 0 rfl) ?_
          refine lv_if_ne (tgt := 73) hx hb dM_piece_55 (by decide) (fun c_28 => absurd rfl c_28) (fun c_28 => ?_)
          obtain ⟨k, hk, rfl⟩ := ibn (n := 6) (by decide) f_3
          have h12 := hm.c12 hk
          have h72 := hm.le
          refine lv_aload_n hx hb dM_piece_58 rfl (lv_at hl 1 rfl) ?_
          refine va_get (D := D) (ci := 4) (C := RM) (T := TM) (N := 21) hx hb hT inM hown hK hP (0) (mw_O) rfl 9 (by decide) (hT _ wm_508) (fun _ h9 => h9) rfl dM_piece_59 ?_
          refine lv_iload_n hx hb dM_piece_62 rfl (lv_at hl 2 rfl) ?_
          refine va_iald (D := D) hx hb hK hP (8) 0 (mw_a8) rfl (vp_in_nI (by omega) (by decide)) dM_piece_63 ?_
          rw [nI_clamp (n := k) (by omega)]
          refine W.eq (g2 := F0 m 64 ls [.int (nI (h 1 k)), .int 1, .int 0, .ref (ad 0)]) (by rw [hm.cnt (k := k) (by omega)]) ?_
          refine lv_bipush (v := 12) hx hb dM_piece_64 (by decide) ?_
          refine lv_icmp_ne (tgt := 73) hx hb dM_piece_66 (by decide) (fun c_29 => ?_) (fun c_29 => ?_)
          · refine lv_iconst (v := 0) hx hb dM_piece_73 (by decide) ?_
            refine kVi (n := 3) (D := D) (wd := fun z => mw CA z ad) (A1 := fun sz => mA ad sz) (As := [.int 0, .int 1, .int 0]) (rest := []) ⟨hx, hb, hml, hown, hT⟩ (kM_throwing l D CA g ad H.size 0 1 0) (gi_V wm_577 wm_579 wp_8 wm_4 wm_580) rfl rfl (by decide +kernel) ⟨(Nat.le_of_ble_eq_true rfl), (Nat.le_of_ble_eq_true rfl)⟩ (va_recv hK hP (ci := 4) (q0 := 0) rfl mw_O) hK hP hD hS (fun _ h9 => h9) (nA_mono hS.1) rfl hl.1 rfl (Nat.le_of_ble_eq_true rfl) dM_piece_74 ⟨(Nat.le_of_ble_eq_true rfl), (Nat.le_of_ble_eq_true rfl)⟩ (fun r_30 u_31 H locs w_32 hz hP hD hS => ?_)
            obtain ⟨rfl, rfl⟩ := th_010 w_32
            refine lv_if_eq (tgt := 82) hx hb dM_piece_77 (by decide) (fun c_33 => absurd c_33 (by decide)) (fun c_33 => ?_)
            refine lv_iconst (v := 0) hx hb dM_piece_80 (by decide) ?_
            exact W.iret (v := 0) hx hb hr (fun t ht hW => ⟨⟨_, (u2 g 0 0 2), rfl, Or.inr (Or.inl ⟨(not_or.mpr ⟨f_3, (ib_nb (n := 16) (by decide) (by decide) f_7)⟩), (Or.inr f_15), rfl⟩), gpost_at hP hK hD ht hW.alike⟩, hS.F ht⟩) hS.2.2 dM_piece_81
          · refine lv_iconst (v := 1) hx hb dM_piece_69 (by decide) ?_
            refine lv_goto (tgt := 74) hx hb dM_piece_70 (by decide) ?_
            refine kVi (n := 3) (D := D) (wd := fun z => mw CA z ad) (A1 := fun sz => mA ad sz) (As := [.int 0, .int 1, .int 1]) (rest := []) ⟨hx, hb, hml, hown, hT⟩ (kM_throwing l D CA g ad H.size 0 1 1) (gi_V wm_577 wm_579 wp_8 wm_4 wm_580) rfl rfl (by decide +kernel) ⟨(Nat.le_of_ble_eq_true rfl), (Nat.le_of_ble_eq_true rfl)⟩ (va_recv hK hP (ci := 4) (q0 := 0) rfl mw_O) hK hP hD hS (fun _ h9 => h9) (nA_mono hS.1) rfl hl.1 rfl (Nat.le_of_ble_eq_true rfl) dM_piece_74 ⟨(Nat.le_of_ble_eq_true rfl), (Nat.le_of_ble_eq_true rfl)⟩ (fun r_34 u_35 H locs w_36 hz hP hD hS => ?_)
            obtain ⟨rfl, rfl⟩ := th_011 w_36
            refine lv_if_eq (tgt := 82) hx hb dM_piece_77 (by decide) (fun c_37 => absurd c_37 (by decide)) (fun c_37 => ?_)
            refine lv_iconst (v := 0) hx hb dM_piece_80 (by decide) ?_
            exact W.iret (v := 0) hx hb hr (fun t ht hW => ⟨⟨_, (u2 g 0 0 2), rfl, Or.inr (Or.inl ⟨(not_or.mpr ⟨f_3, (ib_nb (n := 16) (by decide) (by decide) f_7)⟩), (Or.inr f_15), rfl⟩), gpost_at hP hK hD ht hW.alike⟩, hS.F ht⟩) hS.2.2 dM_piece_81
      · refine lv_if_eq (tgt := 48) hx hb dM_piece_33 (by decide) (fun c_38 => ?_) (fun c_38 => absurd (by decide) c_38)
        refine lv_iconst (v := 1) hx hb dM_piece_48 (by decide) ?_
        refine lv_goto (tgt := 53) hx hb dM_piece_49 (by decide) ?_
        refine lv_iload hx hb dM_piece_53 (lv_at hl 0 rfl) ?_
        refine lv_if_ne (tgt := 73) hx hb dM_piece_55 (by decide) (fun c_39 => absurd rfl c_39) (fun c_39 => ?_)
        obtain ⟨k, hk, rfl⟩ := ibn (n := 6) (by decide) f_3
        have h12 := hm.c12 hk
        have h72 := hm.le
        refine lv_aload_n hx hb dM_piece_58 rfl (lv_at hl 1 rfl) ?_
        refine va_get (D := D) (ci := 4) (C := RM) (T := TM) (N := 21) hx hb hT inM hown hK hP (0) (mw_O) rfl 9 (by decide) (hT _ wm_508) (fun _ h9 => h9) rfl dM_piece_59 ?_
        refine lv_iload_n hx hb dM_piece_62 rfl (lv_at hl 2 rfl) ?_
        refine va_iald (D := D) hx hb hK hP (8) 0 (mw_a8) rfl (vp_in_nI (by omega) (by decide)) dM_piece_63 ?_
        rw [nI_clamp (n := k) (by omega)]
        refine W.eq (g2 := F0 m 64 ls [.int (nI (h 1 k)), .int 1, .int 0, .ref (ad 0)]) (by rw [hm.cnt (k := k) (by omega)]) ?_
        refine lv_bipush (v := 12) hx hb dM_piece_64 (by decide) ?_
        refine lv_icmp_ne (tgt := 73) hx hb dM_piece_66 (by decide) (fun c_40 => ?_) (fun c_40 => ?_)
        · refine lv_iconst (v := 0) hx hb dM_piece_73 (by decide) ?_
          refine kVi (n := 3) (D := D) (wd := fun z => mw CA z ad) (A1 := fun sz => mA ad sz) (As := [.int 0, .int 1, .int 0]) (rest := []) ⟨hx, hb, hml, hown, hT⟩ (kM_throwing l D CA g ad H.size 0 1 0) (gi_V wm_577 wm_579 wp_8 wm_4 wm_580) rfl rfl (by decide +kernel) ⟨(Nat.le_of_ble_eq_true rfl), (Nat.le_of_ble_eq_true rfl)⟩ (va_recv hK hP (ci := 4) (q0 := 0) rfl mw_O) hK hP hD hS (fun _ h9 => h9) (nA_mono hS.1) rfl hl.1 rfl (Nat.le_of_ble_eq_true rfl) dM_piece_74 ⟨(Nat.le_of_ble_eq_true rfl), (Nat.le_of_ble_eq_true rfl)⟩ (fun r_41 u_42 H locs w_43 hz hP hD hS => ?_)
          obtain ⟨rfl, rfl⟩ := th_010 w_43
          refine lv_if_eq (tgt := 82) hx hb dM_piece_77 (by decide) (fun c_44 => absurd c_44 (by decide)) (fun c_44 => ?_)
          refine lv_iconst (v := 0) hx hb dM_piece_80 (by decide) ?_
          exact W.iret (v := 0) hx hb hr (fun t ht hW => ⟨⟨_, (u2 g 0 0 2), rfl, Or.inr (Or.inl ⟨(not_or.mpr ⟨f_3, (ib_nb (n := 16) (by decide) (by decide) f_7)⟩), (Or.inl f_11), rfl⟩), gpost_at hP hK hD ht hW.alike⟩, hS.F ht⟩) hS.2.2 dM_piece_81
        · refine lv_iconst (v := 1) hx hb dM_piece_69 (by decide) ?_
          refine lv_goto (tgt := 74) hx hb dM_piece_70 (by decide) ?_
          refine kVi (n := 3) (D := D) (wd := fun z => mw CA z ad) (A1 := fun sz => mA ad sz) (As := [.int 0, .int 1, .int 1]) (rest := []) ⟨hx, hb, hml, hown, hT⟩ (kM_throwing l D CA g ad H.size 0 1 1) (gi_V wm_577 wm_579 wp_8 wm_4 wm_580) rfl rfl (by decide +kernel) ⟨(Nat.le_of_ble_eq_true rfl), (Nat.le_of_ble_eq_true rfl)⟩ (va_recv hK hP (ci := 4) (q0 := 0) rfl mw_O) hK hP hD hS (fun _ h9 => h9) (nA_mono hS.1) rfl hl.1 rfl (Nat.le_of_ble_eq_true rfl) dM_piece_74 ⟨(Nat.le_of_ble_eq_true rfl), (Nat.le_of_ble_eq_true rfl)⟩ (fun r_45 u_46 H locs w_47 hz hP hD hS => ?_)
          obtain ⟨rfl, rfl⟩ := th_011 w_47
          refine lv_if_eq (tgt := 82) hx hb dM_piece_77 (by decide) (fun c_48 => absurd c_48 (by decide)) (fun c_48 => ?_)
          refine lv_iconst (v := 0) hx hb dM_piece_80 (by decide) ?_
          exact W.iret (v := 0) hx hb hr (fun t ht hW => ⟨⟨_, (u2 g 0 0 2), rfl, Or.inr (Or.inl ⟨(not_or.mpr ⟨f_3, (ib_nb (n := 16) (by decide) (by decide) f_7)⟩), (Or.inl f_11), rfl⟩), gpost_at hP hK hD ht hW.alike⟩, hS.F ht⟩) hS.2.2 dM_piece_81
    · refine lv_if_ne (tgt := 21) hx hb dM_piece_14 (by decide) (fun c_49 => absurd rfl c_49) (fun c_49 => ?_)
      refine lv_iconst (v := 1) hx hb dM_piece_17 (by decide) ?_
      refine lv_goto (tgt := 22) hx hb dM_piece_18 (by decide) ?_
      refine lv_istore (lv' := [(5, .int 1), (0, .ref (ad 0)), (1, .int kd), (2, .int pt), (3, .int sd), (4, .int z9)]) hx hb dM_piece_22 hl (by decide) rfl (fun ls hl => ?_)
      refine lv_aload_n hx hb dM_piece_24 rfl (lv_at hl 1 rfl) ?_
      refine lv_iload hx hb dM_piece_25 (lv_at hl 0 rfl) ?_
      refine lv_iload_n hx hb dM_piece_27 rfl (lv_at hl 4 rfl) ?_
      refine lv_iconst (v := 0) hx hb dM_piece_28 (by decide) ?_
      refine lv_iconst (v := 3) hx hb dM_piece_29 (by decide) ?_
      refine kSi (n := 3) (D := D) (As := [.int sd, .int 0, .int 3]) (rest := [.int 1, .ref (ad 0)]) ⟨hx, hb, hml, hown, hT⟩ (kM_in l sd 0 3) (gi_S wm_574 wm_575 wm_4 wm_576) rfl rfl (by decide +kernel) ⟨(Nat.le_of_ble_eq_true rfl), (Nat.le_of_ble_eq_true rfl)⟩ hP hS rfl hl.1 rfl (Nat.le_of_ble_eq_true rfl) dM_piece_30 ⟨(Nat.le_of_ble_eq_true rfl), (Nat.le_of_ble_eq_true rfl)⟩ (fun r_50 H locs e_51 hz hP hS => ?_)
      rcases e_51 with ⟨rfl, f_52⟩ | ⟨rfl, f_52⟩
      · refine lv_if_eq (tgt := 48) hx hb dM_piece_33 (by decide) (fun c_53 => absurd c_53 (by decide)) (fun c_53 => ?_)
        refine lv_iload hx hb dM_piece_36 (lv_at hl 5 rfl) ?_
        refine lv_iconst (v := 0) hx hb dM_piece_38 (by decide) ?_
        refine lv_sipush (v := 30000) hx hb dM_piece_39 (by decide) ?_
        refine kSi (n := 3) (D := D) (As := [.int z9, .int 0, .int 30000]) (rest := [.int 1, .ref (ad 0)]) ⟨hx, hb, hml, hown, hT⟩ (kM_in l z9 0 30000) (gi_S wm_574 wm_575 wm_4 wm_576) rfl rfl (by decide +kernel) ⟨(Nat.le_of_ble_eq_true rfl), (Nat.le_of_ble_eq_true rfl)⟩ hP hS rfl hl.1 rfl (Nat.le_of_ble_eq_true rfl) dM_piece_42 ⟨(Nat.le_of_ble_eq_true rfl), (Nat.le_of_ble_eq_true rfl)⟩ (fun r_54 H locs e_55 hz hP hS => ?_)
        rcases e_55 with ⟨rfl, f_56⟩ | ⟨rfl, f_56⟩
        · refine lv_if_ne (tgt := 52) hx hb dM_piece_45 (by decide) (fun c_57 => ?_) (fun c_57 => absurd c_57 (by decide))
          refine lv_iconst (v := 0) hx hb dM_piece_52 (by decide) ?_
          refine lv_iload hx hb dM_piece_53 (lv_at hl 0 rfl) ?_
          refine lv_if_ne (tgt := 73) hx hb dM_piece_55 (by decide) (fun c_58 => ?_) (fun c_58 => absurd c_58 (by decide))
          refine lv_iconst (v := 0) hx hb dM_piece_73 (by decide) ?_
          refine kVi (n := 3) (D := D) (wd := fun z => mw CA z ad) (A1 := fun sz => mA ad sz) (As := [.int 1, .int 0, .int 0]) (rest := []) ⟨hx, hb, hml, hown, hT⟩ (kM_throwing l D CA g ad H.size 1 0 0) (gi_V wm_577 wm_579 wp_8 wm_4 wm_580) rfl rfl (by decide +kernel) ⟨(Nat.le_of_ble_eq_true rfl), (Nat.le_of_ble_eq_true rfl)⟩ (va_recv hK hP (ci := 4) (q0 := 0) rfl mw_O) hK hP hD hS (fun _ h9 => h9) (nA_mono hS.1) rfl hl.1 rfl (Nat.le_of_ble_eq_true rfl) dM_piece_74 ⟨(Nat.le_of_ble_eq_true rfl), (Nat.le_of_ble_eq_true rfl)⟩ (fun r_59 u_60 H locs w_61 hz hP hD hS => ?_)
          obtain ⟨rfl, rfl⟩ := th_100 w_61
          refine lv_if_eq (tgt := 82) hx hb dM_piece_77 (by decide) (fun c_62 => absurd c_62 (by decide)) (fun c_62 => ?_)
          refine lv_iconst (v := 0) hx hb dM_piece_80 (by decide) ?_
          exact W.iret (v := 0) hx hb hr (fun t ht hW => ⟨⟨_, (u2 g 0 0 1), rfl, Or.inl ⟨(Or.inr (ib_yb (n := 16) (by decide) (by decide) f_7)), rfl⟩, gpost_at hP hK hD ht hW.alike⟩, hS.F ht⟩) hS.2.2 dM_piece_81
        · refine lv_if_ne (tgt := 52) hx hb dM_piece_45 (by decide) (fun c_63 => absurd rfl c_63) (fun c_63 => ?_)
          refine lv_iconst (v := 1) hx hb dM_piece_48 (by decide) ?_
          refine lv_goto (tgt := 53) hx hb dM_piece_49 (by decide) ?_
          refine lv_iload hx hb dM_piece_53 (lv_at hl 0 rfl) ?_
          refine lv_if_ne (tgt := 73) hx hb dM_piece_55 (by decide) (fun c_64 => ?_) (fun c_64 => absurd c_64 (by decide))
          refine lv_iconst (v := 0) hx hb dM_piece_73 (by decide) ?_
          refine kVi (n := 3) (D := D) (wd := fun z => mw CA z ad) (A1 := fun sz => mA ad sz) (As := [.int 1, .int 1, .int 0]) (rest := []) ⟨hx, hb, hml, hown, hT⟩ (kM_throwing l D CA g ad H.size 1 1 0) (gi_V wm_577 wm_579 wp_8 wm_4 wm_580) rfl rfl (by decide +kernel) ⟨(Nat.le_of_ble_eq_true rfl), (Nat.le_of_ble_eq_true rfl)⟩ (va_recv hK hP (ci := 4) (q0 := 0) rfl mw_O) hK hP hD hS (fun _ h9 => h9) (nA_mono hS.1) rfl hl.1 rfl (Nat.le_of_ble_eq_true rfl) dM_piece_74 ⟨(Nat.le_of_ble_eq_true rfl), (Nat.le_of_ble_eq_true rfl)⟩ (fun r_65 u_66 H locs w_67 hz hP hD hS => ?_)
          obtain ⟨rfl, rfl⟩ := th_110 w_67
          refine lv_if_eq (tgt := 82) hx hb dM_piece_77 (by decide) (fun c_68 => absurd c_68 (by decide)) (fun c_68 => ?_)
          refine lv_iconst (v := 0) hx hb dM_piece_80 (by decide) ?_
          exact W.iret (v := 0) hx hb hr (fun t ht hW => ⟨⟨_, (u2 g 0 0 1), rfl, Or.inl ⟨(Or.inr (ib_yb (n := 16) (by decide) (by decide) f_7)), rfl⟩, gpost_at hP hK hD ht hW.alike⟩, hS.F ht⟩) hS.2.2 dM_piece_81
      · refine lv_if_eq (tgt := 48) hx hb dM_piece_33 (by decide) (fun c_69 => ?_) (fun c_69 => absurd (by decide) c_69)
        refine lv_iconst (v := 1) hx hb dM_piece_48 (by decide) ?_
        refine lv_goto (tgt := 53) hx hb dM_piece_49 (by decide) ?_
        refine lv_iload hx hb dM_piece_53 (lv_at hl 0 rfl) ?_
        refine lv_if_ne (tgt := 73) hx hb dM_piece_55 (by decide) (fun c_70 => ?_) (fun c_70 => absurd c_70 (by decide))
        refine lv_iconst (v := 0) hx hb dM_piece_73 (by decide) ?_
        refine kVi (n := 3) (D := D) (wd := fun z => mw CA z ad) (A1 := fun sz => mA ad sz) (As := [.int 1, .int 1, .int 0]) (rest := []) ⟨hx, hb, hml, hown, hT⟩ (kM_throwing l D CA g ad H.size 1 1 0) (gi_V wm_577 wm_579 wp_8 wm_4 wm_580) rfl rfl (by decide +kernel) ⟨(Nat.le_of_ble_eq_true rfl), (Nat.le_of_ble_eq_true rfl)⟩ (va_recv hK hP (ci := 4) (q0 := 0) rfl mw_O) hK hP hD hS (fun _ h9 => h9) (nA_mono hS.1) rfl hl.1 rfl (Nat.le_of_ble_eq_true rfl) dM_piece_74 ⟨(Nat.le_of_ble_eq_true rfl), (Nat.le_of_ble_eq_true rfl)⟩ (fun r_71 u_72 H locs w_73 hz hP hD hS => ?_)
        obtain ⟨rfl, rfl⟩ := th_110 w_73
        refine lv_if_eq (tgt := 82) hx hb dM_piece_77 (by decide) (fun c_74 => absurd c_74 (by decide)) (fun c_74 => ?_)
        refine lv_iconst (v := 0) hx hb dM_piece_80 (by decide) ?_
        exact W.iret (v := 0) hx hb hr (fun t ht hW => ⟨⟨_, (u2 g 0 0 1), rfl, Or.inl ⟨(Or.inr (ib_yb (n := 16) (by decide) (by decide) f_7)), rfl⟩, gpost_at hP hK hD ht hW.alike⟩, hS.F ht⟩) hS.2.2 dM_piece_81
  · refine lv_if_eq (tgt := 17) hx hb dM_piece_4 (by decide) (fun c_75 => ?_) (fun c_75 => absurd (by decide) c_75)
    refine lv_iconst (v := 1) hx hb dM_piece_17 (by decide) ?_
    refine lv_goto (tgt := 22) hx hb dM_piece_18 (by decide) ?_
    refine lv_istore (lv' := [(5, .int 1), (0, .ref (ad 0)), (1, .int kd), (2, .int pt), (3, .int sd), (4, .int z9)]) hx hb dM_piece_22 hl (by decide) rfl (fun ls hl => ?_)
    refine lv_aload_n hx hb dM_piece_24 rfl (lv_at hl 1 rfl) ?_
    refine lv_iload hx hb dM_piece_25 (lv_at hl 0 rfl) ?_
    refine lv_iload_n hx hb dM_piece_27 rfl (lv_at hl 4 rfl) ?_
    refine lv_iconst (v := 0) hx hb dM_piece_28 (by decide) ?_
    refine lv_iconst (v := 3) hx hb dM_piece_29 (by decide) ?_
    refine kSi (n := 3) (D := D) (As := [.int sd, .int 0, .int 3]) (rest := [.int 1, .ref (ad 0)]) ⟨hx, hb, hml, hown, hT⟩ (kM_in l sd 0 3) (gi_S wm_574 wm_575 wm_4 wm_576) rfl rfl (by decide +kernel) ⟨(Nat.le_of_ble_eq_true rfl), (Nat.le_of_ble_eq_true rfl)⟩ hP hS rfl hl.1 rfl (Nat.le_of_ble_eq_true rfl) dM_piece_30 ⟨(Nat.le_of_ble_eq_true rfl), (Nat.le_of_ble_eq_true rfl)⟩ (fun r_76 H locs e_77 hz hP hS => ?_)
    rcases e_77 with ⟨rfl, f_78⟩ | ⟨rfl, f_78⟩
    · refine lv_if_eq (tgt := 48) hx hb dM_piece_33 (by decide) (fun c_79 => absurd c_79 (by decide)) (fun c_79 => ?_)
      refine lv_iload hx hb dM_piece_36 (lv_at hl 5 rfl) ?_
      refine lv_iconst (v := 0) hx hb dM_piece_38 (by decide) ?_
      refine lv_sipush (v := 30000) hx hb dM_piece_39 (by decide) ?_
      refine kSi (n := 3) (D := D) (As := [.int z9, .int 0, .int 30000]) (rest := [.int 1, .ref (ad 0)]) ⟨hx, hb, hml, hown, hT⟩ (kM_in l z9 0 30000) (gi_S wm_574 wm_575 wm_4 wm_576) rfl rfl (by decide +kernel) ⟨(Nat.le_of_ble_eq_true rfl), (Nat.le_of_ble_eq_true rfl)⟩ hP hS rfl hl.1 rfl (Nat.le_of_ble_eq_true rfl) dM_piece_42 ⟨(Nat.le_of_ble_eq_true rfl), (Nat.le_of_ble_eq_true rfl)⟩ (fun r_80 H locs e_81 hz hP hS => ?_)
      rcases e_81 with ⟨rfl, f_82⟩ | ⟨rfl, f_82⟩
      · refine lv_if_ne (tgt := 52) hx hb dM_piece_45 (by decide) (fun c_83 => ?_) (fun c_83 => absurd c_83 (by decide))
        refine lv_iconst (v := 0) hx hb dM_piece_52 (by decide) ?_
        refine lv_iload hx hb dM_piece_53 (lv_at hl 0 rfl) ?_
        refine lv_if_ne (tgt := 73) hx hb dM_piece_55 (by decide) (fun c_84 => ?_) (fun c_84 => absurd c_84 (by decide))
        refine lv_iconst (v := 0) hx hb dM_piece_73 (by decide) ?_
        refine kVi (n := 3) (D := D) (wd := fun z => mw CA z ad) (A1 := fun sz => mA ad sz) (As := [.int 1, .int 0, .int 0]) (rest := []) ⟨hx, hb, hml, hown, hT⟩ (kM_throwing l D CA g ad H.size 1 0 0) (gi_V wm_577 wm_579 wp_8 wm_4 wm_580) rfl rfl (by decide +kernel) ⟨(Nat.le_of_ble_eq_true rfl), (Nat.le_of_ble_eq_true rfl)⟩ (va_recv hK hP (ci := 4) (q0 := 0) rfl mw_O) hK hP hD hS (fun _ h9 => h9) (nA_mono hS.1) rfl hl.1 rfl (Nat.le_of_ble_eq_true rfl) dM_piece_74 ⟨(Nat.le_of_ble_eq_true rfl), (Nat.le_of_ble_eq_true rfl)⟩ (fun r_85 u_86 H locs w_87 hz hP hD hS => ?_)
        obtain ⟨rfl, rfl⟩ := th_100 w_87
        refine lv_if_eq (tgt := 82) hx hb dM_piece_77 (by decide) (fun c_88 => absurd c_88 (by decide)) (fun c_88 => ?_)
        refine lv_iconst (v := 0) hx hb dM_piece_80 (by decide) ?_
        exact W.iret (v := 0) hx hb hr (fun t ht hW => ⟨⟨_, (u2 g 0 0 1), rfl, Or.inl ⟨(Or.inl f_3), rfl⟩, gpost_at hP hK hD ht hW.alike⟩, hS.F ht⟩) hS.2.2 dM_piece_81
      · refine lv_if_ne (tgt := 52) hx hb dM_piece_45 (by decide) (fun c_89 => absurd rfl c_89) (fun c_89 => ?_)
        refine lv_iconst (v := 1) hx hb dM_piece_48 (by decide) ?_
        refine lv_goto (tgt := 53) hx hb dM_piece_49 (by decide) ?_
        refine lv_iload hx hb dM_piece_53 (lv_at hl 0 rfl) ?_
        refine lv_if_ne (tgt := 73) hx hb dM_piece_55 (by decide) (fun c_90 => ?_) (fun c_90 => absurd c_90 (by decide))
        refine lv_iconst (v := 0) hx hb dM_piece_73 (by decide) ?_
        refine kVi (n := 3) (D := D) (wd := fun z => mw CA z ad) (A1 := fun sz => mA ad sz) (As := [.int 1, .int 1, .int 0]) (rest := []) ⟨hx, hb, hml, hown, hT⟩ (kM_throwing l D CA g ad H.size 1 1 0) (gi_V wm_577 wm_579 wp_8 wm_4 wm_580) rfl rfl (by decide +kernel) ⟨(Nat.le_of_ble_eq_true rfl), (Nat.le_of_ble_eq_true rfl)⟩ (va_recv hK hP (ci := 4) (q0 := 0) rfl mw_O) hK hP hD hS (fun _ h9 => h9) (nA_mono hS.1) rfl hl.1 rfl (Nat.le_of_ble_eq_true rfl) dM_piece_74 ⟨(Nat.le_of_ble_eq_true rfl), (Nat.le_of_ble_eq_true rfl)⟩ (fun r_91 u_92 H locs w_93 hz hP hD hS => ?_)
        obtain ⟨rfl, rfl⟩ := th_110 w_93
        refine lv_if_eq (tgt := 82) hx hb dM_piece_77 (by decide) (fun c_94 => absurd c_94 (by decide)) (fun c_94 => ?_)
        refine lv_iconst (v := 0) hx hb dM_piece_80 (by decide) ?_
        exact W.iret (v := 0) hx hb hr (fun t ht hW => ⟨⟨_, (u2 g 0 0 1), rfl, Or.inl ⟨(Or.inl f_3), rfl⟩, gpost_at hP hK hD ht hW.alike⟩, hS.F ht⟩) hS.2.2 dM_piece_81
    · refine lv_if_eq (tgt := 48) hx hb dM_piece_33 (by decide) (fun c_95 => ?_) (fun c_95 => absurd (by decide) c_95)
      refine lv_iconst (v := 1) hx hb dM_piece_48 (by decide) ?_
      refine lv_goto (tgt := 53) hx hb dM_piece_49 (by decide) ?_
      refine lv_iload hx hb dM_piece_53 (lv_at hl 0 rfl) ?_
      refine lv_if_ne (tgt := 73) hx hb dM_piece_55 (by decide) (fun c_96 => ?_) (fun c_96 => absurd c_96 (by decide))
      refine lv_iconst (v := 0) hx hb dM_piece_73 (by decide) ?_
      refine kVi (n := 3) (D := D) (wd := fun z => mw CA z ad) (A1 := fun sz => mA ad sz) (As := [.int 1, .int 1, .int 0]) (rest := []) ⟨hx, hb, hml, hown, hT⟩ (kM_throwing l D CA g ad H.size 1 1 0) (gi_V wm_577 wm_579 wp_8 wm_4 wm_580) rfl rfl (by decide +kernel) ⟨(Nat.le_of_ble_eq_true rfl), (Nat.le_of_ble_eq_true rfl)⟩ (va_recv hK hP (ci := 4) (q0 := 0) rfl mw_O) hK hP hD hS (fun _ h9 => h9) (nA_mono hS.1) rfl hl.1 rfl (Nat.le_of_ble_eq_true rfl) dM_piece_74 ⟨(Nat.le_of_ble_eq_true rfl), (Nat.le_of_ble_eq_true rfl)⟩ (fun r_97 u_98 H locs w_99 hz hP hD hS => ?_)
      obtain ⟨rfl, rfl⟩ := th_110 w_99
      refine lv_if_eq (tgt := 82) hx hb dM_piece_77 (by decide) (fun c_100 => absurd c_100 (by decide)) (fun c_100 => ?_)
      refine lv_iconst (v := 0) hx hb dM_piece_80 (by decide) ?_
      exact W.iret (v := 0) hx hb hr (fun t ht hW => ⟨⟨_, (u2 g 0 0 1), rfl, Or.inl ⟨(Or.inl f_3), rfl⟩, gpost_at hP hK hD ht hW.alike⟩, hS.F ht⟩) hS.2.2 dM_piece_81
