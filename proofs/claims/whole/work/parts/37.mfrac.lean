set_option maxHeartbeats 4000000 in
set_option maxRecDepth 100000 in
theorem loM_share {p : Program} {l : Launch} {e : Env} {s : State} {m : MethodId} {args : Array Value} {below : List Frame} {meth : Method} {c : Code} {Q : State → Prop} {D : va_G} {CA : Nat → ClassId} {ad : Nat → Nat} {g : Nat → Nat → Int32} {h : Nat → Nat → Nat} {jp : Nat → Nat} (hm : MI g h jp) {k : Nat} {pt : Int32} (hx : p.tables.exec = Jvm.exec) (hb : c.code = cM_share) (hml : c.maxLocals = 5) (hown : s.vm.findClass "CountLeastModel" = some m.cls) (hT : ∀ w ∈ TB, w.before args s = true) (hK : va_K D vwCl (cty CA) s) (kx : ∀ (an be : Nat → Nat) (H : Heap) (locs : List Loc), va_P D vwCl (mw CA (gm g an be) ad) H → va_D (mA ad s.heap.size) (mw CA (gm g an be) ad) → va_S (mA ad s.heap.size) s.heap H locs → ∀ ls, lv_has ls 5 [(3, .int (nI (shN g h jp 6))), (1, .int (nI k)), (2, .int pt), (0, .ref (ad 0))] → W p l e (rm 5 0 0) s m args below meth c H locs 0 0 Q (F0 m 59 ls [])) :
    ∀ (n i : Nat) (an be : Nat → Nat), i + n = 6 → ∀ (H : Heap) (locs : List Loc), va_P D vwCl (mw CA (gm g an be) ad) H → va_D (mA ad s.heap.size) (mw CA (gm g an be) ad) → va_S (mA ad s.heap.size) s.heap H locs → ∀ ls, lv_has ls 5 [(4, .int (nI i)), (3, .int (nI (shN g h jp i))), (1, .int (nI k)), (2, .int pt), (0, .ref (ad 0))] → W p l e (rm 5 0 0) s m args below meth c H locs 0 0 Q (F0 m 37 ls []) := by
  intro n
  induction n with
  | zero =>
    intro i an be hi H locs hP hD hS ls hl
    have hi : i = 6 := by omega
    refine lv_iload hx hb dM_share_37 (lv_at hl 0 rfl) ?_
    refine lv_bipush (v := 6) hx hb dM_share_39 (by decide) ?_
    refine lv_icmp_ge (tgt := 59) hx hb dM_share_41 (by decide) (fun c_1 => ?_) (fun c_1 => absurd (nI_le (a := 6) (by omega) (by omega)) c_1)
    rw [hi] at hl
    exact kx an be H locs hP hD hS ls (lv_sub hl [1, 2, 3, 4] rfl)
  | succ n ih =>
    intro i an be hi H locs hP hD hS ls hl
    refine lv_iload hx hb dM_share_37 (lv_at hl 0 rfl) ?_
    refine lv_bipush (v := 6) hx hb dM_share_39 (by decide) ?_
    refine lv_icmp_ge (tgt := 59) hx hb dM_share_41 (by decide) (fun c_1 => absurd c_1 (nI_ge (b := 6) (by omega) (by omega))) (fun c_1 => ?_)
    refine lv_iload_n hx hb dM_share_44 rfl (lv_at hl 1 rfl) ?_
    refine lv_aload_n hx hb dM_share_45 rfl (lv_at hl 4 rfl) ?_
    refine lv_iload hx hb dM_share_46 (lv_at hl 0 rfl) ?_
    refine kVi (n := 1) (D := D) (wd := fun z => mw CA z ad) (A1 := fun sz => mA ad sz) (As := [.int (nI i)]) (rest := [.int (nI (shN g h jp i))]) ⟨hx, hb, hml, hown, hT⟩ (kM_part l D CA (gm g an be) ad H.size h jp hm.gm i (by omega)) (gi_V wm_621 wm_623 wp_11 wm_4 wm_624) rfl rfl (by decide +kernel) ⟨(Nat.le_of_ble_eq_true rfl), (Nat.le_of_ble_eq_true rfl)⟩ (va_recv hK hP (ci := 4) (q0 := 0) rfl mw_O) hK hP hD hS (fun _ h9 => h9) (nA_mono hS.1) rfl hl.1 rfl (Nat.le_of_ble_eq_true rfl) dM_share_48 ⟨(Nat.le_of_ble_eq_true rfl), (Nat.le_of_ble_eq_true rfl)⟩ (fun r_2 u_3 H locs w_4 hz hP hD hS => ?_)
    obtain ⟨w_4, an9, be9, hu9, -⟩ := w_4
    rw [cM_gm] at w_4
    rw [hu9, gm_gm] at hP hD
    subst w_4
    refine lv_iadd hx hb dM_share_51 ?_
    refine W.eq (g2 := F0 m 52 ls [.int (nI (shN g h jp i + (lstN (cM g h jp i) (h 1 i))))]) (by rw [nI_add]) ?_
    refine lv_istore_n (lv' := [(3, .int (nI (shN g h jp i + (lstN (cM g h jp i) (h 1 i))))), (4, .int (nI i)), (1, .int (nI k)), (2, .int pt), (0, .ref (ad 0))]) hx hb dM_share_52 rfl hl (by decide) rfl (fun ls hl => ?_)
    refine lv_iinc (v := nI (i + 1)) (lv' := [(4, .int (nI (i + 1))), (3, .int (nI (shN g h jp i + (lstN (cM g h jp i) (h 1 i))))), (1, .int (nI k)), (2, .int pt), (0, .ref (ad 0))]) hx hb dM_share_53 hl (k := 1) rfl (nI_1 _) (by decide) rfl (fun ls hl => ?_)
    refine lv_goto (tgt := 37) hx hb dM_share_56 (by decide) ?_
    exact ih (i + 1) an9 be9 (by omega) H locs hP hD hS ls (lv_sub hl [0, 1, 2, 3, 4] rfl)
set_option maxHeartbeats 4000000 in
set_option maxRecDepth 100000 in
theorem kM_share (l : Launch) (D : va_G) (CA : Nat → ClassId) (g : Nat → Nat → Int32) (ad : Nat → Nat) (sz : Nat) (h : Nat → Nat → Nat) (jp : Nat → Nat) (hm : MI g h jp) (kd pt : Int32) : Met l yM_share wM_share (rm 5 0 0) (va_Pc [.ref (ad 0), .int kd, .int pt] (gpre D (cty CA) (mw CA g ad) sz)) (va_Qi (fun r (u : Nat → Nat → Int32) => t4 (ib kd 6 ∨ ib pt 2) False False g u (∃ k, k < 6 ∧ kd = nI k ∧ ∃ an be, u = gle (gm (u2 g 0 0 0) an be) (lsO (lstN (cM (u2 g 0 0 0) h jp k) (h 1 k)) (shN (u2 g 0 0 0) h jp 6)) (lsU (lstN (cM (u2 g 0 0 0) h jp k) (h 1 k)) (shN (u2 g 0 0 0) h jp 6)) ∧ r = if pt = 0 then nI (lsO (lstN (cM (u2 g 0 0 0) h jp k) (h 1 k)) (shN (u2 g 0 0 0) h jp 6)) else nI (lsU (lstN (cM (u2 g 0 0 0) h jp k) (h 1 k)) (shN (u2 g 0 0 0) h jp 6)))) (fun u t => gpost D (cty CA) (mw CA u ad) (mA ad sz) t) (mA ad sz)) 0 0 (mA ad sz) := by
  refine Met.ofW (cc := cM_share) (maxL := 5) (ret := (some .int)) (by decide) rfl ?_
  intro p e s m args below meth c s₁ B hml hv
  obtain ⟨rfl, hsz, hP, hK, hD0⟩ := hv
  have hx := B.exec
  have hb := B.bytes
  have hr := B.returns
  have hT : ∀ w ∈ TB, w.before _ s = true := fun w hw => atoms_spec (ws := wM_share) B.pre w (List.mem_cons_of_mem _ hw)
  have hown : s.vm.findClass "CountLeastModel" = some m.cls := findClass_of_methodNamed B.named
  have hlocks := B.notSynchronized
  subst hsz
  have hD := nA_self (sz := s.heap.size) hD0
  have hS : va_S (mA ad s.heap.size) s.heap s.heap [] := va_S.rf
  have hP : va_P D vwCl (mw CA g ad) s.heap := hP
  have hl := lv_entry ([.ref (ad 0), .int kd, .int pt]) (n := 5) (Nat.le_of_ble_eq_true rfl)
  rw [lg_entry_eq]
  generalize (lg_sl ([.ref (ad 0), .int kd, .int pt]) ++ List.replicate (5 - (lg_sl ([.ref (ad 0), .int kd, .int pt])).length) Slot.unset).toArray = ls at hl ⊢
  have hl : lv_has ls 5 [(0, .ref (ad 0)), (1, .int kd), (2, .int pt)] := hl
  refine lv_aload_n hx hb dM_share_0 rfl (lv_at hl 0 rfl) ?_
  refine lv_iload_n hx hb dM_share_1 rfl (lv_at hl 1 rfl) ?_
  refine kSi (n := 1) (D := D) (As := [.int kd]) (rest := [.ref (ad 0)]) ⟨hx, hb, hml, hown, hT⟩ (kM_isKind l kd) (gi_S wm_571 wm_572 wm_4 wm_573) rfl rfl (by decide +kernel) ⟨(Nat.le_of_ble_eq_true rfl), (Nat.le_of_ble_eq_true rfl)⟩ hP hS rfl hl.1 rfl (Nat.le_of_ble_eq_true rfl) dM_share_2 ⟨(Nat.le_of_ble_eq_true rfl), (Nat.le_of_ble_eq_true rfl)⟩ (fun r_1 H locs e_2 hz hP hS => ?_)
  rcases e_2 with ⟨rfl, f_3⟩ | ⟨rfl, f_3⟩
  · refine lv_if_eq (tgt := 17) hx hb dM_share_5 (by decide) (fun c_4 => absurd c_4 (by decide)) (fun c_4 => ?_)
    refine lv_iload_n hx hb dM_share_8 rfl (lv_at hl 2 rfl) ?_
    refine lv_iconst (v := 0) hx hb dM_share_9 (by decide) ?_
    refine lv_iconst (v := 1) hx hb dM_share_10 (by decide) ?_
    refine kSi (n := 3) (D := D) (As := [.int pt, .int 0, .int 1]) (rest := [.ref (ad 0)]) ⟨hx, hb, hml, hown, hT⟩ (kM_in l pt 0 1) (gi_S wm_574 wm_575 wm_4 wm_576) rfl rfl (by decide +kernel) ⟨(Nat.le_of_ble_eq_true rfl), (Nat.le_of_ble_eq_true rfl)⟩ hP hS rfl hl.1 rfl (Nat.le_of_ble_eq_true rfl) dM_share_11 ⟨(Nat.le_of_ble_eq_true rfl), (Nat.le_of_ble_eq_true rfl)⟩ (fun r_5 H locs e_6 hz hP hS => ?_)
    rcases e_6 with ⟨rfl, f_7⟩ | ⟨rfl, f_7⟩
    · refine lv_if_ne (tgt := 21) hx hb dM_share_14 (by decide) (fun c_8 => ?_) (fun c_8 => absurd c_8 (by decide))
      refine lv_iconst (v := 0) hx hb dM_share_21 (by decide) ?_
      refine lv_iconst (v := 0) hx hb dM_share_22 (by decide) ?_
      refine lv_iconst (v := 0) hx hb dM_share_23 (by decide) ?_
      refine kVi (n := 3) (D := D) (wd := fun z => mw CA z ad) (A1 := fun sz => mA ad sz) (As := [.int 0, .int 0, .int 0]) (rest := []) ⟨hx, hb, hml, hown, hT⟩ (kM_throwing l D CA g ad H.size 0 0 0) (gi_V wm_577 wm_579 wp_8 wm_4 wm_580) rfl rfl (by decide +kernel) ⟨(Nat.le_of_ble_eq_true rfl), (Nat.le_of_ble_eq_true rfl)⟩ (va_recv hK hP (ci := 4) (q0 := 0) rfl mw_O) hK hP hD hS (fun _ h9 => h9) (nA_mono hS.1) rfl hl.1 rfl (Nat.le_of_ble_eq_true rfl) dM_share_24 ⟨(Nat.le_of_ble_eq_true rfl), (Nat.le_of_ble_eq_true rfl)⟩ (fun r_9 u_10 H locs w_11 hz hP hD hS => ?_)
      obtain ⟨rfl, rfl⟩ := th_000 w_11
      obtain ⟨k, hk, rfl⟩ := ibn (n := 6) (by decide) f_3
      have hm0 := (hm).t (v := 0)
      refine lv_if_eq (tgt := 32) hx hb dM_share_27 (by decide) (fun c_12 => ?_) (fun c_12 => absurd (by decide) c_12)
      refine lv_iconst (v := 0) hx hb dM_share_32 (by decide) ?_
      refine lv_istore_n (lv' := [(3, .int 0), (0, .ref (ad 0)), (1, .int (nI k)), (2, .int pt)]) hx hb dM_share_33 rfl hl (by decide) rfl (fun ls hl => ?_)
      refine lv_iconst (v := 0) hx hb dM_share_34 (by decide) ?_
      refine lv_istore (lv' := [(4, .int 0), (3, .int 0), (0, .ref (ad 0)), (1, .int (nI k)), (2, .int pt)]) hx hb dM_share_35 hl (by decide) rfl (fun ls hl => ?_)
      rw [← gm_self (g := u2 g 0 0 0)] at hP hD
      refine loM_share hm0 hx hb hml hown hT hK (fun an be H locs hP hD hS ls hl => ?_) 6 0 _ _ (by omega) _ _ hP hD hS ls (lv_sub hl [0, 1, 3, 4, 2] rfl)
      refine lv_aload_n hx hb dM_share_59 rfl (lv_at hl 3 rfl) ?_
      refine lv_aload_n hx hb dM_share_60 rfl (lv_at hl 3 rfl) ?_
      refine lv_iload_n hx hb dM_share_61 rfl (lv_at hl 1 rfl) ?_
      refine kVi (n := 1) (D := D) (wd := fun z => mw CA z ad) (A1 := fun sz => mA ad sz) (As := [.int (nI k)]) (rest := [.ref (ad 0)]) ⟨hx, hb, hml, hown, hT⟩ (kM_part l D CA (gm (u2 g 0 0 0) an be) ad H.size h jp hm0.gm k hk) (gi_V wm_621 wm_623 wp_11 wm_4 wm_624) rfl rfl (by decide +kernel) ⟨(Nat.le_of_ble_eq_true rfl), (Nat.le_of_ble_eq_true rfl)⟩ (va_recv hK hP (ci := 4) (q0 := 0) rfl mw_O) hK hP hD hS (fun _ h9 => h9) (nA_mono hS.1) rfl hl.1 rfl (Nat.le_of_ble_eq_true rfl) dM_share_62 ⟨(Nat.le_of_ble_eq_true rfl), (Nat.le_of_ble_eq_true rfl)⟩ (fun r_13 u_14 H locs w_15 hz hP hD hS => ?_)
      obtain ⟨w_15, an9, be9, hu9, -⟩ := w_15
      rw [cM_gm] at w_15
      rw [hu9, gm_gm] at hP hD
      subst w_15
      have sb1 := shN_le hm0 6 (by omega)
      have sb2 := lstN_le (cm := cM (u2 g 0 0 0) h jp k) (n := h 1 k)
      have sb3 := hm.c12 hk
      refine lv_iload_n hx hb dM_share_65 rfl (lv_at hl 0 rfl) ?_
      refine kVv (n := 2) (D := D) (wd := fun z => mw CA z ad) (A1 := fun sz => mA ad sz) (As := [.int (nI (lstN (cM (u2 g 0 0 0) h jp k) (h 1 k))), .int (nI (shN (u2 g 0 0 0) h jp 6))]) (rest := []) ⟨hx, hb, hml, hown, hT⟩ (kM_lessen l D CA (gm (u2 g 0 0 0) an9 be9) ad H.size (lstN (cM (u2 g 0 0 0) h jp k) (h 1 k)) (shN (u2 g 0 0 0) h jp 6) (by omega) (by omega)) (gi_V wm_669 wm_671 wp_17 wm_4 wm_672) rfl rfl (by decide +kernel) ⟨(Nat.le_of_ble_eq_true rfl), (Nat.le_of_ble_eq_true rfl)⟩ (va_recv hK hP (ci := 4) (q0 := 0) rfl mw_O) hK hP hD hS (fun _ h9 => h9) (nA_mono hS.1) rfl hl.1 rfl (Nat.le_of_ble_eq_true rfl) dM_share_66 ⟨(Nat.le_of_ble_eq_true rfl), (Nat.le_of_ble_eq_true rfl)⟩ (fun u_17 H locs w_18 hz hP hD hS => ?_)
      subst w_18
      refine lv_iload_n hx hb dM_share_69 rfl (lv_at hl 2 rfl) ?_
      refine lv_if_ne (tgt := 80) hx hb dM_share_70 (by decide) (fun c_19 => ?_) (fun c_19 => ?_)
      · refine lv_aload_n hx hb dM_share_80 rfl (lv_at hl 3 rfl) ?_
        refine va_get (D := D) (ci := 4) (C := RM) (T := TM) (N := 21) hx hb hT inM hown hK hP (0) (mw_O) rfl 20 (by decide) (hT _ wm_519) (fun _ h9 => h9) rfl dM_share_81 ?_
        refine W.eq (g2 := F0 m 84 ls [.int (nI (lsU (lstN (cM (u2 g 0 0 0) h jp k) (h 1 k)) (shN (u2 g 0 0 0) h jp 6)))]) (by rw [gle_u]) ?_
        exact W.iret (v := nI (lsU (lstN (cM (u2 g 0 0 0) h jp k) (h 1 k)) (shN (u2 g 0 0 0) h jp 6))) hx hb hr (fun t ht hW => ⟨⟨_, (gle (gm (u2 g 0 0 0) an9 be9) (lsO (lstN (cM (u2 g 0 0 0) h jp k) (h 1 k)) (shN (u2 g 0 0 0) h jp 6)) (lsU (lstN (cM (u2 g 0 0 0) h jp k) (h 1 k)) (shN (u2 g 0 0 0) h jp 6))), rfl, Or.inr (Or.inr (Or.inr ⟨(not_or.mpr ⟨f_3, (ib_nb (n := 2) (by decide) (by decide) f_7)⟩), (fun h9 : False => h9), (fun h9 : False => h9), k, hk, rfl, an9, be9, rfl, by simp [c_19]⟩)), gpost_at hP hK hD ht hW.alike⟩, hS.F ht⟩) hS.2.2 dM_share_84
      · refine lv_aload_n hx hb dM_share_73 rfl (lv_at hl 3 rfl) ?_
        refine va_get (D := D) (ci := 4) (C := RM) (T := TM) (N := 21) hx hb hT inM hown hK hP (0) (mw_O) rfl 19 (by decide) (hT _ wm_518) (fun _ h9 => h9) rfl dM_share_74 ?_
        refine W.eq (g2 := F0 m 77 ls [.int (nI (lsO (lstN (cM (u2 g 0 0 0) h jp k) (h 1 k)) (shN (u2 g 0 0 0) h jp 6)))]) (by rw [gle_o]) ?_
        refine lv_goto (tgt := 84) hx hb dM_share_77 (by decide) ?_
        exact W.iret (v := nI (lsO (lstN (cM (u2 g 0 0 0) h jp k) (h 1 k)) (shN (u2 g 0 0 0) h jp 6))) hx hb hr (fun t ht hW => ⟨⟨_, (gle (gm (u2 g 0 0 0) an9 be9) (lsO (lstN (cM (u2 g 0 0 0) h jp k) (h 1 k)) (shN (u2 g 0 0 0) h jp 6)) (lsU (lstN (cM (u2 g 0 0 0) h jp k) (h 1 k)) (shN (u2 g 0 0 0) h jp 6))), rfl, Or.inr (Or.inr (Or.inr ⟨(not_or.mpr ⟨f_3, (ib_nb (n := 2) (by decide) (by decide) f_7)⟩), (fun h9 : False => h9), (fun h9 : False => h9), k, hk, rfl, an9, be9, rfl, by simp [c_19]⟩)), gpost_at hP hK hD ht hW.alike⟩, hS.F ht⟩) hS.2.2 dM_share_84
    · refine lv_if_ne (tgt := 21) hx hb dM_share_14 (by decide) (fun c_20 => absurd rfl c_20) (fun c_20 => ?_)
      refine lv_iconst (v := 1) hx hb dM_share_17 (by decide) ?_
      refine lv_goto (tgt := 22) hx hb dM_share_18 (by decide) ?_
      refine lv_iconst (v := 0) hx hb dM_share_22 (by decide) ?_
      refine lv_iconst (v := 0) hx hb dM_share_23 (by decide) ?_
      refine kVi (n := 3) (D := D) (wd := fun z => mw CA z ad) (A1 := fun sz => mA ad sz) (As := [.int 1, .int 0, .int 0]) (rest := []) ⟨hx, hb, hml, hown, hT⟩ (kM_throwing l D CA g ad H.size 1 0 0) (gi_V wm_577 wm_579 wp_8 wm_4 wm_580) rfl rfl (by decide +kernel) ⟨(Nat.le_of_ble_eq_true rfl), (Nat.le_of_ble_eq_true rfl)⟩ (va_recv hK hP (ci := 4) (q0 := 0) rfl mw_O) hK hP hD hS (fun _ h9 => h9) (nA_mono hS.1) rfl hl.1 rfl (Nat.le_of_ble_eq_true rfl) dM_share_24 ⟨(Nat.le_of_ble_eq_true rfl), (Nat.le_of_ble_eq_true rfl)⟩ (fun r_21 u_22 H locs w_23 hz hP hD hS => ?_)
      obtain ⟨rfl, rfl⟩ := th_100 w_23
      refine lv_if_eq (tgt := 32) hx hb dM_share_27 (by decide) (fun c_24 => absurd c_24 (by decide)) (fun c_24 => ?_)
      refine lv_iconst (v := 0) hx hb dM_share_30 (by decide) ?_
      exact W.iret (v := 0) hx hb hr (fun t ht hW => ⟨⟨_, (u2 g 0 0 1), rfl, Or.inl ⟨(Or.inr (ib_yb (n := 2) (by decide) (by decide) f_7)), rfl⟩, gpost_at hP hK hD ht hW.alike⟩, hS.F ht⟩) hS.2.2 dM_share_31
  · refine lv_if_eq (tgt := 17) hx hb dM_share_5 (by decide) (fun c_25 => ?_) (fun c_25 => absurd (by decide) c_25)
    refine lv_iconst (v := 1) hx hb dM_share_17 (by decide) ?_
    refine lv_goto (tgt := 22) hx hb dM_share_18 (by decide) ?_
    refine lv_iconst (v := 0) hx hb dM_share_22 (by decide) ?_
    refine lv_iconst (v := 0) hx hb dM_share_23 (by decide) ?_
    refine kVi (n := 3) (D := D) (wd := fun z => mw CA z ad) (A1 := fun sz => mA ad sz) (As := [.int 1, .int 0, .int 0]) (rest := []) ⟨hx, hb, hml, hown, hT⟩ (kM_throwing l D CA g ad H.size 1 0 0) (gi_V wm_577 wm_579 wp_8 wm_4 wm_580) rfl rfl (by decide +kernel) ⟨(Nat.le_of_ble_eq_true rfl), (Nat.le_of_ble_eq_true rfl)⟩ (va_recv hK hP (ci := 4) (q0 := 0) rfl mw_O) hK hP hD hS (fun _ h9 => h9) (nA_mono hS.1) rfl hl.1 rfl (Nat.le_of_ble_eq_true rfl) dM_share_24 ⟨(Nat.le_of_ble_eq_true rfl), (Nat.le_of_ble_eq_true rfl)⟩ (fun r_26 u_27 H locs w_28 hz hP hD hS => ?_)
    obtain ⟨rfl, rfl⟩ := th_100 w_28
    refine lv_if_eq (tgt := 32) hx hb dM_share_27 (by decide) (fun c_29 => absurd c_29 (by decide)) (fun c_29 => ?_)
    refine lv_iconst (v := 0) hx hb dM_share_30 (by decide) ?_
    exact W.iret (v := 0) hx hb hr (fun t ht hW => ⟨⟨_, (u2 g 0 0 1), rfl, Or.inl ⟨(Or.inl f_3), rfl⟩, gpost_at hP hK hD ht hW.alike⟩, hS.F ht⟩) hS.2.2 dM_share_31
set_option maxHeartbeats 4000000 in
set_option maxRecDepth 100000 in
theorem kM_scaled (l : Launch) (D : va_G) (CA : Nat → ClassId) (g : Nat → Nat → Int32) (ad : Nat → Nat) (sz : Nat) (h : Nat → Nat → Nat) (jp : Nat → Nat) (hm : MI g h jp) (kd pt : Int32) (hF : ∀ k, k < 6 → ∃ fa fb, fa ≤ 10000 ∧ 1 ≤ fb ∧ fb ≤ 10000 ∧ g 14 k = nI fa ∧ g 15 k = nI fb) : Met l yM_scaled wM_scaled (rm 2 0 0) (va_Pc [.ref (ad 0), .int kd, .int pt] (gpre D (cty CA) (mw CA g ad) sz)) (va_Qi (fun r (u : Nat → Nat → Int32) => t4 (ib kd 6 ∨ ib pt 3) False False g u (∃ k fa fb, k < 6 ∧ kd = nI k ∧ fa ≤ 10000 ∧ 1 ≤ fb ∧ fb ≤ 10000 ∧ g 14 k = nI fa ∧ g 15 k = nI fb ∧ u = gle (u2 g 0 0 0) (lsO (h 1 k * fa % fb) fb) (lsU (h 1 k * fa % fb) fb) ∧ r = if pt = 0 then nI (h 1 k * fa / fb) else if pt = 1 then nI (lsO (h 1 k * fa % fb) fb) else nI (lsU (h 1 k * fa % fb) fb))) (fun u t => gpost D (cty CA) (mw CA u ad) (mA ad sz) t) (mA ad sz)) 0 0 (mA ad sz) := by
  refine Met.ofW (cc := cM_scaled) (maxL := 4) (ret := (some .int)) (by decide) rfl ?_
  intro p e s m args below meth c s₁ B hml hv
  obtain ⟨rfl, hsz, hP, hK, hD0⟩ := hv
  have hx := B.exec
  have hb := B.bytes
  have hr := B.returns
  have hT : ∀ w ∈ TB, w.before _ s = true := fun w hw => atoms_spec (ws := wM_scaled) B.pre w (List.mem_cons_of_mem _ hw)
  have hown : s.vm.findClass "CountLeastModel" = some m.cls := findClass_of_methodNamed B.named
  have hlocks := B.notSynchronized
  subst hsz
  have hD := nA_self (sz := s.heap.size) hD0
  have hS : va_S (mA ad s.heap.size) s.heap s.heap [] := va_S.rf
  have hP : va_P D vwCl (mw CA g ad) s.heap := hP
  have hl := lv_entry ([.ref (ad 0), .int kd, .int pt]) (n := 4) (Nat.le_of_ble_eq_true rfl)
  rw [lg_entry_eq]
  generalize (lg_sl ([.ref (ad 0), .int kd, .int pt]) ++ List.replicate (4 - (lg_sl ([.ref (ad 0), .int kd, .int pt])).length) Slot.unset).toArray = ls at hl ⊢
  have hl : lv_has ls 4 [(0, .ref (ad 0)), (1, .int kd), (2, .int pt)] := hl
  refine lv_aload_n hx hb dM_scaled_0 rfl (lv_at hl 0 rfl) ?_
  refine lv_iload_n hx hb dM_scaled_1 rfl (lv_at hl 1 rfl) ?_
  refine kSi (n := 1) (D := D) (As := [.int kd]) (rest := [.ref (ad 0)]) ⟨hx, hb, hml, hown, hT⟩ (kM_isKind l kd) (gi_S wm_571 wm_572 wm_4 wm_573) rfl rfl (by decide +kernel) ⟨(Nat.le_of_ble_eq_true rfl), (Nat.le_of_ble_eq_true rfl)⟩ hP hS rfl hl.1 rfl (Nat.le_of_ble_eq_true rfl) dM_scaled_2 ⟨(Nat.le_of_ble_eq_true rfl), (Nat.le_of_ble_eq_true rfl)⟩ (fun r_1 H locs e_2 hz hP hS => ?_)
  rcases e_2 with ⟨rfl, f_3⟩ | ⟨rfl, f_3⟩
  · refine lv_if_eq (tgt := 17) hx hb dM_scaled_5 (by decide) (fun c_4 => absurd c_4 (by decide)) (fun c_4 => ?_)
    refine lv_iload_n hx hb dM_scaled_8 rfl (lv_at hl 2 rfl) ?_
    refine lv_iconst (v := 0) hx hb dM_scaled_9 (by decide) ?_
    refine lv_iconst (v := 2) hx hb dM_scaled_10 (by decide) ?_
    refine kSi (n := 3) (D := D) (As := [.int pt, .int 0, .int 2]) (rest := [.ref (ad 0)]) ⟨hx, hb, hml, hown, hT⟩ (kM_in l pt 0 2) (gi_S wm_574 wm_575 wm_4 wm_576) rfl rfl (by decide +kernel) ⟨(Nat.le_of_ble_eq_true rfl), (Nat.le_of_ble_eq_true rfl)⟩ hP hS rfl hl.1 rfl (Nat.le_of_ble_eq_true rfl) dM_scaled_11 ⟨(Nat.le_of_ble_eq_true rfl), (Nat.le_of_ble_eq_true rfl)⟩ (fun r_5 H locs e_6 hz hP hS => ?_)
    rcases e_6 with ⟨rfl, f_7⟩ | ⟨rfl, f_7⟩
    · refine lv_if_ne (tgt := 21) hx hb dM_scaled_14 (by decide) (fun c_8 => ?_) (fun c_8 => absurd c_8 (by decide))
      refine lv_iconst (v := 0) hx hb dM_scaled_21 (by decide) ?_
      refine lv_iconst (v := 0) hx hb dM_scaled_22 (by decide) ?_
      refine lv_iconst (v := 0) hx hb dM_scaled_23 (by decide) ?_
      refine kVi (n := 3) (D := D) (wd := fun z => mw CA z ad) (A1 := fun sz => mA ad sz) (As := [.int 0, .int 0, .int 0]) (rest := []) ⟨hx, hb, hml, hown, hT⟩ (kM_throwing l D CA g ad H.size 0 0 0) (gi_V wm_577 wm_579 wp_8 wm_4 wm_580) rfl rfl (by decide +kernel) ⟨(Nat.le_of_ble_eq_true rfl), (Nat.le_of_ble_eq_true rfl)⟩ (va_recv hK hP (ci := 4) (q0 := 0) rfl mw_O) hK hP hD hS (fun _ h9 => h9) (nA_mono hS.1) rfl hl.1 rfl (Nat.le_of_ble_eq_true rfl) dM_scaled_24 ⟨(Nat.le_of_ble_eq_true rfl), (Nat.le_of_ble_eq_true rfl)⟩ (fun r_9 u_10 H locs w_11 hz hP hD hS => ?_)
      obtain ⟨rfl, rfl⟩ := th_000 w_11
      obtain ⟨k, hk, rfl⟩ := ibn (n := 6) (by decide) f_3
      have hm0 := (hm).t (v := 0)
      obtain ⟨fa, fb, fa1, fb1, fb2, hfa, hfb⟩ := hF k hk
      have h12 := hm.c12 hk
      have hmul : h 1 k * fa ≤ 12 * 10000 := Nat.mul_le_mul h12 fa1
      have hmod : h 1 k * fa % fb < fb := Nat.mod_lt _ (by omega)
      refine lv_if_eq (tgt := 32) hx hb dM_scaled_27 (by decide) (fun c_12 => ?_) (fun c_12 => absurd (by decide) c_12)
      refine lv_aload_n hx hb dM_scaled_32 rfl (lv_at hl 0 rfl) ?_
      refine va_get (D := D) (ci := 4) (C := RM) (T := TM) (N := 21) hx hb hT inM hown hK hP (0) (mw_O) rfl 9 (by decide) (hT _ wm_508) (fun _ h9 => h9) rfl dM_scaled_33 ?_
      refine lv_iload_n hx hb dM_scaled_36 rfl (lv_at hl 1 rfl) ?_
      refine va_iald (D := D) hx hb hK hP (8) 0 (mw_a8) rfl (vp_in_nI (by omega) (by decide)) dM_scaled_37 ?_
      rw [nI_clamp (n := k) (by omega)]
      refine W.eq (g2 := F0 m 38 ls [.int (nI (h 1 k))]) (by rw [hm0.cnt (k := k) (by omega)]) ?_
      refine lv_aload_n hx hb dM_scaled_38 rfl (lv_at hl 0 rfl) ?_
      refine va_get (D := D) (ci := 4) (C := RM) (T := TM) (N := 21) hx hb hT inM hown hK hP (0) (mw_O) rfl 15 (by decide) (hT _ wm_514) (fun _ h9 => h9) rfl dM_scaled_39 ?_
      refine lv_iload_n hx hb dM_scaled_42 rfl (lv_at hl 1 rfl) ?_
      refine va_iald (D := D) hx hb hK hP (14) 0 (mw_a14) rfl (vp_in_nI (by omega) (by decide)) dM_scaled_43 ?_
      rw [nI_clamp (n := k) (by omega)]
      refine W.eq (g2 := F0 m 44 ls [.int (nI fa), .int (nI (h 1 k))]) (by rw [show u2 g 0 0 0 14 k = nI fa from hfa]) ?_
      refine lv_imul hx hb dM_scaled_44 ?_
      refine W.eq (g2 := F0 m 45 ls [.int (nI (h 1 k * fa))]) (by rw [pk_mul]) ?_
      refine lv_istore_n (lv' := [(3, .int (nI (h 1 k * fa))), (0, .ref (ad 0)), (1, .int (nI k)), (2, .int pt)]) hx hb dM_scaled_45 rfl hl (by decide) rfl (fun ls hl => ?_)
      refine lv_aload_n hx hb dM_scaled_46 rfl (lv_at hl 1 rfl) ?_
      refine lv_iload_n hx hb dM_scaled_47 rfl (lv_at hl 0 rfl) ?_
      refine lv_aload_n hx hb dM_scaled_48 rfl (lv_at hl 1 rfl) ?_
      refine va_get (D := D) (ci := 4) (C := RM) (T := TM) (N := 21) hx hb hT inM hown hK hP (0) (mw_O) rfl 16 (by decide) (hT _ wm_515) (fun _ h9 => h9) rfl dM_scaled_49 ?_
      refine lv_iload_n hx hb dM_scaled_52 rfl (lv_at hl 2 rfl) ?_
      refine va_iald (D := D) hx hb hK hP (15) 0 (mw_a15) rfl (vp_in_nI (by omega) (by decide)) dM_scaled_53 ?_
      rw [nI_clamp (n := k) (by omega)]
      refine W.eq (g2 := F0 m 54 ls [.int (nI fb), .int (nI (h 1 k * fa)), .ref (ad 0)]) (by rw [show u2 g 0 0 0 15 k = nI fb from hfb]) ?_
      refine lv_irem hx hb dM_scaled_54 (nI_ne0 (by omega) (by omega)) ?_
      refine W.eq (g2 := F0 m 55 ls [.int (nI (h 1 k * fa % fb)), .ref (ad 0)]) (by rw [pk_rem (by omega) (by omega) (by omega)]) ?_
      refine lv_aload_n hx hb dM_scaled_55 rfl (lv_at hl 1 rfl) ?_
      refine va_get (D := D) (ci := 4) (C := RM) (T := TM) (N := 21) hx hb hT inM hown hK hP (0) (mw_O) rfl 16 (by decide) (hT _ wm_515) (fun _ h9 => h9) rfl dM_scaled_56 ?_
      refine lv_iload_n hx hb dM_scaled_59 rfl (lv_at hl 2 rfl) ?_
      refine va_iald (D := D) hx hb hK hP (15) 0 (mw_a15) rfl (vp_in_nI (by omega) (by decide)) dM_scaled_60 ?_
      rw [nI_clamp (n := k) (by omega)]
      refine W.eq (g2 := F0 m 61 ls [.int (nI fb), .int (nI (h 1 k * fa % fb)), .ref (ad 0)]) (by rw [show u2 g 0 0 0 15 k = nI fb from hfb]) ?_
      refine kVv (n := 2) (D := D) (wd := fun z => mw CA z ad) (A1 := fun sz => mA ad sz) (As := [.int (nI (h 1 k * fa % fb)), .int (nI fb)]) (rest := []) ⟨hx, hb, hml, hown, hT⟩ (kM_lessen l D CA (u2 g 0 0 0) ad H.size (h 1 k * fa % fb) fb (by omega) (by omega)) (gi_V wm_669 wm_671 wp_17 wm_4 wm_672) rfl rfl (by decide +kernel) ⟨(Nat.le_of_ble_eq_true rfl), (Nat.le_of_ble_eq_true rfl)⟩ (va_recv hK hP (ci := 4) (q0 := 0) rfl mw_O) hK hP hD hS (fun _ h9 => h9) (nA_mono hS.1) rfl hl.1 rfl (Nat.le_of_ble_eq_true rfl) dM_scaled_61 ⟨(Nat.le_of_ble_eq_true rfl), (Nat.le_of_ble_eq_true rfl)⟩ (fun u_14 H locs w_15 hz hP hD hS => ?_)
      subst w_15
      refine lv_iload_n hx hb dM_scaled_64 rfl (lv_at hl 3 rfl) ?_
      refine lv_if_ne (tgt := 79) hx hb dM_scaled_65 (by decide) (fun c_16 => ?_) (fun c_16 => ?_)
      · refine lv_iload_n hx hb dM_scaled_79 rfl (lv_at hl 3 rfl) ?_
        refine lv_iconst (v := 1) hx hb dM_scaled_80 (by decide) ?_
        refine lv_icmp_ne (tgt := 91) hx hb dM_scaled_81 (by decide) (fun c_17 => ?_) (fun c_17 => ?_)
        · refine lv_aload_n hx hb dM_scaled_91 rfl (lv_at hl 1 rfl) ?_
          refine va_get (D := D) (ci := 4) (C := RM) (T := TM) (N := 21) hx hb hT inM hown hK hP (0) (mw_O) rfl 20 (by decide) (hT _ wm_519) (fun _ h9 => h9) rfl dM_scaled_92 ?_
          refine W.eq (g2 := F0 m 95 ls [.int (nI (lsU (h 1 k * fa % fb) fb))]) (by rw [gle_u]) ?_
          exact W.iret (v := nI (lsU (h 1 k * fa % fb) fb)) hx hb hr (fun t ht hW => ⟨⟨_, (gle (u2 g 0 0 0) (lsO (h 1 k * fa % fb) fb) (lsU (h 1 k * fa % fb) fb)), rfl, Or.inr (Or.inr (Or.inr ⟨(not_or.mpr ⟨f_3, (ib_nb (n := 3) (by decide) (by decide) f_7)⟩), (fun h9 : False => h9), (fun h9 : False => h9), k, fa, fb, hk, rfl, fa1, fb1, fb2, hfa, hfb, rfl, by simp [c_16, c_17]⟩)), gpost_at hP hK hD ht hW.alike⟩, hS.F ht⟩) hS.2.2 dM_scaled_95
        · refine lv_aload_n hx hb dM_scaled_84 rfl (lv_at hl 1 rfl) ?_
          refine va_get (D := D) (ci := 4) (C := RM) (T := TM) (N := 21) hx hb hT inM hown hK hP (0) (mw_O) rfl 19 (by decide) (hT _ wm_518) (fun _ h9 => h9) rfl dM_scaled_85 ?_
          refine W.eq (g2 := F0 m 88 ls [.int (nI (lsO (h 1 k * fa % fb) fb))]) (by rw [gle_o]) ?_
          refine lv_goto (tgt := 95) hx hb dM_scaled_88 (by decide) ?_
          exact W.iret (v := nI (lsO (h 1 k * fa % fb) fb)) hx hb hr (fun t ht hW => ⟨⟨_, (gle (u2 g 0 0 0) (lsO (h 1 k * fa % fb) fb) (lsU (h 1 k * fa % fb) fb)), rfl, Or.inr (Or.inr (Or.inr ⟨(not_or.mpr ⟨f_3, (ib_nb (n := 3) (by decide) (by decide) f_7)⟩), (fun h9 : False => h9), (fun h9 : False => h9), k, fa, fb, hk, rfl, fa1, fb1, fb2, hfa, hfb, rfl, by simp [c_16, c_17]⟩)), gpost_at hP hK hD ht hW.alike⟩, hS.F ht⟩) hS.2.2 dM_scaled_95
      · refine lv_iload_n hx hb dM_scaled_68 rfl (lv_at hl 0 rfl) ?_
        refine lv_aload_n hx hb dM_scaled_69 rfl (lv_at hl 1 rfl) ?_
        refine va_get (D := D) (ci := 4) (C := RM) (T := TM) (N := 21) hx hb hT inM hown hK hP (0) (mw_O) rfl 16 (by decide) (hT _ wm_515) (fun _ h9 => h9) rfl dM_scaled_70 ?_
        refine lv_iload_n hx hb dM_scaled_73 rfl (lv_at hl 2 rfl) ?_
        refine va_iald (D := D) hx hb hK hP (15) 0 (mw_a15) rfl (vp_in_nI (by omega) (by decide)) dM_scaled_74 ?_
        rw [nI_clamp (n := k) (by omega)]
        refine W.eq (g2 := F0 m 75 ls [.int (nI fb), .int (nI (h 1 k * fa))]) (by rw [show (gle (u2 g 0 0 0) (lsO (h 1 k * fa % fb) fb) (lsU (h 1 k * fa % fb) fb)) (15) k = nI fb from hfb]) ?_
        refine lv_idiv hx hb dM_scaled_75 (nI_ne0 (by omega) (by omega)) ?_
        refine W.eq (g2 := F0 m 76 ls [.int (nI (h 1 k * fa / fb))]) (by rw [pk_div (by omega) (by omega) (by omega)]) ?_
        refine lv_goto (tgt := 95) hx hb dM_scaled_76 (by decide) ?_
        exact W.iret (v := nI (h 1 k * fa / fb)) hx hb hr (fun t ht hW => ⟨⟨_, (gle (u2 g 0 0 0) (lsO (h 1 k * fa % fb) fb) (lsU (h 1 k * fa % fb) fb)), rfl, Or.inr (Or.inr (Or.inr ⟨(not_or.mpr ⟨f_3, (ib_nb (n := 3) (by decide) (by decide) f_7)⟩), (fun h9 : False => h9), (fun h9 : False => h9), k, fa, fb, hk, rfl, fa1, fb1, fb2, hfa, hfb, rfl, by simp [c_16]⟩)), gpost_at hP hK hD ht hW.alike⟩, hS.F ht⟩) hS.2.2 dM_scaled_95
    · refine lv_if_ne (tgt := 21) hx hb dM_scaled_14 (by decide) (fun c_18 => absurd rfl c_18) (fun c_18 => ?_)
      refine lv_iconst (v := 1) hx hb dM_scaled_17 (by decide) ?_
      refine lv_goto (tgt := 22) hx hb dM_scaled_18 (by decide) ?_
      refine lv_iconst (v := 0) hx hb dM_scaled_22 (by decide) ?_
      refine lv_iconst (v := 0) hx hb dM_scaled_23 (by decide) ?_
      refine kVi (n := 3) (D := D) (wd := fun z => mw CA z ad) (A1 := fun sz => mA ad sz) (As := [.int 1, .int 0, .int 0]) (rest := []) ⟨hx, hb, hml, hown, hT⟩ (kM_throwing l D CA g ad H.size 1 0 0) (gi_V wm_577 wm_579 wp_8 wm_4 wm_580) rfl rfl (by decide +kernel) ⟨(Nat.le_of_ble_eq_true rfl), (Nat.le_of_ble_eq_true rfl)⟩ (va_recv hK hP (ci := 4) (q0 := 0) rfl mw_O) hK hP hD hS (fun _ h9 => h9) (nA_mono hS.1) rfl hl.1 rfl (Nat.le_of_ble_eq_true rfl) dM_scaled_24 ⟨(Nat.le_of_ble_eq_true rfl), (Nat.le_of_ble_eq_true rfl)⟩ (fun r_19 u_20 H locs w_21 hz hP hD hS => ?_)
      obtain ⟨rfl, rfl⟩ := th_100 w_21
      refine lv_if_eq (tgt := 32) hx hb dM_scaled_27 (by decide) (fun c_22 => absurd c_22 (by decide)) (fun c_22 => ?_)
      refine lv_iconst (v := 0) hx hb dM_scaled_30 (by decide) ?_
      exact W.iret (v := 0) hx hb hr (fun t ht hW => ⟨⟨_, (u2 g 0 0 1), rfl, Or.inl ⟨(Or.inr (ib_yb (n := 3) (by decide) (by decide) f_7)), rfl⟩, gpost_at hP hK hD ht hW.alike⟩, hS.F ht⟩) hS.2.2 dM_scaled_31
  · refine lv_if_eq (tgt := 17) hx hb dM_scaled_5 (by decide) (fun c_23 => ?_) (fun c_23 => absurd (by decide) c_23)
    refine lv_iconst (v := 1) hx hb dM_scaled_17 (by decide) ?_
    refine lv_goto (tgt := 22) hx hb dM_scaled_18 (by decide) ?_
    refine lv_iconst (v := 0) hx hb dM_scaled_22 (by decide) ?_
    refine lv_iconst (v := 0) hx hb dM_scaled_23 (by decide) ?_
    refine kVi (n := 3) (D := D) (wd := fun z => mw CA z ad) (A1 := fun sz => mA ad sz) (As := [.int 1, .int 0, .int 0]) (rest := []) ⟨hx, hb, hml, hown, hT⟩ (kM_throwing l D CA g ad H.size 1 0 0) (gi_V wm_577 wm_579 wp_8 wm_4 wm_580) rfl rfl (by decide +kernel) ⟨(Nat.le_of_ble_eq_true rfl), (Nat.le_of_ble_eq_true rfl)⟩ (va_recv hK hP (ci := 4) (q0 := 0) rfl mw_O) hK hP hD hS (fun _ h9 => h9) (nA_mono hS.1) rfl hl.1 rfl (Nat.le_of_ble_eq_true rfl) dM_scaled_24 ⟨(Nat.le_of_ble_eq_true rfl), (Nat.le_of_ble_eq_true rfl)⟩ (fun r_24 u_25 H locs w_26 hz hP hD hS => ?_)
    obtain ⟨rfl, rfl⟩ := th_100 w_26
    refine lv_if_eq (tgt := 32) hx hb dM_scaled_27 (by decide) (fun c_27 => absurd c_27 (by decide)) (fun c_27 => ?_)
    refine lv_iconst (v := 0) hx hb dM_scaled_30 (by decide) ?_
    exact W.iret (v := 0) hx hb hr (fun t ht hW => ⟨⟨_, (u2 g 0 0 1), rfl, Or.inl ⟨(Or.inl f_3), rfl⟩, gpost_at hP hK hD ht hW.alike⟩, hS.F ht⟩) hS.2.2 dM_scaled_31
set_option maxHeartbeats 4000000 in
set_option maxRecDepth 100000 in
theorem loM_diverse {p : Program} {l : Launch} {e : Env} {s : State} {m : MethodId} {args : Array Value} {below : List Frame} {meth : Method} {c : Code} {Q : State → Prop} {D : va_G} {CA : Nat → ClassId} {ad : Nat → Nat} {R : Room} {g : Nat → Nat → Int32} {h : Nat → Nat → Nat} {jp : Nat → Nat} (hm : MI g h jp) {pt : Int32} (hx : p.tables.exec = Jvm.exec) (hb : c.code = cM_diverse) (hml : c.maxLocals = 5) (hown : s.vm.findClass "CountLeastModel" = some m.cls) (hT : ∀ w ∈ TB, w.before args s = true) (hK : va_K D vwCl (cty CA) s) (kx : ∀ (H : Heap) (locs : List Loc), va_P D vwCl (mw CA (g) ad) H → va_D (mA ad s.heap.size) (mw CA (g) ad) → va_S (mA ad s.heap.size) s.heap H locs → ∀ ls, lv_has ls 5 [(4, .int (nI (6))), (3, .int (nI (aln h (6)))), (1, .int pt), (2, .int (nI (h 0 0 * (h 0 0 - 1)))), (0, .ref (ad 0))] → W p l e R s m args below meth c H locs 0 0 Q (F0 m 75 ls [])) :
    ∀ (n i : Nat), i + n = 6 → ∀ (H : Heap) (locs : List Loc), va_P D vwCl (mw CA (g) ad) H → va_D (mA ad s.heap.size) (mw CA (g) ad) → va_S (mA ad s.heap.size) s.heap H locs → ∀ ls, lv_has ls 5 [(4, .int (nI i)), (3, .int (nI (aln h i))), (1, .int pt), (2, .int (nI (h 0 0 * (h 0 0 - 1)))), (0, .ref (ad 0))] → W p l e R s m args below meth c H locs 0 0 Q (F0 m 42 ls []) := by
  intro n
  induction n with
  | zero =>
    intro i hi H locs hP hD hS ls hl
    have hi : i = 6 := by omega
    refine lv_iload hx hb dM_diverse_42 (lv_at hl 0 rfl) ?_
    refine lv_bipush (v := 6) hx hb dM_diverse_44 (by decide) ?_
    refine lv_icmp_ge (tgt := 75) hx hb dM_diverse_46 (by decide) (fun c_1 => ?_) (fun c_1 => absurd (nI_le (a := 6) (by omega) (by omega)) c_1)
    rw [hi] at hl
    exact kx H locs hP hD hS ls (lv_sub hl [0, 1, 2, 3, 4] rfl)
  | succ n ih =>
    intro i hi H locs hP hD hS ls hl
    have h12 := hm.c12 (k := i) (by omega)
    refine lv_iload hx hb dM_diverse_42 (lv_at hl 0 rfl) ?_
    refine lv_bipush (v := 6) hx hb dM_diverse_44 (by decide) ?_
    refine lv_icmp_ge (tgt := 75) hx hb dM_diverse_46 (by decide) (fun c_1 => absurd c_1 (nI_ge (b := 6) (by omega) (by omega))) (fun c_1 => ?_)
    refine lv_iload_n hx hb dM_diverse_49 rfl (lv_at hl 1 rfl) ?_
    refine lv_aload_n hx hb dM_diverse_50 rfl (lv_at hl 4 rfl) ?_
    refine va_get (D := D) (ci := 4) (C := RM) (T := TM) (N := 21) hx hb hT inM hown hK hP (0) (mw_O) rfl 9 (by decide) (hT _ wm_508) (fun _ h9 => h9) rfl dM_diverse_51 ?_
    refine lv_iload hx hb dM_diverse_54 (lv_at hl 0 rfl) ?_
    refine va_iald (D := D) hx hb hK hP (8) 0 (mw_a8) rfl (vp_in_nI (by omega) (by decide)) dM_diverse_56 ?_
    rw [nI_clamp (n := i) (by omega)]
    refine W.eq (g2 := F0 m 57 ls [.int (nI (h 1 i)), .int (nI (aln h i))]) (by rw [hm.cnt (k := i) (by omega)]) ?_
    refine lv_aload_n hx hb dM_diverse_57 rfl (lv_at hl 4 rfl) ?_
    refine va_get (D := D) (ci := 4) (C := RM) (T := TM) (N := 21) hx hb hT inM hown hK hP (0) (mw_O) rfl 9 (by decide) (hT _ wm_508) (fun _ h9 => h9) rfl dM_diverse_58 ?_
    refine lv_iload hx hb dM_diverse_61 (lv_at hl 0 rfl) ?_
    refine va_iald (D := D) hx hb hK hP (8) 0 (mw_a8) rfl (vp_in_nI (by omega) (by decide)) dM_diverse_63 ?_
    rw [nI_clamp (n := i) (by omega)]
    refine W.eq (g2 := F0 m 64 ls [.int (nI (h 1 i)), .int (nI (h 1 i)), .int (nI (aln h i))]) (by rw [hm.cnt (k := i) (by omega)]) ?_
    refine lv_iconst (v := 1) hx hb dM_diverse_64 (by decide) ?_
    refine lv_isub hx hb dM_diverse_65 ?_
    refine lv_imul hx hb dM_diverse_66 ?_
    refine W.eq (g2 := F0 m 67 ls [.int (nI (h 1 i * (h 1 i - 1))), .int (nI (aln h i))]) (by rw [opr (h 1 i) (by omega)]) ?_
    refine lv_iadd hx hb dM_diverse_67 ?_
    refine W.eq (g2 := F0 m 68 ls [.int (nI (aln h i + (h 1 i * (h 1 i - 1))))]) (by rw [nI_add]) ?_
    refine lv_istore_n (lv' := [(3, .int (nI (aln h i + (h 1 i * (h 1 i - 1))))), (4, .int (nI i)), (1, .int pt), (2, .int (nI (h 0 0 * (h 0 0 - 1)))), (0, .ref (ad 0))]) hx hb dM_diverse_68 rfl hl (by decide) rfl (fun ls hl => ?_)
    refine lv_iinc (v := nI (i + 1)) (lv' := [(4, .int (nI (i + 1))), (3, .int (nI (aln h i + (h 1 i * (h 1 i - 1))))), (1, .int pt), (2, .int (nI (h 0 0 * (h 0 0 - 1)))), (0, .ref (ad 0))]) hx hb dM_diverse_69 hl (k := 1) rfl (nI_1 _) (by decide) rfl (fun ls hl => ?_)
    refine lv_goto (tgt := 42) hx hb dM_diverse_72 (by decide) ?_
    exact ih (i + 1) (by omega) H locs hP hD hS ls (lv_sub hl [0, 1, 2, 3, 4] rfl)
set_option maxHeartbeats 4000000 in
set_option maxRecDepth 100000 in
theorem kM_diverse (l : Launch) (D : va_G) (CA : Nat → ClassId) (g : Nat → Nat → Int32) (ad : Nat → Nat) (sz : Nat) (h : Nat → Nat → Nat) (jp : Nat → Nat) (hm : MI g h jp) (pt : Int32) (hal : aln h 6 ≤ h 0 0 * (h 0 0 - 1)) : Met l yM_diverse wM_diverse (rm 2 0 0) (va_Pc [.ref (ad 0), .int pt] (gpre D (cty CA) (mw CA g ad) sz)) (va_Qi (fun r (u : Nat → Nat → Int32) => t4 (ib pt 2) False False g u (u = gle (u2 g 0 0 0) (lsO ((h 0 0 * (h 0 0 - 1)) - aln h 6) (h 0 0 * (h 0 0 - 1))) (lsU ((h 0 0 * (h 0 0 - 1)) - aln h 6) (h 0 0 * (h 0 0 - 1))) ∧ r = if pt = 0 then nI (lsO ((h 0 0 * (h 0 0 - 1)) - aln h 6) (h 0 0 * (h 0 0 - 1))) else nI (lsU ((h 0 0 * (h 0 0 - 1)) - aln h 6) (h 0 0 * (h 0 0 - 1))))) (fun u t => gpost D (cty CA) (mw CA u ad) (mA ad sz) t) (mA ad sz)) 0 0 (mA ad sz) := by
  refine Met.ofW (cc := cM_diverse) (maxL := 5) (ret := (some .int)) (by decide) rfl ?_
  intro p e s m args below meth c s₁ B hml hv
  obtain ⟨rfl, hsz, hP, hK, hD0⟩ := hv
  have hx := B.exec
  have hb := B.bytes
  have hr := B.returns
  have hT : ∀ w ∈ TB, w.before _ s = true := fun w hw => atoms_spec (ws := wM_diverse) B.pre w (List.mem_cons_of_mem _ hw)
  have hown : s.vm.findClass "CountLeastModel" = some m.cls := findClass_of_methodNamed B.named
  have hlocks := B.notSynchronized
  subst hsz
  have hD := nA_self (sz := s.heap.size) hD0
  have hS : va_S (mA ad s.heap.size) s.heap s.heap [] := va_S.rf
  have hP : va_P D vwCl (mw CA g ad) s.heap := hP
  have hl := lv_entry ([.ref (ad 0), .int pt]) (n := 5) (Nat.le_of_ble_eq_true rfl)
  rw [lg_entry_eq]
  generalize (lg_sl ([.ref (ad 0), .int pt]) ++ List.replicate (5 - (lg_sl ([.ref (ad 0), .int pt])).length) Slot.unset).toArray = ls at hl ⊢
  have hl : lv_has ls 5 [(0, .ref (ad 0)), (1, .int pt)] := hl
  refine lv_aload_n hx hb dM_diverse_0 rfl (lv_at hl 0 rfl) ?_
  refine lv_iload_n hx hb dM_diverse_1 rfl (lv_at hl 1 rfl) ?_
  refine lv_iconst (v := 0) hx hb dM_diverse_2 (by decide) ?_
  refine lv_iconst (v := 1) hx hb dM_diverse_3 (by decide) ?_
  refine kSi (n := 3) (D := D) (As := [.int pt, .int 0, .int 1]) (rest := [.ref (ad 0)]) ⟨hx, hb, hml, hown, hT⟩ (kM_in l pt 0 1) (gi_S wm_574 wm_575 wm_4 wm_576) rfl rfl (by decide +kernel) ⟨(Nat.le_of_ble_eq_true rfl), (Nat.le_of_ble_eq_true rfl)⟩ hP hS rfl hl.1 rfl (Nat.le_of_ble_eq_true rfl) dM_diverse_4 ⟨(Nat.le_of_ble_eq_true rfl), (Nat.le_of_ble_eq_true rfl)⟩ (fun r_1 H locs e_2 hz hP hS => ?_)
  rcases e_2 with ⟨rfl, f_3⟩ | ⟨rfl, f_3⟩
  · refine lv_if_ne (tgt := 14) hx hb dM_diverse_7 (by decide) (fun c_4 => ?_) (fun c_4 => absurd c_4 (by decide))
    refine lv_iconst (v := 0) hx hb dM_diverse_14 (by decide) ?_
    refine lv_iconst (v := 0) hx hb dM_diverse_15 (by decide) ?_
    refine lv_iconst (v := 0) hx hb dM_diverse_16 (by decide) ?_
    refine kVi (n := 3) (D := D) (wd := fun z => mw CA z ad) (A1 := fun sz => mA ad sz) (As := [.int 0, .int 0, .int 0]) (rest := []) ⟨hx, hb, hml, hown, hT⟩ (kM_throwing l D CA g ad H.size 0 0 0) (gi_V wm_577 wm_579 wp_8 wm_4 wm_580) rfl rfl (by decide +kernel) ⟨(Nat.le_of_ble_eq_true rfl), (Nat.le_of_ble_eq_true rfl)⟩ (va_recv hK hP (ci := 4) (q0 := 0) rfl mw_O) hK hP hD hS (fun _ h9 => h9) (nA_mono hS.1) rfl hl.1 rfl (Nat.le_of_ble_eq_true rfl) dM_diverse_17 ⟨(Nat.le_of_ble_eq_true rfl), (Nat.le_of_ble_eq_true rfl)⟩ (fun r_5 u_6 H locs w_7 hz hP hD hS => ?_)
    obtain ⟨rfl, rfl⟩ := th_000 w_7
    have hm0 := (hm).t (v := 0)
    have h72 := hm.le
    have hpp : h 0 0 * (h 0 0 - 1) ≤ 72 * 71 := Nat.mul_le_mul h72 (by omega)
    refine lv_if_eq (tgt := 25) hx hb dM_diverse_20 (by decide) (fun c_8 => ?_) (fun c_8 => absurd (by decide) c_8)
    refine lv_aload_n hx hb dM_diverse_25 rfl (lv_at hl 0 rfl) ?_
    refine va_get (D := D) (ci := 4) (C := RM) (T := TM) (N := 21) hx hb hT inM hown hK hP (0) (mw_O) rfl 1 (by decide) (hT _ wm_500) (fun _ h9 => h9) rfl dM_diverse_26 ?_
    refine W.eq (g2 := F0 m 29 ls [.int (nI (h 0 0))]) (by rw [hm0.many]) ?_
    refine lv_aload_n hx hb dM_diverse_29 rfl (lv_at hl 0 rfl) ?_
    refine va_get (D := D) (ci := 4) (C := RM) (T := TM) (N := 21) hx hb hT inM hown hK hP (0) (mw_O) rfl 1 (by decide) (hT _ wm_500) (fun _ h9 => h9) rfl dM_diverse_30 ?_
    refine W.eq (g2 := F0 m 33 ls [.int (nI (h 0 0)), .int (nI (h 0 0))]) (by rw [hm0.many]) ?_
    refine lv_iconst (v := 1) hx hb dM_diverse_33 (by decide) ?_
    refine lv_isub hx hb dM_diverse_34 ?_
    refine lv_imul hx hb dM_diverse_35 ?_
    refine W.eq (g2 := F0 m 36 ls [.int (nI (h 0 0 * (h 0 0 - 1)))]) (by rw [opr (h 0 0) (by omega)]) ?_
    refine lv_istore_n (lv' := [(2, .int (nI (h 0 0 * (h 0 0 - 1)))), (0, .ref (ad 0)), (1, .int pt)]) hx hb dM_diverse_36 rfl hl (by decide) rfl (fun ls hl => ?_)
    refine lv_iconst (v := 0) hx hb dM_diverse_37 (by decide) ?_
    refine lv_istore_n (lv' := [(3, .int 0), (2, .int (nI (h 0 0 * (h 0 0 - 1)))), (0, .ref (ad 0)), (1, .int pt)]) hx hb dM_diverse_38 rfl hl (by decide) rfl (fun ls hl => ?_)
    refine lv_iconst (v := 0) hx hb dM_diverse_39 (by decide) ?_
    refine lv_istore (lv' := [(4, .int 0), (3, .int 0), (2, .int (nI (h 0 0 * (h 0 0 - 1)))), (0, .ref (ad 0)), (1, .int pt)]) hx hb dM_diverse_40 hl (by decide) rfl (fun ls hl => ?_)
    refine loM_diverse hm0 hx hb hml hown hT hK (fun H locs hP hD hS ls hl => ?_) 6 0 (by omega) _ _ hP hD hS ls (lv_sub hl [0, 1, 4, 2, 3] rfl)
    refine lv_aload_n hx hb dM_diverse_75 rfl (lv_at hl 4 rfl) ?_
    refine lv_iload_n hx hb dM_diverse_76 rfl (lv_at hl 3 rfl) ?_
    refine lv_iload_n hx hb dM_diverse_77 rfl (lv_at hl 1 rfl) ?_
    refine lv_isub hx hb dM_diverse_78 ?_
    refine W.eq (g2 := F0 m 79 ls [.int (nI ((h 0 0 * (h 0 0 - 1)) - aln h 6)), .ref (ad 0)]) (by rw [pk_sub hal]) ?_
    refine lv_iload_n hx hb dM_diverse_79 rfl (lv_at hl 3 rfl) ?_
    refine kVv (n := 2) (D := D) (wd := fun z => mw CA z ad) (A1 := fun sz => mA ad sz) (As := [.int (nI ((h 0 0 * (h 0 0 - 1)) - aln h 6)), .int (nI (h 0 0 * (h 0 0 - 1)))]) (rest := []) ⟨hx, hb, hml, hown, hT⟩ (kM_lessen l D CA (u2 g 0 0 0) ad H.size ((h 0 0 * (h 0 0 - 1)) - aln h 6) (h 0 0 * (h 0 0 - 1)) (by omega) (by omega)) (gi_V wm_669 wm_671 wp_17 wm_4 wm_672) rfl rfl (by decide +kernel) ⟨(Nat.le_of_ble_eq_true rfl), (Nat.le_of_ble_eq_true rfl)⟩ (va_recv hK hP (ci := 4) (q0 := 0) rfl mw_O) hK hP hD hS (fun _ h9 => h9) (nA_mono hS.1) rfl hl.1 rfl (Nat.le_of_ble_eq_true rfl) dM_diverse_80 ⟨(Nat.le_of_ble_eq_true rfl), (Nat.le_of_ble_eq_true rfl)⟩ (fun u_10 H locs w_11 hz hP hD hS => ?_)
    subst w_11
    refine lv_iload_n hx hb dM_diverse_83 rfl (lv_at hl 2 rfl) ?_
    refine lv_if_ne (tgt := 94) hx hb dM_diverse_84 (by decide) (fun c_12 => ?_) (fun c_12 => ?_)
    · refine lv_aload_n hx hb dM_diverse_94 rfl (lv_at hl 4 rfl) ?_
      refine va_get (D := D) (ci := 4) (C := RM) (T := TM) (N := 21) hx hb hT inM hown hK hP (0) (mw_O) rfl 20 (by decide) (hT _ wm_519) (fun _ h9 => h9) rfl dM_diverse_95 ?_
      refine W.eq (g2 := F0 m 98 ls [.int (nI (lsU ((h 0 0 * (h 0 0 - 1)) - aln h 6) (h 0 0 * (h 0 0 - 1))))]) (by rw [gle_u]) ?_
      exact W.iret (v := nI (lsU ((h 0 0 * (h 0 0 - 1)) - aln h 6) (h 0 0 * (h 0 0 - 1)))) hx hb hr (fun t ht hW => ⟨⟨_, (gle (u2 g 0 0 0) (lsO ((h 0 0 * (h 0 0 - 1)) - aln h 6) (h 0 0 * (h 0 0 - 1))) (lsU ((h 0 0 * (h 0 0 - 1)) - aln h 6) (h 0 0 * (h 0 0 - 1)))), rfl, Or.inr (Or.inr (Or.inr ⟨(ib_nb (n := 2) (by decide) (by decide) f_3), (fun h9 : False => h9), (fun h9 : False => h9), rfl, by simp [c_12]⟩)), gpost_at hP hK hD ht hW.alike⟩, hS.F ht⟩) hS.2.2 dM_diverse_98
    · refine lv_aload_n hx hb dM_diverse_87 rfl (lv_at hl 4 rfl) ?_
      refine va_get (D := D) (ci := 4) (C := RM) (T := TM) (N := 21) hx hb hT inM hown hK hP (0) (mw_O) rfl 19 (by decide) (hT _ wm_518) (fun _ h9 => h9) rfl dM_diverse_88 ?_
      refine W.eq (g2 := F0 m 91 ls [.int (nI (lsO ((h 0 0 * (h 0 0 - 1)) - aln h 6) (h 0 0 * (h 0 0 - 1))))]) (by rw [gle_o]) ?_
      refine lv_goto (tgt := 98) hx hb dM_diverse_91 (by decide) ?_
      exact W.iret (v := nI (lsO ((h 0 0 * (h 0 0 - 1)) - aln h 6) (h 0 0 * (h 0 0 - 1)))) hx hb hr (fun t ht hW => ⟨⟨_, (gle (u2 g 0 0 0) (lsO ((h 0 0 * (h 0 0 - 1)) - aln h 6) (h 0 0 * (h 0 0 - 1))) (lsU ((h 0 0 * (h 0 0 - 1)) - aln h 6) (h 0 0 * (h 0 0 - 1)))), rfl, Or.inr (Or.inr (Or.inr ⟨(ib_nb (n := 2) (by decide) (by decide) f_3), (fun h9 : False => h9), (fun h9 : False => h9), rfl, by simp [c_12]⟩)), gpost_at hP hK hD ht hW.alike⟩, hS.F ht⟩) hS.2.2 dM_diverse_98
  · refine lv_if_ne (tgt := 14) hx hb dM_diverse_7 (by decide) (fun c_13 => absurd rfl c_13) (fun c_13 => ?_)
    refine lv_iconst (v := 1) hx hb dM_diverse_10 (by decide) ?_
    refine lv_goto (tgt := 15) hx hb dM_diverse_11 (by decide) ?_
    refine lv_iconst (v := 0) hx hb dM_diverse_15 (by decide) ?_
    refine lv_iconst (v := 0) hx hb dM_diverse_16 (by decide) ?_
    refine kVi (n := 3) (D := D) (wd := fun z => mw CA z ad) (A1 := fun sz => mA ad sz) (As := [.int 1, .int 0, .int 0]) (rest := []) ⟨hx, hb, hml, hown, hT⟩ (kM_throwing l D CA g ad H.size 1 0 0) (gi_V wm_577 wm_579 wp_8 wm_4 wm_580) rfl rfl (by decide +kernel) ⟨(Nat.le_of_ble_eq_true rfl), (Nat.le_of_ble_eq_true rfl)⟩ (va_recv hK hP (ci := 4) (q0 := 0) rfl mw_O) hK hP hD hS (fun _ h9 => h9) (nA_mono hS.1) rfl hl.1 rfl (Nat.le_of_ble_eq_true rfl) dM_diverse_17 ⟨(Nat.le_of_ble_eq_true rfl), (Nat.le_of_ble_eq_true rfl)⟩ (fun r_14 u_15 H locs w_16 hz hP hD hS => ?_)
    obtain ⟨rfl, rfl⟩ := th_100 w_16
    refine lv_if_eq (tgt := 25) hx hb dM_diverse_20 (by decide) (fun c_17 => absurd c_17 (by decide)) (fun c_17 => ?_)
    refine lv_iconst (v := 0) hx hb dM_diverse_23 (by decide) ?_
    exact W.iret (v := 0) hx hb hr (fun t ht hW => ⟨⟨_, (u2 g 0 0 1), rfl, Or.inl ⟨(ib_yb (n := 2) (by decide) (by decide) f_3), rfl⟩, gpost_at hP hK hD ht hW.alike⟩, hS.F ht⟩) hS.2.2 dM_diverse_24
