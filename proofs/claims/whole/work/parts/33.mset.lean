/-! truth values as numbers; what fits; sets of which each two clash -/
def bI (b : Bool) : Int32 := if b = true then 1 else 0
theorem bI_0 {b : Bool} : bI b = 0 ↔ b = false := by cases b <;> simp [bI]
theorem bI_t {b : Bool} (h : ¬ bI b = 0) : b = true := by cases b <;> simp [bI] at h ⊢
theorem bI_f {b : Bool} (h : bI b = 0) : b = false := bI_0.mp h
theorem if_f {b : Bool} {r : Int32} (e : r = if b = true then 1 else 0) (h : r = 0) : b = false := (if01 e).mp h
def fM (g : Nat → Nat → Int32) (cm : Nat → Nat → Bool) (i : Nat) (x : Int32) : Nat → Bool
  | 0 => true
  | j + 1 => fM g cm i x j && (!(g 16 j == x) || !cm j i)
def icI (cm : Nat → Nat → Bool) (m i : Nat) (b : Bool) : Nat → Bool
  | 0 => b
  | j + 1 => icI cm m i b j && (!m.testBit i || !m.testBit j || cm i j)
def icO (cm : Nat → Nat → Bool) (m : Nat) : Nat → Bool
  | 0 => true
  | i + 1 => icI cm m i (icO cm m i) i
def psz (m : Nat) : Nat → Nat
  | 0 => 0
  | i + 1 => psz m i + m / 2 ^ i % 2
set_option maxRecDepth 100000 in
theorem psz_pop : ∀ m : Fin 4096, psz m.val 12 = pop m.val := by decide +kernel
theorem shb2 (m i : Nat) (hm : m < 4096) (hi : i < 12) : (nI m >>> (nI i &&& 31)) &&& 1 = nI (m / 2 ^ i % 2) := by
  have e1 : nI m >>> (nI i &&& 31) = nI (m / 2 ^ i) := pk_shrN (by omega) (nI i &&& 31) i (by
    have : ∀ i : Fin 12, ((nI i.val &&& 31).toBitVec.smod 32).toNat = i.val := by decide +kernel
    exact this ⟨i, hi⟩)
  have hlt : m / 2 ^ i < 2 ^ 32 := Nat.lt_of_le_of_lt (Nat.div_le_self _ _) (by omega)
  rw [e1, pk_andN hlt 1 (by decide)]
def ahM (a b : Nat) : Bool := decide (¬ (nI a &&& nI (a ^^^ b)) &&& -nI (a ^^^ b) = 0)
/-- the model's greatest set, among the sets below a number -/
def bM (cm : Nat → Nat → Bool) (n : Nat) : Nat → Nat
  | 0 => 0
  | t + 1 => if ((decide (pop (bM cm n t) < pop t) || (decide (pop t = pop (bM cm n t)) && ahM t (bM cm n t))) && icO cm t n) = true then t else bM cm n t
theorem bM_le (cm : Nat → Nat → Bool) (n t : Nat) : bM cm n t ≤ t := by
  induction t with
  | zero => exact Nat.le_refl _
  | succ t ih =>
    unfold bM
    split <;> omega
theorem bM_s (cm : Nat → Nat → Bool) (n t : Nat) : bM cm n (t + 1) = if ((decide (pop (bM cm n t) < pop t) || (decide (pop t = pop (bM cm n t)) && ahM t (bM cm n t))) && icO cm t n) = true then t else bM cm n t := rfl
set_option maxHeartbeats 4000000 in
set_option maxRecDepth 100000 in
theorem loM_fits {p : Program} {l : Launch} {e : Env} {s : State} {m : MethodId} {args : Array Value} {below : List Frame} {meth : Method} {c : Code} {Q : State → Prop} {D : va_G} {CA : Nat → ClassId} {ad : Nat → Nat} {g : Nat → Nat → Int32} {h : Nat → Nat → Nat} {jp : Nat → Nat} (hm : MI g h jp) {k i : Nat} {x : Int32} (hk : k < 6) (hi9 : i < h 1 k) (hx : p.tables.exec = Jvm.exec) (hb : c.code = cM_fits) (hml : c.maxLocals = 6) (hown : s.vm.findClass "CountLeastModel" = some m.cls) (hT : ∀ w ∈ TB, w.before args s = true) (hK : va_K D vwCl (cty CA) s) (kx : ∀ (H : Heap) (locs : List Loc), va_P D vwCl (mw CA (g) ad) H → va_D (mA ad s.heap.size) (mw CA (g) ad) → va_S (mA ad s.heap.size) s.heap H locs → ∀ ls, lv_has ls 6 [(5, .int (nI (i))), (4, .int (bI (fM g (cM g h jp k) i x (i)))), (1, .int (nI k)), (2, .int (nI i)), (3, .int x), (0, .ref (ad 0))] → W p l e (rm 2 0 0) s m args below meth c H locs 0 0 Q (F0 m 52 ls [])) :
    ∀ (n j : Nat), j + n = i → ∀ (H : Heap) (locs : List Loc), va_P D vwCl (mw CA (g) ad) H → va_D (mA ad s.heap.size) (mw CA (g) ad) → va_S (mA ad s.heap.size) s.heap H locs → ∀ ls, lv_has ls 6 [(5, .int (nI j)), (4, .int (bI (fM g (cM g h jp k) i x j))), (1, .int (nI k)), (2, .int (nI i)), (3, .int x), (0, .ref (ad 0))] → W p l e (rm 2 0 0) s m args below meth c H locs 0 0 Q (F0 m 6 ls []) := by
  intro n
  induction n with
  | zero =>
    intro j hi H locs hP hD hS ls hl
    have hi : j = i := by omega
    have h12 := hm.c12 hk
    refine lv_iload hx hb dM_fits_6 (lv_at hl 0 rfl) ?_
    refine lv_iload_n hx hb dM_fits_8 rfl (lv_at hl 3 rfl) ?_
    refine lv_icmp_ge (tgt := 52) hx hb dM_fits_9 (by decide) (fun c_1 => ?_) (fun c_1 => absurd (nI_le (by omega) (by omega)) c_1)
    rw [hi] at hl
    exact kx H locs hP hD hS ls (lv_sub hl [0, 1, 2, 3, 4, 5] rfl)
  | succ n ih =>
    intro j hi H locs hP hD hS ls hl
    have h12 := hm.c12 hk
    refine lv_iload hx hb dM_fits_6 (lv_at hl 0 rfl) ?_
    refine lv_iload_n hx hb dM_fits_8 rfl (lv_at hl 3 rfl) ?_
    refine lv_icmp_ge (tgt := 52) hx hb dM_fits_9 (by decide) (fun c_1 => absurd c_1 (nI_ge (by omega) (by omega))) (fun c_1 => ?_)
    refine lv_iload hx hb dM_fits_12 (lv_at hl 1 rfl) ?_
    refine lv_if_eq (tgt := 43) hx hb dM_fits_14 (by decide) (fun c_2 => ?_) (fun c_2 => ?_)
    · refine lv_iconst (v := 0) hx hb dM_fits_43 (by decide) ?_
      refine lv_istore (lv' := [(4, .int 0), (5, .int (nI j)), (1, .int (nI k)), (2, .int (nI i)), (3, .int x), (0, .ref (ad 0))]) hx hb dM_fits_44 hl (by decide) rfl (fun ls hl => ?_)
      refine lv_iinc (v := nI (j + 1)) (lv' := [(5, .int (nI (j + 1))), (4, .int 0), (1, .int (nI k)), (2, .int (nI i)), (3, .int x), (0, .ref (ad 0))]) hx hb dM_fits_46 hl (k := 1) rfl (nI_1 _) (by decide) rfl (fun ls hl => ?_)
      refine lv_goto (tgt := 6) hx hb dM_fits_49 (by decide) ?_
      have e9 : (0 : Int32) = bI (fM g (cM g h jp k) i x (j + 1)) := by simp [fM, bI, bI_f c_2]
      rw [e9] at hl
      exact ih (j + 1) (by omega) H locs hP hD hS ls (lv_sub hl [0, 1, 2, 3, 4, 5] rfl)
    · refine lv_aload_n hx hb dM_fits_17 rfl (lv_at hl 5 rfl) ?_
      refine va_get (D := D) (ci := 4) (C := RM) (T := TM) (N := 21) hx hb hT inM hown hK hP (0) (mw_O) rfl 17 (by decide) (hT _ wm_516) (fun _ h9 => h9) rfl dM_fits_18 ?_
      refine lv_iload hx hb dM_fits_21 (lv_at hl 0 rfl) ?_
      refine va_iald (D := D) hx hb hK hP (16) 0 (mw_a16) rfl (vp_in_nI (by omega) (by decide)) dM_fits_23 ?_
      rw [nI_clamp (n := j) (by omega)]
      refine lv_iload_n hx hb dM_fits_24 rfl (lv_at hl 4 rfl) ?_
      refine lv_icmp_ne (tgt := 39) hx hb dM_fits_25 (by decide) (fun c_3 => ?_) (fun c_3 => ?_)
      · refine lv_iconst (v := 1) hx hb dM_fits_39 (by decide) ?_
        refine lv_goto (tgt := 44) hx hb dM_fits_40 (by decide) ?_
        refine lv_istore (lv' := [(4, .int 1), (5, .int (nI j)), (1, .int (nI k)), (2, .int (nI i)), (3, .int x), (0, .ref (ad 0))]) hx hb dM_fits_44 hl (by decide) rfl (fun ls hl => ?_)
        refine lv_iinc (v := nI (j + 1)) (lv' := [(5, .int (nI (j + 1))), (4, .int 1), (1, .int (nI k)), (2, .int (nI i)), (3, .int x), (0, .ref (ad 0))]) hx hb dM_fits_46 hl (k := 1) rfl (nI_1 _) (by decide) rfl (fun ls hl => ?_)
        refine lv_goto (tgt := 6) hx hb dM_fits_49 (by decide) ?_
        have e9 : (1 : Int32) = bI (fM g (cM g h jp k) i x (j + 1)) := by simp [fM, bI, bI_t c_2, c_3]
        rw [e9] at hl
        exact ih (j + 1) (by omega) H locs hP hD hS ls (lv_sub hl [0, 1, 2, 3, 4, 5] rfl)
      · refine lv_aload_n hx hb dM_fits_28 rfl (lv_at hl 5 rfl) ?_
        refine lv_iload_n hx hb dM_fits_29 rfl (lv_at hl 2 rfl) ?_
        refine lv_iload hx hb dM_fits_30 (lv_at hl 0 rfl) ?_
        refine lv_iload_n hx hb dM_fits_32 rfl (lv_at hl 3 rfl) ?_
        refine kVi (n := 3) (D := D) (wd := fun z => mw CA z ad) (A1 := fun sz => mA ad sz) (As := [.int (nI k), .int (nI j), .int (nI i)]) (rest := []) ⟨hx, hb, hml, hown, hT⟩ (kM_clashes l D CA g ad H.size h jp hm k j i hk (by omega) hi9) (gi_V wm_633 wm_635 wp_14 wm_4 wm_636) rfl rfl (by decide +kernel) ⟨(Nat.le_of_ble_eq_true rfl), (Nat.le_of_ble_eq_true rfl)⟩ (va_recv hK hP (ci := 4) (q0 := 0) rfl mw_O) hK hP hD hS (fun _ h9 => h9) (nA_mono hS.1) rfl hl.1 rfl (Nat.le_of_ble_eq_true rfl) dM_fits_33 ⟨(Nat.le_of_ble_eq_true rfl), (Nat.le_of_ble_eq_true rfl)⟩ (fun r_4 u_5 H locs w_6 hz hP hD hS => ?_)
        obtain ⟨w_6, hu9⟩ := w_6
        rw [hu9] at hP hD
        refine lv_if_ne (tgt := 43) hx hb dM_fits_36 (by decide) (fun c_7 => ?_) (fun c_7 => ?_)
        · refine lv_iconst (v := 0) hx hb dM_fits_43 (by decide) ?_
          refine lv_istore (lv' := [(4, .int 0), (5, .int (nI j)), (1, .int (nI k)), (2, .int (nI i)), (3, .int x), (0, .ref (ad 0))]) hx hb dM_fits_44 hl (by decide) rfl (fun ls hl => ?_)
          refine lv_iinc (v := nI (j + 1)) (lv' := [(5, .int (nI (j + 1))), (4, .int 0), (1, .int (nI k)), (2, .int (nI i)), (3, .int x), (0, .ref (ad 0))]) hx hb dM_fits_46 hl (k := 1) rfl (nI_1 _) (by decide) rfl (fun ls hl => ?_)
          refine lv_goto (tgt := 6) hx hb dM_fits_49 (by decide) ?_
          have e9 : (0 : Int32) = bI (fM g (cM g h jp k) i x (j + 1)) := by simp [fM, bI, bI_t c_2, c_3, if01t w_6 c_7]
          rw [e9] at hl
          exact ih (j + 1) (by omega) H locs hP hD hS ls (lv_sub hl [0, 1, 2, 3, 4, 5] rfl)
        · refine lv_iconst (v := 1) hx hb dM_fits_39 (by decide) ?_
          refine lv_goto (tgt := 44) hx hb dM_fits_40 (by decide) ?_
          refine lv_istore (lv' := [(4, .int 1), (5, .int (nI j)), (1, .int (nI k)), (2, .int (nI i)), (3, .int x), (0, .ref (ad 0))]) hx hb dM_fits_44 hl (by decide) rfl (fun ls hl => ?_)
          refine lv_iinc (v := nI (j + 1)) (lv' := [(5, .int (nI (j + 1))), (4, .int 1), (1, .int (nI k)), (2, .int (nI i)), (3, .int x), (0, .ref (ad 0))]) hx hb dM_fits_46 hl (k := 1) rfl (nI_1 _) (by decide) rfl (fun ls hl => ?_)
          refine lv_goto (tgt := 6) hx hb dM_fits_49 (by decide) ?_
          have e9 : (1 : Int32) = bI (fM g (cM g h jp k) i x (j + 1)) := by simp [fM, bI, bI_t c_2, c_3, if_f w_6 c_7]
          rw [e9] at hl
          exact ih (j + 1) (by omega) H locs hP hD hS ls (lv_sub hl [0, 1, 2, 3, 4, 5] rfl)
set_option maxHeartbeats 4000000 in
set_option maxRecDepth 100000 in
theorem kM_fits (l : Launch) (D : va_G) (CA : Nat → ClassId) (g : Nat → Nat → Int32) (ad : Nat → Nat) (sz : Nat) (h : Nat → Nat → Nat) (jp : Nat → Nat) (hm : MI g h jp) (k i : Nat) (x : Int32) (hk : k < 6) (hi9 : i < h 1 k) : Met l yM_fits wM_fits (rm 2 0 0) (va_Pc [.ref (ad 0), .int (nI k), .int (nI i), .int x] (gpre D (cty CA) (mw CA g ad) sz)) (va_Qi (fun r (u : Nat → Nat → Int32) => r = bI (fM g (cM g h jp k) i x i) ∧ u = g) (fun u t => gpost D (cty CA) (mw CA u ad) (mA ad sz) t) (mA ad sz)) 0 0 (mA ad sz) := by
  refine Met.ofW (cc := cM_fits) (maxL := 6) (ret := (some .boolean)) (by decide) rfl ?_
  intro p e s m args below meth c s₁ B hml hv
  obtain ⟨rfl, hsz, hP, hK, hD0⟩ := hv
  have hx := B.exec
  have hb := B.bytes
  have hr := B.returns
  have hT : ∀ w ∈ TB, w.before _ s = true := fun w hw => atoms_spec (ws := wM_fits) B.pre w (List.mem_cons_of_mem _ hw)
  have hown : s.vm.findClass "CountLeastModel" = some m.cls := findClass_of_methodNamed B.named
  have hlocks := B.notSynchronized
  subst hsz
  have hD := nA_self (sz := s.heap.size) hD0
  have hS : va_S (mA ad s.heap.size) s.heap s.heap [] := va_S.rf
  have hP : va_P D vwCl (mw CA g ad) s.heap := hP
  have hl := lv_entry ([.ref (ad 0), .int (nI k), .int (nI i), .int x]) (n := 6) (Nat.le_of_ble_eq_true rfl)
  rw [lg_entry_eq]
  generalize (lg_sl ([.ref (ad 0), .int (nI k), .int (nI i), .int x]) ++ List.replicate (6 - (lg_sl ([.ref (ad 0), .int (nI k), .int (nI i), .int x])).length) Slot.unset).toArray = ls at hl ⊢
  have hl : lv_has ls 6 [(0, .ref (ad 0)), (1, .int (nI k)), (2, .int (nI i)), (3, .int x)] := hl
  refine lv_iconst (v := 1) hx hb dM_fits_0 (by decide) ?_
  refine lv_istore (lv' := [(4, .int 1), (0, .ref (ad 0)), (1, .int (nI k)), (2, .int (nI i)), (3, .int x)]) hx hb dM_fits_1 hl (by decide) rfl (fun ls hl => ?_)
  refine lv_iconst (v := 0) hx hb dM_fits_3 (by decide) ?_
  refine lv_istore (lv' := [(5, .int 0), (4, .int 1), (0, .ref (ad 0)), (1, .int (nI k)), (2, .int (nI i)), (3, .int x)]) hx hb dM_fits_4 hl (by decide) rfl (fun ls hl => ?_)
  have hl : lv_has ls 6 [(5, .int (nI 0)), (4, .int (bI (fM g (cM g h jp k) i x 0))), (1, .int (nI k)), (2, .int (nI i)), (3, .int x), (0, .ref (ad 0))] := lv_sub hl [0, 1, 3, 4, 5, 2] rfl
  refine loM_fits hm hk hi9 hx hb hml hown hT hK (fun H locs hP hD hS ls hl => ?_) i 0 (by omega) _ _ hP hD hS ls hl
  refine lv_iload hx hb dM_fits_52 (lv_at hl 1 rfl) ?_
  exact W.zret (v := bI (fM g (cM g h jp k) i x i)) hx hb hr (by unfold bI; split <;> rfl) (fun t ht hW => ⟨⟨_, g, rfl, ⟨rfl, rfl⟩, gpost_at hP hK hD ht hW.alike⟩, hS.F ht⟩) hS.2.2 dM_fits_54
set_option maxHeartbeats 4000000 in
set_option maxRecDepth 100000 in
theorem loM_sizeOf {p : Program} {l : Launch} {e : Env} {s : State} {m : MethodId} {args : Array Value} {below : List Frame} {meth : Method} {c : Code} {Q : State → Prop} {cells slots : Nat} {R : Room} {H : Heap} {locs : List Loc} (hx : p.tables.exec = Jvm.exec) (hb : c.code = cM_sizeOf) (hml : c.maxLocals = 3) (hown : s.vm.findClass "CountLeastModel" = some m.cls) (hT : ∀ w ∈ TB, w.before args s = true) {m0 : Nat} (hm0 : m0 < 4096) (kx : ∀ ls, lv_has ls 3 [(2, .int (nI 12)), (1, .int (nI (psz m0 12))), (0, .int (nI m0))] → W p l e R s m args below meth c H locs cells slots Q (F0 m 24 ls [])) :
    ∀ (n i : Nat), i + n = 12 → ∀ ls, lv_has ls 3 [(2, .int (nI i)), (1, .int (nI (psz m0 i))), (0, .int (nI m0))] → W p l e R s m args below meth c H locs cells slots Q (F0 m 4 ls []) := by
  intro n
  induction n with
  | zero =>
    intro i hi ls hl
    have hi : i = 12 := by omega
    refine lv_iload_n hx hb dM_sizeOf_4 rfl (lv_at hl 0 rfl) ?_
    refine lv_bipush (v := 12) hx hb dM_sizeOf_5 (by decide) ?_
    refine lv_icmp_ge (tgt := 24) hx hb dM_sizeOf_7 (by decide) (fun c_1 => ?_) (fun c_1 => absurd (nI_le (b := i) (a := 12) (by omega) (by omega)) c_1)
    rw [hi] at hl
    exact kx ls (lv_sub hl [0, 1, 2] rfl)
  | succ n ih =>
    intro i hi ls hl
    refine lv_iload_n hx hb dM_sizeOf_4 rfl (lv_at hl 0 rfl) ?_
    refine lv_bipush (v := 12) hx hb dM_sizeOf_5 (by decide) ?_
    refine lv_icmp_ge (tgt := 24) hx hb dM_sizeOf_7 (by decide) (fun c_1 => absurd c_1 (nI_ge (a := i) (b := 12) (by omega) (by decide))) (fun c_1 => ?_)
    refine lv_iload_n hx hb dM_sizeOf_10 rfl (lv_at hl 1 rfl) ?_
    refine lv_iload_n hx hb dM_sizeOf_11 rfl (lv_at hl 2 rfl) ?_
    refine lv_iload_n hx hb dM_sizeOf_12 rfl (lv_at hl 0 rfl) ?_
    refine lv_ishr hx hb dM_sizeOf_13 ?_
    refine lv_iconst (v := 1) hx hb dM_sizeOf_14 (by decide) ?_
    refine lv_iand hx hb dM_sizeOf_15 ?_
    refine W.eq (g2 := F0 m 16 ls [.int (nI (m0 / 2 ^ i % 2)), .int (nI (psz m0 i))]) (by rw [shb2 m0 i hm0 (by omega)]) ?_
    refine lv_iadd hx hb dM_sizeOf_16 ?_
    refine W.eq (g2 := F0 m 17 ls [.int (nI (psz m0 i + (m0 / 2 ^ i % 2)))]) (by rw [nI_add]) ?_
    refine lv_istore_n (lv' := [(1, .int (nI (psz m0 i + (m0 / 2 ^ i % 2)))), (2, .int (nI i)), (0, .int (nI m0))]) hx hb dM_sizeOf_17 rfl hl (by decide) rfl (fun ls hl => ?_)
    refine lv_iinc (v := nI (i + 1)) (lv' := [(2, .int (nI (i + 1))), (1, .int (nI (psz m0 i + (m0 / 2 ^ i % 2)))), (0, .int (nI m0))]) hx hb dM_sizeOf_18 hl (k := 1) rfl (nI_1 _) (by decide) rfl (fun ls hl => ?_)
    refine lv_goto (tgt := 4) hx hb dM_sizeOf_21 (by decide) ?_
    exact ih (i + 1) (by omega) ls (lv_sub hl [0, 1, 2] rfl)
set_option maxHeartbeats 4000000 in
set_option maxRecDepth 100000 in
theorem kM_sizeOf (l : Launch) (m0 : Nat) (hn9 : m0 < 4096) : Met l yM_sizeOf wM_sizeOf (rm 0 0 0) (va_Pc [.int (nI m0)] (fun _ => True)) (va_Qi (fun r (_ : Unit) => r = nI (pop m0)) (fun _ _ => True) (fun _ => False)) 0 0 (fun _ => False) := by
  refine Met.ofW (cc := cM_sizeOf) (maxL := 3) (ret := (some .int)) (by decide) rfl ?_
  intro p e s m args below meth c s₁ B hml hv
  obtain ⟨rfl, -⟩ := hv
  have hx := B.exec
  have hb := B.bytes
  have hr := B.returns
  have hT : ∀ w ∈ TB, w.before _ s = true := fun w hw => atoms_spec (ws := wM_sizeOf) B.pre w (List.mem_cons_of_mem _ hw)
  have hown : s.vm.findClass "CountLeastModel" = some m.cls := findClass_of_methodNamed B.named
  have hlocks := B.notSynchronized
  have hS : va_S (fun _ => False) s.heap s.heap [] := va_S.rf
  have hl := lv_entry ([.int (nI m0)]) (n := 3) (Nat.le_of_ble_eq_true rfl)
  rw [lg_entry_eq]
  generalize (lg_sl ([.int (nI m0)]) ++ List.replicate (3 - (lg_sl ([.int (nI m0)])).length) Slot.unset).toArray = ls at hl ⊢
  have hl : lv_has ls 3 [(0, .int (nI m0))] := hl
  refine lv_iconst (v := 0) hx hb dM_sizeOf_0 (by decide) ?_
  refine lv_istore_n (lv' := [(1, .int 0), (0, .int (nI m0))]) hx hb dM_sizeOf_1 rfl hl (by decide) rfl (fun ls hl => ?_)
  refine lv_iconst (v := 0) hx hb dM_sizeOf_2 (by decide) ?_
  refine lv_istore_n (lv' := [(2, .int 0), (1, .int 0), (0, .int (nI m0))]) hx hb dM_sizeOf_3 rfl hl (by decide) rfl (fun ls hl => ?_)
  refine loM_sizeOf hx hb hml hown hT hn9 (fun ls hl => ?_) 12 0 (by omega) ls (lv_sub hl [0, 1, 2] rfl)
  rw [psz_pop ⟨m0, hn9⟩] at hl
  refine lv_iload_n hx hb dM_sizeOf_24 rfl (lv_at hl 1 rfl) ?_
  exact W.iret (v := nI (pop m0)) hx hb hr (fun t ht hW => ⟨⟨_, (), rfl, rfl, trivial⟩, hS.F ht⟩) hS.2.2 dM_sizeOf_25
theorem tb_t (m i : Nat) (hm : m < 4096) (hi : i < 12) (h : ¬ (nI m >>> (nI i &&& 31)) &&& 1 = 0) : m.testBit i = true := by
  cases hq : m.testBit i with
  | true => rfl
  | false => exact absurd ((shb m i hm hi).mpr hq) h
set_option maxHeartbeats 4000000 in
set_option maxRecDepth 100000 in
theorem liM_isClashing {p : Program} {l : Launch} {e : Env} {s : State} {m : MethodId} {args : Array Value} {below : List Frame} {meth : Method} {c : Code} {Q : State → Prop} {D : va_G} {CA : Nat → ClassId} {ad : Nat → Nat} {g : Nat → Nat → Int32} {h : Nat → Nat → Nat} {jp : Nat → Nat} (hm : MI g h jp) {k i m0 : Nat} {b9 : Bool} (hk : k < 6) (hm0 : m0 < 4096) (hi9 : i < h 1 k) (hx : p.tables.exec = Jvm.exec) (hb : c.code = cM_isClashing) (hml : c.maxLocals = 6) (hown : s.vm.findClass "CountLeastModel" = some m.cls) (hT : ∀ w ∈ TB, w.before args s = true) (hK : va_K D vwCl (cty CA) s) (kx : ∀ (H : Heap) (locs : List Loc), va_P D vwCl (mw CA (g) ad) H → va_D (mA ad s.heap.size) (mw CA (g) ad) → va_S (mA ad s.heap.size) s.heap H locs → ∀ ls, lv_has ls 6 [(5, .int (nI (i))), (3, .int (bI (icI (cM g h jp k) m0 i b9 (i)))), (4, .int (nI i)), (1, .int (nI k)), (2, .int (nI m0)), (0, .ref (ad 0))] → W p l e (rm 2 0 0) s m args below meth c H locs 0 0 Q (F0 m 72 ls [])) :
    ∀ (n j : Nat), j + n = i → ∀ (H : Heap) (locs : List Loc), va_P D vwCl (mw CA (g) ad) H → va_D (mA ad s.heap.size) (mw CA (g) ad) → va_S (mA ad s.heap.size) s.heap H locs → ∀ ls, lv_has ls 6 [(5, .int (nI j)), (3, .int (bI (icI (cM g h jp k) m0 i b9 j))), (4, .int (nI i)), (1, .int (nI k)), (2, .int (nI m0)), (0, .ref (ad 0))] → W p l e (rm 2 0 0) s m args below meth c H locs 0 0 Q (F0 m 19 ls []) := by
  intro n
  induction n with
  | zero =>
    intro j hi H locs hP hD hS ls hl
    have hi : j = i := by omega
    have h12 := hm.c12 hk
    refine lv_iload hx hb dM_isClashing_19 (lv_at hl 0 rfl) ?_
    refine lv_iload hx hb dM_isClashing_21 (lv_at hl 2 rfl) ?_
    refine lv_icmp_ge (tgt := 72) hx hb dM_isClashing_23 (by decide) (fun c_1 => ?_) (fun c_1 => absurd (nI_le (by omega) (by omega)) c_1)
    rw [hi] at hl
    exact kx H locs hP hD hS ls (lv_sub hl [0, 1, 2, 3, 4, 5] rfl)
  | succ n ih =>
    intro j hi H locs hP hD hS ls hl
    have h12 := hm.c12 hk
    refine lv_iload hx hb dM_isClashing_19 (lv_at hl 0 rfl) ?_
    refine lv_iload hx hb dM_isClashing_21 (lv_at hl 2 rfl) ?_
    refine lv_icmp_ge (tgt := 72) hx hb dM_isClashing_23 (by decide) (fun c_1 => absurd c_1 (nI_ge (by omega) (by omega))) (fun c_1 => ?_)
    refine lv_iload_n hx hb dM_isClashing_26 rfl (lv_at hl 1 rfl) ?_
    refine lv_if_eq (tgt := 64) hx hb dM_isClashing_27 (by decide) (fun c_2 => ?_) (fun c_2 => ?_)
    · refine lv_iconst (v := 0) hx hb dM_isClashing_64 (by decide) ?_
      refine lv_istore_n (lv' := [(3, .int 0), (5, .int (nI j)), (4, .int (nI i)), (1, .int (nI k)), (2, .int (nI m0)), (0, .ref (ad 0))]) hx hb dM_isClashing_65 rfl hl (by decide) rfl (fun ls hl => ?_)
      refine lv_iinc (v := nI (j + 1)) (lv' := [(5, .int (nI (j + 1))), (3, .int 0), (4, .int (nI i)), (1, .int (nI k)), (2, .int (nI m0)), (0, .ref (ad 0))]) hx hb dM_isClashing_66 hl (k := 1) rfl (nI_1 _) (by decide) rfl (fun ls hl => ?_)
      refine lv_goto (tgt := 19) hx hb dM_isClashing_69 (by decide) ?_
      have e9 : (0 : Int32) = bI (icI (cM g h jp k) m0 i b9 (j + 1)) := by simp [icI, bI, bI_f c_2]
      rw [e9] at hl
      exact ih (j + 1) (by omega) H locs hP hD hS ls (lv_sub hl [0, 1, 2, 3, 4, 5] rfl)
    · refine lv_iload_n hx hb dM_isClashing_30 rfl (lv_at hl 4 rfl) ?_
      refine lv_iload hx hb dM_isClashing_31 (lv_at hl 2 rfl) ?_
      refine lv_ishr hx hb dM_isClashing_33 ?_
      refine lv_iconst (v := 1) hx hb dM_isClashing_34 (by decide) ?_
      refine lv_iand hx hb dM_isClashing_35 ?_
      refine lv_if_eq (tgt := 60) hx hb dM_isClashing_36 (by decide) (fun c_3 => ?_) (fun c_3 => ?_)
      · refine lv_iconst (v := 1) hx hb dM_isClashing_60 (by decide) ?_
        refine lv_goto (tgt := 65) hx hb dM_isClashing_61 (by decide) ?_
        refine lv_istore_n (lv' := [(3, .int 1), (5, .int (nI j)), (4, .int (nI i)), (1, .int (nI k)), (2, .int (nI m0)), (0, .ref (ad 0))]) hx hb dM_isClashing_65 rfl hl (by decide) rfl (fun ls hl => ?_)
        refine lv_iinc (v := nI (j + 1)) (lv' := [(5, .int (nI (j + 1))), (3, .int 1), (4, .int (nI i)), (1, .int (nI k)), (2, .int (nI m0)), (0, .ref (ad 0))]) hx hb dM_isClashing_66 hl (k := 1) rfl (nI_1 _) (by decide) rfl (fun ls hl => ?_)
        refine lv_goto (tgt := 19) hx hb dM_isClashing_69 (by decide) ?_
        have e9 : (1 : Int32) = bI (icI (cM g h jp k) m0 i b9 (j + 1)) := by simp [icI, bI, bI_t c_2, (shb m0 i hm0 (by omega)).mp c_3]
        rw [e9] at hl
        exact ih (j + 1) (by omega) H locs hP hD hS ls (lv_sub hl [0, 1, 2, 3, 4, 5] rfl)
      · refine lv_iload_n hx hb dM_isClashing_39 rfl (lv_at hl 4 rfl) ?_
        refine lv_iload hx hb dM_isClashing_40 (lv_at hl 0 rfl) ?_
        refine lv_ishr hx hb dM_isClashing_42 ?_
        refine lv_iconst (v := 1) hx hb dM_isClashing_43 (by decide) ?_
        refine lv_iand hx hb dM_isClashing_44 ?_
        refine lv_if_eq (tgt := 60) hx hb dM_isClashing_45 (by decide) (fun c_4 => ?_) (fun c_4 => ?_)
        · refine lv_iconst (v := 1) hx hb dM_isClashing_60 (by decide) ?_
          refine lv_goto (tgt := 65) hx hb dM_isClashing_61 (by decide) ?_
          refine lv_istore_n (lv' := [(3, .int 1), (5, .int (nI j)), (4, .int (nI i)), (1, .int (nI k)), (2, .int (nI m0)), (0, .ref (ad 0))]) hx hb dM_isClashing_65 rfl hl (by decide) rfl (fun ls hl => ?_)
          refine lv_iinc (v := nI (j + 1)) (lv' := [(5, .int (nI (j + 1))), (3, .int 1), (4, .int (nI i)), (1, .int (nI k)), (2, .int (nI m0)), (0, .ref (ad 0))]) hx hb dM_isClashing_66 hl (k := 1) rfl (nI_1 _) (by decide) rfl (fun ls hl => ?_)
          refine lv_goto (tgt := 19) hx hb dM_isClashing_69 (by decide) ?_
          have e9 : (1 : Int32) = bI (icI (cM g h jp k) m0 i b9 (j + 1)) := by simp [icI, bI, bI_t c_2, tb_t m0 i hm0 (by omega) c_3, (shb m0 j hm0 (by omega)).mp c_4]
          rw [e9] at hl
          exact ih (j + 1) (by omega) H locs hP hD hS ls (lv_sub hl [0, 1, 2, 3, 4, 5] rfl)
        · refine lv_aload_n hx hb dM_isClashing_48 rfl (lv_at hl 5 rfl) ?_
          refine lv_iload_n hx hb dM_isClashing_49 rfl (lv_at hl 3 rfl) ?_
          refine lv_iload hx hb dM_isClashing_50 (lv_at hl 2 rfl) ?_
          refine lv_iload hx hb dM_isClashing_52 (lv_at hl 0 rfl) ?_
          refine kVi (n := 3) (D := D) (wd := fun z => mw CA z ad) (A1 := fun sz => mA ad sz) (As := [.int (nI k), .int (nI i), .int (nI j)]) (rest := []) ⟨hx, hb, hml, hown, hT⟩ (kM_clashes l D CA g ad H.size h jp hm k i j hk hi9 (by omega)) (gi_V wm_633 wm_635 wp_14 wm_4 wm_636) rfl rfl (by decide +kernel) ⟨(Nat.le_of_ble_eq_true rfl), (Nat.le_of_ble_eq_true rfl)⟩ (va_recv hK hP (ci := 4) (q0 := 0) rfl mw_O) hK hP hD hS (fun _ h9 => h9) (nA_mono hS.1) rfl hl.1 rfl (Nat.le_of_ble_eq_true rfl) dM_isClashing_54 ⟨(Nat.le_of_ble_eq_true rfl), (Nat.le_of_ble_eq_true rfl)⟩ (fun r_5 u_6 H locs w_7 hz hP hD hS => ?_)
          obtain ⟨w_7, hu9⟩ := w_7
          rw [hu9] at hP hD
          refine lv_if_eq (tgt := 64) hx hb dM_isClashing_57 (by decide) (fun c_8 => ?_) (fun c_8 => ?_)
          · refine lv_iconst (v := 0) hx hb dM_isClashing_64 (by decide) ?_
            refine lv_istore_n (lv' := [(3, .int 0), (5, .int (nI j)), (4, .int (nI i)), (1, .int (nI k)), (2, .int (nI m0)), (0, .ref (ad 0))]) hx hb dM_isClashing_65 rfl hl (by decide) rfl (fun ls hl => ?_)
            refine lv_iinc (v := nI (j + 1)) (lv' := [(5, .int (nI (j + 1))), (3, .int 0), (4, .int (nI i)), (1, .int (nI k)), (2, .int (nI m0)), (0, .ref (ad 0))]) hx hb dM_isClashing_66 hl (k := 1) rfl (nI_1 _) (by decide) rfl (fun ls hl => ?_)
            refine lv_goto (tgt := 19) hx hb dM_isClashing_69 (by decide) ?_
            have e9 : (0 : Int32) = bI (icI (cM g h jp k) m0 i b9 (j + 1)) := by simp [icI, bI, bI_t c_2, tb_t m0 i hm0 (by omega) c_3, tb_t m0 j hm0 (by omega) c_4, if_f w_7 c_8]
            rw [e9] at hl
            exact ih (j + 1) (by omega) H locs hP hD hS ls (lv_sub hl [0, 1, 2, 3, 4, 5] rfl)
          · refine lv_iconst (v := 1) hx hb dM_isClashing_60 (by decide) ?_
            refine lv_goto (tgt := 65) hx hb dM_isClashing_61 (by decide) ?_
            refine lv_istore_n (lv' := [(3, .int 1), (5, .int (nI j)), (4, .int (nI i)), (1, .int (nI k)), (2, .int (nI m0)), (0, .ref (ad 0))]) hx hb dM_isClashing_65 rfl hl (by decide) rfl (fun ls hl => ?_)
            refine lv_iinc (v := nI (j + 1)) (lv' := [(5, .int (nI (j + 1))), (3, .int 1), (4, .int (nI i)), (1, .int (nI k)), (2, .int (nI m0)), (0, .ref (ad 0))]) hx hb dM_isClashing_66 hl (k := 1) rfl (nI_1 _) (by decide) rfl (fun ls hl => ?_)
            refine lv_goto (tgt := 19) hx hb dM_isClashing_69 (by decide) ?_
            have e9 : (1 : Int32) = bI (icI (cM g h jp k) m0 i b9 (j + 1)) := by simp [icI, bI, bI_t c_2, tb_t m0 i hm0 (by omega) c_3, tb_t m0 j hm0 (by omega) c_4, if01t w_7 c_8]
            rw [e9] at hl
            exact ih (j + 1) (by omega) H locs hP hD hS ls (lv_sub hl [0, 1, 2, 3, 4, 5] rfl)
set_option maxHeartbeats 4000000 in
set_option maxRecDepth 100000 in
theorem loM_isClashing {p : Program} {l : Launch} {e : Env} {s : State} {m : MethodId} {args : Array Value} {below : List Frame} {meth : Method} {c : Code} {Q : State → Prop} {D : va_G} {CA : Nat → ClassId} {ad : Nat → Nat} {g : Nat → Nat → Int32} {h : Nat → Nat → Nat} {jp : Nat → Nat} (hm : MI g h jp) {k m0 : Nat} (hk : k < 6) (hm0 : m0 < 4096) (hx : p.tables.exec = Jvm.exec) (hb : c.code = cM_isClashing) (hml : c.maxLocals = 6) (hown : s.vm.findClass "CountLeastModel" = some m.cls) (hT : ∀ w ∈ TB, w.before args s = true) (hK : va_K D vwCl (cty CA) s) (kx : ∀ (H : Heap) (locs : List Loc), va_P D vwCl (mw CA (g) ad) H → va_D (mA ad s.heap.size) (mw CA (g) ad) → va_S (mA ad s.heap.size) s.heap H locs → ∀ ls, lv_has ls 6 [(4, .int (nI (h 1 k))), (3, .int (bI (icO (cM g h jp k) m0 (h 1 k)))), (1, .int (nI k)), (2, .int (nI m0)), (0, .ref (ad 0))] → W p l e (rm 2 0 0) s m args below meth c H locs 0 0 Q (F0 m 78 ls [])) :
    ∀ (n i : Nat), i + n = h 1 k → ∀ (H : Heap) (locs : List Loc), va_P D vwCl (mw CA (g) ad) H → va_D (mA ad s.heap.size) (mw CA (g) ad) → va_S (mA ad s.heap.size) s.heap H locs → ∀ ls, lv_has ls 6 [(4, .int (nI i)), (3, .int (bI (icO (cM g h jp k) m0 i))), (1, .int (nI k)), (2, .int (nI m0)), (0, .ref (ad 0))] → W p l e (rm 2 0 0) s m args below meth c H locs 0 0 Q (F0 m 5 ls []) := by
  intro n
  induction n with
  | zero =>
    intro i hi H locs hP hD hS ls hl
    have hi : i = h 1 k := by omega
    have h12 := hm.c12 hk
    refine lv_iload hx hb dM_isClashing_5 (lv_at hl 0 rfl) ?_
    refine lv_aload_n hx hb dM_isClashing_7 rfl (lv_at hl 4 rfl) ?_
    refine va_get (D := D) (ci := 4) (C := RM) (T := TM) (N := 21) hx hb hT inM hown hK hP (0) (mw_O) rfl 9 (by decide) (hT _ wm_508) (fun _ h9 => h9) rfl dM_isClashing_8 ?_
    refine lv_iload_n hx hb dM_isClashing_11 rfl (lv_at hl 2 rfl) ?_
    refine va_iald (D := D) hx hb hK hP (8) 0 (mw_a8) rfl (vp_in_nI (by omega) (by decide)) dM_isClashing_12 ?_
    rw [nI_clamp (n := k) (by omega)]
    refine W.eq (g2 := F0 m 13 ls [.int (nI (h 1 k)), .int (nI i)]) (by rw [hm.cnt (k := k) (by omega)]) ?_
    refine lv_icmp_ge (tgt := 78) hx hb dM_isClashing_13 (by decide) (fun c_1 => ?_) (fun c_1 => absurd (nI_le (by omega) (by omega)) c_1)
    rw [hi] at hl
    exact kx H locs hP hD hS ls (lv_sub hl [0, 1, 2, 3, 4] rfl)
  | succ n ih =>
    intro i hi H locs hP hD hS ls hl
    have h12 := hm.c12 hk
    refine lv_iload hx hb dM_isClashing_5 (lv_at hl 0 rfl) ?_
    refine lv_aload_n hx hb dM_isClashing_7 rfl (lv_at hl 4 rfl) ?_
    refine va_get (D := D) (ci := 4) (C := RM) (T := TM) (N := 21) hx hb hT inM hown hK hP (0) (mw_O) rfl 9 (by decide) (hT _ wm_508) (fun _ h9 => h9) rfl dM_isClashing_8 ?_
    refine lv_iload_n hx hb dM_isClashing_11 rfl (lv_at hl 2 rfl) ?_
    refine va_iald (D := D) hx hb hK hP (8) 0 (mw_a8) rfl (vp_in_nI (by omega) (by decide)) dM_isClashing_12 ?_
    rw [nI_clamp (n := k) (by omega)]
    refine W.eq (g2 := F0 m 13 ls [.int (nI (h 1 k)), .int (nI i)]) (by rw [hm.cnt (k := k) (by omega)]) ?_
    refine lv_icmp_ge (tgt := 78) hx hb dM_isClashing_13 (by decide) (fun c_1 => absurd c_1 (nI_ge (by omega) (by omega))) (fun c_1 => ?_)
    refine lv_iconst (v := 0) hx hb dM_isClashing_16 (by decide) ?_
    refine lv_istore (lv' := [(5, .int 0), (4, .int (nI i)), (3, .int (bI (icO (cM g h jp k) m0 i))), (1, .int (nI k)), (2, .int (nI m0)), (0, .ref (ad 0))]) hx hb dM_isClashing_17 hl (by decide) rfl (fun ls hl => ?_)
    have hl : lv_has ls 6 [(5, .int (nI 0)), (3, .int (bI (icI (cM g h jp k) m0 i (icO (cM g h jp k) m0 i) 0))), (4, .int (nI i)), (1, .int (nI k)), (2, .int (nI m0)), (0, .ref (ad 0))] := lv_sub hl [0, 2, 1, 3, 4, 5] rfl
    refine liM_isClashing hm hk hm0 (i := i) (by omega) hx hb hml hown hT hK (fun H locs hP hD hS ls hl => ?_) i 0 (by omega) _ _ hP hD hS ls hl
    refine lv_iinc (v := nI (i + 1)) (lv' := [(4, .int (nI (i + 1))), (5, .int (nI i)), (3, .int (bI (icI (cM g h jp k) m0 i (icO (cM g h jp k) m0 i) i))), (1, .int (nI k)), (2, .int (nI m0)), (0, .ref (ad 0))]) hx hb dM_isClashing_72 hl (k := 2) rfl (nI_1 _) (by decide) rfl (fun ls hl => ?_)
    refine lv_goto (tgt := 5) hx hb dM_isClashing_75 (by decide) ?_
    exact ih (i + 1) (by omega) H locs hP hD hS ls (lv_sub hl [0, 2, 3, 4, 5] rfl)
set_option maxHeartbeats 4000000 in
set_option maxRecDepth 100000 in
theorem kM_isClashing (l : Launch) (D : va_G) (CA : Nat → ClassId) (g : Nat → Nat → Int32) (ad : Nat → Nat) (sz : Nat) (h : Nat → Nat → Nat) (jp : Nat → Nat) (hm : MI g h jp) (k m0 : Nat) (hk : k < 6) (hm0 : m0 < 4096) : Met l yM_isClashing wM_isClashing (rm 2 0 0) (va_Pc [.ref (ad 0), .int (nI k), .int (nI m0)] (gpre D (cty CA) (mw CA g ad) sz)) (va_Qi (fun r (u : Nat → Nat → Int32) => r = bI (icO (cM g h jp k) m0 (h 1 k)) ∧ u = g) (fun u t => gpost D (cty CA) (mw CA u ad) (mA ad sz) t) (mA ad sz)) 0 0 (mA ad sz) := by
  refine Met.ofW (cc := cM_isClashing) (maxL := 6) (ret := (some .boolean)) (by decide) rfl ?_
  intro p e s m args below meth c s₁ B hml hv
  obtain ⟨rfl, hsz, hP, hK, hD0⟩ := hv
  have hx := B.exec
  have hb := B.bytes
  have hr := B.returns
  have hT : ∀ w ∈ TB, w.before _ s = true := fun w hw => atoms_spec (ws := wM_isClashing) B.pre w (List.mem_cons_of_mem _ hw)
  have hown : s.vm.findClass "CountLeastModel" = some m.cls := findClass_of_methodNamed B.named
  have hlocks := B.notSynchronized
  subst hsz
  have hD := nA_self (sz := s.heap.size) hD0
  have hS : va_S (mA ad s.heap.size) s.heap s.heap [] := va_S.rf
  have hP : va_P D vwCl (mw CA g ad) s.heap := hP
  have hl := lv_entry ([.ref (ad 0), .int (nI k), .int (nI m0)]) (n := 6) (Nat.le_of_ble_eq_true rfl)
  rw [lg_entry_eq]
  generalize (lg_sl ([.ref (ad 0), .int (nI k), .int (nI m0)]) ++ List.replicate (6 - (lg_sl ([.ref (ad 0), .int (nI k), .int (nI m0)])).length) Slot.unset).toArray = ls at hl ⊢
  have hl : lv_has ls 6 [(0, .ref (ad 0)), (1, .int (nI k)), (2, .int (nI m0))] := hl
  refine lv_iconst (v := 1) hx hb dM_isClashing_0 (by decide) ?_
  refine lv_istore_n (lv' := [(3, .int 1), (0, .ref (ad 0)), (1, .int (nI k)), (2, .int (nI m0))]) hx hb dM_isClashing_1 rfl hl (by decide) rfl (fun ls hl => ?_)
  refine lv_iconst (v := 0) hx hb dM_isClashing_2 (by decide) ?_
  refine lv_istore (lv' := [(4, .int 0), (3, .int 1), (0, .ref (ad 0)), (1, .int (nI k)), (2, .int (nI m0))]) hx hb dM_isClashing_3 hl (by decide) rfl (fun ls hl => ?_)
  have hl : lv_has ls 6 [(4, .int (nI 0)), (3, .int (bI (icO (cM g h jp k) m0 0))), (1, .int (nI k)), (2, .int (nI m0)), (0, .ref (ad 0))] := lv_sub hl [0, 1, 3, 4, 2] rfl
  refine loM_isClashing hm hk hm0 hx hb hml hown hT hK (fun H locs hP hD hS ls hl => ?_) (h 1 k) 0 (by omega) _ _ hP hD hS ls hl
  refine lv_iload_n hx hb dM_isClashing_78 rfl (lv_at hl 1 rfl) ?_
  exact W.zret (v := bI (icO (cM g h jp k) m0 (h 1 k))) hx hb hr (by unfold bI; split <;> rfl) (fun t ht hW => ⟨⟨_, g, rfl, ⟨rfl, rfl⟩, gpost_at hP hK hD ht hW.alike⟩, hS.F ht⟩) hS.2.2 dM_isClashing_79
set_option maxHeartbeats 4000000 in
set_option maxRecDepth 100000 in
theorem loM_greatest {p : Program} {l : Launch} {e : Env} {s : State} {m : MethodId} {args : Array Value} {below : List Frame} {meth : Method} {c : Code} {Q : State → Prop} {D : va_G} {CA : Nat → ClassId} {ad : Nat → Nat} {g : Nat → Nat → Int32} {h : Nat → Nat → Nat} {jp : Nat → Nat} (hm : MI g h jp) {k : Nat} (hk : k < 6) (hx : p.tables.exec = Jvm.exec) (hb : c.code = cM_greatest) (hml : c.maxLocals = 8) (hown : s.vm.findClass "CountLeastModel" = some m.cls) (hT : ∀ w ∈ TB, w.before args s = true) (hK : va_K D vwCl (cty CA) s) (kx : ∀ (H : Heap) (locs : List Loc), va_P D vwCl (mw CA (g) ad) H → va_D (mA ad s.heap.size) (mw CA (g) ad) → va_S (mA ad s.heap.size) s.heap H locs → ∀ ls, lv_has ls 8 [(3, .int (nI (2 ^ h 1 k))), (2, .int (nI (bM (cM g h jp k) (h 1 k) (2 ^ h 1 k)))), (1, .int (nI k)), (0, .ref (ad 0))] → W p l e (rm 3 0 0) s m args below meth c H locs 0 0 Q (F0 m 87 ls [])) :
    ∀ (n i : Nat), i + n = 2 ^ h 1 k → ∀ (H : Heap) (locs : List Loc), va_P D vwCl (mw CA (g) ad) H → va_D (mA ad s.heap.size) (mw CA (g) ad) → va_S (mA ad s.heap.size) s.heap H locs → ∀ ls, lv_has ls 8 [(3, .int (nI i)), (2, .int (nI (bM (cM g h jp k) (h 1 k) i))), (1, .int (nI k)), (0, .ref (ad 0))] → W p l e (rm 3 0 0) s m args below meth c H locs 0 0 Q (F0 m 4 ls []) := by
  intro n
  induction n with
  | zero =>
    intro i hi H locs hP hD hS ls hl
    have hi : i = 2 ^ h 1 k := by omega
    have h12 := hm.c12 hk
    have hp9 : 2 ^ h 1 k ≤ 4096 := (show 2 ^ h 1 k ≤ 2 ^ 12 from Nat.pow_le_pow_right (by decide) h12)
    have hb9 := bM_le (cM g h jp k) (h 1 k) i
    refine lv_iload_n hx hb dM_greatest_4 rfl (lv_at hl 0 rfl) ?_
    refine lv_iconst (v := 1) hx hb dM_greatest_5 (by decide) ?_
    refine lv_aload_n hx hb dM_greatest_6 rfl (lv_at hl 3 rfl) ?_
    refine va_get (D := D) (ci := 4) (C := RM) (T := TM) (N := 21) hx hb hT inM hown hK hP (0) (mw_O) rfl 9 (by decide) (hT _ wm_508) (fun _ h9 => h9) rfl dM_greatest_7 ?_
    refine lv_iload_n hx hb dM_greatest_10 rfl (lv_at hl 2 rfl) ?_
    refine va_iald (D := D) hx hb hK hP (8) 0 (mw_a8) rfl (vp_in_nI (by omega) (by decide)) dM_greatest_11 ?_
    rw [nI_clamp (n := k) (by omega)]
    refine W.eq (g2 := F0 m 12 ls [.int (nI (h 1 k)), .int 1, .int (nI i)]) (by rw [hm.cnt (k := k) (by omega)]) ?_
    refine lv_ishl hx hb dM_greatest_12 ?_
    refine W.eq (g2 := F0 m 13 ls [.int (nI (2 ^ h 1 k)), .int (nI i)]) (by rw [nz_sh (h 1 k) (by omega)]) ?_
    refine lv_icmp_ge (tgt := 87) hx hb dM_greatest_13 (by decide) (fun c_1 => ?_) (fun c_1 => absurd (nI_le (by omega) (by omega)) c_1)
    rw [hi] at hl
    exact kx H locs hP hD hS ls (lv_sub hl [0, 1, 2, 3] rfl)
  | succ n ih =>
    intro i hi H locs hP hD hS ls hl
    have h12 := hm.c12 hk
    have hp9 : 2 ^ h 1 k ≤ 4096 := (show 2 ^ h 1 k ≤ 2 ^ 12 from Nat.pow_le_pow_right (by decide) h12)
    have hb9 := bM_le (cM g h jp k) (h 1 k) i
    refine lv_iload_n hx hb dM_greatest_4 rfl (lv_at hl 0 rfl) ?_
    refine lv_iconst (v := 1) hx hb dM_greatest_5 (by decide) ?_
    refine lv_aload_n hx hb dM_greatest_6 rfl (lv_at hl 3 rfl) ?_
    refine va_get (D := D) (ci := 4) (C := RM) (T := TM) (N := 21) hx hb hT inM hown hK hP (0) (mw_O) rfl 9 (by decide) (hT _ wm_508) (fun _ h9 => h9) rfl dM_greatest_7 ?_
    refine lv_iload_n hx hb dM_greatest_10 rfl (lv_at hl 2 rfl) ?_
    refine va_iald (D := D) hx hb hK hP (8) 0 (mw_a8) rfl (vp_in_nI (by omega) (by decide)) dM_greatest_11 ?_
    rw [nI_clamp (n := k) (by omega)]
    refine W.eq (g2 := F0 m 12 ls [.int (nI (h 1 k)), .int 1, .int (nI i)]) (by rw [hm.cnt (k := k) (by omega)]) ?_
    refine lv_ishl hx hb dM_greatest_12 ?_
    refine W.eq (g2 := F0 m 13 ls [.int (nI (2 ^ h 1 k)), .int (nI i)]) (by rw [nz_sh (h 1 k) (by omega)]) ?_
    refine lv_icmp_ge (tgt := 87) hx hb dM_greatest_13 (by decide) (fun c_1 => absurd c_1 (nI_ge (by omega) (by omega))) (fun c_1 => ?_)
    refine lv_iload_n hx hb dM_greatest_16 rfl (lv_at hl 0 rfl) ?_
    refine kSi (n := 1) (D := D) (As := [.int (nI i)]) (rest := []) ⟨hx, hb, hml, hown, hT⟩ (kM_sizeOf l i (by omega)) (gi_S wm_649 wm_650 wm_4 wm_651) rfl rfl (by decide +kernel) ⟨(Nat.le_of_ble_eq_true rfl), (Nat.le_of_ble_eq_true rfl)⟩ hP hS rfl hl.1 rfl (Nat.le_of_ble_eq_true rfl) dM_greatest_17 ⟨(Nat.le_of_ble_eq_true rfl), (Nat.le_of_ble_eq_true rfl)⟩ (fun r_2 H locs e_3 hz hP hS => ?_)
    subst e_3
    refine lv_istore (lv' := [(4, .int (nI (pop i))), (3, .int (nI i)), (2, .int (nI (bM (cM g h jp k) (h 1 k) i))), (1, .int (nI k)), (0, .ref (ad 0))]) hx hb dM_greatest_20 hl (by decide) rfl (fun ls hl => ?_)
    refine lv_iload_n hx hb dM_greatest_22 rfl (lv_at hl 2 rfl) ?_
    refine kSi (n := 1) (D := D) (As := [.int (nI (bM (cM g h jp k) (h 1 k) i))]) (rest := []) ⟨hx, hb, hml, hown, hT⟩ (kM_sizeOf l (bM (cM g h jp k) (h 1 k) i) (by omega)) (gi_S wm_649 wm_650 wm_4 wm_651) rfl rfl (by decide +kernel) ⟨(Nat.le_of_ble_eq_true rfl), (Nat.le_of_ble_eq_true rfl)⟩ hP hS rfl hl.1 rfl (Nat.le_of_ble_eq_true rfl) dM_greatest_23 ⟨(Nat.le_of_ble_eq_true rfl), (Nat.le_of_ble_eq_true rfl)⟩ (fun r_4 H locs e_5 hz hP hS => ?_)
    subst e_5
    refine lv_istore (lv' := [(5, .int (nI (pop (bM (cM g h jp k) (h 1 k) i)))), (4, .int (nI (pop i))), (3, .int (nI i)), (2, .int (nI (bM (cM g h jp k) (h 1 k) i))), (1, .int (nI k)), (0, .ref (ad 0))]) hx hb dM_greatest_26 hl (by decide) rfl (fun ls hl => ?_)
    refine lv_iload_n hx hb dM_greatest_28 rfl (lv_at hl 2 rfl) ?_
    refine lv_iload_n hx hb dM_greatest_29 rfl (lv_at hl 3 rfl) ?_
    refine lv_ixor hx hb dM_greatest_30 ?_
    refine W.eq (g2 := F0 m 31 ls [.int (nI (i ^^^ bM (cM g h jp k) (h 1 k) i))]) (by rw [nz_xor]) ?_
    refine lv_istore (lv' := [(6, .int (nI (i ^^^ bM (cM g h jp k) (h 1 k) i))), (5, .int (nI (pop (bM (cM g h jp k) (h 1 k) i)))), (4, .int (nI (pop i))), (3, .int (nI i)), (2, .int (nI (bM (cM g h jp k) (h 1 k) i))), (1, .int (nI k)), (0, .ref (ad 0))]) hx hb dM_greatest_31 hl (by decide) rfl (fun ls hl => ?_)
    refine lv_iload_n hx hb dM_greatest_33 rfl (lv_at hl 3 rfl) ?_
    refine lv_iload hx hb dM_greatest_34 (lv_at hl 0 rfl) ?_
    refine lv_iand hx hb dM_greatest_36 ?_
    refine lv_iload hx hb dM_greatest_37 (lv_at hl 0 rfl) ?_
    refine lv_ineg hx hb dM_greatest_39 ?_
    refine lv_iand hx hb dM_greatest_40 ?_
    refine lv_if_eq (tgt := 48) hx hb dM_greatest_41 (by decide) (fun c_6 => ?_) (fun c_6 => ?_)
    · refine lv_iconst (v := 0) hx hb dM_greatest_48 (by decide) ?_
      refine lv_istore (lv' := [(7, .int 0), (6, .int (nI (i ^^^ bM (cM g h jp k) (h 1 k) i))), (5, .int (nI (pop (bM (cM g h jp k) (h 1 k) i)))), (4, .int (nI (pop i))), (3, .int (nI i)), (2, .int (nI (bM (cM g h jp k) (h 1 k) i))), (1, .int (nI k)), (0, .ref (ad 0))]) hx hb dM_greatest_49 hl (by decide) rfl (fun ls hl => ?_)
      refine lv_iload hx hb dM_greatest_51 (lv_at hl 3 rfl) ?_
      refine lv_iload hx hb dM_greatest_53 (lv_at hl 2 rfl) ?_
      refine lv_icmp_gt (tgt := 70) hx hb dM_greatest_55 (by decide) (fun c_7 => ?_) (fun c_7 => ?_)
      · refine lv_aload_n hx hb dM_greatest_70 rfl (lv_at hl 7 rfl) ?_
        refine lv_iload_n hx hb dM_greatest_71 rfl (lv_at hl 6 rfl) ?_
        refine lv_iload_n hx hb dM_greatest_72 rfl (lv_at hl 4 rfl) ?_
        refine kVi (n := 2) (D := D) (wd := fun z => mw CA z ad) (A1 := fun sz => mA ad sz) (As := [.int (nI k), .int (nI i)]) (rest := []) ⟨hx, hb, hml, hown, hT⟩ (kM_isClashing l D CA g ad H.size h jp hm k i hk (by omega)) (gi_V wm_652 wm_654 wp_16 wm_4 wm_655) rfl rfl (by decide +kernel) ⟨(Nat.le_of_ble_eq_true rfl), (Nat.le_of_ble_eq_true rfl)⟩ (va_recv hK hP (ci := 4) (q0 := 0) rfl mw_O) hK hP hD hS (fun _ h9 => h9) (nA_mono hS.1) rfl hl.1 rfl (Nat.le_of_ble_eq_true rfl) dM_greatest_73 ⟨(Nat.le_of_ble_eq_true rfl), (Nat.le_of_ble_eq_true rfl)⟩ (fun r_8 u_9 H locs w_10 hz hP hD hS => ?_)
        obtain ⟨w_10, hu9⟩ := w_10
        rw [hu9] at hP hD
        refine lv_if_eq (tgt := 81) hx hb dM_greatest_76 (by decide) (fun c_11 => ?_) (fun c_11 => ?_)
        · refine lv_iinc (v := nI (i + 1)) (lv' := [(3, .int (nI (i + 1))), (7, .int 0), (6, .int (nI (i ^^^ bM (cM g h jp k) (h 1 k) i))), (5, .int (nI (pop (bM (cM g h jp k) (h 1 k) i)))), (4, .int (nI (pop i))), (2, .int (nI (bM (cM g h jp k) (h 1 k) i))), (1, .int (nI k)), (0, .ref (ad 0))]) hx hb dM_greatest_81 hl (k := 4) rfl (nI_1 _) (by decide) rfl (fun ls hl => ?_)
          refine lv_goto (tgt := 4) hx hb dM_greatest_84 (by decide) ?_
          have ea : ahM i (bM (cM g h jp k) (h 1 k) i) = false := by unfold ahM; simp [show (nI i &&& nI (i ^^^ bM (cM g h jp k) (h 1 k) i)) &&& -nI (i ^^^ bM (cM g h jp k) (h 1 k) i) = 0 from c_6]
          have e5 : pop (bM (cM g h jp k) (h 1 k) i) < pop i := (nI_ltI (by have := pop_le (bM (cM g h jp k) (h 1 k) i); omega) (by have := pop_le i; omega)).mp c_7
          have e7 : icO (cM g h jp k) i (h 1 k) = false := bI_f (by rw [← w_10]; exact c_11)
          have e9 : (nI (bM (cM g h jp k) (h 1 k) i)) = nI (bM (cM g h jp k) (h 1 k) (i + 1)) := congrArg nI (by rw [bM_s]; simp [ea, e5, e7])
          rw [e9] at hl
          exact ih (i + 1) (by omega) H locs hP hD hS ls (lv_sub hl [0, 5, 6, 7] rfl)
        · refine lv_iload_n hx hb dM_greatest_79 rfl (lv_at hl 4 rfl) ?_
          refine lv_istore_n (lv' := [(2, .int (nI i)), (7, .int 0), (6, .int (nI (i ^^^ bM (cM g h jp k) (h 1 k) i))), (5, .int (nI (pop (bM (cM g h jp k) (h 1 k) i)))), (4, .int (nI (pop i))), (3, .int (nI i)), (1, .int (nI k)), (0, .ref (ad 0))]) hx hb dM_greatest_80 rfl hl (by decide) rfl (fun ls hl => ?_)
          refine lv_iinc (v := nI (i + 1)) (lv' := [(3, .int (nI (i + 1))), (2, .int (nI i)), (7, .int 0), (6, .int (nI (i ^^^ bM (cM g h jp k) (h 1 k) i))), (5, .int (nI (pop (bM (cM g h jp k) (h 1 k) i)))), (4, .int (nI (pop i))), (1, .int (nI k)), (0, .ref (ad 0))]) hx hb dM_greatest_81 hl (k := 5) rfl (nI_1 _) (by decide) rfl (fun ls hl => ?_)
          refine lv_goto (tgt := 4) hx hb dM_greatest_84 (by decide) ?_
          have ea : ahM i (bM (cM g h jp k) (h 1 k) i) = false := by unfold ahM; simp [show (nI i &&& nI (i ^^^ bM (cM g h jp k) (h 1 k) i)) &&& -nI (i ^^^ bM (cM g h jp k) (h 1 k) i) = 0 from c_6]
          have e5 : pop (bM (cM g h jp k) (h 1 k) i) < pop i := (nI_ltI (by have := pop_le (bM (cM g h jp k) (h 1 k) i); omega) (by have := pop_le i; omega)).mp c_7
          have e7 : icO (cM g h jp k) i (h 1 k) = true := bI_t (by rw [← w_10]; exact c_11)
          have e9 : (nI i) = nI (bM (cM g h jp k) (h 1 k) (i + 1)) := congrArg nI (by rw [bM_s]; simp [ea, e5, e7])
          rw [e9] at hl
          exact ih (i + 1) (by omega) H locs hP hD hS ls (lv_sub hl [0, 1, 6, 7] rfl)
      · refine lv_iload hx hb dM_greatest_58 (lv_at hl 3 rfl) ?_
        refine lv_iload hx hb dM_greatest_60 (lv_at hl 2 rfl) ?_
        refine lv_icmp_ne (tgt := 81) hx hb dM_greatest_62 (by decide) (fun c_12 => ?_) (fun c_12 => ?_)
        · refine lv_iinc (v := nI (i + 1)) (lv' := [(3, .int (nI (i + 1))), (7, .int 0), (6, .int (nI (i ^^^ bM (cM g h jp k) (h 1 k) i))), (5, .int (nI (pop (bM (cM g h jp k) (h 1 k) i)))), (4, .int (nI (pop i))), (2, .int (nI (bM (cM g h jp k) (h 1 k) i))), (1, .int (nI k)), (0, .ref (ad 0))]) hx hb dM_greatest_81 hl (k := 4) rfl (nI_1 _) (by decide) rfl (fun ls hl => ?_)
          refine lv_goto (tgt := 4) hx hb dM_greatest_84 (by decide) ?_
          have ea : ahM i (bM (cM g h jp k) (h 1 k) i) = false := by unfold ahM; simp [show (nI i &&& nI (i ^^^ bM (cM g h jp k) (h 1 k) i)) &&& -nI (i ^^^ bM (cM g h jp k) (h 1 k) i) = 0 from c_6]
          have e5 : ¬ pop (bM (cM g h jp k) (h 1 k) i) < pop i := fun z => c_7 (nI_lt z (by have := pop_le i; omega))
          have e6 : ¬ pop i = pop (bM (cM g h jp k) (h 1 k) i) := fun z => c_12 (by rw [z])
          have e9 : (nI (bM (cM g h jp k) (h 1 k) i)) = nI (bM (cM g h jp k) (h 1 k) (i + 1)) := congrArg nI (by rw [bM_s]; simp [ea, e5, e6])
          rw [e9] at hl
          exact ih (i + 1) (by omega) H locs hP hD hS ls (lv_sub hl [0, 5, 6, 7] rfl)
        · refine lv_iload hx hb dM_greatest_65 (lv_at hl 0 rfl) ?_
          refine lv_if_eq (tgt := 81) hx hb dM_greatest_67 (by decide) (fun c_13 => ?_) (fun c_13 => absurd (by decide) c_13)
          refine lv_iinc (v := nI (i + 1)) (lv' := [(3, .int (nI (i + 1))), (7, .int 0), (6, .int (nI (i ^^^ bM (cM g h jp k) (h 1 k) i))), (5, .int (nI (pop (bM (cM g h jp k) (h 1 k) i)))), (4, .int (nI (pop i))), (2, .int (nI (bM (cM g h jp k) (h 1 k) i))), (1, .int (nI k)), (0, .ref (ad 0))]) hx hb dM_greatest_81 hl (k := 4) rfl (nI_1 _) (by decide) rfl (fun ls hl => ?_)
          refine lv_goto (tgt := 4) hx hb dM_greatest_84 (by decide) ?_
          have ea : ahM i (bM (cM g h jp k) (h 1 k) i) = false := by unfold ahM; simp [show (nI i &&& nI (i ^^^ bM (cM g h jp k) (h 1 k) i)) &&& -nI (i ^^^ bM (cM g h jp k) (h 1 k) i) = 0 from c_6]
          have e5 : ¬ pop (bM (cM g h jp k) (h 1 k) i) < pop i := fun z => c_7 (nI_lt z (by have := pop_le i; omega))
          have e6 : pop i = pop (bM (cM g h jp k) (h 1 k) i) := (nI_eq (by have := pop_le i; omega) (by have := pop_le (bM (cM g h jp k) (h 1 k) i); omega)).mp c_12
          have e9 : (nI (bM (cM g h jp k) (h 1 k) i)) = nI (bM (cM g h jp k) (h 1 k) (i + 1)) := congrArg nI (by rw [bM_s]; simp [ea, e5, e6])
          rw [e9] at hl
          exact ih (i + 1) (by omega) H locs hP hD hS ls (lv_sub hl [0, 5, 6, 7] rfl)
    · refine lv_iconst (v := 1) hx hb dM_greatest_44 (by decide) ?_
      refine lv_goto (tgt := 49) hx hb dM_greatest_45 (by decide) ?_
      refine lv_istore (lv' := [(7, .int 1), (6, .int (nI (i ^^^ bM (cM g h jp k) (h 1 k) i))), (5, .int (nI (pop (bM (cM g h jp k) (h 1 k) i)))), (4, .int (nI (pop i))), (3, .int (nI i)), (2, .int (nI (bM (cM g h jp k) (h 1 k) i))), (1, .int (nI k)), (0, .ref (ad 0))]) hx hb dM_greatest_49 hl (by decide) rfl (fun ls hl => ?_)
      refine lv_iload hx hb dM_greatest_51 (lv_at hl 3 rfl) ?_
      refine lv_iload hx hb dM_greatest_53 (lv_at hl 2 rfl) ?_
      refine lv_icmp_gt (tgt := 70) hx hb dM_greatest_55 (by decide) (fun c_14 => ?_) (fun c_14 => ?_)
      · refine lv_aload_n hx hb dM_greatest_70 rfl (lv_at hl 7 rfl) ?_
        refine lv_iload_n hx hb dM_greatest_71 rfl (lv_at hl 6 rfl) ?_
        refine lv_iload_n hx hb dM_greatest_72 rfl (lv_at hl 4 rfl) ?_
        refine kVi (n := 2) (D := D) (wd := fun z => mw CA z ad) (A1 := fun sz => mA ad sz) (As := [.int (nI k), .int (nI i)]) (rest := []) ⟨hx, hb, hml, hown, hT⟩ (kM_isClashing l D CA g ad H.size h jp hm k i hk (by omega)) (gi_V wm_652 wm_654 wp_16 wm_4 wm_655) rfl rfl (by decide +kernel) ⟨(Nat.le_of_ble_eq_true rfl), (Nat.le_of_ble_eq_true rfl)⟩ (va_recv hK hP (ci := 4) (q0 := 0) rfl mw_O) hK hP hD hS (fun _ h9 => h9) (nA_mono hS.1) rfl hl.1 rfl (Nat.le_of_ble_eq_true rfl) dM_greatest_73 ⟨(Nat.le_of_ble_eq_true rfl), (Nat.le_of_ble_eq_true rfl)⟩ (fun r_15 u_16 H locs w_17 hz hP hD hS => ?_)
        obtain ⟨w_17, hu9⟩ := w_17
        rw [hu9] at hP hD
        refine lv_if_eq (tgt := 81) hx hb dM_greatest_76 (by decide) (fun c_18 => ?_) (fun c_18 => ?_)
        · refine lv_iinc (v := nI (i + 1)) (lv' := [(3, .int (nI (i + 1))), (7, .int 1), (6, .int (nI (i ^^^ bM (cM g h jp k) (h 1 k) i))), (5, .int (nI (pop (bM (cM g h jp k) (h 1 k) i)))), (4, .int (nI (pop i))), (2, .int (nI (bM (cM g h jp k) (h 1 k) i))), (1, .int (nI k)), (0, .ref (ad 0))]) hx hb dM_greatest_81 hl (k := 4) rfl (nI_1 _) (by decide) rfl (fun ls hl => ?_)
          refine lv_goto (tgt := 4) hx hb dM_greatest_84 (by decide) ?_
          have ea : ahM i (bM (cM g h jp k) (h 1 k) i) = true := by unfold ahM; simp [show ¬ (nI i &&& nI (i ^^^ bM (cM g h jp k) (h 1 k) i)) &&& -nI (i ^^^ bM (cM g h jp k) (h 1 k) i) = 0 from c_6]
          have e5 : pop (bM (cM g h jp k) (h 1 k) i) < pop i := (nI_ltI (by have := pop_le (bM (cM g h jp k) (h 1 k) i); omega) (by have := pop_le i; omega)).mp c_14
          have e7 : icO (cM g h jp k) i (h 1 k) = false := bI_f (by rw [← w_17]; exact c_18)
          have e9 : (nI (bM (cM g h jp k) (h 1 k) i)) = nI (bM (cM g h jp k) (h 1 k) (i + 1)) := congrArg nI (by rw [bM_s]; simp [ea, e5, e7])
          rw [e9] at hl
          exact ih (i + 1) (by omega) H locs hP hD hS ls (lv_sub hl [0, 5, 6, 7] rfl)
        · refine lv_iload_n hx hb dM_greatest_79 rfl (lv_at hl 4 rfl) ?_
          refine lv_istore_n (lv' := [(2, .int (nI i)), (7, .int 1), (6, .int (nI (i ^^^ bM (cM g h jp k) (h 1 k) i))), (5, .int (nI (pop (bM (cM g h jp k) (h 1 k) i)))), (4, .int (nI (pop i))), (3, .int (nI i)), (1, .int (nI k)), (0, .ref (ad 0))]) hx hb dM_greatest_80 rfl hl (by decide) rfl (fun ls hl => ?_)
          refine lv_iinc (v := nI (i + 1)) (lv' := [(3, .int (nI (i + 1))), (2, .int (nI i)), (7, .int 1), (6, .int (nI (i ^^^ bM (cM g h jp k) (h 1 k) i))), (5, .int (nI (pop (bM (cM g h jp k) (h 1 k) i)))), (4, .int (nI (pop i))), (1, .int (nI k)), (0, .ref (ad 0))]) hx hb dM_greatest_81 hl (k := 5) rfl (nI_1 _) (by decide) rfl (fun ls hl => ?_)
          refine lv_goto (tgt := 4) hx hb dM_greatest_84 (by decide) ?_
          have ea : ahM i (bM (cM g h jp k) (h 1 k) i) = true := by unfold ahM; simp [show ¬ (nI i &&& nI (i ^^^ bM (cM g h jp k) (h 1 k) i)) &&& -nI (i ^^^ bM (cM g h jp k) (h 1 k) i) = 0 from c_6]
          have e5 : pop (bM (cM g h jp k) (h 1 k) i) < pop i := (nI_ltI (by have := pop_le (bM (cM g h jp k) (h 1 k) i); omega) (by have := pop_le i; omega)).mp c_14
          have e7 : icO (cM g h jp k) i (h 1 k) = true := bI_t (by rw [← w_17]; exact c_18)
          have e9 : (nI i) = nI (bM (cM g h jp k) (h 1 k) (i + 1)) := congrArg nI (by rw [bM_s]; simp [ea, e5, e7])
          rw [e9] at hl
          exact ih (i + 1) (by omega) H locs hP hD hS ls (lv_sub hl [0, 1, 6, 7] rfl)
      · refine lv_iload hx hb dM_greatest_58 (lv_at hl 3 rfl) ?_
        refine lv_iload hx hb dM_greatest_60 (lv_at hl 2 rfl) ?_
        refine lv_icmp_ne (tgt := 81) hx hb dM_greatest_62 (by decide) (fun c_19 => ?_) (fun c_19 => ?_)
        · refine lv_iinc (v := nI (i + 1)) (lv' := [(3, .int (nI (i + 1))), (7, .int 1), (6, .int (nI (i ^^^ bM (cM g h jp k) (h 1 k) i))), (5, .int (nI (pop (bM (cM g h jp k) (h 1 k) i)))), (4, .int (nI (pop i))), (2, .int (nI (bM (cM g h jp k) (h 1 k) i))), (1, .int (nI k)), (0, .ref (ad 0))]) hx hb dM_greatest_81 hl (k := 4) rfl (nI_1 _) (by decide) rfl (fun ls hl => ?_)
          refine lv_goto (tgt := 4) hx hb dM_greatest_84 (by decide) ?_
          have ea : ahM i (bM (cM g h jp k) (h 1 k) i) = true := by unfold ahM; simp [show ¬ (nI i &&& nI (i ^^^ bM (cM g h jp k) (h 1 k) i)) &&& -nI (i ^^^ bM (cM g h jp k) (h 1 k) i) = 0 from c_6]
          have e5 : ¬ pop (bM (cM g h jp k) (h 1 k) i) < pop i := fun z => c_14 (nI_lt z (by have := pop_le i; omega))
          have e6 : ¬ pop i = pop (bM (cM g h jp k) (h 1 k) i) := fun z => c_19 (by rw [z])
          have e9 : (nI (bM (cM g h jp k) (h 1 k) i)) = nI (bM (cM g h jp k) (h 1 k) (i + 1)) := congrArg nI (by rw [bM_s]; simp [ea, e5, e6])
          rw [e9] at hl
          exact ih (i + 1) (by omega) H locs hP hD hS ls (lv_sub hl [0, 5, 6, 7] rfl)
        · refine lv_iload hx hb dM_greatest_65 (lv_at hl 0 rfl) ?_
          refine lv_if_eq (tgt := 81) hx hb dM_greatest_67 (by decide) (fun c_20 => absurd c_20 (by decide)) (fun c_20 => ?_)
          refine lv_aload_n hx hb dM_greatest_70 rfl (lv_at hl 7 rfl) ?_
          refine lv_iload_n hx hb dM_greatest_71 rfl (lv_at hl 6 rfl) ?_
          refine lv_iload_n hx hb dM_greatest_72 rfl (lv_at hl 4 rfl) ?_
          refine kVi (n := 2) (D := D) (wd := fun z => mw CA z ad) (A1 := fun sz => mA ad sz) (As := [.int (nI k), .int (nI i)]) (rest := []) ⟨hx, hb, hml, hown, hT⟩ (kM_isClashing l D CA g ad H.size h jp hm k i hk (by omega)) (gi_V wm_652 wm_654 wp_16 wm_4 wm_655) rfl rfl (by decide +kernel) ⟨(Nat.le_of_ble_eq_true rfl), (Nat.le_of_ble_eq_true rfl)⟩ (va_recv hK hP (ci := 4) (q0 := 0) rfl mw_O) hK hP hD hS (fun _ h9 => h9) (nA_mono hS.1) rfl hl.1 rfl (Nat.le_of_ble_eq_true rfl) dM_greatest_73 ⟨(Nat.le_of_ble_eq_true rfl), (Nat.le_of_ble_eq_true rfl)⟩ (fun r_21 u_22 H locs w_23 hz hP hD hS => ?_)
          obtain ⟨w_23, hu9⟩ := w_23
          rw [hu9] at hP hD
          refine lv_if_eq (tgt := 81) hx hb dM_greatest_76 (by decide) (fun c_24 => ?_) (fun c_24 => ?_)
          · refine lv_iinc (v := nI (i + 1)) (lv' := [(3, .int (nI (i + 1))), (7, .int 1), (6, .int (nI (i ^^^ bM (cM g h jp k) (h 1 k) i))), (5, .int (nI (pop (bM (cM g h jp k) (h 1 k) i)))), (4, .int (nI (pop i))), (2, .int (nI (bM (cM g h jp k) (h 1 k) i))), (1, .int (nI k)), (0, .ref (ad 0))]) hx hb dM_greatest_81 hl (k := 4) rfl (nI_1 _) (by decide) rfl (fun ls hl => ?_)
            refine lv_goto (tgt := 4) hx hb dM_greatest_84 (by decide) ?_
            have ea : ahM i (bM (cM g h jp k) (h 1 k) i) = true := by unfold ahM; simp [show ¬ (nI i &&& nI (i ^^^ bM (cM g h jp k) (h 1 k) i)) &&& -nI (i ^^^ bM (cM g h jp k) (h 1 k) i) = 0 from c_6]
            have e5 : ¬ pop (bM (cM g h jp k) (h 1 k) i) < pop i := fun z => c_14 (nI_lt z (by have := pop_le i; omega))
            have e6 : pop i = pop (bM (cM g h jp k) (h 1 k) i) := (nI_eq (by have := pop_le i; omega) (by have := pop_le (bM (cM g h jp k) (h 1 k) i); omega)).mp c_19
            have e7 : icO (cM g h jp k) i (h 1 k) = false := bI_f (by rw [← w_23]; exact c_24)
            have e9 : (nI (bM (cM g h jp k) (h 1 k) i)) = nI (bM (cM g h jp k) (h 1 k) (i + 1)) := congrArg nI (by rw [bM_s]; simp [ea, e5, e6, e7])
            rw [e9] at hl
            exact ih (i + 1) (by omega) H locs hP hD hS ls (lv_sub hl [0, 5, 6, 7] rfl)
          · refine lv_iload_n hx hb dM_greatest_79 rfl (lv_at hl 4 rfl) ?_
            refine lv_istore_n (lv' := [(2, .int (nI i)), (7, .int 1), (6, .int (nI (i ^^^ bM (cM g h jp k) (h 1 k) i))), (5, .int (nI (pop (bM (cM g h jp k) (h 1 k) i)))), (4, .int (nI (pop i))), (3, .int (nI i)), (1, .int (nI k)), (0, .ref (ad 0))]) hx hb dM_greatest_80 rfl hl (by decide) rfl (fun ls hl => ?_)
            refine lv_iinc (v := nI (i + 1)) (lv' := [(3, .int (nI (i + 1))), (2, .int (nI i)), (7, .int 1), (6, .int (nI (i ^^^ bM (cM g h jp k) (h 1 k) i))), (5, .int (nI (pop (bM (cM g h jp k) (h 1 k) i)))), (4, .int (nI (pop i))), (1, .int (nI k)), (0, .ref (ad 0))]) hx hb dM_greatest_81 hl (k := 5) rfl (nI_1 _) (by decide) rfl (fun ls hl => ?_)
            refine lv_goto (tgt := 4) hx hb dM_greatest_84 (by decide) ?_
            have ea : ahM i (bM (cM g h jp k) (h 1 k) i) = true := by unfold ahM; simp [show ¬ (nI i &&& nI (i ^^^ bM (cM g h jp k) (h 1 k) i)) &&& -nI (i ^^^ bM (cM g h jp k) (h 1 k) i) = 0 from c_6]
            have e5 : ¬ pop (bM (cM g h jp k) (h 1 k) i) < pop i := fun z => c_14 (nI_lt z (by have := pop_le i; omega))
            have e6 : pop i = pop (bM (cM g h jp k) (h 1 k) i) := (nI_eq (by have := pop_le i; omega) (by have := pop_le (bM (cM g h jp k) (h 1 k) i); omega)).mp c_19
            have e7 : icO (cM g h jp k) i (h 1 k) = true := bI_t (by rw [← w_23]; exact c_24)
            have e9 : (nI i) = nI (bM (cM g h jp k) (h 1 k) (i + 1)) := congrArg nI (by rw [bM_s]; simp [ea, e5, e6, e7])
            rw [e9] at hl
            exact ih (i + 1) (by omega) H locs hP hD hS ls (lv_sub hl [0, 1, 6, 7] rfl)
theorem bM_1 (cm : Nat → Nat → Bool) (n : Nat) : bM cm n 1 = 0 := by
  have := bM_le cm n 0
  unfold bM
  have e : bM cm n 0 = 0 := by omega
  rw [e]
  split <;> rfl
set_option maxHeartbeats 4000000 in
set_option maxRecDepth 100000 in
theorem kM_greatest (l : Launch) (D : va_G) (CA : Nat → ClassId) (g : Nat → Nat → Int32) (ad : Nat → Nat) (sz : Nat) (h : Nat → Nat → Nat) (jp : Nat → Nat) (hm : MI g h jp) (k : Nat) (hk : k < 6) : Met l yM_greatest wM_greatest (rm 3 0 0) (va_Pc [.ref (ad 0), .int (nI k)] (gpre D (cty CA) (mw CA g ad) sz)) (va_Qi (fun r (u : Nat → Nat → Int32) => r = nI (bM (cM g h jp k) (h 1 k) (2 ^ h 1 k)) ∧ u = g) (fun u t => gpost D (cty CA) (mw CA u ad) (mA ad sz) t) (mA ad sz)) 0 0 (mA ad sz) := by
  refine Met.ofW (cc := cM_greatest) (maxL := 8) (ret := (some .int)) (by decide) rfl ?_
  intro p e s m args below meth c s₁ B hml hv
  obtain ⟨rfl, hsz, hP, hK, hD0⟩ := hv
  have hx := B.exec
  have hb := B.bytes
  have hr := B.returns
  have hT : ∀ w ∈ TB, w.before _ s = true := fun w hw => atoms_spec (ws := wM_greatest) B.pre w (List.mem_cons_of_mem _ hw)
  have hown : s.vm.findClass "CountLeastModel" = some m.cls := findClass_of_methodNamed B.named
  have hlocks := B.notSynchronized
  subst hsz
  have hD := nA_self (sz := s.heap.size) hD0
  have hS : va_S (mA ad s.heap.size) s.heap s.heap [] := va_S.rf
  have hP : va_P D vwCl (mw CA g ad) s.heap := hP
  have hl := lv_entry ([.ref (ad 0), .int (nI k)]) (n := 8) (Nat.le_of_ble_eq_true rfl)
  rw [lg_entry_eq]
  generalize (lg_sl ([.ref (ad 0), .int (nI k)]) ++ List.replicate (8 - (lg_sl ([.ref (ad 0), .int (nI k)])).length) Slot.unset).toArray = ls at hl ⊢
  have hl : lv_has ls 8 [(0, .ref (ad 0)), (1, .int (nI k))] := hl
  refine lv_iconst (v := 0) hx hb dM_greatest_0 (by decide) ?_
  refine lv_istore_n (lv' := [(2, .int 0), (0, .ref (ad 0)), (1, .int (nI k))]) hx hb dM_greatest_1 rfl hl (by decide) rfl (fun ls hl => ?_)
  refine lv_iconst (v := 1) hx hb dM_greatest_2 (by decide) ?_
  refine lv_istore_n (lv' := [(3, .int 1), (2, .int 0), (0, .ref (ad 0)), (1, .int (nI k))]) hx hb dM_greatest_3 rfl hl (by decide) rfl (fun ls hl => ?_)
  have h12 := hm.c12 hk
  have h1p : 1 ≤ 2 ^ h 1 k := Nat.one_le_two_pow
  have hl : lv_has ls 8 [(3, .int (nI 1)), (2, .int (nI (bM (cM g h jp k) (h 1 k) 1))), (1, .int (nI k)), (0, .ref (ad 0))] := lv_sub hl [0, 1, 3, 2] (by rw [bM_1]; rfl)
  refine loM_greatest hm hk hx hb hml hown hT hK (fun H locs hP hD hS ls hl => ?_) (2 ^ h 1 k - 1) 1 (by omega) _ _ hP hD hS ls hl
  refine lv_iload_n hx hb dM_greatest_87 rfl (lv_at hl 1 rfl) ?_
  exact W.iret (v := nI (bM (cM g h jp k) (h 1 k) (2 ^ h 1 k))) hx hb hr (fun t ht hW => ⟨⟨_, g, rfl, ⟨rfl, rfl⟩, gpost_at hP hK hD ht hW.alike⟩, hS.F ht⟩) hS.2.2 dM_greatest_88
