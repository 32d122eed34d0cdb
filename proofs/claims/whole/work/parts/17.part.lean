/-! the parting's cells -/
def zg (k : Nat) (g : Nat → Nat → Int32) (i : Nat) : Nat → Nat → Int32 := fun a b => if (a = 9 + 9 * k ∨ a = 11 + 9 * k) ∧ b < i then 0 else g a b
theorem zg_0 {k : Nat} {g : Nat → Nat → Int32} : zg k g 0 = g := by
  funext a b
  simp [zg]
theorem zg_s {k i : Nat} {g : Nat → Nat → Int32} : u2 (u2 (zg k g i) (9 + 9 * k) i 0) (11 + 9 * k) i 0 = zg k g (i + 1) := by
  funext a b
  by_cases h1 : a = 9 + 9 * k
  · subst h1
    by_cases h2 : b = i
    · subst h2; simp [u2, zg]
    · have : b < i ↔ b < i + 1 := by omega
      simp [u2, zg, h2, this]
  · by_cases h1 : a = 11 + 9 * k
    · subst h1
      by_cases h2 : b = i
      · subst h2; simp [u2, zg]
      · have : b < i ↔ b < i + 1 := by omega
        simp [u2, zg, h2, this]
    · simp [u2, zg, *]
theorem mm12 : ∀ n, n < 13 → (if 0 < (if (12 : Int32) < nI n then 12 else nI n) then (if (12 : Int32) < nI n then 12 else nI n) else 0) = nI n := by decide +kernel
/-- the k-th set bit among the first n places, from place i on, q bits passed: its place, or -1 -/
def pof (m : Nat) (x : Int32) : Nat → Nat → Nat → Int32
  | 0, _, _ => -1
  | n + 1, i, q => if m.testBit i = false then pof m x n (i + 1) q else if nI q = x then nI i else pof m x n (i + 1) (q + 1)
theorem shb (m i : Nat) (hm : m < 4096) (hi : i < 12) : (nI m >>> (nI i &&& 31)) &&& 1 = 0 ↔ m.testBit i = false := by
  have e1 : nI m >>> (nI i &&& 31) = nI (m / 2 ^ i) := pk_shrN (by omega) (nI i &&& 31) i (by
    have : ∀ i : Fin 12, ((nI i.val &&& 31).toBitVec.smod 32).toNat = i.val := by decide +kernel
    exact this ⟨i, hi⟩)
  have hlt : m / 2 ^ i < 2 ^ 32 := Nat.lt_of_le_of_lt (Nat.div_le_self _ _) (by omega)
  rw [e1, pk_andN hlt 1 (by decide), show (0 : Int32) = nI 0 from rfl, nI_eq (by have := Nat.mod_lt (m / 2 ^ i) (show 0 < 2 ^ 1 by decide); omega) (by decide)]
  rw [Nat.testBit_eq_decide_div_mod_eq]
  have := Nat.mod_lt (m / 2 ^ i) (show 0 < 2 by decide)
  simp
set_option maxHeartbeats 4000000 in
set_option maxRecDepth 100000 in
theorem loC_commonDivisor {p : Program} {l : Launch} {e : Env} {s : State} {m : MethodId} {args : Array Value} {below : List Frame} {meth : Method} {c : Code} {Q : State → Prop} {cells slots : Nat} {H : Heap} {locs : List Loc} {R : Room} (hx : p.tables.exec = Jvm.exec) (hb : c.code = cC_commonDivisor) (hml : c.maxLocals = 6) (hown : s.vm.findClass "CountLeast" = some m.cls) (hT : ∀ w ∈ TB, w.before args s = true) :
    ∀ (n i x y : Nat), i + n = 64 → x < 2 ^ 31 → y < 2 ^ 31 → (∀ ls, lv_has ls 6 [(2, .int (nI (ed n x y)))] → W p l e R s m args below meth c H locs cells slots Q (F0 m 34 ls [])) → ∀ ls, lv_has ls 6 [(4, .int (nI i)), (3, .int (nI y)), (2, .int (nI x))] → W p l e R s m args below meth c H locs cells slots Q (F0 m 7 ls []) := by
  intro n
  induction n with
  | zero =>
    intro i x y hi hx9 hy9 kx ls hl
    have hi : i = 64 := by omega
    subst hi
    refine lv_iload hx hb dC_commonDivisor_7 (lv_at hl 0 rfl) ?_
    refine lv_bipush (v := 64) hx hb dC_commonDivisor_9 (by decide) ?_
    refine lv_icmp_ge (tgt := 34) hx hb dC_commonDivisor_11 (by decide) (fun c_1 => ?_) (fun c_1 => absurd (by decide) c_1)
    exact kx ls (lv_sub hl [2] rfl)
  | succ n ih =>
    intro i x y hi hx9 hy9 kx ls hl
    refine lv_iload hx hb dC_commonDivisor_7 (lv_at hl 0 rfl) ?_
    refine lv_bipush (v := 64) hx hb dC_commonDivisor_9 (by decide) ?_
    refine lv_icmp_ge (tgt := 34) hx hb dC_commonDivisor_11 (by decide) (fun c_1 => absurd c_1 (nI_ge (b := 64) (by omega) (by decide))) (fun c_1 => ?_)
    refine lv_iload_n hx hb dC_commonDivisor_14 rfl (lv_at hl 1 rfl) ?_
    refine lv_if_eq (tgt := 34) hx hb dC_commonDivisor_15 (by decide) (fun c_2 => ?_) (fun c_2 => ?_)
    · have hy0 : y = 0 := (nI_eq hy9 (by decide)).mp c_2
      exact kx ls (by rw [ed, if_pos hy0]; exact lv_sub hl [2] rfl)
    · have hy0 : ¬ y = 0 := fun q => c_2 (by rw [q]; rfl)
      refine lv_iload_n hx hb dC_commonDivisor_18 rfl (lv_at hl 2 rfl) ?_
      refine lv_iload_n hx hb dC_commonDivisor_19 rfl (lv_at hl 1 rfl) ?_
      refine lv_irem hx hb dC_commonDivisor_20 c_2 ?_
      refine W.eq (g2 := F0 m 21 ls [.int (nI (x % y))]) (by rw [pk_rem hx9 (Nat.pos_of_ne_zero hy0) hy9]) ?_
      refine lv_istore (lv' := [(5, .int (nI (x % y))), (4, .int (nI i)), (3, .int (nI y)), (2, .int (nI x))]) hx hb dC_commonDivisor_21 hl (by decide) rfl (fun ls hl => ?_)
      refine lv_iload_n hx hb dC_commonDivisor_23 rfl (lv_at hl 2 rfl) ?_
      refine lv_istore_n (lv' := [(2, .int (nI y)), (5, .int (nI (x % y))), (4, .int (nI i)), (3, .int (nI y))]) hx hb dC_commonDivisor_24 rfl hl (by decide) rfl (fun ls hl => ?_)
      refine lv_iload hx hb dC_commonDivisor_25 (lv_at hl 1 rfl) ?_
      refine lv_istore_n (lv' := [(3, .int (nI (x % y))), (2, .int (nI y)), (5, .int (nI (x % y))), (4, .int (nI i))]) hx hb dC_commonDivisor_27 rfl hl (by decide) rfl (fun ls hl => ?_)
      refine lv_iinc (v := nI (i + 1)) (lv' := [(4, .int (nI (i + 1))), (3, .int (nI (x % y))), (2, .int (nI y)), (5, .int (nI (x % y)))]) hx hb dC_commonDivisor_28 hl (k := 3) rfl (nI_1 _) (by decide) rfl (fun ls hl => ?_)
      refine lv_goto (tgt := 7) hx hb dC_commonDivisor_31 (by decide) ?_
      exact ih (i + 1) y (x % y) (by omega) hy9 (Nat.lt_trans (Nat.mod_lt _ (by omega)) hy9) (fun ls hl => kx ls (by rw [ed, if_neg hy0]; exact hl)) ls (lv_sub hl [0, 1, 2] rfl)
set_option maxHeartbeats 4000000 in
set_option maxRecDepth 100000 in
theorem kC_commonDivisor (l : Launch) (a b : Nat) (ha9 : a < 2 ^ 31) (hb9 : b < 2 ^ 31) : Met l yC_commonDivisor wC_commonDivisor (rm 0 0 0) (va_Pc [.int (nI a), .int (nI b)] (fun _ => True)) (va_Qi (fun r (_ : Unit) => r = nI (ed 64 a b)) (fun _ _ => True) (fun _ => False)) 0 0 (fun _ => False) := by
  refine Met.ofW (cc := cC_commonDivisor) (maxL := 6) (ret := (some .int)) (by decide) rfl ?_
  intro p e s m args below meth c s₁ B hml hv
  obtain ⟨rfl, -⟩ := hv
  have hx := B.exec
  have hb := B.bytes
  have hr := B.returns
  have hT : ∀ w ∈ TB, w.before _ s = true := fun w hw => atoms_spec (ws := wC_commonDivisor) B.pre w (List.mem_cons_of_mem _ hw)
  have hown : s.vm.findClass "CountLeast" = some m.cls := findClass_of_methodNamed B.named
  have hlocks := B.notSynchronized
  have hS : va_S (fun _ => False) s.heap s.heap [] := va_S.rf
  have hl := lv_entry ([.int (nI a), .int (nI b)]) (n := 6) (Nat.le_of_ble_eq_true rfl)
  rw [lg_entry_eq]
  generalize (lg_sl ([.int (nI a), .int (nI b)]) ++ List.replicate (6 - (lg_sl ([.int (nI a), .int (nI b)])).length) Slot.unset).toArray = ls at hl ⊢
  have hl : lv_has ls 6 [(0, .int (nI a)), (1, .int (nI b))] := hl
  refine lv_iload_n hx hb dC_commonDivisor_0 rfl (lv_at hl 0 rfl) ?_
  refine lv_istore_n (lv' := [(2, .int (nI a)), (0, .int (nI a)), (1, .int (nI b))]) hx hb dC_commonDivisor_1 rfl hl (by decide) rfl (fun ls hl => ?_)
  refine lv_iload_n hx hb dC_commonDivisor_2 rfl (lv_at hl 2 rfl) ?_
  refine lv_istore_n (lv' := [(3, .int (nI b)), (2, .int (nI a)), (0, .int (nI a)), (1, .int (nI b))]) hx hb dC_commonDivisor_3 rfl hl (by decide) rfl (fun ls hl => ?_)
  refine lv_iconst (v := 0) hx hb dC_commonDivisor_4 (by decide) ?_
  refine lv_istore (lv' := [(4, .int 0), (3, .int (nI b)), (2, .int (nI a)), (0, .int (nI a)), (1, .int (nI b))]) hx hb dC_commonDivisor_5 hl (by decide) rfl (fun ls hl => ?_)
  refine loC_commonDivisor hx hb hml hown hT 64 0 a b (by omega) ha9 hb9 (fun ls hl => ?_) ls (lv_sub hl [0, 1, 2] rfl)
  refine lv_iload_n hx hb dC_commonDivisor_34 rfl (lv_at hl 0 rfl) ?_
  exact W.iret (v := nI (ed 64 a b)) hx hb hr (fun t ht hW => ⟨⟨_, (), rfl, rfl, trivial⟩, hS.F ht⟩) hS.2.2 dC_commonDivisor_35
set_option maxHeartbeats 4000000 in
set_option maxRecDepth 100000 in
theorem loP_begin {p : Program} {l : Launch} {e : Env} {s : State} {m : MethodId} {args : Array Value} {below : List Frame} {meth : Method} {c : Code} {Q : State → Prop} {cells slots : Nat} {R : Room} {D : va_G} {CA : Nat → ClassId} {g : Nat → Nat → Int32} {h : Nat → Nat → Nat} {ad : Nat → Nat} {k : Nat} (hk : k < 6) (hx : p.tables.exec = Jvm.exec) (hb : c.code = cP_begin) (hml : c.maxLocals = 3) (hown : s.vm.findClass "CountLeast$Parting" = some m.cls) (hT : ∀ w ∈ TB, w.before args s = true) (hK : va_K D vwCl (cty CA) s) (kx : ∀ (H : Heap) (locs : List Loc), va_P D vwCl (cw CA (zg k g 12) h ad) H → va_D (cA h ad s.heap.size) (cw CA (zg k g 12) h ad) → va_S (cA h ad s.heap.size) s.heap H locs → ∀ ls, lv_has ls 3 [(0, .ref (ad (8 + 9 * k)))] → W p l e R s m args below meth c H locs cells slots Q (F0 m 42 ls [])) :
    ∀ (n i : Nat), i + n = 12 → ∀ (H : Heap) (locs : List Loc), va_P D vwCl (cw CA (zg k g i) h ad) H → va_D (cA h ad s.heap.size) (cw CA (zg k g i) h ad) → va_S (cA h ad s.heap.size) s.heap H locs → ∀ ls, lv_has ls 3 [(2, .int (nI i)), (0, .ref (ad (8 + 9 * k)))] → W p l e R s m args below meth c H locs cells slots Q (F0 m 16 ls []) := by
  intro n
  induction n with
  | zero =>
    intro i hi H locs hP hD hS ls hl
    have hi : i = 12 := by omega
    subst hi
    refine lv_iload_n hx hb dP_begin_16 rfl (lv_at hl 0 rfl) ?_
    refine lv_bipush (v := 12) hx hb dP_begin_17 (by decide) ?_
    refine lv_icmp_ge (tgt := 42) hx hb dP_begin_19 (by decide) (fun c_1 => ?_) (fun c_1 => absurd (by decide) c_1)
    exact kx H locs hP hD hS ls (lv_sub hl [1] rfl)
  | succ n ih =>
    intro i hi H locs hP hD hS ls hl
    refine lv_iload_n hx hb dP_begin_16 rfl (lv_at hl 0 rfl) ?_
    refine lv_bipush (v := 12) hx hb dP_begin_17 (by decide) ?_
    refine lv_icmp_ge (tgt := 42) hx hb dP_begin_19 (by decide) (fun c_1 => absurd c_1 (nI_ge (b := 12) (by omega) (by decide))) (fun c_1 => ?_)
    refine lv_aload_n hx hb dP_begin_22 rfl (lv_at hl 1 rfl) ?_
    refine va_get (D := D) (ci := 2) (C := RP) (T := TP) (N := 6) hx hb hT inP hown hK hP (8 + 9 * k) (cw_PT hk) rfl 3 (by decide) (hT _ wm_42) (fun _ h9 => h9) rfl dP_begin_23 ?_
    refine lv_iload_n hx hb dP_begin_26 rfl (lv_at hl 0 rfl) ?_
    refine lv_iconst (v := 0) hx hb dP_begin_27 (by decide) ?_
    refine va_iast (D := D) hx hb hK hP hD hS (9 + 9 * k) 0 (cw_FO hk) rfl (vp_in_nI (by omega) (by decide)) dP_begin_28 (fun H locs hP hD hS => ?_)
    rw [nI_clamp (n := i) (by omega), cw_sFO hk] at hP hD
    refine lv_aload_n hx hb dP_begin_29 rfl (lv_at hl 1 rfl) ?_
    refine va_get (D := D) (ci := 2) (C := RP) (T := TP) (N := 6) hx hb hT inP hown hK hP (8 + 9 * k) (cw_PT hk) rfl 5 (by decide) (hT _ wm_44) (fun _ h9 => h9) rfl dP_begin_30 ?_
    refine lv_iload_n hx hb dP_begin_33 rfl (lv_at hl 0 rfl) ?_
    refine lv_iconst (v := 0) hx hb dP_begin_34 (by decide) ?_
    refine va_iast (D := D) hx hb hK hP hD hS (11 + 9 * k) 0 (cw_IS hk) rfl (vp_in_nI (by omega) (by decide)) dP_begin_35 (fun H locs hP hD hS => ?_)
    rw [nI_clamp (n := i) (by omega), cw_sIS hk] at hP hD
    refine lv_iinc (v := nI (i + 1)) (lv' := [(2, .int (nI (i + 1))), (0, .ref (ad (8 + 9 * k)))]) hx hb dP_begin_36 hl (k := 0) rfl (nI_1 _) (by decide) rfl (fun ls hl => ?_)
    refine lv_goto (tgt := 16) hx hb dP_begin_39 (by decide) ?_
    rw [zg_s] at hP hD
    exact ih (i + 1) (by omega) H locs hP hD hS ls (lv_sub hl [0, 1] rfl)
set_option maxHeartbeats 4000000 in
set_option maxRecDepth 100000 in
theorem kP_begin (l : Launch) (D : va_G) (CA : Nat → ClassId) (g : Nat → Nat → Int32) (h : Nat → Nat → Nat) (ad : Nat → Nat) (sz : Nat) (k : Nat) (hk : k < 6) (n : Nat) (hn : n < 13) : Met l yP_begin wP_begin (rm 0 0 0) (va_Pc [.ref (ad (8 + 9 * k)), .int (nI n)] (gpre D (cty CA) (cw CA g h ad) sz)) (va_Qv (fun (u : Nat → Nat → Int32) => u = (zg k (u2 g (8 + 9 * k) 1 (nI n)) 12)) (fun u t => gpost D (cty CA) (cw CA u h ad) (cA h ad sz) t) (cA h ad sz)) 0 0 (cA h ad sz) := by
  refine Met.ofW (cc := cP_begin) (maxL := 3) (ret := none) (by decide) rfl ?_
  intro p e s m args below meth c s₁ B hml hv
  obtain ⟨rfl, hsz, hP, hK, hD0⟩ := hv
  have hx := B.exec
  have hb := B.bytes
  have hr := B.returns
  have hT : ∀ w ∈ TB, w.before _ s = true := fun w hw => atoms_spec (ws := wP_begin) B.pre w (List.mem_cons_of_mem _ hw)
  have hown : s.vm.findClass "CountLeast$Parting" = some m.cls := findClass_of_methodNamed B.named
  have hlocks := B.notSynchronized
  subst hsz
  have hD := nA_self (sz := s.heap.size) hD0
  have hS : va_S (cA h ad s.heap.size) s.heap s.heap [] := va_S.rf
  have hP : va_P D vwCl (cw CA g h ad) s.heap := hP
  have hl := lv_entry ([.ref (ad (8 + 9 * k)), .int (nI n)]) (n := 3) (Nat.le_of_ble_eq_true rfl)
  rw [lg_entry_eq]
  generalize (lg_sl ([.ref (ad (8 + 9 * k)), .int (nI n)]) ++ List.replicate (3 - (lg_sl ([.ref (ad (8 + 9 * k)), .int (nI n)])).length) Slot.unset).toArray = ls at hl ⊢
  have hl : lv_has ls 3 [(0, .ref (ad (8 + 9 * k))), (1, .int (nI n))] := hl
  refine lv_aload_n hx hb dP_begin_0 rfl (lv_at hl 0 rfl) ?_
  refine lv_iconst (v := 0) hx hb dP_begin_1 (by decide) ?_
  refine lv_iload_n hx hb dP_begin_2 rfl (lv_at hl 1 rfl) ?_
  refine lv_bipush (v := 12) hx hb dP_begin_3 (by decide) ?_
  refine va_mmin hx hb (hml.trans hl.1.symm) (own := "CountLeast$Parting") hown (hT _ wm_367) (hT _ wm_368) (hT _ wm_12) (hT _ wm_369) (Nat.le_of_ble_eq_true rfl) (Nat.le_of_ble_eq_true rfl) (Nat.le_of_ble_eq_true rfl) (Nat.le_of_ble_eq_true rfl) dP_begin_5 ?_
  refine va_mmax hx hb (hml.trans hl.1.symm) (own := "CountLeast$Parting") hown (hT _ wm_370) (hT _ wm_371) (hT _ wm_12) (hT _ wm_372) (Nat.le_of_ble_eq_true rfl) (Nat.le_of_ble_eq_true rfl) (Nat.le_of_ble_eq_true rfl) (Nat.le_of_ble_eq_true rfl) dP_begin_8 ?_
  refine W.eq (g2 := F0 m 11 ls [.int (nI n), .ref (ad (8 + 9 * k))]) (by rw [mm12 n hn]) ?_
  refine va_put (D := D) (ci := 2) (v := .int (nI n)) (ty := .int) (C := RP) (T := TP) (N := 6) hx hb hT inP tyP tyokP nmP hown hK hP hD hS (8 + 9 * k) (cw_PT hk) rfl 1 (by decide) (hT _ wm_40) (fun _ h9 => h9) rfl (by decide +kernel) rfl rfl (Nat.le_of_ble_eq_true rfl) dP_begin_11 (fun H locs hP hD hS => ?_)
  rw [cw_sP hk (by simp)] at hP hD
  refine lv_iconst (v := 0) hx hb dP_begin_14 (by decide) ?_
  refine lv_istore_n (lv' := [(2, .int 0), (0, .ref (ad (8 + 9 * k))), (1, .int (nI n))]) hx hb dP_begin_15 rfl hl (by decide) rfl (fun ls hl => ?_)
  rw [← zg_0 (k := k) (g := (u2 g (8 + 9 * k) 1 (nI n)))] at hP hD
  refine loP_begin hk hx hb hml hown hT hK (fun H locs hP hD hS ls hl => ?_) 12 0 (by omega) H locs hP hD hS ls (lv_sub hl [0, 1] rfl)
  exact W.vret hx hb hr (fun t ht hW => ⟨⟨(zg k (u2 g (8 + 9 * k) 1 (nI n)) 12), rfl, rfl, gpost_at hP hK hD ht hW.alike⟩, hS.F ht⟩) hS.2.2 dP_begin_42
set_option maxHeartbeats 4000000 in
set_option maxRecDepth 100000 in
theorem kP_setApart (l : Launch) (D : va_G) (CA : Nat → ClassId) (g : Nat → Nat → Int32) (h : Nat → Nat → Nat) (ad : Nat → Nat) (sz : Nat) (k : Nat) (hk : k < 6) (i j n : Nat) (hc : g (8 + 9 * k) 1 = nI n) (hn : n < 13) (hi : i < n) (hj : j < n) : Met l yP_setApart wP_setApart (rm 0 0 0) (va_Pc [.ref (ad (8 + 9 * k)), .int (nI i), .int (nI j)] (gpre D (cty CA) (cw CA g h ad) sz)) (va_Qv (fun (u : Nat → Nat → Int32) => u = (u2 (u2 g (9 + 9 * k) i ((g (9 + 9 * k) i) ||| (1 <<< ((nI j) &&& 31)))) (9 + 9 * k) j (((u2 g (9 + 9 * k) i ((g (9 + 9 * k) i) ||| (1 <<< ((nI j) &&& 31)))) (9 + 9 * k) j) ||| (1 <<< ((nI i) &&& 31))))) (fun u t => gpost D (cty CA) (cw CA u h ad) (cA h ad sz) t) (cA h ad sz)) 0 0 (cA h ad sz) := by
  refine Met.ofW (cc := cP_setApart) (maxL := 3) (ret := none) (by decide) rfl ?_
  intro p e s m args below meth c s₁ B hml hv
  obtain ⟨rfl, hsz, hP, hK, hD0⟩ := hv
  have hx := B.exec
  have hb := B.bytes
  have hr := B.returns
  have hT : ∀ w ∈ TB, w.before _ s = true := fun w hw => atoms_spec (ws := wP_setApart) B.pre w (List.mem_cons_of_mem _ hw)
  have hown : s.vm.findClass "CountLeast$Parting" = some m.cls := findClass_of_methodNamed B.named
  have hlocks := B.notSynchronized
  subst hsz
  have hD := nA_self (sz := s.heap.size) hD0
  have hS : va_S (cA h ad s.heap.size) s.heap s.heap [] := va_S.rf
  have hP : va_P D vwCl (cw CA g h ad) s.heap := hP
  have hl := lv_entry ([.ref (ad (8 + 9 * k)), .int (nI i), .int (nI j)]) (n := 3) (Nat.le_of_ble_eq_true rfl)
  rw [lg_entry_eq]
  generalize (lg_sl ([.ref (ad (8 + 9 * k)), .int (nI i), .int (nI j)]) ++ List.replicate (3 - (lg_sl ([.ref (ad (8 + 9 * k)), .int (nI i), .int (nI j)])).length) Slot.unset).toArray = ls at hl ⊢
  have hl : lv_has ls 3 [(0, .ref (ad (8 + 9 * k))), (1, .int (nI i)), (2, .int (nI j))] := hl
  refine lv_iload_n hx hb dP_setApart_0 rfl (lv_at hl 1 rfl) ?_
  refine lv_if_lt (tgt := 48) hx hb dP_setApart_1 (by decide) (fun c_1 => absurd c_1 (nI_pos (by omega))) (fun c_1 => ?_)
  refine lv_iload_n hx hb dP_setApart_4 rfl (lv_at hl 1 rfl) ?_
  refine lv_aload_n hx hb dP_setApart_5 rfl (lv_at hl 0 rfl) ?_
  refine va_get (D := D) (ci := 2) (C := RP) (T := TP) (N := 6) hx hb hT inP hown hK hP (8 + 9 * k) (cw_PT hk) rfl 1 (by decide) (hT _ wm_40) (fun _ h9 => h9) rfl dP_setApart_6 ?_
  refine lv_icmp_ge (tgt := 48) hx hb dP_setApart_9 (by decide) (fun c_2 => absurd c_2 (by rw [hc]; exact nI_ge hi (by omega))) (fun c_2 => ?_)
  refine lv_iload_n hx hb dP_setApart_12 rfl (lv_at hl 2 rfl) ?_
  refine lv_if_lt (tgt := 48) hx hb dP_setApart_13 (by decide) (fun c_3 => absurd c_3 (nI_pos (by omega))) (fun c_3 => ?_)
  refine lv_iload_n hx hb dP_setApart_16 rfl (lv_at hl 2 rfl) ?_
  refine lv_aload_n hx hb dP_setApart_17 rfl (lv_at hl 0 rfl) ?_
  refine va_get (D := D) (ci := 2) (C := RP) (T := TP) (N := 6) hx hb hT inP hown hK hP (8 + 9 * k) (cw_PT hk) rfl 1 (by decide) (hT _ wm_40) (fun _ h9 => h9) rfl dP_setApart_18 ?_
  refine lv_icmp_ge (tgt := 48) hx hb dP_setApart_21 (by decide) (fun c_4 => absurd c_4 (by rw [hc]; exact nI_ge hj (by omega))) (fun c_4 => ?_)
  refine lv_aload_n hx hb dP_setApart_24 rfl (lv_at hl 0 rfl) ?_
  refine va_get (D := D) (ci := 2) (C := RP) (T := TP) (N := 6) hx hb hT inP hown hK hP (8 + 9 * k) (cw_PT hk) rfl 3 (by decide) (hT _ wm_42) (fun _ h9 => h9) rfl dP_setApart_25 ?_
  refine lv_iload_n hx hb dP_setApart_28 rfl (lv_at hl 1 rfl) ?_
  refine lv_dup2_11 hx hb dP_setApart_29 rfl rfl ?_
  refine va_iald (D := D) hx hb hK hP (9 + 9 * k) 0 (cw_FO hk) rfl (vp_in_nI (by omega) (by decide)) dP_setApart_30 ?_
  rw [nI_clamp (n := i) (by omega)]
  refine lv_iconst (v := 1) hx hb dP_setApart_31 (by decide) ?_
  refine lv_iload_n hx hb dP_setApart_32 rfl (lv_at hl 2 rfl) ?_
  refine lv_ishl hx hb dP_setApart_33 ?_
  refine lv_ior hx hb dP_setApart_34 ?_
  refine va_iast (D := D) hx hb hK hP hD hS (9 + 9 * k) 0 (cw_FO hk) rfl (vp_in_nI (by omega) (by decide)) dP_setApart_35 (fun H locs hP hD hS => ?_)
  rw [nI_clamp (n := i) (by omega), cw_sFO hk] at hP hD
  refine lv_aload_n hx hb dP_setApart_36 rfl (lv_at hl 0 rfl) ?_
  refine va_get (D := D) (ci := 2) (C := RP) (T := TP) (N := 6) hx hb hT inP hown hK hP (8 + 9 * k) (cw_PT hk) rfl 3 (by decide) (hT _ wm_42) (fun _ h9 => h9) rfl dP_setApart_37 ?_
  refine lv_iload_n hx hb dP_setApart_40 rfl (lv_at hl 2 rfl) ?_
  refine lv_dup2_11 hx hb dP_setApart_41 rfl rfl ?_
  refine va_iald (D := D) hx hb hK hP (9 + 9 * k) 0 (cw_FO hk) rfl (vp_in_nI (by omega) (by decide)) dP_setApart_42 ?_
  rw [nI_clamp (n := j) (by omega)]
  refine lv_iconst (v := 1) hx hb dP_setApart_43 (by decide) ?_
  refine lv_iload_n hx hb dP_setApart_44 rfl (lv_at hl 1 rfl) ?_
  refine lv_ishl hx hb dP_setApart_45 ?_
  refine lv_ior hx hb dP_setApart_46 ?_
  refine va_iast (D := D) hx hb hK hP hD hS (9 + 9 * k) 0 (cw_FO hk) rfl (vp_in_nI (by omega) (by decide)) dP_setApart_47 (fun H locs hP hD hS => ?_)
  rw [nI_clamp (n := j) (by omega), cw_sFO hk] at hP hD
  exact W.vret hx hb hr (fun t ht hW => ⟨⟨(u2 (u2 g (9 + 9 * k) i ((g (9 + 9 * k) i) ||| (1 <<< ((nI j) &&& 31)))) (9 + 9 * k) j (((u2 g (9 + 9 * k) i ((g (9 + 9 * k) i) ||| (1 <<< ((nI j) &&& 31)))) (9 + 9 * k) j) ||| (1 <<< ((nI i) &&& 31)))), rfl, rfl, gpost_at hP hK hD ht hW.alike⟩, hS.F ht⟩) hS.2.2 dP_setApart_48
set_option maxHeartbeats 4000000 in
set_option maxRecDepth 100000 in
theorem kP_setOf (l : Launch) (D : va_G) (CA : Nat → ClassId) (g : Nat → Nat → Int32) (h : Nat → Nat → Nat) (ad : Nat → Nat) (sz : Nat) (k : Nat) (hk : k < 6) (x : Int32) (n : Nat) (hc : g (8 + 9 * k) 1 = nI n) (hn : n < 13) : Met l yP_setOf wP_setOf (rm 0 0 0) (va_Pc [.ref (ad (8 + 9 * k)), .int x] (gpre D (cty CA) (cw CA g h ad) sz)) (va_Qi (fun r (u : Nat → Nat → Int32) => (∀ j, j < n → x = nI j → r = g (10 + 9 * k) j) ∧ (ib x (nI n) → r = -1) ∧ u = g) (fun u t => gpost D (cty CA) (cw CA u h ad) (cA h ad sz) t) (cA h ad sz)) 0 0 (cA h ad sz) := by
  refine Met.ofW (cc := cP_setOf) (maxL := 2) (ret := (some .int)) (by decide) rfl ?_
  intro p e s m args below meth c s₁ B hml hv
  obtain ⟨rfl, hsz, hP, hK, hD0⟩ := hv
  have hx := B.exec
  have hb := B.bytes
  have hr := B.returns
  have hT : ∀ w ∈ TB, w.before _ s = true := fun w hw => atoms_spec (ws := wP_setOf) B.pre w (List.mem_cons_of_mem _ hw)
  have hown : s.vm.findClass "CountLeast$Parting" = some m.cls := findClass_of_methodNamed B.named
  have hlocks := B.notSynchronized
  subst hsz
  have hD := nA_self (sz := s.heap.size) hD0
  have hS : va_S (cA h ad s.heap.size) s.heap s.heap [] := va_S.rf
  have hP : va_P D vwCl (cw CA g h ad) s.heap := hP
  have hl := lv_entry ([.ref (ad (8 + 9 * k)), .int x]) (n := 2) (Nat.le_of_ble_eq_true rfl)
  rw [lg_entry_eq]
  generalize (lg_sl ([.ref (ad (8 + 9 * k)), .int x]) ++ List.replicate (2 - (lg_sl ([.ref (ad (8 + 9 * k)), .int x])).length) Slot.unset).toArray = ls at hl ⊢
  have hl : lv_has ls 2 [(0, .ref (ad (8 + 9 * k))), (1, .int x)] := hl
  refine lv_iload_n hx hb dP_setOf_0 rfl (lv_at hl 1 rfl) ?_
  refine lv_if_lt (tgt := 12) hx hb dP_setOf_1 (by decide) (fun c_1 => ?_) (fun c_1 => ?_)
  · refine lv_iconst (v := (-1)) hx hb dP_setOf_12 (by decide) ?_
    refine lv_goto (tgt := 22) hx hb dP_setOf_13 (by decide) ?_
    exact W.iret (v := (-1)) hx hb hr (fun t ht hW => ⟨⟨_, g, rfl, ⟨fun j9 hj9 e9 => absurd (show ib x (nI n) by first | exact Or.inl c_1 | exact Or.inr (by rw [← hc]; exact c_2)) (by rw [e9]; exact nib hj9 (by omega)), fun _ => rfl, rfl⟩, gpost_at hP hK hD ht hW.alike⟩, hS.F ht⟩) hS.2.2 dP_setOf_22
  · refine lv_iload_n hx hb dP_setOf_4 rfl (lv_at hl 1 rfl) ?_
    refine lv_aload_n hx hb dP_setOf_5 rfl (lv_at hl 0 rfl) ?_
    refine va_get (D := D) (ci := 2) (C := RP) (T := TP) (N := 6) hx hb hT inP hown hK hP (8 + 9 * k) (cw_PT hk) rfl 1 (by decide) (hT _ wm_40) (fun _ h9 => h9) rfl dP_setOf_6 ?_
    refine lv_icmp_lt (tgt := 16) hx hb dP_setOf_9 (by decide) (fun c_2 => ?_) (fun c_2 => ?_)
    · obtain ⟨j, hj, rfl⟩ := ibn (n := n) (by omega) (show ¬ ib x (nI n) from not_or.mpr ⟨c_1, fun q => q (by rw [← hc]; exact c_2)⟩)
      refine lv_aload_n hx hb dP_setOf_16 rfl (lv_at hl 0 rfl) ?_
      refine va_get (D := D) (ci := 2) (C := RP) (T := TP) (N := 6) hx hb hT inP hown hK hP (8 + 9 * k) (cw_PT hk) rfl 4 (by decide) (hT _ wm_43) (fun _ h9 => h9) rfl dP_setOf_17 ?_
      refine lv_iload_n hx hb dP_setOf_20 rfl (lv_at hl 1 rfl) ?_
      refine va_iald (D := D) hx hb hK hP (10 + 9 * k) 0 (cw_SO hk) rfl (vp_in_nI (by omega) (by decide)) dP_setOf_21 ?_
      rw [nI_clamp (n := j) (by omega)]
      exact W.iret (v := g (10 + 9 * k) j) hx hb hr (fun t ht hW => ⟨⟨_, g, rfl, ⟨fun j9 hj9 e9 => by rw [(nI_eq (by omega) (by omega)).mp e9], fun q => absurd q (nib hj (by omega)), rfl⟩, gpost_at hP hK hD ht hW.alike⟩, hS.F ht⟩) hS.2.2 dP_setOf_22
    · refine lv_iconst (v := (-1)) hx hb dP_setOf_12 (by decide) ?_
      refine lv_goto (tgt := 22) hx hb dP_setOf_13 (by decide) ?_
      exact W.iret (v := (-1)) hx hb hr (fun t ht hW => ⟨⟨_, g, rfl, ⟨fun j9 hj9 e9 => absurd (show ib x (nI n) by first | exact Or.inl c_1 | exact Or.inr (by rw [← hc]; exact c_2)) (by rw [e9]; exact nib hj9 (by omega)), fun _ => rfl, rfl⟩, gpost_at hP hK hD ht hW.alike⟩, hS.F ht⟩) hS.2.2 dP_setOf_22
set_option maxHeartbeats 4000000 in
set_option maxRecDepth 100000 in
theorem loP_placeOfFoe {p : Program} {l : Launch} {e : Env} {s : State} {m : MethodId} {args : Array Value} {below : List Frame} {meth : Method} {c : Code} {Q : State → Prop} {cells slots : Nat} {R : Room} {D : va_G} {CA : Nat → ClassId} {g : Nat → Nat → Int32} {h : Nat → Nat → Nat} {ad : Nat → Nat} {k : Nat} (hk : k < 6) {H : Heap} {locs : List Loc} {c9 m9 : Nat} {x : Int32} (hc : g (8 + 9 * k) 1 = nI c9) (hc12 : c9 < 13) (hg : g (8 + 9 * k) 2 = nI m9) (hm : m9 < 4096) (hx : p.tables.exec = Jvm.exec) (hb : c.code = cP_placeOfFoe) (hml : c.maxLocals = 4) (hown : s.vm.findClass "CountLeast$Parting" = some m.cls) (hT : ∀ w ∈ TB, w.before args s = true) (hK : va_K D vwCl (cty CA) s) (hP : va_P D vwCl (cw CA g h ad) H) :
    ∀ (n i q : Nat), i + n = c9 → q ≤ i → (∀ r, r = pof m9 x n i q → (∀ ls, W p l e R s m args below meth c H locs cells slots Q (F0 m 40 ls [.int r])) ∧ ∀ ls, W p l e R s m args below meth c H locs cells slots Q (F0 m 29 ls [.int r])) → ∀ ls, lv_has ls 4 [(3, .int (nI i)), (2, .int (nI q)), (0, .ref (ad (8 + 9 * k))), (1, .int x)] → W p l e R s m args below meth c H locs cells slots Q (F0 m 4 ls []) := by
  intro n
  induction n with
  | zero =>
    intro i q hi hq kx ls hl
    have hi : i = c9 := by omega
    subst hi
    refine lv_iload_n hx hb dP_placeOfFoe_4 rfl (lv_at hl 0 rfl) ?_
    refine lv_aload_n hx hb dP_placeOfFoe_5 rfl (lv_at hl 2 rfl) ?_
    refine va_get (D := D) (ci := 2) (C := RP) (T := TP) (N := 6) hx hb hT inP hown hK hP (8 + 9 * k) (cw_PT hk) rfl 1 (by decide) (hT _ wm_40) (fun _ h9 => h9) rfl dP_placeOfFoe_6 ?_
    refine lv_icmp_ge (tgt := 39) hx hb dP_placeOfFoe_9 (by decide) (fun c_1 => ?_) (fun c_1 => absurd (by rw [hc]; exact nI_le (Nat.le_refl _) (by omega)) c_1)
    refine lv_iconst (v := (-1)) hx hb dP_placeOfFoe_39 (by decide) ?_
    exact (kx _ rfl).1 ls
  | succ n ih =>
    intro i q hi hq kx ls hl
    refine lv_iload_n hx hb dP_placeOfFoe_4 rfl (lv_at hl 0 rfl) ?_
    refine lv_aload_n hx hb dP_placeOfFoe_5 rfl (lv_at hl 2 rfl) ?_
    refine va_get (D := D) (ci := 2) (C := RP) (T := TP) (N := 6) hx hb hT inP hown hK hP (8 + 9 * k) (cw_PT hk) rfl 1 (by decide) (hT _ wm_40) (fun _ h9 => h9) rfl dP_placeOfFoe_6 ?_
    refine lv_icmp_ge (tgt := 39) hx hb dP_placeOfFoe_9 (by decide) (fun c_1 => absurd c_1 (by rw [hc]; exact nI_ge (by omega) (by omega))) (fun c_1 => ?_)
    refine lv_aload_n hx hb dP_placeOfFoe_12 rfl (lv_at hl 2 rfl) ?_
    refine va_get (D := D) (ci := 2) (C := RP) (T := TP) (N := 6) hx hb hT inP hown hK hP (8 + 9 * k) (cw_PT hk) rfl 2 (by decide) (hT _ wm_41) (fun _ h9 => h9) rfl dP_placeOfFoe_13 ?_
    refine lv_iload_n hx hb dP_placeOfFoe_16 rfl (lv_at hl 0 rfl) ?_
    refine lv_ishr hx hb dP_placeOfFoe_17 ?_
    refine lv_iconst (v := 1) hx hb dP_placeOfFoe_18 (by decide) ?_
    refine lv_iand hx hb dP_placeOfFoe_19 ?_
    refine lv_if_eq (tgt := 33) hx hb dP_placeOfFoe_20 (by decide) (fun c_2 => ?_) (fun c_2 => ?_)
    · refine lv_iinc (v := nI (i + 1)) (lv' := [(3, .int (nI (i + 1))), (2, .int (nI q)), (0, .ref (ad (8 + 9 * k))), (1, .int x)]) hx hb dP_placeOfFoe_33 hl (k := 0) rfl (nI_1 _) (by decide) rfl (fun ls hl => ?_)
      refine lv_goto (tgt := 4) hx hb dP_placeOfFoe_36 (by decide) ?_
      exact ih (i + 1) q (by omega) (by omega) (fun r hr => kx r (by rw [hr, pof, if_pos ((shb m9 i hm (by omega)).mp (by rw [← hg]; exact c_2))])) ls (lv_sub hl [0, 1, 2, 3] rfl)
    · refine lv_iload_n hx hb dP_placeOfFoe_23 rfl (lv_at hl 1 rfl) ?_
      refine lv_iload_n hx hb dP_placeOfFoe_24 rfl (lv_at hl 3 rfl) ?_
      refine lv_icmp_ne (tgt := 30) hx hb dP_placeOfFoe_25 (by decide) (fun c_3 => ?_) (fun c_3 => ?_)
      · refine lv_iinc (v := nI (q + 1)) (lv' := [(2, .int (nI (q + 1))), (3, .int (nI i)), (0, .ref (ad (8 + 9 * k))), (1, .int x)]) hx hb dP_placeOfFoe_30 hl (k := 1) rfl (nI_1 _) (by decide) rfl (fun ls hl => ?_)
        refine lv_iinc (v := nI (i + 1)) (lv' := [(3, .int (nI (i + 1))), (2, .int (nI (q + 1))), (0, .ref (ad (8 + 9 * k))), (1, .int x)]) hx hb dP_placeOfFoe_33 hl (k := 1) rfl (nI_1 _) (by decide) rfl (fun ls hl => ?_)
        refine lv_goto (tgt := 4) hx hb dP_placeOfFoe_36 (by decide) ?_
        exact ih (i + 1) (q + 1) (by omega) (by omega) (fun r hr => kx r (by rw [hr, pof, if_neg (fun z => c_2 (by rw [hg]; exact (shb m9 i hm (by omega)).mpr z)), if_neg c_3])) ls (lv_sub hl [0, 1, 2, 3] rfl)
      · refine lv_iload_n hx hb dP_placeOfFoe_28 rfl (lv_at hl 0 rfl) ?_
        exact (kx _ (by rw [pof, if_neg (fun z => c_2 (by rw [hg]; exact (shb m9 i hm (by omega)).mpr z)), if_pos c_3])).2 ls
set_option maxHeartbeats 4000000 in
set_option maxRecDepth 100000 in
theorem kP_placeOfFoe (l : Launch) (D : va_G) (CA : Nat → ClassId) (g : Nat → Nat → Int32) (h : Nat → Nat → Nat) (ad : Nat → Nat) (sz : Nat) (k : Nat) (hk : k < 6) (x : Int32) (c9 m9 : Nat) (hc : g (8 + 9 * k) 1 = nI c9) (hc12 : c9 < 13) (hg : g (8 + 9 * k) 2 = nI m9) (hm : m9 < 4096) : Met l yP_placeOfFoe wP_placeOfFoe (rm 0 0 0) (va_Pc [.ref (ad (8 + 9 * k)), .int x] (gpre D (cty CA) (cw CA g h ad) sz)) (va_Qi (fun r (u : Nat → Nat → Int32) => r = pof m9 x c9 0 0 ∧ u = g) (fun u t => gpost D (cty CA) (cw CA u h ad) (cA h ad sz) t) (cA h ad sz)) 0 0 (cA h ad sz) := by
  refine Met.ofW (cc := cP_placeOfFoe) (maxL := 4) (ret := (some .int)) (by decide) rfl ?_
  intro p e s m args below meth c s₁ B hml hv
  obtain ⟨rfl, hsz, hP, hK, hD0⟩ := hv
  have hx := B.exec
  have hb := B.bytes
  have hr := B.returns
  have hT : ∀ w ∈ TB, w.before _ s = true := fun w hw => atoms_spec (ws := wP_placeOfFoe) B.pre w (List.mem_cons_of_mem _ hw)
  have hown : s.vm.findClass "CountLeast$Parting" = some m.cls := findClass_of_methodNamed B.named
  have hlocks := B.notSynchronized
  subst hsz
  have hD := nA_self (sz := s.heap.size) hD0
  have hS : va_S (cA h ad s.heap.size) s.heap s.heap [] := va_S.rf
  have hP : va_P D vwCl (cw CA g h ad) s.heap := hP
  have hl := lv_entry ([.ref (ad (8 + 9 * k)), .int x]) (n := 4) (Nat.le_of_ble_eq_true rfl)
  rw [lg_entry_eq]
  generalize (lg_sl ([.ref (ad (8 + 9 * k)), .int x]) ++ List.replicate (4 - (lg_sl ([.ref (ad (8 + 9 * k)), .int x])).length) Slot.unset).toArray = ls at hl ⊢
  have hl : lv_has ls 4 [(0, .ref (ad (8 + 9 * k))), (1, .int x)] := hl
  refine lv_iconst (v := 0) hx hb dP_placeOfFoe_0 (by decide) ?_
  refine lv_istore_n (lv' := [(2, .int 0), (0, .ref (ad (8 + 9 * k))), (1, .int x)]) hx hb dP_placeOfFoe_1 rfl hl (by decide) rfl (fun ls hl => ?_)
  refine lv_iconst (v := 0) hx hb dP_placeOfFoe_2 (by decide) ?_
  refine lv_istore_n (lv' := [(3, .int 0), (2, .int 0), (0, .ref (ad (8 + 9 * k))), (1, .int x)]) hx hb dP_placeOfFoe_3 rfl hl (by decide) rfl (fun ls hl => ?_)
  refine loP_placeOfFoe hk hc hc12 hg hm hx hb hml hown hT hK hP c9 0 0 (by omega) (Nat.le_refl _) (fun r9 hr9 => ?_) ls (lv_sub hl [0, 1, 2, 3] rfl)
  refine ⟨fun ls => ?_, fun ls => ?_⟩
  · exact W.iret (v := r9) hx hb hr (fun t ht hW => ⟨⟨_, g, rfl, ⟨hr9, rfl⟩, gpost_at hP hK hD ht hW.alike⟩, hS.F ht⟩) hS.2.2 dP_placeOfFoe_40
  · exact W.iret (v := r9) hx hb hr (fun t ht hW => ⟨⟨_, g, rfl, ⟨hr9, rfl⟩, gpost_at hP hK hD ht hW.alike⟩, hS.F ht⟩) hS.2.2 dP_placeOfFoe_29
