/-! the search, the marks -/
def n32 (x : Int32) : Nat := x.toBitVec.toNat
theorem n32_nI (x : Int32) : nI (n32 x) = x := by
  apply Int32.toBitVec_inj.mp
  show BitVec.ofNat 32 (x.toBitVec.toNat) = x.toBitVec
  simp
theorem n32_0 : n32 0 = 0 := by decide
theorem gf_self {k : Nat} {g : Nat → Nat → Int32} : gf k g (fun b => n32 (g (11 + 9 * k) b)) (fun b => n32 (g (10 + 9 * k) b)) = g := by
  funext a b
  by_cases h1 : a = 11 + 9 * k
  · subst h1; simp [gf, n32_nI]
  · by_cases h2 : a = 10 + 9 * k
    · subst h2; simp [gf, n32_nI, h1]
    · simp [gf, h1, h2]
theorem gf_u0 {k : Nat} {g : Nat → Nat → Int32} {im so : Nat → Nat} {a j : Nat} {v : Int32} (h1 : a ≠ 11 + 9 * k) (h2 : a ≠ 10 + 9 * k) : u2 (gf k g im so) a j v = gf k (u2 g a j v) im so := by
  funext x y
  by_cases hx : x = a
  · subst hx; simp [u2, gf, h1, h2]
  · by_cases hx1 : x = 11 + 9 * k
    · subst hx1; simp [u2, gf, hx]
    · by_cases hx2 : x = 10 + 9 * k
      · subst hx2; simp [u2, gf, hx, hx1]
      · simp [u2, gf, hx, hx1, hx2]
def sl (n : Nat) (fo : Nat → Nat) : Nat → Nat → (Nat → Nat) → (Nat → Nat) → Nat × (Nat → Nat) × (Nat → Nat)
  | 0, K, im, so => (K, im, so)
  | f + 1, K, im, so => if (fl n K fo (n + 1) 0 0 im so).1 = true then (K, (fl n K fo (n + 1) 0 0 im so).2) else sl n fo f (K + 1) (fl n K fo (n + 1) 0 0 im so).2.1 (fl n K fo (n + 1) 0 0 im so).2.2
def gq (k : Nat) (g : Nat → Nat → Int32) (fo : Nat → Nat) : Nat → Nat → Int32 := fun a b => if a = 9 + 9 * k then nI (fo b) else g a b
theorem gq_f {k : Nat} {g : Nat → Nat → Int32} {fo : Nat → Nat} {b : Nat} : gq k g fo (9 + 9 * k) b = nI (fo b) := by simp [gq]
theorem gq_o {k : Nat} {g : Nat → Nat → Int32} {fo : Nat → Nat} {a b : Nat} (h : a ≠ 9 + 9 * k) : gq k g fo a b = g a b := by simp [gq, h]
theorem gq_r {k : Nat} {g : Nat → Nat → Int32} {fo : Nat → Nat} {a : Nat} (h : a ≠ 9 + 9 * k) : gq k g fo a = g a := by funext b; exact gq_o h
theorem gq_u {k : Nat} {g : Nat → Nat → Int32} {fo : Nat → Nat} {c v : Nat} : u2 (gq k g fo) (9 + 9 * k) c (nI v) = gq k g (va_up fo c v) := by
  funext a b
  by_cases h1 : a = 9 + 9 * k
  · subst h1
    by_cases h2 : b = c <;> simp [u2, gq, va_up, h2]
  · simp [u2, gq, h1]
theorem gq_self {k : Nat} {g : Nat → Nat → Int32} : gq k g (fun b => n32 (g (9 + 9 * k) b)) = g := by
  funext a b
  by_cases h1 : a = 9 + 9 * k
  · subst h1; simp [gq, n32_nI]
  · simp [gq, h1]
def sap (fo : Nat → Nat) (i j : Nat) : Nat → Nat := va_up (va_up fo i (fo i ||| 2 ^ j)) j (va_up fo i (fo i ||| 2 ^ j) j ||| 2 ^ i)
def mf1 (e : Nat → Nat → Bool) (i : Nat) : Nat → Nat → (Nat → Nat) → (Nat → Nat)
  | 0, _, fo => fo
  | f + 1, j, fo => mf1 e i f (j + 1) (if e i j = true then sap fo i j else fo)
def mf (e : Nat → Nat → Bool) : Nat → Nat → (Nat → Nat) → (Nat → Nat)
  | 0, _, fo => fo
  | f + 1, i, fo => mf e f (i + 1) (mf1 e i i 0 fo)
theorem ruI_gq {k : Nat} {g : Nat → Nat → Int32} {fo : Nat → Nat} {ja a b : Nat} (hk : k < 6) : ruI (gq k g fo) k ja a b = ruI g k ja a b := by
  unfold ruI
  rw [gq_r (a := 57 + a) (by omega), gq_r (a := 57 + b) (by omega), gq_r (a := 4 + 9 * k) (by omega), gq_r (a := 3 + 9 * k) (by omega)]
def eB (g : Nat → Nat → Int32) (h : Nat → Nat → Nat) (jp : Nat → Nat) (k i j : Nat) : Bool := decide (¬ ruI g k (jp (h (3 + k) i)) (h (3 + k) i) (h (3 + k) j) = 0)
theorem sa_gq {k : Nat} {g : Nat → Nat → Int32} {fo : Nat → Nat} {i j : Nat} (hi : i < 12) (hj : j < 12) :
    u2 (u2 (gq k g fo) (9 + 9 * k) i ((gq k g fo) (9 + 9 * k) i ||| 1 <<< (nI j &&& 31))) (9 + 9 * k) j ((u2 (gq k g fo) (9 + 9 * k) i ((gq k g fo) (9 + 9 * k) i ||| 1 <<< (nI j &&& 31))) (9 + 9 * k) j ||| 1 <<< (nI i &&& 31)) = gq k g (sap fo i j) := by
  rw [gq_f, nz_sh j (by omega), nz_or, gq_u, gq_f, nz_sh i (by omega), nz_or, gq_u]
  rfl
theorem pw1 : ∀ n, n < 13 → 2 ^ n - 1 < 4096 := by decide +kernel
theorem sh1 : ∀ n, n < 13 → (1 : Int32) <<< (nI n &&& 31) - 1 = nI (2 ^ n - 1) := by decide +kernel
set_option maxHeartbeats 4000000 in
set_option maxRecDepth 100000 in
theorem loP_search {p : Program} {l : Launch} {e : Env} {s : State} {m : MethodId} {args : Array Value} {below : List Frame} {meth : Method} {c : Code} {Q : State → Prop} {D : va_G} {CA : Nat → ClassId} {g : Nat → Nat → Int32} {h : Nat → Nat → Nat} {ad : Nat → Nat} {k : Nat} (hk : k < 6) {n : Nat} (hn : n < 13) {fo : Nat → Nat} (hfo : ∀ i, i < 12 → fo i < 4096) (hc : g (8 + 9 * k) 1 = nI n) (hfg : ∀ i, i < 12 → g (9 + 9 * k) i = nI (fo i)) (hx : p.tables.exec = Jvm.exec) (hb : c.code = cP_search) (hml : c.maxLocals = 2) (hown : s.vm.findClass "CountLeast$Parting" = some m.cls) (hT : ∀ w ∈ TB, w.before args s = true) (hK : va_K D vwCl (cty CA) s) :
    ∀ (f i K : Nat) (im so : Nat → Nat), i + f = n → K < 14 + i → iok im → (∀ (H : Heap) (locs : List Loc) (x : Nat × (Nat → Nat) × (Nat → Nat)), x = sl n fo f K im so → va_P D vwCl (cw CA (gf k (u2 g (8 + 9 * k) 0 (nI x.1)) x.2.1 x.2.2) h ad) H → va_D (cA h ad s.heap.size) (cw CA (gf k (u2 g (8 + 9 * k) 0 (nI x.1)) x.2.1 x.2.2) h ad) → va_S (cA h ad s.heap.size) s.heap H locs → ∀ ls, lv_has ls 2 [(0, .ref (ad (8 + 9 * k)))] → W p l e (rm 16 0 0) s m args below meth c H locs 0 0 Q (F0 m 65 ls [])) → ∀ (H : Heap) (locs : List Loc), va_P D vwCl (cw CA (gf k (u2 g (8 + 9 * k) 0 (nI K)) im so) h ad) H → va_D (cA h ad s.heap.size) (cw CA (gf k (u2 g (8 + 9 * k) 0 (nI K)) im so) h ad) → va_S (cA h ad s.heap.size) s.heap H locs → ∀ ls, lv_has ls 2 [(1, .int (nI i)), (0, .ref (ad (8 + 9 * k)))] → W p l e (rm 16 0 0) s m args below meth c H locs 0 0 Q (F0 m 32 ls []) := by
  intro f
  induction f with
  | zero =>
    intro i K im so hi hK9 him kx H locs hP hD hS ls hl
    have hi : i = n := by omega
    subst hi
    refine lv_iload_n hx hb dP_search_32 rfl (lv_at hl 0 rfl) ?_
    refine lv_aload_n hx hb dP_search_33 rfl (lv_at hl 1 rfl) ?_
    refine va_get (D := D) (ci := 2) (C := RP) (T := TP) (N := 6) hx hb hT inP hown hK hP (8 + 9 * k) (cw_PT hk) rfl 1 (by decide) (hT _ wm_40) (fun _ h9 => h9) rfl dP_search_34 ?_
    refine W.eq (g2 := F0 m 37 ls [.int (nI i), .int (nI i)]) (by rw [gf_o (show 8 + 9 * k ≠ 11 + 9 * k by omega) (show 8 + 9 * k ≠ 10 + 9 * k by omega), u2_m (show (1 : Nat) ≠ 0 by decide), hc]) ?_
    refine lv_icmp_ge (tgt := 65) hx hb dP_search_37 (by decide) (fun c_1 => ?_) (fun c_1 => absurd (nI_le (Nat.le_refl _) (by omega)) c_1)
    exact kx H locs (K, im, so) rfl hP hD hS ls (lv_sub hl [1] rfl)
  | succ f ih =>
    intro i K im so hi hK9 him kx H locs hP hD hS ls hl
    refine lv_iload_n hx hb dP_search_32 rfl (lv_at hl 0 rfl) ?_
    refine lv_aload_n hx hb dP_search_33 rfl (lv_at hl 1 rfl) ?_
    refine va_get (D := D) (ci := 2) (C := RP) (T := TP) (N := 6) hx hb hT inP hown hK hP (8 + 9 * k) (cw_PT hk) rfl 1 (by decide) (hT _ wm_40) (fun _ h9 => h9) rfl dP_search_34 ?_
    refine W.eq (g2 := F0 m 37 ls [.int (nI n), .int (nI i)]) (by rw [gf_o (show 8 + 9 * k ≠ 11 + 9 * k by omega) (show 8 + 9 * k ≠ 10 + 9 * k by omega), u2_m (show (1 : Nat) ≠ 0 by decide), hc]) ?_
    refine lv_icmp_ge (tgt := 65) hx hb dP_search_37 (by decide) (fun c_1 => absurd c_1 (nI_ge (by omega) (by omega))) (fun c_1 => ?_)
    refine lv_aload_n hx hb dP_search_40 rfl (lv_at hl 1 rfl) ?_
    refine lv_iconst (v := 0) hx hb dP_search_41 (by decide) ?_
    refine lv_iconst (v := 0) hx hb dP_search_42 (by decide) ?_
    refine kVi (n := 2) (D := D) (wd := fun z : (Nat → Nat) × (Nat → Nat) => cw CA (gf k (u2 g (8 + 9 * k) 0 (nI K)) z.1 z.2) h ad) (A1 := fun sz => cA h ad sz) (As := [.int (nI 0), .int (nI 0)]) (rest := []) ⟨hx, hb, hml, hown, hT⟩ (kP_fill l hk (g := (u2 g (8 + 9 * k) 0 (nI K))) hn (K := K) (by omega) hfo (by rw [u2_m (show (1 : Nat) ≠ 0 by decide)]; exact hc) u2_s (fun i9 hi9 => by rw [u2_n (show 9 + 9 * k ≠ 8 + 9 * k by omega)]; exact hfg i9 hi9) (n + 1) 0 0 im so H.size (by omega) (by omega) (by omega) him) (gi_V wm_396 wm_398 wp_7 wm_3 wm_399) rfl rfl (by decide +kernel) ⟨(by simp only [rm]; omega), (by simp only [rm]; omega)⟩ (va_recv hK hP (ci := 2) (q0 := 8 + 9 * k) rfl (cw_PT hk)) hK hP hD hS (fun _ h9 => h9) (nA_mono hS.1) rfl hl.1 rfl (Nat.le_of_ble_eq_true rfl) dP_search_43 ⟨(Nat.le_of_ble_eq_true rfl), (Nat.le_of_ble_eq_true rfl)⟩ (fun r9 u9 H locs hw9 hz hP hD hS => ?_)
    obtain ⟨hr9, rfl⟩ := hw9
    have hok9 := fl_ok (K := K) (fo := fo) hn hfo (n + 1) 0 0 im so (by omega) him
    refine lv_if_ne (tgt := 65) hx hb dP_search_46 (by decide) (fun c_2 => ?_) (fun c_2 => ?_)
    · exact kx H locs (K, (fl n K fo (n + 1) 0 0 im so).2) (by rw [sl, if_pos (if01t hr9 c_2)]) hP hD hS ls (lv_sub hl [1] rfl)
    · have hnt : ¬ (fl n K fo (n + 1) 0 0 im so).1 = true := by rw [(if01 hr9).mp c_2]; exact Bool.false_ne_true
      refine lv_aload_n hx hb dP_search_49 rfl (lv_at hl 1 rfl) ?_
      refine lv_dup hx hb dP_search_50 rfl ?_
      refine va_get (D := D) (ci := 2) (C := RP) (T := TP) (N := 6) hx hb hT inP hown hK hP (8 + 9 * k) (cw_PT hk) rfl 0 (by decide) (hT _ wm_38) (fun _ h9 => h9) rfl dP_search_51 ?_
      refine W.eq (g2 := F0 m 54 ls [.int (nI K), .ref (ad (8 + 9 * k))]) (by rw [gf_o (show 8 + 9 * k ≠ 11 + 9 * k by omega) (show 8 + 9 * k ≠ 10 + 9 * k by omega), u2_s]) ?_
      refine lv_iconst (v := 1) hx hb dP_search_54 (by decide) ?_
      refine lv_iadd hx hb dP_search_55 ?_
      refine W.eq (g2 := F0 m 56 ls [.int (nI (K + 1)), .ref (ad (8 + 9 * k))]) (by rw [nI_1]) ?_
      refine va_put (D := D) (ci := 2) (v := .int (nI (K + 1))) (ty := .int) (C := RP) (T := TP) (N := 6) hx hb hT inP tyP tyokP nmP hown hK hP hD hS (8 + 9 * k) (cw_PT hk) rfl 0 (by decide) (hT _ wm_38) (fun _ h9 => h9) rfl (by decide +kernel) rfl rfl (Nat.le_of_ble_eq_true rfl) dP_search_56 (fun H locs hP hD hS => ?_)
      rw [cw_sP hk (by simp)] at hP hD
      rw [gf_u0 (show 8 + 9 * k ≠ 11 + 9 * k by omega) (show 8 + 9 * k ≠ 10 + 9 * k by omega), u2_u2] at hP hD
      refine lv_iinc (v := nI (i + 1)) (lv' := [(1, .int (nI (i + 1))), (0, .ref (ad (8 + 9 * k)))]) hx hb dP_search_59 hl (k := 0) rfl (nI_1 _) (by decide) rfl (fun ls hl => ?_)
      refine lv_goto (tgt := 32) hx hb dP_search_62 (by decide) ?_
      exact ih (i + 1) (K + 1) _ _ (by omega) (by omega) hok9 (fun H locs x hx9 hP hD hS ls hl => kx H locs x (by rw [sl, if_neg hnt]; exact hx9) hP hD hS ls hl) H locs hP hD hS ls (lv_sub hl [0, 1] rfl)
set_option maxHeartbeats 4000000 in
set_option maxRecDepth 100000 in
theorem kP_search (l : Launch) (D : va_G) (CA : Nat → ClassId) (g : Nat → Nat → Int32) (h : Nat → Nat → Nat) (ad : Nat → Nat) (sz : Nat) (k : Nat) (hk : k < 6) (n : Nat) (hn : n < 13) (fo : Nat → Nat) (hfo : ∀ i, i < 12 → fo i < 4096) (hc : g (8 + 9 * k) 1 = nI n) (hfg : ∀ i, i < 12 → g (9 + 9 * k) i = nI (fo i)) (hz9 : ∀ b, b < 12 → g (11 + 9 * k) b = 0) : Met l yP_search wP_search (rm 16 0 0) (va_Pc [.ref (ad (8 + 9 * k))] (gpre D (cty CA) (cw CA g h ad) sz)) (va_Qv (fun (u : Nat → Nat → Int32) => ∃ x9 : Nat × (Nat → Nat) × (Nat → Nat), x9 = sl n fo n (pop (gr n fo 14 0 0 (2 ^ n - 1) 0)) (fun b => n32 (g (11 + 9 * k) b)) (fun b => n32 (g (10 + 9 * k) b)) ∧ u = gf k (u2 (u2 g (8 + 9 * k) 2 (nI (gr n fo 14 0 0 (2 ^ n - 1) 0))) (8 + 9 * k) 0 (nI x9.1)) x9.2.1 x9.2.2) (fun u t => gpost D (cty CA) (cw CA u h ad) (cA h ad sz) t) (cA h ad sz)) 0 0 (cA h ad sz) := by
  refine Met.ofW (cc := cP_search) (maxL := 2) (ret := none) (by decide) rfl ?_
  intro p e s m args below meth c s₁ B hml hv
  obtain ⟨rfl, hsz, hP, hK, hD0⟩ := hv
  have hx := B.exec
  have hb := B.bytes
  have hr := B.returns
  have hT : ∀ w ∈ TB, w.before _ s = true := fun w hw => atoms_spec (ws := wP_search) B.pre w (List.mem_cons_of_mem _ hw)
  have hown : s.vm.findClass "CountLeast$Parting" = some m.cls := findClass_of_methodNamed B.named
  have hlocks := B.notSynchronized
  subst hsz
  have hD := nA_self (sz := s.heap.size) hD0
  have hS : va_S (cA h ad s.heap.size) s.heap s.heap [] := va_S.rf
  have hP : va_P D vwCl (cw CA g h ad) s.heap := hP
  have hl := lv_entry ([.ref (ad (8 + 9 * k))]) (n := 2) (Nat.le_of_ble_eq_true rfl)
  rw [lg_entry_eq]
  generalize (lg_sl ([.ref (ad (8 + 9 * k))]) ++ List.replicate (2 - (lg_sl ([.ref (ad (8 + 9 * k))])).length) Slot.unset).toArray = ls at hl ⊢
  have hl : lv_has ls 2 [(0, .ref (ad (8 + 9 * k)))] := hl
  refine lv_aload_n hx hb dP_search_0 rfl (lv_at hl 0 rfl) ?_
  refine lv_iconst (v := 0) hx hb dP_search_1 (by decide) ?_
  refine va_put (D := D) (ci := 2) (v := .int 0) (ty := .int) (C := RP) (T := TP) (N := 6) hx hb hT inP tyP tyokP nmP hown hK hP hD hS (8 + 9 * k) (cw_PT hk) rfl 2 (by decide) (hT _ wm_41) (fun _ h9 => h9) rfl (by decide +kernel) rfl rfl (Nat.le_of_ble_eq_true rfl) dP_search_2 (fun H locs hP hD hS => ?_)
  rw [cw_sP hk (by simp)] at hP hD
  refine lv_aload_n hx hb dP_search_5 rfl (lv_at hl 0 rfl) ?_
  refine lv_iconst (v := 0) hx hb dP_search_6 (by decide) ?_
  refine lv_iconst (v := 0) hx hb dP_search_7 (by decide) ?_
  refine lv_iconst (v := 1) hx hb dP_search_8 (by decide) ?_
  refine lv_aload_n hx hb dP_search_9 rfl (lv_at hl 0 rfl) ?_
  refine va_get (D := D) (ci := 2) (C := RP) (T := TP) (N := 6) hx hb hT inP hown hK hP (8 + 9 * k) (cw_PT hk) rfl 1 (by decide) (hT _ wm_40) (fun _ h9 => h9) rfl dP_search_10 ?_
  refine W.eq (g2 := F0 m 13 ls [.int (nI n), .int 1, .int 0, .int 0, .ref (ad (8 + 9 * k))]) (by rw [u2_m (show (1 : Nat) ≠ 2 by decide), hc]) ?_
  refine lv_ishl hx hb dP_search_13 ?_
  refine lv_iconst (v := 1) hx hb dP_search_14 (by decide) ?_
  refine lv_isub hx hb dP_search_15 ?_
  refine W.eq (g2 := F0 m 16 ls [.int (nI (2 ^ n - 1)), .int 0, .int 0, .ref (ad (8 + 9 * k))]) (by rw [sh1 n hn]) ?_
  refine kVv (n := 3) (D := D) (wd := fun z => cw CA (u2 g (8 + 9 * k) 2 (nI z)) h ad) (A1 := fun sz => cA h ad sz) (As := [.int 0, .int 0, .int (nI (2 ^ n - 1))]) (rest := []) ⟨hx, hb, hml, hown, hT⟩ (kP_growFoes l hk hn hfo hc hfg 14 0 0 (2 ^ n - 1) 0 H.size (by omega) (by omega) (by decide) (pw1 n hn) (by decide)) (gi_V wm_386 wm_388 wp_6 wm_3 wm_389) rfl rfl (by decide +kernel) ⟨(Nat.le_of_ble_eq_true rfl), (Nat.le_of_ble_eq_true rfl)⟩ (va_recv hK hP (ci := 2) (q0 := 8 + 9 * k) rfl (cw_PT hk)) hK hP hD hS (fun _ h9 => h9) (nA_mono hS.1) rfl hl.1 rfl (Nat.le_of_ble_eq_true rfl) dP_search_16 ⟨(Nat.le_of_ble_eq_true rfl), (Nat.le_of_ble_eq_true rfl)⟩ (fun u9 H locs hu9 hz hP hD hS => ?_)
  have hbl : u9 < 4096 := by rw [hu9]; exact gr_lt hn _ _ _ _ _ (by decide) (by decide)
  refine lv_aload_n hx hb dP_search_19 rfl (lv_at hl 0 rfl) ?_
  refine lv_aload_n hx hb dP_search_20 rfl (lv_at hl 0 rfl) ?_
  refine va_get (D := D) (ci := 2) (C := RP) (T := TP) (N := 6) hx hb hT inP hown hK hP (8 + 9 * k) (cw_PT hk) rfl 2 (by decide) (hT _ wm_41) (fun _ h9 => h9) rfl dP_search_21 ?_
  refine W.eq (g2 := F0 m 24 ls [.int (nI u9), .ref (ad (8 + 9 * k))]) (by rw [u2_s]) ?_
  refine kSi (n := 1) (D := D) (As := [.int (nI u9)]) (rest := [.ref (ad (8 + 9 * k))]) ⟨hx, hb, hml, hown, hT⟩ (kI_bitCount l _ hbl) (gi_S wm_390 wm_391 wm_13 wm_392) rfl rfl (by decide +kernel) ⟨(Nat.le_of_ble_eq_true rfl), (Nat.le_of_ble_eq_true rfl)⟩ hP hS rfl hl.1 rfl (Nat.le_of_ble_eq_true rfl) dP_search_24 ⟨(Nat.le_of_ble_eq_true rfl), (Nat.le_of_ble_eq_true rfl)⟩ (fun r_1 H locs e_2 hz hP hS => ?_)
  subst e_2
  refine va_put (D := D) (ci := 2) (v := .int (nI (pop u9))) (ty := .int) (C := RP) (T := TP) (N := 6) hx hb hT inP tyP tyokP nmP hown hK hP hD hS (8 + 9 * k) (cw_PT hk) rfl 0 (by decide) (hT _ wm_38) (fun _ h9 => h9) rfl (by decide +kernel) rfl rfl (Nat.le_of_ble_eq_true rfl) dP_search_27 (fun H locs hP hD hS => ?_)
  rw [cw_sP hk (by simp)] at hP hD
  refine lv_iconst (v := 0) hx hb dP_search_30 (by decide) ?_
  refine lv_istore_n (lv' := [(1, .int 0), (0, .ref (ad (8 + 9 * k)))]) hx hb dP_search_31 rfl hl (by decide) rfl (fun ls hl => ?_)
  have e9 : u2 (u2 g (8 + 9 * k) 2 (nI u9)) (8 + 9 * k) 0 (nI (pop u9)) = gf k (u2 (u2 g (8 + 9 * k) 2 (nI u9)) (8 + 9 * k) 0 (nI (pop u9))) (fun b => n32 (g (11 + 9 * k) b)) (fun b => n32 (g (10 + 9 * k) b)) := by
    refine (gf_self (k := k)).symm.trans ?_
    simp only [u2_n (show 11 + 9 * k ≠ 8 + 9 * k by omega), u2_n (show 10 + 9 * k ≠ 8 + 9 * k by omega)]
  rw [e9] at hP hD
  refine loP_search (g := (u2 g (8 + 9 * k) 2 (nI u9))) hk hn hfo (by rw [u2_m (show (1 : Nat) ≠ 2 by decide)]; exact hc) (fun i9 hi9 => by rw [u2_n (show 9 + 9 * k ≠ 8 + 9 * k by omega)]; exact hfg i9 hi9) hx hb hml hown hT hK n 0 (pop u9) _ _ (by omega) (by have := pop_le u9; omega) (fun j hj => by show n32 (g (11 + 9 * k) j) < 4096; rw [hz9 j hj]; decide) (fun H locs x9 hx9 hP hD hS ls hl => ?_) H locs hP hD hS ls (lv_sub hl [0, 1] rfl)
  exact W.vret hx hb hr (fun t ht hW => ⟨⟨(gf k (u2 (u2 g (8 + 9 * k) 2 (nI u9)) (8 + 9 * k) 0 (nI x9.1)) x9.2.1 x9.2.2), rfl, ⟨x9, by rw [← hu9]; exact hx9, by rw [← hu9]⟩, gpost_at hP hK hD ht hW.alike⟩, hS.F ht⟩) hS.2.2 dP_search_65
