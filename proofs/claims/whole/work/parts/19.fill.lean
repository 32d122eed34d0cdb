/-! the parting into sets, as the class seeks it: im the sets' places, so the places' sets -/
def gf (k : Nat) (g : Nat → Nat → Int32) (im so : Nat → Nat) : Nat → Nat → Int32 := fun a b => if a = 11 + 9 * k then nI (im b) else if a = 10 + 9 * k then nI (so b) else g a b
theorem gf_i {k : Nat} {g : Nat → Nat → Int32} {im so : Nat → Nat} {b : Nat} : gf k g im so (11 + 9 * k) b = nI (im b) := by simp [gf]
theorem gf_s {k : Nat} {g : Nat → Nat → Int32} {im so : Nat → Nat} {b : Nat} : gf k g im so (10 + 9 * k) b = nI (so b) := by
  simp [gf, show ¬ 10 + 9 * k = 11 + 9 * k by omega]
theorem gf_o {k : Nat} {g : Nat → Nat → Int32} {im so : Nat → Nat} {a b : Nat} (h1 : a ≠ 11 + 9 * k) (h2 : a ≠ 10 + 9 * k) : gf k g im so a b = g a b := by simp [gf, h1, h2]
theorem gf_ui {k : Nat} {g : Nat → Nat → Int32} {im so : Nat → Nat} {c v : Nat} : u2 (gf k g im so) (11 + 9 * k) c (nI v) = gf k g (va_up im c v) so := by
  funext a b
  by_cases h1 : a = 11 + 9 * k
  · subst h1
    by_cases h2 : b = c <;> simp [u2, gf, va_up, h2]
  · simp [u2, gf, h1]
theorem gf_us {k : Nat} {g : Nat → Nat → Int32} {im so : Nat → Nat} {c v : Nat} : u2 (gf k g im so) (10 + 9 * k) c (nI v) = gf k g im (va_up so c v) := by
  funext a b
  by_cases h1 : a = 11 + 9 * k
  · subst h1
    simp [u2, gf, show ¬ 11 + 9 * k = 10 + 9 * k by omega]
  · by_cases h2 : a = 10 + 9 * k
    · subst h2
      by_cases h3 : b = c <;> simp [u2, gf, va_up, h3, h1]
    · simp [u2, gf, h1, h2]
/-- whether a place bars a set for no later one that is not barred there yet -/
def cut (a b pl : Nat) : Bool := decide ((nI a &&& (-(nI (2 ^ pl)))) &&& (nI b ^^^ (-1)) = 0)
def flL (rec : Nat → Nat → (Nat → Nat) → (Nat → Nat) → Bool × (Nat → Nat) × (Nat → Nat)) (fo : Nat → Nat) (pl us : Nat) : Nat → Nat → (Nat → Nat) → (Nat → Nat) → Bool × (Nat → Nat) × (Nat → Nat)
  | 0, _, im, so => (false, im, so)
  | f + 1, c, im, so =>
    if (im c).testBit pl = false then
      if (rec (pl + 1) (max us (c + 1)) (va_up im c (im c ||| fo pl)) (va_up so pl c)).1 = true then rec (pl + 1) (max us (c + 1)) (va_up im c (im c ||| fo pl)) (va_up so pl c)
      else if cut (fo pl) (im c) pl = true then (false, va_up (rec (pl + 1) (max us (c + 1)) (va_up im c (im c ||| fo pl)) (va_up so pl c)).2.1 c (im c), (rec (pl + 1) (max us (c + 1)) (va_up im c (im c ||| fo pl)) (va_up so pl c)).2.2)
      else flL rec fo pl us f (c + 1) (va_up (rec (pl + 1) (max us (c + 1)) (va_up im c (im c ||| fo pl)) (va_up so pl c)).2.1 c (im c)) (rec (pl + 1) (max us (c + 1)) (va_up im c (im c ||| fo pl)) (va_up so pl c)).2.2
    else flL rec fo pl us f (c + 1) im so
def fl (n K : Nat) (fo : Nat → Nat) : Nat → Nat → Nat → (Nat → Nat) → (Nat → Nat) → Bool × (Nat → Nat) × (Nat → Nat)
  | 0, _, _, im, so => (false, im, so)
  | d + 1, pl, us, im, so => if n ≤ pl then (true, im, so) else flL (fl n K fo d) fo pl us (min (us + 1) (min K 12)) 0 im so
def iok (im : Nat → Nat) : Prop := ∀ j, j < 12 → im j < 4096
theorem iok_up {im : Nat → Nat} {c v : Nat} (h : iok im) (hv : v < 4096) : iok (va_up im c v) := by
  intro j hj
  by_cases hjc : j = c
  · subst hjc; rw [va_up_self]; exact hv
  · rw [va_up_ne _ _ hjc]; exact h j hj
theorem flL_ok {rec : Nat → Nat → (Nat → Nat) → (Nat → Nat) → Bool × (Nat → Nat) × (Nat → Nat)} {fo : Nat → Nat} {pl us : Nat} (hf : ∀ i, i < 12 → fo i < 4096) (hr : ∀ a b im so, a < 13 → iok im → iok (rec a b im so).2.1) (hp : pl < 12) : ∀ f c im so, c + f ≤ 12 → iok im → iok (flL rec fo pl us f c im so).2.1 := by
  intro f
  induction f with
  | zero => intro c im so _ h; exact h
  | succ f ih =>
    intro c im so hc h
    have h1 := hr (pl + 1) (max us (c + 1)) (va_up im c (im c ||| fo pl)) (va_up so pl c) (by omega) (iok_up h (or_lt (h c (by omega)) (hf pl hp)))
    unfold flL
    split
    · split
      · exact h1
      · split
        · exact iok_up h1 (h c (by omega))
        · exact ih _ _ _ (by omega) (iok_up h1 (h c (by omega)))
    · exact ih _ _ _ (by omega) h
theorem fl_ok {n K : Nat} {fo : Nat → Nat} (hn : n < 13) (hf : ∀ i, i < 12 → fo i < 4096) : ∀ d pl us im so, pl < 13 → iok im → iok (fl n K fo d pl us im so).2.1 := by
  intro d
  induction d with
  | zero => intro _ _ _ _ _ h; exact h
  | succ d ih =>
    intro pl us im so hp h
    unfold fl
    split
    · exact h
    · exact flL_ok hf (fun a b im so ha hi => ih a b im so ha hi) (by omega) _ _ _ _ (by omega) h
theorem mn1 : ∀ u, u < 14 → ∀ K, K < 41 → (if (if (12 : Int32) < nI K then 12 else nI K) < nI (u + 1) then (if (12 : Int32) < nI K then 12 else nI K) else nI (u + 1)) = nI (min (u + 1) (min K 12)) := by decide +kernel
theorem mx1 : ∀ u, u < 14 → ∀ c, c < 14 → (if nI u < nI (c + 1) then nI (c + 1) else nI u) = nI (max u (c + 1)) := by decide +kernel
set_option maxHeartbeats 4000000 in
set_option maxRecDepth 100000 in
theorem loP_fill {p : Program} {l : Launch} {e : Env} {s : State} {m : MethodId} {args : Array Value} {below : List Frame} {meth : Method} {c : Code} {Q : State → Prop} {D : va_G} {CA : Nat → ClassId} {g : Nat → Nat → Int32} {h : Nat → Nat → Nat} {ad : Nat → Nat} {k : Nat} (hk : k < 6) {n : Nat} (hn : n < 13) {K : Nat} (hK9 : K < 40) {fo : Nat → Nat} (hfo : ∀ i, i < 12 → fo i < 4096) (hc : g (8 + 9 * k) 1 = nI n) (hkg : g (8 + 9 * k) 0 = nI K) (hfg : ∀ i, i < 12 → g (9 + 9 * k) i = nI (fo i)) {d pl us : Nat} (hp : pl < n) (hd : n < d + 1 + pl) (hus : us < 13) (IH : ∀ pl us (im so : Nat → Nat) sz, pl ≤ n → n < d + pl → us < 13 → iok im → Met l yP_fill wP_fill (rm (1 + d) 0 0) (va_Pc [.ref (ad (8 + 9 * k)), .int (nI pl), .int (nI us)] (gpre D (cty CA) (cw CA (gf k g im so) h ad) sz)) (va_Qi (fun r (u : (Nat → Nat) × (Nat → Nat)) => r = (if (fl n K fo d pl us im so).1 = true then 1 else 0) ∧ u = (fl n K fo d pl us im so).2) (fun u t => gpost D (cty CA) (cw CA (gf k g u.1 u.2) h ad) (cA h ad sz) t) (cA h ad sz)) 0 0 (cA h ad sz)) (hx : p.tables.exec = Jvm.exec) (hb : c.code = cP_fill) (hml : c.maxLocals = 8) (hown : s.vm.findClass "CountLeast$Parting" = some m.cls) (hT : ∀ w ∈ TB, w.before args s = true) (hK : va_K D vwCl (cty CA) s) :
    ∀ (f c9 : Nat) (im so : Nat → Nat), c9 + f = min (us + 1) (min K 12) → iok im → (∀ (H : Heap) (locs : List Loc) (x : (Nat → Nat) × (Nat → Nat)) (y : Int32), x = (flL (fl n K fo d) fo pl us f c9 im so).2 → y = (if (flL (fl n K fo d) fo pl us f c9 im so).1 = true then 1 else 0) → va_P D vwCl (cw CA (gf k g x.1 x.2) h ad) H → va_D (cA h ad s.heap.size) (cw CA (gf k g x.1 x.2) h ad) → va_S (cA h ad s.heap.size) s.heap H locs → (∀ ls, y = 1 → W p l e (rm (1 + (d + 1)) 0 0) s m args below meth c H locs 0 0 Q (F0 m 115 ls [.int 1])) ∧ (∀ ls, y = 0 → W p l e (rm (1 + (d + 1)) 0 0) s m args below meth c H locs 0 0 Q (F0 m 144 ls [.int 0])) ∧ ∀ ls, y = 0 → W p l e (rm (1 + (d + 1)) 0 0) s m args below meth c H locs 0 0 Q (F0 m 136 ls [.int 0])) → ∀ (H : Heap) (locs : List Loc), va_P D vwCl (cw CA (gf k g im so) h ad) H → va_D (cA h ad s.heap.size) (cw CA (gf k g im so) h ad) → va_S (cA h ad s.heap.size) s.heap H locs → ∀ ls, lv_has ls 8 [(6, .int (nI c9)), (0, .ref (ad (8 + 9 * k))), (1, .int (nI pl)), (2, .int (nI us)), (3, .int (nI (2 ^ pl))), (4, .int ((nI (fo pl)) &&& (-(nI (2 ^ pl))))), (5, .int (nI (min (us + 1) (min K 12))))] → W p l e (rm (1 + (d + 1)) 0 0) s m args below meth c H locs 0 0 Q (F0 m 49 ls []) := by
  intro f
  induction f with
  | zero =>
    intro c9 im so hi him kx H locs hP hD hS ls hl
    have hi : c9 = min (us + 1) (min K 12) := by omega
    refine lv_iload hx hb dP_fill_49 (lv_at hl 0 rfl) ?_
    refine lv_iload hx hb dP_fill_51 (lv_at hl 6 rfl) ?_
    refine lv_icmp_ge (tgt := 143) hx hb dP_fill_53 (by decide) (fun c_1 => ?_) (fun c_1 => absurd (nI_le (by omega) (by omega)) c_1)
    refine lv_iconst (v := 0) hx hb dP_fill_143 (by decide) ?_
    exact (kx H locs (im, so) 0 rfl rfl hP hD hS).2.1 ls rfl
  | succ f ih =>
    intro c9 im so hi him kx H locs hP hD hS ls hl
    refine lv_iload hx hb dP_fill_49 (lv_at hl 0 rfl) ?_
    refine lv_iload hx hb dP_fill_51 (lv_at hl 6 rfl) ?_
    refine lv_icmp_ge (tgt := 143) hx hb dP_fill_53 (by decide) (fun c_1 => absurd c_1 (nI_ge (by omega) (by omega))) (fun c_1 => ?_)
    refine lv_aload_n hx hb dP_fill_56 rfl (lv_at hl 1 rfl) ?_
    refine va_get (D := D) (ci := 2) (C := RP) (T := TP) (N := 6) hx hb hT inP hown hK hP (8 + 9 * k) (cw_PT hk) rfl 5 (by decide) (hT _ wm_44) (fun _ h9 => h9) rfl dP_fill_57 ?_
    refine lv_iload hx hb dP_fill_60 (lv_at hl 0 rfl) ?_
    refine va_iald (D := D) hx hb hK hP (11 + 9 * k) 0 (cw_IS hk) rfl (vp_in_nI (by omega) (by decide)) dP_fill_62 ?_
    rw [nI_clamp (n := c9) (by omega)]
    refine W.eq (g2 := F0 m 63 ls [.int (nI (im c9))]) (by rw [gf_i]) ?_
    refine lv_istore (lv' := [(7, .int (nI (im c9))), (6, .int (nI c9)), (0, .ref (ad (8 + 9 * k))), (1, .int (nI pl)), (2, .int (nI us)), (3, .int (nI (2 ^ pl))), (4, .int ((nI (fo pl)) &&& (-(nI (2 ^ pl))))), (5, .int (nI (min (us + 1) (min K 12))))]) hx hb dP_fill_63 hl (by decide) rfl (fun ls hl => ?_)
    refine lv_iload hx hb dP_fill_65 (lv_at hl 0 rfl) ?_
    refine lv_iload_n hx hb dP_fill_67 rfl (lv_at hl 5 rfl) ?_
    refine lv_iand hx hb dP_fill_68 ?_
    refine W.eq (g2 := F0 m 69 ls [.int (nI (im c9 &&& 2 ^ pl))]) (by rw [nz_and]) ?_
    refine lv_if_ne (tgt := 137) hx hb dP_fill_69 (by decide) (fun c_2 => ?_) (fun c_2 => ?_)
    · have hno : ¬ (im c9).testBit pl = false := fun z => c_2 ((nz_bit (him c9 (by omega))).mpr z)
      refine lv_iinc (v := nI (c9 + 1)) (lv' := [(6, .int (nI (c9 + 1))), (7, .int (nI (im c9))), (0, .ref (ad (8 + 9 * k))), (1, .int (nI pl)), (2, .int (nI us)), (3, .int (nI (2 ^ pl))), (4, .int ((nI (fo pl)) &&& (-(nI (2 ^ pl))))), (5, .int (nI (min (us + 1) (min K 12))))]) hx hb dP_fill_137 hl (k := 1) rfl (nI_1 _) (by decide) rfl (fun ls hl => ?_)
      refine lv_goto (tgt := 49) hx hb dP_fill_140 (by decide) ?_
      exact ih (c9 + 1) im so (by omega) him (fun H locs x y hx9 hy9 hP hD hS => kx H locs x y (by rw [flL, if_neg hno]; exact hx9) (by rw [flL, if_neg hno]; exact hy9) hP hD hS) H locs hP hD hS ls (lv_sub hl [0, 2, 3, 4, 5, 6, 7] rfl)
    · have hyes : (im c9).testBit pl = false := (nz_bit (him c9 (by omega))).mp c_2
      refine lv_aload_n hx hb dP_fill_72 rfl (lv_at hl 2 rfl) ?_
      refine va_get (D := D) (ci := 2) (C := RP) (T := TP) (N := 6) hx hb hT inP hown hK hP (8 + 9 * k) (cw_PT hk) rfl 5 (by decide) (hT _ wm_44) (fun _ h9 => h9) rfl dP_fill_73 ?_
      refine lv_iload hx hb dP_fill_76 (lv_at hl 1 rfl) ?_
      refine lv_iload hx hb dP_fill_78 (lv_at hl 0 rfl) ?_
      refine lv_aload_n hx hb dP_fill_80 rfl (lv_at hl 2 rfl) ?_
      refine va_get (D := D) (ci := 2) (C := RP) (T := TP) (N := 6) hx hb hT inP hown hK hP (8 + 9 * k) (cw_PT hk) rfl 3 (by decide) (hT _ wm_42) (fun _ h9 => h9) rfl dP_fill_81 ?_
      refine lv_iload_n hx hb dP_fill_84 rfl (lv_at hl 3 rfl) ?_
      refine va_iald (D := D) hx hb hK hP (9 + 9 * k) 0 (cw_FO hk) rfl (vp_in_nI (by omega) (by decide)) dP_fill_85 ?_
      rw [nI_clamp (n := pl) (by omega)]
      refine W.eq (g2 := F0 m 86 ls [.int (nI (fo pl)), .int (nI (im c9)), .int (nI c9), .ref (ad (11 + 9 * k))]) (by rw [gf_o (show 9 + 9 * k ≠ 11 + 9 * k by omega) (show 9 + 9 * k ≠ 10 + 9 * k by omega), hfg pl (by omega)]) ?_
      refine lv_ior hx hb dP_fill_86 ?_
      refine W.eq (g2 := F0 m 87 ls [.int (nI (im c9 ||| fo pl)), .int (nI c9), .ref (ad (11 + 9 * k))]) (by rw [nz_or]) ?_
      refine va_iast (D := D) hx hb hK hP hD hS (11 + 9 * k) 0 (cw_IS hk) rfl (vp_in_nI (by omega) (by decide)) dP_fill_87 (fun H locs hP hD hS => ?_)
      rw [nI_clamp (n := c9) (by omega), cw_sIS hk] at hP hD
      rw [gf_ui] at hP hD
      refine lv_aload_n hx hb dP_fill_88 rfl (lv_at hl 2 rfl) ?_
      refine va_get (D := D) (ci := 2) (C := RP) (T := TP) (N := 6) hx hb hT inP hown hK hP (8 + 9 * k) (cw_PT hk) rfl 4 (by decide) (hT _ wm_43) (fun _ h9 => h9) rfl dP_fill_89 ?_
      refine lv_iload_n hx hb dP_fill_92 rfl (lv_at hl 3 rfl) ?_
      refine lv_iload hx hb dP_fill_93 (lv_at hl 1 rfl) ?_
      refine va_iast (D := D) hx hb hK hP hD hS (10 + 9 * k) 0 (cw_SO hk) rfl (vp_in_nI (by omega) (by decide)) dP_fill_95 (fun H locs hP hD hS => ?_)
      rw [nI_clamp (n := pl) (by omega), cw_sSO hk] at hP hD
      rw [gf_us] at hP hD
      refine lv_aload_n hx hb dP_fill_96 rfl (lv_at hl 2 rfl) ?_
      refine lv_iload_n hx hb dP_fill_97 rfl (lv_at hl 3 rfl) ?_
      refine lv_iconst (v := 1) hx hb dP_fill_98 (by decide) ?_
      refine lv_iadd hx hb dP_fill_99 ?_
      refine W.eq (g2 := F0 m 100 ls [.int (nI (pl + 1)), .ref (ad (8 + 9 * k))]) (by rw [nI_1]) ?_
      refine lv_iload_n hx hb dP_fill_100 rfl (lv_at hl 4 rfl) ?_
      refine lv_iload hx hb dP_fill_101 (lv_at hl 1 rfl) ?_
      refine lv_iconst (v := 1) hx hb dP_fill_103 (by decide) ?_
      refine lv_iadd hx hb dP_fill_104 ?_
      refine W.eq (g2 := F0 m 105 ls [.int (nI (c9 + 1)), .int (nI us), .int (nI (pl + 1)), .ref (ad (8 + 9 * k))]) (by rw [nI_1]) ?_
      refine va_mmax hx hb (hml.trans hl.1.symm) (own := "CountLeast$Parting") hown (hT _ wm_370) (hT _ wm_371) (hT _ wm_12) (hT _ wm_372) (Nat.le_of_ble_eq_true rfl) (Nat.le_of_ble_eq_true rfl) (Nat.le_of_ble_eq_true rfl) (Nat.le_of_ble_eq_true rfl) dP_fill_105 ?_
      refine W.eq (g2 := F0 m 108 ls [.int (nI (max us (c9 + 1))), .int (nI (pl + 1)), .ref (ad (8 + 9 * k))]) (by rw [mx1 us (by omega) c9 (by omega)]) ?_
      have him9 : iok (va_up im c9 (im c9 ||| fo pl)) := iok_up him (or_lt (him c9 (by omega)) (hfo pl (by omega)))
      refine kVi (n := 2) (D := D) (wd := fun z : (Nat → Nat) × (Nat → Nat) => cw CA (gf k g z.1 z.2) h ad) (A1 := fun sz => cA h ad sz) (As := [.int (nI (pl + 1)), .int (nI (max us (c9 + 1)))]) (rest := []) ⟨hx, hb, hml, hown, hT⟩ (IH (pl + 1) (max us (c9 + 1)) (va_up im c9 (im c9 ||| fo pl)) (va_up so pl c9) H.size (by omega) (by omega) (by omega) him9) (gi_V wm_396 wm_398 wp_7 wm_3 wm_399) rfl rfl (by decide +kernel) ⟨(by simp only [headSpec, rm]; omega), (by simp only [headSpec, rm]; omega)⟩ (va_recv hK hP (ci := 2) (q0 := 8 + 9 * k) rfl (cw_PT hk)) hK hP hD hS (fun _ h9 => h9) (nA_mono hS.1) rfl hl.1 rfl (Nat.le_of_ble_eq_true rfl) dP_fill_108 ⟨(Nat.le_of_ble_eq_true rfl), (Nat.le_of_ble_eq_true rfl)⟩ (fun r9 u9 H locs hw9 hz hP hD hS => ?_)
      obtain ⟨hr9, rfl⟩ := hw9
      have hok9 := fl_ok (K := K) (fo := fo) hn hfo d (pl + 1) (max us (c9 + 1)) _ (va_up so pl c9) (by omega) him9
      refine lv_if_eq (tgt := 116) hx hb dP_fill_111 (by decide) (fun c_3 => ?_) (fun c_3 => ?_)
      · have hnt : ¬ (fl n K fo d (pl + 1) (max us (c9 + 1)) (va_up im c9 (im c9 ||| fo pl)) (va_up so pl c9)).1 = true := by rw [(if01 hr9).mp c_3]; exact Bool.false_ne_true
        refine lv_aload_n hx hb dP_fill_116 rfl (lv_at hl 2 rfl) ?_
        refine va_get (D := D) (ci := 2) (C := RP) (T := TP) (N := 6) hx hb hT inP hown hK hP (8 + 9 * k) (cw_PT hk) rfl 5 (by decide) (hT _ wm_44) (fun _ h9 => h9) rfl dP_fill_117 ?_
        refine lv_iload hx hb dP_fill_120 (lv_at hl 1 rfl) ?_
        refine lv_iload hx hb dP_fill_122 (lv_at hl 0 rfl) ?_
        refine va_iast (D := D) hx hb hK hP hD hS (11 + 9 * k) 0 (cw_IS hk) rfl (vp_in_nI (by omega) (by decide)) dP_fill_124 (fun H locs hP hD hS => ?_)
        rw [nI_clamp (n := c9) (by omega), cw_sIS hk] at hP hD
        rw [gf_ui] at hP hD
        refine lv_iload hx hb dP_fill_125 (lv_at hl 6 rfl) ?_
        refine lv_iload hx hb dP_fill_127 (lv_at hl 0 rfl) ?_
        refine lv_iconst (v := (-1)) hx hb dP_fill_129 (by decide) ?_
        refine lv_ixor hx hb dP_fill_130 ?_
        refine lv_iand hx hb dP_fill_131 ?_
        refine lv_if_ne (tgt := 137) hx hb dP_fill_132 (by decide) (fun c_4 => ?_) (fun c_4 => ?_)
        · have hnc : ¬ cut (fo pl) (im c9) pl = true := fun z => c_4 (of_decide_eq_true z)
          refine lv_iinc (v := nI (c9 + 1)) (lv' := [(6, .int (nI (c9 + 1))), (7, .int (nI (im c9))), (0, .ref (ad (8 + 9 * k))), (1, .int (nI pl)), (2, .int (nI us)), (3, .int (nI (2 ^ pl))), (4, .int ((nI (fo pl)) &&& (-(nI (2 ^ pl))))), (5, .int (nI (min (us + 1) (min K 12))))]) hx hb dP_fill_137 hl (k := 1) rfl (nI_1 _) (by decide) rfl (fun ls hl => ?_)
          refine lv_goto (tgt := 49) hx hb dP_fill_140 (by decide) ?_
          exact ih (c9 + 1) _ _ (by omega) (iok_up hok9 (him c9 (by omega))) (fun H locs x y hx9 hy9 hP hD hS => kx H locs x y (by rw [flL, if_pos hyes, if_neg hnt, if_neg hnc]; exact hx9) (by rw [flL, if_pos hyes, if_neg hnt, if_neg hnc]; exact hy9) hP hD hS) H locs hP hD hS ls (lv_sub hl [0, 2, 3, 4, 5, 6, 7] rfl)
        · have hyc : cut (fo pl) (im c9) pl = true := decide_eq_true c_4
          refine lv_iconst (v := 0) hx hb dP_fill_135 (by decide) ?_
          exact (kx H locs (va_up ((fl n K fo d (pl + 1) (max us (c9 + 1)) (va_up im c9 (im c9 ||| fo pl)) (va_up so pl c9)).2.1) c9 (im c9), (fl n K fo d (pl + 1) (max us (c9 + 1)) (va_up im c9 (im c9 ||| fo pl)) (va_up so pl c9)).2.2) 0 (by rw [flL, if_pos hyes, if_neg hnt, if_pos hyc] <;> rfl) (by rw [flL, if_pos hyes, if_neg hnt, if_pos hyc] <;> rfl) hP hD hS).2.2 ls rfl
      · have hyt : (fl n K fo d (pl + 1) (max us (c9 + 1)) (va_up im c9 (im c9 ||| fo pl)) (va_up so pl c9)).1 = true := if01t hr9 c_3
        refine lv_iconst (v := 1) hx hb dP_fill_114 (by decide) ?_
        exact (kx H locs _ 1 (by rw [flL, if_pos hyes, if_pos hyt]) (by rw [flL, if_pos hyes, if_pos hyt, if_pos hyt]) hP hD hS).1 ls rfl
set_option maxHeartbeats 4000000 in
set_option maxRecDepth 100000 in
theorem kP_fill (l : Launch) {D : va_G} {CA : Nat → ClassId} {g : Nat → Nat → Int32} {h : Nat → Nat → Nat} {ad : Nat → Nat} {k : Nat} (hk : k < 6) {n : Nat} (hn : n < 13) {K : Nat} (hK9 : K < 40) {fo : Nat → Nat} (hfo : ∀ i, i < 12 → fo i < 4096) (hc : g (8 + 9 * k) 1 = nI n) (hkg : g (8 + 9 * k) 0 = nI K) (hfg : ∀ i, i < 12 → g (9 + 9 * k) i = nI (fo i)) : ∀ (d pl us : Nat) (im so : Nat → Nat) (sz : Nat), pl ≤ n → n < d + pl → us < 13 → iok im → Met l yP_fill wP_fill (rm (1 + d) 0 0) (va_Pc [.ref (ad (8 + 9 * k)), .int (nI pl), .int (nI us)] (gpre D (cty CA) (cw CA (gf k g im so) h ad) sz)) (va_Qi (fun r (u : (Nat → Nat) × (Nat → Nat)) => r = (if (fl n K fo d pl us im so).1 = true then 1 else 0) ∧ u = (fl n K fo d pl us im so).2) (fun u t => gpost D (cty CA) (cw CA (gf k g u.1 u.2) h ad) (cA h ad sz) t) (cA h ad sz)) 0 0 (cA h ad sz) := by
  intro d
  induction d with
  | zero => intro pl us im so sz hp hd; exact absurd hd (by omega)
  | succ d IH =>
    intro pl us im so sz hp hd hus him
    refine Met.ofW (cc := cP_fill) (maxL := 8) (ret := (some .boolean)) (by decide) rfl ?_
    intro p e s m args below meth c s₁ B hml hv
    obtain ⟨rfl, hsz, hP, hK, hD0⟩ := hv
    have hx := B.exec
    have hb := B.bytes
    have hr := B.returns
    have hT : ∀ w ∈ TB, w.before _ s = true := fun w hw => atoms_spec (ws := wP_fill) B.pre w (List.mem_cons_of_mem _ hw)
    have hown : s.vm.findClass "CountLeast$Parting" = some m.cls := findClass_of_methodNamed B.named
    have hlocks := B.notSynchronized
    subst hsz
    have hD := nA_self (sz := s.heap.size) hD0
    have hS : va_S (cA h ad s.heap.size) s.heap s.heap [] := va_S.rf
    have hP : va_P D vwCl (cw CA (gf k g im so) h ad) s.heap := hP
    have hl := lv_entry ([.ref (ad (8 + 9 * k)), .int (nI pl), .int (nI us)]) (n := 8) (Nat.le_of_ble_eq_true rfl)
    rw [lg_entry_eq]
    generalize (lg_sl ([.ref (ad (8 + 9 * k)), .int (nI pl), .int (nI us)]) ++ List.replicate (8 - (lg_sl ([.ref (ad (8 + 9 * k)), .int (nI pl), .int (nI us)])).length) Slot.unset).toArray = ls at hl ⊢
    have hl : lv_has ls 8 [(0, .ref (ad (8 + 9 * k))), (1, .int (nI pl)), (2, .int (nI us))] := hl
    refine lv_iload_n hx hb dP_fill_0 rfl (lv_at hl 1 rfl) ?_
    refine lv_if_lt (tgt := 12) hx hb dP_fill_1 (by decide) (fun c_1 => ?_) (fun c_1 => ?_)
    · refine lv_iconst (v := 1) hx hb dP_fill_12 (by decide) ?_
      exact absurd c_1 (nI_pos (by omega))
    · refine lv_iload_n hx hb dP_fill_4 rfl (lv_at hl 1 rfl) ?_
      refine lv_aload_n hx hb dP_fill_5 rfl (lv_at hl 0 rfl) ?_
      refine va_get (D := D) (ci := 2) (C := RP) (T := TP) (N := 6) hx hb hT inP hown hK hP (8 + 9 * k) (cw_PT hk) rfl 1 (by decide) (hT _ wm_40) (fun _ h9 => h9) rfl dP_fill_6 ?_
      refine W.eq (g2 := F0 m 9 ls [.int (nI n), .int (nI pl)]) (by rw [gf_o (show 8 + 9 * k ≠ 11 + 9 * k by omega) (show 8 + 9 * k ≠ 10 + 9 * k by omega), hc]) ?_
      refine lv_icmp_lt (tgt := 14) hx hb dP_fill_9 (by decide) (fun c_2 => ?_) (fun c_2 => ?_)
      · have hnp : ¬ n ≤ pl := by have := c_2; rw [nI_ltI (by omega) (by omega)] at this; omega
        refine lv_iconst (v := 1) hx hb dP_fill_14 (by decide) ?_
        refine lv_iload_n hx hb dP_fill_15 rfl (lv_at hl 1 rfl) ?_
        refine lv_ishl hx hb dP_fill_16 ?_
        refine W.eq (g2 := F0 m 17 ls [.int (nI (2 ^ pl))]) (by rw [nz_sh pl (by omega)]) ?_
        refine lv_istore_n (lv' := [(3, .int (nI (2 ^ pl))), (0, .ref (ad (8 + 9 * k))), (1, .int (nI pl)), (2, .int (nI us))]) hx hb dP_fill_17 rfl hl (by decide) rfl (fun ls hl => ?_)
        refine lv_aload_n hx hb dP_fill_18 rfl (lv_at hl 1 rfl) ?_
        refine va_get (D := D) (ci := 2) (C := RP) (T := TP) (N := 6) hx hb hT inP hown hK hP (8 + 9 * k) (cw_PT hk) rfl 3 (by decide) (hT _ wm_42) (fun _ h9 => h9) rfl dP_fill_19 ?_
        refine lv_iload_n hx hb dP_fill_22 rfl (lv_at hl 2 rfl) ?_
        refine va_iald (D := D) hx hb hK hP (9 + 9 * k) 0 (cw_FO hk) rfl (vp_in_nI (by omega) (by decide)) dP_fill_23 ?_
        rw [nI_clamp (n := pl) (by omega)]
        refine W.eq (g2 := F0 m 24 ls [.int (nI (fo pl))]) (by rw [gf_o (show 9 + 9 * k ≠ 11 + 9 * k by omega) (show 9 + 9 * k ≠ 10 + 9 * k by omega), hfg pl (by omega)]) ?_
        refine lv_iload_n hx hb dP_fill_24 rfl (lv_at hl 0 rfl) ?_
        refine lv_ineg hx hb dP_fill_25 ?_
        refine lv_iand hx hb dP_fill_26 ?_
        refine lv_istore (lv' := [(4, .int ((nI (fo pl)) &&& (-(nI (2 ^ pl))))), (3, .int (nI (2 ^ pl))), (0, .ref (ad (8 + 9 * k))), (1, .int (nI pl)), (2, .int (nI us))]) hx hb dP_fill_27 hl (by decide) rfl (fun ls hl => ?_)
        refine lv_iload_n hx hb dP_fill_29 rfl (lv_at hl 4 rfl) ?_
        refine lv_iconst (v := 1) hx hb dP_fill_30 (by decide) ?_
        refine lv_iadd hx hb dP_fill_31 ?_
        refine W.eq (g2 := F0 m 32 ls [.int (nI (us + 1))]) (by rw [nI_1]) ?_
        refine lv_aload_n hx hb dP_fill_32 rfl (lv_at hl 2 rfl) ?_
        refine va_get (D := D) (ci := 2) (C := RP) (T := TP) (N := 6) hx hb hT inP hown hK hP (8 + 9 * k) (cw_PT hk) rfl 0 (by decide) (hT _ wm_38) (fun _ h9 => h9) rfl dP_fill_33 ?_
        refine W.eq (g2 := F0 m 36 ls [.int (nI K), .int (nI (us + 1))]) (by rw [gf_o (show 8 + 9 * k ≠ 11 + 9 * k by omega) (show 8 + 9 * k ≠ 10 + 9 * k by omega), hkg]) ?_
        refine lv_bipush (v := 12) hx hb dP_fill_36 (by decide) ?_
        refine va_mmin hx hb (hml.trans hl.1.symm) (own := "CountLeast$Parting") hown (hT _ wm_367) (hT _ wm_368) (hT _ wm_12) (hT _ wm_369) (Nat.le_of_ble_eq_true rfl) (Nat.le_of_ble_eq_true rfl) (Nat.le_of_ble_eq_true rfl) (Nat.le_of_ble_eq_true rfl) dP_fill_38 ?_
        refine va_mmin hx hb (hml.trans hl.1.symm) (own := "CountLeast$Parting") hown (hT _ wm_367) (hT _ wm_368) (hT _ wm_12) (hT _ wm_369) (Nat.le_of_ble_eq_true rfl) (Nat.le_of_ble_eq_true rfl) (Nat.le_of_ble_eq_true rfl) (Nat.le_of_ble_eq_true rfl) dP_fill_41 ?_
        refine W.eq (g2 := F0 m 44 ls [.int (nI (min (us + 1) (min K 12)))]) (by rw [mn1 us (by omega) K (by omega)]) ?_
        refine lv_istore (lv' := [(5, .int (nI (min (us + 1) (min K 12)))), (4, .int ((nI (fo pl)) &&& (-(nI (2 ^ pl))))), (3, .int (nI (2 ^ pl))), (0, .ref (ad (8 + 9 * k))), (1, .int (nI pl)), (2, .int (nI us))]) hx hb dP_fill_44 hl (by decide) rfl (fun ls hl => ?_)
        refine lv_iconst (v := 0) hx hb dP_fill_46 (by decide) ?_
        refine lv_istore (lv' := [(6, .int 0), (5, .int (nI (min (us + 1) (min K 12)))), (4, .int ((nI (fo pl)) &&& (-(nI (2 ^ pl))))), (3, .int (nI (2 ^ pl))), (0, .ref (ad (8 + 9 * k))), (1, .int (nI pl)), (2, .int (nI us))]) hx hb dP_fill_47 hl (by decide) rfl (fun ls hl => ?_)
        refine loP_fill hk hn hK9 hfo hc hkg hfg (by omega) (by omega) hus IH hx hb hml hown hT hK (min (us + 1) (min K 12)) 0 im so (by omega) him (fun H locs x9 y9 hx9 hy9 hP hD hS => ?_) _ _ hP hD hS ls (lv_sub hl [0, 4, 5, 6, 3, 2, 1] rfl)
        refine ⟨fun ls hy1 => ?_, fun ls hy1 => ?_, fun ls hy1 => ?_⟩
        · exact W.zret (v := 1) hx hb hr rfl (fun t ht hW => ⟨⟨_, x9, rfl, ⟨by rw [fl, if_neg hnp, ← hy9]; exact hy1.symm, by rw [fl, if_neg hnp]; exact hx9⟩, gpost_at hP hK hD ht hW.alike⟩, hS.F ht⟩) hS.2.2 dP_fill_115
        · exact W.zret (v := 0) hx hb hr rfl (fun t ht hW => ⟨⟨_, x9, rfl, ⟨by rw [fl, if_neg hnp, ← hy9]; exact hy1.symm, by rw [fl, if_neg hnp]; exact hx9⟩, gpost_at hP hK hD ht hW.alike⟩, hS.F ht⟩) hS.2.2 dP_fill_144
        · exact W.zret (v := 0) hx hb hr rfl (fun t ht hW => ⟨⟨_, x9, rfl, ⟨by rw [fl, if_neg hnp, ← hy9]; exact hy1.symm, by rw [fl, if_neg hnp]; exact hx9⟩, gpost_at hP hK hD ht hW.alike⟩, hS.F ht⟩) hS.2.2 dP_fill_136
      · refine lv_iconst (v := 1) hx hb dP_fill_12 (by decide) ?_
        have hge : n ≤ pl := by have := c_2; rw [nI_ltI (by omega) (by omega)] at this; omega
        exact W.zret (v := 1) hx hb hr rfl (fun t ht hW => ⟨⟨_, (im, so), rfl, ⟨by rw [fl, if_pos hge]; rfl, by rw [fl, if_pos hge]⟩, gpost_at hP hK hD ht hW.alike⟩, hS.F ht⟩) hS.2.2 dP_fill_13
