/-! the j-th of a set, as the model counts down -/
def paM (m : Nat) (row : Nat → Int32) : Nat → Nat → Int32 → Int32
  | 0, _, _ => -1
  | n + 1, j, left => if m.testBit j = false then paM m row n (j + 1) left else if left = 0 then row j else paM m row n (j + 1) (left + -1)
/-! lowest terms, as the model finds them -/
theorem lm_div {a b d : Nat} (hd : 2 ≤ d) (ha : 0 < a) : a / d < a := Nat.div_lt_self ha hd
/-- nothing from 2 to below d divides both -/
def nodiv (o u d : Nat) : Prop := ∀ e, 2 ≤ e → e < d → ¬ (e ∣ o ∧ e ∣ u)
theorem nodiv_div {o u d : Nat} (h : nodiv o u d) (h1 : d ∣ o) (h2 : d ∣ u) : nodiv (o / d) (u / d) d := by
  intro e he hed ⟨a, b⟩
  exact h e he hed ⟨Nat.dvd_trans a (Nat.div_dvd_of_dvd h1), Nat.dvd_trans b (Nat.div_dvd_of_dvd h2)⟩
theorem nodiv_s {o u d : Nat} (h : nodiv o u d) (h1 : ¬ (d ∣ o ∧ d ∣ u)) : nodiv o u (d + 1) := by
  intro e he hed
  by_cases hq : e = d
  · subst hq; exact h1
  · exact h e he (by omega)
theorem nodiv_gcd {o u d : Nat} (h : nodiv o u d) (ho : 0 < o) (hd : o < d) : Nat.gcd o u = 1 := by
  have hg : 0 < Nat.gcd o u := Nat.gcd_pos_of_pos_left _ ho
  have hle : Nat.gcd o u ≤ o := Nat.gcd_le_left _ ho
  by_cases h1 : Nat.gcd o u = 1
  · exact h1
  · exact absurd ⟨Nat.gcd_dvd_left o u, Nat.gcd_dvd_right o u⟩ (h _ (by omega) (by omega))
/-- o over u is a over b in lower terms -/
def lof (a b o u : Nat) : Prop := ∃ c, 0 < c ∧ a = c * o ∧ b = c * u
theorem lof_div {a b o u d : Nat} (h : lof a b o u) (hd : 2 ≤ d) (h1 : d ∣ o) (h2 : d ∣ u) : lof a b (o / d) (u / d) := by
  obtain ⟨c, hc, rfl, rfl⟩ := h
  refine ⟨c * d, Nat.mul_pos hc (by omega), ?_, ?_⟩
  · rw [Nat.mul_assoc, Nat.mul_div_cancel' h1]
  · rw [Nat.mul_assoc, Nat.mul_div_cancel' h2]
theorem lof_end {a b o u d : Nat} (h : lof a b o u) (hn : nodiv o u d) (ho : 0 < o) (hd : o < d) : o = a / Nat.gcd a b ∧ u = b / Nat.gcd a b := by
  obtain ⟨c, hc, rfl, rfl⟩ := h
  have e : Nat.gcd (c * o) (c * u) = c := by rw [Nat.gcd_mul_left, nodiv_gcd hn ho hd, Nat.mul_one]
  rw [e, Nat.mul_div_cancel_left _ hc, Nat.mul_div_cancel_left _ hc]
  exact ⟨rfl, rfl⟩
theorem rem0 {a d : Nat} (ha : a < 2 ^ 31) (h0 : 0 < d) (hd : d < 2 ^ 31) : nI (a % d) = 0 ↔ d ∣ a := by
  rw [show (0 : Int32) = nI 0 from rfl, nI_eq (by have := Nat.mod_lt a h0; omega) (by decide)]
  exact (Nat.dvd_iff_mod_eq_zero).symm
def gle (g : Nat → Nat → Int32) (o u : Nat) : Nat → Nat → Int32 := u2 (u2 g 0 19 (nI o)) 0 20 (nI u)
theorem gle_o {g : Nat → Nat → Int32} {o u : Nat} : gle g o u 0 19 = nI o := by simp [gle, u2]
theorem gle_u {g : Nat → Nat → Int32} {o u : Nat} : gle g o u 0 20 = nI u := by simp [gle, u2]
theorem gle_so {g : Nat → Nat → Int32} {o u v : Nat} : u2 (gle g o u) 0 19 (nI v) = gle g v u := by
  funext a b
  by_cases h1 : a = 0
  · subst h1
    by_cases h2 : b = 19
    · subst h2; simp [gle, u2]
    · by_cases h3 : b = 20
      · subst h3; simp [gle, u2]
      · simp [gle, u2, h2, h3]
  · simp [gle, u2, h1]
theorem gle_su {g : Nat → Nat → Int32} {o u v : Nat} : u2 (gle g o u) 0 20 (nI v) = gle g o v := by
  funext a b
  by_cases h1 : a = 0
  · subst h1
    by_cases h2 : b = 19
    · subst h2; simp [gle, u2]
    · by_cases h3 : b = 20
      · subst h3; simp [gle, u2]
      · simp [gle, u2, h2, h3]
  · simp [gle, u2, h1]
theorem MI.gle {g : Nat → Nat → Int32} {h : Nat → Nat → Nat} {jp : Nat → Nat} (a : MI g h jp) {o u : Nat} : MI (gle g o u) h jp := (a.o (b := 19) (by decide)).o (b := 20) (by decide)
def lsO (a b : Nat) : Nat := a / Nat.gcd a b
def lsU (a b : Nat) : Nat := if a = 0 then 1 else b / Nat.gcd a b
set_option maxHeartbeats 4000000 in
set_option maxRecDepth 100000 in
theorem loM_clashing {p : Program} {l : Launch} {e : Env} {s : State} {m : MethodId} {args : Array Value} {below : List Frame} {meth : Method} {c : Code} {Q : State → Prop} {D : va_G} {CA : Nat → ClassId} {ad : Nat → Nat} {g : Nat → Nat → Int32} {h : Nat → Nat → Nat} {jp : Nat → Nat} (hm : MI g h jp) {k m0 : Nat} {V : Int32} (hk : k < 6) (hm0 : m0 < 4096) (hx : p.tables.exec = Jvm.exec) (hb : c.code = cM_clashing) (hml : c.maxLocals = 6) (hown : s.vm.findClass "CountLeastModel" = some m.cls) (hT : ∀ w ∈ TB, w.before args s = true) (hK : va_K D vwCl (cty CA) s) (kx : V = -1 → ∀ (H : Heap) (locs : List Loc), va_P D vwCl (mw CA (g) ad) H → va_D (mA ad s.heap.size) (mw CA (g) ad) → va_S (mA ad s.heap.size) s.heap H locs → ∀ ls, lv_has ls 6 [(0, .ref (ad 0))] → W p l e (rm 5 0 0) s m args below meth c H locs 0 0 Q (F0 m 89 ls [])) (kr : ∀ (H : Heap) (locs : List Loc), va_P D vwCl (mw CA (g) ad) H → va_D (mA ad s.heap.size) (mw CA (g) ad) → va_S (mA ad s.heap.size) s.heap H locs → ∀ ls, lv_has ls 6 [(0, .ref (ad 0))] → W p l e (rm 5 0 0) s m args below meth c H locs 0 0 Q (F0 m 79 ls [.int V])) :
    ∀ (n j : Nat) (lf : Int32), j + n = h 1 k → V = paM m0 (fun j => nI (h (3 + k) j)) n j lf → ∀ (H : Heap) (locs : List Loc), va_P D vwCl (mw CA (g) ad) H → va_D (mA ad s.heap.size) (mw CA (g) ad) → va_S (mA ad s.heap.size) s.heap H locs → ∀ ls, lv_has ls 6 [(5, .int (nI j)), (4, .int lf), (1, .int (nI k)), (3, .int (nI m0)), (0, .ref (ad 0))] → W p l e (rm 5 0 0) s m args below meth c H locs 0 0 Q (F0 m 39 ls []) := by
  intro n
  induction n with
  | zero =>
    intro j lf hi hV H locs hP hD hS ls hl
    have h12 := hm.c12 hk
    refine lv_iload hx hb dM_clashing_39 (lv_at hl 0 rfl) ?_
    refine lv_aload_n hx hb dM_clashing_41 rfl (lv_at hl 4 rfl) ?_
    refine va_get (D := D) (ci := 4) (C := RM) (T := TM) (N := 21) hx hb hT inM hown hK hP (0) (mw_O) rfl 9 (by decide) (hT _ wm_508) (fun _ h9 => h9) rfl dM_clashing_42 ?_
    refine lv_iload_n hx hb dM_clashing_45 rfl (lv_at hl 2 rfl) ?_
    refine va_iald (D := D) hx hb hK hP (8) 0 (mw_a8) rfl (vp_in_nI (by omega) (by decide)) dM_clashing_46 ?_
    rw [nI_clamp (n := k) (by omega)]
    refine W.eq (g2 := F0 m 47 ls [.int (nI (h 1 k)), .int (nI j)]) (by rw [hm.cnt (k := k) (by omega)]) ?_
    refine lv_icmp_ge (tgt := 89) hx hb dM_clashing_47 (by decide) (fun c_1 => ?_) (fun c_1 => absurd (nI_le (by omega) (by omega)) c_1)
    exact kx hV H locs hP hD hS ls (lv_sub hl [4] rfl)
  | succ n ih =>
    intro j lf hi hV H locs hP hD hS ls hl
    have h12 := hm.c12 hk
    refine lv_iload hx hb dM_clashing_39 (lv_at hl 0 rfl) ?_
    refine lv_aload_n hx hb dM_clashing_41 rfl (lv_at hl 4 rfl) ?_
    refine va_get (D := D) (ci := 4) (C := RM) (T := TM) (N := 21) hx hb hT inM hown hK hP (0) (mw_O) rfl 9 (by decide) (hT _ wm_508) (fun _ h9 => h9) rfl dM_clashing_42 ?_
    refine lv_iload_n hx hb dM_clashing_45 rfl (lv_at hl 2 rfl) ?_
    refine va_iald (D := D) hx hb hK hP (8) 0 (mw_a8) rfl (vp_in_nI (by omega) (by decide)) dM_clashing_46 ?_
    rw [nI_clamp (n := k) (by omega)]
    refine W.eq (g2 := F0 m 47 ls [.int (nI (h 1 k)), .int (nI j)]) (by rw [hm.cnt (k := k) (by omega)]) ?_
    refine lv_icmp_ge (tgt := 89) hx hb dM_clashing_47 (by decide) (fun c_1 => absurd c_1 (nI_ge (by omega) (by omega))) (fun c_1 => ?_)
    refine lv_iload_n hx hb dM_clashing_50 rfl (lv_at hl 3 rfl) ?_
    refine lv_iload hx hb dM_clashing_51 (lv_at hl 0 rfl) ?_
    refine lv_ishr hx hb dM_clashing_53 ?_
    refine lv_iconst (v := 1) hx hb dM_clashing_54 (by decide) ?_
    refine lv_iand hx hb dM_clashing_55 ?_
    refine lv_if_ne (tgt := 62) hx hb dM_clashing_56 (by decide) (fun c_2 => ?_) (fun c_2 => ?_)
    · refine lv_iload hx hb dM_clashing_62 (lv_at hl 1 rfl) ?_
      refine lv_if_ne (tgt := 80) hx hb dM_clashing_64 (by decide) (fun c_3 => ?_) (fun c_3 => ?_)
      · refine lv_iinc (v := lf + (-1)) (lv' := [(4, .int (lf + (-1))), (5, .int (nI j)), (1, .int (nI k)), (3, .int (nI m0)), (0, .ref (ad 0))]) hx hb dM_clashing_80 hl (k := 1) rfl rfl (by decide) rfl (fun ls hl => ?_)
        refine lv_iinc (v := nI (j + 1)) (lv' := [(5, .int (nI (j + 1))), (4, .int (lf + (-1))), (1, .int (nI k)), (3, .int (nI m0)), (0, .ref (ad 0))]) hx hb dM_clashing_83 hl (k := 1) rfl (nI_1 _) (by decide) rfl (fun ls hl => ?_)
        refine lv_goto (tgt := 39) hx hb dM_clashing_86 (by decide) ?_
        rw [paM, if_neg (by rw [tb_t m0 j hm0 (by omega) c_2]; decide), if_neg c_3] at hV
        have hi9 : j + 1 + n = h 1 k := by omega
        exact ih (j + 1) (lf + -1) hi9 hV H locs hP hD hS ls (lv_sub hl [0, 1, 2, 3, 4] rfl)
      · refine lv_aload_n hx hb dM_clashing_67 rfl (lv_at hl 4 rfl) ?_
        refine va_get (D := D) (ci := 4) (C := RM) (T := TM) (N := 21) hx hb hT inM hown hK hP (0) (mw_O) rfl 10 (by decide) (hT _ wm_509) (fun _ h9 => h9) rfl dM_clashing_68 ?_
        refine lv_bipush (v := 12) hx hb dM_clashing_71 (by decide) ?_
        refine lv_iload_n hx hb dM_clashing_73 rfl (lv_at hl 2 rfl) ?_
        refine lv_imul hx hb dM_clashing_74 ?_
        refine W.eq (g2 := F0 m 75 ls [.int (nI (12 * k)), .ref (ad 9)]) (by rw [m12 _]) ?_
        refine lv_iload hx hb dM_clashing_75 (lv_at hl 0 rfl) ?_
        refine lv_iadd hx hb dM_clashing_77 ?_
        refine W.eq (g2 := F0 m 78 ls [.int (nI (12 * k + j)), .ref (ad 9)]) (by rw [nI_add]) ?_
        refine va_iald (D := D) hx hb hK hP (9) 0 (mw_a9) rfl (vp_in_nI (by omega) (by decide)) dM_clashing_78 ?_
        rw [nI_clamp (n := 12 * k + j) (by omega)]
        refine W.eq (g2 := F0 m 79 ls [.int (nI (h (3 + k) j))]) (by rw [hm.row (k := k) (j := j) (by omega) (by omega)]) ?_
        rw [paM, if_neg (by rw [tb_t m0 j hm0 (by omega) c_2]; decide), if_pos c_3] at hV
        rw [← hV]
        exact kr H locs hP hD hS ls (lv_sub hl [4] rfl)
    · refine lv_goto (tgt := 83) hx hb dM_clashing_59 (by decide) ?_
      refine lv_iinc (v := nI (j + 1)) (lv' := [(5, .int (nI (j + 1))), (4, .int lf), (1, .int (nI k)), (3, .int (nI m0)), (0, .ref (ad 0))]) hx hb dM_clashing_83 hl (k := 0) rfl (nI_1 _) (by decide) rfl (fun ls hl => ?_)
      refine lv_goto (tgt := 39) hx hb dM_clashing_86 (by decide) ?_
      rw [paM, if_pos ((shb m0 j hm0 (by omega)).mp c_2)] at hV
      have hi9 : j + 1 + n = h 1 k := by omega
      exact ih (j + 1) lf hi9 hV H locs hP hD hS ls (lv_sub hl [0, 1, 2, 3, 4] rfl)
theorem bM_lt {g : Nat → Nat → Int32} {h : Nat → Nat → Nat} {jp : Nat → Nat} (hm : MI g h jp) {k : Nat} (hk : k < 6) {cm : Nat → Nat → Bool} : bM cm (h 1 k) (2 ^ h 1 k) < 4096 := by
  have h12 := hm.c12 hk
  have hp9 : 2 ^ h 1 k ≤ 4096 := (show 2 ^ h 1 k ≤ 2 ^ 12 from Nat.pow_le_pow_right (by decide) h12)
  have : ∀ t, 0 < t → bM cm (h 1 k) t < t := by
    intro t
    induction t with
    | zero => intro h; omega
    | succ t ih =>
      intro _
      rw [bM_s]
      split
      · omega
      · have := bM_le cm (h 1 k) t
        omega
  have := this (2 ^ h 1 k) (Nat.two_pow_pos _)
  omega
set_option maxHeartbeats 4000000 in
set_option maxRecDepth 100000 in
theorem kM_clashing (l : Launch) (D : va_G) (CA : Nat → ClassId) (g : Nat → Nat → Int32) (ad : Nat → Nat) (sz : Nat) (h : Nat → Nat → Nat) (jp : Nat → Nat) (hm : MI g h jp) (kd x : Int32) : Met l yM_clashing wM_clashing (rm 5 0 0) (va_Pc [.ref (ad 0), .int kd, .int x] (gpre D (cty CA) (mw CA g ad) sz)) (va_Qi (fun r (u : Nat → Nat → Int32) => t4 (ib kd 6 ∨ x < 0) False False g u (∃ k, k < 6 ∧ kd = nI k ∧ r = paM (bM (cM (u2 g 0 0 0) h jp k) (h 1 k) (2 ^ h 1 k)) (fun j => nI (h (3 + k) j)) (h 1 k) 0 x ∧ u = u2 g 0 0 0)) (fun u t => gpost D (cty CA) (mw CA u ad) (mA ad sz) t) (mA ad sz)) 0 0 (mA ad sz) := by
  refine Met.ofW (cc := cM_clashing) (maxL := 6) (ret := (some .int)) (by decide) rfl ?_
  intro p e s m args below meth c s₁ B hml hv
  obtain ⟨rfl, hsz, hP, hK, hD0⟩ := hv
  have hx := B.exec
  have hb := B.bytes
  have hr := B.returns
  have hT : ∀ w ∈ TB, w.before _ s = true := fun w hw => atoms_spec (ws := wM_clashing) B.pre w (List.mem_cons_of_mem _ hw)
  have hown : s.vm.findClass "CountLeastModel" = some m.cls := findClass_of_methodNamed B.named
  have hlocks := B.notSynchronized
  subst hsz
  have hD := nA_self (sz := s.heap.size) hD0
  have hS : va_S (mA ad s.heap.size) s.heap s.heap [] := va_S.rf
  have hP : va_P D vwCl (mw CA g ad) s.heap := hP
  have hl := lv_entry ([.ref (ad 0), .int kd, .int x]) (n := 6) (Nat.le_of_ble_eq_true rfl)
  rw [lg_entry_eq]
  generalize (lg_sl ([.ref (ad 0), .int kd, .int x]) ++ List.replicate (6 - (lg_sl ([.ref (ad 0), .int kd, .int x])).length) Slot.unset).toArray = ls at hl ⊢
  have hl : lv_has ls 6 [(0, .ref (ad 0)), (1, .int kd), (2, .int x)] := hl
  refine lv_aload_n hx hb dM_clashing_0 rfl (lv_at hl 0 rfl) ?_
  refine lv_iload_n hx hb dM_clashing_1 rfl (lv_at hl 1 rfl) ?_
  refine kSi (n := 1) (D := D) (As := [.int kd]) (rest := [.ref (ad 0)]) ⟨hx, hb, hml, hown, hT⟩ (kM_isKind l kd) (gi_S wm_571 wm_572 wm_4 wm_573) rfl rfl (by decide +kernel) ⟨(Nat.le_of_ble_eq_true rfl), (Nat.le_of_ble_eq_true rfl)⟩ hP hS rfl hl.1 rfl (Nat.le_of_ble_eq_true rfl) dM_clashing_2 ⟨(Nat.le_of_ble_eq_true rfl), (Nat.le_of_ble_eq_true rfl)⟩ (fun r_1 H locs e_2 hz hP hS => ?_)
  rcases e_2 with ⟨rfl, f_3⟩ | ⟨rfl, f_3⟩
  · refine lv_if_eq (tgt := 12) hx hb dM_clashing_5 (by decide) (fun c_4 => absurd c_4 (by decide)) (fun c_4 => ?_)
    refine lv_iload_n hx hb dM_clashing_8 rfl (lv_at hl 2 rfl) ?_
    refine lv_if_ge (tgt := 16) hx hb dM_clashing_9 (by decide) (fun c_5 => ?_) (fun c_5 => ?_)
    · refine lv_iconst (v := 0) hx hb dM_clashing_16 (by decide) ?_
      refine lv_iconst (v := 0) hx hb dM_clashing_17 (by decide) ?_
      refine lv_iconst (v := 0) hx hb dM_clashing_18 (by decide) ?_
      refine kVi (n := 3) (D := D) (wd := fun z => mw CA z ad) (A1 := fun sz => mA ad sz) (As := [.int 0, .int 0, .int 0]) (rest := []) ⟨hx, hb, hml, hown, hT⟩ (kM_throwing l D CA g ad H.size 0 0 0) (gi_V wm_577 wm_579 wp_8 wm_4 wm_580) rfl rfl (by decide +kernel) ⟨(Nat.le_of_ble_eq_true rfl), (Nat.le_of_ble_eq_true rfl)⟩ (va_recv hK hP (ci := 4) (q0 := 0) rfl mw_O) hK hP hD hS (fun _ h9 => h9) (nA_mono hS.1) rfl hl.1 rfl (Nat.le_of_ble_eq_true rfl) dM_clashing_19 ⟨(Nat.le_of_ble_eq_true rfl), (Nat.le_of_ble_eq_true rfl)⟩ (fun r_6 u_7 H locs w_8 hz hP hD hS => ?_)
      obtain ⟨rfl, rfl⟩ := th_000 w_8
      obtain ⟨k, hk, rfl⟩ := ibn (n := 6) (by decide) f_3
      have hm0 := (hm).t (v := 0)
      refine lv_if_eq (tgt := 27) hx hb dM_clashing_22 (by decide) (fun c_9 => ?_) (fun c_9 => absurd (by decide) c_9)
      refine lv_aload_n hx hb dM_clashing_27 rfl (lv_at hl 0 rfl) ?_
      refine lv_iload_n hx hb dM_clashing_28 rfl (lv_at hl 1 rfl) ?_
      refine kVi (n := 1) (D := D) (wd := fun z => mw CA z ad) (A1 := fun sz => mA ad sz) (As := [.int (nI k)]) (rest := []) ⟨hx, hb, hml, hown, hT⟩ (kM_greatest l D CA (u2 g 0 0 0) ad H.size h jp hm0 k hk) (gi_V wm_645 wm_647 wp_15 wm_4 wm_648) rfl rfl (by decide +kernel) ⟨(Nat.le_of_ble_eq_true rfl), (Nat.le_of_ble_eq_true rfl)⟩ (va_recv hK hP (ci := 4) (q0 := 0) rfl mw_O) hK hP hD hS (fun _ h9 => h9) (nA_mono hS.1) rfl hl.1 rfl (Nat.le_of_ble_eq_true rfl) dM_clashing_29 ⟨(Nat.le_of_ble_eq_true rfl), (Nat.le_of_ble_eq_true rfl)⟩ (fun r_10 u_11 H locs w_12 hz hP hD hS => ?_)
      obtain ⟨rfl, hu9⟩ := w_12
      rw [hu9] at hP hD
      refine lv_istore_n (lv' := [(3, .int (nI (bM (cM (u2 g 0 0 0) h jp k) (h 1 k) (2 ^ h 1 k)))), (0, .ref (ad 0)), (1, .int (nI k)), (2, .int x)]) hx hb dM_clashing_32 rfl hl (by decide) rfl (fun ls hl => ?_)
      refine lv_iload_n hx hb dM_clashing_33 rfl (lv_at hl 3 rfl) ?_
      refine lv_istore (lv' := [(4, .int x), (3, .int (nI (bM (cM (u2 g 0 0 0) h jp k) (h 1 k) (2 ^ h 1 k)))), (0, .ref (ad 0)), (1, .int (nI k)), (2, .int x)]) hx hb dM_clashing_34 hl (by decide) rfl (fun ls hl => ?_)
      refine lv_iconst (v := 0) hx hb dM_clashing_36 (by decide) ?_
      refine lv_istore (lv' := [(5, .int 0), (4, .int x), (3, .int (nI (bM (cM (u2 g 0 0 0) h jp k) (h 1 k) (2 ^ h 1 k)))), (0, .ref (ad 0)), (1, .int (nI k)), (2, .int x)]) hx hb dM_clashing_37 hl (by decide) rfl (fun ls hl => ?_)
      have h12 := hm.c12 hk
      have hb9 := bM_le (cM (u2 g 0 0 0) h jp k) (h 1 k) (2 ^ h 1 k)
      have hp9 : 2 ^ h 1 k ≤ 4096 := (show 2 ^ h 1 k ≤ 2 ^ 12 from Nat.pow_le_pow_right (by decide) h12)
      have hb8 : bM (cM (u2 g 0 0 0) h jp k) (h 1 k) (2 ^ h 1 k) < 4096 := bM_lt hm0 hk
      refine loM_clashing hm0 (V := paM (bM (cM (u2 g 0 0 0) h jp k) (h 1 k) (2 ^ h 1 k)) (fun j => nI (h (3 + k) j)) (h 1 k) 0 x) hk hb8 hx hb hml hown hT hK (fun hV H locs hP hD hS ls hl => ?_) (fun H locs hP hD hS ls hl => ?_) (h 1 k) 0 x (by omega) rfl _ _ hP hD hS ls (lv_sub hl [0, 1, 4, 2, 3] rfl)
      · refine lv_iconst (v := (-1)) hx hb dM_clashing_89 (by decide) ?_
        exact W.iret (v := (-1)) hx hb hr (fun t ht hW => ⟨⟨_, (u2 g 0 0 0), rfl, Or.inr (Or.inr (Or.inr ⟨(not_or.mpr ⟨f_3, (Int32.not_lt.mpr c_5)⟩), (fun h9 : False => h9), (fun h9 : False => h9), k, hk, rfl, hV.symm, rfl⟩)), gpost_at hP hK hD ht hW.alike⟩, hS.F ht⟩) hS.2.2 dM_clashing_90
      · exact W.iret (v := paM (bM (cM (u2 g 0 0 0) h jp k) (h 1 k) (2 ^ h 1 k)) (fun j => nI (h (3 + k) j)) (h 1 k) 0 x) hx hb hr (fun t ht hW => ⟨⟨_, (u2 g 0 0 0), rfl, Or.inr (Or.inr (Or.inr ⟨(not_or.mpr ⟨f_3, (Int32.not_lt.mpr c_5)⟩), (fun h9 : False => h9), (fun h9 : False => h9), k, hk, rfl, rfl, rfl⟩)), gpost_at hP hK hD ht hW.alike⟩, hS.F ht⟩) hS.2.2 dM_clashing_79
    · refine lv_iconst (v := 1) hx hb dM_clashing_12 (by decide) ?_
      refine lv_goto (tgt := 17) hx hb dM_clashing_13 (by decide) ?_
      refine lv_iconst (v := 0) hx hb dM_clashing_17 (by decide) ?_
      refine lv_iconst (v := 0) hx hb dM_clashing_18 (by decide) ?_
      refine kVi (n := 3) (D := D) (wd := fun z => mw CA z ad) (A1 := fun sz => mA ad sz) (As := [.int 1, .int 0, .int 0]) (rest := []) ⟨hx, hb, hml, hown, hT⟩ (kM_throwing l D CA g ad H.size 1 0 0) (gi_V wm_577 wm_579 wp_8 wm_4 wm_580) rfl rfl (by decide +kernel) ⟨(Nat.le_of_ble_eq_true rfl), (Nat.le_of_ble_eq_true rfl)⟩ (va_recv hK hP (ci := 4) (q0 := 0) rfl mw_O) hK hP hD hS (fun _ h9 => h9) (nA_mono hS.1) rfl hl.1 rfl (Nat.le_of_ble_eq_true rfl) dM_clashing_19 ⟨(Nat.le_of_ble_eq_true rfl), (Nat.le_of_ble_eq_true rfl)⟩ (fun r_13 u_14 H locs w_15 hz hP hD hS => ?_)
      obtain ⟨rfl, rfl⟩ := th_100 w_15
      refine lv_if_eq (tgt := 27) hx hb dM_clashing_22 (by decide) (fun c_16 => absurd c_16 (by decide)) (fun c_16 => ?_)
      refine lv_iconst (v := 0) hx hb dM_clashing_25 (by decide) ?_
      exact W.iret (v := 0) hx hb hr (fun t ht hW => ⟨⟨_, (u2 g 0 0 1), rfl, Or.inl ⟨(Or.inr (Int32.not_le.mp c_5)), rfl⟩, gpost_at hP hK hD ht hW.alike⟩, hS.F ht⟩) hS.2.2 dM_clashing_26
  · refine lv_if_eq (tgt := 12) hx hb dM_clashing_5 (by decide) (fun c_17 => ?_) (fun c_17 => absurd (by decide) c_17)
    refine lv_iconst (v := 1) hx hb dM_clashing_12 (by decide) ?_
    refine lv_goto (tgt := 17) hx hb dM_clashing_13 (by decide) ?_
    refine lv_iconst (v := 0) hx hb dM_clashing_17 (by decide) ?_
    refine lv_iconst (v := 0) hx hb dM_clashing_18 (by decide) ?_
    refine kVi (n := 3) (D := D) (wd := fun z => mw CA z ad) (A1 := fun sz => mA ad sz) (As := [.int 1, .int 0, .int 0]) (rest := []) ⟨hx, hb, hml, hown, hT⟩ (kM_throwing l D CA g ad H.size 1 0 0) (gi_V wm_577 wm_579 wp_8 wm_4 wm_580) rfl rfl (by decide +kernel) ⟨(Nat.le_of_ble_eq_true rfl), (Nat.le_of_ble_eq_true rfl)⟩ (va_recv hK hP (ci := 4) (q0 := 0) rfl mw_O) hK hP hD hS (fun _ h9 => h9) (nA_mono hS.1) rfl hl.1 rfl (Nat.le_of_ble_eq_true rfl) dM_clashing_19 ⟨(Nat.le_of_ble_eq_true rfl), (Nat.le_of_ble_eq_true rfl)⟩ (fun r_18 u_19 H locs w_20 hz hP hD hS => ?_)
    obtain ⟨rfl, rfl⟩ := th_100 w_20
    refine lv_if_eq (tgt := 27) hx hb dM_clashing_22 (by decide) (fun c_21 => absurd c_21 (by decide)) (fun c_21 => ?_)
    refine lv_iconst (v := 0) hx hb dM_clashing_25 (by decide) ?_
    exact W.iret (v := 0) hx hb hr (fun t ht hW => ⟨⟨_, (u2 g 0 0 1), rfl, Or.inl ⟨(Or.inl f_3), rfl⟩, gpost_at hP hK hD ht hW.alike⟩, hS.F ht⟩) hS.2.2 dM_clashing_26
set_option maxHeartbeats 4000000 in
set_option maxRecDepth 100000 in
theorem loM_lessen {p : Program} {l : Launch} {e : Env} {s : State} {m : MethodId} {args : Array Value} {below : List Frame} {meth : Method} {c : Code} {Q : State → Prop} {D : va_G} {CA : Nat → ClassId} {ad : Nat → Nat} {R : Room} {g : Nat → Nat → Int32} {a b : Nat} (ha : a < 2 ^ 30) (hb9 : b < 2 ^ 30) (hx : p.tables.exec = Jvm.exec) (hb : c.code = cM_lessen) (hml : c.maxLocals = 4) (hown : s.vm.findClass "CountLeastModel" = some m.cls) (hT : ∀ w ∈ TB, w.before args s = true) (hK : va_K D vwCl (cty CA) s) (kx : ∀ (o u : Nat), o = lsO a b → u = b / Nat.gcd a b → ∀ (H : Heap) (locs : List Loc), va_P D vwCl (mw CA (gle g o u) ad) H → va_D (mA ad s.heap.size) (mw CA (gle g o u) ad) → va_S (mA ad s.heap.size) s.heap H locs → ∀ ls, lv_has ls 4 [(0, .ref (ad 0))] → W p l e R s m args below meth c H locs 0 0 Q (F0 m 75 ls [])) :
    ∀ (n o u d : Nat), o + (a + 2 - d) ≤ n → 0 < o → o ≤ a → u ≤ b → 2 ≤ d → d ≤ a + 1 → nodiv o u d → lof a b o u → ∀ (H : Heap) (locs : List Loc), va_P D vwCl (mw CA (gle g o u) ad) H → va_D (mA ad s.heap.size) (mw CA (gle g o u) ad) → va_S (mA ad s.heap.size) s.heap H locs → ∀ ls, lv_has ls 4 [(3, .int (nI d)), (0, .ref (ad 0))] → W p l e R s m args below meth c H locs 0 0 Q (F0 m 28 ls []) := by
  intro n
  induction n with
  | zero => intro o u d h1 h2; omega
  | succ n ih =>
    intro o u d hn ho hoa hub hd hda hnd hlf H locs hP hD hS ls hl
    refine lv_aload_n hx hb dM_lessen_28 rfl (lv_at hl 1 rfl) ?_
    refine va_get (D := D) (ci := 4) (C := RM) (T := TM) (N := 21) hx hb hT inM hown hK hP (0) (mw_O) rfl 19 (by decide) (hT _ wm_518) (fun _ h9 => h9) rfl dM_lessen_29 ?_
    refine W.eq (g2 := F0 m 32 ls [.int (nI o)]) (by rw [gle_o]) ?_
    refine lv_iload_n hx hb dM_lessen_32 rfl (lv_at hl 0 rfl) ?_
    refine lv_irem hx hb dM_lessen_33 (nI_ne0 (by omega) (by omega)) ?_
    refine W.eq (g2 := F0 m 34 ls [.int (nI (o % d))]) (by rw [pk_rem (by omega) (by omega) (by omega)]) ?_
    refine lv_if_ne (tgt := 69) hx hb dM_lessen_34 (by decide) (fun c_1 => ?_) (fun c_1 => ?_)
    · have nd : ¬ (d ∣ o ∧ d ∣ u) := fun z => c_1 ((rem0 (by omega) (by omega) (by omega)).mpr z.1)
      have nd1 := nodiv_s hnd nd
      refine lv_iinc (v := nI (d + 1)) (lv' := [(3, .int (nI (d + 1))), (0, .ref (ad 0))]) hx hb dM_lessen_69 hl (k := 0) rfl (nI_1 _) (by decide) rfl (fun ls hl => ?_)
      refine lv_goto (tgt := 20) hx hb dM_lessen_72 (by decide) ?_
      refine lv_iload_n hx hb dM_lessen_20 rfl (lv_at hl 0 rfl) ?_
      refine lv_aload_n hx hb dM_lessen_21 rfl (lv_at hl 1 rfl) ?_
      refine va_get (D := D) (ci := 4) (C := RM) (T := TM) (N := 21) hx hb hT inM hown hK hP (0) (mw_O) rfl 19 (by decide) (hT _ wm_518) (fun _ h9 => h9) rfl dM_lessen_22 ?_
      refine W.eq (g2 := F0 m 25 ls [.int (nI o), .int (nI (d + 1))]) (by rw [gle_o]) ?_
      refine lv_icmp_gt (tgt := 75) hx hb dM_lessen_25 (by decide) (fun c_2 => ?_) (fun c_2 => ?_)
      · have hdo : o < d + 1 := (nI_ltI (by omega) (by omega)).mp c_2
        obtain ⟨q1, q2⟩ := lof_end hlf nd1 ho hdo
        exact kx o u q1 q2 H locs hP hD hS ls (lv_sub hl [1] rfl)
      · have hdo : d + 1 ≤ o := by have z : ¬ o < d + 1 := fun y => c_2 (nI_lt y (by omega)); omega
        exact ih o u (d + 1) (by omega) ho hoa hub (by omega) (by omega) nd1 hlf H locs hP hD hS ls (lv_sub hl [0, 1] rfl)
    · refine lv_aload_n hx hb dM_lessen_37 rfl (lv_at hl 1 rfl) ?_
      refine va_get (D := D) (ci := 4) (C := RM) (T := TM) (N := 21) hx hb hT inM hown hK hP (0) (mw_O) rfl 20 (by decide) (hT _ wm_519) (fun _ h9 => h9) rfl dM_lessen_38 ?_
      refine W.eq (g2 := F0 m 41 ls [.int (nI u)]) (by rw [gle_u]) ?_
      refine lv_iload_n hx hb dM_lessen_41 rfl (lv_at hl 0 rfl) ?_
      refine lv_irem hx hb dM_lessen_42 (nI_ne0 (by omega) (by omega)) ?_
      refine W.eq (g2 := F0 m 43 ls [.int (nI (u % d))]) (by rw [pk_rem (by omega) (by omega) (by omega)]) ?_
      refine lv_if_ne (tgt := 69) hx hb dM_lessen_43 (by decide) (fun c_3 => ?_) (fun c_3 => ?_)
      · have nd : ¬ (d ∣ o ∧ d ∣ u) := fun z => c_3 ((rem0 (by omega) (by omega) (by omega)).mpr z.2)
        have nd1 := nodiv_s hnd nd
        refine lv_iinc (v := nI (d + 1)) (lv' := [(3, .int (nI (d + 1))), (0, .ref (ad 0))]) hx hb dM_lessen_69 hl (k := 0) rfl (nI_1 _) (by decide) rfl (fun ls hl => ?_)
        refine lv_goto (tgt := 20) hx hb dM_lessen_72 (by decide) ?_
        refine lv_iload_n hx hb dM_lessen_20 rfl (lv_at hl 0 rfl) ?_
        refine lv_aload_n hx hb dM_lessen_21 rfl (lv_at hl 1 rfl) ?_
        refine va_get (D := D) (ci := 4) (C := RM) (T := TM) (N := 21) hx hb hT inM hown hK hP (0) (mw_O) rfl 19 (by decide) (hT _ wm_518) (fun _ h9 => h9) rfl dM_lessen_22 ?_
        refine W.eq (g2 := F0 m 25 ls [.int (nI o), .int (nI (d + 1))]) (by rw [gle_o]) ?_
        refine lv_icmp_gt (tgt := 75) hx hb dM_lessen_25 (by decide) (fun c_4 => ?_) (fun c_4 => ?_)
        · have hdo : o < d + 1 := (nI_ltI (by omega) (by omega)).mp c_4
          obtain ⟨q1, q2⟩ := lof_end hlf nd1 ho hdo
          exact kx o u q1 q2 H locs hP hD hS ls (lv_sub hl [1] rfl)
        · have hdo : d + 1 ≤ o := by have z : ¬ o < d + 1 := fun y => c_4 (nI_lt y (by omega)); omega
          exact ih o u (d + 1) (by omega) ho hoa hub (by omega) (by omega) nd1 hlf H locs hP hD hS ls (lv_sub hl [0, 1] rfl)
      · refine lv_aload_n hx hb dM_lessen_46 rfl (lv_at hl 1 rfl) ?_
        refine lv_aload_n hx hb dM_lessen_47 rfl (lv_at hl 1 rfl) ?_
        refine va_get (D := D) (ci := 4) (C := RM) (T := TM) (N := 21) hx hb hT inM hown hK hP (0) (mw_O) rfl 19 (by decide) (hT _ wm_518) (fun _ h9 => h9) rfl dM_lessen_48 ?_
        refine W.eq (g2 := F0 m 51 ls [.int (nI o), .ref (ad 0)]) (by rw [gle_o]) ?_
        refine lv_iload_n hx hb dM_lessen_51 rfl (lv_at hl 0 rfl) ?_
        refine lv_idiv hx hb dM_lessen_52 (nI_ne0 (by omega) (by omega)) ?_
        refine W.eq (g2 := F0 m 53 ls [.int (nI (o / d)), .ref (ad 0)]) (by rw [pk_div (by omega) (by omega) (by omega)]) ?_
        refine va_put (D := D) (ci := 4) (v := .int (nI (o / d))) (ty := .int) (C := RM) (T := TM) (N := 21) hx hb hT inM tyM tyokM nmM hown hK hP hD hS (0) (mw_O) rfl 19 (by decide) (hT _ wm_518) (fun _ h9 => h9) rfl (by decide +kernel) rfl rfl (Nat.le_of_ble_eq_true rfl) dM_lessen_53 (fun H locs hP hD hS => ?_)
        rw [mw_sO (by simp)] at hP hD
        rw [gle_so] at hP hD
        refine lv_aload_n hx hb dM_lessen_56 rfl (lv_at hl 1 rfl) ?_
        refine lv_aload_n hx hb dM_lessen_57 rfl (lv_at hl 1 rfl) ?_
        refine va_get (D := D) (ci := 4) (C := RM) (T := TM) (N := 21) hx hb hT inM hown hK hP (0) (mw_O) rfl 20 (by decide) (hT _ wm_519) (fun _ h9 => h9) rfl dM_lessen_58 ?_
        refine W.eq (g2 := F0 m 61 ls [.int (nI u), .ref (ad 0)]) (by rw [gle_u]) ?_
        refine lv_iload_n hx hb dM_lessen_61 rfl (lv_at hl 0 rfl) ?_
        refine lv_idiv hx hb dM_lessen_62 (nI_ne0 (by omega) (by omega)) ?_
        refine W.eq (g2 := F0 m 63 ls [.int (nI (u / d)), .ref (ad 0)]) (by rw [pk_div (by omega) (by omega) (by omega)]) ?_
        refine va_put (D := D) (ci := 4) (v := .int (nI (u / d))) (ty := .int) (C := RM) (T := TM) (N := 21) hx hb hT inM tyM tyokM nmM hown hK hP hD hS (0) (mw_O) rfl 20 (by decide) (hT _ wm_519) (fun _ h9 => h9) rfl (by decide +kernel) rfl rfl (Nat.le_of_ble_eq_true rfl) dM_lessen_63 (fun H locs hP hD hS => ?_)
        rw [mw_sO (by simp)] at hP hD
        rw [gle_su] at hP hD
        have d1 : d ∣ o := (rem0 (by omega) (by omega) (by omega)).mp c_1
        have d2 : d ∣ u := (rem0 (by omega) (by omega) (by omega)).mp c_3
        have l1 := lm_div (b := 0) hd ho
        have l2 := Nat.div_le_self u d
        have l3 : 0 < o / d := Nat.div_pos (Nat.le_of_dvd ho d1) (by omega)
        refine lv_goto (tgt := 28) hx hb dM_lessen_66 (by decide) ?_
        exact ih (o / d) (u / d) d (by omega) l3 (by omega) (by omega) hd hda (nodiv_div hnd d1 d2) (lof_div hlf hd d1 d2) H locs hP hD hS ls (lv_sub hl [0, 1] rfl)
set_option maxHeartbeats 4000000 in
set_option maxRecDepth 100000 in
theorem kM_lessen (l : Launch) (D : va_G) (CA : Nat → ClassId) (g : Nat → Nat → Int32) (ad : Nat → Nat) (sz : Nat) (a b : Nat) (ha : a < 2 ^ 30) (hb9 : b < 2 ^ 30) : Met l yM_lessen wM_lessen (rm 0 0 0) (va_Pc [.ref (ad 0), .int (nI a), .int (nI b)] (gpre D (cty CA) (mw CA g ad) sz)) (va_Qv (fun (u : Nat → Nat → Int32) => u = gle g (lsO a b) (lsU a b)) (fun u t => gpost D (cty CA) (mw CA u ad) (mA ad sz) t) (mA ad sz)) 0 0 (mA ad sz) := by
  refine Met.ofW (cc := cM_lessen) (maxL := 4) (ret := none) (by decide) rfl ?_
  intro p e s m args below meth c s₁ B hml hv
  obtain ⟨rfl, hsz, hP, hK, hD0⟩ := hv
  have hx := B.exec
  have hb := B.bytes
  have hr := B.returns
  have hT : ∀ w ∈ TB, w.before _ s = true := fun w hw => atoms_spec (ws := wM_lessen) B.pre w (List.mem_cons_of_mem _ hw)
  have hown : s.vm.findClass "CountLeastModel" = some m.cls := findClass_of_methodNamed B.named
  have hlocks := B.notSynchronized
  subst hsz
  have hD := nA_self (sz := s.heap.size) hD0
  have hS : va_S (mA ad s.heap.size) s.heap s.heap [] := va_S.rf
  have hP : va_P D vwCl (mw CA g ad) s.heap := hP
  have hl := lv_entry ([.ref (ad 0), .int (nI a), .int (nI b)]) (n := 4) (Nat.le_of_ble_eq_true rfl)
  rw [lg_entry_eq]
  generalize (lg_sl ([.ref (ad 0), .int (nI a), .int (nI b)]) ++ List.replicate (4 - (lg_sl ([.ref (ad 0), .int (nI a), .int (nI b)])).length) Slot.unset).toArray = ls at hl ⊢
  have hl : lv_has ls 4 [(0, .ref (ad 0)), (1, .int (nI a)), (2, .int (nI b))] := hl
  refine lv_aload_n hx hb dM_lessen_0 rfl (lv_at hl 0 rfl) ?_
  refine lv_iload_n hx hb dM_lessen_1 rfl (lv_at hl 1 rfl) ?_
  refine va_put (D := D) (ci := 4) (v := .int (nI a)) (ty := .int) (C := RM) (T := TM) (N := 21) hx hb hT inM tyM tyokM nmM hown hK hP hD hS (0) (mw_O) rfl 19 (by decide) (hT _ wm_518) (fun _ h9 => h9) rfl (by decide +kernel) rfl rfl (Nat.le_of_ble_eq_true rfl) dM_lessen_2 (fun H locs hP hD hS => ?_)
  rw [mw_sO (by simp)] at hP hD
  refine lv_aload_n hx hb dM_lessen_5 rfl (lv_at hl 0 rfl) ?_
  refine lv_iload_n hx hb dM_lessen_6 rfl (lv_at hl 1 rfl) ?_
  refine lv_if_ne (tgt := 14) hx hb dM_lessen_7 (by decide) (fun c_1 => ?_) (fun c_1 => ?_)
  · refine lv_iload_n hx hb dM_lessen_14 rfl (lv_at hl 2 rfl) ?_
    refine va_put (D := D) (ci := 4) (v := .int (nI b)) (ty := .int) (C := RM) (T := TM) (N := 21) hx hb hT inM tyM tyokM nmM hown hK hP hD hS (0) (mw_O) rfl 20 (by decide) (hT _ wm_519) (fun _ h9 => h9) rfl (by decide +kernel) rfl rfl (Nat.le_of_ble_eq_true rfl) dM_lessen_15 (fun H locs hP hD hS => ?_)
    rw [mw_sO (by simp)] at hP hD
    have ea : ¬ a = 0 := fun z => c_1 (by rw [z]; rfl)
    have hP : va_P D vwCl (mw CA (gle g a b) ad) H := hP
    have hD : va_D (mA ad s.heap.size) (mw CA (gle g a b) ad) := hD
    refine lv_iconst (v := 2) hx hb dM_lessen_18 (by decide) ?_
    refine lv_istore_n (lv' := [(3, .int 2), (0, .ref (ad 0)), (1, .int (nI a)), (2, .int (nI b))]) hx hb dM_lessen_19 rfl hl (by decide) rfl (fun ls hl => ?_)
    refine lv_iload_n hx hb dM_lessen_20 rfl (lv_at hl 0 rfl) ?_
    refine lv_aload_n hx hb dM_lessen_21 rfl (lv_at hl 1 rfl) ?_
    refine va_get (D := D) (ci := 4) (C := RM) (T := TM) (N := 21) hx hb hT inM hown hK hP (0) (mw_O) rfl 19 (by decide) (hT _ wm_518) (fun _ h9 => h9) rfl dM_lessen_22 ?_
    refine W.eq (g2 := F0 m 25 ls [.int (nI a), .int 2]) (by rw [gle_o]) ?_
    refine lv_icmp_gt (tgt := 75) hx hb dM_lessen_25 (by decide) (fun c_2 => ?_) (fun c_2 => ?_)
    · have e1 : a = 1 := by have := (nI_ltI (a := a) (b := 2) (by omega) (by decide)).mp c_2; omega
      exact W.vret hx hb hr (fun t ht hW => ⟨⟨gle g a b, rfl, by subst e1; simp [lsO, lsU], gpost_at hP hK hD ht hW.alike⟩, hS.F ht⟩) hS.2.2 dM_lessen_75
    · refine loM_lessen ha hb9 hx hb hml hown hT hK (fun o u ho hu H locs hP hD hS ls hl => ?_) (a + (a + 2 - 2)) a b 2 (by omega) (by omega) (by omega) (by omega) (by omega) (by omega) (fun e he hed => by omega) ⟨1, by omega, by omega, by omega⟩ H locs hP hD hS ls (lv_sub hl [0, 1] rfl)
      exact W.vret hx hb hr (fun t ht hW => ⟨⟨gle g o u, rfl, by rw [ho, hu]; simp [lsU, ea], gpost_at hP hK hD ht hW.alike⟩, hS.F ht⟩) hS.2.2 dM_lessen_75
  · refine lv_iconst (v := 1) hx hb dM_lessen_10 (by decide) ?_
    refine lv_goto (tgt := 15) hx hb dM_lessen_11 (by decide) ?_
    refine va_put (D := D) (ci := 4) (v := .int 1) (ty := .int) (C := RM) (T := TM) (N := 21) hx hb hT inM tyM tyokM nmM hown hK hP hD hS (0) (mw_O) rfl 20 (by decide) (hT _ wm_519) (fun _ h9 => h9) rfl (by decide +kernel) rfl rfl (Nat.le_of_ble_eq_true rfl) dM_lessen_15 (fun H locs hP hD hS => ?_)
    rw [mw_sO (by simp)] at hP hD
    have ea : a = 0 := (nI_eq (a := a) (b := 0) (by omega) (by decide)).mp c_1
    have hP : va_P D vwCl (mw CA (gle g a 1) ad) H := hP
    have hD : va_D (mA ad s.heap.size) (mw CA (gle g a 1) ad) := hD
    refine lv_iconst (v := 2) hx hb dM_lessen_18 (by decide) ?_
    refine lv_istore_n (lv' := [(3, .int 2), (0, .ref (ad 0)), (1, .int (nI a)), (2, .int (nI b))]) hx hb dM_lessen_19 rfl hl (by decide) rfl (fun ls hl => ?_)
    refine lv_iload_n hx hb dM_lessen_20 rfl (lv_at hl 0 rfl) ?_
    refine lv_aload_n hx hb dM_lessen_21 rfl (lv_at hl 1 rfl) ?_
    refine va_get (D := D) (ci := 4) (C := RM) (T := TM) (N := 21) hx hb hT inM hown hK hP (0) (mw_O) rfl 19 (by decide) (hT _ wm_518) (fun _ h9 => h9) rfl dM_lessen_22 ?_
    refine W.eq (g2 := F0 m 25 ls [.int (nI a), .int 2]) (by rw [gle_o]) ?_
    refine lv_icmp_gt (tgt := 75) hx hb dM_lessen_25 (by decide) (fun c_3 => ?_) (fun c_3 => absurd (by rw [ea]; decide) c_3)
    exact W.vret hx hb hr (fun t ht hW => ⟨⟨gle g a 1, rfl, by subst ea; simp [lsO, lsU], gpost_at hP hK hD ht hW.alike⟩, hS.F ht⟩) hS.2.2 dM_lessen_75
