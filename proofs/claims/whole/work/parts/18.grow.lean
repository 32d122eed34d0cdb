/-! bits of numbers -/
theorem nz_and (a b : Nat) : nI a &&& nI b = nI (a &&& b) := by
  apply Int32.toBitVec_inj.mp
  show BitVec.ofNat 32 a &&& BitVec.ofNat 32 b = BitVec.ofNat 32 (a &&& b)
  apply BitVec.eq_of_toNat_eq
  simp [Nat.and_mod_two_pow]
theorem nz_or (a b : Nat) : nI a ||| nI b = nI (a ||| b) := by
  apply Int32.toBitVec_inj.mp
  show BitVec.ofNat 32 a ||| BitVec.ofNat 32 b = BitVec.ofNat 32 (a ||| b)
  apply BitVec.eq_of_toNat_eq
  simp [Nat.or_mod_two_pow]
theorem nz_xor (a b : Nat) : nI a ^^^ nI b = nI (a ^^^ b) := by
  apply Int32.toBitVec_inj.mp
  show BitVec.ofNat 32 a ^^^ BitVec.ofNat 32 b = BitVec.ofNat 32 (a ^^^ b)
  apply BitVec.eq_of_toNat_eq
  simp [Nat.xor_mod_two_pow]
theorem nz_sh : ∀ i, i < 13 → (1 : Int32) <<< (nI i &&& 31) = nI (2 ^ i) := by decide +kernel
def clr (m i : Nat) : Nat := m &&& (2 ^ i ^^^ (2 ^ 32 - 1))
theorem nz_clr (m i : Nat) : nI m &&& (nI (2 ^ i) ^^^ -1) = nI (clr m i) := by
  rw [show (-1 : Int32) = nI (2 ^ 32 - 1) from by decide, nz_xor, nz_and]; rfl
theorem clr_le (m i : Nat) : clr m i ≤ m := Nat.and_le_left
theorem or_lt {a b : Nat} (ha : a < 4096) (hb : b < 4096) : a ||| b < 4096 := Nat.or_lt_two_pow (n := 12) ha hb
theorem and_lt {a b : Nat} (ha : a < 4096) : a &&& b < 4096 := Nat.lt_of_le_of_lt Nat.and_le_left ha
theorem pw_lt {i : Nat} (h : i < 12) : 2 ^ i < 4096 := Nat.pow_lt_pow_right (by decide) (show i < 12 from h)
theorem and_pw {m i : Nat} : m &&& 2 ^ i = 0 ↔ m.testBit i = false := by
  constructor
  · intro h
    have h1 : (m &&& 2 ^ i).testBit i = false := by rw [h]; exact Nat.zero_testBit i
    rw [Nat.testBit_and, Nat.testBit_two_pow_self] at h1
    simpa using h1
  · intro h
    apply Nat.eq_of_testBit_eq
    intro j
    rw [Nat.testBit_and, Nat.zero_testBit]
    by_cases hj : i = j
    · subst hj; simp [h]
    · rw [Nat.testBit_two_pow_of_ne hj]; simp
theorem nz_bit {m i : Nat} (hm : m < 4096) : nI (m &&& 2 ^ i) = 0 ↔ m.testBit i = false := by
  have h1 : m &&& 2 ^ i < 4096 := and_lt hm
  rw [show (0 : Int32) = nI 0 from rfl, nI_eq (by omega) (by decide)]
  exact and_pw
theorem pop_le (m : Nat) : pop m ≤ 12 := by
  unfold pop
  exact Nat.le_trans (List.length_filter_le _ _) (by simp)
theorem u2_u2 {g : Nat → Nat → Int32} {i j : Nat} {v w : Int32} : u2 (u2 g i j v) i j w = u2 g i j w := by
  funext a b
  by_cases h : a = i ∧ b = j <;> simp [u2, h]
/-! the greatest set of foes, as the class seeks it -/
def grL (rec : Nat → Nat → Nat → Nat → Nat) (n : Nat) (fo : Nat → Nat) (size chosen : Nat) : Nat → Nat → Nat → Nat → Nat
  | 0, _, _, best => best
  | f + 1, i, left, best =>
    if size + pop left ≤ pop best then best
    else if left.testBit i = true ∧ size < n then grL rec n fo size chosen f (i + 1) (clr left i) (rec (size + 1) (chosen ||| 2 ^ i) (clr left i &&& fo i) best)
    else grL rec n fo size chosen f (i + 1) left best
def gr (n : Nat) (fo : Nat → Nat) : Nat → Nat → Nat → Nat → Nat → Nat
  | 0, _, _, _, best => best
  | d + 1, size, chosen, opn, best => grL (gr n fo d) n fo size chosen n 0 opn (if pop best < size then chosen else best)
theorem grL_lt {rec : Nat → Nat → Nat → Nat → Nat} {n : Nat} {fo : Nat → Nat} {size chosen : Nat} (hr : ∀ a b c d, b < 4096 → d < 4096 → rec a b c d < 4096) (hc : chosen < 4096) (hn : n < 13) : ∀ f i left best, i + f = n → best < 4096 → grL rec n fo size chosen f i left best < 4096 := by
  intro f
  induction f with
  | zero => intro i left best _ hb; exact hb
  | succ f ih =>
    intro i left best hi hb
    unfold grL
    split
    · exact hb
    · split
      · exact ih _ _ _ (by omega) (hr _ _ _ _ (or_lt hc (pw_lt (by omega))) hb)
      · exact ih _ _ _ (by omega) hb
theorem gr_lt {n : Nat} {fo : Nat → Nat} (hn : n < 13) : ∀ d size chosen opn best, chosen < 4096 → best < 4096 → gr n fo d size chosen opn best < 4096 := by
  intro d
  induction d with
  | zero => intro _ _ _ _ _ hb; exact hb
  | succ d ih =>
    intro size chosen opn best hc hb
    unfold gr
    exact grL_lt (fun a b c d => ih a b c d) hc hn _ _ _ _ (by omega) (by split <;> assumption)
set_option maxHeartbeats 4000000 in
set_option maxRecDepth 100000 in
theorem loP_growFoes {p : Program} {l : Launch} {e : Env} {s : State} {m : MethodId} {args : Array Value} {below : List Frame} {meth : Method} {c : Code} {Q : State → Prop} {D : va_G} {CA : Nat → ClassId} {g : Nat → Nat → Int32} {h : Nat → Nat → Nat} {ad : Nat → Nat} {k : Nat} (hk : k < 6) {n : Nat} (hn : n < 13) {fo : Nat → Nat} (hfo : ∀ i, i < 12 → fo i < 4096) (hc : g (8 + 9 * k) 1 = nI n) (hfg : ∀ i, i < 12 → g (9 + 9 * k) i = nI (fo i)) {d size chosen : Nat} (hs : size ≤ n) (hd : n < d + 1 + size) (hch : chosen < 4096) (IH : ∀ size chosen opn best sz, size ≤ n → n < d + size → chosen < 4096 → opn < 4096 → best < 4096 → Met l yP_growFoes wP_growFoes (rm (1 + d) 0 0) (va_Pc [.ref (ad (8 + 9 * k)), .int (nI size), .int (nI chosen), .int (nI opn)] (gpre D (cty CA) (cw CA (u2 g (8 + 9 * k) 2 (nI best)) h ad) sz)) (va_Qv (fun u : Nat => u = gr n fo d size chosen opn best) (fun u t => gpost D (cty CA) (cw CA (u2 g (8 + 9 * k) 2 (nI u)) h ad) (cA h ad sz) t) (cA h ad sz)) 0 0 (cA h ad sz)) (hx : p.tables.exec = Jvm.exec) (hb : c.code = cP_growFoes) (hml : c.maxLocals = 7) (hown : s.vm.findClass "CountLeast$Parting" = some m.cls) (hT : ∀ w ∈ TB, w.before args s = true) (hK : va_K D vwCl (cty CA) s) :
    ∀ (f i left best : Nat), i + f = n → left < 4096 → best < 4096 → (∀ (H : Heap) (locs : List Loc), va_P D vwCl (cw CA (u2 g (8 + 9 * k) 2 (nI (grL (gr n fo d) n fo size chosen f i left best))) h ad) H → va_D (cA h ad s.heap.size) (cw CA (u2 g (8 + 9 * k) 2 (nI (grL (gr n fo d) n fo size chosen f i left best))) h ad) → va_S (cA h ad s.heap.size) s.heap H locs → ∀ ls, lv_has ls 7 [(0, .ref (ad (8 + 9 * k)))] → W p l e (rm (1 + (d + 1)) 0 0) s m args below meth c H locs 0 0 Q (F0 m 106 ls [])) → ∀ (H : Heap) (locs : List Loc), va_P D vwCl (cw CA (u2 g (8 + 9 * k) 2 (nI best)) h ad) H → va_D (cA h ad s.heap.size) (cw CA (u2 g (8 + 9 * k) 2 (nI best)) h ad) → va_S (cA h ad s.heap.size) s.heap H locs → ∀ ls, lv_has ls 7 [(5, .int (nI i)), (4, .int (nI left)), (0, .ref (ad (8 + 9 * k))), (1, .int (nI size)), (2, .int (nI chosen))] → W p l e (rm (1 + (d + 1)) 0 0) s m args below meth c H locs 0 0 Q (F0 m 22 ls []) := by
  intro f
  induction f with
  | zero =>
    intro i left best hi hle hbs kx H locs hP hD hS ls hl
    have hi : i = n := by omega
    subst hi
    refine lv_iload hx hb dP_growFoes_22 (lv_at hl 0 rfl) ?_
    refine lv_aload_n hx hb dP_growFoes_24 rfl (lv_at hl 2 rfl) ?_
    refine va_get (D := D) (ci := 2) (C := RP) (T := TP) (N := 6) hx hb hT inP hown hK hP (8 + 9 * k) (cw_PT hk) rfl 1 (by decide) (hT _ wm_40) (fun _ h9 => h9) rfl dP_growFoes_25 ?_
    refine W.eq (g2 := F0 m 28 ls [.int (nI i), .int (nI i)]) (by rw [u2_m (show (1 : Nat) ≠ 2 by decide), hc]) ?_
    refine lv_icmp_ge (tgt := 106) hx hb dP_growFoes_28 (by decide) (fun c_1 => ?_) (fun c_1 => absurd (nI_le (Nat.le_refl _) (by omega)) c_1)
    exact kx H locs hP hD hS ls (lv_sub hl [2] rfl)
  | succ f ih =>
    intro i left best hi hle hbs kx H locs hP hD hS ls hl
    refine lv_iload hx hb dP_growFoes_22 (lv_at hl 0 rfl) ?_
    refine lv_aload_n hx hb dP_growFoes_24 rfl (lv_at hl 2 rfl) ?_
    refine va_get (D := D) (ci := 2) (C := RP) (T := TP) (N := 6) hx hb hT inP hown hK hP (8 + 9 * k) (cw_PT hk) rfl 1 (by decide) (hT _ wm_40) (fun _ h9 => h9) rfl dP_growFoes_25 ?_
    refine W.eq (g2 := F0 m 28 ls [.int (nI n), .int (nI i)]) (by rw [u2_m (show (1 : Nat) ≠ 2 by decide), hc]) ?_
    refine lv_icmp_ge (tgt := 106) hx hb dP_growFoes_28 (by decide) (fun c_1 => absurd c_1 (nI_ge (by omega) (by omega))) (fun c_1 => ?_)
    refine lv_iload_n hx hb dP_growFoes_31 rfl (lv_at hl 3 rfl) ?_
    refine lv_iload hx hb dP_growFoes_32 (lv_at hl 1 rfl) ?_
    refine kSi (n := 1) (D := D) (As := [.int (nI left)]) (rest := [.int (nI size)]) ⟨hx, hb, hml, hown, hT⟩ (kI_bitCount l left hle) (gi_S wm_390 wm_391 wm_13 wm_392) rfl rfl (by decide +kernel) ⟨(by simp only [headSpec, rm]; omega), (by simp only [headSpec, rm]; omega)⟩ hP hS rfl hl.1 rfl (Nat.le_of_ble_eq_true rfl) dP_growFoes_34 ⟨(Nat.le_of_ble_eq_true rfl), (Nat.le_of_ble_eq_true rfl)⟩ (fun r_2 H locs e_3 hz hP hS => ?_)
    subst e_3
    refine lv_iadd hx hb dP_growFoes_37 ?_
    refine W.eq (g2 := F0 m 38 ls [.int (nI (size + pop left))]) (by rw [nI_add]) ?_
    refine lv_aload_n hx hb dP_growFoes_38 rfl (lv_at hl 2 rfl) ?_
    refine va_get (D := D) (ci := 2) (C := RP) (T := TP) (N := 6) hx hb hT inP hown hK hP (8 + 9 * k) (cw_PT hk) rfl 2 (by decide) (hT _ wm_41) (fun _ h9 => h9) rfl dP_growFoes_39 ?_
    refine W.eq (g2 := F0 m 42 ls [.int (nI best), .int (nI (size + pop left))]) (by rw [u2_s]) ?_
    refine kSi (n := 1) (D := D) (As := [.int (nI best)]) (rest := [.int (nI (size + pop left))]) ⟨hx, hb, hml, hown, hT⟩ (kI_bitCount l best hbs) (gi_S wm_390 wm_391 wm_13 wm_392) rfl rfl (by decide +kernel) ⟨(by simp only [headSpec, rm]; omega), (by simp only [headSpec, rm]; omega)⟩ hP hS rfl hl.1 rfl (Nat.le_of_ble_eq_true rfl) dP_growFoes_42 ⟨(Nat.le_of_ble_eq_true rfl), (Nat.le_of_ble_eq_true rfl)⟩ (fun r_4 H locs e_5 hz hP hS => ?_)
    subst e_5
    refine lv_icmp_le (tgt := 106) hx hb dP_growFoes_45 (by decide) (fun c_6 => ?_) (fun c_6 => ?_)
    · have hbb : size + pop left ≤ pop best := (nI_leI (by have := pop_le left; omega) (by have := pop_le best; omega)).mp c_6
      exact kx H locs (by rw [grL, if_pos hbb]; exact hP) (by rw [grL, if_pos hbb]; exact hD) hS ls (lv_sub hl [2] rfl)
    · have hnb : ¬ size + pop left ≤ pop best := fun z => c_6 (nI_le z (by have := pop_le best; omega))
      refine lv_iconst (v := 1) hx hb dP_growFoes_48 (by decide) ?_
      refine lv_iload hx hb dP_growFoes_49 (lv_at hl 0 rfl) ?_
      refine lv_ishl hx hb dP_growFoes_51 ?_
      refine W.eq (g2 := F0 m 52 ls [.int (nI (2 ^ i))]) (by rw [nz_sh i (by omega)]) ?_
      refine lv_istore (lv' := [(6, .int (nI (2 ^ i))), (5, .int (nI i)), (4, .int (nI left)), (0, .ref (ad (8 + 9 * k))), (1, .int (nI size)), (2, .int (nI chosen))]) hx hb dP_growFoes_52 hl (by decide) rfl (fun ls hl => ?_)
      refine lv_iload hx hb dP_growFoes_54 (lv_at hl 2 rfl) ?_
      refine lv_iload hx hb dP_growFoes_56 (lv_at hl 0 rfl) ?_
      refine lv_iand hx hb dP_growFoes_58 ?_
      refine W.eq (g2 := F0 m 59 ls [.int (nI (left &&& 2 ^ i))]) (by rw [nz_and]) ?_
      refine lv_if_eq (tgt := 100) hx hb dP_growFoes_59 (by decide) (fun c_7 => ?_) (fun c_7 => ?_)
      · refine lv_iinc (v := nI (i + 1)) (lv' := [(5, .int (nI (i + 1))), (6, .int (nI (2 ^ i))), (4, .int (nI left)), (0, .ref (ad (8 + 9 * k))), (1, .int (nI size)), (2, .int (nI chosen))]) hx hb dP_growFoes_100 hl (k := 1) rfl (nI_1 _) (by decide) rfl (fun ls hl => ?_)
        refine lv_goto (tgt := 22) hx hb dP_growFoes_103 (by decide) ?_
        exact ih (i + 1) left best (by omega) hle hbs (fun H locs hP hD hS ls hl => kx H locs (by rw [grL, if_neg hnb, if_neg (fun z => by rw [(nz_bit hle).mp c_7] at z; cases z.1)]; exact hP) (by rw [grL, if_neg hnb, if_neg (fun z => by rw [(nz_bit hle).mp c_7] at z; cases z.1)]; exact hD) hS ls hl) H locs hP hD hS ls (lv_sub hl [0, 2, 3, 4, 5] rfl)
      · refine lv_iload_n hx hb dP_growFoes_62 rfl (lv_at hl 4 rfl) ?_
        refine lv_aload_n hx hb dP_growFoes_63 rfl (lv_at hl 3 rfl) ?_
        refine va_get (D := D) (ci := 2) (C := RP) (T := TP) (N := 6) hx hb hT inP hown hK hP (8 + 9 * k) (cw_PT hk) rfl 1 (by decide) (hT _ wm_40) (fun _ h9 => h9) rfl dP_growFoes_64 ?_
        refine W.eq (g2 := F0 m 67 ls [.int (nI n), .int (nI size)]) (by rw [u2_m (show (1 : Nat) ≠ 2 by decide), hc]) ?_
        refine lv_icmp_ge (tgt := 100) hx hb dP_growFoes_67 (by decide) (fun c_8 => ?_) (fun c_8 => ?_)
        · refine lv_iinc (v := nI (i + 1)) (lv' := [(5, .int (nI (i + 1))), (6, .int (nI (2 ^ i))), (4, .int (nI left)), (0, .ref (ad (8 + 9 * k))), (1, .int (nI size)), (2, .int (nI chosen))]) hx hb dP_growFoes_100 hl (k := 1) rfl (nI_1 _) (by decide) rfl (fun ls hl => ?_)
          refine lv_goto (tgt := 22) hx hb dP_growFoes_103 (by decide) ?_
          exact ih (i + 1) left best (by omega) hle hbs (fun H locs hP hD hS ls hl => kx H locs (by rw [grL, if_neg hnb, if_neg (fun z => absurd z.2 (by rw [nI_leI (by omega) (by omega)] at c_8; omega))]; exact hP) (by rw [grL, if_neg hnb, if_neg (fun z => absurd z.2 (by rw [nI_leI (by omega) (by omega)] at c_8; omega))]; exact hD) hS ls hl) H locs hP hD hS ls (lv_sub hl [0, 2, 3, 4, 5] rfl)
        · refine lv_iload hx hb dP_growFoes_70 (lv_at hl 2 rfl) ?_
          refine lv_iload hx hb dP_growFoes_72 (lv_at hl 0 rfl) ?_
          refine lv_iconst (v := (-1)) hx hb dP_growFoes_74 (by decide) ?_
          refine lv_ixor hx hb dP_growFoes_75 ?_
          refine lv_iand hx hb dP_growFoes_76 ?_
          refine W.eq (g2 := F0 m 77 ls [.int (nI (clr left i))]) (by rw [nz_clr]) ?_
          refine lv_istore (lv' := [(4, .int (nI (clr left i))), (6, .int (nI (2 ^ i))), (5, .int (nI i)), (0, .ref (ad (8 + 9 * k))), (1, .int (nI size)), (2, .int (nI chosen))]) hx hb dP_growFoes_77 hl (by decide) rfl (fun ls hl => ?_)
          refine lv_aload_n hx hb dP_growFoes_79 rfl (lv_at hl 3 rfl) ?_
          refine lv_iload_n hx hb dP_growFoes_80 rfl (lv_at hl 4 rfl) ?_
          refine lv_iconst (v := 1) hx hb dP_growFoes_81 (by decide) ?_
          refine lv_iadd hx hb dP_growFoes_82 ?_
          refine W.eq (g2 := F0 m 83 ls [.int (nI (size + 1)), .ref (ad (8 + 9 * k))]) (by rw [nI_1]) ?_
          refine lv_iload_n hx hb dP_growFoes_83 rfl (lv_at hl 5 rfl) ?_
          refine lv_iload hx hb dP_growFoes_84 (lv_at hl 1 rfl) ?_
          refine lv_ior hx hb dP_growFoes_86 ?_
          refine W.eq (g2 := F0 m 87 ls [.int (nI (chosen ||| 2 ^ i)), .int (nI (size + 1)), .ref (ad (8 + 9 * k))]) (by rw [nz_or]) ?_
          refine lv_iload hx hb dP_growFoes_87 (lv_at hl 0 rfl) ?_
          refine lv_aload_n hx hb dP_growFoes_89 rfl (lv_at hl 3 rfl) ?_
          refine va_get (D := D) (ci := 2) (C := RP) (T := TP) (N := 6) hx hb hT inP hown hK hP (8 + 9 * k) (cw_PT hk) rfl 3 (by decide) (hT _ wm_42) (fun _ h9 => h9) rfl dP_growFoes_90 ?_
          refine lv_iload hx hb dP_growFoes_93 (lv_at hl 2 rfl) ?_
          refine va_iald (D := D) hx hb hK hP (9 + 9 * k) 0 (cw_FO hk) rfl (vp_in_nI (by omega) (by decide)) dP_growFoes_95 ?_
          rw [nI_clamp (n := i) (by omega)]
          refine W.eq (g2 := F0 m 96 ls [.int (nI (fo i)), .int (nI (clr left i)), .int (nI (chosen ||| 2 ^ i)), .int (nI (size + 1)), .ref (ad (8 + 9 * k))]) (by rw [u2_n (show 9 + 9 * k ≠ 8 + 9 * k by omega), hfg i (by omega)]) ?_
          refine lv_iand hx hb dP_growFoes_96 ?_
          refine W.eq (g2 := F0 m 97 ls [.int (nI (clr left i &&& fo i)), .int (nI (chosen ||| 2 ^ i)), .int (nI (size + 1)), .ref (ad (8 + 9 * k))]) (by rw [nz_and]) ?_
          have hsn : size < n := by have := c_8; rw [nI_leI (by omega) (by omega)] at this; omega
          have hyes : left.testBit i = true ∧ size < n := ⟨by cases hq : left.testBit i with | true => rfl | false => exact absurd ((nz_bit hle).mpr hq) c_7, hsn⟩
          refine kVv (n := 3) (D := D) (wd := fun z => cw CA (u2 g (8 + 9 * k) 2 (nI z)) h ad) (A1 := fun sz => cA h ad sz) (As := [.int (nI (size + 1)), .int (nI (chosen ||| 2 ^ i)), .int (nI (clr left i &&& fo i))]) (rest := []) ⟨hx, hb, hml, hown, hT⟩ (IH (size + 1) (chosen ||| 2 ^ i) (clr left i &&& fo i) best H.size (by omega) (by omega) (or_lt hch (pw_lt (by omega))) (and_lt (Nat.lt_of_le_of_lt (clr_le _ _) hle)) hbs) (gi_V wm_386 wm_388 wp_6 wm_3 wm_389) rfl rfl (by decide +kernel) ⟨(by simp only [headSpec, rm]; omega), (by simp only [headSpec, rm]; omega)⟩ (va_recv hK hP (ci := 2) (q0 := 8 + 9 * k) rfl (cw_PT hk)) hK hP hD hS (fun _ h9 => h9) (nA_mono hS.1) rfl hl.1 rfl (Nat.le_of_ble_eq_true rfl) dP_growFoes_97 ⟨(Nat.le_of_ble_eq_true rfl), (Nat.le_of_ble_eq_true rfl)⟩ (fun u9 H locs hu9 hz hP hD hS => ?_)
          subst hu9
          have hbn := gr_lt (fo := fo) hn d (size + 1) (chosen ||| 2 ^ i) (clr left i &&& fo i) best (or_lt hch (pw_lt (by omega))) hbs
          refine lv_iinc (v := nI (i + 1)) (lv' := [(5, .int (nI (i + 1))), (4, .int (nI (clr left i))), (6, .int (nI (2 ^ i))), (0, .ref (ad (8 + 9 * k))), (1, .int (nI size)), (2, .int (nI chosen))]) hx hb dP_growFoes_100 hl (k := 2) rfl (nI_1 _) (by decide) rfl (fun ls hl => ?_)
          refine lv_goto (tgt := 22) hx hb dP_growFoes_103 (by decide) ?_
          exact ih (i + 1) (clr left i) _ (by omega) (Nat.lt_of_le_of_lt (clr_le _ _) hle) hbn (fun H locs hP hD hS ls hl => kx H locs (by rw [grL, if_neg hnb, if_pos hyes]; exact hP) (by rw [grL, if_neg hnb, if_pos hyes]; exact hD) hS ls hl) H locs hP hD hS ls (lv_sub hl [0, 1, 3, 4, 5] rfl)
set_option maxHeartbeats 4000000 in
set_option maxRecDepth 100000 in
theorem kP_growFoes (l : Launch) {D : va_G} {CA : Nat → ClassId} {g : Nat → Nat → Int32} {h : Nat → Nat → Nat} {ad : Nat → Nat} {k : Nat} (hk : k < 6) {n : Nat} (hn : n < 13) {fo : Nat → Nat} (hfo : ∀ i, i < 12 → fo i < 4096) (hc : g (8 + 9 * k) 1 = nI n) (hfg : ∀ i, i < 12 → g (9 + 9 * k) i = nI (fo i)) : ∀ (d size chosen opn best sz : Nat), size ≤ n → n < d + size → chosen < 4096 → opn < 4096 → best < 4096 → Met l yP_growFoes wP_growFoes (rm (1 + d) 0 0) (va_Pc [.ref (ad (8 + 9 * k)), .int (nI size), .int (nI chosen), .int (nI opn)] (gpre D (cty CA) (cw CA (u2 g (8 + 9 * k) 2 (nI best)) h ad) sz)) (va_Qv (fun u : Nat => u = gr n fo d size chosen opn best) (fun u t => gpost D (cty CA) (cw CA (u2 g (8 + 9 * k) 2 (nI u)) h ad) (cA h ad sz) t) (cA h ad sz)) 0 0 (cA h ad sz) := by
  intro d
  induction d with
  | zero => intro size chosen opn best sz hs hd; exact absurd hd (by omega)
  | succ d IH =>
    intro size chosen opn best sz hs hd hch hop hbs
    refine Met.ofW (cc := cP_growFoes) (maxL := 7) (ret := none) (by decide) rfl ?_
    intro p e s m args below meth c s₁ B hml hv
    obtain ⟨rfl, hsz, hP, hK, hD0⟩ := hv
    have hx := B.exec
    have hb := B.bytes
    have hr := B.returns
    have hT : ∀ w ∈ TB, w.before _ s = true := fun w hw => atoms_spec (ws := wP_growFoes) B.pre w (List.mem_cons_of_mem _ hw)
    have hown : s.vm.findClass "CountLeast$Parting" = some m.cls := findClass_of_methodNamed B.named
    have hlocks := B.notSynchronized
    subst hsz
    have hD := nA_self (sz := s.heap.size) hD0
    have hS : va_S (cA h ad s.heap.size) s.heap s.heap [] := va_S.rf
    have hP : va_P D vwCl (cw CA (u2 g (8 + 9 * k) 2 (nI best)) h ad) s.heap := hP
    have hl := lv_entry ([.ref (ad (8 + 9 * k)), .int (nI size), .int (nI chosen), .int (nI opn)]) (n := 7) (Nat.le_of_ble_eq_true rfl)
    rw [lg_entry_eq]
    generalize (lg_sl ([.ref (ad (8 + 9 * k)), .int (nI size), .int (nI chosen), .int (nI opn)]) ++ List.replicate (7 - (lg_sl ([.ref (ad (8 + 9 * k)), .int (nI size), .int (nI chosen), .int (nI opn)])).length) Slot.unset).toArray = ls at hl ⊢
    have hl : lv_has ls 7 [(0, .ref (ad (8 + 9 * k))), (1, .int (nI size)), (2, .int (nI chosen)), (3, .int (nI opn))] := hl
    refine lv_iload_n hx hb dP_growFoes_0 rfl (lv_at hl 1 rfl) ?_
    refine lv_aload_n hx hb dP_growFoes_1 rfl (lv_at hl 0 rfl) ?_
    refine va_get (D := D) (ci := 2) (C := RP) (T := TP) (N := 6) hx hb hT inP hown hK hP (8 + 9 * k) (cw_PT hk) rfl 2 (by decide) (hT _ wm_41) (fun _ h9 => h9) rfl dP_growFoes_2 ?_
    refine W.eq (g2 := F0 m 5 ls [.int (nI best), .int (nI size)]) (by rw [u2_s]) ?_
    refine kSi (n := 1) (D := D) (As := [.int (nI best)]) (rest := [.int (nI size)]) ⟨hx, hb, hml, hown, hT⟩ (kI_bitCount l best hbs) (gi_S wm_390 wm_391 wm_13 wm_392) rfl rfl (by decide +kernel) ⟨(by simp only [headSpec, rm]; omega), (by simp only [headSpec, rm]; omega)⟩ hP hS rfl hl.1 rfl (Nat.le_of_ble_eq_true rfl) dP_growFoes_5 ⟨(Nat.le_of_ble_eq_true rfl), (Nat.le_of_ble_eq_true rfl)⟩ (fun r_1 H locs e_2 hz hP hS => ?_)
    subst e_2
    refine lv_icmp_le (tgt := 16) hx hb dP_growFoes_8 (by decide) (fun c_3 => ?_) (fun c_3 => ?_)
    · have hif : (if pop best < size then chosen else best) = best := if_neg (by have := c_3; rw [nI_leI (by have := hs; omega) (by have := pop_le best; omega)] at this; omega)
      refine lv_iload_n hx hb dP_growFoes_16 rfl (lv_at hl 3 rfl) ?_
      refine lv_istore (lv' := [(4, .int (nI opn)), (0, .ref (ad (8 + 9 * k))), (1, .int (nI size)), (2, .int (nI chosen)), (3, .int (nI opn))]) hx hb dP_growFoes_17 hl (by decide) rfl (fun ls hl => ?_)
      refine lv_iconst (v := 0) hx hb dP_growFoes_19 (by decide) ?_
      refine lv_istore (lv' := [(5, .int 0), (4, .int (nI opn)), (0, .ref (ad (8 + 9 * k))), (1, .int (nI size)), (2, .int (nI chosen)), (3, .int (nI opn))]) hx hb dP_growFoes_20 hl (by decide) rfl (fun ls hl => ?_)
      refine loP_growFoes hk hn hfo hc hfg hs (by omega) hch IH hx hb hml hown hT hK n 0 opn best (by omega) hop hbs (fun H locs hP hD hS ls hl => ?_) H locs hP hD hS ls (lv_sub hl [0, 1, 2, 3, 4] rfl)
      exact W.vret hx hb hr (fun t ht hW => ⟨⟨(grL (gr n fo d) n fo size chosen n 0 opn best), rfl, by rw [gr, hif], gpost_at hP hK hD ht hW.alike⟩, hS.F ht⟩) hS.2.2 dP_growFoes_106
    · refine lv_aload_n hx hb dP_growFoes_11 rfl (lv_at hl 0 rfl) ?_
      refine lv_iload_n hx hb dP_growFoes_12 rfl (lv_at hl 2 rfl) ?_
      refine va_put (D := D) (ci := 2) (v := .int (nI chosen)) (ty := .int) (C := RP) (T := TP) (N := 6) hx hb hT inP tyP tyokP nmP hown hK hP hD hS (8 + 9 * k) (cw_PT hk) rfl 2 (by decide) (hT _ wm_41) (fun _ h9 => h9) rfl (by decide +kernel) rfl rfl (Nat.le_of_ble_eq_true rfl) dP_growFoes_13 (fun H locs hP hD hS => ?_)
      rw [cw_sP hk (by simp)] at hP hD
      rw [u2_u2] at hP hD
      have hif : (if pop best < size then chosen else best) = chosen := if_pos (by have := c_3; rw [nI_leI (by have := hs; omega) (by have := pop_le best; omega)] at this; omega)
      refine lv_iload_n hx hb dP_growFoes_16 rfl (lv_at hl 3 rfl) ?_
      refine lv_istore (lv' := [(4, .int (nI opn)), (0, .ref (ad (8 + 9 * k))), (1, .int (nI size)), (2, .int (nI chosen)), (3, .int (nI opn))]) hx hb dP_growFoes_17 hl (by decide) rfl (fun ls hl => ?_)
      refine lv_iconst (v := 0) hx hb dP_growFoes_19 (by decide) ?_
      refine lv_istore (lv' := [(5, .int 0), (4, .int (nI opn)), (0, .ref (ad (8 + 9 * k))), (1, .int (nI size)), (2, .int (nI chosen)), (3, .int (nI opn))]) hx hb dP_growFoes_20 hl (by decide) rfl (fun ls hl => ?_)
      refine loP_growFoes hk hn hfo hc hfg hs (by omega) hch IH hx hb hml hown hT hK n 0 opn chosen (by omega) hop hch (fun H locs hP hD hS ls hl => ?_) H locs hP hD hS ls (lv_sub hl [0, 1, 2, 3, 4] rfl)
      exact W.vret hx hb hr (fun t ht hW => ⟨⟨(grL (gr n fo d) n fo size chosen n 0 opn chosen), rfl, by rw [gr, hif], gpost_at hP hK hD ht hW.alike⟩, hS.F ht⟩) hS.2.2 dP_growFoes_106
