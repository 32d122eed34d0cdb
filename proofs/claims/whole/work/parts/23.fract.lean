def scl (c fa fb : Nat) (pt : Int32) : Int32 := if pt = 0 then nI (c * fa / fb) else les (c * fa % fb) fb (if pt = 1 then 0 else 1)
theorem ov9 {a b : Nat} : nI a - nI (a / b) * nI b = nI (a % b) := by
  rw [pk_mul, pk_sub (Nat.div_mul_le_self a b)]
  congr 1
  have := Nat.div_add_mod a b
  rw [Nat.mul_comm] at this
  omega
set_option maxHeartbeats 4000000 in
set_option maxRecDepth 100000 in
theorem loC_share {p : Program} {l : Launch} {e : Env} {s : State} {m : MethodId} {args : Array Value} {below : List Frame} {meth : Method} {c : Code} {Q : State → Prop} {D : va_G} {CA : Nat → ClassId} {g : Nat → Nat → Int32} {h : Nat → Nat → Nat} {ad : Nat → Nat} {jp : Nat → Nat} (hI : CIv g h jp) {k : Nat} (hk : k < 6) {pt : Int32} (hx : p.tables.exec = Jvm.exec) (hb : c.code = cC_share) (hml : c.maxLocals = 6) (hown : s.vm.findClass "CountLeast" = some m.cls) (hT : ∀ w ∈ TB, w.before args s = true) (hK : va_K D vwCl (cty CA) s) (kx : ∀ (H : Heap) (locs : List Loc) (v : Nat → Nat → Int32) (A : Nat), prs h jp g 6 v A → va_P D vwCl (cw CA (v) h ad) H → va_D (cA h ad s.heap.size) (cw CA (v) h ad) → va_S (cA h ad s.heap.size) s.heap H locs → ∀ ls, lv_has ls 6 [(4, .int (nI A)), (0, .ref (ad 0)), (2, .int pt), (3, .ref (ad (3 + 9 * k)))] → W p l e (rm 18 2 12) s m args below meth c H locs 2 12 Q (F0 m 48 ls [])) :
    ∀ (f i A : Nat) (v : Nat → Nat → Int32), i + f = 6 → prs h jp g i v A → ∀ (H : Heap) (locs : List Loc), va_P D vwCl (cw CA (v) h ad) H → va_D (cA h ad s.heap.size) (cw CA (v) h ad) → va_S (cA h ad s.heap.size) s.heap H locs → ∀ ls, lv_has ls 6 [(5, .int (nI i)), (4, .int (nI A)), (0, .ref (ad 0)), (2, .int pt), (3, .ref (ad (3 + 9 * k)))] → W p l e (rm 18 2 12) s m args below meth c H locs 2 12 Q (F0 m 17 ls []) := by
  intro f
  induction f with
  | zero =>
    intro i A v hi hpr H locs hP hD hS ls hl
    have hi : i = 6 := by omega
    subst hi
    refine lv_iload hx hb dC_share_17 (lv_at hl 0 rfl) ?_
    refine lv_bipush (v := 6) hx hb dC_share_19 (by decide) ?_
    refine lv_icmp_ge (tgt := 48) hx hb dC_share_21 (by decide) (fun c_1 => ?_) (fun c_1 => absurd (by decide) c_1)
    exact kx H locs v A hpr hP hD hS ls (lv_sub hl [1, 2, 3, 4] rfl)
  | succ f ih =>
    intro i A v hi hpr H locs hP hD hS ls hl
    refine lv_iload hx hb dC_share_17 (lv_at hl 0 rfl) ?_
    refine lv_bipush (v := 6) hx hb dC_share_19 (by decide) ?_
    refine lv_icmp_ge (tgt := 48) hx hb dC_share_21 (by decide) (fun c_1 => absurd c_1 (nI_ge (b := 6) (by omega) (by decide))) (fun c_1 => ?_)
    refine lv_iload hx hb dC_share_24 (lv_at hl 1 rfl) ?_
    refine lv_aload_n hx hb dC_share_26 rfl (lv_at hl 2 rfl) ?_
    refine va_get (D := D) (ci := 0) (C := RC) (T := TC) (N := 3) hx hb hT inC hown hK hP (0) (cw_X) rfl 0 (by decide) (hT _ wm_100) (fun _ h9 => h9) rfl dC_share_27 ?_
    refine lv_iload hx hb dC_share_30 (lv_at hl 0 rfl) ?_
    refine va_aldq (D := D) hx hb hK hP (1) 2 (cw_KA) rfl (vp_in_nI (by omega) (by decide)) dC_share_32 ?_
    refine W.eq (g2 := F0 m 33 ls [.ref (ad (3 + 9 * i)), .int (nI A)]) (by rw [nI_clamp (n := i) (by omega)]; simp [va_rf, show i < 6 by omega]) ?_
    refine kVr (n := 0) (D := D) (wd := fun z => cw CA z h ad) (A1 := fun sz => cA h ad sz) (As := []) (rest := [.int (nI A)]) ⟨hx, hb, hml, hown, hT⟩ (kK_parted l D CA v h ad H.size i (show i < 6 by omega) ((prs_CI hI i v A (by omega) hpr).1.2.2.1 _ (show i < 6 by omega)).2.1 ((prs_CI hI i v A (by omega) hpr).1.2.2.1 _ (show i < 6 by omega)).1 ((prs_CI hI i v A (by omega) hpr).1.2.2.1 _ (show i < 6 by omega)).2.2 jp (fun p9 hp9 => ((prs_CI hI i v A (by omega) hpr).1.2.2.2.1 p9 hp9).2)) (gi_V wm_359 wm_360 wm_361 wm_2 wm_362) rfl rfl (by decide +kernel) ⟨(Nat.le_of_ble_eq_true rfl), (Nat.le_of_ble_eq_true rfl)⟩ (va_recv hK hP (ci := 1) (q0 := 3 + 9 * i) rfl (cw_K (show i < 6 by omega))) hK hP hD hS (fun _ h9 => h9) (nA_mono hS.1) rfl hl.1 rfl (Nat.le_of_ble_eq_true rfl) dC_share_33 ⟨(Nat.le_of_ble_eq_true rfl), (Nat.le_of_ble_eq_true rfl)⟩ (fun w9 a9 H locs hpar ha9 hz hP hD hS => ?_)
    subst ha9
    have hpar : par v h jp i w9 := hpar
    obtain ⟨m9, K9, hm1, hK1, hm2, hK2⟩ := (par_P (prs_CI hI i v A (by omega) hpr).1 (show i < 6 by omega) hpar).2.2
    refine va_get (D := D) (ci := 2) (C := RP) (T := TP) (N := 6) hx hb hT inP hown hK hP (8 + 9 * i) (cw_PT (show i < 6 by omega)) rfl 0 (by decide) (hT _ wm_39) (fun _ h9 => h9) rfl dC_share_36 ?_
    refine W.eq (g2 := F0 m 39 ls [.int (nI K9), .int (nI A)]) (by rw [hK2]) ?_
    refine lv_iadd hx hb dC_share_39 ?_
    refine W.eq (g2 := F0 m 40 ls [.int (nI (A + K9))]) (by rw [nI_add]) ?_
    refine lv_istore (lv' := [(4, .int (nI (A + K9))), (5, .int (nI i)), (0, .ref (ad 0)), (2, .int pt), (3, .ref (ad (3 + 9 * k)))]) hx hb dC_share_40 hl (by decide) rfl (fun ls hl => ?_)
    refine lv_iinc (v := nI (i + 1)) (lv' := [(5, .int (nI (i + 1))), (4, .int (nI (A + K9))), (0, .ref (ad 0)), (2, .int pt), (3, .ref (ad (3 + 9 * k)))]) hx hb dC_share_42 hl (k := 1) rfl (nI_1 _) (by decide) rfl (fun ls hl => ?_)
    refine lv_goto (tgt := 17) hx hb dC_share_45 (by decide) ?_
    exact ih (i + 1) (A + K9) w9 (by omega) ⟨v, A, K9, hpr, hpar, hK2, hK1, rfl⟩ H locs hP hD hS ls (lv_sub hl [0, 1, 2, 3, 4] rfl)
set_option maxHeartbeats 4000000 in
set_option maxRecDepth 100000 in
theorem kC_share (l : Launch) (hlt : l.stackTraces = false) (D : va_G) (CA : Nat → ClassId) (g : Nat → Nat → Int32) (h : Nat → Nat → Nat) (ad : Nat → Nat) (sz : Nat) (sa : Nat → Nat) (kd pt : Int32) (jp : Nat → Nat) (hI : CIv g h jp) : vx_Met l yC_share wC_share (rm 18 2 12) (va_Pc [.ref (ad 0), .int kd, .int pt] (fun U => gpre D (cty CA) (cw CA g h ad) sz U ∧ xz (cA h ad sz) sa U U.heap)) (va_Qi (fun r (u : Nat → Nat → Int32) => ¬ (ib kd 6 ∨ ib pt 2) ∧ ∃ k v A K, k < 6 ∧ kd = nI k ∧ prs h jp g 6 v A ∧ par v h jp k u ∧ u (8 + 9 * k) 0 = nI K ∧ K < 25 ∧ r = les K A pt) (fun u t => gpost D (cty CA) (cw CA u h ad) (cA h ad sz) t) (cA h ad sz)) (vx_X (fun u : Nat → Nat → Int32 => u = g) (fun E u t => te3 (ib kd 6 ∨ ib pt 2) False False E ∧ gpost D (cty CA) (cw CA u h ad) (cA h ad sz) t) (cA h ad sz)) 2 12 (cA h ad sz) := by
  refine vx_ofW (cc := cC_share) (maxL := 6) (ret := (some .int)) (by decide) rfl ?_
  intro p e s m args below meth c s₁ B hml hno hv
  obtain ⟨rfl, ⟨hsz, hP, hK, hD0⟩, hZ⟩ := hv
  have hx := B.exec
  have hb := B.bytes
  have hr := B.returns
  have hT : ∀ w ∈ TB, w.before _ s = true := fun w hw => atoms_spec (ws := wC_share) B.pre w (List.mem_cons_of_mem _ hw)
  have hown : s.vm.findClass "CountLeast" = some m.cls := findClass_of_methodNamed B.named
  have hlocks := B.notSynchronized
  subst hsz
  have hD := nA_self (sz := s.heap.size) hD0
  have hS : va_S (cA h ad s.heap.size) s.heap s.heap [] := va_S.rf
  have hP : va_P D vwCl (cw CA g h ad) s.heap := hP
  have hl := lv_entry ([.ref (ad 0), .int kd, .int pt]) (n := 6) (Nat.le_of_ble_eq_true rfl)
  rw [lg_entry_eq]
  generalize (lg_sl ([.ref (ad 0), .int kd, .int pt]) ++ List.replicate (6 - (lg_sl ([.ref (ad 0), .int kd, .int pt])).length) Slot.unset).toArray = ls at hl ⊢
  have hl : lv_has ls 6 [(0, .ref (ad 0)), (1, .int kd), (2, .int pt)] := hl
  have hn72 := hI.1
  have hg0 := hI.2.1
  have hkk := hI.2.2.1
  have hpp := hI.2.2.2.1
  refine lv_aload_n hx hb dC_share_0 rfl (lv_at hl 0 rfl) ?_
  refine lv_iload_n hx hb dC_share_1 rfl (lv_at hl 1 rfl) ?_
  refine kVx (n := 1) (D := D) (wd := fun z => cw CA z h ad) (A1 := fun sz => cA h ad sz) (As := [.int kd]) (rest := []) (te := (te3 (ib kd 6 ∨ ib pt 2) False False)) ⟨hx, hb, hml, hown, hT⟩ (kC_kindAt l hlt D CA g h ad s.heap.size sa kd) (gi_V wm_120 wm_122 wp_0 wm_1 wm_123) rfl rfl (by decide +kernel) ⟨(Nat.le_of_ble_eq_true rfl), (Nat.le_of_ble_eq_true rfl)⟩ (va_recv hK hP (ci := 0) (q0 := 0) rfl cw_X) hlocks hno hZ (fun _ h9 => h9) hK hP hD hS (fun _ h9 => h9) (nA_mono hS.1) (fun E h9 => Or.inl ⟨h9.1, (Or.inl h9.2)⟩) rfl hl.1 rfl (Nat.le_of_ble_eq_true rfl) dC_share_2 ⟨(Nat.le_of_ble_eq_true rfl), (Nat.le_of_ble_eq_true rfl)⟩ (Nat.le_of_ble_eq_true rfl) (Nat.le_of_ble_eq_true rfl) (fun a9 H locs ha hz hP hS => ?_)
  obtain ⟨k, hk, rfl, rfl⟩ := ha
  have f_1 : ¬ ib (nI k) 6 := nib hk (by decide)
  refine lv_astore_n (lv' := [(3, .ref (ad (3 + 9 * k))), (0, .ref (ad 0)), (1, .int (nI k)), (2, .int pt)]) hx hb dC_share_5 rfl hl (by decide) rfl (fun ls hl => ?_)
  refine lv_iload_n hx hb dC_share_6 rfl (lv_at hl 3 rfl) ?_
  refine lv_iconst (v := 2) hx hb dC_share_7 (by decide) ?_
  refine kSx (n := 2) (D := D) (wd := fun z => cw CA z h ad) (As := [.int pt, .int 2]) (rest := []) (te := (te3 (ib (nI k) 6 ∨ ib pt 2) False False)) hml ⟨hx, hb, hml, hown, hT⟩ (kC_checkIndex l hlt sa H.size pt 2) (gi_S wm_192 wm_193 wm_1 wm_194) rfl rfl (by decide +kernel) ⟨(Nat.le_of_ble_eq_true rfl), (Nat.le_of_ble_eq_true rfl)⟩ hlocks hno hZ (fun _ h9 => Or.inr h9) (fun _ h9 => h9) hK hP hD hS (fun E h9 => Or.inl ⟨h9.1, (Or.inr h9.2)⟩) rfl hl.1 rfl (Nat.le_of_ble_eq_true rfl) dC_share_8 ⟨(Nat.le_of_ble_eq_true rfl), (Nat.le_of_ble_eq_true rfl)⟩ (Nat.le_of_ble_eq_true rfl) (Nat.le_of_ble_eq_true rfl) (fun H locs hok hz hP hS => ?_)
  have f_2 := hok
  refine lv_iconst (v := 0) hx hb dC_share_11 (by decide) ?_
  refine lv_istore (lv' := [(4, .int 0), (3, .ref (ad (3 + 9 * k))), (0, .ref (ad 0)), (1, .int (nI k)), (2, .int pt)]) hx hb dC_share_12 hl (by decide) rfl (fun ls hl => ?_)
  refine lv_iconst (v := 0) hx hb dC_share_14 (by decide) ?_
  refine lv_istore (lv' := [(5, .int 0), (4, .int 0), (3, .ref (ad (3 + 9 * k))), (0, .ref (ad 0)), (1, .int (nI k)), (2, .int pt)]) hx hb dC_share_15 hl (by decide) rfl (fun ls hl => ?_)
  refine loC_share hI hk hx hb hml hown hT hK (fun H locs v A hpr hP hD hS ls hl => ?_) 6 0 0 g (by omega) ⟨rfl, rfl⟩ H locs hP hD hS ls (lv_sub hl [0, 1, 3, 5, 2] rfl)
  have hv := prs_CI hI 6 v A (Nat.le_refl _) hpr
  refine lv_aload_n hx hb dC_share_48 rfl (lv_at hl 3 rfl) ?_
  refine kVr (n := 0) (D := D) (wd := fun z => cw CA z h ad) (A1 := fun sz => cA h ad sz) (As := []) (rest := []) ⟨hx, hb, hml, hown, hT⟩ (kK_parted l D CA v h ad H.size k hk (hv.1.2.2.1 _ hk).2.1 (hv.1.2.2.1 _ hk).1 (hv.1.2.2.1 _ hk).2.2 jp (fun p9 hp9 => (hv.1.2.2.2.1 p9 hp9).2)) (gi_V wm_359 wm_360 wm_361 wm_2 wm_362) rfl rfl (by decide +kernel) ⟨(Nat.le_of_ble_eq_true rfl), (Nat.le_of_ble_eq_true rfl)⟩ (va_recv hK hP (ci := 1) (q0 := 3 + 9 * k) rfl (cw_K hk)) hK hP hD hS (fun _ h9 => h9) (nA_mono hS.1) rfl hl.1 rfl (Nat.le_of_ble_eq_true rfl) dC_share_49 ⟨(Nat.le_of_ble_eq_true rfl), (Nat.le_of_ble_eq_true rfl)⟩ (fun w9 a9 H locs hpar ha9 hz hP hD hS => ?_)
  subst ha9
  have hpar : par v h jp k w9 := hpar
  obtain ⟨m9, K9, hm1, hK1, hm2, hK2⟩ := (par_P hv.1 hk hpar).2.2
  refine va_get (D := D) (ci := 2) (C := RP) (T := TP) (N := 6) hx hb hT inP hown hK hP (8 + 9 * k) (cw_PT hk) rfl 0 (by decide) (hT _ wm_39) (fun _ h9 => h9) rfl dC_share_52 ?_
  refine W.eq (g2 := F0 m 55 ls [.int (nI K9)]) (by rw [hK2]) ?_
  refine lv_iload hx hb dC_share_55 (lv_at hl 0 rfl) ?_
  refine lv_iload_n hx hb dC_share_57 rfl (lv_at hl 2 rfl) ?_
  refine kSi (n := 3) (D := D) (As := [.int (nI K9), .int (nI A), .int pt]) (rest := []) ⟨hx, hb, hml, hown, hT⟩ (kC_lessened l K9 A pt (by omega) (by omega)) (gi_S wm_453 wm_454 wm_1 wm_455) rfl rfl (by decide +kernel) ⟨(Nat.le_of_ble_eq_true rfl), (Nat.le_of_ble_eq_true rfl)⟩ hP hS rfl hl.1 rfl (Nat.le_of_ble_eq_true rfl) dC_share_58 ⟨(Nat.le_of_ble_eq_true rfl), (Nat.le_of_ble_eq_true rfl)⟩ (fun r_3 H locs e_4 hz hP hS => ?_)
  refine vx_ret ?_
  exact W.iret (v := r_3) hx hb hr (fun t ht hW => ⟨⟨_, w9, rfl, ⟨(not_or.mpr ⟨f_1, f_2⟩), k, v, A, K9, hk, rfl, hpr, hpar, hK2, hK1, e_4⟩, gpost_at hP hK hD ht hW.alike⟩, hS.F ht⟩) hS.2.2 dC_share_61
set_option maxHeartbeats 4000000 in
set_option maxRecDepth 100000 in
theorem kC_scaled (l : Launch) (hlt : l.stackTraces = false) (D : va_G) (CA : Nat → ClassId) (g : Nat → Nat → Int32) (h : Nat → Nat → Nat) (ad : Nat → Nat) (sz : Nat) (sa : Nat → Nat) (kd pt : Int32) (jp : Nat → Nat) (hI : CIv g h jp) (hF : ∀ k, k < 6 → ∃ fa fb, fa ≤ 10000 ∧ 1 ≤ fb ∧ fb ≤ 10000 ∧ g (3 + 9 * k) 4 = nI fa ∧ g (3 + 9 * k) 5 = nI fb) : vx_Met l yC_scaled wC_scaled (rm 2 2 12) (va_Pc [.ref (ad 0), .int kd, .int pt] (fun U => gpre D (cty CA) (cw CA g h ad) sz U ∧ xz (cA h ad sz) sa U U.heap)) (va_Qi (fun r (u : Nat → Nat → Int32) => ¬ (ib kd 6 ∨ ib pt 3) ∧ ∃ k fa fb, k < 6 ∧ kd = nI k ∧ fa ≤ 10000 ∧ 1 ≤ fb ∧ fb ≤ 10000 ∧ g (3 + 9 * k) 4 = nI fa ∧ g (3 + 9 * k) 5 = nI fb ∧ r = scl (h 1 k) fa fb pt ∧ u = g) (fun u t => gpost D (cty CA) (cw CA u h ad) (cA h ad sz) t) (cA h ad sz)) (vx_X (fun u : Nat → Nat → Int32 => u = g) (fun E u t => te3 (ib kd 6 ∨ ib pt 3) False False E ∧ gpost D (cty CA) (cw CA u h ad) (cA h ad sz) t) (cA h ad sz)) 2 12 (cA h ad sz) := by
  refine vx_ofW (cc := cC_scaled) (maxL := 7) (ret := (some .int)) (by decide) rfl ?_
  intro p e s m args below meth c s₁ B hml hno hv
  obtain ⟨rfl, ⟨hsz, hP, hK, hD0⟩, hZ⟩ := hv
  have hx := B.exec
  have hb := B.bytes
  have hr := B.returns
  have hT : ∀ w ∈ TB, w.before _ s = true := fun w hw => atoms_spec (ws := wC_scaled) B.pre w (List.mem_cons_of_mem _ hw)
  have hown : s.vm.findClass "CountLeast" = some m.cls := findClass_of_methodNamed B.named
  have hlocks := B.notSynchronized
  subst hsz
  have hD := nA_self (sz := s.heap.size) hD0
  have hS : va_S (cA h ad s.heap.size) s.heap s.heap [] := va_S.rf
  have hP : va_P D vwCl (cw CA g h ad) s.heap := hP
  have hl := lv_entry ([.ref (ad 0), .int kd, .int pt]) (n := 7) (Nat.le_of_ble_eq_true rfl)
  rw [lg_entry_eq]
  generalize (lg_sl ([.ref (ad 0), .int kd, .int pt]) ++ List.replicate (7 - (lg_sl ([.ref (ad 0), .int kd, .int pt])).length) Slot.unset).toArray = ls at hl ⊢
  have hl : lv_has ls 7 [(0, .ref (ad 0)), (1, .int kd), (2, .int pt)] := hl
  have hn72 := hI.1
  have hg0 := hI.2.1
  have hkk := hI.2.2.1
  have hpp := hI.2.2.2.1
  refine lv_aload_n hx hb dC_scaled_0 rfl (lv_at hl 0 rfl) ?_
  refine lv_iload_n hx hb dC_scaled_1 rfl (lv_at hl 1 rfl) ?_
  refine kVx (n := 1) (D := D) (wd := fun z => cw CA z h ad) (A1 := fun sz => cA h ad sz) (As := [.int kd]) (rest := []) (te := (te3 (ib kd 6 ∨ ib pt 3) False False)) ⟨hx, hb, hml, hown, hT⟩ (kC_kindAt l hlt D CA g h ad s.heap.size sa kd) (gi_V wm_120 wm_122 wp_0 wm_1 wm_123) rfl rfl (by decide +kernel) ⟨(Nat.le_of_ble_eq_true rfl), (Nat.le_of_ble_eq_true rfl)⟩ (va_recv hK hP (ci := 0) (q0 := 0) rfl cw_X) hlocks hno hZ (fun _ h9 => h9) hK hP hD hS (fun _ h9 => h9) (nA_mono hS.1) (fun E h9 => Or.inl ⟨h9.1, (Or.inl h9.2)⟩) rfl hl.1 rfl (Nat.le_of_ble_eq_true rfl) dC_scaled_2 ⟨(Nat.le_of_ble_eq_true rfl), (Nat.le_of_ble_eq_true rfl)⟩ (Nat.le_of_ble_eq_true rfl) (Nat.le_of_ble_eq_true rfl) (fun a9 H locs ha hz hP hS => ?_)
  obtain ⟨k, hk, rfl, rfl⟩ := ha
  have f_1 : ¬ ib (nI k) 6 := nib hk (by decide)
  refine lv_astore_n (lv' := [(3, .ref (ad (3 + 9 * k))), (0, .ref (ad 0)), (1, .int (nI k)), (2, .int pt)]) hx hb dC_scaled_5 rfl hl (by decide) rfl (fun ls hl => ?_)
  refine lv_iload_n hx hb dC_scaled_6 rfl (lv_at hl 3 rfl) ?_
  refine lv_iconst (v := 3) hx hb dC_scaled_7 (by decide) ?_
  refine kSx (n := 2) (D := D) (wd := fun z => cw CA z h ad) (As := [.int pt, .int 3]) (rest := []) (te := (te3 (ib (nI k) 6 ∨ ib pt 3) False False)) hml ⟨hx, hb, hml, hown, hT⟩ (kC_checkIndex l hlt sa H.size pt 3) (gi_S wm_192 wm_193 wm_1 wm_194) rfl rfl (by decide +kernel) ⟨(Nat.le_of_ble_eq_true rfl), (Nat.le_of_ble_eq_true rfl)⟩ hlocks hno hZ (fun _ h9 => Or.inr h9) (fun _ h9 => h9) hK hP hD hS (fun E h9 => Or.inl ⟨h9.1, (Or.inr h9.2)⟩) rfl hl.1 rfl (Nat.le_of_ble_eq_true rfl) dC_scaled_8 ⟨(Nat.le_of_ble_eq_true rfl), (Nat.le_of_ble_eq_true rfl)⟩ (Nat.le_of_ble_eq_true rfl) (Nat.le_of_ble_eq_true rfl) (fun H locs hok hz hP hS => ?_)
  have f_2 := hok
  obtain ⟨fa, fb, hfa, hfb1, hfb, efa, efb⟩ := hF k hk
  have hc12 := (hkk k hk).1
  have hcf : h 1 k * fa ≤ 12 * 10000 := Nat.mul_le_mul hc12 hfa
  refine lv_aload_n hx hb dC_scaled_11 rfl (lv_at hl 0 rfl) ?_
  refine va_get (D := D) (ci := 1) (C := RK) (T := TK) (N := 10) hx hb hT inK hown hK hP (3 + 9 * k) (cw_K hk) rfl 6 (by decide) (hT _ wm_74) (fun _ h9 => h9) rfl dC_scaled_12 ?_
  refine W.eq (g2 := F0 m 15 ls [.int (nI (h 1 k))]) (by rw [(hkk k hk).2.1]) ?_
  refine lv_aload_n hx hb dC_scaled_15 rfl (lv_at hl 0 rfl) ?_
  refine va_get (D := D) (ci := 1) (C := RK) (T := TK) (N := 10) hx hb hT inK hown hK hP (3 + 9 * k) (cw_K hk) rfl 4 (by decide) (hT _ wm_69) (fun _ h9 => h9) rfl dC_scaled_16 ?_
  refine W.eq (g2 := F0 m 19 ls [.int (nI fa), .int (nI (h 1 k))]) (by rw [efa]) ?_
  refine lv_imul hx hb dC_scaled_19 ?_
  refine W.eq (g2 := F0 m 20 ls [.int (nI (h 1 k * fa))]) (by rw [pk_mul]) ?_
  refine lv_istore (lv' := [(4, .int (nI (h 1 k * fa))), (3, .ref (ad (3 + 9 * k))), (0, .ref (ad 0)), (1, .int (nI k)), (2, .int pt)]) hx hb dC_scaled_20 hl (by decide) rfl (fun ls hl => ?_)
  refine lv_iload hx hb dC_scaled_22 (lv_at hl 0 rfl) ?_
  refine lv_aload_n hx hb dC_scaled_24 rfl (lv_at hl 1 rfl) ?_
  refine va_get (D := D) (ci := 1) (C := RK) (T := TK) (N := 10) hx hb hT inK hown hK hP (3 + 9 * k) (cw_K hk) rfl 5 (by decide) (hT _ wm_71) (fun _ h9 => h9) rfl dC_scaled_25 ?_
  refine W.eq (g2 := F0 m 28 ls [.int (nI fb), .int (nI (h 1 k * fa))]) (by rw [efb]) ?_
  refine kSi (n := 2) (D := D) (As := [.int (nI (h 1 k * fa)), .int (nI fb)]) (rest := []) ⟨hx, hb, hml, hown, hT⟩ (kC_quotient l (nI (h 1 k * fa)) (nI fb)) (gi_S wm_459 wm_460 wm_1 wm_461) rfl rfl (by decide +kernel) ⟨(Nat.le_of_ble_eq_true rfl), (Nat.le_of_ble_eq_true rfl)⟩ hP hS rfl hl.1 rfl (Nat.le_of_ble_eq_true rfl) dC_scaled_28 ⟨(Nat.le_of_ble_eq_true rfl), (Nat.le_of_ble_eq_true rfl)⟩ (fun r_3 H locs e_4 hz hP hS => ?_)
  rw [if_neg (nI_ne0 (by omega) (by omega)), pk_div (by omega) (by omega) (by omega)] at e_4
  subst e_4
  refine lv_istore (lv' := [(5, .int (nI (h 1 k * fa / fb))), (4, .int (nI (h 1 k * fa))), (3, .ref (ad (3 + 9 * k))), (0, .ref (ad 0)), (1, .int (nI k)), (2, .int pt)]) hx hb dC_scaled_31 hl (by decide) rfl (fun ls hl => ?_)
  refine lv_iload_n hx hb dC_scaled_33 rfl (lv_at hl 5 rfl) ?_
  refine lv_if_ne (tgt := 40) hx hb dC_scaled_34 (by decide) (fun c_5 => ?_) (fun c_5 => ?_)
  · refine lv_iload hx hb dC_scaled_40 (lv_at hl 1 rfl) ?_
    refine lv_iload hx hb dC_scaled_42 (lv_at hl 0 rfl) ?_
    refine lv_aload_n hx hb dC_scaled_44 rfl (lv_at hl 2 rfl) ?_
    refine va_get (D := D) (ci := 1) (C := RK) (T := TK) (N := 10) hx hb hT inK hown hK hP (3 + 9 * k) (cw_K hk) rfl 5 (by decide) (hT _ wm_71) (fun _ h9 => h9) rfl dC_scaled_45 ?_
    refine W.eq (g2 := F0 m 48 ls [.int (nI fb), .int (nI (h 1 k * fa / fb)), .int (nI (h 1 k * fa))]) (by rw [efb]) ?_
    refine lv_imul hx hb dC_scaled_48 ?_
    refine lv_isub hx hb dC_scaled_49 ?_
    refine W.eq (g2 := F0 m 50 ls [.int (nI (h 1 k * fa % fb))]) (by rw [ov9]) ?_
    refine lv_istore (lv' := [(6, .int (nI (h 1 k * fa % fb))), (5, .int (nI (h 1 k * fa / fb))), (4, .int (nI (h 1 k * fa))), (3, .ref (ad (3 + 9 * k))), (0, .ref (ad 0)), (1, .int (nI k)), (2, .int pt)]) hx hb dC_scaled_50 hl (by decide) rfl (fun ls hl => ?_)
    refine lv_iload hx hb dC_scaled_52 (lv_at hl 0 rfl) ?_
    refine lv_aload_n hx hb dC_scaled_54 rfl (lv_at hl 3 rfl) ?_
    refine va_get (D := D) (ci := 1) (C := RK) (T := TK) (N := 10) hx hb hT inK hown hK hP (3 + 9 * k) (cw_K hk) rfl 5 (by decide) (hT _ wm_71) (fun _ h9 => h9) rfl dC_scaled_55 ?_
    refine W.eq (g2 := F0 m 58 ls [.int (nI fb), .int (nI (h 1 k * fa % fb))]) (by rw [efb]) ?_
    refine lv_iload_n hx hb dC_scaled_58 rfl (lv_at hl 6 rfl) ?_
    refine lv_iconst (v := 1) hx hb dC_scaled_59 (by decide) ?_
    refine lv_icmp_ne (tgt := 67) hx hb dC_scaled_60 (by decide) (fun c_6 => ?_) (fun c_6 => ?_)
    · refine lv_iconst (v := 1) hx hb dC_scaled_67 (by decide) ?_
      refine kSi (n := 3) (D := D) (As := [.int (nI (h 1 k * fa % fb)), .int (nI fb), .int 1]) (rest := []) ⟨hx, hb, hml, hown, hT⟩ (kC_lessened l (h 1 k * fa % fb) fb 1 (by have := Nat.mod_lt (h 1 k * fa) (show 0 < fb by omega); omega) (by omega)) (gi_S wm_453 wm_454 wm_1 wm_455) rfl rfl (by decide +kernel) ⟨(Nat.le_of_ble_eq_true rfl), (Nat.le_of_ble_eq_true rfl)⟩ hP hS rfl hl.1 rfl (Nat.le_of_ble_eq_true rfl) dC_scaled_68 ⟨(Nat.le_of_ble_eq_true rfl), (Nat.le_of_ble_eq_true rfl)⟩ (fun r_7 H locs e_8 hz hP hS => ?_)
      refine vx_ret ?_
      exact W.iret (v := r_7) hx hb hr (fun t ht hW => ⟨⟨_, g, rfl, ⟨(not_or.mpr ⟨f_1, f_2⟩), k, fa, fb, hk, rfl, hfa, hfb1, hfb, efa, efb, by rw [e_8]; simp [scl, c_5, c_6], rfl⟩, gpost_at hP hK hD ht hW.alike⟩, hS.F ht⟩) hS.2.2 dC_scaled_71
    · refine lv_iconst (v := 0) hx hb dC_scaled_63 (by decide) ?_
      refine lv_goto (tgt := 68) hx hb dC_scaled_64 (by decide) ?_
      refine kSi (n := 3) (D := D) (As := [.int (nI (h 1 k * fa % fb)), .int (nI fb), .int 0]) (rest := []) ⟨hx, hb, hml, hown, hT⟩ (kC_lessened l (h 1 k * fa % fb) fb 0 (by have := Nat.mod_lt (h 1 k * fa) (show 0 < fb by omega); omega) (by omega)) (gi_S wm_453 wm_454 wm_1 wm_455) rfl rfl (by decide +kernel) ⟨(Nat.le_of_ble_eq_true rfl), (Nat.le_of_ble_eq_true rfl)⟩ hP hS rfl hl.1 rfl (Nat.le_of_ble_eq_true rfl) dC_scaled_68 ⟨(Nat.le_of_ble_eq_true rfl), (Nat.le_of_ble_eq_true rfl)⟩ (fun r_9 H locs e_10 hz hP hS => ?_)
      refine vx_ret ?_
      exact W.iret (v := r_9) hx hb hr (fun t ht hW => ⟨⟨_, g, rfl, ⟨(not_or.mpr ⟨f_1, f_2⟩), k, fa, fb, hk, rfl, hfa, hfb1, hfb, efa, efb, by rw [e_10]; simp [scl, c_5, c_6], rfl⟩, gpost_at hP hK hD ht hW.alike⟩, hS.F ht⟩) hS.2.2 dC_scaled_71
  · refine lv_iload hx hb dC_scaled_37 (lv_at hl 0 rfl) ?_
    refine vx_ret ?_
    exact W.iret (v := nI (h 1 k * fa / fb)) hx hb hr (fun t ht hW => ⟨⟨_, g, rfl, ⟨(not_or.mpr ⟨f_1, f_2⟩), k, fa, fb, hk, rfl, hfa, hfb1, hfb, efa, efb, by simp [scl, c_5], rfl⟩, gpost_at hP hK hD ht hW.alike⟩, hS.F ht⟩) hS.2.2 dC_scaled_39
set_option maxHeartbeats 4000000 in
set_option maxRecDepth 100000 in
theorem loC_diverse {p : Program} {l : Launch} {e : Env} {s : State} {m : MethodId} {args : Array Value} {below : List Frame} {meth : Method} {c : Code} {Q : State → Prop} {D : va_G} {CA : Nat → ClassId} {g : Nat → Nat → Int32} {h : Nat → Nat → Nat} {ad : Nat → Nat} {jp : Nat → Nat} (hI : CIv g h jp) {pt : Int32} (hx : p.tables.exec = Jvm.exec) (hb : c.code = cC_diverse) (hml : c.maxLocals = 4) (hown : s.vm.findClass "CountLeast" = some m.cls) (hT : ∀ w ∈ TB, w.before args s = true) (hK : va_K D vwCl (cty CA) s) (kx : ∀ (H : Heap) (locs : List Loc), va_P D vwCl (cw CA (g) h ad) H → va_D (cA h ad s.heap.size) (cw CA (g) h ad) → va_S (cA h ad s.heap.size) s.heap H locs → ∀ ls, lv_has ls 4 [(2, .int (nI (aln h 6))), (0, .ref (ad 0)), (1, .int pt)] → W p l e (rm 2 1 6) s m args below meth c H locs 1 6 Q (F0 m 36 ls [])) :
    ∀ (f i : Nat), i + f = 6 → ∀ (H : Heap) (locs : List Loc), va_P D vwCl (cw CA (g) h ad) H → va_D (cA h ad s.heap.size) (cw CA (g) h ad) → va_S (cA h ad s.heap.size) s.heap H locs → ∀ ls, lv_has ls 4 [(3, .int (nI i)), (2, .int (nI (aln h i))), (0, .ref (ad 0)), (1, .int pt)] → W p l e (rm 2 1 6) s m args below meth c H locs 1 6 Q (F0 m 9 ls []) := by
  intro f
  induction f with
  | zero =>
    intro i hi H locs hP hD hS ls hl
    have hi : i = 6 := by omega
    subst hi
    refine lv_iload_n hx hb dC_diverse_9 rfl (lv_at hl 0 rfl) ?_
    refine lv_bipush (v := 6) hx hb dC_diverse_10 (by decide) ?_
    refine lv_icmp_ge (tgt := 36) hx hb dC_diverse_12 (by decide) (fun c_1 => ?_) (fun c_1 => absurd (by decide) c_1)
    exact kx H locs hP hD hS ls (lv_sub hl [1, 2, 3] rfl)
  | succ f ih =>
    intro i hi H locs hP hD hS ls hl
    refine lv_iload_n hx hb dC_diverse_9 rfl (lv_at hl 0 rfl) ?_
    refine lv_bipush (v := 6) hx hb dC_diverse_10 (by decide) ?_
    refine lv_icmp_ge (tgt := 36) hx hb dC_diverse_12 (by decide) (fun c_1 => absurd c_1 (nI_ge (b := 6) (by omega) (by decide))) (fun c_1 => ?_)
    refine lv_iload_n hx hb dC_diverse_15 rfl (lv_at hl 1 rfl) ?_
    refine lv_aload_n hx hb dC_diverse_16 rfl (lv_at hl 2 rfl) ?_
    refine va_get (D := D) (ci := 0) (C := RC) (T := TC) (N := 3) hx hb hT inC hown hK hP (0) (cw_X) rfl 0 (by decide) (hT _ wm_100) (fun _ h9 => h9) rfl dC_diverse_17 ?_
    refine lv_iload_n hx hb dC_diverse_20 rfl (lv_at hl 0 rfl) ?_
    refine va_aldq (D := D) hx hb hK hP (1) 2 (cw_KA) rfl (vp_in_nI (by omega) (by decide)) dC_diverse_21 ?_
    refine W.eq (g2 := F0 m 22 ls [.ref (ad (3 + 9 * i)), .int (nI (aln h i))]) (by rw [nI_clamp (n := i) (by omega)]; simp [va_rf, show i < 6 by omega]) ?_
    refine va_get (D := D) (ci := 1) (C := RK) (T := TK) (N := 10) hx hb hT inK hown hK hP (3 + 9 * i) (cw_K (show i < 6 by omega)) rfl 6 (by decide) (hT _ wm_74) (fun _ h9 => h9) rfl dC_diverse_22 ?_
    refine W.eq (g2 := F0 m 25 ls [.int (nI (h 1 i)), .int (nI (aln h i))]) (by rw [(hI.2.2.1 i (by omega)).2.1]) ?_
    refine kSi (n := 1) (D := D) (As := [.int (nI (h 1 i))]) (rest := [.int (nI (aln h i))]) ⟨hx, hb, hml, hown, hT⟩ (kC_orderedPairs l (nI (h 1 i))) (gi_S wm_483 wm_484 wm_1 wm_485) rfl rfl (by decide +kernel) ⟨(Nat.le_of_ble_eq_true rfl), (Nat.le_of_ble_eq_true rfl)⟩ hP hS rfl hl.1 rfl (Nat.le_of_ble_eq_true rfl) dC_diverse_25 ⟨(Nat.le_of_ble_eq_true rfl), (Nat.le_of_ble_eq_true rfl)⟩ (fun r_2 H locs e_3 hz hP hS => ?_)
    rw [opr (h 1 i) (by have := (hI.2.2.1 i (by omega)).1; omega)] at e_3
    subst e_3
    refine lv_iadd hx hb dC_diverse_28 ?_
    refine W.eq (g2 := F0 m 29 ls [.int (nI (aln h (i + 1)))]) (by rw [nI_add, aln]) ?_
    refine lv_istore_n (lv' := [(2, .int (nI (aln h (i + 1)))), (3, .int (nI i)), (0, .ref (ad 0)), (1, .int pt)]) hx hb dC_diverse_29 rfl hl (by decide) rfl (fun ls hl => ?_)
    refine lv_iinc (v := nI (i + 1)) (lv' := [(3, .int (nI (i + 1))), (2, .int (nI (aln h (i + 1)))), (0, .ref (ad 0)), (1, .int pt)]) hx hb dC_diverse_30 hl (k := 1) rfl (nI_1 _) (by decide) rfl (fun ls hl => ?_)
    refine lv_goto (tgt := 9) hx hb dC_diverse_33 (by decide) ?_
    exact ih (i + 1) (by omega) H locs hP hD hS ls (lv_sub hl [0, 1, 2, 3] rfl)
set_option maxHeartbeats 4000000 in
set_option maxRecDepth 100000 in
theorem kC_diverse (l : Launch) (hlt : l.stackTraces = false) (D : va_G) (CA : Nat → ClassId) (g : Nat → Nat → Int32) (h : Nat → Nat → Nat) (ad : Nat → Nat) (sz : Nat) (sa : Nat → Nat) (pt : Int32) (jp : Nat → Nat) (hI : CIv g h jp) (hal : aln h 6 ≤ (h 0 0 * (h 0 0 - 1))) : vx_Met l yC_diverse wC_diverse (rm 2 1 6) (va_Pc [.ref (ad 0), .int pt] (fun U => gpre D (cty CA) (cw CA g h ad) sz U ∧ xz (cA h ad sz) sa U U.heap)) (va_Qi (fun r (u : Nat → Nat → Int32) => ¬ (ib pt 2) ∧ r = les ((h 0 0 * (h 0 0 - 1)) - aln h 6) (h 0 0 * (h 0 0 - 1)) pt ∧ u = g) (fun u t => gpost D (cty CA) (cw CA u h ad) (cA h ad sz) t) (cA h ad sz)) (vx_X (fun u : Nat → Nat → Int32 => u = g) (fun E u t => te3 (ib pt 2) False False E ∧ gpost D (cty CA) (cw CA u h ad) (cA h ad sz) t) (cA h ad sz)) 1 6 (cA h ad sz) := by
  refine vx_ofW (cc := cC_diverse) (maxL := 4) (ret := (some .int)) (by decide) rfl ?_
  intro p e s m args below meth c s₁ B hml hno hv
  obtain ⟨rfl, ⟨hsz, hP, hK, hD0⟩, hZ⟩ := hv
  have hx := B.exec
  have hb := B.bytes
  have hr := B.returns
  have hT : ∀ w ∈ TB, w.before _ s = true := fun w hw => atoms_spec (ws := wC_diverse) B.pre w (List.mem_cons_of_mem _ hw)
  have hown : s.vm.findClass "CountLeast" = some m.cls := findClass_of_methodNamed B.named
  have hlocks := B.notSynchronized
  subst hsz
  have hD := nA_self (sz := s.heap.size) hD0
  have hS : va_S (cA h ad s.heap.size) s.heap s.heap [] := va_S.rf
  have hP : va_P D vwCl (cw CA g h ad) s.heap := hP
  have hl := lv_entry ([.ref (ad 0), .int pt]) (n := 4) (Nat.le_of_ble_eq_true rfl)
  rw [lg_entry_eq]
  generalize (lg_sl ([.ref (ad 0), .int pt]) ++ List.replicate (4 - (lg_sl ([.ref (ad 0), .int pt])).length) Slot.unset).toArray = ls at hl ⊢
  have hl : lv_has ls 4 [(0, .ref (ad 0)), (1, .int pt)] := hl
  have hn72 := hI.1
  have hg0 := hI.2.1
  have hkk := hI.2.2.1
  have hpp := hI.2.2.2.1
  have hnn : h 0 0 * (h 0 0 - 1) ≤ 72 * 71 := Nat.mul_le_mul hn72 (by omega)
  refine lv_iload_n hx hb dC_diverse_0 rfl (lv_at hl 1 rfl) ?_
  refine lv_iconst (v := 2) hx hb dC_diverse_1 (by decide) ?_
  refine kSx (n := 2) (D := D) (wd := fun z => cw CA z h ad) (As := [.int pt, .int 2]) (rest := []) (te := (te3 (ib pt 2) False False)) hml ⟨hx, hb, hml, hown, hT⟩ (kC_checkIndex l hlt sa s.heap.size pt 2) (gi_S wm_192 wm_193 wm_1 wm_194) rfl rfl (by decide +kernel) ⟨(Nat.le_of_ble_eq_true rfl), (Nat.le_of_ble_eq_true rfl)⟩ hlocks hno hZ (fun _ h9 => Or.inr h9) (fun _ h9 => h9) hK hP hD hS (fun E h9 => Or.inl ⟨h9.1, h9.2⟩) rfl hl.1 rfl (Nat.le_of_ble_eq_true rfl) dC_diverse_2 ⟨(Nat.le_of_ble_eq_true rfl), (Nat.le_of_ble_eq_true rfl)⟩ (Nat.le_of_ble_eq_true rfl) (Nat.le_of_ble_eq_true rfl) (fun H locs hok hz hP hS => ?_)
  have f_1 := hok
  refine lv_iconst (v := 0) hx hb dC_diverse_5 (by decide) ?_
  refine lv_istore_n (lv' := [(2, .int 0), (0, .ref (ad 0)), (1, .int pt)]) hx hb dC_diverse_6 rfl hl (by decide) rfl (fun ls hl => ?_)
  refine lv_iconst (v := 0) hx hb dC_diverse_7 (by decide) ?_
  refine lv_istore_n (lv' := [(3, .int 0), (2, .int 0), (0, .ref (ad 0)), (1, .int pt)]) hx hb dC_diverse_8 rfl hl (by decide) rfl (fun ls hl => ?_)
  refine loC_diverse hI hx hb hml hown hT hK (fun H locs hP hD hS ls hl => ?_) 6 0 (by omega) H locs hP hD hS ls (lv_sub hl [0, 1, 2, 3] rfl)
  refine lv_aload_n hx hb dC_diverse_36 rfl (lv_at hl 1 rfl) ?_
  refine va_get (D := D) (ci := 0) (C := RC) (T := TC) (N := 3) hx hb hT inC hown hK hP (0) (cw_X) rfl 2 (by decide) (hT _ wm_102) (fun _ h9 => h9) rfl dC_diverse_37 ?_
  refine W.eq (g2 := F0 m 40 ls [.int (nI (h 0 0))]) (by rw [hg0]) ?_
  refine kSi (n := 1) (D := D) (As := [.int (nI (h 0 0))]) (rest := []) ⟨hx, hb, hml, hown, hT⟩ (kC_orderedPairs l (nI (h 0 0))) (gi_S wm_483 wm_484 wm_1 wm_485) rfl rfl (by decide +kernel) ⟨(Nat.le_of_ble_eq_true rfl), (Nat.le_of_ble_eq_true rfl)⟩ hP hS rfl hl.1 rfl (Nat.le_of_ble_eq_true rfl) dC_diverse_40 ⟨(Nat.le_of_ble_eq_true rfl), (Nat.le_of_ble_eq_true rfl)⟩ (fun r_2 H locs e_3 hz hP hS => ?_)
  rw [opr (h 0 0) (by omega)] at e_3
  subst e_3
  refine lv_istore_n (lv' := [(3, .int (nI (h 0 0 * (h 0 0 - 1)))), (2, .int (nI (aln h 6))), (0, .ref (ad 0)), (1, .int pt)]) hx hb dC_diverse_43 rfl hl (by decide) rfl (fun ls hl => ?_)
  refine lv_iload_n hx hb dC_diverse_44 rfl (lv_at hl 0 rfl) ?_
  refine lv_iload_n hx hb dC_diverse_45 rfl (lv_at hl 1 rfl) ?_
  refine lv_isub hx hb dC_diverse_46 ?_
  refine W.eq (g2 := F0 m 47 ls [.int (nI ((h 0 0 * (h 0 0 - 1)) - aln h 6))]) (by rw [pk_sub hal]) ?_
  refine lv_iload_n hx hb dC_diverse_47 rfl (lv_at hl 0 rfl) ?_
  refine lv_iload_n hx hb dC_diverse_48 rfl (lv_at hl 3 rfl) ?_
  refine kSi (n := 3) (D := D) (As := [.int (nI ((h 0 0 * (h 0 0 - 1)) - aln h 6)), .int (nI (h 0 0 * (h 0 0 - 1))), .int pt]) (rest := []) ⟨hx, hb, hml, hown, hT⟩ (kC_lessened l ((h 0 0 * (h 0 0 - 1)) - aln h 6) (h 0 0 * (h 0 0 - 1)) pt (by omega) (by omega)) (gi_S wm_453 wm_454 wm_1 wm_455) rfl rfl (by decide +kernel) ⟨(Nat.le_of_ble_eq_true rfl), (Nat.le_of_ble_eq_true rfl)⟩ hP hS rfl hl.1 rfl (Nat.le_of_ble_eq_true rfl) dC_diverse_49 ⟨(Nat.le_of_ble_eq_true rfl), (Nat.le_of_ble_eq_true rfl)⟩ (fun r_4 H locs e_5 hz hP hS => ?_)
  refine vx_ret ?_
  exact W.iret (v := r_4) hx hb hr (fun t ht hW => ⟨⟨_, g, rfl, ⟨f_1, e_5, rfl⟩, gpost_at hP hK hD ht hW.alike⟩, hS.F ht⟩) hS.2.2 dC_diverse_52
