/-! the law's loop -/
theorem lw_gt {L i : Nat} (hL : L ≤ 2560) (hi : i ≤ 2560) : (nI L - 5 < nI i) ↔ L < i + 5 := by
  rw [Int32.lt_iff_toInt_lt, nI_toInt (by omega), Int32.toInt_sub, nI_toInt (by omega), show Int32.toInt 5 = 5 from by decide +kernel, Int.bmod_def]
  split <;> omega
set_option maxHeartbeats 4000000 in
set_option maxRecDepth 100000 in
theorem li_law {p : Program} {l : Launch} {e : Env} {s : State} {m : MethodId} {args : Array Value} {below : List Frame} {meth : Method} {c : Code} {Q : State → Prop} (hlt : l.stackTraces = false) (hx : p.tables.exec = Jvm.exec) (hb : c.code = cL_law) (hml : c.maxLocals = 7) (hown : s.vm.findClass "CountLeastLaw" = some m.cls) (hT : ∀ w ∈ TB, w.before args s = true) {D : va_G} {CA : Nat → ClassId} (hK : va_K D vwCl (tyL CA) s) {sa : Nat → Nat} (hZ : xz (fun q => s.heap.size ≤ q) sa s s.heap) (hN : xn s) {b L : Nat} {xs : Nat → Int32} (hX : va_X b L xs s s.heap) (hbl : b < s.heap.size) (hL : L ≤ 2560) {qo xo mo : Nat} (kx : ∀ (H : Heap) (locs : List Loc), va_S (fun q => s.heap.size ≤ q) s.heap H locs → ∀ ls, W p l e room_1 s m args below meth c H locs 601024 7293034 Q (F0 m 1324 ls [])) : ∀ n t : Nat, L < 5 * t + 5 * n + 5 → 5 * t ≤ L → ∀ (H : Heap) (locs : List Loc), LwS D CA qo xo mo s.heap.size H → va_S (fun q => s.heap.size ≤ q) s.heap H locs → ∀ ls, lv_has ls 7 [(0, .ref b), (1, .ref xo), (2, .ref mo), (3, .ref qo), (4, .int (nI (5 * t)))] → W p l e room_1 s m args below meth c H locs (76 + 5 * t) (1688 + 33 * t) Q (F0 m 23 ls []) := by
  intro n
  induction n with
  | zero =>
    intro t h1 h2 H locs hW hS ls hl
    refine lv_iload hx hb dL_law_23 (lv_at hl 4 rfl) ?_
    refine lv_aload_n hx hb dL_law_25 rfl (lv_at hl 0 rfl) ?_
    refine va_slen hx hb hX hbl (show ¬ s.heap.size ≤ b by omega) hS dL_law_26 ?_
    refine lv_iconst (v := 5) hx hb dL_law_27 (by decide) ?_
    refine lv_isub hx hb dL_law_28 ?_
    refine lv_icmp_gt (tgt := 1324) hx hb dL_law_29 (by decide) (fun c1 => ?_) (fun c1 => absurd ((lw_gt hL (by omega)).mpr (by omega)) c1)
    refine W.widen (k := 601024) (n := 7293034) (by omega) (by omega) ?_
    exact kx H locs hS ls
  | succ n ih =>
    intro t h1 h2 H locs hW hS ls hl
    refine lv_iload hx hb dL_law_23 (lv_at hl 4 rfl) ?_
    refine lv_aload_n hx hb dL_law_25 rfl (lv_at hl 0 rfl) ?_
    refine va_slen hx hb hX hbl (show ¬ s.heap.size ≤ b by omega) hS dL_law_26 ?_
    refine lv_iconst (v := 5) hx hb dL_law_27 (by decide) ?_
    refine lv_isub hx hb dL_law_28 ?_
    refine lv_icmp_gt (tgt := 1324) hx hb dL_law_29 (by decide) (fun c1 => ?_) (fun c1 => ?_)
    · refine W.widen (k := 601024) (n := 7293034) (by omega) (by omega) ?_
      exact kx H locs hS ls
    have hi : 5 * t + 5 ≤ L := by
      rcases Nat.lt_or_ge L (5 * t + 5) with q | q
      · exact absurd ((lw_gt hL (by omega)).mpr q) c1
      · exact q
    have k1 : ∀ (H : Heap) (locs : List Loc), LwS D CA qo xo mo s.heap.size H → va_S (fun q => s.heap.size ≤ q) s.heap H locs → ∀ ls, lv_has ls 7 [(0, .ref b), (1, .ref xo), (2, .ref mo), (3, .ref qo), (4, .int (nI (5 * t)))] → W p l e room_1 s m args below meth c H locs (76 + 5 * t + 5) (1688 + 33 * t + 33) Q (F0 m 1318 ls []) := by
      intro H locs hW hS ls hl
      refine lv_iinc (v := nI (5 * t + 5)) (lv' := [(4, .int (nI (5 * t + 5))), (0, .ref b), (1, .ref xo), (2, .ref mo), (3, .ref qo)]) hx hb dL_law_1318 hl (k := 4) rfl (nI_add (5 * t) 5) (by decide) rfl (fun ls hl => ?_)
      refine lv_goto (tgt := 23) hx hb dL_law_1321 (by decide) ?_
      have h9 := ih (t + 1) (by omega) (by omega) H locs hW hS ls
      rw [show 5 * (t + 1) = 5 * t + 5 by omega, show 33 * (t + 1) = 33 * t + 33 by omega] at h9
      exact h9 (lv_sub hl [1, 2, 3, 4, 0] rfl)
    refine lv_aload_n hx hb dL_law_32 rfl (lv_at hl 0 rfl) ?_
    refine lv_iload hx hb dL_law_33 (lv_at hl 4 rfl) ?_
    refine va_sld hx hb hX hbl (show ¬ s.heap.size ≤ b by omega) hS (vp_in_nI (n := 5 * t) (by omega) (by omega)) dL_law_35 ?_
    refine lv_bipush (v := 31) hx hb dL_law_36 (by decide) ?_
    refine lv_iand hx hb dL_law_38 ?_
    refine lv_topi (fun y9 ey => ?_)
    obtain ⟨k, hk, ek⟩ := pk_andE (xs (nI (5 * t)).toNatClampNeg) (m := 31) 5 (by decide +kernel)
    rw [ek] at ey
    subst ey
    by_cases hk9 : 18 ≤ k
    · refine lv_tableOut (tgt := 1318) hx hb dL_law_39 (Or.inr (by rw [nI_toInt (by omega)]; omega)) (by decide) ?_
      refine W.widen (k := 76 + 5 * t + 5) (n := 1688 + 33 * t + 33) (by omega) (by omega) ?_
      exact k1 H locs hW hS ls hl
    obtain ⟨g, mg, h, jp, pz, ad, am, f9, sr, exo, emo, hP, hD⟩ := hW
    rcases (show k = 0 ∨ k = 1 ∨ k = 2 ∨ k = 3 ∨ k = 4 ∨ k = 5 ∨ k = 6 ∨ k = 7 ∨ k = 8 ∨ k = 9 ∨ k = 10 ∨ k = 11 ∨ k = 12 ∨ k = 13 ∨ k = 14 ∨ k = 15 ∨ k = 16 ∨ k = 17 by omega) with rfl | rfl | rfl | rfl | rfl | rfl | rfl | rfl | rfl | rfl | rfl | rfl | rfl | rfl | rfl | rfl | rfl | rfl
    · refine lv_tableIn (off := 85) (tgt := 124) hx hb dL_law_39 (by decide +kernel) (by decide +kernel) (by decide +kernel) (by decide) ?_
      exact lc_piece hlt hx hb hml hown hT hK hZ hN hX hbl hL (i := 5 * t) (by omega) (by omega) (by omega) sr exo emo k1 H locs hP hD hS ls hl
    · refine lv_tableIn (off := 177) (tgt := 216) hx hb dL_law_39 (by decide +kernel) (by decide +kernel) (by decide +kernel) (by decide) ?_
      exact lc_single hlt hx hb hml hown hT hK hZ hN hX hbl hL (i := 5 * t) (by omega) (by omega) (by omega) sr exo emo k1 H locs hP hD hS ls hl
    · refine lv_tableIn (off := 280) (tgt := 319) hx hb dL_law_39 (by decide +kernel) (by decide +kernel) (by decide +kernel) (by decide) ?_
      exact lc_bound hlt hx hb hml hown hT hK hZ hN hX hbl hL (i := 5 * t) (by omega) (by omega) (by omega) sr exo emo k1 H locs hP hD hS ls hl
    · refine lv_tableIn (off := 348) (tgt := 387) hx hb dL_law_39 (by decide +kernel) (by decide +kernel) (by decide +kernel) (by decide) ?_
      exact lc_table hlt hx hb hml hown hT hK hZ hN hX hbl hL (i := 5 * t) (by omega) (by omega) (by omega) sr exo emo k1 H locs hP hD hS ls hl
    · refine lv_tableIn (off := 420) (tgt := 459) hx hb dL_law_39 (by decide +kernel) (by decide +kernel) (by decide +kernel) (by decide) ?_
      exact lc_worn hlt hx hb hml hown hT hK hZ hN hX hbl hL (i := 5 * t) (by omega) (by omega) (by omega) sr exo emo k1 H locs hP hD hS ls hl
    · refine lv_tableIn (off := 468) (tgt := 507) hx hb dL_law_39 (by decide +kernel) (by decide +kernel) (by decide +kernel) (by decide) ?_
      exact lc_aged hlt hx hb hml hown hT hK hZ hN hX hbl hL (i := 5 * t) (by omega) (by omega) (by omega) sr exo emo k1 H locs hP hD hS ls hl
    · refine lv_tableIn (off := 536) (tgt := 575) hx hb dL_law_39 (by decide +kernel) (by decide +kernel) (by decide +kernel) (by decide) ?_
      exact lc_unsure hlt hx hb hml hown hT hK hZ hN hX hbl hL (i := 5 * t) (by omega) (by omega) (by omega) sr exo emo k1 H locs hP hD hS ls hl
    · refine lv_tableIn (off := 599) (tgt := 638) hx hb dL_law_39 (by decide +kernel) (by decide +kernel) (by decide +kernel) (by decide) ?_
      exact lc_clash hlt hx hb hml hown hT hK hZ hN hX hbl hL (i := 5 * t) (by omega) (by omega) (by omega) sr exo emo k1 H locs hP hD hS ls hl
    · refine lv_tableIn (off := 667) (tgt := 706) hx hb dL_law_39 (by decide +kernel) (by decide +kernel) (by decide +kernel) (by decide) ?_
      exact lc_least hlt hx hb hml hown hT hK hZ hN hX hbl hL (i := 5 * t) (by omega) (by omega) (by omega) sr exo emo k1 H locs hP hD hS ls hl
    · refine lv_tableIn (off := 723) (tgt := 762) hx hb dL_law_39 (by decide +kernel) (by decide +kernel) (by decide +kernel) (by decide) ?_
      exact lc_animal hlt hx hb hml hown hT hK hZ hN hX hbl hL (i := 5 * t) (by omega) (by omega) (by omega) sr exo emo k1 H locs hP hD hS ls hl
    · refine lv_tableIn (off := 779) (tgt := 818) hx hb dL_law_39 (by decide +kernel) (by decide +kernel) (by decide +kernel) (by decide) ?_
      exact lc_clashing hlt hx hb hml hown hT hK hZ hN hX hbl hL (i := 5 * t) (by omega) (by omega) (by omega) sr exo emo k1 H locs hP hD hS ls hl
    · refine lv_tableIn (off := 847) (tgt := 886) hx hb dL_law_39 (by decide +kernel) (by decide +kernel) (by decide +kernel) (by decide) ?_
      exact lc_weight hlt hx hb hml hown hT hK hZ hN hX hbl hL (i := 5 * t) (by omega) (by omega) (by omega) sr exo emo k1 H locs hP hD hS ls hl
    · refine lv_tableIn (off := 915) (tgt := 954) hx hb dL_law_39 (by decide +kernel) (by decide +kernel) (by decide +kernel) (by decide) ?_
      exact lc_sum hlt hx hb hml hown hT hK hZ hN hX hbl hL (i := 5 * t) (by omega) (by omega) (by omega) sr exo emo k1 H locs hP hD hS ls hl
    · refine lv_tableIn (off := 971) (tgt := 1010) hx hb dL_law_39 (by decide +kernel) (by decide +kernel) (by decide +kernel) (by decide) ?_
      exact lc_share hlt hx hb hml hown hT hK hZ hN hX hbl hL (i := 5 * t) (by omega) (by omega) (by omega) sr exo emo k1 H locs hP hD hS ls hl
    · refine lv_tableIn (off := 1039) (tgt := 1078) hx hb dL_law_39 (by decide +kernel) (by decide +kernel) (by decide +kernel) (by decide) ?_
      exact lc_sieve hlt hx hb hml hown hT hK hZ hN hX hbl hL (i := 5 * t) (by omega) (by omega) (by omega) sr exo emo k1 H locs hP hD hS ls hl
    · refine lv_tableIn (off := 1099) (tgt := 1138) hx hb dL_law_39 (by decide +kernel) (by decide +kernel) (by decide +kernel) (by decide) ?_
      exact lc_scaled hlt hx hb hml hown hT hK hZ hN hX hbl hL (i := 5 * t) (by omega) (by omega) (by omega) sr exo emo k1 H locs hP hD hS ls hl
    · refine lv_tableIn (off := 1167) (tgt := 1206) hx hb dL_law_39 (by decide +kernel) (by decide +kernel) (by decide +kernel) (by decide) ?_
      exact lc_diverse hlt hx hb hml hown hT hK hZ hN hX hbl hL (i := 5 * t) (by omega) (by omega) (by omega) sr exo emo k1 H locs hP hD hS ls hl
    · refine lv_tableIn (off := 1223) (tgt := 1262) hx hb dL_law_39 (by decide +kernel) (by decide +kernel) (by decide +kernel) (by decide) ?_
      exact lc_pieces hlt hx hb hml hown hT hK hZ hN hX hbl hL (i := 5 * t) (by omega) (by omega) (by omega) sr exo emo k1 H locs hP hD hS ls hl
