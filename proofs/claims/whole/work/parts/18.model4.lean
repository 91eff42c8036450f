theorem z_p5 {k : Nat} (h : k ≤ 5) : 5 ^ k < 2 ^ 31 := Nat.lt_of_le_of_lt (Nat.pow_le_pow_right (by omega) h) (by decide)
theorem z_km1 {x : Int32} (h1 : 1 ≤ x.toInt) (h2 : x.toInt ≤ 1000) : x - 1 = nI (x - 1).toNatClampNeg ∧ (x - 1).toNatClampNeg < 1000 := by
  have e := z_clamp (n := x) (by omega)
  generalize x.toNatClampNeg = k at e
  obtain ⟨rfl, e3⟩ := e
  obtain ⟨m, rfl⟩ : ∃ m, k = m + 1 := ⟨k - 1, by omega⟩
  rw [nI_pred, nI_clamp (by omega)]
  exact ⟨rfl, by omega⟩
theorem z_kn {k n : Int32} (h : ¬ o_X8_in_r k.toInt64 1 n.toInt64 = 0) (h2 : ¬ o_X8_in_r n.toInt64 1 5 = 0) : k.toInt ≤ 1000 := by
  have h3 := (z_in32 h).2
  have h4 := (z_in32 h2).2
  rw [Int32.toInt_toInt64] at h3
  have e5 : (5 : Int64).toInt = 5 := by decide
  omega
theorem z_k5 {k : Int32} (h0 : ¬ k = 0) (h : ¬ o_X8_in_r k.toInt64 0 5 = 0) : (1 : Int) ≤ k.toInt ∧ k.toInt ≤ 1000 := by
  have h3 := z_in32 h
  have e5 : (5 : Int64).toInt = 5 := by decide
  have e0 : (0 : Int64).toInt = 0 := by decide
  have h4 : k.toInt ≠ 0 := fun e => h0 (Int32.toInt_inj.mp (e.trans (by decide)))
  omega
theorem z_lt6 {x : Int32} {n : Nat} (h : x = nI n) (h2 : n ≤ 6) (hc : ¬ x = 6) : n < 6 := by
  rcases Nat.lt_or_ge n 6 with q | q
  · exact q
  · exact absurd (by rw [h, show n = 6 by omega]; rfl) hc
theorem z_lt2 {x : Int32} {n : Nat} (h : x = nI n) (h2 : n ≤ 2) (hc : ¬ x = 2) : n < 2 := by
  rcases Nat.lt_or_ge n 2 with q | q
  · exact q
  · exact absurd (by rw [h, show n = 2 by omega]; rfl) hc
theorem z_913 (n : Nat) : (9 + nI n) * 13 = nI (13 * (9 + n)) := by rw [show (9 : Int32) = nI 9 from rfl, nI_add, z_13]
theorem z_913m (n : Nat) (h : 1 ≤ n) : (9 + (nI n - 1)) * 13 = nI (13 * (9 + (n - 1))) := by
  obtain ⟨m, rfl⟩ : ∃ m, n = m + 1 := ⟨n - 1, by omega⟩
  rw [nI_pred, z_913]; rfl
theorem low_does_143_0 (v sl : Nat → Int32) (ac : Int32) {j : Nat} (h : j < 143) : o_X8_does_143_0_1 v sl ac j = sl j := by
  simp only [j_X8_does_143_0_0_0, j_X8_does_143_0_1_0, j_X8_does_143_0_2_0, j_X8_does_143_0_3_0, j_X8_does_143_0_4_0, j_X8_does_143_0_5_0, j_X8_does_143_0_6_0, o_X8_does_143_0_r, o_X8_does_143_0_1]; (repeat' split) <;> first | rfl | simp (disch := omega) only [pk_un]
theorem low_rises_143_0 (v sl : Nat → Int32) (more dr : Int32) {j : Nat} (h : j < 143) : o_X8_rises_143_0_1 v sl more dr j = sl j := by
  rw [o_X8_rises_143_0_1, pk_un (by omega)]
theorem low_does_143_1 (v sl : Nat → Int32) (ac : Int32) {j : Nat} (h : j < 143) : o_X8_does_143_1_1 v sl ac j = sl j := by
  simp only [j_X8_does_143_1_0_0, j_X8_does_143_1_1_0, j_X8_does_143_1_2_0, j_X8_does_143_1_3_0, j_X8_does_143_1_4_0, j_X8_does_143_1_5_0, j_X8_does_143_1_6_0, o_X8_does_143_1_r, o_X8_does_143_1_1]; (repeat' split) <;> first | rfl | simp (disch := omega) only [pk_un]
theorem low_rises_143_1 (v sl : Nat → Int32) (more dr : Int32) {j : Nat} (h : j < 143) : o_X8_rises_143_1_1 v sl more dr j = sl j := by
  rw [o_X8_rises_143_1_1, pk_un (by omega)]
theorem low_goes_143 (v ms sl : Nat → Int32) (da db dr : Int32) {j : Nat} (h : j < 143) : o_X8_goes_143_2 v ms sl da db dr j = sl j := by
  rw [o_X8_goes_143_2]
  split
  · rw [pk_un (by omega), pk_un (by omega), pk_un (by omega), pk_un (by omega), pk_un (by omega), low_rises_143_1 _ _ _ _ h, low_rises_143_0 _ _ _ _ h, low_does_143_1 _ _ _ h, low_does_143_0 _ _ _ h]
  · rfl
theorem low_told_143 (v ms sl : Nat → Int32) (da db : Int32) {j : Nat} (h : j < 143) : o_X8_told_143_2 v ms sl da db j = sl j := by
  rw [o_X8_told_143_2, low_goes_143 _ _ _ _ _ _ h]
theorem low_cp (sl : Nat → Int32) {j : Nat} (h : j < 143) : cp13 sl 0 143 j = sl j := if_neg (by omega)
theorem low_Lidles (v ms sl : Nat → Int32) (n : Int32) (nn : Nat) {j : Nat} (h : j < 143) : ∀ k, (L_X8_idles_0 v ms sl n nn k).2 j = sl j := by
  intro k
  induction k with
  | zero => rfl
  | succ k ih => rw [L_X8_idles_0]; exact (low_told_143 _ _ _ _ _ h).trans ih
theorem low_idles (v ms sl : Nat → Int32) (n : Int32) (nn : Nat) {j : Nat} (h : j < 143) : o_X8_idles_2 v ms sl n nn j = sl j := by
  rw [o_X8_idles_2, low_Lidles _ _ _ _ _ h]
theorem low_Lrows (v ms sl : Nat → Int32) (p c_ n ot : Int32) (nn : Nat) {j : Nat} (h : j < 143) : ∀ k, (L_X8_rows_0 v ms sl p c_ n ot nn k).2 j = sl j := by
  intro k
  induction k with
  | zero => exact low_cp sl h
  | succ k ih =>
    rw [L_X8_rows_0]
    unfold j_X8_rows_1_1
    show (if p = 0 then _ else _ : Nat → Int32) j = _
    split
    · exact (low_told_143 _ _ _ _ _ h).trans ih
    · exact (low_told_143 _ _ _ _ _ h).trans ih
theorem low_rows (v ms sl : Nat → Int32) (p c_ n ot : Int32) (nn : Nat) {j : Nat} (h : j < 143) : o_X8_rows_2 v ms sl p c_ n ot nn j = sl j := by
  rw [o_X8_rows_2, low_Lrows _ _ _ _ _ _ _ _ h]
def T_X8_hold_0 (v : Nat → Int32) (ms : Nat → Int32) (sl : Nat → Int32) (p : Int32) (n : Int32) (k_ : Int32) : Nat → Nat → (Nat → Int32) → (Int32 × (Nat → Int32))
  | 0, _, u0_0 => ((-4), u0_0)
  | (j0 + 1), k0, u0_0 => (if (o_X8_rows_r v ms u0_0 p (nI k0) n 2 n.toNatClampNeg) = p then (T_X8_hold_0 v ms sl p n k_ j0 (k0 + 1) (o_X8_rows_2 v ms u0_0 p (nI k0) n 2 n.toNatClampNeg)) else ((o_X8_doneIn_r (nI k0) n (k_ - 1) n.toNatClampNeg (k_ - 1).toNatClampNeg), (o_X8_rows_2 v ms u0_0 p (nI k0) n 2 n.toNatClampNeg)))
def O_X8_hold (v : Nat → Int32) (ms : Nat → Int32) (sl : Nat → Int32) (p : Int32) (n : Int32) (k_ : Int32) : Int32 × (Nat → Int32) := (if (o_X8_isOne_r p) = 0 then ((-1), sl) else (if (o_X8_in_r n.toInt64 1 5) = 0 then ((-1), sl) else (if (o_X8_in_r k_.toInt64 1 n.toInt64) = 0 then ((-1), sl) else (if (o_X8_isOver_r v sl) = 0 then (T_X8_hold_0 v ms sl p n k_ (5 ^ n.toNatClampNeg) 0 sl) else ((-2), sl)))))
set_option maxRecDepth 100000 in
set_option maxHeartbeats 4000000 in
theorem c_X8_hold (l : Launch) (E : zE) (v : Nat → Int32) (ms : Nat → Int32) (sl : Nat → Int32) (p : Int32) (n : Int32) (k_ : Int32) (m aS aW aL aT a1 a2 a3 aB : Nat) (hB : mB 1000000 (sl 11)) : HM l E yX8_hold cX8_hold 5 (some .int) 6 145 [.ref m, .int p, .int n, .int k_] [(m, .inr (8, [.int (v 0), .int (v 1), .ref aS, .int (v 2), .int (v 3), .int (v 4), .ref aW, .int (v 5), .ref aL, .int (v 6), .int (v 7), .int (v 8), .ref aT, .int (v 9), .int (v 10), .int (v 11), .int (v 12), .ref a1, .ref a2, .ref a3, .ref aB, .int (v 13), .int (v 14)])), (aS, .inl (E.2.1.1, 12, .inl ms)), (aL, .inl (E.2.1.1, 156, .inl sl))] (some (.int ((O_X8_hold v ms sl p n k_).1))) [(m, .inr (8, [.int (v 0), .int (v 1), .ref aS, .int (v 2), .int (v 3), .int (v 4), .ref aW, .int (v 5), .ref aL, .int (v 6), .int (v 7), .int (v 8), .ref aT, .int (v 9), .int (v 10), .int (v 11), .int (v 12), .ref a1, .ref a2, .ref a3, .ref aB, .int (v 13), .int (v 14)])), (aS, .inl (E.2.1.1, 12, .inl ms)), (aL, .inl (E.2.1.1, 156, .inl ((O_X8_hold v ms sl p n k_).2)))] := by
  refine HM.of (own := RX8) (plainFor_of_name (by decide)) rfl (Nat.le_of_ble_eq_true rfl) ?_
  intro zp ze zs zm za zb zt zc zA ls H locs zq C hr hlk hG hl hQ
  have hx := C.1.1
  have hb := C.1.2.1
  replace hl : lv_has ls 5 [(0, .ref m), (1, .int p), (2, .int n), (3, .int k_)] := hl
  generalize hF : O_X8_hold v ms sl p n k_ = ro at hQ
  obtain ⟨rr, r0⟩ := ro
  dsimp only at hQ
  refine lv_iload_n hx hb dX8_hold_0 rfl (lv_at hl 1 rfl) ?_
  refine call_X8_121 C dX8_hold_1 (c_X8_isOne l E p) hl hG [] (by decide) rfl (ads := []) rfl rfl (ws' := [(m, .inr (8, [.int (v 0), .int (v 1), .ref aS, .int (v 2), .int (v 3), .int (v 4), .ref aW, .int (v 5), .ref aL, .int (v 6), .int (v 7), .int (v 8), .ref aT, .int (v 9), .int (v 10), .int (v 11), .int (v 12), .ref a1, .ref a2, .ref a3, .ref aB, .int (v 13), .int (v 14)])), (aS, .inl (E.2.1.1, 12, .inl ms)), (aL, .inl (E.2.1.1, 156, .inl sl))]) rfl rfl (rest := []) rfl (Nat.le_of_ble_eq_true rfl) ⟨Nat.le_of_ble_eq_true rfl, Nat.le_of_ble_eq_true rfl⟩ (fun H locs hG => ?_)
  refine lv_if_eq (tgt := 30) hx hb dX8_hold_4 (by decide) (fun c_1 => ?_) (fun c_1 => ?_)
  · skip
    refine lv_iconst (v := (-1)) hx hb dX8_hold_30 (by decide) ?_
    rw [O_X8_hold, if_pos c_1] at hF
    cases hF
    rw [hQ]
    exact z_iret C hr hlk hG dX8_hold_31 rfl rfl rfl
  · skip
    refine lv_iload_n hx hb dX8_hold_7 rfl (lv_at hl 2 rfl) ?_
    refine lv_i2l (v := n.toInt64) hx hb dX8_hold_8 rfl ?_
    refine lv_lconst (v := 1) hx hb dX8_hold_9 (by decide) ?_
    refine lv_ldc2 (v := 5) hx hb C.1.2.2.2.1 (C.1.2.2.2.2 _ (inr26 _ (List.mem_of_getElem? (i := 11) rfl))) dX8_hold_10 ?_
    refine call_X8_49 C dX8_hold_13 (c_X8_in l E n.toInt64 1 5) hl hG [] (by decide) rfl (ads := []) rfl rfl (ws' := [(m, .inr (8, [.int (v 0), .int (v 1), .ref aS, .int (v 2), .int (v 3), .int (v 4), .ref aW, .int (v 5), .ref aL, .int (v 6), .int (v 7), .int (v 8), .ref aT, .int (v 9), .int (v 10), .int (v 11), .int (v 12), .ref a1, .ref a2, .ref a3, .ref aB, .int (v 13), .int (v 14)])), (aS, .inl (E.2.1.1, 12, .inl ms)), (aL, .inl (E.2.1.1, 156, .inl sl))]) rfl rfl (rest := []) rfl (Nat.le_of_ble_eq_true rfl) ⟨Nat.le_of_ble_eq_true rfl, Nat.le_of_ble_eq_true rfl⟩ (fun H locs hG => ?_)
    refine lv_if_eq (tgt := 30) hx hb dX8_hold_16 (by decide) (fun c_2 => ?_) (fun c_2 => ?_)
    · skip
      refine lv_iconst (v := (-1)) hx hb dX8_hold_30 (by decide) ?_
      rw [O_X8_hold, if_neg c_1, if_pos c_2] at hF
      cases hF
      rw [hQ]
      exact z_iret C hr hlk hG dX8_hold_31 rfl rfl rfl
    · skip
      refine lv_iload_n hx hb dX8_hold_19 rfl (lv_at hl 3 rfl) ?_
      refine lv_i2l (v := k_.toInt64) hx hb dX8_hold_20 rfl ?_
      refine lv_lconst (v := 1) hx hb dX8_hold_21 (by decide) ?_
      refine lv_iload_n hx hb dX8_hold_22 rfl (lv_at hl 2 rfl) ?_
      refine lv_i2l (v := n.toInt64) hx hb dX8_hold_23 rfl ?_
      refine call_X8_49 C dX8_hold_24 (c_X8_in l E k_.toInt64 1 n.toInt64) hl hG [] (by decide) rfl (ads := []) rfl rfl (ws' := [(m, .inr (8, [.int (v 0), .int (v 1), .ref aS, .int (v 2), .int (v 3), .int (v 4), .ref aW, .int (v 5), .ref aL, .int (v 6), .int (v 7), .int (v 8), .ref aT, .int (v 9), .int (v 10), .int (v 11), .int (v 12), .ref a1, .ref a2, .ref a3, .ref aB, .int (v 13), .int (v 14)])), (aS, .inl (E.2.1.1, 12, .inl ms)), (aL, .inl (E.2.1.1, 156, .inl sl))]) rfl rfl (rest := []) rfl (Nat.le_of_ble_eq_true rfl) ⟨Nat.le_of_ble_eq_true rfl, Nat.le_of_ble_eq_true rfl⟩ (fun H locs hG => ?_)
      refine lv_if_ne (tgt := 32) hx hb dX8_hold_27 (by decide) (fun c_3 => ?_) (fun c_3 => ?_)
      · skip
        refine lv_aload_n hx hb dX8_hold_32 rfl (lv_at hl 0 rfl) ?_
        refine call_X8_162 C dX8_hold_33 (c_X8_isOver l E v sl m aS aW aL aT a1 a2 a3 aB) hl hG 0 rfl [0, 2] (by decide) rfl (ads := [m, aL]) rfl rfl (ws' := [(m, .inr (8, [.int (v 0), .int (v 1), .ref aS, .int (v 2), .int (v 3), .int (v 4), .ref aW, .int (v 5), .ref aL, .int (v 6), .int (v 7), .int (v 8), .ref aT, .int (v 9), .int (v 10), .int (v 11), .int (v 12), .ref a1, .ref a2, .ref a3, .ref aB, .int (v 13), .int (v 14)])), (aS, .inl (E.2.1.1, 12, .inl ms)), (aL, .inl (E.2.1.1, 156, .inl sl))]) rfl rfl (rest := []) rfl (Nat.le_of_ble_eq_true rfl) ⟨Nat.le_of_ble_eq_true rfl, Nat.le_of_ble_eq_true rfl⟩ (fun H locs hG => ?_)
        refine lv_if_eq (tgt := 42) hx hb dX8_hold_36 (by decide) (fun c_4 => ?_) (fun c_4 => ?_)
        · skip
          refine lv_iconst (v := 0) hx hb dX8_hold_42 (by decide) ?_
          refine lv_istore (lv' := [(4, .int 0), (0, .ref m), (1, .int p), (2, .int n), (3, .int k_)]) hx hb dX8_hold_43 hl (by decide) rfl (fun ls hl => ?_)
          rw [O_X8_hold, if_neg c_1, if_neg c_2, if_neg c_3, if_pos c_4] at hF
          have kt_0 : ∀ (j0 k0 : Nat), j0 + k0 = (5 ^ n.toNatClampNeg) → ∀ (u0_0 : Nat → Int32) (H : Heap) (locs : List Loc) (ls : Array Slot), (T_X8_hold_0 v ms sl p n k_ j0 k0 u0_0) = (rr, r0) → mB 1000000 (u0_0 11) → zG E zA zs.heap [(m, .inr (8, [.int (v 0), .int (v 1), .ref aS, .int (v 2), .int (v 3), .int (v 4), .ref aW, .int (v 5), .ref aL, .int (v 6), .int (v 7), .int (v 8), .ref aT, .int (v 9), .int (v 10), .int (v 11), .int (v 12), .ref a1, .ref a2, .ref a3, .ref aB, .int (v 13), .int (v 14)])), (aS, .inl (E.2.1.1, 12, .inl ms)), (aL, .inl (E.2.1.1, 156, .inl u0_0))] H locs → lv_has ls 5 [(4, .int (nI k0)), (0, .ref m), (1, .int p), (2, .int n), (3, .int k_)] → W zp l ze (zR 6 145) zs zm za zb zt zc H locs 0 0 zq (F0 zm 45 ls []) := by
            clear hF
            intro j0
            induction j0 with
            | zero =>
              intro k0 hk0 u0_0 H locs ls hF hinv hG hl
              obtain rfl : k0 = (5 ^ n.toNatClampNeg) := by omega
              rw [T_X8_hold_0] at hF
              refine lv_iload hx hb dX8_hold_45 (lv_at hl 0 rfl) ?_
              refine lv_iload_n hx hb dX8_hold_47 rfl (lv_at hl 3 rfl) ?_
              refine call_X8_185 C dX8_hold_48 (c_X8_rowsOf_t l E n n.toNatClampNeg (by have := z_in3 (c := 5) (by decide) (by decide) c_2; omega) (z_in2 (by decide) c_2)) hl hG [] (by decide) rfl (ads := []) rfl rfl (ws' := [(m, .inr (8, [.int (v 0), .int (v 1), .ref aS, .int (v 2), .int (v 3), .int (v 4), .ref aW, .int (v 5), .ref aL, .int (v 6), .int (v 7), .int (v 8), .ref aT, .int (v 9), .int (v 10), .int (v 11), .int (v 12), .ref a1, .ref a2, .ref a3, .ref aB, .int (v 13), .int (v 14)])), (aS, .inl (E.2.1.1, 12, .inl ms)), (aL, .inl (E.2.1.1, 156, .inl u0_0))]) rfl rfl (rest := [.int (nI (5 ^ n.toNatClampNeg))]) rfl (Nat.le_of_ble_eq_true rfl) ⟨Nat.le_of_ble_eq_true rfl, Nat.le_of_ble_eq_true rfl⟩ (fun H locs hG => ?_)
              refine lv_icmp_ge (tgt := 83) hx hb dX8_hold_51 (by decide) (fun c_10 => ?_) (fun c_10 => absurd (z_ge_yes rfl) c_10)
              refine lv_bipush (v := (-4)) hx hb dX8_hold_83 (by decide) ?_
              cases hF
              rw [hQ]
              exact z_iret C hr hlk hG dX8_hold_85 rfl rfl rfl
            | succ j0 ih0 =>
              intro k0 hk0 u0_0 H locs ls hF hinv hG hl
              have hlt : k0 < (5 ^ n.toNatClampNeg) := by omega
              rw [T_X8_hold_0] at hF
              refine lv_iload hx hb dX8_hold_45 (lv_at hl 0 rfl) ?_
              refine lv_iload_n hx hb dX8_hold_47 rfl (lv_at hl 3 rfl) ?_
              refine call_X8_185 C dX8_hold_48 (c_X8_rowsOf_t l E n n.toNatClampNeg (by have := z_in3 (c := 5) (by decide) (by decide) c_2; omega) (z_in2 (by decide) c_2)) hl hG [] (by decide) rfl (ads := []) rfl rfl (ws' := [(m, .inr (8, [.int (v 0), .int (v 1), .ref aS, .int (v 2), .int (v 3), .int (v 4), .ref aW, .int (v 5), .ref aL, .int (v 6), .int (v 7), .int (v 8), .ref aT, .int (v 9), .int (v 10), .int (v 11), .int (v 12), .ref a1, .ref a2, .ref a3, .ref aB, .int (v 13), .int (v 14)])), (aS, .inl (E.2.1.1, 12, .inl ms)), (aL, .inl (E.2.1.1, 156, .inl u0_0))]) rfl rfl (rest := [.int (nI k0)]) rfl (Nat.le_of_ble_eq_true rfl) ⟨Nat.le_of_ble_eq_true rfl, Nat.le_of_ble_eq_true rfl⟩ (fun H locs hG => ?_)
              refine lv_icmp_ge (tgt := 83) hx hb dX8_hold_51 (by decide) (fun c_11 => absurd c_11 (z_ge_no hlt (z_p5 (z_in3 (c := 5) (by decide) (by decide) c_2)) rfl)) (fun c_11 => ?_)
              refine lv_aload_n hx hb dX8_hold_54 rfl (lv_at hl 1 rfl) ?_
              refine lv_iload_n hx hb dX8_hold_55 rfl (lv_at hl 2 rfl) ?_
              refine lv_iload hx hb dX8_hold_56 (lv_at hl 0 rfl) ?_
              refine lv_iload_n hx hb dX8_hold_58 rfl (lv_at hl 3 rfl) ?_
              refine lv_iconst (v := 2) hx hb dX8_hold_59 (by decide) ?_
              refine call_X8_188 C dX8_hold_60 (c_X8_rows l E v ms u0_0 p (nI k0) n 2 n.toNatClampNeg m aS aW aL aT a1 a2 a3 aB hinv (by have := z_in3 (c := 5) (by decide) (by decide) c_2; omega) (z_in2 (by decide) c_2)) hl hG 0 rfl [0, 1, 2] (by decide) rfl (ads := [m, aS, aL]) rfl rfl (ws' := [(m, .inr (8, [.int (v 0), .int (v 1), .ref aS, .int (v 2), .int (v 3), .int (v 4), .ref aW, .int (v 5), .ref aL, .int (v 6), .int (v 7), .int (v 8), .ref aT, .int (v 9), .int (v 10), .int (v 11), .int (v 12), .ref a1, .ref a2, .ref a3, .ref aB, .int (v 13), .int (v 14)])), (aS, .inl (E.2.1.1, 12, .inl ms)), (aL, .inl (E.2.1.1, 156, .inl (o_X8_rows_2 v ms u0_0 p (nI k0) n 2 n.toNatClampNeg)))]) rfl rfl (rest := []) rfl (Nat.le_of_ble_eq_true rfl) ⟨Nat.le_of_ble_eq_true rfl, Nat.le_of_ble_eq_true rfl⟩ (fun H locs hG => ?_)
              refine lv_iload_n hx hb dX8_hold_63 rfl (lv_at hl 2 rfl) ?_
              refine lv_icmp_eq (tgt := 77) hx hb dX8_hold_64 (by decide) (fun c_12 => ?_) (fun c_12 => ?_)
              · skip
                refine lv_iinc (v := (nI (k0 + 1))) (lv' := [(4, .int (nI (k0 + 1))), (0, .ref m), (1, .int p), (2, .int n), (3, .int k_)]) hx hb dX8_hold_77 hl (k := 0) rfl (nI_1 _) (by decide) rfl (fun ls hl => ?_)
                refine lv_goto (tgt := 45) hx hb dX8_hold_80 (by decide) ?_
                rw [if_pos c_12] at hF
                exact ih0 (k0 + 1) (by omega) (o_X8_rows_2 v ms u0_0 p (nI k0) n 2 n.toNatClampNeg) _ _ _ hF (by rw [low_rows _ _ _ _ _ _ _ _ (by decide)]; exact hinv) hG (lv_sub hl [0, 1, 2, 3, 4] rfl)
              · skip
                refine lv_iload hx hb dX8_hold_67 (lv_at hl 0 rfl) ?_
                refine lv_iload_n hx hb dX8_hold_69 rfl (lv_at hl 3 rfl) ?_
                refine lv_iload_n hx hb dX8_hold_70 rfl (lv_at hl 4 rfl) ?_
                refine lv_iconst (v := 1) hx hb dX8_hold_71 (by decide) ?_
                refine lv_isub hx hb dX8_hold_72 ?_
                refine call_X8_180 C dX8_hold_73 (c_X8_doneIn l E (nI k0) n (k_ - 1) n.toNatClampNeg ((k_ - 1).toNatClampNeg) (by have := z_in3 (c := 5) (by decide) (by decide) c_2; omega) (z_in2 (by decide) c_2) (z_km1 (z_in32 c_3).1 (z_kn c_3 c_2)).1 (z_km1 (z_in32 c_3).1 (z_kn c_3 c_2)).2) hl hG [] (by decide) rfl (ads := []) rfl rfl (ws' := [(m, .inr (8, [.int (v 0), .int (v 1), .ref aS, .int (v 2), .int (v 3), .int (v 4), .ref aW, .int (v 5), .ref aL, .int (v 6), .int (v 7), .int (v 8), .ref aT, .int (v 9), .int (v 10), .int (v 11), .int (v 12), .ref a1, .ref a2, .ref a3, .ref aB, .int (v 13), .int (v 14)])), (aS, .inl (E.2.1.1, 12, .inl ms)), (aL, .inl (E.2.1.1, 156, .inl (o_X8_rows_2 v ms u0_0 p (nI k0) n 2 n.toNatClampNeg)))]) rfl rfl (rest := []) rfl (Nat.le_of_ble_eq_true rfl) ⟨Nat.le_of_ble_eq_true rfl, Nat.le_of_ble_eq_true rfl⟩ (fun H locs hG => ?_)
                rw [if_neg c_12] at hF
                cases hF
                rw [hQ]
                exact z_iret C hr hlk hG dX8_hold_76 rfl rfl rfl
          exact kt_0 (5 ^ n.toNatClampNeg) 0 (by omega) sl _ _ _ hF hB hG (lv_sub hl [0, 1, 2, 3, 4] rfl)
        · skip
          refine lv_bipush (v := (-2)) hx hb dX8_hold_39 (by decide) ?_
          rw [O_X8_hold, if_neg c_1, if_neg c_2, if_neg c_3, if_neg c_4] at hF
          cases hF
          rw [hQ]
          exact z_iret C hr hlk hG dX8_hold_41 rfl rfl rfl
      · skip
        refine lv_iconst (v := (-1)) hx hb dX8_hold_30 (by decide) ?_
        rw [O_X8_hold, if_neg c_1, if_neg c_2, if_pos c_3] at hF
        cases hF
        rw [hQ]
        exact z_iret C hr hlk hG dX8_hold_31 rfl rfl rfl
def T_X8_soonest_4 (v : Nat → Int32) (ms : Nat → Int32) (sl : Nat → Int32) (p : Int32) (k_ : Int32) : Nat → Nat → (Nat → Int32) → (Int32 × (Nat → Int32))
  | 0, _, u4_0 => ((-4), u4_0)
  | (j4 + 1), k4, u4_0 => (if (o_X8_rows_r v ms u4_0 p (nI k4) 5 0 5) = (1 - p) then (if k_ = 0 then (5, (o_X8_rows_2 v ms u4_0 p (nI k4) 5 0 5)) else (if k_ ≤ 5 then ((o_X8_doneIn_r (nI k4) 5 (k_ - 1) 5 (k_ - 1).toNatClampNeg), (o_X8_rows_2 v ms u4_0 p (nI k4) 5 0 5)) else ((-4), (o_X8_rows_2 v ms u4_0 p (nI k4) 5 0 5)))) else (T_X8_soonest_4 v ms sl p k_ j4 (k4 + 1) (o_X8_rows_2 v ms u4_0 p (nI k4) 5 0 5)))
def T_X8_soonest_3 (v : Nat → Int32) (ms : Nat → Int32) (sl : Nat → Int32) (p : Int32) (k_ : Int32) : Nat → Nat → (Nat → Int32) → (Int32 × (Nat → Int32))
  | 0, _, u3_0 => (T_X8_soonest_4 v ms sl p k_ (5 ^ 5) 0 u3_0)
  | (j3 + 1), k3, u3_0 => (if (o_X8_rows_r v ms u3_0 p (nI k3) 4 0 4) = (1 - p) then (if k_ = 0 then (4, (o_X8_rows_2 v ms u3_0 p (nI k3) 4 0 4)) else (if k_ ≤ 4 then ((o_X8_doneIn_r (nI k3) 4 (k_ - 1) 4 (k_ - 1).toNatClampNeg), (o_X8_rows_2 v ms u3_0 p (nI k3) 4 0 4)) else ((-4), (o_X8_rows_2 v ms u3_0 p (nI k3) 4 0 4)))) else (T_X8_soonest_3 v ms sl p k_ j3 (k3 + 1) (o_X8_rows_2 v ms u3_0 p (nI k3) 4 0 4)))
def T_X8_soonest_2 (v : Nat → Int32) (ms : Nat → Int32) (sl : Nat → Int32) (p : Int32) (k_ : Int32) : Nat → Nat → (Nat → Int32) → (Int32 × (Nat → Int32))
  | 0, _, u2_0 => (T_X8_soonest_3 v ms sl p k_ (5 ^ 4) 0 u2_0)
  | (j2 + 1), k2, u2_0 => (if (o_X8_rows_r v ms u2_0 p (nI k2) 3 0 3) = (1 - p) then (if k_ = 0 then (3, (o_X8_rows_2 v ms u2_0 p (nI k2) 3 0 3)) else (if k_ ≤ 3 then ((o_X8_doneIn_r (nI k2) 3 (k_ - 1) 3 (k_ - 1).toNatClampNeg), (o_X8_rows_2 v ms u2_0 p (nI k2) 3 0 3)) else ((-4), (o_X8_rows_2 v ms u2_0 p (nI k2) 3 0 3)))) else (T_X8_soonest_2 v ms sl p k_ j2 (k2 + 1) (o_X8_rows_2 v ms u2_0 p (nI k2) 3 0 3)))
def T_X8_soonest_1 (v : Nat → Int32) (ms : Nat → Int32) (sl : Nat → Int32) (p : Int32) (k_ : Int32) : Nat → Nat → (Nat → Int32) → (Int32 × (Nat → Int32))
  | 0, _, u1_0 => (T_X8_soonest_2 v ms sl p k_ (5 ^ 3) 0 u1_0)
  | (j1 + 1), k1, u1_0 => (if (o_X8_rows_r v ms u1_0 p (nI k1) 2 0 2) = (1 - p) then (if k_ = 0 then (2, (o_X8_rows_2 v ms u1_0 p (nI k1) 2 0 2)) else (if k_ ≤ 2 then ((o_X8_doneIn_r (nI k1) 2 (k_ - 1) 2 (k_ - 1).toNatClampNeg), (o_X8_rows_2 v ms u1_0 p (nI k1) 2 0 2)) else ((-4), (o_X8_rows_2 v ms u1_0 p (nI k1) 2 0 2)))) else (T_X8_soonest_1 v ms sl p k_ j1 (k1 + 1) (o_X8_rows_2 v ms u1_0 p (nI k1) 2 0 2)))
def T_X8_soonest_0 (v : Nat → Int32) (ms : Nat → Int32) (sl : Nat → Int32) (p : Int32) (k_ : Int32) : Nat → Nat → (Nat → Int32) → (Int32 × (Nat → Int32))
  | 0, _, u0_0 => (T_X8_soonest_1 v ms sl p k_ (5 ^ 2) 0 u0_0)
  | (j0 + 1), k0, u0_0 => (if (o_X8_rows_r v ms u0_0 p (nI k0) 1 0 1) = (1 - p) then (if k_ = 0 then (1, (o_X8_rows_2 v ms u0_0 p (nI k0) 1 0 1)) else (if k_ ≤ 1 then ((o_X8_doneIn_r (nI k0) 1 (k_ - 1) 1 (k_ - 1).toNatClampNeg), (o_X8_rows_2 v ms u0_0 p (nI k0) 1 0 1)) else ((-4), (o_X8_rows_2 v ms u0_0 p (nI k0) 1 0 1)))) else (T_X8_soonest_0 v ms sl p k_ j0 (k0 + 1) (o_X8_rows_2 v ms u0_0 p (nI k0) 1 0 1)))
def O_X8_soonest (v : Nat → Int32) (ms : Nat → Int32) (sl : Nat → Int32) (p : Int32) (k_ : Int32) : Int32 × (Nat → Int32) := (if (o_X8_isOne_r p) = 0 then ((-1), sl) else (if (o_X8_in_r k_.toInt64 0 5) = 0 then ((-1), sl) else (if (o_X8_isOver_r v sl) = 0 then (T_X8_soonest_0 v ms sl p k_ (5 ^ 1) 0 sl) else ((-2), sl))))
set_option maxRecDepth 100000 in
set_option maxHeartbeats 4000000 in
theorem c_X8_soonest (l : Launch) (E : zE) (v : Nat → Int32) (ms : Nat → Int32) (sl : Nat → Int32) (p : Int32) (k_ : Int32) (m aS aW aL aT a1 a2 a3 aB : Nat) (hB : mB 1000000 (sl 11)) : HM l E yX8_soonest cX8_soonest 5 (some .int) 6 145 [.ref m, .int p, .int k_] [(m, .inr (8, [.int (v 0), .int (v 1), .ref aS, .int (v 2), .int (v 3), .int (v 4), .ref aW, .int (v 5), .ref aL, .int (v 6), .int (v 7), .int (v 8), .ref aT, .int (v 9), .int (v 10), .int (v 11), .int (v 12), .ref a1, .ref a2, .ref a3, .ref aB, .int (v 13), .int (v 14)])), (aS, .inl (E.2.1.1, 12, .inl ms)), (aL, .inl (E.2.1.1, 156, .inl sl))] (some (.int ((O_X8_soonest v ms sl p k_).1))) [(m, .inr (8, [.int (v 0), .int (v 1), .ref aS, .int (v 2), .int (v 3), .int (v 4), .ref aW, .int (v 5), .ref aL, .int (v 6), .int (v 7), .int (v 8), .ref aT, .int (v 9), .int (v 10), .int (v 11), .int (v 12), .ref a1, .ref a2, .ref a3, .ref aB, .int (v 13), .int (v 14)])), (aS, .inl (E.2.1.1, 12, .inl ms)), (aL, .inl (E.2.1.1, 156, .inl ((O_X8_soonest v ms sl p k_).2)))] := by
  refine HM.of (own := RX8) (plainFor_of_name (by decide)) rfl (Nat.le_of_ble_eq_true rfl) ?_
  intro zp ze zs zm za zb zt zc zA ls H locs zq C hr hlk hG hl hQ
  have hx := C.1.1
  have hb := C.1.2.1
  replace hl : lv_has ls 5 [(0, .ref m), (1, .int p), (2, .int k_)] := hl
  generalize hF : O_X8_soonest v ms sl p k_ = ro at hQ
  obtain ⟨rr, r0⟩ := ro
  dsimp only at hQ
  refine lv_iload_n hx hb dX8_soonest_0 rfl (lv_at hl 1 rfl) ?_
  refine call_X8_121 C dX8_soonest_1 (c_X8_isOne l E p) hl hG [] (by decide) rfl (ads := []) rfl rfl (ws' := [(m, .inr (8, [.int (v 0), .int (v 1), .ref aS, .int (v 2), .int (v 3), .int (v 4), .ref aW, .int (v 5), .ref aL, .int (v 6), .int (v 7), .int (v 8), .ref aT, .int (v 9), .int (v 10), .int (v 11), .int (v 12), .ref a1, .ref a2, .ref a3, .ref aB, .int (v 13), .int (v 14)])), (aS, .inl (E.2.1.1, 12, .inl ms)), (aL, .inl (E.2.1.1, 156, .inl sl))]) rfl rfl (rest := []) rfl (Nat.le_of_ble_eq_true rfl) ⟨Nat.le_of_ble_eq_true rfl, Nat.le_of_ble_eq_true rfl⟩ (fun H locs hG => ?_)
  refine lv_if_eq (tgt := 19) hx hb dX8_soonest_4 (by decide) (fun c_1 => ?_) (fun c_1 => ?_)
  · skip
    refine lv_iconst (v := (-1)) hx hb dX8_soonest_19 (by decide) ?_
    rw [O_X8_soonest, if_pos c_1] at hF
    cases hF
    rw [hQ]
    exact z_iret C hr hlk hG dX8_soonest_20 rfl rfl rfl
  · skip
    refine lv_iload_n hx hb dX8_soonest_7 rfl (lv_at hl 2 rfl) ?_
    refine lv_i2l (v := k_.toInt64) hx hb dX8_soonest_8 rfl ?_
    refine lv_lconst (v := 0) hx hb dX8_soonest_9 (by decide) ?_
    refine lv_ldc2 (v := 5) hx hb C.1.2.2.2.1 (C.1.2.2.2.2 _ (inr26 _ (List.mem_of_getElem? (i := 11) rfl))) dX8_soonest_10 ?_
    refine call_X8_49 C dX8_soonest_13 (c_X8_in l E k_.toInt64 0 5) hl hG [] (by decide) rfl (ads := []) rfl rfl (ws' := [(m, .inr (8, [.int (v 0), .int (v 1), .ref aS, .int (v 2), .int (v 3), .int (v 4), .ref aW, .int (v 5), .ref aL, .int (v 6), .int (v 7), .int (v 8), .ref aT, .int (v 9), .int (v 10), .int (v 11), .int (v 12), .ref a1, .ref a2, .ref a3, .ref aB, .int (v 13), .int (v 14)])), (aS, .inl (E.2.1.1, 12, .inl ms)), (aL, .inl (E.2.1.1, 156, .inl sl))]) rfl rfl (rest := []) rfl (Nat.le_of_ble_eq_true rfl) ⟨Nat.le_of_ble_eq_true rfl, Nat.le_of_ble_eq_true rfl⟩ (fun H locs hG => ?_)
    refine lv_if_ne (tgt := 21) hx hb dX8_soonest_16 (by decide) (fun c_2 => ?_) (fun c_2 => ?_)
    · skip
      refine lv_aload_n hx hb dX8_soonest_21 rfl (lv_at hl 0 rfl) ?_
      refine call_X8_162 C dX8_soonest_22 (c_X8_isOver l E v sl m aS aW aL aT a1 a2 a3 aB) hl hG 0 rfl [0, 2] (by decide) rfl (ads := [m, aL]) rfl rfl (ws' := [(m, .inr (8, [.int (v 0), .int (v 1), .ref aS, .int (v 2), .int (v 3), .int (v 4), .ref aW, .int (v 5), .ref aL, .int (v 6), .int (v 7), .int (v 8), .ref aT, .int (v 9), .int (v 10), .int (v 11), .int (v 12), .ref a1, .ref a2, .ref a3, .ref aB, .int (v 13), .int (v 14)])), (aS, .inl (E.2.1.1, 12, .inl ms)), (aL, .inl (E.2.1.1, 156, .inl sl))]) rfl rfl (rest := []) rfl (Nat.le_of_ble_eq_true rfl) ⟨Nat.le_of_ble_eq_true rfl, Nat.le_of_ble_eq_true rfl⟩ (fun H locs hG => ?_)
      refine lv_if_eq (tgt := 31) hx hb dX8_soonest_25 (by decide) (fun c_3 => ?_) (fun c_3 => ?_)
      · skip
        refine lv_iconst (v := 1) hx hb dX8_soonest_31 (by decide) ?_
        refine lv_istore_n (lv' := [(3, .int 1), (0, .ref m), (1, .int p), (2, .int k_)]) hx hb dX8_soonest_32 rfl hl (by decide) rfl (fun ls hl => ?_)
        refine lv_iload_n hx hb dX8_soonest_33 rfl (lv_at hl 0 rfl) ?_
        refine lv_iconst (v := 5) hx hb dX8_soonest_34 (by decide) ?_
        refine lv_icmp_gt (tgt := 105) hx hb dX8_soonest_35 (by decide) (fun c_4 => absurd c_4 (by decide)) (fun c_4 => ?_)
        refine lv_iconst (v := 0) hx hb dX8_soonest_38 (by decide) ?_
        refine lv_istore (lv' := [(4, .int 0), (3, .int 1), (0, .ref m), (1, .int p), (2, .int k_)]) hx hb dX8_soonest_39 hl (by decide) rfl (fun ls hl => ?_)
        rw [O_X8_soonest, if_neg c_1, if_neg c_2, if_pos c_3] at hF
        have kt_0 : ∀ (j0 k0 : Nat), j0 + k0 = (5 ^ 1) → ∀ (u0_0 : Nat → Int32) (H : Heap) (locs : List Loc) (ls : Array Slot), (T_X8_soonest_0 v ms sl p k_ j0 k0 u0_0) = (rr, r0) → mB 1000000 (u0_0 11) → zG E zA zs.heap [(m, .inr (8, [.int (v 0), .int (v 1), .ref aS, .int (v 2), .int (v 3), .int (v 4), .ref aW, .int (v 5), .ref aL, .int (v 6), .int (v 7), .int (v 8), .ref aT, .int (v 9), .int (v 10), .int (v 11), .int (v 12), .ref a1, .ref a2, .ref a3, .ref aB, .int (v 13), .int (v 14)])), (aS, .inl (E.2.1.1, 12, .inl ms)), (aL, .inl (E.2.1.1, 156, .inl u0_0))] H locs → lv_has ls 5 [(4, .int (nI k0)), (3, .int 1), (0, .ref m), (1, .int p), (2, .int k_)] → W zp l ze (zR 6 145) zs zm za zb zt zc H locs 0 0 zq (F0 zm 41 ls []) := by
          clear hF
          intro j0
          induction j0 with
          | zero =>
            intro k0 hk0 u0_0 H locs ls hF hinv hG hl
            obtain rfl : k0 = (5 ^ 1) := by omega
            rw [T_X8_soonest_0] at hF
            refine lv_iload hx hb dX8_soonest_41 (lv_at hl 0 rfl) ?_
            refine lv_iload_n hx hb dX8_soonest_43 rfl (lv_at hl 1 rfl) ?_
            refine call_X8_185 C dX8_soonest_44 (c_X8_rowsOf_t l E 1 1 (by decide) rfl) hl hG [] (by decide) rfl (ads := []) rfl rfl (ws' := [(m, .inr (8, [.int (v 0), .int (v 1), .ref aS, .int (v 2), .int (v 3), .int (v 4), .ref aW, .int (v 5), .ref aL, .int (v 6), .int (v 7), .int (v 8), .ref aT, .int (v 9), .int (v 10), .int (v 11), .int (v 12), .ref a1, .ref a2, .ref a3, .ref aB, .int (v 13), .int (v 14)])), (aS, .inl (E.2.1.1, 12, .inl ms)), (aL, .inl (E.2.1.1, 156, .inl u0_0))]) rfl rfl (rest := [.int (nI (5 ^ 1))]) rfl (Nat.le_of_ble_eq_true rfl) ⟨Nat.le_of_ble_eq_true rfl, Nat.le_of_ble_eq_true rfl⟩ (fun H locs hG => ?_)
            refine lv_icmp_ge (tgt := 99) hx hb dX8_soonest_47 (by decide) (fun c_55 => ?_) (fun c_55 => absurd (z_ge_yes rfl) c_55)
            refine lv_iinc (v := 2) (lv' := [(3, .int 2), (4, .int (nI (5 ^ 1))), (0, .ref m), (1, .int p), (2, .int k_)]) hx hb dX8_soonest_99 hl (k := 1) rfl (by decide) (by decide) rfl (fun ls hl => ?_)
            refine lv_goto (tgt := 33) hx hb dX8_soonest_102 (by decide) ?_
            refine lv_iload_n hx hb dX8_soonest_33 rfl (lv_at hl 0 rfl) ?_
            refine lv_iconst (v := 5) hx hb dX8_soonest_34 (by decide) ?_
            refine lv_icmp_gt (tgt := 105) hx hb dX8_soonest_35 (by decide) (fun c_56 => absurd c_56 (by decide)) (fun c_56 => ?_)
            refine lv_iconst (v := 0) hx hb dX8_soonest_38 (by decide) ?_
            refine lv_istore (lv' := [(4, .int 0), (3, .int 2), (0, .ref m), (1, .int p), (2, .int k_)]) hx hb dX8_soonest_39 hl (by decide) rfl (fun ls hl => ?_)
            have kt_1 : ∀ (j1 k1 : Nat), j1 + k1 = (5 ^ 2) → ∀ (u1_0 : Nat → Int32) (H : Heap) (locs : List Loc) (ls : Array Slot), (T_X8_soonest_1 v ms sl p k_ j1 k1 u1_0) = (rr, r0) → mB 1000000 (u1_0 11) → zG E zA zs.heap [(m, .inr (8, [.int (v 0), .int (v 1), .ref aS, .int (v 2), .int (v 3), .int (v 4), .ref aW, .int (v 5), .ref aL, .int (v 6), .int (v 7), .int (v 8), .ref aT, .int (v 9), .int (v 10), .int (v 11), .int (v 12), .ref a1, .ref a2, .ref a3, .ref aB, .int (v 13), .int (v 14)])), (aS, .inl (E.2.1.1, 12, .inl ms)), (aL, .inl (E.2.1.1, 156, .inl u1_0))] H locs → lv_has ls 5 [(4, .int (nI k1)), (3, .int 2), (0, .ref m), (1, .int p), (2, .int k_)] → W zp l ze (zR 6 145) zs zm za zb zt zc H locs 0 0 zq (F0 zm 41 ls []) := by
              clear hF
              intro j1
              induction j1 with
              | zero =>
                intro k1 hk1 u1_0 H locs ls hF hinv hG hl
                obtain rfl : k1 = (5 ^ 2) := by omega
                rw [T_X8_soonest_1] at hF
                refine lv_iload hx hb dX8_soonest_41 (lv_at hl 0 rfl) ?_
                refine lv_iload_n hx hb dX8_soonest_43 rfl (lv_at hl 1 rfl) ?_
                refine call_X8_185 C dX8_soonest_44 (c_X8_rowsOf_t l E 2 2 (by decide) rfl) hl hG [] (by decide) rfl (ads := []) rfl rfl (ws' := [(m, .inr (8, [.int (v 0), .int (v 1), .ref aS, .int (v 2), .int (v 3), .int (v 4), .ref aW, .int (v 5), .ref aL, .int (v 6), .int (v 7), .int (v 8), .ref aT, .int (v 9), .int (v 10), .int (v 11), .int (v 12), .ref a1, .ref a2, .ref a3, .ref aB, .int (v 13), .int (v 14)])), (aS, .inl (E.2.1.1, 12, .inl ms)), (aL, .inl (E.2.1.1, 156, .inl u1_0))]) rfl rfl (rest := [.int (nI (5 ^ 2))]) rfl (Nat.le_of_ble_eq_true rfl) ⟨Nat.le_of_ble_eq_true rfl, Nat.le_of_ble_eq_true rfl⟩ (fun H locs hG => ?_)
                refine lv_icmp_ge (tgt := 99) hx hb dX8_soonest_47 (by decide) (fun c_97 => ?_) (fun c_97 => absurd (z_ge_yes rfl) c_97)
                refine lv_iinc (v := 3) (lv' := [(3, .int 3), (4, .int (nI (5 ^ 2))), (0, .ref m), (1, .int p), (2, .int k_)]) hx hb dX8_soonest_99 hl (k := 1) rfl (by decide) (by decide) rfl (fun ls hl => ?_)
                refine lv_goto (tgt := 33) hx hb dX8_soonest_102 (by decide) ?_
                refine lv_iload_n hx hb dX8_soonest_33 rfl (lv_at hl 0 rfl) ?_
                refine lv_iconst (v := 5) hx hb dX8_soonest_34 (by decide) ?_
                refine lv_icmp_gt (tgt := 105) hx hb dX8_soonest_35 (by decide) (fun c_98 => absurd c_98 (by decide)) (fun c_98 => ?_)
                refine lv_iconst (v := 0) hx hb dX8_soonest_38 (by decide) ?_
                refine lv_istore (lv' := [(4, .int 0), (3, .int 3), (0, .ref m), (1, .int p), (2, .int k_)]) hx hb dX8_soonest_39 hl (by decide) rfl (fun ls hl => ?_)
                have kt_2 : ∀ (j2 k2 : Nat), j2 + k2 = (5 ^ 3) → ∀ (u2_0 : Nat → Int32) (H : Heap) (locs : List Loc) (ls : Array Slot), (T_X8_soonest_2 v ms sl p k_ j2 k2 u2_0) = (rr, r0) → mB 1000000 (u2_0 11) → zG E zA zs.heap [(m, .inr (8, [.int (v 0), .int (v 1), .ref aS, .int (v 2), .int (v 3), .int (v 4), .ref aW, .int (v 5), .ref aL, .int (v 6), .int (v 7), .int (v 8), .ref aT, .int (v 9), .int (v 10), .int (v 11), .int (v 12), .ref a1, .ref a2, .ref a3, .ref aB, .int (v 13), .int (v 14)])), (aS, .inl (E.2.1.1, 12, .inl ms)), (aL, .inl (E.2.1.1, 156, .inl u2_0))] H locs → lv_has ls 5 [(4, .int (nI k2)), (3, .int 3), (0, .ref m), (1, .int p), (2, .int k_)] → W zp l ze (zR 6 145) zs zm za zb zt zc H locs 0 0 zq (F0 zm 41 ls []) := by
                  clear hF
                  intro j2
                  induction j2 with
                  | zero =>
                    intro k2 hk2 u2_0 H locs ls hF hinv hG hl
                    obtain rfl : k2 = (5 ^ 3) := by omega
                    rw [T_X8_soonest_2] at hF
                    refine lv_iload hx hb dX8_soonest_41 (lv_at hl 0 rfl) ?_
                    refine lv_iload_n hx hb dX8_soonest_43 rfl (lv_at hl 1 rfl) ?_
                    refine call_X8_185 C dX8_soonest_44 (c_X8_rowsOf_t l E 3 3 (by decide) rfl) hl hG [] (by decide) rfl (ads := []) rfl rfl (ws' := [(m, .inr (8, [.int (v 0), .int (v 1), .ref aS, .int (v 2), .int (v 3), .int (v 4), .ref aW, .int (v 5), .ref aL, .int (v 6), .int (v 7), .int (v 8), .ref aT, .int (v 9), .int (v 10), .int (v 11), .int (v 12), .ref a1, .ref a2, .ref a3, .ref aB, .int (v 13), .int (v 14)])), (aS, .inl (E.2.1.1, 12, .inl ms)), (aL, .inl (E.2.1.1, 156, .inl u2_0))]) rfl rfl (rest := [.int (nI (5 ^ 3))]) rfl (Nat.le_of_ble_eq_true rfl) ⟨Nat.le_of_ble_eq_true rfl, Nat.le_of_ble_eq_true rfl⟩ (fun H locs hG => ?_)
                    refine lv_icmp_ge (tgt := 99) hx hb dX8_soonest_47 (by decide) (fun c_129 => ?_) (fun c_129 => absurd (z_ge_yes rfl) c_129)
                    refine lv_iinc (v := 4) (lv' := [(3, .int 4), (4, .int (nI (5 ^ 3))), (0, .ref m), (1, .int p), (2, .int k_)]) hx hb dX8_soonest_99 hl (k := 1) rfl (by decide) (by decide) rfl (fun ls hl => ?_)
                    refine lv_goto (tgt := 33) hx hb dX8_soonest_102 (by decide) ?_
                    refine lv_iload_n hx hb dX8_soonest_33 rfl (lv_at hl 0 rfl) ?_
                    refine lv_iconst (v := 5) hx hb dX8_soonest_34 (by decide) ?_
                    refine lv_icmp_gt (tgt := 105) hx hb dX8_soonest_35 (by decide) (fun c_130 => absurd c_130 (by decide)) (fun c_130 => ?_)
                    refine lv_iconst (v := 0) hx hb dX8_soonest_38 (by decide) ?_
                    refine lv_istore (lv' := [(4, .int 0), (3, .int 4), (0, .ref m), (1, .int p), (2, .int k_)]) hx hb dX8_soonest_39 hl (by decide) rfl (fun ls hl => ?_)
                    have kt_3 : ∀ (j3 k3 : Nat), j3 + k3 = (5 ^ 4) → ∀ (u3_0 : Nat → Int32) (H : Heap) (locs : List Loc) (ls : Array Slot), (T_X8_soonest_3 v ms sl p k_ j3 k3 u3_0) = (rr, r0) → mB 1000000 (u3_0 11) → zG E zA zs.heap [(m, .inr (8, [.int (v 0), .int (v 1), .ref aS, .int (v 2), .int (v 3), .int (v 4), .ref aW, .int (v 5), .ref aL, .int (v 6), .int (v 7), .int (v 8), .ref aT, .int (v 9), .int (v 10), .int (v 11), .int (v 12), .ref a1, .ref a2, .ref a3, .ref aB, .int (v 13), .int (v 14)])), (aS, .inl (E.2.1.1, 12, .inl ms)), (aL, .inl (E.2.1.1, 156, .inl u3_0))] H locs → lv_has ls 5 [(4, .int (nI k3)), (3, .int 4), (0, .ref m), (1, .int p), (2, .int k_)] → W zp l ze (zR 6 145) zs zm za zb zt zc H locs 0 0 zq (F0 zm 41 ls []) := by
                      clear hF
                      intro j3
                      induction j3 with
                      | zero =>
                        intro k3 hk3 u3_0 H locs ls hF hinv hG hl
                        obtain rfl : k3 = (5 ^ 4) := by omega
                        rw [T_X8_soonest_3] at hF
                        refine lv_iload hx hb dX8_soonest_41 (lv_at hl 0 rfl) ?_
                        refine lv_iload_n hx hb dX8_soonest_43 rfl (lv_at hl 1 rfl) ?_
                        refine call_X8_185 C dX8_soonest_44 (c_X8_rowsOf_t l E 4 4 (by decide) rfl) hl hG [] (by decide) rfl (ads := []) rfl rfl (ws' := [(m, .inr (8, [.int (v 0), .int (v 1), .ref aS, .int (v 2), .int (v 3), .int (v 4), .ref aW, .int (v 5), .ref aL, .int (v 6), .int (v 7), .int (v 8), .ref aT, .int (v 9), .int (v 10), .int (v 11), .int (v 12), .ref a1, .ref a2, .ref a3, .ref aB, .int (v 13), .int (v 14)])), (aS, .inl (E.2.1.1, 12, .inl ms)), (aL, .inl (E.2.1.1, 156, .inl u3_0))]) rfl rfl (rest := [.int (nI (5 ^ 4))]) rfl (Nat.le_of_ble_eq_true rfl) ⟨Nat.le_of_ble_eq_true rfl, Nat.le_of_ble_eq_true rfl⟩ (fun H locs hG => ?_)
                        refine lv_icmp_ge (tgt := 99) hx hb dX8_soonest_47 (by decide) (fun c_151 => ?_) (fun c_151 => absurd (z_ge_yes rfl) c_151)
                        refine lv_iinc (v := 5) (lv' := [(3, .int 5), (4, .int (nI (5 ^ 4))), (0, .ref m), (1, .int p), (2, .int k_)]) hx hb dX8_soonest_99 hl (k := 1) rfl (by decide) (by decide) rfl (fun ls hl => ?_)
                        refine lv_goto (tgt := 33) hx hb dX8_soonest_102 (by decide) ?_
                        refine lv_iload_n hx hb dX8_soonest_33 rfl (lv_at hl 0 rfl) ?_
                        refine lv_iconst (v := 5) hx hb dX8_soonest_34 (by decide) ?_
                        refine lv_icmp_gt (tgt := 105) hx hb dX8_soonest_35 (by decide) (fun c_152 => absurd c_152 (by decide)) (fun c_152 => ?_)
                        refine lv_iconst (v := 0) hx hb dX8_soonest_38 (by decide) ?_
                        refine lv_istore (lv' := [(4, .int 0), (3, .int 5), (0, .ref m), (1, .int p), (2, .int k_)]) hx hb dX8_soonest_39 hl (by decide) rfl (fun ls hl => ?_)
                        have kt_4 : ∀ (j4 k4 : Nat), j4 + k4 = (5 ^ 5) → ∀ (u4_0 : Nat → Int32) (H : Heap) (locs : List Loc) (ls : Array Slot), (T_X8_soonest_4 v ms sl p k_ j4 k4 u4_0) = (rr, r0) → mB 1000000 (u4_0 11) → zG E zA zs.heap [(m, .inr (8, [.int (v 0), .int (v 1), .ref aS, .int (v 2), .int (v 3), .int (v 4), .ref aW, .int (v 5), .ref aL, .int (v 6), .int (v 7), .int (v 8), .ref aT, .int (v 9), .int (v 10), .int (v 11), .int (v 12), .ref a1, .ref a2, .ref a3, .ref aB, .int (v 13), .int (v 14)])), (aS, .inl (E.2.1.1, 12, .inl ms)), (aL, .inl (E.2.1.1, 156, .inl u4_0))] H locs → lv_has ls 5 [(4, .int (nI k4)), (3, .int 5), (0, .ref m), (1, .int p), (2, .int k_)] → W zp l ze (zR 6 145) zs zm za zb zt zc H locs 0 0 zq (F0 zm 41 ls []) := by
                          clear hF
                          intro j4
                          induction j4 with
                          | zero =>
                            intro k4 hk4 u4_0 H locs ls hF hinv hG hl
                            obtain rfl : k4 = (5 ^ 5) := by omega
                            rw [T_X8_soonest_4] at hF
                            refine lv_iload hx hb dX8_soonest_41 (lv_at hl 0 rfl) ?_
                            refine lv_iload_n hx hb dX8_soonest_43 rfl (lv_at hl 1 rfl) ?_
                            refine call_X8_185 C dX8_soonest_44 (c_X8_rowsOf_t l E 5 5 (by decide) rfl) hl hG [] (by decide) rfl (ads := []) rfl rfl (ws' := [(m, .inr (8, [.int (v 0), .int (v 1), .ref aS, .int (v 2), .int (v 3), .int (v 4), .ref aW, .int (v 5), .ref aL, .int (v 6), .int (v 7), .int (v 8), .ref aT, .int (v 9), .int (v 10), .int (v 11), .int (v 12), .ref a1, .ref a2, .ref a3, .ref aB, .int (v 13), .int (v 14)])), (aS, .inl (E.2.1.1, 12, .inl ms)), (aL, .inl (E.2.1.1, 156, .inl u4_0))]) rfl rfl (rest := [.int (nI (5 ^ 5))]) rfl (Nat.le_of_ble_eq_true rfl) ⟨Nat.le_of_ble_eq_true rfl, Nat.le_of_ble_eq_true rfl⟩ (fun H locs hG => ?_)
                            refine lv_icmp_ge (tgt := 99) hx hb dX8_soonest_47 (by decide) (fun c_163 => ?_) (fun c_163 => absurd (z_ge_yes rfl) c_163)
                            refine lv_iinc (v := 6) (lv' := [(3, .int 6), (4, .int (nI (5 ^ 5))), (0, .ref m), (1, .int p), (2, .int k_)]) hx hb dX8_soonest_99 hl (k := 1) rfl (by decide) (by decide) rfl (fun ls hl => ?_)
                            refine lv_goto (tgt := 33) hx hb dX8_soonest_102 (by decide) ?_
                            refine lv_iload_n hx hb dX8_soonest_33 rfl (lv_at hl 0 rfl) ?_
                            refine lv_iconst (v := 5) hx hb dX8_soonest_34 (by decide) ?_
                            refine lv_icmp_gt (tgt := 105) hx hb dX8_soonest_35 (by decide) (fun c_164 => ?_) (fun c_164 => absurd (by decide) c_164)
                            refine lv_bipush (v := (-4)) hx hb dX8_soonest_105 (by decide) ?_
                            cases hF
                            rw [hQ]
                            exact z_iret C hr hlk hG dX8_soonest_107 rfl rfl rfl
                          | succ j4 ih4 =>
                            intro k4 hk4 u4_0 H locs ls hF hinv hG hl
                            have hlt : k4 < (5 ^ 5) := by omega
                            rw [T_X8_soonest_4] at hF
                            refine lv_iload hx hb dX8_soonest_41 (lv_at hl 0 rfl) ?_
                            refine lv_iload_n hx hb dX8_soonest_43 rfl (lv_at hl 1 rfl) ?_
                            refine call_X8_185 C dX8_soonest_44 (c_X8_rowsOf_t l E 5 5 (by decide) rfl) hl hG [] (by decide) rfl (ads := []) rfl rfl (ws' := [(m, .inr (8, [.int (v 0), .int (v 1), .ref aS, .int (v 2), .int (v 3), .int (v 4), .ref aW, .int (v 5), .ref aL, .int (v 6), .int (v 7), .int (v 8), .ref aT, .int (v 9), .int (v 10), .int (v 11), .int (v 12), .ref a1, .ref a2, .ref a3, .ref aB, .int (v 13), .int (v 14)])), (aS, .inl (E.2.1.1, 12, .inl ms)), (aL, .inl (E.2.1.1, 156, .inl u4_0))]) rfl rfl (rest := [.int (nI k4)]) rfl (Nat.le_of_ble_eq_true rfl) ⟨Nat.le_of_ble_eq_true rfl, Nat.le_of_ble_eq_true rfl⟩ (fun H locs hG => ?_)
                            refine lv_icmp_ge (tgt := 99) hx hb dX8_soonest_47 (by decide) (fun c_165 => absurd c_165 (z_ge_no hlt (by decide) rfl)) (fun c_165 => ?_)
                            refine lv_aload_n hx hb dX8_soonest_50 rfl (lv_at hl 2 rfl) ?_
                            refine lv_iload_n hx hb dX8_soonest_51 rfl (lv_at hl 3 rfl) ?_
                            refine lv_iload hx hb dX8_soonest_52 (lv_at hl 0 rfl) ?_
                            refine lv_iload_n hx hb dX8_soonest_54 rfl (lv_at hl 1 rfl) ?_
                            refine lv_iconst (v := 0) hx hb dX8_soonest_55 (by decide) ?_
                            refine call_X8_188 C dX8_soonest_56 (c_X8_rows l E v ms u4_0 p (nI k4) 5 0 5 m aS aW aL aT a1 a2 a3 aB hinv (by decide) rfl) hl hG 0 rfl [0, 1, 2] (by decide) rfl (ads := [m, aS, aL]) rfl rfl (ws' := [(m, .inr (8, [.int (v 0), .int (v 1), .ref aS, .int (v 2), .int (v 3), .int (v 4), .ref aW, .int (v 5), .ref aL, .int (v 6), .int (v 7), .int (v 8), .ref aT, .int (v 9), .int (v 10), .int (v 11), .int (v 12), .ref a1, .ref a2, .ref a3, .ref aB, .int (v 13), .int (v 14)])), (aS, .inl (E.2.1.1, 12, .inl ms)), (aL, .inl (E.2.1.1, 156, .inl (o_X8_rows_2 v ms u4_0 p (nI k4) 5 0 5)))]) rfl rfl (rest := []) rfl (Nat.le_of_ble_eq_true rfl) ⟨Nat.le_of_ble_eq_true rfl, Nat.le_of_ble_eq_true rfl⟩ (fun H locs hG => ?_)
                            refine lv_iconst (v := 1) hx hb dX8_soonest_59 (by decide) ?_
                            refine lv_iload_n hx hb dX8_soonest_60 rfl (lv_at hl 3 rfl) ?_
                            refine lv_isub hx hb dX8_soonest_61 ?_
                            refine lv_icmp_ne (tgt := 93) hx hb dX8_soonest_62 (by decide) (fun c_166 => ?_) (fun c_166 => ?_)
                            · skip
                              refine lv_iinc (v := (nI (k4 + 1))) (lv' := [(4, .int (nI (k4 + 1))), (3, .int 5), (0, .ref m), (1, .int p), (2, .int k_)]) hx hb dX8_soonest_93 hl (k := 0) rfl (nI_1 _) (by decide) rfl (fun ls hl => ?_)
                              refine lv_goto (tgt := 41) hx hb dX8_soonest_96 (by decide) ?_
                              rw [if_neg c_166] at hF
                              exact ih4 (k4 + 1) (by omega) (o_X8_rows_2 v ms u4_0 p (nI k4) 5 0 5) _ _ _ hF (by rw [low_rows _ _ _ _ _ _ _ _ (by decide)]; exact hinv) hG (lv_sub hl [0, 1, 2, 3, 4] rfl)
                            · skip
                              refine lv_iload_n hx hb dX8_soonest_65 rfl (lv_at hl 4 rfl) ?_
                              refine lv_if_ne (tgt := 73) hx hb dX8_soonest_66 (by decide) (fun c_167 => ?_) (fun c_167 => ?_)
                              · skip
                                refine lv_iload_n hx hb dX8_soonest_73 rfl (lv_at hl 4 rfl) ?_
                                refine lv_iload_n hx hb dX8_soonest_74 rfl (lv_at hl 1 rfl) ?_
                                refine lv_icmp_le (tgt := 83) hx hb dX8_soonest_75 (by decide) (fun c_168 => ?_) (fun c_168 => ?_)
                                · skip
                                  refine lv_iload hx hb dX8_soonest_83 (lv_at hl 0 rfl) ?_
                                  refine lv_iload_n hx hb dX8_soonest_85 rfl (lv_at hl 1 rfl) ?_
                                  refine lv_iload_n hx hb dX8_soonest_86 rfl (lv_at hl 4 rfl) ?_
                                  refine lv_iconst (v := 1) hx hb dX8_soonest_87 (by decide) ?_
                                  refine lv_isub hx hb dX8_soonest_88 ?_
                                  refine call_X8_180 C dX8_soonest_89 (c_X8_doneIn l E (nI k4) 5 (k_ - 1) 5 ((k_ - 1).toNatClampNeg) (by decide) rfl (z_km1 (z_k5 c_167 c_2).1 (z_k5 c_167 c_2).2).1 (z_km1 (z_k5 c_167 c_2).1 (z_k5 c_167 c_2).2).2) hl hG [] (by decide) rfl (ads := []) rfl rfl (ws' := [(m, .inr (8, [.int (v 0), .int (v 1), .ref aS, .int (v 2), .int (v 3), .int (v 4), .ref aW, .int (v 5), .ref aL, .int (v 6), .int (v 7), .int (v 8), .ref aT, .int (v 9), .int (v 10), .int (v 11), .int (v 12), .ref a1, .ref a2, .ref a3, .ref aB, .int (v 13), .int (v 14)])), (aS, .inl (E.2.1.1, 12, .inl ms)), (aL, .inl (E.2.1.1, 156, .inl (o_X8_rows_2 v ms u4_0 p (nI k4) 5 0 5)))]) rfl rfl (rest := []) rfl (Nat.le_of_ble_eq_true rfl) ⟨Nat.le_of_ble_eq_true rfl, Nat.le_of_ble_eq_true rfl⟩ (fun H locs hG => ?_)
                                  rw [if_pos c_166, if_neg c_167, if_pos c_168] at hF
                                  cases hF
                                  rw [hQ]
                                  exact z_iret C hr hlk hG dX8_soonest_92 rfl rfl rfl
                                · skip
                                  refine lv_bipush (v := (-4)) hx hb dX8_soonest_78 (by decide) ?_
                                  refine lv_goto (tgt := 92) hx hb dX8_soonest_80 (by decide) ?_
                                  rw [if_pos c_166, if_neg c_167, if_neg c_168] at hF
                                  cases hF
                                  rw [hQ]
                                  exact z_iret C hr hlk hG dX8_soonest_92 rfl rfl rfl
                              · skip
                                refine lv_iload_n hx hb dX8_soonest_69 rfl (lv_at hl 1 rfl) ?_
                                refine lv_goto (tgt := 92) hx hb dX8_soonest_70 (by decide) ?_
                                rw [if_pos c_166, if_pos c_167] at hF
                                cases hF
                                rw [hQ]
                                exact z_iret C hr hlk hG dX8_soonest_92 rfl rfl rfl
                        exact kt_4 (5 ^ 5) 0 (by omega) u3_0 _ _ _ hF hinv hG (lv_sub hl [0, 1, 2, 3, 4] rfl)
                      | succ j3 ih3 =>
                        intro k3 hk3 u3_0 H locs ls hF hinv hG hl
                        have hlt : k3 < (5 ^ 4) := by omega
                        rw [T_X8_soonest_3] at hF
                        refine lv_iload hx hb dX8_soonest_41 (lv_at hl 0 rfl) ?_
                        refine lv_iload_n hx hb dX8_soonest_43 rfl (lv_at hl 1 rfl) ?_
                        refine call_X8_185 C dX8_soonest_44 (c_X8_rowsOf_t l E 4 4 (by decide) rfl) hl hG [] (by decide) rfl (ads := []) rfl rfl (ws' := [(m, .inr (8, [.int (v 0), .int (v 1), .ref aS, .int (v 2), .int (v 3), .int (v 4), .ref aW, .int (v 5), .ref aL, .int (v 6), .int (v 7), .int (v 8), .ref aT, .int (v 9), .int (v 10), .int (v 11), .int (v 12), .ref a1, .ref a2, .ref a3, .ref aB, .int (v 13), .int (v 14)])), (aS, .inl (E.2.1.1, 12, .inl ms)), (aL, .inl (E.2.1.1, 156, .inl u3_0))]) rfl rfl (rest := [.int (nI k3)]) rfl (Nat.le_of_ble_eq_true rfl) ⟨Nat.le_of_ble_eq_true rfl, Nat.le_of_ble_eq_true rfl⟩ (fun H locs hG => ?_)
                        refine lv_icmp_ge (tgt := 99) hx hb dX8_soonest_47 (by decide) (fun c_169 => absurd c_169 (z_ge_no hlt (by decide) rfl)) (fun c_169 => ?_)
                        refine lv_aload_n hx hb dX8_soonest_50 rfl (lv_at hl 2 rfl) ?_
                        refine lv_iload_n hx hb dX8_soonest_51 rfl (lv_at hl 3 rfl) ?_
                        refine lv_iload hx hb dX8_soonest_52 (lv_at hl 0 rfl) ?_
                        refine lv_iload_n hx hb dX8_soonest_54 rfl (lv_at hl 1 rfl) ?_
                        refine lv_iconst (v := 0) hx hb dX8_soonest_55 (by decide) ?_
                        refine call_X8_188 C dX8_soonest_56 (c_X8_rows l E v ms u3_0 p (nI k3) 4 0 4 m aS aW aL aT a1 a2 a3 aB hinv (by decide) rfl) hl hG 0 rfl [0, 1, 2] (by decide) rfl (ads := [m, aS, aL]) rfl rfl (ws' := [(m, .inr (8, [.int (v 0), .int (v 1), .ref aS, .int (v 2), .int (v 3), .int (v 4), .ref aW, .int (v 5), .ref aL, .int (v 6), .int (v 7), .int (v 8), .ref aT, .int (v 9), .int (v 10), .int (v 11), .int (v 12), .ref a1, .ref a2, .ref a3, .ref aB, .int (v 13), .int (v 14)])), (aS, .inl (E.2.1.1, 12, .inl ms)), (aL, .inl (E.2.1.1, 156, .inl (o_X8_rows_2 v ms u3_0 p (nI k3) 4 0 4)))]) rfl rfl (rest := []) rfl (Nat.le_of_ble_eq_true rfl) ⟨Nat.le_of_ble_eq_true rfl, Nat.le_of_ble_eq_true rfl⟩ (fun H locs hG => ?_)
                        refine lv_iconst (v := 1) hx hb dX8_soonest_59 (by decide) ?_
                        refine lv_iload_n hx hb dX8_soonest_60 rfl (lv_at hl 3 rfl) ?_
                        refine lv_isub hx hb dX8_soonest_61 ?_
                        refine lv_icmp_ne (tgt := 93) hx hb dX8_soonest_62 (by decide) (fun c_170 => ?_) (fun c_170 => ?_)
                        · skip
                          refine lv_iinc (v := (nI (k3 + 1))) (lv' := [(4, .int (nI (k3 + 1))), (3, .int 4), (0, .ref m), (1, .int p), (2, .int k_)]) hx hb dX8_soonest_93 hl (k := 0) rfl (nI_1 _) (by decide) rfl (fun ls hl => ?_)
                          refine lv_goto (tgt := 41) hx hb dX8_soonest_96 (by decide) ?_
                          rw [if_neg c_170] at hF
                          exact ih3 (k3 + 1) (by omega) (o_X8_rows_2 v ms u3_0 p (nI k3) 4 0 4) _ _ _ hF (by rw [low_rows _ _ _ _ _ _ _ _ (by decide)]; exact hinv) hG (lv_sub hl [0, 1, 2, 3, 4] rfl)
                        · skip
                          refine lv_iload_n hx hb dX8_soonest_65 rfl (lv_at hl 4 rfl) ?_
                          refine lv_if_ne (tgt := 73) hx hb dX8_soonest_66 (by decide) (fun c_171 => ?_) (fun c_171 => ?_)
                          · skip
                            refine lv_iload_n hx hb dX8_soonest_73 rfl (lv_at hl 4 rfl) ?_
                            refine lv_iload_n hx hb dX8_soonest_74 rfl (lv_at hl 1 rfl) ?_
                            refine lv_icmp_le (tgt := 83) hx hb dX8_soonest_75 (by decide) (fun c_172 => ?_) (fun c_172 => ?_)
                            · skip
                              refine lv_iload hx hb dX8_soonest_83 (lv_at hl 0 rfl) ?_
                              refine lv_iload_n hx hb dX8_soonest_85 rfl (lv_at hl 1 rfl) ?_
                              refine lv_iload_n hx hb dX8_soonest_86 rfl (lv_at hl 4 rfl) ?_
                              refine lv_iconst (v := 1) hx hb dX8_soonest_87 (by decide) ?_
                              refine lv_isub hx hb dX8_soonest_88 ?_
                              refine call_X8_180 C dX8_soonest_89 (c_X8_doneIn l E (nI k3) 4 (k_ - 1) 4 ((k_ - 1).toNatClampNeg) (by decide) rfl (z_km1 (z_k5 c_171 c_2).1 (z_k5 c_171 c_2).2).1 (z_km1 (z_k5 c_171 c_2).1 (z_k5 c_171 c_2).2).2) hl hG [] (by decide) rfl (ads := []) rfl rfl (ws' := [(m, .inr (8, [.int (v 0), .int (v 1), .ref aS, .int (v 2), .int (v 3), .int (v 4), .ref aW, .int (v 5), .ref aL, .int (v 6), .int (v 7), .int (v 8), .ref aT, .int (v 9), .int (v 10), .int (v 11), .int (v 12), .ref a1, .ref a2, .ref a3, .ref aB, .int (v 13), .int (v 14)])), (aS, .inl (E.2.1.1, 12, .inl ms)), (aL, .inl (E.2.1.1, 156, .inl (o_X8_rows_2 v ms u3_0 p (nI k3) 4 0 4)))]) rfl rfl (rest := []) rfl (Nat.le_of_ble_eq_true rfl) ⟨Nat.le_of_ble_eq_true rfl, Nat.le_of_ble_eq_true rfl⟩ (fun H locs hG => ?_)
                              rw [if_pos c_170, if_neg c_171, if_pos c_172] at hF
                              cases hF
                              rw [hQ]
                              exact z_iret C hr hlk hG dX8_soonest_92 rfl rfl rfl
                            · skip
                              refine lv_bipush (v := (-4)) hx hb dX8_soonest_78 (by decide) ?_
                              refine lv_goto (tgt := 92) hx hb dX8_soonest_80 (by decide) ?_
                              rw [if_pos c_170, if_neg c_171, if_neg c_172] at hF
                              cases hF
                              rw [hQ]
                              exact z_iret C hr hlk hG dX8_soonest_92 rfl rfl rfl
                          · skip
                            refine lv_iload_n hx hb dX8_soonest_69 rfl (lv_at hl 1 rfl) ?_
                            refine lv_goto (tgt := 92) hx hb dX8_soonest_70 (by decide) ?_
                            rw [if_pos c_170, if_pos c_171] at hF
                            cases hF
                            rw [hQ]
                            exact z_iret C hr hlk hG dX8_soonest_92 rfl rfl rfl
                    exact kt_3 (5 ^ 4) 0 (by omega) u2_0 _ _ _ hF hinv hG (lv_sub hl [0, 1, 2, 3, 4] rfl)
                  | succ j2 ih2 =>
                    intro k2 hk2 u2_0 H locs ls hF hinv hG hl
                    have hlt : k2 < (5 ^ 3) := by omega
                    rw [T_X8_soonest_2] at hF
                    refine lv_iload hx hb dX8_soonest_41 (lv_at hl 0 rfl) ?_
                    refine lv_iload_n hx hb dX8_soonest_43 rfl (lv_at hl 1 rfl) ?_
                    refine call_X8_185 C dX8_soonest_44 (c_X8_rowsOf_t l E 3 3 (by decide) rfl) hl hG [] (by decide) rfl (ads := []) rfl rfl (ws' := [(m, .inr (8, [.int (v 0), .int (v 1), .ref aS, .int (v 2), .int (v 3), .int (v 4), .ref aW, .int (v 5), .ref aL, .int (v 6), .int (v 7), .int (v 8), .ref aT, .int (v 9), .int (v 10), .int (v 11), .int (v 12), .ref a1, .ref a2, .ref a3, .ref aB, .int (v 13), .int (v 14)])), (aS, .inl (E.2.1.1, 12, .inl ms)), (aL, .inl (E.2.1.1, 156, .inl u2_0))]) rfl rfl (rest := [.int (nI k2)]) rfl (Nat.le_of_ble_eq_true rfl) ⟨Nat.le_of_ble_eq_true rfl, Nat.le_of_ble_eq_true rfl⟩ (fun H locs hG => ?_)
                    refine lv_icmp_ge (tgt := 99) hx hb dX8_soonest_47 (by decide) (fun c_173 => absurd c_173 (z_ge_no hlt (by decide) rfl)) (fun c_173 => ?_)
                    refine lv_aload_n hx hb dX8_soonest_50 rfl (lv_at hl 2 rfl) ?_
                    refine lv_iload_n hx hb dX8_soonest_51 rfl (lv_at hl 3 rfl) ?_
                    refine lv_iload hx hb dX8_soonest_52 (lv_at hl 0 rfl) ?_
                    refine lv_iload_n hx hb dX8_soonest_54 rfl (lv_at hl 1 rfl) ?_
                    refine lv_iconst (v := 0) hx hb dX8_soonest_55 (by decide) ?_
                    refine call_X8_188 C dX8_soonest_56 (c_X8_rows l E v ms u2_0 p (nI k2) 3 0 3 m aS aW aL aT a1 a2 a3 aB hinv (by decide) rfl) hl hG 0 rfl [0, 1, 2] (by decide) rfl (ads := [m, aS, aL]) rfl rfl (ws' := [(m, .inr (8, [.int (v 0), .int (v 1), .ref aS, .int (v 2), .int (v 3), .int (v 4), .ref aW, .int (v 5), .ref aL, .int (v 6), .int (v 7), .int (v 8), .ref aT, .int (v 9), .int (v 10), .int (v 11), .int (v 12), .ref a1, .ref a2, .ref a3, .ref aB, .int (v 13), .int (v 14)])), (aS, .inl (E.2.1.1, 12, .inl ms)), (aL, .inl (E.2.1.1, 156, .inl (o_X8_rows_2 v ms u2_0 p (nI k2) 3 0 3)))]) rfl rfl (rest := []) rfl (Nat.le_of_ble_eq_true rfl) ⟨Nat.le_of_ble_eq_true rfl, Nat.le_of_ble_eq_true rfl⟩ (fun H locs hG => ?_)
                    refine lv_iconst (v := 1) hx hb dX8_soonest_59 (by decide) ?_
                    refine lv_iload_n hx hb dX8_soonest_60 rfl (lv_at hl 3 rfl) ?_
                    refine lv_isub hx hb dX8_soonest_61 ?_
                    refine lv_icmp_ne (tgt := 93) hx hb dX8_soonest_62 (by decide) (fun c_174 => ?_) (fun c_174 => ?_)
                    · skip
                      refine lv_iinc (v := (nI (k2 + 1))) (lv' := [(4, .int (nI (k2 + 1))), (3, .int 3), (0, .ref m), (1, .int p), (2, .int k_)]) hx hb dX8_soonest_93 hl (k := 0) rfl (nI_1 _) (by decide) rfl (fun ls hl => ?_)
                      refine lv_goto (tgt := 41) hx hb dX8_soonest_96 (by decide) ?_
                      rw [if_neg c_174] at hF
                      exact ih2 (k2 + 1) (by omega) (o_X8_rows_2 v ms u2_0 p (nI k2) 3 0 3) _ _ _ hF (by rw [low_rows _ _ _ _ _ _ _ _ (by decide)]; exact hinv) hG (lv_sub hl [0, 1, 2, 3, 4] rfl)
                    · skip
                      refine lv_iload_n hx hb dX8_soonest_65 rfl (lv_at hl 4 rfl) ?_
                      refine lv_if_ne (tgt := 73) hx hb dX8_soonest_66 (by decide) (fun c_175 => ?_) (fun c_175 => ?_)
                      · skip
                        refine lv_iload_n hx hb dX8_soonest_73 rfl (lv_at hl 4 rfl) ?_
                        refine lv_iload_n hx hb dX8_soonest_74 rfl (lv_at hl 1 rfl) ?_
                        refine lv_icmp_le (tgt := 83) hx hb dX8_soonest_75 (by decide) (fun c_176 => ?_) (fun c_176 => ?_)
                        · skip
                          refine lv_iload hx hb dX8_soonest_83 (lv_at hl 0 rfl) ?_
                          refine lv_iload_n hx hb dX8_soonest_85 rfl (lv_at hl 1 rfl) ?_
                          refine lv_iload_n hx hb dX8_soonest_86 rfl (lv_at hl 4 rfl) ?_
                          refine lv_iconst (v := 1) hx hb dX8_soonest_87 (by decide) ?_
                          refine lv_isub hx hb dX8_soonest_88 ?_
                          refine call_X8_180 C dX8_soonest_89 (c_X8_doneIn l E (nI k2) 3 (k_ - 1) 3 ((k_ - 1).toNatClampNeg) (by decide) rfl (z_km1 (z_k5 c_175 c_2).1 (z_k5 c_175 c_2).2).1 (z_km1 (z_k5 c_175 c_2).1 (z_k5 c_175 c_2).2).2) hl hG [] (by decide) rfl (ads := []) rfl rfl (ws' := [(m, .inr (8, [.int (v 0), .int (v 1), .ref aS, .int (v 2), .int (v 3), .int (v 4), .ref aW, .int (v 5), .ref aL, .int (v 6), .int (v 7), .int (v 8), .ref aT, .int (v 9), .int (v 10), .int (v 11), .int (v 12), .ref a1, .ref a2, .ref a3, .ref aB, .int (v 13), .int (v 14)])), (aS, .inl (E.2.1.1, 12, .inl ms)), (aL, .inl (E.2.1.1, 156, .inl (o_X8_rows_2 v ms u2_0 p (nI k2) 3 0 3)))]) rfl rfl (rest := []) rfl (Nat.le_of_ble_eq_true rfl) ⟨Nat.le_of_ble_eq_true rfl, Nat.le_of_ble_eq_true rfl⟩ (fun H locs hG => ?_)
                          rw [if_pos c_174, if_neg c_175, if_pos c_176] at hF
                          cases hF
                          rw [hQ]
                          exact z_iret C hr hlk hG dX8_soonest_92 rfl rfl rfl
                        · skip
                          refine lv_bipush (v := (-4)) hx hb dX8_soonest_78 (by decide) ?_
                          refine lv_goto (tgt := 92) hx hb dX8_soonest_80 (by decide) ?_
                          rw [if_pos c_174, if_neg c_175, if_neg c_176] at hF
                          cases hF
                          rw [hQ]
                          exact z_iret C hr hlk hG dX8_soonest_92 rfl rfl rfl
                      · skip
                        refine lv_iload_n hx hb dX8_soonest_69 rfl (lv_at hl 1 rfl) ?_
                        refine lv_goto (tgt := 92) hx hb dX8_soonest_70 (by decide) ?_
                        rw [if_pos c_174, if_pos c_175] at hF
                        cases hF
                        rw [hQ]
                        exact z_iret C hr hlk hG dX8_soonest_92 rfl rfl rfl
                exact kt_2 (5 ^ 3) 0 (by omega) u1_0 _ _ _ hF hinv hG (lv_sub hl [0, 1, 2, 3, 4] rfl)
              | succ j1 ih1 =>
                intro k1 hk1 u1_0 H locs ls hF hinv hG hl
                have hlt : k1 < (5 ^ 2) := by omega
                rw [T_X8_soonest_1] at hF
                refine lv_iload hx hb dX8_soonest_41 (lv_at hl 0 rfl) ?_
                refine lv_iload_n hx hb dX8_soonest_43 rfl (lv_at hl 1 rfl) ?_
                refine call_X8_185 C dX8_soonest_44 (c_X8_rowsOf_t l E 2 2 (by decide) rfl) hl hG [] (by decide) rfl (ads := []) rfl rfl (ws' := [(m, .inr (8, [.int (v 0), .int (v 1), .ref aS, .int (v 2), .int (v 3), .int (v 4), .ref aW, .int (v 5), .ref aL, .int (v 6), .int (v 7), .int (v 8), .ref aT, .int (v 9), .int (v 10), .int (v 11), .int (v 12), .ref a1, .ref a2, .ref a3, .ref aB, .int (v 13), .int (v 14)])), (aS, .inl (E.2.1.1, 12, .inl ms)), (aL, .inl (E.2.1.1, 156, .inl u1_0))]) rfl rfl (rest := [.int (nI k1)]) rfl (Nat.le_of_ble_eq_true rfl) ⟨Nat.le_of_ble_eq_true rfl, Nat.le_of_ble_eq_true rfl⟩ (fun H locs hG => ?_)
                refine lv_icmp_ge (tgt := 99) hx hb dX8_soonest_47 (by decide) (fun c_177 => absurd c_177 (z_ge_no hlt (by decide) rfl)) (fun c_177 => ?_)
                refine lv_aload_n hx hb dX8_soonest_50 rfl (lv_at hl 2 rfl) ?_
                refine lv_iload_n hx hb dX8_soonest_51 rfl (lv_at hl 3 rfl) ?_
                refine lv_iload hx hb dX8_soonest_52 (lv_at hl 0 rfl) ?_
                refine lv_iload_n hx hb dX8_soonest_54 rfl (lv_at hl 1 rfl) ?_
                refine lv_iconst (v := 0) hx hb dX8_soonest_55 (by decide) ?_
                refine call_X8_188 C dX8_soonest_56 (c_X8_rows l E v ms u1_0 p (nI k1) 2 0 2 m aS aW aL aT a1 a2 a3 aB hinv (by decide) rfl) hl hG 0 rfl [0, 1, 2] (by decide) rfl (ads := [m, aS, aL]) rfl rfl (ws' := [(m, .inr (8, [.int (v 0), .int (v 1), .ref aS, .int (v 2), .int (v 3), .int (v 4), .ref aW, .int (v 5), .ref aL, .int (v 6), .int (v 7), .int (v 8), .ref aT, .int (v 9), .int (v 10), .int (v 11), .int (v 12), .ref a1, .ref a2, .ref a3, .ref aB, .int (v 13), .int (v 14)])), (aS, .inl (E.2.1.1, 12, .inl ms)), (aL, .inl (E.2.1.1, 156, .inl (o_X8_rows_2 v ms u1_0 p (nI k1) 2 0 2)))]) rfl rfl (rest := []) rfl (Nat.le_of_ble_eq_true rfl) ⟨Nat.le_of_ble_eq_true rfl, Nat.le_of_ble_eq_true rfl⟩ (fun H locs hG => ?_)
                refine lv_iconst (v := 1) hx hb dX8_soonest_59 (by decide) ?_
                refine lv_iload_n hx hb dX8_soonest_60 rfl (lv_at hl 3 rfl) ?_
                refine lv_isub hx hb dX8_soonest_61 ?_
                refine lv_icmp_ne (tgt := 93) hx hb dX8_soonest_62 (by decide) (fun c_178 => ?_) (fun c_178 => ?_)
                · skip
                  refine lv_iinc (v := (nI (k1 + 1))) (lv' := [(4, .int (nI (k1 + 1))), (3, .int 2), (0, .ref m), (1, .int p), (2, .int k_)]) hx hb dX8_soonest_93 hl (k := 0) rfl (nI_1 _) (by decide) rfl (fun ls hl => ?_)
                  refine lv_goto (tgt := 41) hx hb dX8_soonest_96 (by decide) ?_
                  rw [if_neg c_178] at hF
                  exact ih1 (k1 + 1) (by omega) (o_X8_rows_2 v ms u1_0 p (nI k1) 2 0 2) _ _ _ hF (by rw [low_rows _ _ _ _ _ _ _ _ (by decide)]; exact hinv) hG (lv_sub hl [0, 1, 2, 3, 4] rfl)
                · skip
                  refine lv_iload_n hx hb dX8_soonest_65 rfl (lv_at hl 4 rfl) ?_
                  refine lv_if_ne (tgt := 73) hx hb dX8_soonest_66 (by decide) (fun c_179 => ?_) (fun c_179 => ?_)
                  · skip
                    refine lv_iload_n hx hb dX8_soonest_73 rfl (lv_at hl 4 rfl) ?_
                    refine lv_iload_n hx hb dX8_soonest_74 rfl (lv_at hl 1 rfl) ?_
                    refine lv_icmp_le (tgt := 83) hx hb dX8_soonest_75 (by decide) (fun c_180 => ?_) (fun c_180 => ?_)
                    · skip
                      refine lv_iload hx hb dX8_soonest_83 (lv_at hl 0 rfl) ?_
                      refine lv_iload_n hx hb dX8_soonest_85 rfl (lv_at hl 1 rfl) ?_
                      refine lv_iload_n hx hb dX8_soonest_86 rfl (lv_at hl 4 rfl) ?_
                      refine lv_iconst (v := 1) hx hb dX8_soonest_87 (by decide) ?_
                      refine lv_isub hx hb dX8_soonest_88 ?_
                      refine call_X8_180 C dX8_soonest_89 (c_X8_doneIn l E (nI k1) 2 (k_ - 1) 2 ((k_ - 1).toNatClampNeg) (by decide) rfl (z_km1 (z_k5 c_179 c_2).1 (z_k5 c_179 c_2).2).1 (z_km1 (z_k5 c_179 c_2).1 (z_k5 c_179 c_2).2).2) hl hG [] (by decide) rfl (ads := []) rfl rfl (ws' := [(m, .inr (8, [.int (v 0), .int (v 1), .ref aS, .int (v 2), .int (v 3), .int (v 4), .ref aW, .int (v 5), .ref aL, .int (v 6), .int (v 7), .int (v 8), .ref aT, .int (v 9), .int (v 10), .int (v 11), .int (v 12), .ref a1, .ref a2, .ref a3, .ref aB, .int (v 13), .int (v 14)])), (aS, .inl (E.2.1.1, 12, .inl ms)), (aL, .inl (E.2.1.1, 156, .inl (o_X8_rows_2 v ms u1_0 p (nI k1) 2 0 2)))]) rfl rfl (rest := []) rfl (Nat.le_of_ble_eq_true rfl) ⟨Nat.le_of_ble_eq_true rfl, Nat.le_of_ble_eq_true rfl⟩ (fun H locs hG => ?_)
                      rw [if_pos c_178, if_neg c_179, if_pos c_180] at hF
                      cases hF
                      rw [hQ]
                      exact z_iret C hr hlk hG dX8_soonest_92 rfl rfl rfl
                    · skip
                      refine lv_bipush (v := (-4)) hx hb dX8_soonest_78 (by decide) ?_
                      refine lv_goto (tgt := 92) hx hb dX8_soonest_80 (by decide) ?_
                      rw [if_pos c_178, if_neg c_179, if_neg c_180] at hF
                      cases hF
                      rw [hQ]
                      exact z_iret C hr hlk hG dX8_soonest_92 rfl rfl rfl
                  · skip
                    refine lv_iload_n hx hb dX8_soonest_69 rfl (lv_at hl 1 rfl) ?_
                    refine lv_goto (tgt := 92) hx hb dX8_soonest_70 (by decide) ?_
                    rw [if_pos c_178, if_pos c_179] at hF
                    cases hF
                    rw [hQ]
                    exact z_iret C hr hlk hG dX8_soonest_92 rfl rfl rfl
            exact kt_1 (5 ^ 2) 0 (by omega) u0_0 _ _ _ hF hinv hG (lv_sub hl [0, 1, 2, 3, 4] rfl)
          | succ j0 ih0 =>
            intro k0 hk0 u0_0 H locs ls hF hinv hG hl
            have hlt : k0 < (5 ^ 1) := by omega
            rw [T_X8_soonest_0] at hF
            refine lv_iload hx hb dX8_soonest_41 (lv_at hl 0 rfl) ?_
            refine lv_iload_n hx hb dX8_soonest_43 rfl (lv_at hl 1 rfl) ?_
            refine call_X8_185 C dX8_soonest_44 (c_X8_rowsOf_t l E 1 1 (by decide) rfl) hl hG [] (by decide) rfl (ads := []) rfl rfl (ws' := [(m, .inr (8, [.int (v 0), .int (v 1), .ref aS, .int (v 2), .int (v 3), .int (v 4), .ref aW, .int (v 5), .ref aL, .int (v 6), .int (v 7), .int (v 8), .ref aT, .int (v 9), .int (v 10), .int (v 11), .int (v 12), .ref a1, .ref a2, .ref a3, .ref aB, .int (v 13), .int (v 14)])), (aS, .inl (E.2.1.1, 12, .inl ms)), (aL, .inl (E.2.1.1, 156, .inl u0_0))]) rfl rfl (rest := [.int (nI k0)]) rfl (Nat.le_of_ble_eq_true rfl) ⟨Nat.le_of_ble_eq_true rfl, Nat.le_of_ble_eq_true rfl⟩ (fun H locs hG => ?_)
            refine lv_icmp_ge (tgt := 99) hx hb dX8_soonest_47 (by decide) (fun c_181 => absurd c_181 (z_ge_no hlt (by decide) rfl)) (fun c_181 => ?_)
            refine lv_aload_n hx hb dX8_soonest_50 rfl (lv_at hl 2 rfl) ?_
            refine lv_iload_n hx hb dX8_soonest_51 rfl (lv_at hl 3 rfl) ?_
            refine lv_iload hx hb dX8_soonest_52 (lv_at hl 0 rfl) ?_
            refine lv_iload_n hx hb dX8_soonest_54 rfl (lv_at hl 1 rfl) ?_
            refine lv_iconst (v := 0) hx hb dX8_soonest_55 (by decide) ?_
            refine call_X8_188 C dX8_soonest_56 (c_X8_rows l E v ms u0_0 p (nI k0) 1 0 1 m aS aW aL aT a1 a2 a3 aB hinv (by decide) rfl) hl hG 0 rfl [0, 1, 2] (by decide) rfl (ads := [m, aS, aL]) rfl rfl (ws' := [(m, .inr (8, [.int (v 0), .int (v 1), .ref aS, .int (v 2), .int (v 3), .int (v 4), .ref aW, .int (v 5), .ref aL, .int (v 6), .int (v 7), .int (v 8), .ref aT, .int (v 9), .int (v 10), .int (v 11), .int (v 12), .ref a1, .ref a2, .ref a3, .ref aB, .int (v 13), .int (v 14)])), (aS, .inl (E.2.1.1, 12, .inl ms)), (aL, .inl (E.2.1.1, 156, .inl (o_X8_rows_2 v ms u0_0 p (nI k0) 1 0 1)))]) rfl rfl (rest := []) rfl (Nat.le_of_ble_eq_true rfl) ⟨Nat.le_of_ble_eq_true rfl, Nat.le_of_ble_eq_true rfl⟩ (fun H locs hG => ?_)
            refine lv_iconst (v := 1) hx hb dX8_soonest_59 (by decide) ?_
            refine lv_iload_n hx hb dX8_soonest_60 rfl (lv_at hl 3 rfl) ?_
            refine lv_isub hx hb dX8_soonest_61 ?_
            refine lv_icmp_ne (tgt := 93) hx hb dX8_soonest_62 (by decide) (fun c_182 => ?_) (fun c_182 => ?_)
            · skip
              refine lv_iinc (v := (nI (k0 + 1))) (lv' := [(4, .int (nI (k0 + 1))), (3, .int 1), (0, .ref m), (1, .int p), (2, .int k_)]) hx hb dX8_soonest_93 hl (k := 0) rfl (nI_1 _) (by decide) rfl (fun ls hl => ?_)
              refine lv_goto (tgt := 41) hx hb dX8_soonest_96 (by decide) ?_
              rw [if_neg c_182] at hF
              exact ih0 (k0 + 1) (by omega) (o_X8_rows_2 v ms u0_0 p (nI k0) 1 0 1) _ _ _ hF (by rw [low_rows _ _ _ _ _ _ _ _ (by decide)]; exact hinv) hG (lv_sub hl [0, 1, 2, 3, 4] rfl)
            · skip
              refine lv_iload_n hx hb dX8_soonest_65 rfl (lv_at hl 4 rfl) ?_
              refine lv_if_ne (tgt := 73) hx hb dX8_soonest_66 (by decide) (fun c_183 => ?_) (fun c_183 => ?_)
              · skip
                refine lv_iload_n hx hb dX8_soonest_73 rfl (lv_at hl 4 rfl) ?_
                refine lv_iload_n hx hb dX8_soonest_74 rfl (lv_at hl 1 rfl) ?_
                refine lv_icmp_le (tgt := 83) hx hb dX8_soonest_75 (by decide) (fun c_184 => ?_) (fun c_184 => ?_)
                · skip
                  refine lv_iload hx hb dX8_soonest_83 (lv_at hl 0 rfl) ?_
                  refine lv_iload_n hx hb dX8_soonest_85 rfl (lv_at hl 1 rfl) ?_
                  refine lv_iload_n hx hb dX8_soonest_86 rfl (lv_at hl 4 rfl) ?_
                  refine lv_iconst (v := 1) hx hb dX8_soonest_87 (by decide) ?_
                  refine lv_isub hx hb dX8_soonest_88 ?_
                  refine call_X8_180 C dX8_soonest_89 (c_X8_doneIn l E (nI k0) 1 (k_ - 1) 1 ((k_ - 1).toNatClampNeg) (by decide) rfl (z_km1 (z_k5 c_183 c_2).1 (z_k5 c_183 c_2).2).1 (z_km1 (z_k5 c_183 c_2).1 (z_k5 c_183 c_2).2).2) hl hG [] (by decide) rfl (ads := []) rfl rfl (ws' := [(m, .inr (8, [.int (v 0), .int (v 1), .ref aS, .int (v 2), .int (v 3), .int (v 4), .ref aW, .int (v 5), .ref aL, .int (v 6), .int (v 7), .int (v 8), .ref aT, .int (v 9), .int (v 10), .int (v 11), .int (v 12), .ref a1, .ref a2, .ref a3, .ref aB, .int (v 13), .int (v 14)])), (aS, .inl (E.2.1.1, 12, .inl ms)), (aL, .inl (E.2.1.1, 156, .inl (o_X8_rows_2 v ms u0_0 p (nI k0) 1 0 1)))]) rfl rfl (rest := []) rfl (Nat.le_of_ble_eq_true rfl) ⟨Nat.le_of_ble_eq_true rfl, Nat.le_of_ble_eq_true rfl⟩ (fun H locs hG => ?_)
                  rw [if_pos c_182, if_neg c_183, if_pos c_184] at hF
                  cases hF
                  rw [hQ]
                  exact z_iret C hr hlk hG dX8_soonest_92 rfl rfl rfl
                · skip
                  refine lv_bipush (v := (-4)) hx hb dX8_soonest_78 (by decide) ?_
                  refine lv_goto (tgt := 92) hx hb dX8_soonest_80 (by decide) ?_
                  rw [if_pos c_182, if_neg c_183, if_neg c_184] at hF
                  cases hF
                  rw [hQ]
                  exact z_iret C hr hlk hG dX8_soonest_92 rfl rfl rfl
              · skip
                refine lv_iload_n hx hb dX8_soonest_69 rfl (lv_at hl 1 rfl) ?_
                refine lv_goto (tgt := 92) hx hb dX8_soonest_70 (by decide) ?_
                rw [if_pos c_182, if_pos c_183] at hF
                cases hF
                rw [hQ]
                exact z_iret C hr hlk hG dX8_soonest_92 rfl rfl rfl
        exact kt_0 (5 ^ 1) 0 (by omega) sl _ _ _ hF hB hG (lv_sub hl [0, 1, 2, 3, 4] rfl)
      · skip
        refine lv_bipush (v := (-2)) hx hb dX8_soonest_28 (by decide) ?_
        rw [O_X8_soonest, if_neg c_1, if_neg c_2, if_neg c_3] at hF
        cases hF
        rw [hQ]
        exact z_iret C hr hlk hG dX8_soonest_30 rfl rfl rfl
    · skip
      refine lv_iconst (v := (-1)) hx hb dX8_soonest_19 (by decide) ?_
      rw [O_X8_soonest, if_neg c_1, if_pos c_2] at hF
      cases hF
      rw [hQ]
      exact z_iret C hr hlk hG dX8_soonest_20 rfl rfl rfl
def j_X8_folds_0_0_0 (v : Nat → Int32) (bs : Nat → Int32) (x_ : Int32) : Int32 := (if x_ ≤ (bs 0) then 0 else 1)
def j_X8_folds_0_1_0 (v : Nat → Int32) (bs : Nat → Int32) (x_ : Int32) : Int32 := (if (j_X8_folds_0_0_0 v bs x_) = 0 then (bs 0) else x_)
def o_X8_folds_0_1 (v : Nat → Int32) (bs : Nat → Int32) (x_ : Int32) : Nat → Int32 := (upd bs 0 (j_X8_folds_0_1_0 v bs x_))
set_option maxRecDepth 100000 in
set_option maxHeartbeats 4000000 in
theorem c_X8_folds_0 (l : Launch) (E : zE) (v : Nat → Int32) (bs : Nat → Int32) (x_ : Int32) (m aS aW aL aT a1 a2 a3 aB : Nat) : HM l E yX8_folds cX8_folds 4 none 0 0 [.ref m, .int 0, .int x_] [(m, .inr (8, [.int (v 0), .int (v 1), .ref aS, .int (v 2), .int (v 3), .int (v 4), .ref aW, .int (v 5), .ref aL, .int (v 6), .int (v 7), .int (v 8), .ref aT, .int (v 9), .int (v 10), .int (v 11), .int (v 12), .ref a1, .ref a2, .ref a3, .ref aB, .int (v 13), .int (v 14)])), (aB, .inl (E.2.1.1, 6, .inl bs))] none [(m, .inr (8, [.int (v 0), .int (v 1), .ref aS, .int (v 2), .int (v 3), .int (v 4), .ref aW, .int (v 5), .ref aL, .int (v 6), .int (v 7), .int (v 8), .ref aT, .int (v 9), .int (v 10), .int (v 11), .int (v 12), .ref a1, .ref a2, .ref a3, .ref aB, .int (v 13), .int (v 14)])), (aB, .inl (E.2.1.1, 6, .inl (o_X8_folds_0_1 v bs x_)))] := by
  refine HM.of (own := RX8) (plainFor_of_name (by decide)) rfl (Nat.le_of_ble_eq_true rfl) ?_
  intro zp ze zs zm za zb zt zc zA ls H locs zq C hr hlk hG hl hQ
  have hx := C.1.1
  have hb := C.1.2.1
  replace hl : lv_has ls 4 [(0, .ref m), (1, .int 0), (2, .int x_)] := hl
  refine lv_iload_n hx hb dX8_folds_0 rfl (lv_at hl 1 rfl) ?_
  refine lv_iconst (v := 2) hx hb dX8_folds_1 (by decide) ?_
  refine lv_irem hx hb dX8_folds_2 (by decide) ?_
  refine z_ti (y := 0) (by decide) ?_
  refine lv_if_ne (tgt := 24) hx hb dX8_folds_3 (by decide) (fun c_1 => absurd (by decide) c_1) (fun c_1 => ?_)
  refine lv_iload_n hx hb dX8_folds_6 rfl (lv_at hl 2 rfl) ?_
  refine lv_aload_n hx hb dX8_folds_7 rfl (lv_at hl 0 rfl) ?_
  refine gf_X8_32 C dX8_folds_8 hG 0 rfl rfl ?_
  refine lv_iload_n hx hb dX8_folds_11 rfl (lv_at hl 1 rfl) ?_
  refine z_ild C dX8_folds_12 hG 1 rfl 0 (by decide) (Nat.le_of_ble_eq_true rfl) (Nat.le_of_ble_eq_true rfl) ?_
  have k_0 : ∀ (y0_0 : Int32) (H : Heap) (locs : List Loc) (ls : Array Slot), (j_X8_folds_0_0_0 v bs x_) = y0_0 → zG E zA zs.heap [(m, .inr (8, [.int (v 0), .int (v 1), .ref aS, .int (v 2), .int (v 3), .int (v 4), .ref aW, .int (v 5), .ref aL, .int (v 6), .int (v 7), .int (v 8), .ref aT, .int (v 9), .int (v 10), .int (v 11), .int (v 12), .ref a1, .ref a2, .ref a3, .ref aB, .int (v 13), .int (v 14)])), (aB, .inl (E.2.1.1, 6, .inl bs))] H locs → lv_has ls 4 [(0, .ref m), (1, .int 0), (2, .int x_)] → W zp l ze (zR 0 0) zs zm za zb zt zc H locs 0 0 zq (F0 zm 39 ls [.int y0_0]) := by
    intro y0_0 H locs ls e_y0_0 hG hl
    subst e_y0_0
    refine lv_istore_n (lv' := [(3, .int (j_X8_folds_0_0_0 v bs x_)), (0, .ref m), (1, .int 0), (2, .int x_)]) hx hb dX8_folds_39 rfl hl (by decide) rfl (fun ls hl => ?_)
    refine lv_aload_n hx hb dX8_folds_40 rfl (lv_at hl 1 rfl) ?_
    refine gf_X8_32 C dX8_folds_41 hG 0 rfl rfl ?_
    refine lv_iload_n hx hb dX8_folds_44 rfl (lv_at hl 2 rfl) ?_
    refine lv_iload_n hx hb dX8_folds_45 rfl (lv_at hl 0 rfl) ?_
    have k_1 : ∀ (y1_0 : Int32) (H : Heap) (locs : List Loc) (ls : Array Slot), (j_X8_folds_0_1_0 v bs x_) = y1_0 → zG E zA zs.heap [(m, .inr (8, [.int (v 0), .int (v 1), .ref aS, .int (v 2), .int (v 3), .int (v 4), .ref aW, .int (v 5), .ref aL, .int (v 6), .int (v 7), .int (v 8), .ref aT, .int (v 9), .int (v 10), .int (v 11), .int (v 12), .ref a1, .ref a2, .ref a3, .ref aB, .int (v 13), .int (v 14)])), (aB, .inl (E.2.1.1, 6, .inl bs))] H locs → lv_has ls 4 [(3, .int (j_X8_folds_0_0_0 v bs x_)), (0, .ref m), (1, .int 0), (2, .int x_)] → W zp l ze (zR 0 0) zs zm za zb zt zc H locs 0 0 zq (F0 zm 59 ls [.int y1_0, .int 0, .ref aB]) := by
      intro y1_0 H locs ls e_y1_0 hG hl
      subst e_y1_0
      refine z_ist C dX8_folds_59 hG 1 rfl 0 (by decide) (Nat.le_of_ble_eq_true rfl) (Nat.le_of_ble_eq_true rfl) (ws' := [(m, .inr (8, [.int (v 0), .int (v 1), .ref aS, .int (v 2), .int (v 3), .int (v 4), .ref aW, .int (v 5), .ref aL, .int (v 6), .int (v 7), .int (v 8), .ref aT, .int (v 9), .int (v 10), .int (v 11), .int (v 12), .ref a1, .ref a2, .ref a3, .ref aB, .int (v 13), .int (v 14)])), (aB, .inl (E.2.1.1, 6, .inl (upd bs 0 (j_X8_folds_0_1_0 v bs x_))))]) rfl (fun H locs hG => ?_)
      rw [hQ]
      exact z_vret C hr hlk hG dX8_folds_60 rfl (by rw [o_X8_folds_0_1])
    refine lv_if_eq (tgt := 53) hx hb dX8_folds_46 (by decide) (fun c_3 => ?_) (fun c_3 => ?_)
    · skip
      refine lv_aload_n hx hb dX8_folds_53 rfl (lv_at hl 1 rfl) ?_
      refine gf_X8_32 C dX8_folds_54 hG 0 rfl rfl ?_
      refine lv_iload_n hx hb dX8_folds_57 rfl (lv_at hl 2 rfl) ?_
      refine z_ild C dX8_folds_58 hG 1 rfl 0 (by decide) (Nat.le_of_ble_eq_true rfl) (Nat.le_of_ble_eq_true rfl) ?_
      exact k_1 (bs 0) _ _ _ (by rw [j_X8_folds_0_1_0, if_pos c_3]) hG (lv_sub hl [0, 1, 2, 3] rfl)
    · skip
      refine lv_iload_n hx hb dX8_folds_49 rfl (lv_at hl 3 rfl) ?_
      refine lv_goto (tgt := 59) hx hb dX8_folds_50 (by decide) ?_
      exact k_1 x_ _ _ _ (by rw [j_X8_folds_0_1_0, if_neg c_3]) hG (lv_sub hl [0, 1, 2, 3] rfl)
  refine lv_icmp_le (tgt := 20) hx hb dX8_folds_13 (by decide) (fun c_2 => ?_) (fun c_2 => ?_)
  · skip
    refine lv_iconst (v := 0) hx hb dX8_folds_20 (by decide) ?_
    refine lv_goto (tgt := 39) hx hb dX8_folds_21 (by decide) ?_
    exact k_0 0 _ _ _ (by rw [j_X8_folds_0_0_0, if_pos c_2]) hG (lv_sub hl [0, 1, 2] rfl)
  · skip
    refine lv_iconst (v := 1) hx hb dX8_folds_16 (by decide) ?_
    refine lv_goto (tgt := 39) hx hb dX8_folds_17 (by decide) ?_
    exact k_0 1 _ _ _ (by rw [j_X8_folds_0_0_0, if_neg c_2]) hG (lv_sub hl [0, 1, 2] rfl)
def o_X8_forgets_0_1 (v : Nat → Int32) (bs : Nat → Int32) : Nat → Int32 := (upd bs 0 (-9999))
set_option maxRecDepth 100000 in
set_option maxHeartbeats 4000000 in
theorem c_X8_forgets_0 (l : Launch) (E : zE) (v : Nat → Int32) (bs : Nat → Int32) (m aS aW aL aT a1 a2 a3 aB : Nat) : HM l E yX8_forgets cX8_forgets 2 none 0 0 [.ref m, .int 0] [(m, .inr (8, [.int (v 0), .int (v 1), .ref aS, .int (v 2), .int (v 3), .int (v 4), .ref aW, .int (v 5), .ref aL, .int (v 6), .int (v 7), .int (v 8), .ref aT, .int (v 9), .int (v 10), .int (v 11), .int (v 12), .ref a1, .ref a2, .ref a3, .ref aB, .int (v 13), .int (v 14)])), (aB, .inl (E.2.1.1, 6, .inl bs))] none [(m, .inr (8, [.int (v 0), .int (v 1), .ref aS, .int (v 2), .int (v 3), .int (v 4), .ref aW, .int (v 5), .ref aL, .int (v 6), .int (v 7), .int (v 8), .ref aT, .int (v 9), .int (v 10), .int (v 11), .int (v 12), .ref a1, .ref a2, .ref a3, .ref aB, .int (v 13), .int (v 14)])), (aB, .inl (E.2.1.1, 6, .inl (o_X8_forgets_0_1 v bs)))] := by
  refine HM.of (own := RX8) (plainFor_of_name (by decide)) rfl (Nat.le_of_ble_eq_true rfl) ?_
  intro zp ze zs zm za zb zt zc zA ls H locs zq C hr hlk hG hl hQ
  have hx := C.1.1
  have hb := C.1.2.1
  replace hl : lv_has ls 2 [(0, .ref m), (1, .int 0)] := hl
  refine lv_aload_n hx hb dX8_forgets_0 rfl (lv_at hl 0 rfl) ?_
  refine gf_X8_32 C dX8_forgets_1 hG 0 rfl rfl ?_
  refine lv_iload_n hx hb dX8_forgets_4 rfl (lv_at hl 1 rfl) ?_
  refine lv_iload_n hx hb dX8_forgets_5 rfl (lv_at hl 1 rfl) ?_
  refine lv_iconst (v := 2) hx hb dX8_forgets_6 (by decide) ?_
  refine lv_irem hx hb dX8_forgets_7 (by decide) ?_
  refine z_ti (y := 0) (by decide) ?_
  refine lv_if_ne (tgt := 17) hx hb dX8_forgets_8 (by decide) (fun c_1 => absurd (by decide) c_1) (fun c_1 => ?_)
  refine lv_sipush (v := (-9999)) hx hb dX8_forgets_11 (by decide) ?_
  refine lv_goto (tgt := 20) hx hb dX8_forgets_14 (by decide) ?_
  refine z_ist C dX8_forgets_20 hG 1 rfl 0 (by decide) (Nat.le_of_ble_eq_true rfl) (Nat.le_of_ble_eq_true rfl) (ws' := [(m, .inr (8, [.int (v 0), .int (v 1), .ref aS, .int (v 2), .int (v 3), .int (v 4), .ref aW, .int (v 5), .ref aL, .int (v 6), .int (v 7), .int (v 8), .ref aT, .int (v 9), .int (v 10), .int (v 11), .int (v 12), .ref a1, .ref a2, .ref a3, .ref aB, .int (v 13), .int (v 14)])), (aB, .inl (E.2.1.1, 6, .inl (upd bs 0 (-9999))))]) rfl (fun H locs hG => ?_)
  rw [hQ]
  exact z_vret C hr hlk hG dX8_forgets_21 rfl (by rw [o_X8_forgets_0_1])
def j_X8_folds_1_0_0 (v : Nat → Int32) (bs : Nat → Int32) (x_ : Int32) : Int32 := (if (bs 1) ≤ x_ then 0 else 1)
def j_X8_folds_1_1_0 (v : Nat → Int32) (bs : Nat → Int32) (x_ : Int32) : Int32 := (if (j_X8_folds_1_0_0 v bs x_) = 0 then (bs 1) else x_)
def o_X8_folds_1_1 (v : Nat → Int32) (bs : Nat → Int32) (x_ : Int32) : Nat → Int32 := (upd bs 1 (j_X8_folds_1_1_0 v bs x_))
set_option maxRecDepth 100000 in
set_option maxHeartbeats 4000000 in
theorem c_X8_folds_1 (l : Launch) (E : zE) (v : Nat → Int32) (bs : Nat → Int32) (x_ : Int32) (m aS aW aL aT a1 a2 a3 aB : Nat) : HM l E yX8_folds cX8_folds 4 none 0 0 [.ref m, .int 1, .int x_] [(m, .inr (8, [.int (v 0), .int (v 1), .ref aS, .int (v 2), .int (v 3), .int (v 4), .ref aW, .int (v 5), .ref aL, .int (v 6), .int (v 7), .int (v 8), .ref aT, .int (v 9), .int (v 10), .int (v 11), .int (v 12), .ref a1, .ref a2, .ref a3, .ref aB, .int (v 13), .int (v 14)])), (aB, .inl (E.2.1.1, 6, .inl bs))] none [(m, .inr (8, [.int (v 0), .int (v 1), .ref aS, .int (v 2), .int (v 3), .int (v 4), .ref aW, .int (v 5), .ref aL, .int (v 6), .int (v 7), .int (v 8), .ref aT, .int (v 9), .int (v 10), .int (v 11), .int (v 12), .ref a1, .ref a2, .ref a3, .ref aB, .int (v 13), .int (v 14)])), (aB, .inl (E.2.1.1, 6, .inl (o_X8_folds_1_1 v bs x_)))] := by
  refine HM.of (own := RX8) (plainFor_of_name (by decide)) rfl (Nat.le_of_ble_eq_true rfl) ?_
  intro zp ze zs zm za zb zt zc zA ls H locs zq C hr hlk hG hl hQ
  have hx := C.1.1
  have hb := C.1.2.1
  replace hl : lv_has ls 4 [(0, .ref m), (1, .int 1), (2, .int x_)] := hl
  refine lv_iload_n hx hb dX8_folds_0 rfl (lv_at hl 1 rfl) ?_
  refine lv_iconst (v := 2) hx hb dX8_folds_1 (by decide) ?_
  refine lv_irem hx hb dX8_folds_2 (by decide) ?_
  refine z_ti (y := 1) (by decide) ?_
  refine lv_if_ne (tgt := 24) hx hb dX8_folds_3 (by decide) (fun c_1 => ?_) (fun c_1 => absurd c_1 (by decide))
  refine lv_iload_n hx hb dX8_folds_24 rfl (lv_at hl 2 rfl) ?_
  refine lv_aload_n hx hb dX8_folds_25 rfl (lv_at hl 0 rfl) ?_
  refine gf_X8_32 C dX8_folds_26 hG 0 rfl rfl ?_
  refine lv_iload_n hx hb dX8_folds_29 rfl (lv_at hl 1 rfl) ?_
  refine z_ild C dX8_folds_30 hG 1 rfl 1 (by decide) (Nat.le_of_ble_eq_true rfl) (Nat.le_of_ble_eq_true rfl) ?_
  have k_0 : ∀ (y0_0 : Int32) (H : Heap) (locs : List Loc) (ls : Array Slot), (j_X8_folds_1_0_0 v bs x_) = y0_0 → zG E zA zs.heap [(m, .inr (8, [.int (v 0), .int (v 1), .ref aS, .int (v 2), .int (v 3), .int (v 4), .ref aW, .int (v 5), .ref aL, .int (v 6), .int (v 7), .int (v 8), .ref aT, .int (v 9), .int (v 10), .int (v 11), .int (v 12), .ref a1, .ref a2, .ref a3, .ref aB, .int (v 13), .int (v 14)])), (aB, .inl (E.2.1.1, 6, .inl bs))] H locs → lv_has ls 4 [(0, .ref m), (1, .int 1), (2, .int x_)] → W zp l ze (zR 0 0) zs zm za zb zt zc H locs 0 0 zq (F0 zm 39 ls [.int y0_0]) := by
    intro y0_0 H locs ls e_y0_0 hG hl
    subst e_y0_0
    refine lv_istore_n (lv' := [(3, .int (j_X8_folds_1_0_0 v bs x_)), (0, .ref m), (1, .int 1), (2, .int x_)]) hx hb dX8_folds_39 rfl hl (by decide) rfl (fun ls hl => ?_)
    refine lv_aload_n hx hb dX8_folds_40 rfl (lv_at hl 1 rfl) ?_
    refine gf_X8_32 C dX8_folds_41 hG 0 rfl rfl ?_
    refine lv_iload_n hx hb dX8_folds_44 rfl (lv_at hl 2 rfl) ?_
    refine lv_iload_n hx hb dX8_folds_45 rfl (lv_at hl 0 rfl) ?_
    have k_1 : ∀ (y1_0 : Int32) (H : Heap) (locs : List Loc) (ls : Array Slot), (j_X8_folds_1_1_0 v bs x_) = y1_0 → zG E zA zs.heap [(m, .inr (8, [.int (v 0), .int (v 1), .ref aS, .int (v 2), .int (v 3), .int (v 4), .ref aW, .int (v 5), .ref aL, .int (v 6), .int (v 7), .int (v 8), .ref aT, .int (v 9), .int (v 10), .int (v 11), .int (v 12), .ref a1, .ref a2, .ref a3, .ref aB, .int (v 13), .int (v 14)])), (aB, .inl (E.2.1.1, 6, .inl bs))] H locs → lv_has ls 4 [(3, .int (j_X8_folds_1_0_0 v bs x_)), (0, .ref m), (1, .int 1), (2, .int x_)] → W zp l ze (zR 0 0) zs zm za zb zt zc H locs 0 0 zq (F0 zm 59 ls [.int y1_0, .int 1, .ref aB]) := by
      intro y1_0 H locs ls e_y1_0 hG hl
      subst e_y1_0
      refine z_ist C dX8_folds_59 hG 1 rfl 1 (by decide) (Nat.le_of_ble_eq_true rfl) (Nat.le_of_ble_eq_true rfl) (ws' := [(m, .inr (8, [.int (v 0), .int (v 1), .ref aS, .int (v 2), .int (v 3), .int (v 4), .ref aW, .int (v 5), .ref aL, .int (v 6), .int (v 7), .int (v 8), .ref aT, .int (v 9), .int (v 10), .int (v 11), .int (v 12), .ref a1, .ref a2, .ref a3, .ref aB, .int (v 13), .int (v 14)])), (aB, .inl (E.2.1.1, 6, .inl (upd bs 1 (j_X8_folds_1_1_0 v bs x_))))]) rfl (fun H locs hG => ?_)
      rw [hQ]
      exact z_vret C hr hlk hG dX8_folds_60 rfl (by rw [o_X8_folds_1_1])
    refine lv_if_eq (tgt := 53) hx hb dX8_folds_46 (by decide) (fun c_3 => ?_) (fun c_3 => ?_)
    · skip
      refine lv_aload_n hx hb dX8_folds_53 rfl (lv_at hl 1 rfl) ?_
      refine gf_X8_32 C dX8_folds_54 hG 0 rfl rfl ?_
      refine lv_iload_n hx hb dX8_folds_57 rfl (lv_at hl 2 rfl) ?_
      refine z_ild C dX8_folds_58 hG 1 rfl 1 (by decide) (Nat.le_of_ble_eq_true rfl) (Nat.le_of_ble_eq_true rfl) ?_
      exact k_1 (bs 1) _ _ _ (by rw [j_X8_folds_1_1_0, if_pos c_3]) hG (lv_sub hl [0, 1, 2, 3] rfl)
    · skip
      refine lv_iload_n hx hb dX8_folds_49 rfl (lv_at hl 3 rfl) ?_
      refine lv_goto (tgt := 59) hx hb dX8_folds_50 (by decide) ?_
      exact k_1 x_ _ _ _ (by rw [j_X8_folds_1_1_0, if_neg c_3]) hG (lv_sub hl [0, 1, 2, 3] rfl)
  refine lv_icmp_ge (tgt := 38) hx hb dX8_folds_31 (by decide) (fun c_2 => ?_) (fun c_2 => ?_)
  · skip
    refine lv_iconst (v := 0) hx hb dX8_folds_38 (by decide) ?_
    exact k_0 0 _ _ _ (by rw [j_X8_folds_1_0_0, if_pos c_2]) hG (lv_sub hl [0, 1, 2] rfl)
  · skip
    refine lv_iconst (v := 1) hx hb dX8_folds_34 (by decide) ?_
    refine lv_goto (tgt := 39) hx hb dX8_folds_35 (by decide) ?_
    exact k_0 1 _ _ _ (by rw [j_X8_folds_1_0_0, if_neg c_2]) hG (lv_sub hl [0, 1, 2] rfl)
def o_X8_forgets_1_1 (v : Nat → Int32) (bs : Nat → Int32) : Nat → Int32 := (upd bs 1 9999)
set_option maxRecDepth 100000 in
set_option maxHeartbeats 4000000 in
theorem c_X8_forgets_1 (l : Launch) (E : zE) (v : Nat → Int32) (bs : Nat → Int32) (m aS aW aL aT a1 a2 a3 aB : Nat) : HM l E yX8_forgets cX8_forgets 2 none 0 0 [.ref m, .int 1] [(m, .inr (8, [.int (v 0), .int (v 1), .ref aS, .int (v 2), .int (v 3), .int (v 4), .ref aW, .int (v 5), .ref aL, .int (v 6), .int (v 7), .int (v 8), .ref aT, .int (v 9), .int (v 10), .int (v 11), .int (v 12), .ref a1, .ref a2, .ref a3, .ref aB, .int (v 13), .int (v 14)])), (aB, .inl (E.2.1.1, 6, .inl bs))] none [(m, .inr (8, [.int (v 0), .int (v 1), .ref aS, .int (v 2), .int (v 3), .int (v 4), .ref aW, .int (v 5), .ref aL, .int (v 6), .int (v 7), .int (v 8), .ref aT, .int (v 9), .int (v 10), .int (v 11), .int (v 12), .ref a1, .ref a2, .ref a3, .ref aB, .int (v 13), .int (v 14)])), (aB, .inl (E.2.1.1, 6, .inl (o_X8_forgets_1_1 v bs)))] := by
  refine HM.of (own := RX8) (plainFor_of_name (by decide)) rfl (Nat.le_of_ble_eq_true rfl) ?_
  intro zp ze zs zm za zb zt zc zA ls H locs zq C hr hlk hG hl hQ
  have hx := C.1.1
  have hb := C.1.2.1
  replace hl : lv_has ls 2 [(0, .ref m), (1, .int 1)] := hl
  refine lv_aload_n hx hb dX8_forgets_0 rfl (lv_at hl 0 rfl) ?_
  refine gf_X8_32 C dX8_forgets_1 hG 0 rfl rfl ?_
  refine lv_iload_n hx hb dX8_forgets_4 rfl (lv_at hl 1 rfl) ?_
  refine lv_iload_n hx hb dX8_forgets_5 rfl (lv_at hl 1 rfl) ?_
  refine lv_iconst (v := 2) hx hb dX8_forgets_6 (by decide) ?_
  refine lv_irem hx hb dX8_forgets_7 (by decide) ?_
  refine z_ti (y := 1) (by decide) ?_
  refine lv_if_ne (tgt := 17) hx hb dX8_forgets_8 (by decide) (fun c_1 => ?_) (fun c_1 => absurd c_1 (by decide))
  refine lv_sipush (v := 9999) hx hb dX8_forgets_17 (by decide) ?_
  refine z_ist C dX8_forgets_20 hG 1 rfl 1 (by decide) (Nat.le_of_ble_eq_true rfl) (Nat.le_of_ble_eq_true rfl) (ws' := [(m, .inr (8, [.int (v 0), .int (v 1), .ref aS, .int (v 2), .int (v 3), .int (v 4), .ref aW, .int (v 5), .ref aL, .int (v 6), .int (v 7), .int (v 8), .ref aT, .int (v 9), .int (v 10), .int (v 11), .int (v 12), .ref a1, .ref a2, .ref a3, .ref aB, .int (v 13), .int (v 14)])), (aB, .inl (E.2.1.1, 6, .inl (upd bs 1 9999)))]) rfl (fun H locs hG => ?_)
  rw [hQ]
  exact z_vret C hr hlk hG dX8_forgets_21 rfl (by rw [o_X8_forgets_1_1])
def j_X8_folds_2_0_0 (v : Nat → Int32) (bs : Nat → Int32) (x_ : Int32) : Int32 := (if x_ ≤ (bs 2) then 0 else 1)
def j_X8_folds_2_1_0 (v : Nat → Int32) (bs : Nat → Int32) (x_ : Int32) : Int32 := (if (j_X8_folds_2_0_0 v bs x_) = 0 then (bs 2) else x_)
def o_X8_folds_2_1 (v : Nat → Int32) (bs : Nat → Int32) (x_ : Int32) : Nat → Int32 := (upd bs 2 (j_X8_folds_2_1_0 v bs x_))
set_option maxRecDepth 100000 in
set_option maxHeartbeats 4000000 in
theorem c_X8_folds_2 (l : Launch) (E : zE) (v : Nat → Int32) (bs : Nat → Int32) (x_ : Int32) (m aS aW aL aT a1 a2 a3 aB : Nat) : HM l E yX8_folds cX8_folds 4 none 0 0 [.ref m, .int 2, .int x_] [(m, .inr (8, [.int (v 0), .int (v 1), .ref aS, .int (v 2), .int (v 3), .int (v 4), .ref aW, .int (v 5), .ref aL, .int (v 6), .int (v 7), .int (v 8), .ref aT, .int (v 9), .int (v 10), .int (v 11), .int (v 12), .ref a1, .ref a2, .ref a3, .ref aB, .int (v 13), .int (v 14)])), (aB, .inl (E.2.1.1, 6, .inl bs))] none [(m, .inr (8, [.int (v 0), .int (v 1), .ref aS, .int (v 2), .int (v 3), .int (v 4), .ref aW, .int (v 5), .ref aL, .int (v 6), .int (v 7), .int (v 8), .ref aT, .int (v 9), .int (v 10), .int (v 11), .int (v 12), .ref a1, .ref a2, .ref a3, .ref aB, .int (v 13), .int (v 14)])), (aB, .inl (E.2.1.1, 6, .inl (o_X8_folds_2_1 v bs x_)))] := by
  refine HM.of (own := RX8) (plainFor_of_name (by decide)) rfl (Nat.le_of_ble_eq_true rfl) ?_
  intro zp ze zs zm za zb zt zc zA ls H locs zq C hr hlk hG hl hQ
  have hx := C.1.1
  have hb := C.1.2.1
  replace hl : lv_has ls 4 [(0, .ref m), (1, .int 2), (2, .int x_)] := hl
  refine lv_iload_n hx hb dX8_folds_0 rfl (lv_at hl 1 rfl) ?_
  refine lv_iconst (v := 2) hx hb dX8_folds_1 (by decide) ?_
  refine lv_irem hx hb dX8_folds_2 (by decide) ?_
  refine z_ti (y := 0) (by decide) ?_
  refine lv_if_ne (tgt := 24) hx hb dX8_folds_3 (by decide) (fun c_1 => absurd (by decide) c_1) (fun c_1 => ?_)
  refine lv_iload_n hx hb dX8_folds_6 rfl (lv_at hl 2 rfl) ?_
  refine lv_aload_n hx hb dX8_folds_7 rfl (lv_at hl 0 rfl) ?_
  refine gf_X8_32 C dX8_folds_8 hG 0 rfl rfl ?_
  refine lv_iload_n hx hb dX8_folds_11 rfl (lv_at hl 1 rfl) ?_
  refine z_ild C dX8_folds_12 hG 1 rfl 2 (by decide) (Nat.le_of_ble_eq_true rfl) (Nat.le_of_ble_eq_true rfl) ?_
  have k_0 : ∀ (y0_0 : Int32) (H : Heap) (locs : List Loc) (ls : Array Slot), (j_X8_folds_2_0_0 v bs x_) = y0_0 → zG E zA zs.heap [(m, .inr (8, [.int (v 0), .int (v 1), .ref aS, .int (v 2), .int (v 3), .int (v 4), .ref aW, .int (v 5), .ref aL, .int (v 6), .int (v 7), .int (v 8), .ref aT, .int (v 9), .int (v 10), .int (v 11), .int (v 12), .ref a1, .ref a2, .ref a3, .ref aB, .int (v 13), .int (v 14)])), (aB, .inl (E.2.1.1, 6, .inl bs))] H locs → lv_has ls 4 [(0, .ref m), (1, .int 2), (2, .int x_)] → W zp l ze (zR 0 0) zs zm za zb zt zc H locs 0 0 zq (F0 zm 39 ls [.int y0_0]) := by
    intro y0_0 H locs ls e_y0_0 hG hl
    subst e_y0_0
    refine lv_istore_n (lv' := [(3, .int (j_X8_folds_2_0_0 v bs x_)), (0, .ref m), (1, .int 2), (2, .int x_)]) hx hb dX8_folds_39 rfl hl (by decide) rfl (fun ls hl => ?_)
    refine lv_aload_n hx hb dX8_folds_40 rfl (lv_at hl 1 rfl) ?_
    refine gf_X8_32 C dX8_folds_41 hG 0 rfl rfl ?_
    refine lv_iload_n hx hb dX8_folds_44 rfl (lv_at hl 2 rfl) ?_
    refine lv_iload_n hx hb dX8_folds_45 rfl (lv_at hl 0 rfl) ?_
    have k_1 : ∀ (y1_0 : Int32) (H : Heap) (locs : List Loc) (ls : Array Slot), (j_X8_folds_2_1_0 v bs x_) = y1_0 → zG E zA zs.heap [(m, .inr (8, [.int (v 0), .int (v 1), .ref aS, .int (v 2), .int (v 3), .int (v 4), .ref aW, .int (v 5), .ref aL, .int (v 6), .int (v 7), .int (v 8), .ref aT, .int (v 9), .int (v 10), .int (v 11), .int (v 12), .ref a1, .ref a2, .ref a3, .ref aB, .int (v 13), .int (v 14)])), (aB, .inl (E.2.1.1, 6, .inl bs))] H locs → lv_has ls 4 [(3, .int (j_X8_folds_2_0_0 v bs x_)), (0, .ref m), (1, .int 2), (2, .int x_)] → W zp l ze (zR 0 0) zs zm za zb zt zc H locs 0 0 zq (F0 zm 59 ls [.int y1_0, .int 2, .ref aB]) := by
      intro y1_0 H locs ls e_y1_0 hG hl
      subst e_y1_0
      refine z_ist C dX8_folds_59 hG 1 rfl 2 (by decide) (Nat.le_of_ble_eq_true rfl) (Nat.le_of_ble_eq_true rfl) (ws' := [(m, .inr (8, [.int (v 0), .int (v 1), .ref aS, .int (v 2), .int (v 3), .int (v 4), .ref aW, .int (v 5), .ref aL, .int (v 6), .int (v 7), .int (v 8), .ref aT, .int (v 9), .int (v 10), .int (v 11), .int (v 12), .ref a1, .ref a2, .ref a3, .ref aB, .int (v 13), .int (v 14)])), (aB, .inl (E.2.1.1, 6, .inl (upd bs 2 (j_X8_folds_2_1_0 v bs x_))))]) rfl (fun H locs hG => ?_)
      rw [hQ]
      exact z_vret C hr hlk hG dX8_folds_60 rfl (by rw [o_X8_folds_2_1])
    refine lv_if_eq (tgt := 53) hx hb dX8_folds_46 (by decide) (fun c_3 => ?_) (fun c_3 => ?_)
    · skip
      refine lv_aload_n hx hb dX8_folds_53 rfl (lv_at hl 1 rfl) ?_
      refine gf_X8_32 C dX8_folds_54 hG 0 rfl rfl ?_
      refine lv_iload_n hx hb dX8_folds_57 rfl (lv_at hl 2 rfl) ?_
      refine z_ild C dX8_folds_58 hG 1 rfl 2 (by decide) (Nat.le_of_ble_eq_true rfl) (Nat.le_of_ble_eq_true rfl) ?_
      exact k_1 (bs 2) _ _ _ (by rw [j_X8_folds_2_1_0, if_pos c_3]) hG (lv_sub hl [0, 1, 2, 3] rfl)
    · skip
      refine lv_iload_n hx hb dX8_folds_49 rfl (lv_at hl 3 rfl) ?_
      refine lv_goto (tgt := 59) hx hb dX8_folds_50 (by decide) ?_
      exact k_1 x_ _ _ _ (by rw [j_X8_folds_2_1_0, if_neg c_3]) hG (lv_sub hl [0, 1, 2, 3] rfl)
  refine lv_icmp_le (tgt := 20) hx hb dX8_folds_13 (by decide) (fun c_2 => ?_) (fun c_2 => ?_)
  · skip
    refine lv_iconst (v := 0) hx hb dX8_folds_20 (by decide) ?_
    refine lv_goto (tgt := 39) hx hb dX8_folds_21 (by decide) ?_
    exact k_0 0 _ _ _ (by rw [j_X8_folds_2_0_0, if_pos c_2]) hG (lv_sub hl [0, 1, 2] rfl)
  · skip
    refine lv_iconst (v := 1) hx hb dX8_folds_16 (by decide) ?_
    refine lv_goto (tgt := 39) hx hb dX8_folds_17 (by decide) ?_
    exact k_0 1 _ _ _ (by rw [j_X8_folds_2_0_0, if_neg c_2]) hG (lv_sub hl [0, 1, 2] rfl)
def o_X8_forgets_2_1 (v : Nat → Int32) (bs : Nat → Int32) : Nat → Int32 := (upd bs 2 (-9999))
set_option maxRecDepth 100000 in
set_option maxHeartbeats 4000000 in
theorem c_X8_forgets_2 (l : Launch) (E : zE) (v : Nat → Int32) (bs : Nat → Int32) (m aS aW aL aT a1 a2 a3 aB : Nat) : HM l E yX8_forgets cX8_forgets 2 none 0 0 [.ref m, .int 2] [(m, .inr (8, [.int (v 0), .int (v 1), .ref aS, .int (v 2), .int (v 3), .int (v 4), .ref aW, .int (v 5), .ref aL, .int (v 6), .int (v 7), .int (v 8), .ref aT, .int (v 9), .int (v 10), .int (v 11), .int (v 12), .ref a1, .ref a2, .ref a3, .ref aB, .int (v 13), .int (v 14)])), (aB, .inl (E.2.1.1, 6, .inl bs))] none [(m, .inr (8, [.int (v 0), .int (v 1), .ref aS, .int (v 2), .int (v 3), .int (v 4), .ref aW, .int (v 5), .ref aL, .int (v 6), .int (v 7), .int (v 8), .ref aT, .int (v 9), .int (v 10), .int (v 11), .int (v 12), .ref a1, .ref a2, .ref a3, .ref aB, .int (v 13), .int (v 14)])), (aB, .inl (E.2.1.1, 6, .inl (o_X8_forgets_2_1 v bs)))] := by
  refine HM.of (own := RX8) (plainFor_of_name (by decide)) rfl (Nat.le_of_ble_eq_true rfl) ?_
  intro zp ze zs zm za zb zt zc zA ls H locs zq C hr hlk hG hl hQ
  have hx := C.1.1
  have hb := C.1.2.1
  replace hl : lv_has ls 2 [(0, .ref m), (1, .int 2)] := hl
  refine lv_aload_n hx hb dX8_forgets_0 rfl (lv_at hl 0 rfl) ?_
  refine gf_X8_32 C dX8_forgets_1 hG 0 rfl rfl ?_
  refine lv_iload_n hx hb dX8_forgets_4 rfl (lv_at hl 1 rfl) ?_
  refine lv_iload_n hx hb dX8_forgets_5 rfl (lv_at hl 1 rfl) ?_
  refine lv_iconst (v := 2) hx hb dX8_forgets_6 (by decide) ?_
  refine lv_irem hx hb dX8_forgets_7 (by decide) ?_
  refine z_ti (y := 0) (by decide) ?_
  refine lv_if_ne (tgt := 17) hx hb dX8_forgets_8 (by decide) (fun c_1 => absurd (by decide) c_1) (fun c_1 => ?_)
  refine lv_sipush (v := (-9999)) hx hb dX8_forgets_11 (by decide) ?_
  refine lv_goto (tgt := 20) hx hb dX8_forgets_14 (by decide) ?_
  refine z_ist C dX8_forgets_20 hG 1 rfl 2 (by decide) (Nat.le_of_ble_eq_true rfl) (Nat.le_of_ble_eq_true rfl) (ws' := [(m, .inr (8, [.int (v 0), .int (v 1), .ref aS, .int (v 2), .int (v 3), .int (v 4), .ref aW, .int (v 5), .ref aL, .int (v 6), .int (v 7), .int (v 8), .ref aT, .int (v 9), .int (v 10), .int (v 11), .int (v 12), .ref a1, .ref a2, .ref a3, .ref aB, .int (v 13), .int (v 14)])), (aB, .inl (E.2.1.1, 6, .inl (upd bs 2 (-9999))))]) rfl (fun H locs hG => ?_)
  rw [hQ]
  exact z_vret C hr hlk hG dX8_forgets_21 rfl (by rw [o_X8_forgets_2_1])
def j_X8_folds_3_0_0 (v : Nat → Int32) (bs : Nat → Int32) (x_ : Int32) : Int32 := (if (bs 3) ≤ x_ then 0 else 1)
def j_X8_folds_3_1_0 (v : Nat → Int32) (bs : Nat → Int32) (x_ : Int32) : Int32 := (if (j_X8_folds_3_0_0 v bs x_) = 0 then (bs 3) else x_)
def o_X8_folds_3_1 (v : Nat → Int32) (bs : Nat → Int32) (x_ : Int32) : Nat → Int32 := (upd bs 3 (j_X8_folds_3_1_0 v bs x_))
set_option maxRecDepth 100000 in
set_option maxHeartbeats 4000000 in
theorem c_X8_folds_3 (l : Launch) (E : zE) (v : Nat → Int32) (bs : Nat → Int32) (x_ : Int32) (m aS aW aL aT a1 a2 a3 aB : Nat) : HM l E yX8_folds cX8_folds 4 none 0 0 [.ref m, .int 3, .int x_] [(m, .inr (8, [.int (v 0), .int (v 1), .ref aS, .int (v 2), .int (v 3), .int (v 4), .ref aW, .int (v 5), .ref aL, .int (v 6), .int (v 7), .int (v 8), .ref aT, .int (v 9), .int (v 10), .int (v 11), .int (v 12), .ref a1, .ref a2, .ref a3, .ref aB, .int (v 13), .int (v 14)])), (aB, .inl (E.2.1.1, 6, .inl bs))] none [(m, .inr (8, [.int (v 0), .int (v 1), .ref aS, .int (v 2), .int (v 3), .int (v 4), .ref aW, .int (v 5), .ref aL, .int (v 6), .int (v 7), .int (v 8), .ref aT, .int (v 9), .int (v 10), .int (v 11), .int (v 12), .ref a1, .ref a2, .ref a3, .ref aB, .int (v 13), .int (v 14)])), (aB, .inl (E.2.1.1, 6, .inl (o_X8_folds_3_1 v bs x_)))] := by
  refine HM.of (own := RX8) (plainFor_of_name (by decide)) rfl (Nat.le_of_ble_eq_true rfl) ?_
  intro zp ze zs zm za zb zt zc zA ls H locs zq C hr hlk hG hl hQ
  have hx := C.1.1
  have hb := C.1.2.1
  replace hl : lv_has ls 4 [(0, .ref m), (1, .int 3), (2, .int x_)] := hl
  refine lv_iload_n hx hb dX8_folds_0 rfl (lv_at hl 1 rfl) ?_
  refine lv_iconst (v := 2) hx hb dX8_folds_1 (by decide) ?_
  refine lv_irem hx hb dX8_folds_2 (by decide) ?_
  refine z_ti (y := 1) (by decide) ?_
  refine lv_if_ne (tgt := 24) hx hb dX8_folds_3 (by decide) (fun c_1 => ?_) (fun c_1 => absurd c_1 (by decide))
  refine lv_iload_n hx hb dX8_folds_24 rfl (lv_at hl 2 rfl) ?_
  refine lv_aload_n hx hb dX8_folds_25 rfl (lv_at hl 0 rfl) ?_
  refine gf_X8_32 C dX8_folds_26 hG 0 rfl rfl ?_
  refine lv_iload_n hx hb dX8_folds_29 rfl (lv_at hl 1 rfl) ?_
  refine z_ild C dX8_folds_30 hG 1 rfl 3 (by decide) (Nat.le_of_ble_eq_true rfl) (Nat.le_of_ble_eq_true rfl) ?_
  have k_0 : ∀ (y0_0 : Int32) (H : Heap) (locs : List Loc) (ls : Array Slot), (j_X8_folds_3_0_0 v bs x_) = y0_0 → zG E zA zs.heap [(m, .inr (8, [.int (v 0), .int (v 1), .ref aS, .int (v 2), .int (v 3), .int (v 4), .ref aW, .int (v 5), .ref aL, .int (v 6), .int (v 7), .int (v 8), .ref aT, .int (v 9), .int (v 10), .int (v 11), .int (v 12), .ref a1, .ref a2, .ref a3, .ref aB, .int (v 13), .int (v 14)])), (aB, .inl (E.2.1.1, 6, .inl bs))] H locs → lv_has ls 4 [(0, .ref m), (1, .int 3), (2, .int x_)] → W zp l ze (zR 0 0) zs zm za zb zt zc H locs 0 0 zq (F0 zm 39 ls [.int y0_0]) := by
    intro y0_0 H locs ls e_y0_0 hG hl
    subst e_y0_0
    refine lv_istore_n (lv' := [(3, .int (j_X8_folds_3_0_0 v bs x_)), (0, .ref m), (1, .int 3), (2, .int x_)]) hx hb dX8_folds_39 rfl hl (by decide) rfl (fun ls hl => ?_)
    refine lv_aload_n hx hb dX8_folds_40 rfl (lv_at hl 1 rfl) ?_
    refine gf_X8_32 C dX8_folds_41 hG 0 rfl rfl ?_
    refine lv_iload_n hx hb dX8_folds_44 rfl (lv_at hl 2 rfl) ?_
    refine lv_iload_n hx hb dX8_folds_45 rfl (lv_at hl 0 rfl) ?_
    have k_1 : ∀ (y1_0 : Int32) (H : Heap) (locs : List Loc) (ls : Array Slot), (j_X8_folds_3_1_0 v bs x_) = y1_0 → zG E zA zs.heap [(m, .inr (8, [.int (v 0), .int (v 1), .ref aS, .int (v 2), .int (v 3), .int (v 4), .ref aW, .int (v 5), .ref aL, .int (v 6), .int (v 7), .int (v 8), .ref aT, .int (v 9), .int (v 10), .int (v 11), .int (v 12), .ref a1, .ref a2, .ref a3, .ref aB, .int (v 13), .int (v 14)])), (aB, .inl (E.2.1.1, 6, .inl bs))] H locs → lv_has ls 4 [(3, .int (j_X8_folds_3_0_0 v bs x_)), (0, .ref m), (1, .int 3), (2, .int x_)] → W zp l ze (zR 0 0) zs zm za zb zt zc H locs 0 0 zq (F0 zm 59 ls [.int y1_0, .int 3, .ref aB]) := by
      intro y1_0 H locs ls e_y1_0 hG hl
      subst e_y1_0
      refine z_ist C dX8_folds_59 hG 1 rfl 3 (by decide) (Nat.le_of_ble_eq_true rfl) (Nat.le_of_ble_eq_true rfl) (ws' := [(m, .inr (8, [.int (v 0), .int (v 1), .ref aS, .int (v 2), .int (v 3), .int (v 4), .ref aW, .int (v 5), .ref aL, .int (v 6), .int (v 7), .int (v 8), .ref aT, .int (v 9), .int (v 10), .int (v 11), .int (v 12), .ref a1, .ref a2, .ref a3, .ref aB, .int (v 13), .int (v 14)])), (aB, .inl (E.2.1.1, 6, .inl (upd bs 3 (j_X8_folds_3_1_0 v bs x_))))]) rfl (fun H locs hG => ?_)
      rw [hQ]
      exact z_vret C hr hlk hG dX8_folds_60 rfl (by rw [o_X8_folds_3_1])
    refine lv_if_eq (tgt := 53) hx hb dX8_folds_46 (by decide) (fun c_3 => ?_) (fun c_3 => ?_)
    · skip
      refine lv_aload_n hx hb dX8_folds_53 rfl (lv_at hl 1 rfl) ?_
      refine gf_X8_32 C dX8_folds_54 hG 0 rfl rfl ?_
      refine lv_iload_n hx hb dX8_folds_57 rfl (lv_at hl 2 rfl) ?_
      refine z_ild C dX8_folds_58 hG 1 rfl 3 (by decide) (Nat.le_of_ble_eq_true rfl) (Nat.le_of_ble_eq_true rfl) ?_
      exact k_1 (bs 3) _ _ _ (by rw [j_X8_folds_3_1_0, if_pos c_3]) hG (lv_sub hl [0, 1, 2, 3] rfl)
    · skip
      refine lv_iload_n hx hb dX8_folds_49 rfl (lv_at hl 3 rfl) ?_
      refine lv_goto (tgt := 59) hx hb dX8_folds_50 (by decide) ?_
      exact k_1 x_ _ _ _ (by rw [j_X8_folds_3_1_0, if_neg c_3]) hG (lv_sub hl [0, 1, 2, 3] rfl)
  refine lv_icmp_ge (tgt := 38) hx hb dX8_folds_31 (by decide) (fun c_2 => ?_) (fun c_2 => ?_)
  · skip
    refine lv_iconst (v := 0) hx hb dX8_folds_38 (by decide) ?_
    exact k_0 0 _ _ _ (by rw [j_X8_folds_3_0_0, if_pos c_2]) hG (lv_sub hl [0, 1, 2] rfl)
  · skip
    refine lv_iconst (v := 1) hx hb dX8_folds_34 (by decide) ?_
    refine lv_goto (tgt := 39) hx hb dX8_folds_35 (by decide) ?_
    exact k_0 1 _ _ _ (by rw [j_X8_folds_3_0_0, if_neg c_2]) hG (lv_sub hl [0, 1, 2] rfl)
def o_X8_forgets_3_1 (v : Nat → Int32) (bs : Nat → Int32) : Nat → Int32 := (upd bs 3 9999)
set_option maxRecDepth 100000 in
set_option maxHeartbeats 4000000 in
theorem c_X8_forgets_3 (l : Launch) (E : zE) (v : Nat → Int32) (bs : Nat → Int32) (m aS aW aL aT a1 a2 a3 aB : Nat) : HM l E yX8_forgets cX8_forgets 2 none 0 0 [.ref m, .int 3] [(m, .inr (8, [.int (v 0), .int (v 1), .ref aS, .int (v 2), .int (v 3), .int (v 4), .ref aW, .int (v 5), .ref aL, .int (v 6), .int (v 7), .int (v 8), .ref aT, .int (v 9), .int (v 10), .int (v 11), .int (v 12), .ref a1, .ref a2, .ref a3, .ref aB, .int (v 13), .int (v 14)])), (aB, .inl (E.2.1.1, 6, .inl bs))] none [(m, .inr (8, [.int (v 0), .int (v 1), .ref aS, .int (v 2), .int (v 3), .int (v 4), .ref aW, .int (v 5), .ref aL, .int (v 6), .int (v 7), .int (v 8), .ref aT, .int (v 9), .int (v 10), .int (v 11), .int (v 12), .ref a1, .ref a2, .ref a3, .ref aB, .int (v 13), .int (v 14)])), (aB, .inl (E.2.1.1, 6, .inl (o_X8_forgets_3_1 v bs)))] := by
  refine HM.of (own := RX8) (plainFor_of_name (by decide)) rfl (Nat.le_of_ble_eq_true rfl) ?_
  intro zp ze zs zm za zb zt zc zA ls H locs zq C hr hlk hG hl hQ
  have hx := C.1.1
  have hb := C.1.2.1
  replace hl : lv_has ls 2 [(0, .ref m), (1, .int 3)] := hl
  refine lv_aload_n hx hb dX8_forgets_0 rfl (lv_at hl 0 rfl) ?_
  refine gf_X8_32 C dX8_forgets_1 hG 0 rfl rfl ?_
  refine lv_iload_n hx hb dX8_forgets_4 rfl (lv_at hl 1 rfl) ?_
  refine lv_iload_n hx hb dX8_forgets_5 rfl (lv_at hl 1 rfl) ?_
  refine lv_iconst (v := 2) hx hb dX8_forgets_6 (by decide) ?_
  refine lv_irem hx hb dX8_forgets_7 (by decide) ?_
  refine z_ti (y := 1) (by decide) ?_
  refine lv_if_ne (tgt := 17) hx hb dX8_forgets_8 (by decide) (fun c_1 => ?_) (fun c_1 => absurd c_1 (by decide))
  refine lv_sipush (v := 9999) hx hb dX8_forgets_17 (by decide) ?_
  refine z_ist C dX8_forgets_20 hG 1 rfl 3 (by decide) (Nat.le_of_ble_eq_true rfl) (Nat.le_of_ble_eq_true rfl) (ws' := [(m, .inr (8, [.int (v 0), .int (v 1), .ref aS, .int (v 2), .int (v 3), .int (v 4), .ref aW, .int (v 5), .ref aL, .int (v 6), .int (v 7), .int (v 8), .ref aT, .int (v 9), .int (v 10), .int (v 11), .int (v 12), .ref a1, .ref a2, .ref a3, .ref aB, .int (v 13), .int (v 14)])), (aB, .inl (E.2.1.1, 6, .inl (upd bs 3 9999)))]) rfl (fun H locs hG => ?_)
  rw [hQ]
  exact z_vret C hr hlk hG dX8_forgets_21 rfl (by rw [o_X8_forgets_3_1])
def j_X8_folds_4_0_0 (v : Nat → Int32) (bs : Nat → Int32) (x_ : Int32) : Int32 := (if x_ ≤ (bs 4) then 0 else 1)
def j_X8_folds_4_1_0 (v : Nat → Int32) (bs : Nat → Int32) (x_ : Int32) : Int32 := (if (j_X8_folds_4_0_0 v bs x_) = 0 then (bs 4) else x_)
def o_X8_folds_4_1 (v : Nat → Int32) (bs : Nat → Int32) (x_ : Int32) : Nat → Int32 := (upd bs 4 (j_X8_folds_4_1_0 v bs x_))
set_option maxRecDepth 100000 in
set_option maxHeartbeats 4000000 in
theorem c_X8_folds_4 (l : Launch) (E : zE) (v : Nat → Int32) (bs : Nat → Int32) (x_ : Int32) (m aS aW aL aT a1 a2 a3 aB : Nat) : HM l E yX8_folds cX8_folds 4 none 0 0 [.ref m, .int 4, .int x_] [(m, .inr (8, [.int (v 0), .int (v 1), .ref aS, .int (v 2), .int (v 3), .int (v 4), .ref aW, .int (v 5), .ref aL, .int (v 6), .int (v 7), .int (v 8), .ref aT, .int (v 9), .int (v 10), .int (v 11), .int (v 12), .ref a1, .ref a2, .ref a3, .ref aB, .int (v 13), .int (v 14)])), (aB, .inl (E.2.1.1, 6, .inl bs))] none [(m, .inr (8, [.int (v 0), .int (v 1), .ref aS, .int (v 2), .int (v 3), .int (v 4), .ref aW, .int (v 5), .ref aL, .int (v 6), .int (v 7), .int (v 8), .ref aT, .int (v 9), .int (v 10), .int (v 11), .int (v 12), .ref a1, .ref a2, .ref a3, .ref aB, .int (v 13), .int (v 14)])), (aB, .inl (E.2.1.1, 6, .inl (o_X8_folds_4_1 v bs x_)))] := by
  refine HM.of (own := RX8) (plainFor_of_name (by decide)) rfl (Nat.le_of_ble_eq_true rfl) ?_
  intro zp ze zs zm za zb zt zc zA ls H locs zq C hr hlk hG hl hQ
  have hx := C.1.1
  have hb := C.1.2.1
  replace hl : lv_has ls 4 [(0, .ref m), (1, .int 4), (2, .int x_)] := hl
  refine lv_iload_n hx hb dX8_folds_0 rfl (lv_at hl 1 rfl) ?_
  refine lv_iconst (v := 2) hx hb dX8_folds_1 (by decide) ?_
  refine lv_irem hx hb dX8_folds_2 (by decide) ?_
  refine z_ti (y := 0) (by decide) ?_
  refine lv_if_ne (tgt := 24) hx hb dX8_folds_3 (by decide) (fun c_1 => absurd (by decide) c_1) (fun c_1 => ?_)
  refine lv_iload_n hx hb dX8_folds_6 rfl (lv_at hl 2 rfl) ?_
  refine lv_aload_n hx hb dX8_folds_7 rfl (lv_at hl 0 rfl) ?_
  refine gf_X8_32 C dX8_folds_8 hG 0 rfl rfl ?_
  refine lv_iload_n hx hb dX8_folds_11 rfl (lv_at hl 1 rfl) ?_
  refine z_ild C dX8_folds_12 hG 1 rfl 4 (by decide) (Nat.le_of_ble_eq_true rfl) (Nat.le_of_ble_eq_true rfl) ?_
  have k_0 : ∀ (y0_0 : Int32) (H : Heap) (locs : List Loc) (ls : Array Slot), (j_X8_folds_4_0_0 v bs x_) = y0_0 → zG E zA zs.heap [(m, .inr (8, [.int (v 0), .int (v 1), .ref aS, .int (v 2), .int (v 3), .int (v 4), .ref aW, .int (v 5), .ref aL, .int (v 6), .int (v 7), .int (v 8), .ref aT, .int (v 9), .int (v 10), .int (v 11), .int (v 12), .ref a1, .ref a2, .ref a3, .ref aB, .int (v 13), .int (v 14)])), (aB, .inl (E.2.1.1, 6, .inl bs))] H locs → lv_has ls 4 [(0, .ref m), (1, .int 4), (2, .int x_)] → W zp l ze (zR 0 0) zs zm za zb zt zc H locs 0 0 zq (F0 zm 39 ls [.int y0_0]) := by
    intro y0_0 H locs ls e_y0_0 hG hl
    subst e_y0_0
    refine lv_istore_n (lv' := [(3, .int (j_X8_folds_4_0_0 v bs x_)), (0, .ref m), (1, .int 4), (2, .int x_)]) hx hb dX8_folds_39 rfl hl (by decide) rfl (fun ls hl => ?_)
    refine lv_aload_n hx hb dX8_folds_40 rfl (lv_at hl 1 rfl) ?_
    refine gf_X8_32 C dX8_folds_41 hG 0 rfl rfl ?_
    refine lv_iload_n hx hb dX8_folds_44 rfl (lv_at hl 2 rfl) ?_
    refine lv_iload_n hx hb dX8_folds_45 rfl (lv_at hl 0 rfl) ?_
    have k_1 : ∀ (y1_0 : Int32) (H : Heap) (locs : List Loc) (ls : Array Slot), (j_X8_folds_4_1_0 v bs x_) = y1_0 → zG E zA zs.heap [(m, .inr (8, [.int (v 0), .int (v 1), .ref aS, .int (v 2), .int (v 3), .int (v 4), .ref aW, .int (v 5), .ref aL, .int (v 6), .int (v 7), .int (v 8), .ref aT, .int (v 9), .int (v 10), .int (v 11), .int (v 12), .ref a1, .ref a2, .ref a3, .ref aB, .int (v 13), .int (v 14)])), (aB, .inl (E.2.1.1, 6, .inl bs))] H locs → lv_has ls 4 [(3, .int (j_X8_folds_4_0_0 v bs x_)), (0, .ref m), (1, .int 4), (2, .int x_)] → W zp l ze (zR 0 0) zs zm za zb zt zc H locs 0 0 zq (F0 zm 59 ls [.int y1_0, .int 4, .ref aB]) := by
      intro y1_0 H locs ls e_y1_0 hG hl
      subst e_y1_0
      refine z_ist C dX8_folds_59 hG 1 rfl 4 (by decide) (Nat.le_of_ble_eq_true rfl) (Nat.le_of_ble_eq_true rfl) (ws' := [(m, .inr (8, [.int (v 0), .int (v 1), .ref aS, .int (v 2), .int (v 3), .int (v 4), .ref aW, .int (v 5), .ref aL, .int (v 6), .int (v 7), .int (v 8), .ref aT, .int (v 9), .int (v 10), .int (v 11), .int (v 12), .ref a1, .ref a2, .ref a3, .ref aB, .int (v 13), .int (v 14)])), (aB, .inl (E.2.1.1, 6, .inl (upd bs 4 (j_X8_folds_4_1_0 v bs x_))))]) rfl (fun H locs hG => ?_)
      rw [hQ]
      exact z_vret C hr hlk hG dX8_folds_60 rfl (by rw [o_X8_folds_4_1])
    refine lv_if_eq (tgt := 53) hx hb dX8_folds_46 (by decide) (fun c_3 => ?_) (fun c_3 => ?_)
    · skip
      refine lv_aload_n hx hb dX8_folds_53 rfl (lv_at hl 1 rfl) ?_
      refine gf_X8_32 C dX8_folds_54 hG 0 rfl rfl ?_
      refine lv_iload_n hx hb dX8_folds_57 rfl (lv_at hl 2 rfl) ?_
      refine z_ild C dX8_folds_58 hG 1 rfl 4 (by decide) (Nat.le_of_ble_eq_true rfl) (Nat.le_of_ble_eq_true rfl) ?_
      exact k_1 (bs 4) _ _ _ (by rw [j_X8_folds_4_1_0, if_pos c_3]) hG (lv_sub hl [0, 1, 2, 3] rfl)
    · skip
      refine lv_iload_n hx hb dX8_folds_49 rfl (lv_at hl 3 rfl) ?_
      refine lv_goto (tgt := 59) hx hb dX8_folds_50 (by decide) ?_
      exact k_1 x_ _ _ _ (by rw [j_X8_folds_4_1_0, if_neg c_3]) hG (lv_sub hl [0, 1, 2, 3] rfl)
  refine lv_icmp_le (tgt := 20) hx hb dX8_folds_13 (by decide) (fun c_2 => ?_) (fun c_2 => ?_)
  · skip
    refine lv_iconst (v := 0) hx hb dX8_folds_20 (by decide) ?_
    refine lv_goto (tgt := 39) hx hb dX8_folds_21 (by decide) ?_
    exact k_0 0 _ _ _ (by rw [j_X8_folds_4_0_0, if_pos c_2]) hG (lv_sub hl [0, 1, 2] rfl)
  · skip
    refine lv_iconst (v := 1) hx hb dX8_folds_16 (by decide) ?_
    refine lv_goto (tgt := 39) hx hb dX8_folds_17 (by decide) ?_
    exact k_0 1 _ _ _ (by rw [j_X8_folds_4_0_0, if_neg c_2]) hG (lv_sub hl [0, 1, 2] rfl)
def o_X8_forgets_4_1 (v : Nat → Int32) (bs : Nat → Int32) : Nat → Int32 := (upd bs 4 (-9999))
set_option maxRecDepth 100000 in
set_option maxHeartbeats 4000000 in
theorem c_X8_forgets_4 (l : Launch) (E : zE) (v : Nat → Int32) (bs : Nat → Int32) (m aS aW aL aT a1 a2 a3 aB : Nat) : HM l E yX8_forgets cX8_forgets 2 none 0 0 [.ref m, .int 4] [(m, .inr (8, [.int (v 0), .int (v 1), .ref aS, .int (v 2), .int (v 3), .int (v 4), .ref aW, .int (v 5), .ref aL, .int (v 6), .int (v 7), .int (v 8), .ref aT, .int (v 9), .int (v 10), .int (v 11), .int (v 12), .ref a1, .ref a2, .ref a3, .ref aB, .int (v 13), .int (v 14)])), (aB, .inl (E.2.1.1, 6, .inl bs))] none [(m, .inr (8, [.int (v 0), .int (v 1), .ref aS, .int (v 2), .int (v 3), .int (v 4), .ref aW, .int (v 5), .ref aL, .int (v 6), .int (v 7), .int (v 8), .ref aT, .int (v 9), .int (v 10), .int (v 11), .int (v 12), .ref a1, .ref a2, .ref a3, .ref aB, .int (v 13), .int (v 14)])), (aB, .inl (E.2.1.1, 6, .inl (o_X8_forgets_4_1 v bs)))] := by
  refine HM.of (own := RX8) (plainFor_of_name (by decide)) rfl (Nat.le_of_ble_eq_true rfl) ?_
  intro zp ze zs zm za zb zt zc zA ls H locs zq C hr hlk hG hl hQ
  have hx := C.1.1
  have hb := C.1.2.1
  replace hl : lv_has ls 2 [(0, .ref m), (1, .int 4)] := hl
  refine lv_aload_n hx hb dX8_forgets_0 rfl (lv_at hl 0 rfl) ?_
  refine gf_X8_32 C dX8_forgets_1 hG 0 rfl rfl ?_
  refine lv_iload_n hx hb dX8_forgets_4 rfl (lv_at hl 1 rfl) ?_
  refine lv_iload_n hx hb dX8_forgets_5 rfl (lv_at hl 1 rfl) ?_
  refine lv_iconst (v := 2) hx hb dX8_forgets_6 (by decide) ?_
  refine lv_irem hx hb dX8_forgets_7 (by decide) ?_
  refine z_ti (y := 0) (by decide) ?_
  refine lv_if_ne (tgt := 17) hx hb dX8_forgets_8 (by decide) (fun c_1 => absurd (by decide) c_1) (fun c_1 => ?_)
  refine lv_sipush (v := (-9999)) hx hb dX8_forgets_11 (by decide) ?_
  refine lv_goto (tgt := 20) hx hb dX8_forgets_14 (by decide) ?_
  refine z_ist C dX8_forgets_20 hG 1 rfl 4 (by decide) (Nat.le_of_ble_eq_true rfl) (Nat.le_of_ble_eq_true rfl) (ws' := [(m, .inr (8, [.int (v 0), .int (v 1), .ref aS, .int (v 2), .int (v 3), .int (v 4), .ref aW, .int (v 5), .ref aL, .int (v 6), .int (v 7), .int (v 8), .ref aT, .int (v 9), .int (v 10), .int (v 11), .int (v 12), .ref a1, .ref a2, .ref a3, .ref aB, .int (v 13), .int (v 14)])), (aB, .inl (E.2.1.1, 6, .inl (upd bs 4 (-9999))))]) rfl (fun H locs hG => ?_)
  rw [hQ]
  exact z_vret C hr hlk hG dX8_forgets_21 rfl (by rw [o_X8_forgets_4_1])
def j_X8_folds_5_0_0 (v : Nat → Int32) (bs : Nat → Int32) (x_ : Int32) : Int32 := (if (bs 5) ≤ x_ then 0 else 1)
def j_X8_folds_5_1_0 (v : Nat → Int32) (bs : Nat → Int32) (x_ : Int32) : Int32 := (if (j_X8_folds_5_0_0 v bs x_) = 0 then (bs 5) else x_)
def o_X8_folds_5_1 (v : Nat → Int32) (bs : Nat → Int32) (x_ : Int32) : Nat → Int32 := (upd bs 5 (j_X8_folds_5_1_0 v bs x_))
set_option maxRecDepth 100000 in
set_option maxHeartbeats 4000000 in
theorem c_X8_folds_5 (l : Launch) (E : zE) (v : Nat → Int32) (bs : Nat → Int32) (x_ : Int32) (m aS aW aL aT a1 a2 a3 aB : Nat) : HM l E yX8_folds cX8_folds 4 none 0 0 [.ref m, .int 5, .int x_] [(m, .inr (8, [.int (v 0), .int (v 1), .ref aS, .int (v 2), .int (v 3), .int (v 4), .ref aW, .int (v 5), .ref aL, .int (v 6), .int (v 7), .int (v 8), .ref aT, .int (v 9), .int (v 10), .int (v 11), .int (v 12), .ref a1, .ref a2, .ref a3, .ref aB, .int (v 13), .int (v 14)])), (aB, .inl (E.2.1.1, 6, .inl bs))] none [(m, .inr (8, [.int (v 0), .int (v 1), .ref aS, .int (v 2), .int (v 3), .int (v 4), .ref aW, .int (v 5), .ref aL, .int (v 6), .int (v 7), .int (v 8), .ref aT, .int (v 9), .int (v 10), .int (v 11), .int (v 12), .ref a1, .ref a2, .ref a3, .ref aB, .int (v 13), .int (v 14)])), (aB, .inl (E.2.1.1, 6, .inl (o_X8_folds_5_1 v bs x_)))] := by
  refine HM.of (own := RX8) (plainFor_of_name (by decide)) rfl (Nat.le_of_ble_eq_true rfl) ?_
  intro zp ze zs zm za zb zt zc zA ls H locs zq C hr hlk hG hl hQ
  have hx := C.1.1
  have hb := C.1.2.1
  replace hl : lv_has ls 4 [(0, .ref m), (1, .int 5), (2, .int x_)] := hl
  refine lv_iload_n hx hb dX8_folds_0 rfl (lv_at hl 1 rfl) ?_
  refine lv_iconst (v := 2) hx hb dX8_folds_1 (by decide) ?_
  refine lv_irem hx hb dX8_folds_2 (by decide) ?_
  refine z_ti (y := 1) (by decide) ?_
  refine lv_if_ne (tgt := 24) hx hb dX8_folds_3 (by decide) (fun c_1 => ?_) (fun c_1 => absurd c_1 (by decide))
  refine lv_iload_n hx hb dX8_folds_24 rfl (lv_at hl 2 rfl) ?_
  refine lv_aload_n hx hb dX8_folds_25 rfl (lv_at hl 0 rfl) ?_
  refine gf_X8_32 C dX8_folds_26 hG 0 rfl rfl ?_
  refine lv_iload_n hx hb dX8_folds_29 rfl (lv_at hl 1 rfl) ?_
  refine z_ild C dX8_folds_30 hG 1 rfl 5 (by decide) (Nat.le_of_ble_eq_true rfl) (Nat.le_of_ble_eq_true rfl) ?_
  have k_0 : ∀ (y0_0 : Int32) (H : Heap) (locs : List Loc) (ls : Array Slot), (j_X8_folds_5_0_0 v bs x_) = y0_0 → zG E zA zs.heap [(m, .inr (8, [.int (v 0), .int (v 1), .ref aS, .int (v 2), .int (v 3), .int (v 4), .ref aW, .int (v 5), .ref aL, .int (v 6), .int (v 7), .int (v 8), .ref aT, .int (v 9), .int (v 10), .int (v 11), .int (v 12), .ref a1, .ref a2, .ref a3, .ref aB, .int (v 13), .int (v 14)])), (aB, .inl (E.2.1.1, 6, .inl bs))] H locs → lv_has ls 4 [(0, .ref m), (1, .int 5), (2, .int x_)] → W zp l ze (zR 0 0) zs zm za zb zt zc H locs 0 0 zq (F0 zm 39 ls [.int y0_0]) := by
    intro y0_0 H locs ls e_y0_0 hG hl
    subst e_y0_0
    refine lv_istore_n (lv' := [(3, .int (j_X8_folds_5_0_0 v bs x_)), (0, .ref m), (1, .int 5), (2, .int x_)]) hx hb dX8_folds_39 rfl hl (by decide) rfl (fun ls hl => ?_)
    refine lv_aload_n hx hb dX8_folds_40 rfl (lv_at hl 1 rfl) ?_
    refine gf_X8_32 C dX8_folds_41 hG 0 rfl rfl ?_
    refine lv_iload_n hx hb dX8_folds_44 rfl (lv_at hl 2 rfl) ?_
    refine lv_iload_n hx hb dX8_folds_45 rfl (lv_at hl 0 rfl) ?_
    have k_1 : ∀ (y1_0 : Int32) (H : Heap) (locs : List Loc) (ls : Array Slot), (j_X8_folds_5_1_0 v bs x_) = y1_0 → zG E zA zs.heap [(m, .inr (8, [.int (v 0), .int (v 1), .ref aS, .int (v 2), .int (v 3), .int (v 4), .ref aW, .int (v 5), .ref aL, .int (v 6), .int (v 7), .int (v 8), .ref aT, .int (v 9), .int (v 10), .int (v 11), .int (v 12), .ref a1, .ref a2, .ref a3, .ref aB, .int (v 13), .int (v 14)])), (aB, .inl (E.2.1.1, 6, .inl bs))] H locs → lv_has ls 4 [(3, .int (j_X8_folds_5_0_0 v bs x_)), (0, .ref m), (1, .int 5), (2, .int x_)] → W zp l ze (zR 0 0) zs zm za zb zt zc H locs 0 0 zq (F0 zm 59 ls [.int y1_0, .int 5, .ref aB]) := by
      intro y1_0 H locs ls e_y1_0 hG hl
      subst e_y1_0
      refine z_ist C dX8_folds_59 hG 1 rfl 5 (by decide) (Nat.le_of_ble_eq_true rfl) (Nat.le_of_ble_eq_true rfl) (ws' := [(m, .inr (8, [.int (v 0), .int (v 1), .ref aS, .int (v 2), .int (v 3), .int (v 4), .ref aW, .int (v 5), .ref aL, .int (v 6), .int (v 7), .int (v 8), .ref aT, .int (v 9), .int (v 10), .int (v 11), .int (v 12), .ref a1, .ref a2, .ref a3, .ref aB, .int (v 13), .int (v 14)])), (aB, .inl (E.2.1.1, 6, .inl (upd bs 5 (j_X8_folds_5_1_0 v bs x_))))]) rfl (fun H locs hG => ?_)
      rw [hQ]
      exact z_vret C hr hlk hG dX8_folds_60 rfl (by rw [o_X8_folds_5_1])
    refine lv_if_eq (tgt := 53) hx hb dX8_folds_46 (by decide) (fun c_3 => ?_) (fun c_3 => ?_)
    · skip
      refine lv_aload_n hx hb dX8_folds_53 rfl (lv_at hl 1 rfl) ?_
      refine gf_X8_32 C dX8_folds_54 hG 0 rfl rfl ?_
      refine lv_iload_n hx hb dX8_folds_57 rfl (lv_at hl 2 rfl) ?_
      refine z_ild C dX8_folds_58 hG 1 rfl 5 (by decide) (Nat.le_of_ble_eq_true rfl) (Nat.le_of_ble_eq_true rfl) ?_
      exact k_1 (bs 5) _ _ _ (by rw [j_X8_folds_5_1_0, if_pos c_3]) hG (lv_sub hl [0, 1, 2, 3] rfl)
    · skip
      refine lv_iload_n hx hb dX8_folds_49 rfl (lv_at hl 3 rfl) ?_
      refine lv_goto (tgt := 59) hx hb dX8_folds_50 (by decide) ?_
      exact k_1 x_ _ _ _ (by rw [j_X8_folds_5_1_0, if_neg c_3]) hG (lv_sub hl [0, 1, 2, 3] rfl)
  refine lv_icmp_ge (tgt := 38) hx hb dX8_folds_31 (by decide) (fun c_2 => ?_) (fun c_2 => ?_)
  · skip
    refine lv_iconst (v := 0) hx hb dX8_folds_38 (by decide) ?_
    exact k_0 0 _ _ _ (by rw [j_X8_folds_5_0_0, if_pos c_2]) hG (lv_sub hl [0, 1, 2] rfl)
  · skip
    refine lv_iconst (v := 1) hx hb dX8_folds_34 (by decide) ?_
    refine lv_goto (tgt := 39) hx hb dX8_folds_35 (by decide) ?_
    exact k_0 1 _ _ _ (by rw [j_X8_folds_5_0_0, if_neg c_2]) hG (lv_sub hl [0, 1, 2] rfl)
def o_X8_forgets_5_1 (v : Nat → Int32) (bs : Nat → Int32) : Nat → Int32 := (upd bs 5 9999)
set_option maxRecDepth 100000 in
set_option maxHeartbeats 4000000 in
theorem c_X8_forgets_5 (l : Launch) (E : zE) (v : Nat → Int32) (bs : Nat → Int32) (m aS aW aL aT a1 a2 a3 aB : Nat) : HM l E yX8_forgets cX8_forgets 2 none 0 0 [.ref m, .int 5] [(m, .inr (8, [.int (v 0), .int (v 1), .ref aS, .int (v 2), .int (v 3), .int (v 4), .ref aW, .int (v 5), .ref aL, .int (v 6), .int (v 7), .int (v 8), .ref aT, .int (v 9), .int (v 10), .int (v 11), .int (v 12), .ref a1, .ref a2, .ref a3, .ref aB, .int (v 13), .int (v 14)])), (aB, .inl (E.2.1.1, 6, .inl bs))] none [(m, .inr (8, [.int (v 0), .int (v 1), .ref aS, .int (v 2), .int (v 3), .int (v 4), .ref aW, .int (v 5), .ref aL, .int (v 6), .int (v 7), .int (v 8), .ref aT, .int (v 9), .int (v 10), .int (v 11), .int (v 12), .ref a1, .ref a2, .ref a3, .ref aB, .int (v 13), .int (v 14)])), (aB, .inl (E.2.1.1, 6, .inl (o_X8_forgets_5_1 v bs)))] := by
  refine HM.of (own := RX8) (plainFor_of_name (by decide)) rfl (Nat.le_of_ble_eq_true rfl) ?_
  intro zp ze zs zm za zb zt zc zA ls H locs zq C hr hlk hG hl hQ
  have hx := C.1.1
  have hb := C.1.2.1
  replace hl : lv_has ls 2 [(0, .ref m), (1, .int 5)] := hl
  refine lv_aload_n hx hb dX8_forgets_0 rfl (lv_at hl 0 rfl) ?_
  refine gf_X8_32 C dX8_forgets_1 hG 0 rfl rfl ?_
  refine lv_iload_n hx hb dX8_forgets_4 rfl (lv_at hl 1 rfl) ?_
  refine lv_iload_n hx hb dX8_forgets_5 rfl (lv_at hl 1 rfl) ?_
  refine lv_iconst (v := 2) hx hb dX8_forgets_6 (by decide) ?_
  refine lv_irem hx hb dX8_forgets_7 (by decide) ?_
  refine z_ti (y := 1) (by decide) ?_
  refine lv_if_ne (tgt := 17) hx hb dX8_forgets_8 (by decide) (fun c_1 => ?_) (fun c_1 => absurd c_1 (by decide))
  refine lv_sipush (v := 9999) hx hb dX8_forgets_17 (by decide) ?_
  refine z_ist C dX8_forgets_20 hG 1 rfl 5 (by decide) (Nat.le_of_ble_eq_true rfl) (Nat.le_of_ble_eq_true rfl) (ws' := [(m, .inr (8, [.int (v 0), .int (v 1), .ref aS, .int (v 2), .int (v 3), .int (v 4), .ref aW, .int (v 5), .ref aL, .int (v 6), .int (v 7), .int (v 8), .ref aT, .int (v 9), .int (v 10), .int (v 11), .int (v 12), .ref a1, .ref a2, .ref a3, .ref aB, .int (v 13), .int (v 14)])), (aB, .inl (E.2.1.1, 6, .inl (upd bs 5 9999)))]) rfl (fun H locs hG => ?_)
  rw [hQ]
  exact z_vret C hr hlk hG dX8_forgets_21 rfl (by rw [o_X8_forgets_5_1])
def o_X8_see_r (v : Nat → Int32) (f1 : Nat → Int32) (f2 : Nat → Int32) (f3 : Nat → Int32) (p : Int32) (t : Int32) (h : Int32) (ns : Nat) : Int32 := (if (o_X8_isOne_r p) = 0 then (-1) else (if (o_X8_in_r t.toInt64 1 24) = 0 then (-1) else (if (o_X8_in_r h.toInt64 0 60) = 0 then (-1) else (if (v 12) = 6 then (-3) else ((v 12) + 1)))))
def o_X8_see_v (v : Nat → Int32) (f1 : Nat → Int32) (f2 : Nat → Int32) (f3 : Nat → Int32) (p : Int32) (t : Int32) (h : Int32) (ns : Nat) : Nat → Int32 := (if (o_X8_isOne_r p) = 0 then v else (if (o_X8_in_r t.toInt64 1 24) = 0 then v else (if (o_X8_in_r h.toInt64 0 60) = 0 then v else (if (v 12) = 6 then v else (mkG15 (v 0) (v 1) (v 2) (v 3) (v 4) (v 5) (v 6) (v 7) (v 8) (v 9) (v 10) (v 11) ((v 12) + 1) (v 13) (v 14))))))
def o_X8_see_1 (v : Nat → Int32) (f1 : Nat → Int32) (f2 : Nat → Int32) (f3 : Nat → Int32) (p : Int32) (t : Int32) (h : Int32) (ns : Nat) : Nat → Int32 := (if (o_X8_isOne_r p) = 0 then f1 else (if (o_X8_in_r t.toInt64 1 24) = 0 then f1 else (if (o_X8_in_r h.toInt64 0 60) = 0 then f1 else (if (v 12) = 6 then f1 else (upd f1 ns p)))))
def o_X8_see_2 (v : Nat → Int32) (f1 : Nat → Int32) (f2 : Nat → Int32) (f3 : Nat → Int32) (p : Int32) (t : Int32) (h : Int32) (ns : Nat) : Nat → Int32 := (if (o_X8_isOne_r p) = 0 then f2 else (if (o_X8_in_r t.toInt64 1 24) = 0 then f2 else (if (o_X8_in_r h.toInt64 0 60) = 0 then f2 else (if (v 12) = 6 then f2 else (upd f2 ns t)))))
def o_X8_see_3 (v : Nat → Int32) (f1 : Nat → Int32) (f2 : Nat → Int32) (f3 : Nat → Int32) (p : Int32) (t : Int32) (h : Int32) (ns : Nat) : Nat → Int32 := (if (o_X8_isOne_r p) = 0 then f3 else (if (o_X8_in_r t.toInt64 1 24) = 0 then f3 else (if (o_X8_in_r h.toInt64 0 60) = 0 then f3 else (if (v 12) = 6 then f3 else (upd f3 ns h)))))
set_option maxRecDepth 100000 in
set_option maxHeartbeats 4000000 in
theorem c_X8_see (l : Launch) (E : zE) (v : Nat → Int32) (f1 : Nat → Int32) (f2 : Nat → Int32) (f3 : Nat → Int32) (p : Int32) (t : Int32) (h : Int32) (ns : Nat) (m aS aW aL aT a1 a2 a3 aB : Nat) (hz : v 12 = nI ns) (hz6 : ns ≤ 6) : HM l E yX8_see cX8_see 4 (some .int) 2 45 [.ref m, .int p, .int t, .int h] [(m, .inr (8, [.int (v 0), .int (v 1), .ref aS, .int (v 2), .int (v 3), .int (v 4), .ref aW, .int (v 5), .ref aL, .int (v 6), .int (v 7), .int (v 8), .ref aT, .int (v 9), .int (v 10), .int (v 11), .int (v 12), .ref a1, .ref a2, .ref a3, .ref aB, .int (v 13), .int (v 14)])), (a1, .inl (E.2.1.1, 6, .inl f1)), (a2, .inl (E.2.1.1, 6, .inl f2)), (a3, .inl (E.2.1.1, 6, .inl f3))] (some (.int (o_X8_see_r v f1 f2 f3 p t h ns))) [(m, .inr (8, [.int (o_X8_see_v v f1 f2 f3 p t h ns 0), .int (o_X8_see_v v f1 f2 f3 p t h ns 1), .ref aS, .int (o_X8_see_v v f1 f2 f3 p t h ns 2), .int (o_X8_see_v v f1 f2 f3 p t h ns 3), .int (o_X8_see_v v f1 f2 f3 p t h ns 4), .ref aW, .int (o_X8_see_v v f1 f2 f3 p t h ns 5), .ref aL, .int (o_X8_see_v v f1 f2 f3 p t h ns 6), .int (o_X8_see_v v f1 f2 f3 p t h ns 7), .int (o_X8_see_v v f1 f2 f3 p t h ns 8), .ref aT, .int (o_X8_see_v v f1 f2 f3 p t h ns 9), .int (o_X8_see_v v f1 f2 f3 p t h ns 10), .int (o_X8_see_v v f1 f2 f3 p t h ns 11), .int (o_X8_see_v v f1 f2 f3 p t h ns 12), .ref a1, .ref a2, .ref a3, .ref aB, .int (o_X8_see_v v f1 f2 f3 p t h ns 13), .int (o_X8_see_v v f1 f2 f3 p t h ns 14)])), (a1, .inl (E.2.1.1, 6, .inl (o_X8_see_1 v f1 f2 f3 p t h ns))), (a2, .inl (E.2.1.1, 6, .inl (o_X8_see_2 v f1 f2 f3 p t h ns))), (a3, .inl (E.2.1.1, 6, .inl (o_X8_see_3 v f1 f2 f3 p t h ns)))] := by
  refine HM.of (own := RX8) (plainFor_of_name (by decide)) rfl (Nat.le_of_ble_eq_true rfl) ?_
  intro zp ze zs zm za zb zt zc zA ls H locs zq C hr hlk hG hl hQ
  have hx := C.1.1
  have hb := C.1.2.1
  replace hl : lv_has ls 4 [(0, .ref m), (1, .int p), (2, .int t), (3, .int h)] := hl
  refine lv_iload_n hx hb dX8_see_0 rfl (lv_at hl 1 rfl) ?_
  refine call_X8_121 C dX8_see_1 (c_X8_isOne l E p) hl hG [] (by decide) rfl (ads := []) rfl rfl (ws' := [(m, .inr (8, [.int (v 0), .int (v 1), .ref aS, .int (v 2), .int (v 3), .int (v 4), .ref aW, .int (v 5), .ref aL, .int (v 6), .int (v 7), .int (v 8), .ref aT, .int (v 9), .int (v 10), .int (v 11), .int (v 12), .ref a1, .ref a2, .ref a3, .ref aB, .int (v 13), .int (v 14)])), (a1, .inl (E.2.1.1, 6, .inl f1)), (a2, .inl (E.2.1.1, 6, .inl f2)), (a3, .inl (E.2.1.1, 6, .inl f3))]) rfl rfl (rest := []) rfl (Nat.le_of_ble_eq_true rfl) ⟨Nat.le_of_ble_eq_true rfl, Nat.le_of_ble_eq_true rfl⟩ (fun H locs hG => ?_)
  refine lv_if_eq (tgt := 31) hx hb dX8_see_4 (by decide) (fun c_1 => ?_) (fun c_1 => ?_)
  · skip
    refine lv_iconst (v := (-1)) hx hb dX8_see_31 (by decide) ?_
    rw [hQ]
    exact z_iret C hr hlk hG dX8_see_32 rfl (by rw [o_X8_see_r, if_pos c_1]) (by rw [o_X8_see_v, if_pos c_1, o_X8_see_1, if_pos c_1, o_X8_see_2, if_pos c_1, o_X8_see_3, if_pos c_1])
  · skip
    refine lv_iload_n hx hb dX8_see_7 rfl (lv_at hl 2 rfl) ?_
    refine lv_i2l (v := t.toInt64) hx hb dX8_see_8 rfl ?_
    refine lv_lconst (v := 1) hx hb dX8_see_9 (by decide) ?_
    refine lv_ldc2 (v := 24) hx hb C.1.2.2.2.1 (C.1.2.2.2.2 _ (inr22 _ (List.mem_of_getElem? (i := 5) rfl))) dX8_see_10 ?_
    refine call_X8_49 C dX8_see_13 (c_X8_in l E t.toInt64 1 24) hl hG [] (by decide) rfl (ads := []) rfl rfl (ws' := [(m, .inr (8, [.int (v 0), .int (v 1), .ref aS, .int (v 2), .int (v 3), .int (v 4), .ref aW, .int (v 5), .ref aL, .int (v 6), .int (v 7), .int (v 8), .ref aT, .int (v 9), .int (v 10), .int (v 11), .int (v 12), .ref a1, .ref a2, .ref a3, .ref aB, .int (v 13), .int (v 14)])), (a1, .inl (E.2.1.1, 6, .inl f1)), (a2, .inl (E.2.1.1, 6, .inl f2)), (a3, .inl (E.2.1.1, 6, .inl f3))]) rfl rfl (rest := []) rfl (Nat.le_of_ble_eq_true rfl) ⟨Nat.le_of_ble_eq_true rfl, Nat.le_of_ble_eq_true rfl⟩ (fun H locs hG => ?_)
    refine lv_if_eq (tgt := 31) hx hb dX8_see_16 (by decide) (fun c_2 => ?_) (fun c_2 => ?_)
    · skip
      refine lv_iconst (v := (-1)) hx hb dX8_see_31 (by decide) ?_
      rw [hQ]
      exact z_iret C hr hlk hG dX8_see_32 rfl (by rw [o_X8_see_r, if_neg c_1, if_pos c_2]) (by rw [o_X8_see_v, if_neg c_1, if_pos c_2, o_X8_see_1, if_neg c_1, if_pos c_2, o_X8_see_2, if_neg c_1, if_pos c_2, o_X8_see_3, if_neg c_1, if_pos c_2])
    · skip
      refine lv_iload_n hx hb dX8_see_19 rfl (lv_at hl 3 rfl) ?_
      refine lv_i2l (v := h.toInt64) hx hb dX8_see_20 rfl ?_
      refine lv_lconst (v := 0) hx hb dX8_see_21 (by decide) ?_
      refine lv_ldc2 (v := 60) hx hb C.1.2.2.2.1 (C.1.2.2.2.2 _ (inr29 _ (List.mem_of_getElem? (i := 15) rfl))) dX8_see_22 ?_
      refine call_X8_49 C dX8_see_25 (c_X8_in l E h.toInt64 0 60) hl hG [] (by decide) rfl (ads := []) rfl rfl (ws' := [(m, .inr (8, [.int (v 0), .int (v 1), .ref aS, .int (v 2), .int (v 3), .int (v 4), .ref aW, .int (v 5), .ref aL, .int (v 6), .int (v 7), .int (v 8), .ref aT, .int (v 9), .int (v 10), .int (v 11), .int (v 12), .ref a1, .ref a2, .ref a3, .ref aB, .int (v 13), .int (v 14)])), (a1, .inl (E.2.1.1, 6, .inl f1)), (a2, .inl (E.2.1.1, 6, .inl f2)), (a3, .inl (E.2.1.1, 6, .inl f3))]) rfl rfl (rest := []) rfl (Nat.le_of_ble_eq_true rfl) ⟨Nat.le_of_ble_eq_true rfl, Nat.le_of_ble_eq_true rfl⟩ (fun H locs hG => ?_)
      refine lv_if_ne (tgt := 33) hx hb dX8_see_28 (by decide) (fun c_3 => ?_) (fun c_3 => ?_)
      · skip
        refine lv_aload_n hx hb dX8_see_33 rfl (lv_at hl 0 rfl) ?_
        refine gf_X8_111 C dX8_see_34 hG 0 rfl rfl ?_
        refine lv_bipush (v := 6) hx hb dX8_see_37 (by decide) ?_
        refine lv_icmp_ne (tgt := 45) hx hb dX8_see_39 (by decide) (fun c_4 => ?_) (fun c_4 => ?_)
        · skip
          refine lv_aload_n hx hb dX8_see_45 rfl (lv_at hl 0 rfl) ?_
          refine gf_X8_23 C dX8_see_46 hG 0 rfl rfl ?_
          refine lv_aload_n hx hb dX8_see_49 rfl (lv_at hl 0 rfl) ?_
          refine gf_X8_111 C dX8_see_50 hG 0 rfl rfl ?_
          refine lv_iload_n hx hb dX8_see_53 rfl (lv_at hl 1 rfl) ?_
          refine z_ist C dX8_see_54 hG 1 rfl ns hz (z_lt6 hz hz6 c_4) (Nat.le_of_ble_eq_true rfl) (ws' := [(m, .inr (8, [.int (v 0), .int (v 1), .ref aS, .int (v 2), .int (v 3), .int (v 4), .ref aW, .int (v 5), .ref aL, .int (v 6), .int (v 7), .int (v 8), .ref aT, .int (v 9), .int (v 10), .int (v 11), .int (v 12), .ref a1, .ref a2, .ref a3, .ref aB, .int (v 13), .int (v 14)])), (a1, .inl (E.2.1.1, 6, .inl (upd f1 ns p))), (a2, .inl (E.2.1.1, 6, .inl f2)), (a3, .inl (E.2.1.1, 6, .inl f3))]) rfl (fun H locs hG => ?_)
          refine lv_aload_n hx hb dX8_see_55 rfl (lv_at hl 0 rfl) ?_
          refine gf_X8_26 C dX8_see_56 hG 0 rfl rfl ?_
          refine lv_aload_n hx hb dX8_see_59 rfl (lv_at hl 0 rfl) ?_
          refine gf_X8_111 C dX8_see_60 hG 0 rfl rfl ?_
          refine lv_iload_n hx hb dX8_see_63 rfl (lv_at hl 2 rfl) ?_
          refine z_ist C dX8_see_64 hG 2 rfl ns hz (z_lt6 hz hz6 c_4) (Nat.le_of_ble_eq_true rfl) (ws' := [(m, .inr (8, [.int (v 0), .int (v 1), .ref aS, .int (v 2), .int (v 3), .int (v 4), .ref aW, .int (v 5), .ref aL, .int (v 6), .int (v 7), .int (v 8), .ref aT, .int (v 9), .int (v 10), .int (v 11), .int (v 12), .ref a1, .ref a2, .ref a3, .ref aB, .int (v 13), .int (v 14)])), (a1, .inl (E.2.1.1, 6, .inl (upd f1 ns p))), (a2, .inl (E.2.1.1, 6, .inl (upd f2 ns t))), (a3, .inl (E.2.1.1, 6, .inl f3))]) rfl (fun H locs hG => ?_)
          refine lv_aload_n hx hb dX8_see_65 rfl (lv_at hl 0 rfl) ?_
          refine gf_X8_29 C dX8_see_66 hG 0 rfl rfl ?_
          refine lv_aload_n hx hb dX8_see_69 rfl (lv_at hl 0 rfl) ?_
          refine gf_X8_111 C dX8_see_70 hG 0 rfl rfl ?_
          refine lv_iload_n hx hb dX8_see_73 rfl (lv_at hl 3 rfl) ?_
          refine z_ist C dX8_see_74 hG 3 rfl ns hz (z_lt6 hz hz6 c_4) (Nat.le_of_ble_eq_true rfl) (ws' := [(m, .inr (8, [.int (v 0), .int (v 1), .ref aS, .int (v 2), .int (v 3), .int (v 4), .ref aW, .int (v 5), .ref aL, .int (v 6), .int (v 7), .int (v 8), .ref aT, .int (v 9), .int (v 10), .int (v 11), .int (v 12), .ref a1, .ref a2, .ref a3, .ref aB, .int (v 13), .int (v 14)])), (a1, .inl (E.2.1.1, 6, .inl (upd f1 ns p))), (a2, .inl (E.2.1.1, 6, .inl (upd f2 ns t))), (a3, .inl (E.2.1.1, 6, .inl (upd f3 ns h)))]) rfl (fun H locs hG => ?_)
          refine lv_aload_n hx hb dX8_see_75 rfl (lv_at hl 0 rfl) ?_
          refine lv_dup hx hb dX8_see_76 rfl ?_
          refine gf_X8_111 C dX8_see_77 hG 0 rfl rfl ?_
          refine lv_iconst (v := 1) hx hb dX8_see_80 (by decide) ?_
          refine lv_iadd hx hb dX8_see_81 ?_
          refine pf_X8_111 C dX8_see_82 hG 0 rfl (Nat.le_of_ble_eq_true rfl) (ws' := [(m, .inr (8, [.int (v 0), .int (v 1), .ref aS, .int (v 2), .int (v 3), .int (v 4), .ref aW, .int (v 5), .ref aL, .int (v 6), .int (v 7), .int (v 8), .ref aT, .int (v 9), .int (v 10), .int (v 11), .int ((v 12) + 1), .ref a1, .ref a2, .ref a3, .ref aB, .int (v 13), .int (v 14)])), (a1, .inl (E.2.1.1, 6, .inl (upd f1 ns p))), (a2, .inl (E.2.1.1, 6, .inl (upd f2 ns t))), (a3, .inl (E.2.1.1, 6, .inl (upd f3 ns h)))]) rfl (fun H locs hG => ?_)
          refine lv_aload_n hx hb dX8_see_85 rfl (lv_at hl 0 rfl) ?_
          refine gf_X8_111 C dX8_see_86 hG 0 rfl rfl ?_
          rw [hQ]
          exact z_iret C hr hlk hG dX8_see_89 rfl (by rw [o_X8_see_r, if_neg c_1, if_neg c_2, if_neg c_3, if_neg c_4]) (by rw [o_X8_see_v, if_neg c_1, if_neg c_2, if_neg c_3, if_neg c_4, mkG15_0, mkG15_1, mkG15_2, mkG15_3, mkG15_4, mkG15_5, mkG15_6, mkG15_7, mkG15_8, mkG15_9, mkG15_10, mkG15_11, mkG15_12, mkG15_13, mkG15_14, o_X8_see_1, if_neg c_1, if_neg c_2, if_neg c_3, if_neg c_4, o_X8_see_2, if_neg c_1, if_neg c_2, if_neg c_3, if_neg c_4, o_X8_see_3, if_neg c_1, if_neg c_2, if_neg c_3, if_neg c_4])
        · skip
          refine lv_bipush (v := (-3)) hx hb dX8_see_42 (by decide) ?_
          rw [hQ]
          exact z_iret C hr hlk hG dX8_see_44 rfl (by rw [o_X8_see_r, if_neg c_1, if_neg c_2, if_neg c_3, if_pos c_4]) (by rw [o_X8_see_v, if_neg c_1, if_neg c_2, if_neg c_3, if_pos c_4, o_X8_see_1, if_neg c_1, if_neg c_2, if_neg c_3, if_pos c_4, o_X8_see_2, if_neg c_1, if_neg c_2, if_neg c_3, if_pos c_4, o_X8_see_3, if_neg c_1, if_neg c_2, if_neg c_3, if_pos c_4])
      · skip
        refine lv_iconst (v := (-1)) hx hb dX8_see_31 (by decide) ?_
        rw [hQ]
        exact z_iret C hr hlk hG dX8_see_32 rfl (by rw [o_X8_see_r, if_neg c_1, if_neg c_2, if_pos c_3]) (by rw [o_X8_see_v, if_neg c_1, if_neg c_2, if_pos c_3, o_X8_see_1, if_neg c_1, if_neg c_2, if_pos c_3, o_X8_see_2, if_neg c_1, if_neg c_2, if_pos c_3, o_X8_see_3, if_neg c_1, if_neg c_2, if_pos c_3])
def o_X8_forget_r (v : Nat → Int32) : Int32 := (v 12)
def o_X8_forget_v (v : Nat → Int32) : Nat → Int32 := (mkG15 (v 0) (v 1) (v 2) (v 3) (v 4) (v 5) (v 6) (v 7) (v 8) (v 9) (v 10) (v 11) 0 (v 13) (v 14))
set_option maxRecDepth 100000 in
set_option maxHeartbeats 4000000 in
theorem c_X8_forget (l : Launch) (E : zE) (v : Nat → Int32) (m aS aW aL aT a1 a2 a3 aB : Nat) : HM l E yX8_forget cX8_forget 2 (some .int) 0 0 [.ref m] [(m, .inr (8, [.int (v 0), .int (v 1), .ref aS, .int (v 2), .int (v 3), .int (v 4), .ref aW, .int (v 5), .ref aL, .int (v 6), .int (v 7), .int (v 8), .ref aT, .int (v 9), .int (v 10), .int (v 11), .int (v 12), .ref a1, .ref a2, .ref a3, .ref aB, .int (v 13), .int (v 14)]))] (some (.int (o_X8_forget_r v))) [(m, .inr (8, [.int (o_X8_forget_v v 0), .int (o_X8_forget_v v 1), .ref aS, .int (o_X8_forget_v v 2), .int (o_X8_forget_v v 3), .int (o_X8_forget_v v 4), .ref aW, .int (o_X8_forget_v v 5), .ref aL, .int (o_X8_forget_v v 6), .int (o_X8_forget_v v 7), .int (o_X8_forget_v v 8), .ref aT, .int (o_X8_forget_v v 9), .int (o_X8_forget_v v 10), .int (o_X8_forget_v v 11), .int (o_X8_forget_v v 12), .ref a1, .ref a2, .ref a3, .ref aB, .int (o_X8_forget_v v 13), .int (o_X8_forget_v v 14)]))] := by
  refine HM.of (own := RX8) (plainFor_of_name (by decide)) rfl (Nat.le_of_ble_eq_true rfl) ?_
  intro zp ze zs zm za zb zt zc zA ls H locs zq C hr hlk hG hl hQ
  have hx := C.1.1
  have hb := C.1.2.1
  replace hl : lv_has ls 2 [(0, .ref m)] := hl
  refine lv_aload_n hx hb dX8_forget_0 rfl (lv_at hl 0 rfl) ?_
  refine gf_X8_111 C dX8_forget_1 hG 0 rfl rfl ?_
  refine lv_istore_n (lv' := [(1, .int (v 12)), (0, .ref m)]) hx hb dX8_forget_4 rfl hl (by decide) rfl (fun ls hl => ?_)
  refine lv_aload_n hx hb dX8_forget_5 rfl (lv_at hl 1 rfl) ?_
  refine lv_iconst (v := 0) hx hb dX8_forget_6 (by decide) ?_
  refine pf_X8_111 C dX8_forget_7 hG 0 rfl (Nat.le_of_ble_eq_true rfl) (ws' := [(m, .inr (8, [.int (v 0), .int (v 1), .ref aS, .int (v 2), .int (v 3), .int (v 4), .ref aW, .int (v 5), .ref aL, .int (v 6), .int (v 7), .int (v 8), .ref aT, .int (v 9), .int (v 10), .int (v 11), .int 0, .ref a1, .ref a2, .ref a3, .ref aB, .int (v 13), .int (v 14)]))]) rfl (fun H locs hG => ?_)
  refine lv_iload_n hx hb dX8_forget_10 rfl (lv_at hl 0 rfl) ?_
  rw [hQ]
  exact z_iret C hr hlk hG dX8_forget_11 rfl (by rw [o_X8_forget_r]) (by rw [o_X8_forget_v, mkG15_0, mkG15_1, mkG15_2, mkG15_3, mkG15_4, mkG15_5, mkG15_6, mkG15_7, mkG15_8, mkG15_9, mkG15_10, mkG15_11, mkG15_12, mkG15_13, mkG15_14])
def o_X8_keep_r (v : Nat → Int32) (sl : Nat → Int32) (nk : Nat) : Int32 := (if (v 7) = 2 then (-3) else ((v 7) + 1))
def o_X8_keep_v (v : Nat → Int32) (sl : Nat → Int32) (nk : Nat) : Nat → Int32 := (if (v 7) = 2 then v else (mkG15 (v 0) (v 1) (v 2) (v 3) (v 4) (v 5) (v 6) ((v 7) + 1) (v 8) (v 9) (v 10) (v 11) (v 12) (v 13) (v 14)))
def o_X8_keep_1 (v : Nat → Int32) (sl : Nat → Int32) (nk : Nat) : Nat → Int32 := (if (v 7) = 2 then sl else (cp13 sl 0 (13 * (9 + nk))))
set_option maxRecDepth 100000 in
set_option maxHeartbeats 4000000 in
theorem c_X8_keep (l : Launch) (E : zE) (v : Nat → Int32) (sl : Nat → Int32) (nk : Nat) (m aS aW aL aT a1 a2 a3 aB : Nat) (hnk : v 7 = nI nk) (hk2 : nk ≤ 2) : HM l E yX8_keep cX8_keep 1 (some .int) 1 23 [.ref m] [(m, .inr (8, [.int (v 0), .int (v 1), .ref aS, .int (v 2), .int (v 3), .int (v 4), .ref aW, .int (v 5), .ref aL, .int (v 6), .int (v 7), .int (v 8), .ref aT, .int (v 9), .int (v 10), .int (v 11), .int (v 12), .ref a1, .ref a2, .ref a3, .ref aB, .int (v 13), .int (v 14)])), (aL, .inl (E.2.1.1, 156, .inl sl))] (some (.int (o_X8_keep_r v sl nk))) [(m, .inr (8, [.int (o_X8_keep_v v sl nk 0), .int (o_X8_keep_v v sl nk 1), .ref aS, .int (o_X8_keep_v v sl nk 2), .int (o_X8_keep_v v sl nk 3), .int (o_X8_keep_v v sl nk 4), .ref aW, .int (o_X8_keep_v v sl nk 5), .ref aL, .int (o_X8_keep_v v sl nk 6), .int (o_X8_keep_v v sl nk 7), .int (o_X8_keep_v v sl nk 8), .ref aT, .int (o_X8_keep_v v sl nk 9), .int (o_X8_keep_v v sl nk 10), .int (o_X8_keep_v v sl nk 11), .int (o_X8_keep_v v sl nk 12), .ref a1, .ref a2, .ref a3, .ref aB, .int (o_X8_keep_v v sl nk 13), .int (o_X8_keep_v v sl nk 14)])), (aL, .inl (E.2.1.1, 156, .inl (o_X8_keep_1 v sl nk)))] := by
  refine HM.of (own := RX8) (plainFor_of_name (by decide)) rfl (Nat.le_of_ble_eq_true rfl) ?_
  intro zp ze zs zm za zb zt zc zA ls H locs zq C hr hlk hG hl hQ
  have hx := C.1.1
  have hb := C.1.2.1
  replace hl : lv_has ls 1 [(0, .ref m)] := hl
  refine lv_aload_n hx hb dX8_keep_0 rfl (lv_at hl 0 rfl) ?_
  refine gf_X8_108 C dX8_keep_1 hG 0 rfl rfl ?_
  refine lv_iconst (v := 2) hx hb dX8_keep_4 (by decide) ?_
  refine lv_icmp_ne (tgt := 11) hx hb dX8_keep_5 (by decide) (fun c_1 => ?_) (fun c_1 => ?_)
  · skip
    have hlt2 : nk < 2 := z_lt2 hnk hk2 c_1
    refine lv_aload_n hx hb dX8_keep_11 rfl (lv_at hl 0 rfl) ?_
    refine lv_iconst (v := 0) hx hb dX8_keep_12 (by decide) ?_
    refine lv_bipush (v := 9) hx hb dX8_keep_13 (by decide) ?_
    refine lv_aload_n hx hb dX8_keep_15 rfl (lv_at hl 0 rfl) ?_
    refine gf_X8_108 C dX8_keep_16 hG 0 rfl rfl ?_
    refine lv_iadd hx hb dX8_keep_19 ?_
    refine lv_bipush (v := 13) hx hb dX8_keep_20 (by decide) ?_
    refine lv_imul hx hb dX8_keep_22 ?_
    refine z_ti (y := (nI (13 * (9 + nk)))) (by rw [hnk]; exact z_913 nk) ?_
    refine call_X8_101 C dX8_keep_23 (c_X8_copies_t l E v sl 0 (13 * (9 + nk)) m aS aW aL aT a1 a2 a3 aB (by omega) (by omega) (by omega)) hl hG 0 rfl [0, 1] (by decide) rfl (ads := [m, aL]) rfl rfl (ws' := [(m, .inr (8, [.int (v 0), .int (v 1), .ref aS, .int (v 2), .int (v 3), .int (v 4), .ref aW, .int (v 5), .ref aL, .int (v 6), .int (v 7), .int (v 8), .ref aT, .int (v 9), .int (v 10), .int (v 11), .int (v 12), .ref a1, .ref a2, .ref a3, .ref aB, .int (v 13), .int (v 14)])), (aL, .inl (E.2.1.1, 156, .inl (cp13 sl 0 (13 * (9 + nk)))))]) rfl rfl (rest := []) rfl (Nat.le_of_ble_eq_true rfl) ⟨Nat.le_of_ble_eq_true rfl, Nat.le_of_ble_eq_true rfl⟩ (fun H locs hG => ?_)
    refine lv_aload_n hx hb dX8_keep_26 rfl (lv_at hl 0 rfl) ?_
    refine lv_dup hx hb dX8_keep_27 rfl ?_
    refine gf_X8_108 C dX8_keep_28 hG 0 rfl rfl ?_
    refine lv_iconst (v := 1) hx hb dX8_keep_31 (by decide) ?_
    refine lv_iadd hx hb dX8_keep_32 ?_
    refine pf_X8_108 C dX8_keep_33 hG 0 rfl (Nat.le_of_ble_eq_true rfl) (ws' := [(m, .inr (8, [.int (v 0), .int (v 1), .ref aS, .int (v 2), .int (v 3), .int (v 4), .ref aW, .int (v 5), .ref aL, .int (v 6), .int ((v 7) + 1), .int (v 8), .ref aT, .int (v 9), .int (v 10), .int (v 11), .int (v 12), .ref a1, .ref a2, .ref a3, .ref aB, .int (v 13), .int (v 14)])), (aL, .inl (E.2.1.1, 156, .inl (cp13 sl 0 (13 * (9 + nk)))))]) rfl (fun H locs hG => ?_)
    refine lv_aload_n hx hb dX8_keep_36 rfl (lv_at hl 0 rfl) ?_
    refine gf_X8_108 C dX8_keep_37 hG 0 rfl rfl ?_
    rw [hQ]
    exact z_iret C hr hlk hG dX8_keep_40 rfl (by rw [o_X8_keep_r, if_neg c_1]) (by rw [o_X8_keep_v, if_neg c_1, mkG15_0, mkG15_1, mkG15_2, mkG15_3, mkG15_4, mkG15_5, mkG15_6, mkG15_7, mkG15_8, mkG15_9, mkG15_10, mkG15_11, mkG15_12, mkG15_13, mkG15_14, o_X8_keep_1, if_neg c_1])
  · skip
    refine lv_bipush (v := (-3)) hx hb dX8_keep_8 (by decide) ?_
    rw [hQ]
    exact z_iret C hr hlk hG dX8_keep_10 rfl (by rw [o_X8_keep_r, if_pos c_1]) (by rw [o_X8_keep_v, if_pos c_1, o_X8_keep_1, if_pos c_1])
def o_X8_back_r (v : Nat → Int32) (sl : Nat → Int32) (nk : Nat) : Int32 := (if (v 7) = 0 then (-2) else ((v 7) - 1))
def o_X8_back_v (v : Nat → Int32) (sl : Nat → Int32) (nk : Nat) : Nat → Int32 := (if (v 7) = 0 then v else (mkG15 (v 0) (v 1) (v 2) (v 3) (v 4) (v 5) 0 ((v 7) - 1) (v 8) (v 9) (v 10) (v 11) (v 12) (v 13) (v 14)))
def o_X8_back_1 (v : Nat → Int32) (sl : Nat → Int32) (nk : Nat) : Nat → Int32 := (if (v 7) = 0 then sl else (cp13 sl (13 * (9 + (nk - 1))) 0))
set_option maxRecDepth 100000 in
set_option maxHeartbeats 4000000 in
theorem c_X8_back (l : Launch) (E : zE) (v : Nat → Int32) (sl : Nat → Int32) (nk : Nat) (m aS aW aL aT a1 a2 a3 aB : Nat) (hnk : v 7 = nI nk) (hk2 : nk ≤ 2) : HM l E yX8_back cX8_back 1 (some .int) 1 23 [.ref m] [(m, .inr (8, [.int (v 0), .int (v 1), .ref aS, .int (v 2), .int (v 3), .int (v 4), .ref aW, .int (v 5), .ref aL, .int (v 6), .int (v 7), .int (v 8), .ref aT, .int (v 9), .int (v 10), .int (v 11), .int (v 12), .ref a1, .ref a2, .ref a3, .ref aB, .int (v 13), .int (v 14)])), (aL, .inl (E.2.1.1, 156, .inl sl))] (some (.int (o_X8_back_r v sl nk))) [(m, .inr (8, [.int (o_X8_back_v v sl nk 0), .int (o_X8_back_v v sl nk 1), .ref aS, .int (o_X8_back_v v sl nk 2), .int (o_X8_back_v v sl nk 3), .int (o_X8_back_v v sl nk 4), .ref aW, .int (o_X8_back_v v sl nk 5), .ref aL, .int (o_X8_back_v v sl nk 6), .int (o_X8_back_v v sl nk 7), .int (o_X8_back_v v sl nk 8), .ref aT, .int (o_X8_back_v v sl nk 9), .int (o_X8_back_v v sl nk 10), .int (o_X8_back_v v sl nk 11), .int (o_X8_back_v v sl nk 12), .ref a1, .ref a2, .ref a3, .ref aB, .int (o_X8_back_v v sl nk 13), .int (o_X8_back_v v sl nk 14)])), (aL, .inl (E.2.1.1, 156, .inl (o_X8_back_1 v sl nk)))] := by
  refine HM.of (own := RX8) (plainFor_of_name (by decide)) rfl (Nat.le_of_ble_eq_true rfl) ?_
  intro zp ze zs zm za zb zt zc zA ls H locs zq C hr hlk hG hl hQ
  have hx := C.1.1
  have hb := C.1.2.1
  replace hl : lv_has ls 1 [(0, .ref m)] := hl
  refine lv_aload_n hx hb dX8_back_0 rfl (lv_at hl 0 rfl) ?_
  refine gf_X8_108 C dX8_back_1 hG 0 rfl rfl ?_
  refine lv_if_ne (tgt := 10) hx hb dX8_back_4 (by decide) (fun c_1 => ?_) (fun c_1 => ?_)
  · skip
    have hpos : 1 ≤ nk := z_actpos hnk c_1
    refine lv_aload_n hx hb dX8_back_10 rfl (lv_at hl 0 rfl) ?_
    refine lv_dup hx hb dX8_back_11 rfl ?_
    refine gf_X8_108 C dX8_back_12 hG 0 rfl rfl ?_
    refine lv_iconst (v := 1) hx hb dX8_back_15 (by decide) ?_
    refine lv_isub hx hb dX8_back_16 ?_
    refine pf_X8_108 C dX8_back_17 hG 0 rfl (Nat.le_of_ble_eq_true rfl) (ws' := [(m, .inr (8, [.int (v 0), .int (v 1), .ref aS, .int (v 2), .int (v 3), .int (v 4), .ref aW, .int (v 5), .ref aL, .int (v 6), .int ((v 7) - 1), .int (v 8), .ref aT, .int (v 9), .int (v 10), .int (v 11), .int (v 12), .ref a1, .ref a2, .ref a3, .ref aB, .int (v 13), .int (v 14)])), (aL, .inl (E.2.1.1, 156, .inl sl))]) rfl (fun H locs hG => ?_)
    refine lv_aload_n hx hb dX8_back_20 rfl (lv_at hl 0 rfl) ?_
    refine lv_bipush (v := 9) hx hb dX8_back_21 (by decide) ?_
    refine lv_aload_n hx hb dX8_back_23 rfl (lv_at hl 0 rfl) ?_
    refine gf_X8_108 C dX8_back_24 hG 0 rfl rfl ?_
    refine lv_iadd hx hb dX8_back_27 ?_
    refine lv_bipush (v := 13) hx hb dX8_back_28 (by decide) ?_
    refine lv_imul hx hb dX8_back_30 ?_
    refine z_ti (y := (nI (13 * (9 + (nk - 1))))) (by rw [hnk]; exact z_913m nk hpos) ?_
    refine lv_iconst (v := 0) hx hb dX8_back_31 (by decide) ?_
    refine call_X8_101 C dX8_back_32 (c_X8_copies_t l E (mkG15 (v 0) (v 1) (v 2) (v 3) (v 4) (v 5) (v 6) ((v 7) - 1) (v 8) (v 9) (v 10) (v 11) (v 12) (v 13) (v 14)) sl (13 * (9 + (nk - 1))) 0 m aS aW aL aT a1 a2 a3 aB (by omega) (by omega) (by omega)) hl hG 0 rfl [0, 1] (by decide) rfl (ads := [m, aL]) rfl rfl (ws' := [(m, .inr (8, [.int (v 0), .int (v 1), .ref aS, .int (v 2), .int (v 3), .int (v 4), .ref aW, .int (v 5), .ref aL, .int (v 6), .int ((v 7) - 1), .int (v 8), .ref aT, .int (v 9), .int (v 10), .int (v 11), .int (v 12), .ref a1, .ref a2, .ref a3, .ref aB, .int (v 13), .int (v 14)])), (aL, .inl (E.2.1.1, 156, .inl (cp13 sl (13 * (9 + (nk - 1))) 0)))]) rfl rfl (rest := []) rfl (Nat.le_of_ble_eq_true rfl) ⟨Nat.le_of_ble_eq_true rfl, Nat.le_of_ble_eq_true rfl⟩ (fun H locs hG => ?_)
    refine lv_aload_n hx hb dX8_back_35 rfl (lv_at hl 0 rfl) ?_
    refine lv_iconst (v := 0) hx hb dX8_back_36 (by decide) ?_
    refine pf_X8_105 C dX8_back_37 hG 0 rfl (Nat.le_of_ble_eq_true rfl) (ws' := [(m, .inr (8, [.int (v 0), .int (v 1), .ref aS, .int (v 2), .int (v 3), .int (v 4), .ref aW, .int (v 5), .ref aL, .int 0, .int ((v 7) - 1), .int (v 8), .ref aT, .int (v 9), .int (v 10), .int (v 11), .int (v 12), .ref a1, .ref a2, .ref a3, .ref aB, .int (v 13), .int (v 14)])), (aL, .inl (E.2.1.1, 156, .inl (cp13 sl (13 * (9 + (nk - 1))) 0)))]) rfl (fun H locs hG => ?_)
    refine lv_aload_n hx hb dX8_back_40 rfl (lv_at hl 0 rfl) ?_
    refine gf_X8_108 C dX8_back_41 hG 0 rfl rfl ?_
    rw [hQ]
    exact z_iret C hr hlk hG dX8_back_44 rfl (by rw [o_X8_back_r, if_neg c_1]) (by rw [o_X8_back_v, if_neg c_1, mkG15_0, mkG15_1, mkG15_2, mkG15_3, mkG15_4, mkG15_5, mkG15_6, mkG15_7, mkG15_8, mkG15_9, mkG15_10, mkG15_11, mkG15_12, mkG15_13, mkG15_14, o_X8_back_1, if_neg c_1])
  · skip
    refine lv_bipush (v := (-2)) hx hb dX8_back_7 (by decide) ?_
    rw [hQ]
    exact z_iret C hr hlk hG dX8_back_9 rfl (by rw [o_X8_back_r, if_pos c_1]) (by rw [o_X8_back_v, if_pos c_1, o_X8_back_1, if_pos c_1])
def o_X8_count_r (v : Nat → Int32) (sl : Nat → Int32) (what : Int32) : Int32 := (if what = 0 then (v 0) else (if what = 1 then (sl 11) else (if what = 2 then (sl 10) else (if what = 3 then (sl 12) else (if what = 4 then (v 1) else (if what = 5 then (v 12) else (if what = 6 then (v 6) else (if what = 7 then (v 7) else (if what = 8 then (v 8) else (-1))))))))))
set_option maxRecDepth 100000 in
set_option maxHeartbeats 4000000 in
theorem c_X8_count (l : Launch) (E : zE) (v : Nat → Int32) (sl : Nat → Int32) (what : Int32) (m aS aW aL aT a1 a2 a3 aB : Nat) : HM l E yX8_count cX8_count 2 (some .int) 0 0 [.ref m, .int what] [(m, .inr (8, [.int (v 0), .int (v 1), .ref aS, .int (v 2), .int (v 3), .int (v 4), .ref aW, .int (v 5), .ref aL, .int (v 6), .int (v 7), .int (v 8), .ref aT, .int (v 9), .int (v 10), .int (v 11), .int (v 12), .ref a1, .ref a2, .ref a3, .ref aB, .int (v 13), .int (v 14)])), (aL, .inl (E.2.1.1, 156, .inl sl))] (some (.int (o_X8_count_r v sl what))) [(m, .inr (8, [.int (v 0), .int (v 1), .ref aS, .int (v 2), .int (v 3), .int (v 4), .ref aW, .int (v 5), .ref aL, .int (v 6), .int (v 7), .int (v 8), .ref aT, .int (v 9), .int (v 10), .int (v 11), .int (v 12), .ref a1, .ref a2, .ref a3, .ref aB, .int (v 13), .int (v 14)])), (aL, .inl (E.2.1.1, 156, .inl sl))] := by
  refine HM.of (own := RX8) (plainFor_of_name (by decide)) rfl (Nat.le_of_ble_eq_true rfl) ?_
  intro zp ze zs zm za zb zt zc zA ls H locs zq C hr hlk hG hl hQ
  have hx := C.1.1
  have hb := C.1.2.1
  replace hl : lv_has ls 2 [(0, .ref m), (1, .int what)] := hl
  refine lv_iload_n hx hb dX8_count_0 rfl (lv_at hl 1 rfl) ?_
  refine lv_if_ne (tgt := 11) hx hb dX8_count_1 (by decide) (fun c_1 => ?_) (fun c_1 => ?_)
  · skip
    refine lv_iload_n hx hb dX8_count_11 rfl (lv_at hl 1 rfl) ?_
    refine lv_iconst (v := 1) hx hb dX8_count_12 (by decide) ?_
    refine lv_icmp_ne (tgt := 26) hx hb dX8_count_13 (by decide) (fun c_2 => ?_) (fun c_2 => ?_)
    · skip
      refine lv_iload_n hx hb dX8_count_26 rfl (lv_at hl 1 rfl) ?_
      refine lv_iconst (v := 2) hx hb dX8_count_27 (by decide) ?_
      refine lv_icmp_ne (tgt := 41) hx hb dX8_count_28 (by decide) (fun c_3 => ?_) (fun c_3 => ?_)
      · skip
        refine lv_iload_n hx hb dX8_count_41 rfl (lv_at hl 1 rfl) ?_
        refine lv_iconst (v := 3) hx hb dX8_count_42 (by decide) ?_
        refine lv_icmp_ne (tgt := 56) hx hb dX8_count_43 (by decide) (fun c_4 => ?_) (fun c_4 => ?_)
        · skip
          refine lv_iload_n hx hb dX8_count_56 rfl (lv_at hl 1 rfl) ?_
          refine lv_iconst (v := 4) hx hb dX8_count_57 (by decide) ?_
          refine lv_icmp_ne (tgt := 68) hx hb dX8_count_58 (by decide) (fun c_5 => ?_) (fun c_5 => ?_)
          · skip
            refine lv_iload_n hx hb dX8_count_68 rfl (lv_at hl 1 rfl) ?_
            refine lv_iconst (v := 5) hx hb dX8_count_69 (by decide) ?_
            refine lv_icmp_ne (tgt := 80) hx hb dX8_count_70 (by decide) (fun c_6 => ?_) (fun c_6 => ?_)
            · skip
              refine lv_iload_n hx hb dX8_count_80 rfl (lv_at hl 1 rfl) ?_
              refine lv_bipush (v := 6) hx hb dX8_count_81 (by decide) ?_
              refine lv_icmp_ne (tgt := 93) hx hb dX8_count_83 (by decide) (fun c_7 => ?_) (fun c_7 => ?_)
              · skip
                refine lv_iload_n hx hb dX8_count_93 rfl (lv_at hl 1 rfl) ?_
                refine lv_bipush (v := 7) hx hb dX8_count_94 (by decide) ?_
                refine lv_icmp_ne (tgt := 106) hx hb dX8_count_96 (by decide) (fun c_8 => ?_) (fun c_8 => ?_)
                · skip
                  refine lv_iload_n hx hb dX8_count_106 rfl (lv_at hl 1 rfl) ?_
                  refine lv_bipush (v := 8) hx hb dX8_count_107 (by decide) ?_
                  refine lv_icmp_ne (tgt := 119) hx hb dX8_count_109 (by decide) (fun c_9 => ?_) (fun c_9 => ?_)
                  · skip
                    refine lv_iconst (v := (-1)) hx hb dX8_count_119 (by decide) ?_
                    rw [hQ]
                    exact z_iret C hr hlk hG dX8_count_120 rfl (by rw [o_X8_count_r, if_neg c_1, if_neg c_2, if_neg c_3, if_neg c_4, if_neg c_5, if_neg c_6, if_neg c_7, if_neg c_8, if_neg c_9]) rfl
                  · skip
                    refine lv_aload_n hx hb dX8_count_112 rfl (lv_at hl 0 rfl) ?_
                    refine gf_X8_53 C dX8_count_113 hG 0 rfl rfl ?_
                    refine lv_goto (tgt := 120) hx hb dX8_count_116 (by decide) ?_
                    rw [hQ]
                    exact z_iret C hr hlk hG dX8_count_120 rfl (by rw [o_X8_count_r, if_neg c_1, if_neg c_2, if_neg c_3, if_neg c_4, if_neg c_5, if_neg c_6, if_neg c_7, if_neg c_8, if_pos c_9]) rfl
                · skip
                  refine lv_aload_n hx hb dX8_count_99 rfl (lv_at hl 0 rfl) ?_
                  refine gf_X8_108 C dX8_count_100 hG 0 rfl rfl ?_
                  refine lv_goto (tgt := 120) hx hb dX8_count_103 (by decide) ?_
                  rw [hQ]
                  exact z_iret C hr hlk hG dX8_count_120 rfl (by rw [o_X8_count_r, if_neg c_1, if_neg c_2, if_neg c_3, if_neg c_4, if_neg c_5, if_neg c_6, if_neg c_7, if_pos c_8]) rfl
              · skip
                refine lv_aload_n hx hb dX8_count_86 rfl (lv_at hl 0 rfl) ?_
                refine gf_X8_105 C dX8_count_87 hG 0 rfl rfl ?_
                refine lv_goto (tgt := 120) hx hb dX8_count_90 (by decide) ?_
                rw [hQ]
                exact z_iret C hr hlk hG dX8_count_120 rfl (by rw [o_X8_count_r, if_neg c_1, if_neg c_2, if_neg c_3, if_neg c_4, if_neg c_5, if_neg c_6, if_pos c_7]) rfl
            · skip
              refine lv_aload_n hx hb dX8_count_73 rfl (lv_at hl 0 rfl) ?_
              refine gf_X8_111 C dX8_count_74 hG 0 rfl rfl ?_
              refine lv_goto (tgt := 120) hx hb dX8_count_77 (by decide) ?_
              rw [hQ]
              exact z_iret C hr hlk hG dX8_count_120 rfl (by rw [o_X8_count_r, if_neg c_1, if_neg c_2, if_neg c_3, if_neg c_4, if_neg c_5, if_pos c_6]) rfl
          · skip
            refine lv_aload_n hx hb dX8_count_61 rfl (lv_at hl 0 rfl) ?_
            refine gf_X8_39 C dX8_count_62 hG 0 rfl rfl ?_
            refine lv_goto (tgt := 120) hx hb dX8_count_65 (by decide) ?_
            rw [hQ]
            exact z_iret C hr hlk hG dX8_count_120 rfl (by rw [o_X8_count_r, if_neg c_1, if_neg c_2, if_neg c_3, if_neg c_4, if_pos c_5]) rfl
        · skip
          refine lv_aload_n hx hb dX8_count_46 rfl (lv_at hl 0 rfl) ?_
          refine gf_X8_16 C dX8_count_47 hG 0 rfl rfl ?_
          refine lv_bipush (v := 12) hx hb dX8_count_50 (by decide) ?_
          refine z_ild C dX8_count_52 hG 1 rfl 12 (by decide) (Nat.le_of_ble_eq_true rfl) (Nat.le_of_ble_eq_true rfl) ?_
          refine lv_goto (tgt := 120) hx hb dX8_count_53 (by decide) ?_
          rw [hQ]
          exact z_iret C hr hlk hG dX8_count_120 rfl (by rw [o_X8_count_r, if_neg c_1, if_neg c_2, if_neg c_3, if_pos c_4]) rfl
      · skip
        refine lv_aload_n hx hb dX8_count_31 rfl (lv_at hl 0 rfl) ?_
        refine gf_X8_16 C dX8_count_32 hG 0 rfl rfl ?_
        refine lv_bipush (v := 10) hx hb dX8_count_35 (by decide) ?_
        refine z_ild C dX8_count_37 hG 1 rfl 10 (by decide) (Nat.le_of_ble_eq_true rfl) (Nat.le_of_ble_eq_true rfl) ?_
        refine lv_goto (tgt := 120) hx hb dX8_count_38 (by decide) ?_
        rw [hQ]
        exact z_iret C hr hlk hG dX8_count_120 rfl (by rw [o_X8_count_r, if_neg c_1, if_neg c_2, if_pos c_3]) rfl
    · skip
      refine lv_aload_n hx hb dX8_count_16 rfl (lv_at hl 0 rfl) ?_
      refine gf_X8_16 C dX8_count_17 hG 0 rfl rfl ?_
      refine lv_bipush (v := 11) hx hb dX8_count_20 (by decide) ?_
      refine z_ild C dX8_count_22 hG 1 rfl 11 (by decide) (Nat.le_of_ble_eq_true rfl) (Nat.le_of_ble_eq_true rfl) ?_
      refine lv_goto (tgt := 120) hx hb dX8_count_23 (by decide) ?_
      rw [hQ]
      exact z_iret C hr hlk hG dX8_count_120 rfl (by rw [o_X8_count_r, if_neg c_1, if_pos c_2]) rfl
  · skip
    refine lv_aload_n hx hb dX8_count_4 rfl (lv_at hl 0 rfl) ?_
    refine gf_X8_35 C dX8_count_5 hG 0 rfl rfl ?_
    refine lv_goto (tgt := 120) hx hb dX8_count_8 (by decide) ?_
    rw [hQ]
    exact z_iret C hr hlk hG dX8_count_120 rfl (by rw [o_X8_count_r, if_pos c_1]) rfl
def L_X8_year_0 (v : Nat → Int32) (ms : Nat → Int32) (sl : Nat → Int32) (z_ : Int32) (n : Int32) (what : Int32) : Nat → Int32 × (Nat → Int32)
  | 0 => (0, (cp13 sl 0 143))
  | (k0 + 1) => ((((L_X8_year_0 v ms sl z_ n what k0).1) ||| (o_X8_told_143_r v ms ((L_X8_year_0 v ms sl z_ n what k0).2) ((((((((7919 * z_.toInt64) + (6151 * ((nI k0).toInt64))) + 1) * (((7919 * z_.toInt64) + (6151 * ((nI k0).toInt64))) + 1)) - ((((7919 * z_.toInt64) + (6151 * ((nI k0).toInt64))) + 1) * (((7919 * z_.toInt64) + (6151 * ((nI k0).toInt64))) + 1)) / 65521 * 65521) / 2).toInt32) - (((((((7919 * z_.toInt64) + (6151 * ((nI k0).toInt64))) + 1) * (((7919 * z_.toInt64) + (6151 * ((nI k0).toInt64))) + 1)) - ((((7919 * z_.toInt64) + (6151 * ((nI k0).toInt64))) + 1) * (((7919 * z_.toInt64) + (6151 * ((nI k0).toInt64))) + 1)) / 65521 * 65521) / 2).toInt32) / 5 * 5) (((((((((7919 * z_.toInt64) + (6151 * ((nI k0).toInt64))) + 1) * (((7919 * z_.toInt64) + (6151 * ((nI k0).toInt64))) + 1)) - ((((7919 * z_.toInt64) + (6151 * ((nI k0).toInt64))) + 1) * (((7919 * z_.toInt64) + (6151 * ((nI k0).toInt64))) + 1)) / 65521 * 65521) / 2).toInt32) / 8) - ((((((((7919 * z_.toInt64) + (6151 * ((nI k0).toInt64))) + 1) * (((7919 * z_.toInt64) + (6151 * ((nI k0).toInt64))) + 1)) - ((((7919 * z_.toInt64) + (6151 * ((nI k0).toInt64))) + 1) * (((7919 * z_.toInt64) + (6151 * ((nI k0).toInt64))) + 1)) / 65521 * 65521) / 2).toInt32) / 8) / 5 * 5))), (o_X8_told_143_2 v ms ((L_X8_year_0 v ms sl z_ n what k0).2) ((((((((7919 * z_.toInt64) + (6151 * ((nI k0).toInt64))) + 1) * (((7919 * z_.toInt64) + (6151 * ((nI k0).toInt64))) + 1)) - ((((7919 * z_.toInt64) + (6151 * ((nI k0).toInt64))) + 1) * (((7919 * z_.toInt64) + (6151 * ((nI k0).toInt64))) + 1)) / 65521 * 65521) / 2).toInt32) - (((((((7919 * z_.toInt64) + (6151 * ((nI k0).toInt64))) + 1) * (((7919 * z_.toInt64) + (6151 * ((nI k0).toInt64))) + 1)) - ((((7919 * z_.toInt64) + (6151 * ((nI k0).toInt64))) + 1) * (((7919 * z_.toInt64) + (6151 * ((nI k0).toInt64))) + 1)) / 65521 * 65521) / 2).toInt32) / 5 * 5) (((((((((7919 * z_.toInt64) + (6151 * ((nI k0).toInt64))) + 1) * (((7919 * z_.toInt64) + (6151 * ((nI k0).toInt64))) + 1)) - ((((7919 * z_.toInt64) + (6151 * ((nI k0).toInt64))) + 1) * (((7919 * z_.toInt64) + (6151 * ((nI k0).toInt64))) + 1)) / 65521 * 65521) / 2).toInt32) / 8) - ((((((((7919 * z_.toInt64) + (6151 * ((nI k0).toInt64))) + 1) * (((7919 * z_.toInt64) + (6151 * ((nI k0).toInt64))) + 1)) - ((((7919 * z_.toInt64) + (6151 * ((nI k0).toInt64))) + 1) * (((7919 * z_.toInt64) + (6151 * ((nI k0).toInt64))) + 1)) / 65521 * 65521) / 2).toInt32) / 8) / 5 * 5)))
def o_X8_year_r (v : Nat → Int32) (ms : Nat → Int32) (sl : Nat → Int32) (z_ : Int32) (n : Int32) (what : Int32) : Int32 := (if (o_X8_in_r z_.toInt64 0 9999) = 0 then (-1) else (if (o_X8_in_r n.toInt64 1 40) = 0 then (-1) else (if (o_X8_in_r what.toInt64 0 2) = 0 then (-1) else (if (0 : Int32) ≤ ((L_X8_year_0 v ms sl z_ n what n.toNatClampNeg).1) then (if what = 2 then (((L_X8_year_0 v ms sl z_ n what n.toNatClampNeg).2) 155) else (((L_X8_year_0 v ms sl z_ n what n.toNatClampNeg).2) ((145 + what).toNatClampNeg))) else (-2)))))
def o_X8_year_2 (v : Nat → Int32) (ms : Nat → Int32) (sl : Nat → Int32) (z_ : Int32) (n : Int32) (what : Int32) : Nat → Int32 := (if (o_X8_in_r z_.toInt64 0 9999) = 0 then sl else (if (o_X8_in_r n.toInt64 1 40) = 0 then sl else (if (o_X8_in_r what.toInt64 0 2) = 0 then sl else ((L_X8_year_0 v ms sl z_ n what n.toNatClampNeg).2))))
theorem L_year (v ms sl : Nat → Int32) (z_ n what : Int32) (hB : mB 1000000 (sl 11)) : ∀ k : Nat, k ≤ 1000 → mB (1000000 + (k : Int)) ((L_X8_year_0 v ms sl z_ n what k).2 154) := by
  intro k
  induction k with
  | zero => intro _; rw [L_X8_year_0]; simpa [cp_154] using hB
  | succ k ih =>
    intro hk
    rw [L_X8_year_0]
    exact mB_told_143 (by omega) _ _ _ _ _ (ih (by omega))
set_option maxRecDepth 100000 in
set_option maxHeartbeats 4000000 in
theorem c_X8_year (l : Launch) (E : zE) (v : Nat → Int32) (ms : Nat → Int32) (sl : Nat → Int32) (z_ : Int32) (n : Int32) (what : Int32) (m aS aW aL aT a1 a2 a3 aB : Nat) (hB : mB 1000000 (sl 11)) : HM l E yX8_year cX8_year 9 (some .int) 5 118 [.ref m, .int z_, .int n, .int what] [(m, .inr (8, [.int (v 0), .int (v 1), .ref aS, .int (v 2), .int (v 3), .int (v 4), .ref aW, .int (v 5), .ref aL, .int (v 6), .int (v 7), .int (v 8), .ref aT, .int (v 9), .int (v 10), .int (v 11), .int (v 12), .ref a1, .ref a2, .ref a3, .ref aB, .int (v 13), .int (v 14)])), (aS, .inl (E.2.1.1, 12, .inl ms)), (aL, .inl (E.2.1.1, 156, .inl sl))] (some (.int (o_X8_year_r v ms sl z_ n what))) [(m, .inr (8, [.int (v 0), .int (v 1), .ref aS, .int (v 2), .int (v 3), .int (v 4), .ref aW, .int (v 5), .ref aL, .int (v 6), .int (v 7), .int (v 8), .ref aT, .int (v 9), .int (v 10), .int (v 11), .int (v 12), .ref a1, .ref a2, .ref a3, .ref aB, .int (v 13), .int (v 14)])), (aS, .inl (E.2.1.1, 12, .inl ms)), (aL, .inl (E.2.1.1, 156, .inl (o_X8_year_2 v ms sl z_ n what)))] := by
  refine HM.of (own := RX8) (plainFor_of_name (by decide)) rfl (Nat.le_of_ble_eq_true rfl) ?_
  intro zp ze zs zm za zb zt zc zA ls H locs zq C hr hlk hG hl hQ
  have hx := C.1.1
  have hb := C.1.2.1
  replace hl : lv_has ls 9 [(0, .ref m), (1, .int z_), (2, .int n), (3, .int what)] := hl
  refine lv_iload_n hx hb dX8_year_0 rfl (lv_at hl 1 rfl) ?_
  refine lv_i2l (v := z_.toInt64) hx hb dX8_year_1 rfl ?_
  refine lv_lconst (v := 0) hx hb dX8_year_2 (by decide) ?_
  refine lv_ldc2 (v := 9999) hx hb C.1.2.2.2.1 (C.1.2.2.2.2 _ (inr32 _ (List.mem_of_getElem? (i := 15) rfl))) dX8_year_3 ?_
  refine call_X8_49 C dX8_year_6 (c_X8_in l E z_.toInt64 0 9999) hl hG [] (by decide) rfl (ads := []) rfl rfl (ws' := [(m, .inr (8, [.int (v 0), .int (v 1), .ref aS, .int (v 2), .int (v 3), .int (v 4), .ref aW, .int (v 5), .ref aL, .int (v 6), .int (v 7), .int (v 8), .ref aT, .int (v 9), .int (v 10), .int (v 11), .int (v 12), .ref a1, .ref a2, .ref a3, .ref aB, .int (v 13), .int (v 14)])), (aS, .inl (E.2.1.1, 12, .inl ms)), (aL, .inl (E.2.1.1, 156, .inl sl))]) rfl rfl (rest := []) rfl (Nat.le_of_ble_eq_true rfl) ⟨Nat.le_of_ble_eq_true rfl, Nat.le_of_ble_eq_true rfl⟩ (fun H locs hG => ?_)
  refine lv_if_eq (tgt := 36) hx hb dX8_year_9 (by decide) (fun c_1 => ?_) (fun c_1 => ?_)
  · skip
    refine lv_iconst (v := (-1)) hx hb dX8_year_36 (by decide) ?_
    rw [hQ]
    exact z_iret C hr hlk hG dX8_year_37 rfl (by rw [o_X8_year_r, if_pos c_1]) (by rw [o_X8_year_2, if_pos c_1])
  · skip
    refine lv_iload_n hx hb dX8_year_12 rfl (lv_at hl 2 rfl) ?_
    refine lv_i2l (v := n.toInt64) hx hb dX8_year_13 rfl ?_
    refine lv_lconst (v := 1) hx hb dX8_year_14 (by decide) ?_
    refine lv_ldc2 (v := 40) hx hb C.1.2.2.2.1 (C.1.2.2.2.2 _ (inr32 _ (List.mem_of_getElem? (i := 16) rfl))) dX8_year_15 ?_
    refine call_X8_49 C dX8_year_18 (c_X8_in l E n.toInt64 1 40) hl hG [] (by decide) rfl (ads := []) rfl rfl (ws' := [(m, .inr (8, [.int (v 0), .int (v 1), .ref aS, .int (v 2), .int (v 3), .int (v 4), .ref aW, .int (v 5), .ref aL, .int (v 6), .int (v 7), .int (v 8), .ref aT, .int (v 9), .int (v 10), .int (v 11), .int (v 12), .ref a1, .ref a2, .ref a3, .ref aB, .int (v 13), .int (v 14)])), (aS, .inl (E.2.1.1, 12, .inl ms)), (aL, .inl (E.2.1.1, 156, .inl sl))]) rfl rfl (rest := []) rfl (Nat.le_of_ble_eq_true rfl) ⟨Nat.le_of_ble_eq_true rfl, Nat.le_of_ble_eq_true rfl⟩ (fun H locs hG => ?_)
    refine lv_if_eq (tgt := 36) hx hb dX8_year_21 (by decide) (fun c_2 => ?_) (fun c_2 => ?_)
    · skip
      refine lv_iconst (v := (-1)) hx hb dX8_year_36 (by decide) ?_
      rw [hQ]
      exact z_iret C hr hlk hG dX8_year_37 rfl (by rw [o_X8_year_r, if_neg c_1, if_pos c_2]) (by rw [o_X8_year_2, if_neg c_1, if_pos c_2])
    · skip
      refine lv_iload_n hx hb dX8_year_24 rfl (lv_at hl 3 rfl) ?_
      refine lv_i2l (v := what.toInt64) hx hb dX8_year_25 rfl ?_
      refine lv_lconst (v := 0) hx hb dX8_year_26 (by decide) ?_
      refine lv_ldc2 (v := 2) hx hb C.1.2.2.2.1 (C.1.2.2.2.2 _ (inr24 _ (List.mem_of_getElem? (i := 10) rfl))) dX8_year_27 ?_
      refine call_X8_49 C dX8_year_30 (c_X8_in l E what.toInt64 0 2) hl hG [] (by decide) rfl (ads := []) rfl rfl (ws' := [(m, .inr (8, [.int (v 0), .int (v 1), .ref aS, .int (v 2), .int (v 3), .int (v 4), .ref aW, .int (v 5), .ref aL, .int (v 6), .int (v 7), .int (v 8), .ref aT, .int (v 9), .int (v 10), .int (v 11), .int (v 12), .ref a1, .ref a2, .ref a3, .ref aB, .int (v 13), .int (v 14)])), (aS, .inl (E.2.1.1, 12, .inl ms)), (aL, .inl (E.2.1.1, 156, .inl sl))]) rfl rfl (rest := []) rfl (Nat.le_of_ble_eq_true rfl) ⟨Nat.le_of_ble_eq_true rfl, Nat.le_of_ble_eq_true rfl⟩ (fun H locs hG => ?_)
      refine lv_if_ne (tgt := 38) hx hb dX8_year_33 (by decide) (fun c_3 => ?_) (fun c_3 => ?_)
      · skip
        refine lv_aload_n hx hb dX8_year_38 rfl (lv_at hl 0 rfl) ?_
        refine lv_iconst (v := 0) hx hb dX8_year_39 (by decide) ?_
        refine lv_sipush (v := 143) hx hb dX8_year_40 (by decide) ?_
        refine call_X8_101 C dX8_year_43 (c_X8_copies_t l E v sl 0 143 m aS aW aL aT a1 a2 a3 aB (by omega) (by omega) (by omega)) hl hG 0 rfl [0, 2] (by decide) rfl (ads := [m, aL]) rfl rfl (ws' := [(m, .inr (8, [.int (v 0), .int (v 1), .ref aS, .int (v 2), .int (v 3), .int (v 4), .ref aW, .int (v 5), .ref aL, .int (v 6), .int (v 7), .int (v 8), .ref aT, .int (v 9), .int (v 10), .int (v 11), .int (v 12), .ref a1, .ref a2, .ref a3, .ref aB, .int (v 13), .int (v 14)])), (aS, .inl (E.2.1.1, 12, .inl ms)), (aL, .inl (E.2.1.1, 156, .inl (cp13 sl 0 143)))]) rfl rfl (rest := []) rfl (Nat.le_of_ble_eq_true rfl) ⟨Nat.le_of_ble_eq_true rfl, Nat.le_of_ble_eq_true rfl⟩ (fun H locs hG => ?_)
        refine lv_iconst (v := 0) hx hb dX8_year_46 (by decide) ?_
        refine lv_istore (lv' := [(4, .int 0), (0, .ref m), (1, .int z_), (2, .int n), (3, .int what)]) hx hb dX8_year_47 hl (by decide) rfl (fun ls hl => ?_)
        refine lv_iconst (v := 0) hx hb dX8_year_49 (by decide) ?_
        refine lv_istore (lv' := [(5, .int 0), (4, .int 0), (0, .ref m), (1, .int z_), (2, .int n), (3, .int what)]) hx hb dX8_year_50 hl (by decide) rfl (fun ls hl => ?_)
        have kl_0 : ∀ (j0 k0 : Nat), j0 + k0 = n.toNatClampNeg → ∀ (u0_0 : Int32) (u0_1 : Nat → Int32) (H : Heap) (locs : List Loc) (ls : Array Slot), ((L_X8_year_0 v ms sl z_ n what k0).1) = u0_0 → ((L_X8_year_0 v ms sl z_ n what k0).2) = u0_1 → zG E zA zs.heap [(m, .inr (8, [.int (v 0), .int (v 1), .ref aS, .int (v 2), .int (v 3), .int (v 4), .ref aW, .int (v 5), .ref aL, .int (v 6), .int (v 7), .int (v 8), .ref aT, .int (v 9), .int (v 10), .int (v 11), .int (v 12), .ref a1, .ref a2, .ref a3, .ref aB, .int (v 13), .int (v 14)])), (aS, .inl (E.2.1.1, 12, .inl ms)), (aL, .inl (E.2.1.1, 156, .inl u0_1))] H locs → lv_has ls 9 [(5, .int (nI k0)), (4, .int u0_0), (0, .ref m), (1, .int z_), (2, .int n), (3, .int what)] → W zp l ze (zR 5 118) zs zm za zb zt zc H locs 0 0 zq (F0 zm 52 ls []) := by
          intro j0
          induction j0 with
          | zero =>
            intro k0 hk0 u0_0 u0_1 H locs ls e_u0_0 e_u0_1 hG hl
            subst e_u0_0
            subst e_u0_1
            obtain rfl : k0 = n.toNatClampNeg := by omega
            refine lv_iload hx hb dX8_year_52 (lv_at hl 0 rfl) ?_
            refine lv_iload_n hx hb dX8_year_54 rfl (lv_at hl 4 rfl) ?_
            refine lv_icmp_ge (tgt := 121) hx hb dX8_year_55 (by decide) (fun c_6 => ?_) (fun c_6 => absurd (z_ge_yes (z_in2 (by decide) c_2)) c_6)
            refine lv_iload hx hb dX8_year_121 (lv_at hl 1 rfl) ?_
            refine lv_if_ge (tgt := 131) hx hb dX8_year_123 (by decide) (fun c_7 => ?_) (fun c_7 => ?_)
            · skip
              refine lv_iload_n hx hb dX8_year_131 rfl (lv_at hl 5 rfl) ?_
              refine lv_iconst (v := 2) hx hb dX8_year_132 (by decide) ?_
              refine lv_icmp_ne (tgt := 147) hx hb dX8_year_133 (by decide) (fun c_8 => ?_) (fun c_8 => ?_)
              · skip
                refine lv_aload_n hx hb dX8_year_147 rfl (lv_at hl 2 rfl) ?_
                refine gf_X8_16 C dX8_year_148 hG 0 rfl rfl ?_
                refine lv_sipush (v := 145) hx hb dX8_year_151 (by decide) ?_
                refine lv_iload_n hx hb dX8_year_154 rfl (lv_at hl 5 rfl) ?_
                refine lv_iadd hx hb dX8_year_155 ?_
                refine z_iald C dX8_year_156 hG 2 rfl (z_w2 c_3 c_8) ?_
                rw [hQ]
                exact z_iret C hr hlk hG dX8_year_157 rfl (by rw [o_X8_year_r, if_neg c_1, if_neg c_2, if_neg c_3, if_pos c_7, if_neg c_8]) (by rw [o_X8_year_2, if_neg c_1, if_neg c_2, if_neg c_3])
              · skip
                refine lv_aload_n hx hb dX8_year_136 rfl (lv_at hl 2 rfl) ?_
                refine gf_X8_16 C dX8_year_137 hG 0 rfl rfl ?_
                refine lv_sipush (v := 155) hx hb dX8_year_140 (by decide) ?_
                refine z_ild C dX8_year_143 hG 2 rfl 155 (by decide) (Nat.le_of_ble_eq_true rfl) (Nat.le_of_ble_eq_true rfl) ?_
                refine lv_goto (tgt := 157) hx hb dX8_year_144 (by decide) ?_
                rw [hQ]
                exact z_iret C hr hlk hG dX8_year_157 rfl (by rw [o_X8_year_r, if_neg c_1, if_neg c_2, if_neg c_3, if_pos c_7, if_pos c_8]) (by rw [o_X8_year_2, if_neg c_1, if_neg c_2, if_neg c_3])
            · skip
              refine lv_bipush (v := (-2)) hx hb dX8_year_126 (by decide) ?_
              refine lv_goto (tgt := 157) hx hb dX8_year_128 (by decide) ?_
              rw [hQ]
              exact z_iret C hr hlk hG dX8_year_157 rfl (by rw [o_X8_year_r, if_neg c_1, if_neg c_2, if_neg c_3, if_neg c_7]) (by rw [o_X8_year_2, if_neg c_1, if_neg c_2, if_neg c_3])
          | succ j0 ih0 =>
            intro k0 hk0 u0_0 u0_1 H locs ls e_u0_0 e_u0_1 hG hl
            subst e_u0_0
            subst e_u0_1
            have hlt : k0 < n.toNatClampNeg := by omega
            refine lv_iload hx hb dX8_year_52 (lv_at hl 0 rfl) ?_
            refine lv_iload_n hx hb dX8_year_54 rfl (lv_at hl 4 rfl) ?_
            refine lv_icmp_ge (tgt := 121) hx hb dX8_year_55 (by decide) (fun c_9 => absurd c_9 (z_ge_no hlt (z_in1 (by decide) c_2) (z_in2 (by decide) c_2))) (fun c_9 => ?_)
            refine lv_ldc2 (v := 7919) hx hb C.1.2.2.2.1 (C.1.2.2.2.2 _ (inr32 _ (List.mem_of_getElem? (i := 17) rfl))) dX8_year_58 ?_
            refine lv_iload_n hx hb dX8_year_61 rfl (lv_at hl 3 rfl) ?_
            refine lv_i2l (v := z_.toInt64) hx hb dX8_year_62 rfl ?_
            refine lv_lmul hx hb dX8_year_63 ?_
            refine lv_ldc2 (v := 6151) hx hb C.1.2.2.2.1 (C.1.2.2.2.2 _ (inr32 _ (List.mem_of_getElem? (i := 18) rfl))) dX8_year_64 ?_
            refine lv_iload hx hb dX8_year_67 (lv_at hl 0 rfl) ?_
            refine lv_i2l (v := ((nI k0).toInt64)) hx hb dX8_year_69 rfl ?_
            refine lv_lmul hx hb dX8_year_70 ?_
            refine lv_ladd hx hb dX8_year_71 ?_
            refine lv_lconst (v := 1) hx hb dX8_year_72 (by decide) ?_
            refine lv_ladd hx hb dX8_year_73 ?_
            refine lv_lstore (lv' := [(6, .long (((7919 * z_.toInt64) + (6151 * ((nI k0).toInt64))) + 1)), (5, .int (nI k0)), (4, .int ((L_X8_year_0 v ms sl z_ n what k0).1)), (0, .ref m), (1, .int z_), (2, .int n), (3, .int what)]) hx hb dX8_year_74 hl (by decide) rfl (fun ls hl => ?_)
            refine lv_lload hx hb dX8_year_76 (lv_at hl 0 rfl) ?_
            refine lv_lload hx hb dX8_year_78 (lv_at hl 0 rfl) ?_
            refine lv_lmul hx hb dX8_year_80 ?_
            refine lv_ldc2 (v := 65521) hx hb C.1.2.2.2.1 (C.1.2.2.2.2 _ (inr32 _ (List.mem_of_getElem? (i := 19) rfl))) dX8_year_81 ?_
            refine lv_lrem hx hb dX8_year_84 (by decide) ?_
            refine lv_ldc2 (v := 2) hx hb C.1.2.2.2.1 (C.1.2.2.2.2 _ (inr24 _ (List.mem_of_getElem? (i := 10) rfl))) dX8_year_85 ?_
            refine lv_ldiv hx hb dX8_year_88 (by decide) ?_
            refine lv_l2i (v := (((((((7919 * z_.toInt64) + (6151 * ((nI k0).toInt64))) + 1) * (((7919 * z_.toInt64) + (6151 * ((nI k0).toInt64))) + 1)) - ((((7919 * z_.toInt64) + (6151 * ((nI k0).toInt64))) + 1) * (((7919 * z_.toInt64) + (6151 * ((nI k0).toInt64))) + 1)) / 65521 * 65521) / 2).toInt32)) hx hb dX8_year_89 rfl ?_
            refine lv_istore (lv' := [(8, .int (((((((7919 * z_.toInt64) + (6151 * ((nI k0).toInt64))) + 1) * (((7919 * z_.toInt64) + (6151 * ((nI k0).toInt64))) + 1)) - ((((7919 * z_.toInt64) + (6151 * ((nI k0).toInt64))) + 1) * (((7919 * z_.toInt64) + (6151 * ((nI k0).toInt64))) + 1)) / 65521 * 65521) / 2).toInt32)), (6, .long (((7919 * z_.toInt64) + (6151 * ((nI k0).toInt64))) + 1)), (5, .int (nI k0)), (4, .int ((L_X8_year_0 v ms sl z_ n what k0).1)), (0, .ref m), (1, .int z_), (2, .int n), (3, .int what)]) hx hb dX8_year_90 hl (by decide) rfl (fun ls hl => ?_)
            refine lv_iload hx hb dX8_year_92 (lv_at hl 3 rfl) ?_
            refine lv_aload_n hx hb dX8_year_94 rfl (lv_at hl 4 rfl) ?_
            refine lv_sipush (v := 143) hx hb dX8_year_95 (by decide) ?_
            refine lv_iload hx hb dX8_year_98 (lv_at hl 0 rfl) ?_
            refine lv_iconst (v := 5) hx hb dX8_year_100 (by decide) ?_
            refine lv_irem hx hb dX8_year_101 (by decide) ?_
            refine lv_iload hx hb dX8_year_102 (lv_at hl 0 rfl) ?_
            refine lv_bipush (v := 8) hx hb dX8_year_104 (by decide) ?_
            refine lv_idiv hx hb dX8_year_106 (by decide) ?_
            refine lv_iconst (v := 5) hx hb dX8_year_107 (by decide) ?_
            refine lv_irem hx hb dX8_year_108 (by decide) ?_
            refine call_X8_168 C dX8_year_109 (c_X8_told_143 l E v ms ((L_X8_year_0 v ms sl z_ n what k0).2) ((((((((7919 * z_.toInt64) + (6151 * ((nI k0).toInt64))) + 1) * (((7919 * z_.toInt64) + (6151 * ((nI k0).toInt64))) + 1)) - ((((7919 * z_.toInt64) + (6151 * ((nI k0).toInt64))) + 1) * (((7919 * z_.toInt64) + (6151 * ((nI k0).toInt64))) + 1)) / 65521 * 65521) / 2).toInt32) - (((((((7919 * z_.toInt64) + (6151 * ((nI k0).toInt64))) + 1) * (((7919 * z_.toInt64) + (6151 * ((nI k0).toInt64))) + 1)) - ((((7919 * z_.toInt64) + (6151 * ((nI k0).toInt64))) + 1) * (((7919 * z_.toInt64) + (6151 * ((nI k0).toInt64))) + 1)) / 65521 * 65521) / 2).toInt32) / 5 * 5) (((((((((7919 * z_.toInt64) + (6151 * ((nI k0).toInt64))) + 1) * (((7919 * z_.toInt64) + (6151 * ((nI k0).toInt64))) + 1)) - ((((7919 * z_.toInt64) + (6151 * ((nI k0).toInt64))) + 1) * (((7919 * z_.toInt64) + (6151 * ((nI k0).toInt64))) + 1)) / 65521 * 65521) / 2).toInt32) / 8) - ((((((((7919 * z_.toInt64) + (6151 * ((nI k0).toInt64))) + 1) * (((7919 * z_.toInt64) + (6151 * ((nI k0).toInt64))) + 1)) - ((((7919 * z_.toInt64) + (6151 * ((nI k0).toInt64))) + 1) * (((7919 * z_.toInt64) + (6151 * ((nI k0).toInt64))) + 1)) / 65521 * 65521) / 2).toInt32) / 8) / 5 * 5) m aS aW aL aT a1 a2 a3 aB (L_year v ms sl z_ n what hB _ (by have := z_in3 (c := 40) (by decide) (by decide) c_2; omega)).1) hl hG 0 rfl [0, 1, 2] (by decide) rfl (ads := [m, aS, aL]) rfl rfl (ws' := [(m, .inr (8, [.int (v 0), .int (v 1), .ref aS, .int (v 2), .int (v 3), .int (v 4), .ref aW, .int (v 5), .ref aL, .int (v 6), .int (v 7), .int (v 8), .ref aT, .int (v 9), .int (v 10), .int (v 11), .int (v 12), .ref a1, .ref a2, .ref a3, .ref aB, .int (v 13), .int (v 14)])), (aS, .inl (E.2.1.1, 12, .inl ms)), (aL, .inl (E.2.1.1, 156, .inl (o_X8_told_143_2 v ms ((L_X8_year_0 v ms sl z_ n what k0).2) ((((((((7919 * z_.toInt64) + (6151 * ((nI k0).toInt64))) + 1) * (((7919 * z_.toInt64) + (6151 * ((nI k0).toInt64))) + 1)) - ((((7919 * z_.toInt64) + (6151 * ((nI k0).toInt64))) + 1) * (((7919 * z_.toInt64) + (6151 * ((nI k0).toInt64))) + 1)) / 65521 * 65521) / 2).toInt32) - (((((((7919 * z_.toInt64) + (6151 * ((nI k0).toInt64))) + 1) * (((7919 * z_.toInt64) + (6151 * ((nI k0).toInt64))) + 1)) - ((((7919 * z_.toInt64) + (6151 * ((nI k0).toInt64))) + 1) * (((7919 * z_.toInt64) + (6151 * ((nI k0).toInt64))) + 1)) / 65521 * 65521) / 2).toInt32) / 5 * 5) (((((((((7919 * z_.toInt64) + (6151 * ((nI k0).toInt64))) + 1) * (((7919 * z_.toInt64) + (6151 * ((nI k0).toInt64))) + 1)) - ((((7919 * z_.toInt64) + (6151 * ((nI k0).toInt64))) + 1) * (((7919 * z_.toInt64) + (6151 * ((nI k0).toInt64))) + 1)) / 65521 * 65521) / 2).toInt32) / 8) - ((((((((7919 * z_.toInt64) + (6151 * ((nI k0).toInt64))) + 1) * (((7919 * z_.toInt64) + (6151 * ((nI k0).toInt64))) + 1)) - ((((7919 * z_.toInt64) + (6151 * ((nI k0).toInt64))) + 1) * (((7919 * z_.toInt64) + (6151 * ((nI k0).toInt64))) + 1)) / 65521 * 65521) / 2).toInt32) / 8) / 5 * 5))))]) rfl rfl (rest := [.int ((L_X8_year_0 v ms sl z_ n what k0).1)]) rfl (Nat.le_of_ble_eq_true rfl) ⟨Nat.le_of_ble_eq_true rfl, Nat.le_of_ble_eq_true rfl⟩ (fun H locs hG => ?_)
            refine lv_ior hx hb dX8_year_112 ?_
            refine lv_istore (lv' := [(4, .int (((L_X8_year_0 v ms sl z_ n what k0).1) ||| (o_X8_told_143_r v ms ((L_X8_year_0 v ms sl z_ n what k0).2) ((((((((7919 * z_.toInt64) + (6151 * ((nI k0).toInt64))) + 1) * (((7919 * z_.toInt64) + (6151 * ((nI k0).toInt64))) + 1)) - ((((7919 * z_.toInt64) + (6151 * ((nI k0).toInt64))) + 1) * (((7919 * z_.toInt64) + (6151 * ((nI k0).toInt64))) + 1)) / 65521 * 65521) / 2).toInt32) - (((((((7919 * z_.toInt64) + (6151 * ((nI k0).toInt64))) + 1) * (((7919 * z_.toInt64) + (6151 * ((nI k0).toInt64))) + 1)) - ((((7919 * z_.toInt64) + (6151 * ((nI k0).toInt64))) + 1) * (((7919 * z_.toInt64) + (6151 * ((nI k0).toInt64))) + 1)) / 65521 * 65521) / 2).toInt32) / 5 * 5) (((((((((7919 * z_.toInt64) + (6151 * ((nI k0).toInt64))) + 1) * (((7919 * z_.toInt64) + (6151 * ((nI k0).toInt64))) + 1)) - ((((7919 * z_.toInt64) + (6151 * ((nI k0).toInt64))) + 1) * (((7919 * z_.toInt64) + (6151 * ((nI k0).toInt64))) + 1)) / 65521 * 65521) / 2).toInt32) / 8) - ((((((((7919 * z_.toInt64) + (6151 * ((nI k0).toInt64))) + 1) * (((7919 * z_.toInt64) + (6151 * ((nI k0).toInt64))) + 1)) - ((((7919 * z_.toInt64) + (6151 * ((nI k0).toInt64))) + 1) * (((7919 * z_.toInt64) + (6151 * ((nI k0).toInt64))) + 1)) / 65521 * 65521) / 2).toInt32) / 8) / 5 * 5)))), (8, .int (((((((7919 * z_.toInt64) + (6151 * ((nI k0).toInt64))) + 1) * (((7919 * z_.toInt64) + (6151 * ((nI k0).toInt64))) + 1)) - ((((7919 * z_.toInt64) + (6151 * ((nI k0).toInt64))) + 1) * (((7919 * z_.toInt64) + (6151 * ((nI k0).toInt64))) + 1)) / 65521 * 65521) / 2).toInt32)), (6, .long (((7919 * z_.toInt64) + (6151 * ((nI k0).toInt64))) + 1)), (5, .int (nI k0)), (0, .ref m), (1, .int z_), (2, .int n), (3, .int what)]) hx hb dX8_year_113 hl (by decide) rfl (fun ls hl => ?_)
            refine lv_iinc (v := (nI (k0 + 1))) (lv' := [(5, .int (nI (k0 + 1))), (4, .int (((L_X8_year_0 v ms sl z_ n what k0).1) ||| (o_X8_told_143_r v ms ((L_X8_year_0 v ms sl z_ n what k0).2) ((((((((7919 * z_.toInt64) + (6151 * ((nI k0).toInt64))) + 1) * (((7919 * z_.toInt64) + (6151 * ((nI k0).toInt64))) + 1)) - ((((7919 * z_.toInt64) + (6151 * ((nI k0).toInt64))) + 1) * (((7919 * z_.toInt64) + (6151 * ((nI k0).toInt64))) + 1)) / 65521 * 65521) / 2).toInt32) - (((((((7919 * z_.toInt64) + (6151 * ((nI k0).toInt64))) + 1) * (((7919 * z_.toInt64) + (6151 * ((nI k0).toInt64))) + 1)) - ((((7919 * z_.toInt64) + (6151 * ((nI k0).toInt64))) + 1) * (((7919 * z_.toInt64) + (6151 * ((nI k0).toInt64))) + 1)) / 65521 * 65521) / 2).toInt32) / 5 * 5) (((((((((7919 * z_.toInt64) + (6151 * ((nI k0).toInt64))) + 1) * (((7919 * z_.toInt64) + (6151 * ((nI k0).toInt64))) + 1)) - ((((7919 * z_.toInt64) + (6151 * ((nI k0).toInt64))) + 1) * (((7919 * z_.toInt64) + (6151 * ((nI k0).toInt64))) + 1)) / 65521 * 65521) / 2).toInt32) / 8) - ((((((((7919 * z_.toInt64) + (6151 * ((nI k0).toInt64))) + 1) * (((7919 * z_.toInt64) + (6151 * ((nI k0).toInt64))) + 1)) - ((((7919 * z_.toInt64) + (6151 * ((nI k0).toInt64))) + 1) * (((7919 * z_.toInt64) + (6151 * ((nI k0).toInt64))) + 1)) / 65521 * 65521) / 2).toInt32) / 8) / 5 * 5)))), (8, .int (((((((7919 * z_.toInt64) + (6151 * ((nI k0).toInt64))) + 1) * (((7919 * z_.toInt64) + (6151 * ((nI k0).toInt64))) + 1)) - ((((7919 * z_.toInt64) + (6151 * ((nI k0).toInt64))) + 1) * (((7919 * z_.toInt64) + (6151 * ((nI k0).toInt64))) + 1)) / 65521 * 65521) / 2).toInt32)), (6, .long (((7919 * z_.toInt64) + (6151 * ((nI k0).toInt64))) + 1)), (0, .ref m), (1, .int z_), (2, .int n), (3, .int what)]) hx hb dX8_year_115 hl (k := 3) rfl (nI_1 _) (by decide) rfl (fun ls hl => ?_)
            refine lv_goto (tgt := 52) hx hb dX8_year_118 (by decide) ?_
            exact ih0 (k0 + 1) (by omega) (((L_X8_year_0 v ms sl z_ n what k0).1) ||| (o_X8_told_143_r v ms ((L_X8_year_0 v ms sl z_ n what k0).2) ((((((((7919 * z_.toInt64) + (6151 * ((nI k0).toInt64))) + 1) * (((7919 * z_.toInt64) + (6151 * ((nI k0).toInt64))) + 1)) - ((((7919 * z_.toInt64) + (6151 * ((nI k0).toInt64))) + 1) * (((7919 * z_.toInt64) + (6151 * ((nI k0).toInt64))) + 1)) / 65521 * 65521) / 2).toInt32) - (((((((7919 * z_.toInt64) + (6151 * ((nI k0).toInt64))) + 1) * (((7919 * z_.toInt64) + (6151 * ((nI k0).toInt64))) + 1)) - ((((7919 * z_.toInt64) + (6151 * ((nI k0).toInt64))) + 1) * (((7919 * z_.toInt64) + (6151 * ((nI k0).toInt64))) + 1)) / 65521 * 65521) / 2).toInt32) / 5 * 5) (((((((((7919 * z_.toInt64) + (6151 * ((nI k0).toInt64))) + 1) * (((7919 * z_.toInt64) + (6151 * ((nI k0).toInt64))) + 1)) - ((((7919 * z_.toInt64) + (6151 * ((nI k0).toInt64))) + 1) * (((7919 * z_.toInt64) + (6151 * ((nI k0).toInt64))) + 1)) / 65521 * 65521) / 2).toInt32) / 8) - ((((((((7919 * z_.toInt64) + (6151 * ((nI k0).toInt64))) + 1) * (((7919 * z_.toInt64) + (6151 * ((nI k0).toInt64))) + 1)) - ((((7919 * z_.toInt64) + (6151 * ((nI k0).toInt64))) + 1) * (((7919 * z_.toInt64) + (6151 * ((nI k0).toInt64))) + 1)) / 65521 * 65521) / 2).toInt32) / 8) / 5 * 5))) (o_X8_told_143_2 v ms ((L_X8_year_0 v ms sl z_ n what k0).2) ((((((((7919 * z_.toInt64) + (6151 * ((nI k0).toInt64))) + 1) * (((7919 * z_.toInt64) + (6151 * ((nI k0).toInt64))) + 1)) - ((((7919 * z_.toInt64) + (6151 * ((nI k0).toInt64))) + 1) * (((7919 * z_.toInt64) + (6151 * ((nI k0).toInt64))) + 1)) / 65521 * 65521) / 2).toInt32) - (((((((7919 * z_.toInt64) + (6151 * ((nI k0).toInt64))) + 1) * (((7919 * z_.toInt64) + (6151 * ((nI k0).toInt64))) + 1)) - ((((7919 * z_.toInt64) + (6151 * ((nI k0).toInt64))) + 1) * (((7919 * z_.toInt64) + (6151 * ((nI k0).toInt64))) + 1)) / 65521 * 65521) / 2).toInt32) / 5 * 5) (((((((((7919 * z_.toInt64) + (6151 * ((nI k0).toInt64))) + 1) * (((7919 * z_.toInt64) + (6151 * ((nI k0).toInt64))) + 1)) - ((((7919 * z_.toInt64) + (6151 * ((nI k0).toInt64))) + 1) * (((7919 * z_.toInt64) + (6151 * ((nI k0).toInt64))) + 1)) / 65521 * 65521) / 2).toInt32) / 8) - ((((((((7919 * z_.toInt64) + (6151 * ((nI k0).toInt64))) + 1) * (((7919 * z_.toInt64) + (6151 * ((nI k0).toInt64))) + 1)) - ((((7919 * z_.toInt64) + (6151 * ((nI k0).toInt64))) + 1) * (((7919 * z_.toInt64) + (6151 * ((nI k0).toInt64))) + 1)) / 65521 * 65521) / 2).toInt32) / 8) / 5 * 5)) _ _ _ (by rw [L_X8_year_0]) (by rw [L_X8_year_0]) hG (lv_sub hl [0, 1, 4, 5, 6, 7] rfl)
        exact kl_0 n.toNatClampNeg 0 (by omega) 0 (cp13 sl 0 143) _ _ _ (by rw [L_X8_year_0]) (by rw [L_X8_year_0]) hG (lv_sub hl [0, 1, 2, 3, 4, 5] rfl)
      · skip
        refine lv_iconst (v := (-1)) hx hb dX8_year_36 (by decide) ?_
        rw [hQ]
        exact z_iret C hr hlk hG dX8_year_37 rfl (by rw [o_X8_year_r, if_neg c_1, if_neg c_2, if_pos c_3]) (by rw [o_X8_year_2, if_neg c_1, if_neg c_2, if_pos c_3])
