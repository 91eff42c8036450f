theorem z_shl {n : Int32} (h : ¬ o_X8_in_r n.toInt64 0 6 = 0) : (1 : Int32) <<< (n &&& 31) = nI (2 ^ n.toNatClampNeg) := by
  have h1 := z_in3 (c := 6) (by decide) (by decide) h
  have h2 := z_in2 (by decide) h
  generalize n.toNatClampNeg = k at h1 h2
  subst h2
  have : ∀ k : Fin 7, (1 : Int32) <<< (nI k.val &&& 31) = nI (2 ^ k.val) := by decide +kernel
  exact this ⟨k, by omega⟩
theorem z_p26 {n : Int32} (h : ¬ o_X8_in_r n.toInt64 0 6 = 0) : 2 ^ n.toNatClampNeg < 2 ^ 31 := by
  have h1 := z_in3 (c := 6) (by decide) (by decide) h
  exact Nat.lt_of_le_of_lt (Nat.pow_le_pow_right (by omega) h1) (by decide)
def j_X8_drought_2_0 (v : Nat → Int32) (ms : Nat → Int32) (sl : Nat → Int32) (p : Int32) (n : Int32) (dd : Int32) (s_ : Int32) (k0 : Nat) (u0_0 : Int32) (u0_1 : Int32) (u0_2 : Nat → Int32) (k1 : Nat) (u1_0 : Int32) (u1_1 : Int32) (u1_2 : Nat → Int32) : Int32 := (if (((nI k0) >>> ((nI k1) &&& 31)) &&& 1) = 1 then 1 else 0)
def j_X8_drought_3_0 (v : Nat → Int32) (ms : Nat → Int32) (sl : Nat → Int32) (p : Int32) (n : Int32) (dd : Int32) (s_ : Int32) (k0 : Nat) (u0_0 : Int32) (u0_1 : Int32) (u0_2 : Nat → Int32) (k1 : Nat) (u1_0 : Int32) (u1_1 : Int32) (u1_2 : Nat → Int32) : Int32 := (if (j_X8_drought_2_0 v ms sl p n dd s_ k0 u0_0 u0_1 u0_2 k1 u1_0 u1_1 u1_2) = 0 then (10 - dd) else dd)
def L_X8_drought_1 (v : Nat → Int32) (ms : Nat → Int32) (sl : Nat → Int32) (p : Int32) (n : Int32) (dd : Int32) (s_ : Int32) (k0 : Nat) (u0_0 : Int32) (u0_1 : Int32) (u0_2 : Nat → Int32) : Nat → Int32 × Int32 × (Nat → Int32)
  | 0 => (0, 1, (cp13 u0_2 0 143))
  | (k1 + 1) => ((((L_X8_drought_1 v ms sl p n dd s_ k0 u0_0 u0_1 u0_2 k1).1) ||| (o_X8_goes_143_r v ms ((L_X8_drought_1 v ms sl p n dd s_ k0 u0_0 u0_1 u0_2 k1).2.2) 0 0 (j_X8_drought_2_0 v ms sl p n dd s_ k0 u0_0 u0_1 u0_2 k1 ((L_X8_drought_1 v ms sl p n dd s_ k0 u0_0 u0_1 u0_2 k1).1) ((L_X8_drought_1 v ms sl p n dd s_ k0 u0_0 u0_1 u0_2 k1).2.1) ((L_X8_drought_1 v ms sl p n dd s_ k0 u0_0 u0_1 u0_2 k1).2.2)))), (((L_X8_drought_1 v ms sl p n dd s_ k0 u0_0 u0_1 u0_2 k1).2.1) * (j_X8_drought_3_0 v ms sl p n dd s_ k0 u0_0 u0_1 u0_2 k1 ((L_X8_drought_1 v ms sl p n dd s_ k0 u0_0 u0_1 u0_2 k1).1) ((L_X8_drought_1 v ms sl p n dd s_ k0 u0_0 u0_1 u0_2 k1).2.1) ((L_X8_drought_1 v ms sl p n dd s_ k0 u0_0 u0_1 u0_2 k1).2.2))), (o_X8_goes_143_2 v ms ((L_X8_drought_1 v ms sl p n dd s_ k0 u0_0 u0_1 u0_2 k1).2.2) 0 0 (j_X8_drought_2_0 v ms sl p n dd s_ k0 u0_0 u0_1 u0_2 k1 ((L_X8_drought_1 v ms sl p n dd s_ k0 u0_0 u0_1 u0_2 k1).1) ((L_X8_drought_1 v ms sl p n dd s_ k0 u0_0 u0_1 u0_2 k1).2.1) ((L_X8_drought_1 v ms sl p n dd s_ k0 u0_0 u0_1 u0_2 k1).2.2))))
def j_X8_drought_4_0 (v : Nat → Int32) (ms : Nat → Int32) (sl : Nat → Int32) (p : Int32) (n : Int32) (dd : Int32) (s_ : Int32) (k0 : Nat) (u0_0 : Int32) (u0_1 : Int32) (u0_2 : Nat → Int32) : Int32 := (if ((L_X8_drought_1 v ms sl p n dd s_ k0 u0_0 u0_1 u0_2 n.toNatClampNeg).1) < 0 then 0 else (if (((L_X8_drought_1 v ms sl p n dd s_ k0 u0_0 u0_1 u0_2 n.toNatClampNeg).2.2) 155) = p then ((L_X8_drought_1 v ms sl p n dd s_ k0 u0_0 u0_1 u0_2 n.toNatClampNeg).2.1) else 0))
def L_X8_drought_0 (v : Nat → Int32) (ms : Nat → Int32) (sl : Nat → Int32) (p : Int32) (n : Int32) (dd : Int32) (s_ : Int32) : Nat → Int32 × Int32 × (Nat → Int32)
  | 0 => (0, 0, sl)
  | (k0 + 1) => ((((L_X8_drought_0 v ms sl p n dd s_ k0).1) + ((L_X8_drought_1 v ms sl p n dd s_ k0 ((L_X8_drought_0 v ms sl p n dd s_ k0).1) ((L_X8_drought_0 v ms sl p n dd s_ k0).2.1) ((L_X8_drought_0 v ms sl p n dd s_ k0).2.2) n.toNatClampNeg).2.1)), (((L_X8_drought_0 v ms sl p n dd s_ k0).2.1) + (j_X8_drought_4_0 v ms sl p n dd s_ k0 ((L_X8_drought_0 v ms sl p n dd s_ k0).1) ((L_X8_drought_0 v ms sl p n dd s_ k0).2.1) ((L_X8_drought_0 v ms sl p n dd s_ k0).2.2))), ((L_X8_drought_1 v ms sl p n dd s_ k0 ((L_X8_drought_0 v ms sl p n dd s_ k0).1) ((L_X8_drought_0 v ms sl p n dd s_ k0).2.1) ((L_X8_drought_0 v ms sl p n dd s_ k0).2.2) n.toNatClampNeg).2.2))
def F_X8_drought (v : Nat → Int32) (ms : Nat → Int32) (sl : Nat → Int32) (p : Int32) (n : Int32) (dd : Int32) (s_ : Int32) : Nat → Int32 → Int32 → Option (Int32 × (Nat → Int32))
  | 0, _, _ => none
  | (n5 + 1), u5_0, u5_1 => (if u5_0 = 0 then (if s_ = 0 then some ((((L_X8_drought_0 v ms sl p n dd s_ (2 ^ n.toNatClampNeg)).2.1) / u5_1), ((L_X8_drought_0 v ms sl p n dd s_ (2 ^ n.toNatClampNeg)).2.2)) else some ((((L_X8_drought_0 v ms sl p n dd s_ (2 ^ n.toNatClampNeg)).1) / u5_1), ((L_X8_drought_0 v ms sl p n dd s_ (2 ^ n.toNatClampNeg)).2.2))) else (F_X8_drought v ms sl p n dd s_ n5 (u5_1 - u5_1 / u5_0 * u5_0) u5_0))
def O_X8_drought (v : Nat → Int32) (ms : Nat → Int32) (sl : Nat → Int32) (p : Int32) (n : Int32) (dd : Int32) (s_ : Int32) (fuel : Nat) : Option (Int32 × (Nat → Int32)) := (if (o_X8_isOne_r p) = 0 then some ((-1), sl) else (if (o_X8_in_r n.toInt64 0 6) = 0 then some ((-1), sl) else (if (o_X8_in_r dd.toInt64 0 10) = 0 then some ((-1), sl) else (if (o_X8_in_r s_.toInt64 0 1) = 0 then some ((-1), sl) else (F_X8_drought v ms sl p n dd s_ fuel ((L_X8_drought_0 v ms sl p n dd s_ (2 ^ n.toNatClampNeg)).1) ((L_X8_drought_0 v ms sl p n dd s_ (2 ^ n.toNatClampNeg)).2.1))))))
def drw (dd : Int32) (c : Nat) : Nat → Int32
  | 0 => 1
  | k + 1 => drw dd c k * (if ((nI c >>> (nI k &&& 31)) &&& 1) = 1 then dd else 10 - dd)
def drs (dd : Int32) (n : Nat) : Nat → Int32
  | 0 => 0
  | c + 1 => drs dd n c + drw dd c n
theorem dr_w (v ms sl : Nat → Int32) (p n dd s_ : Int32) (c : Nat) (x y : Int32) (z : Nat → Int32) : ∀ k, (L_X8_drought_1 v ms sl p n dd s_ c x y z k).2.1 = drw dd c k := by
  intro k
  induction k with
  | zero => rfl
  | succ k ih =>
    rw [L_X8_drought_1, drw, ← ih]
    dsimp only
    unfold j_X8_drought_3_0 j_X8_drought_2_0
    by_cases q : ((nI c >>> (nI k &&& 31)) &&& 1) = 1
    · rw [if_pos q, if_pos q]; rfl
    · rw [if_neg q, if_neg q]; rfl
theorem dr_s (v ms sl : Nat → Int32) (p n dd s_ : Int32) : ∀ k, (L_X8_drought_0 v ms sl p n dd s_ k).1 = drs dd n.toNatClampNeg k := by
  intro k
  induction k with
  | zero => rfl
  | succ k ih =>
    rw [L_X8_drought_0, drs, ← ih]
    dsimp only
    rw [dr_w]
theorem dr_low1 (v ms sl : Nat → Int32) (p n dd s_ : Int32) (c : Nat) (x y : Int32) (z : Nat → Int32) {j : Nat} (h : j < 143) : ∀ k, (L_X8_drought_1 v ms sl p n dd s_ c x y z k).2.2 j = z j := by
  intro k
  induction k with
  | zero => exact low_cp z h
  | succ k ih =>
    rw [L_X8_drought_1]
    dsimp only
    rw [low_goes_143 _ _ _ _ _ _ h]
    exact ih
theorem dr_low0 (v ms sl : Nat → Int32) (p n dd s_ : Int32) {j : Nat} (h : j < 143) : ∀ k, (L_X8_drought_0 v ms sl p n dd s_ k).2.2 j = sl j := by
  intro k
  induction k with
  | zero => rfl
  | succ k ih =>
    rw [L_X8_drought_0]
    dsimp only
    rw [dr_low1 _ _ _ _ _ _ _ _ _ _ _ h]
    exact ih
theorem dr_mB (v ms sl : Nat → Int32) (p n dd s_ : Int32) (c : Nat) (x y : Int32) (z : Nat → Int32) (hB : mB 1000000 (z 11)) : ∀ k : Nat, k ≤ 1000 → mB (1000000 + (k : Int)) ((L_X8_drought_1 v ms sl p n dd s_ c x y z k).2.2 154) := by
  intro k
  induction k with
  | zero => intro _; exact (by rw [cp_154]; simpa using hB : mB (1000000 + ((0 : Nat) : Int)) (cp13 z 0 143 154))
  | succ k ih =>
    intro hk
    rw [L_X8_drought_1]
    rw [show ((1000000 : Int) + ((k + 1 : Nat) : Int)) = 1000000 + (k : Int) + 1 from by omega]
    exact mB_goes_143 (by omega) _ _ _ _ _ _ (ih (by omega))
theorem dr_all : ∀ n : Fin 7, ∀ q : Fin 11, drs (nI q.val) n.val (2 ^ n.val) ≠ 0 := by decide +kernel
theorem dr_ne (v ms sl : Nat → Int32) (p n dd s_ : Int32) (hn : ¬ o_X8_in_r n.toInt64 0 6 = 0) (hd : ¬ o_X8_in_r dd.toInt64 0 10 = 0) : (L_X8_drought_0 v ms sl p n dd s_ (2 ^ n.toNatClampNeg)).1 ≠ 0 := by
  rw [dr_s]
  have h1 := z_in3 (c := 6) (by decide) (by decide) hn
  have h2 := z_in3 (c := 10) (by decide) (by decide) hd
  rw [show dd = nI dd.toNatClampNeg from z_in2 (by decide) hd]
  exact dr_all ⟨n.toNatClampNeg, by omega⟩ ⟨dd.toNatClampNeg, by omega⟩
set_option maxRecDepth 100000 in
set_option maxHeartbeats 4000000 in
theorem c_X8_drought (l : Launch) (E : zE) (v : Nat → Int32) (ms : Nat → Int32) (sl : Nat → Int32) (p : Int32) (n : Int32) (dd : Int32) (s_ : Int32) (fuel : Nat) (rr : Int32) (r0 : Nat → Int32) (m aS aW aL aT a1 a2 a3 aB : Nat) (hB : mB 1000000 (sl 11)) (hF : O_X8_drought v ms sl p n dd s_ fuel = some (rr, r0)) : HM l E yX8_drought cX8_drought 12 (some .int) 4 95 [.ref m, .int p, .int n, .int dd, .int s_] [(m, .inr (8, [.int (v 0), .int (v 1), .ref aS, .int (v 2), .int (v 3), .int (v 4), .ref aW, .int (v 5), .ref aL, .int (v 6), .int (v 7), .int (v 8), .ref aT, .int (v 9), .int (v 10), .int (v 11), .int (v 12), .ref a1, .ref a2, .ref a3, .ref aB, .int (v 13), .int (v 14)])), (aS, .inl (E.2.1.1, 12, .inl ms)), (aL, .inl (E.2.1.1, 156, .inl sl))] (some (.int rr)) [(m, .inr (8, [.int (v 0), .int (v 1), .ref aS, .int (v 2), .int (v 3), .int (v 4), .ref aW, .int (v 5), .ref aL, .int (v 6), .int (v 7), .int (v 8), .ref aT, .int (v 9), .int (v 10), .int (v 11), .int (v 12), .ref a1, .ref a2, .ref a3, .ref aB, .int (v 13), .int (v 14)])), (aS, .inl (E.2.1.1, 12, .inl ms)), (aL, .inl (E.2.1.1, 156, .inl r0))] := by
  refine HM.of (own := RX8) (plainFor_of_name (by decide)) rfl (Nat.le_of_ble_eq_true rfl) ?_
  intro zp ze zs zm za zb zt zc zA ls H locs zq C hr hlk hG hl hQ
  have hx := C.1.1
  have hb := C.1.2.1
  replace hl : lv_has ls 12 [(0, .ref m), (1, .int p), (2, .int n), (3, .int dd), (4, .int s_)] := hl
  refine lv_iload_n hx hb dX8_drought_0 rfl (lv_at hl 1 rfl) ?_
  refine call_X8_121 C dX8_drought_1 (c_X8_isOne l E p) hl hG [] (by decide) rfl (ads := []) rfl rfl (ws' := [(m, .inr (8, [.int (v 0), .int (v 1), .ref aS, .int (v 2), .int (v 3), .int (v 4), .ref aW, .int (v 5), .ref aL, .int (v 6), .int (v 7), .int (v 8), .ref aT, .int (v 9), .int (v 10), .int (v 11), .int (v 12), .ref a1, .ref a2, .ref a3, .ref aB, .int (v 13), .int (v 14)])), (aS, .inl (E.2.1.1, 12, .inl ms)), (aL, .inl (E.2.1.1, 156, .inl sl))]) rfl rfl (rest := []) rfl (Nat.le_of_ble_eq_true rfl) ⟨Nat.le_of_ble_eq_true rfl, Nat.le_of_ble_eq_true rfl⟩ (fun H locs hG => ?_)
  refine lv_if_eq (tgt := 42) hx hb dX8_drought_4 (by decide) (fun c_1 => ?_) (fun c_1 => ?_)
  · skip
    refine lv_iconst (v := (-1)) hx hb dX8_drought_42 (by decide) ?_
    rw [O_X8_drought, if_pos c_1] at hF
    cases hF
    rw [hQ]
    exact z_iret C hr hlk hG dX8_drought_43 rfl rfl rfl
  · skip
    refine lv_iload_n hx hb dX8_drought_7 rfl (lv_at hl 2 rfl) ?_
    refine lv_i2l (v := n.toInt64) hx hb dX8_drought_8 rfl ?_
    refine lv_lconst (v := 0) hx hb dX8_drought_9 (by decide) ?_
    refine lv_ldc2 (v := 6) hx hb C.1.2.2.2.1 (C.1.2.2.2.2 _ (inr31 _ (List.mem_of_getElem? (i := 22) rfl))) dX8_drought_10 ?_
    refine call_X8_49 C dX8_drought_13 (c_X8_in l E n.toInt64 0 6) hl hG [] (by decide) rfl (ads := []) rfl rfl (ws' := [(m, .inr (8, [.int (v 0), .int (v 1), .ref aS, .int (v 2), .int (v 3), .int (v 4), .ref aW, .int (v 5), .ref aL, .int (v 6), .int (v 7), .int (v 8), .ref aT, .int (v 9), .int (v 10), .int (v 11), .int (v 12), .ref a1, .ref a2, .ref a3, .ref aB, .int (v 13), .int (v 14)])), (aS, .inl (E.2.1.1, 12, .inl ms)), (aL, .inl (E.2.1.1, 156, .inl sl))]) rfl rfl (rest := []) rfl (Nat.le_of_ble_eq_true rfl) ⟨Nat.le_of_ble_eq_true rfl, Nat.le_of_ble_eq_true rfl⟩ (fun H locs hG => ?_)
    refine lv_if_eq (tgt := 42) hx hb dX8_drought_16 (by decide) (fun c_2 => ?_) (fun c_2 => ?_)
    · skip
      refine lv_iconst (v := (-1)) hx hb dX8_drought_42 (by decide) ?_
      rw [O_X8_drought, if_neg c_1, if_pos c_2] at hF
      cases hF
      rw [hQ]
      exact z_iret C hr hlk hG dX8_drought_43 rfl rfl rfl
    · skip
      refine lv_iload_n hx hb dX8_drought_19 rfl (lv_at hl 3 rfl) ?_
      refine lv_i2l (v := dd.toInt64) hx hb dX8_drought_20 rfl ?_
      refine lv_lconst (v := 0) hx hb dX8_drought_21 (by decide) ?_
      refine lv_ldc2 (v := 10) hx hb C.1.2.2.2.1 (C.1.2.2.2.2 _ (inr31 _ (List.mem_of_getElem? (i := 23) rfl))) dX8_drought_22 ?_
      refine call_X8_49 C dX8_drought_25 (c_X8_in l E dd.toInt64 0 10) hl hG [] (by decide) rfl (ads := []) rfl rfl (ws' := [(m, .inr (8, [.int (v 0), .int (v 1), .ref aS, .int (v 2), .int (v 3), .int (v 4), .ref aW, .int (v 5), .ref aL, .int (v 6), .int (v 7), .int (v 8), .ref aT, .int (v 9), .int (v 10), .int (v 11), .int (v 12), .ref a1, .ref a2, .ref a3, .ref aB, .int (v 13), .int (v 14)])), (aS, .inl (E.2.1.1, 12, .inl ms)), (aL, .inl (E.2.1.1, 156, .inl sl))]) rfl rfl (rest := []) rfl (Nat.le_of_ble_eq_true rfl) ⟨Nat.le_of_ble_eq_true rfl, Nat.le_of_ble_eq_true rfl⟩ (fun H locs hG => ?_)
      refine lv_if_eq (tgt := 42) hx hb dX8_drought_28 (by decide) (fun c_3 => ?_) (fun c_3 => ?_)
      · skip
        refine lv_iconst (v := (-1)) hx hb dX8_drought_42 (by decide) ?_
        rw [O_X8_drought, if_neg c_1, if_neg c_2, if_pos c_3] at hF
        cases hF
        rw [hQ]
        exact z_iret C hr hlk hG dX8_drought_43 rfl rfl rfl
      · skip
        refine lv_iload hx hb dX8_drought_31 (lv_at hl 4 rfl) ?_
        refine lv_i2l (v := s_.toInt64) hx hb dX8_drought_33 rfl ?_
        refine lv_lconst (v := 0) hx hb dX8_drought_34 (by decide) ?_
        refine lv_lconst (v := 1) hx hb dX8_drought_35 (by decide) ?_
        refine call_X8_49 C dX8_drought_36 (c_X8_in l E s_.toInt64 0 1) hl hG [] (by decide) rfl (ads := []) rfl rfl (ws' := [(m, .inr (8, [.int (v 0), .int (v 1), .ref aS, .int (v 2), .int (v 3), .int (v 4), .ref aW, .int (v 5), .ref aL, .int (v 6), .int (v 7), .int (v 8), .ref aT, .int (v 9), .int (v 10), .int (v 11), .int (v 12), .ref a1, .ref a2, .ref a3, .ref aB, .int (v 13), .int (v 14)])), (aS, .inl (E.2.1.1, 12, .inl ms)), (aL, .inl (E.2.1.1, 156, .inl sl))]) rfl rfl (rest := []) rfl (Nat.le_of_ble_eq_true rfl) ⟨Nat.le_of_ble_eq_true rfl, Nat.le_of_ble_eq_true rfl⟩ (fun H locs hG => ?_)
        refine lv_if_ne (tgt := 44) hx hb dX8_drought_39 (by decide) (fun c_4 => ?_) (fun c_4 => ?_)
        · skip
          refine lv_iconst (v := 0) hx hb dX8_drought_44 (by decide) ?_
          refine lv_istore (lv' := [(5, .int 0), (0, .ref m), (1, .int p), (2, .int n), (3, .int dd), (4, .int s_)]) hx hb dX8_drought_45 hl (by decide) rfl (fun ls hl => ?_)
          refine lv_iconst (v := 0) hx hb dX8_drought_47 (by decide) ?_
          refine lv_istore (lv' := [(6, .int 0), (5, .int 0), (0, .ref m), (1, .int p), (2, .int n), (3, .int dd), (4, .int s_)]) hx hb dX8_drought_48 hl (by decide) rfl (fun ls hl => ?_)
          refine lv_iconst (v := 0) hx hb dX8_drought_50 (by decide) ?_
          refine lv_istore (lv' := [(7, .int 0), (6, .int 0), (5, .int 0), (0, .ref m), (1, .int p), (2, .int n), (3, .int dd), (4, .int s_)]) hx hb dX8_drought_51 hl (by decide) rfl (fun ls hl => ?_)
          have kl_0 : ∀ (j0 k0 : Nat), j0 + k0 = (2 ^ n.toNatClampNeg) → ∀ (u0_0 : Int32) (u0_1 : Int32) (u0_2 : Nat → Int32) (H : Heap) (locs : List Loc) (ls : Array Slot), ((L_X8_drought_0 v ms sl p n dd s_ k0).1) = u0_0 → ((L_X8_drought_0 v ms sl p n dd s_ k0).2.1) = u0_1 → ((L_X8_drought_0 v ms sl p n dd s_ k0).2.2) = u0_2 → zG E zA zs.heap [(m, .inr (8, [.int (v 0), .int (v 1), .ref aS, .int (v 2), .int (v 3), .int (v 4), .ref aW, .int (v 5), .ref aL, .int (v 6), .int (v 7), .int (v 8), .ref aT, .int (v 9), .int (v 10), .int (v 11), .int (v 12), .ref a1, .ref a2, .ref a3, .ref aB, .int (v 13), .int (v 14)])), (aS, .inl (E.2.1.1, 12, .inl ms)), (aL, .inl (E.2.1.1, 156, .inl u0_2))] H locs → lv_has ls 12 [(7, .int (nI k0)), (6, .int u0_0), (5, .int u0_1), (0, .ref m), (1, .int p), (2, .int n), (3, .int dd), (4, .int s_)] → W zp l ze (zR 4 95) zs zm za zb zt zc H locs 0 0 zq (F0 zm 53 ls []) := by
            intro j0
            induction j0 with
            | zero =>
              intro k0 hk0 u0_0 u0_1 u0_2 H locs ls e_u0_0 e_u0_1 e_u0_2 hG hl
              subst e_u0_0
              subst e_u0_1
              subst e_u0_2
              obtain rfl : k0 = (2 ^ n.toNatClampNeg) := by omega
              refine lv_iload hx hb dX8_drought_53 (lv_at hl 0 rfl) ?_
              refine lv_iconst (v := 1) hx hb dX8_drought_55 (by decide) ?_
              refine lv_iload_n hx hb dX8_drought_56 rfl (lv_at hl 5 rfl) ?_
              refine lv_ishl hx hb dX8_drought_57 ?_
              refine lv_icmp_ge (tgt := 183) hx hb dX8_drought_58 (by decide) (fun c_25 => ?_) (fun c_25 => absurd (z_ge_yes (z_shl c_2)) c_25)
              refine lv_iload hx hb dX8_drought_183 (lv_at hl 2 rfl) ?_
              refine lv_istore (lv' := [(7, .int ((L_X8_drought_0 v ms sl p n dd s_ (2 ^ n.toNatClampNeg)).2.1)), (6, .int ((L_X8_drought_0 v ms sl p n dd s_ (2 ^ n.toNatClampNeg)).1)), (5, .int ((L_X8_drought_0 v ms sl p n dd s_ (2 ^ n.toNatClampNeg)).2.1)), (0, .ref m), (1, .int p), (2, .int n), (3, .int dd), (4, .int s_)]) hx hb dX8_drought_185 hl (by decide) rfl (fun ls hl => ?_)
              refine lv_iload hx hb dX8_drought_187 (lv_at hl 1 rfl) ?_
              refine lv_istore (lv' := [(8, .int ((L_X8_drought_0 v ms sl p n dd s_ (2 ^ n.toNatClampNeg)).1)), (7, .int ((L_X8_drought_0 v ms sl p n dd s_ (2 ^ n.toNatClampNeg)).2.1)), (6, .int ((L_X8_drought_0 v ms sl p n dd s_ (2 ^ n.toNatClampNeg)).1)), (5, .int ((L_X8_drought_0 v ms sl p n dd s_ (2 ^ n.toNatClampNeg)).2.1)), (0, .ref m), (1, .int p), (2, .int n), (3, .int dd), (4, .int s_)]) hx hb dX8_drought_189 hl (by decide) rfl (fun ls hl => ?_)
              rw [O_X8_drought, if_neg c_1, if_neg c_2, if_neg c_3, if_neg c_4] at hF
              have kf_5 : ∀ (n5 : Nat) (u5_0 : Int32) (u5_1 : Int32) (H : Heap) (locs : List Loc) (ls : Array Slot), (F_X8_drought v ms sl p n dd s_ n5 u5_0 u5_1) = some (rr, r0) → (u5_1 ≠ 0 ∨ u5_0 ≠ 0) → zG E zA zs.heap [(m, .inr (8, [.int (v 0), .int (v 1), .ref aS, .int (v 2), .int (v 3), .int (v 4), .ref aW, .int (v 5), .ref aL, .int (v 6), .int (v 7), .int (v 8), .ref aT, .int (v 9), .int (v 10), .int (v 11), .int (v 12), .ref a1, .ref a2, .ref a3, .ref aB, .int (v 13), .int (v 14)])), (aS, .inl (E.2.1.1, 12, .inl ms)), (aL, .inl (E.2.1.1, 156, .inl ((L_X8_drought_0 v ms sl p n dd s_ (2 ^ n.toNatClampNeg)).2.2)))] H locs → lv_has ls 12 [(8, .int u5_0), (7, .int u5_1), (6, .int ((L_X8_drought_0 v ms sl p n dd s_ (2 ^ n.toNatClampNeg)).1)), (5, .int ((L_X8_drought_0 v ms sl p n dd s_ (2 ^ n.toNatClampNeg)).2.1)), (0, .ref m), (1, .int p), (2, .int n), (3, .int dd), (4, .int s_)] → W zp l ze (zR 4 95) zs zm za zb zt zc H locs 0 0 zq (F0 zm 191 ls []) := by
                clear hF
                intro n5
                induction n5 with
                | zero =>
                  intro u5_0 u5_1 H locs ls hF hinv hG hl
                  rw [F_X8_drought] at hF
                  cases hF
                | succ n5 ih5 =>
                  intro u5_0 u5_1 H locs ls hF hinv hG hl
                  refine lv_iload hx hb dX8_drought_191 (lv_at hl 0 rfl) ?_
                  refine lv_if_eq (tgt := 214) hx hb dX8_drought_193 (by decide) (fun c_30 => ?_) (fun c_30 => ?_)
                  · skip
                    refine lv_iload hx hb dX8_drought_214 (lv_at hl 8 rfl) ?_
                    refine lv_if_ne (tgt := 227) hx hb dX8_drought_216 (by decide) (fun c_31 => ?_) (fun c_31 => ?_)
                    · skip
                      refine lv_iload hx hb dX8_drought_227 (lv_at hl 2 rfl) ?_
                      refine lv_iload hx hb dX8_drought_229 (lv_at hl 1 rfl) ?_
                      refine lv_idiv hx hb dX8_drought_231 (hinv.resolve_right (fun q => q c_30)) ?_
                      rw [F_X8_drought, if_pos c_30, if_neg c_31] at hF
                      cases hF
                      rw [hQ]
                      exact z_iret C hr hlk hG dX8_drought_232 rfl rfl rfl
                    · skip
                      refine lv_iload hx hb dX8_drought_219 (lv_at hl 3 rfl) ?_
                      refine lv_iload hx hb dX8_drought_221 (lv_at hl 1 rfl) ?_
                      refine lv_idiv hx hb dX8_drought_223 (hinv.resolve_right (fun q => q c_30)) ?_
                      refine lv_goto (tgt := 232) hx hb dX8_drought_224 (by decide) ?_
                      rw [F_X8_drought, if_pos c_30, if_pos c_31] at hF
                      cases hF
                      rw [hQ]
                      exact z_iret C hr hlk hG dX8_drought_232 rfl rfl rfl
                  · skip
                    refine lv_iload hx hb dX8_drought_196 (lv_at hl 1 rfl) ?_
                    refine lv_iload hx hb dX8_drought_198 (lv_at hl 0 rfl) ?_
                    refine lv_irem hx hb dX8_drought_200 c_30 ?_
                    refine lv_istore (lv' := [(9, .int (u5_1 - u5_1 / u5_0 * u5_0)), (8, .int u5_0), (7, .int u5_1), (6, .int ((L_X8_drought_0 v ms sl p n dd s_ (2 ^ n.toNatClampNeg)).1)), (5, .int ((L_X8_drought_0 v ms sl p n dd s_ (2 ^ n.toNatClampNeg)).2.1)), (0, .ref m), (1, .int p), (2, .int n), (3, .int dd), (4, .int s_)]) hx hb dX8_drought_201 hl (by decide) rfl (fun ls hl => ?_)
                    refine lv_iload hx hb dX8_drought_203 (lv_at hl 1 rfl) ?_
                    refine lv_istore (lv' := [(7, .int u5_0), (9, .int (u5_1 - u5_1 / u5_0 * u5_0)), (8, .int u5_0), (6, .int ((L_X8_drought_0 v ms sl p n dd s_ (2 ^ n.toNatClampNeg)).1)), (5, .int ((L_X8_drought_0 v ms sl p n dd s_ (2 ^ n.toNatClampNeg)).2.1)), (0, .ref m), (1, .int p), (2, .int n), (3, .int dd), (4, .int s_)]) hx hb dX8_drought_205 hl (by decide) rfl (fun ls hl => ?_)
                    refine lv_iload hx hb dX8_drought_207 (lv_at hl 1 rfl) ?_
                    refine lv_istore (lv' := [(8, .int (u5_1 - u5_1 / u5_0 * u5_0)), (7, .int u5_0), (9, .int (u5_1 - u5_1 / u5_0 * u5_0)), (6, .int ((L_X8_drought_0 v ms sl p n dd s_ (2 ^ n.toNatClampNeg)).1)), (5, .int ((L_X8_drought_0 v ms sl p n dd s_ (2 ^ n.toNatClampNeg)).2.1)), (0, .ref m), (1, .int p), (2, .int n), (3, .int dd), (4, .int s_)]) hx hb dX8_drought_209 hl (by decide) rfl (fun ls hl => ?_)
                    refine lv_goto (tgt := 191) hx hb dX8_drought_211 (by decide) ?_
                    rw [F_X8_drought, if_neg c_30] at hF
                    exact ih5 (u5_1 - u5_1 / u5_0 * u5_0) u5_0 _ _ _ hF (Or.inl c_30) hG (lv_sub hl [0, 1, 3, 4, 5, 6, 7, 8, 9] rfl)
              exact kf_5 fuel ((L_X8_drought_0 v ms sl p n dd s_ (2 ^ n.toNatClampNeg)).1) ((L_X8_drought_0 v ms sl p n dd s_ (2 ^ n.toNatClampNeg)).2.1) _ _ _ hF (Or.inr (dr_ne v ms sl p n dd s_ c_2 c_3)) hG (lv_sub hl [0, 1, 2, 3, 4, 5, 6, 7, 8] rfl)
            | succ j0 ih0 =>
              intro k0 hk0 u0_0 u0_1 u0_2 H locs ls e_u0_0 e_u0_1 e_u0_2 hG hl
              subst e_u0_0
              subst e_u0_1
              subst e_u0_2
              have hlt : k0 < (2 ^ n.toNatClampNeg) := by omega
              refine lv_iload hx hb dX8_drought_53 (lv_at hl 0 rfl) ?_
              refine lv_iconst (v := 1) hx hb dX8_drought_55 (by decide) ?_
              refine lv_iload_n hx hb dX8_drought_56 rfl (lv_at hl 5 rfl) ?_
              refine lv_ishl hx hb dX8_drought_57 ?_
              refine lv_icmp_ge (tgt := 183) hx hb dX8_drought_58 (by decide) (fun c_32 => absurd c_32 (z_ge_no hlt (z_p26 c_2) (z_shl c_2))) (fun c_32 => ?_)
              refine lv_iconst (v := 1) hx hb dX8_drought_61 (by decide) ?_
              refine lv_istore (lv' := [(8, .int 1), (7, .int (nI k0)), (6, .int ((L_X8_drought_0 v ms sl p n dd s_ k0).1)), (5, .int ((L_X8_drought_0 v ms sl p n dd s_ k0).2.1)), (0, .ref m), (1, .int p), (2, .int n), (3, .int dd), (4, .int s_)]) hx hb dX8_drought_62 hl (by decide) rfl (fun ls hl => ?_)
              refine lv_iconst (v := 0) hx hb dX8_drought_64 (by decide) ?_
              refine lv_istore (lv' := [(9, .int 0), (8, .int 1), (7, .int (nI k0)), (6, .int ((L_X8_drought_0 v ms sl p n dd s_ k0).1)), (5, .int ((L_X8_drought_0 v ms sl p n dd s_ k0).2.1)), (0, .ref m), (1, .int p), (2, .int n), (3, .int dd), (4, .int s_)]) hx hb dX8_drought_65 hl (by decide) rfl (fun ls hl => ?_)
              refine lv_aload_n hx hb dX8_drought_67 rfl (lv_at hl 5 rfl) ?_
              refine lv_iconst (v := 0) hx hb dX8_drought_68 (by decide) ?_
              refine lv_sipush (v := 143) hx hb dX8_drought_69 (by decide) ?_
              refine call_X8_101 C dX8_drought_72 (c_X8_copies_t l E v ((L_X8_drought_0 v ms sl p n dd s_ k0).2.2) 0 143 m aS aW aL aT a1 a2 a3 aB (by omega) (by omega) (by omega)) hl hG 0 rfl [0, 2] (by decide) rfl (ads := [m, aL]) rfl rfl (ws' := [(m, .inr (8, [.int (v 0), .int (v 1), .ref aS, .int (v 2), .int (v 3), .int (v 4), .ref aW, .int (v 5), .ref aL, .int (v 6), .int (v 7), .int (v 8), .ref aT, .int (v 9), .int (v 10), .int (v 11), .int (v 12), .ref a1, .ref a2, .ref a3, .ref aB, .int (v 13), .int (v 14)])), (aS, .inl (E.2.1.1, 12, .inl ms)), (aL, .inl (E.2.1.1, 156, .inl (cp13 ((L_X8_drought_0 v ms sl p n dd s_ k0).2.2) 0 143)))]) rfl rfl (rest := []) rfl (Nat.le_of_ble_eq_true rfl) ⟨Nat.le_of_ble_eq_true rfl, Nat.le_of_ble_eq_true rfl⟩ (fun H locs hG => ?_)
              refine lv_iconst (v := 0) hx hb dX8_drought_75 (by decide) ?_
              refine lv_istore (lv' := [(10, .int 0), (9, .int 0), (8, .int 1), (7, .int (nI k0)), (6, .int ((L_X8_drought_0 v ms sl p n dd s_ k0).1)), (5, .int ((L_X8_drought_0 v ms sl p n dd s_ k0).2.1)), (0, .ref m), (1, .int p), (2, .int n), (3, .int dd), (4, .int s_)]) hx hb dX8_drought_76 hl (by decide) rfl (fun ls hl => ?_)
              have kl_1 : ∀ (j1 k1 : Nat), j1 + k1 = n.toNatClampNeg → ∀ (u1_0 : Int32) (u1_1 : Int32) (u1_2 : Nat → Int32) (H : Heap) (locs : List Loc) (ls : Array Slot), ((L_X8_drought_1 v ms sl p n dd s_ k0 ((L_X8_drought_0 v ms sl p n dd s_ k0).1) ((L_X8_drought_0 v ms sl p n dd s_ k0).2.1) ((L_X8_drought_0 v ms sl p n dd s_ k0).2.2) k1).1) = u1_0 → ((L_X8_drought_1 v ms sl p n dd s_ k0 ((L_X8_drought_0 v ms sl p n dd s_ k0).1) ((L_X8_drought_0 v ms sl p n dd s_ k0).2.1) ((L_X8_drought_0 v ms sl p n dd s_ k0).2.2) k1).2.1) = u1_1 → ((L_X8_drought_1 v ms sl p n dd s_ k0 ((L_X8_drought_0 v ms sl p n dd s_ k0).1) ((L_X8_drought_0 v ms sl p n dd s_ k0).2.1) ((L_X8_drought_0 v ms sl p n dd s_ k0).2.2) k1).2.2) = u1_2 → zG E zA zs.heap [(m, .inr (8, [.int (v 0), .int (v 1), .ref aS, .int (v 2), .int (v 3), .int (v 4), .ref aW, .int (v 5), .ref aL, .int (v 6), .int (v 7), .int (v 8), .ref aT, .int (v 9), .int (v 10), .int (v 11), .int (v 12), .ref a1, .ref a2, .ref a3, .ref aB, .int (v 13), .int (v 14)])), (aS, .inl (E.2.1.1, 12, .inl ms)), (aL, .inl (E.2.1.1, 156, .inl u1_2))] H locs → lv_has ls 12 [(10, .int (nI k1)), (9, .int u1_0), (8, .int u1_1), (7, .int (nI k0)), (6, .int ((L_X8_drought_0 v ms sl p n dd s_ k0).1)), (5, .int ((L_X8_drought_0 v ms sl p n dd s_ k0).2.1)), (0, .ref m), (1, .int p), (2, .int n), (3, .int dd), (4, .int s_)] → W zp l ze (zR 4 95) zs zm za zb zt zc H locs 0 0 zq (F0 zm 78 ls []) := by
                intro j1
                induction j1 with
                | zero =>
                  intro k1 hk1 u1_0 u1_1 u1_2 H locs ls e_u1_0 e_u1_1 e_u1_2 hG hl
                  subst e_u1_0
                  subst e_u1_1
                  subst e_u1_2
                  obtain rfl : k1 = n.toNatClampNeg := by omega
                  refine lv_iload hx hb dX8_drought_78 (lv_at hl 0 rfl) ?_
                  refine lv_iload_n hx hb dX8_drought_80 rfl (lv_at hl 8 rfl) ?_
                  refine lv_icmp_ge (tgt := 142) hx hb dX8_drought_81 (by decide) (fun c_39 => ?_) (fun c_39 => absurd (z_ge_yes (z_in2 (by decide) c_2)) c_39)
                  refine lv_iload hx hb dX8_drought_142 (lv_at hl 4 rfl) ?_
                  refine lv_iload hx hb dX8_drought_144 (lv_at hl 2 rfl) ?_
                  refine lv_iadd hx hb dX8_drought_146 ?_
                  refine lv_istore (lv' := [(6, .int (((L_X8_drought_0 v ms sl p n dd s_ k0).1) + ((L_X8_drought_1 v ms sl p n dd s_ k0 ((L_X8_drought_0 v ms sl p n dd s_ k0).1) ((L_X8_drought_0 v ms sl p n dd s_ k0).2.1) ((L_X8_drought_0 v ms sl p n dd s_ k0).2.2) n.toNatClampNeg).2.1))), (10, .int (nI n.toNatClampNeg)), (9, .int ((L_X8_drought_1 v ms sl p n dd s_ k0 ((L_X8_drought_0 v ms sl p n dd s_ k0).1) ((L_X8_drought_0 v ms sl p n dd s_ k0).2.1) ((L_X8_drought_0 v ms sl p n dd s_ k0).2.2) n.toNatClampNeg).1)), (8, .int ((L_X8_drought_1 v ms sl p n dd s_ k0 ((L_X8_drought_0 v ms sl p n dd s_ k0).1) ((L_X8_drought_0 v ms sl p n dd s_ k0).2.1) ((L_X8_drought_0 v ms sl p n dd s_ k0).2.2) n.toNatClampNeg).2.1)), (7, .int (nI k0)), (5, .int ((L_X8_drought_0 v ms sl p n dd s_ k0).2.1)), (0, .ref m), (1, .int p), (2, .int n), (3, .int dd), (4, .int s_)]) hx hb dX8_drought_147 hl (by decide) rfl (fun ls hl => ?_)
                  refine lv_iload hx hb dX8_drought_149 (lv_at hl 5 rfl) ?_
                  refine lv_iload hx hb dX8_drought_151 (lv_at hl 2 rfl) ?_
                  have k_4 : ∀ (y4_0 : Int32) (H : Heap) (locs : List Loc) (ls : Array Slot), (j_X8_drought_4_0 v ms sl p n dd s_ k0 ((L_X8_drought_0 v ms sl p n dd s_ k0).1) ((L_X8_drought_0 v ms sl p n dd s_ k0).2.1) ((L_X8_drought_0 v ms sl p n dd s_ k0).2.2)) = y4_0 → zG E zA zs.heap [(m, .inr (8, [.int (v 0), .int (v 1), .ref aS, .int (v 2), .int (v 3), .int (v 4), .ref aW, .int (v 5), .ref aL, .int (v 6), .int (v 7), .int (v 8), .ref aT, .int (v 9), .int (v 10), .int (v 11), .int (v 12), .ref a1, .ref a2, .ref a3, .ref aB, .int (v 13), .int (v 14)])), (aS, .inl (E.2.1.1, 12, .inl ms)), (aL, .inl (E.2.1.1, 156, .inl ((L_X8_drought_1 v ms sl p n dd s_ k0 ((L_X8_drought_0 v ms sl p n dd s_ k0).1) ((L_X8_drought_0 v ms sl p n dd s_ k0).2.1) ((L_X8_drought_0 v ms sl p n dd s_ k0).2.2) n.toNatClampNeg).2.2)))] H locs → lv_has ls 12 [(6, .int (((L_X8_drought_0 v ms sl p n dd s_ k0).1) + ((L_X8_drought_1 v ms sl p n dd s_ k0 ((L_X8_drought_0 v ms sl p n dd s_ k0).1) ((L_X8_drought_0 v ms sl p n dd s_ k0).2.1) ((L_X8_drought_0 v ms sl p n dd s_ k0).2.2) n.toNatClampNeg).2.1))), (10, .int (nI n.toNatClampNeg)), (9, .int ((L_X8_drought_1 v ms sl p n dd s_ k0 ((L_X8_drought_0 v ms sl p n dd s_ k0).1) ((L_X8_drought_0 v ms sl p n dd s_ k0).2.1) ((L_X8_drought_0 v ms sl p n dd s_ k0).2.2) n.toNatClampNeg).1)), (8, .int ((L_X8_drought_1 v ms sl p n dd s_ k0 ((L_X8_drought_0 v ms sl p n dd s_ k0).1) ((L_X8_drought_0 v ms sl p n dd s_ k0).2.1) ((L_X8_drought_0 v ms sl p n dd s_ k0).2.2) n.toNatClampNeg).2.1)), (7, .int (nI k0)), (5, .int ((L_X8_drought_0 v ms sl p n dd s_ k0).2.1)), (0, .ref m), (1, .int p), (2, .int n), (3, .int dd), (4, .int s_)] → W zp l ze (zR 4 95) zs zm za zb zt zc H locs 0 0 zq (F0 zm 174 ls [.int y4_0, .int ((L_X8_drought_0 v ms sl p n dd s_ k0).2.1)]) := by
                    intro y4_0 H locs ls e_y4_0 hG hl
                    subst e_y4_0
                    refine lv_iadd hx hb dX8_drought_174 ?_
                    refine lv_istore (lv' := [(5, .int (((L_X8_drought_0 v ms sl p n dd s_ k0).2.1) + (j_X8_drought_4_0 v ms sl p n dd s_ k0 ((L_X8_drought_0 v ms sl p n dd s_ k0).1) ((L_X8_drought_0 v ms sl p n dd s_ k0).2.1) ((L_X8_drought_0 v ms sl p n dd s_ k0).2.2)))), (6, .int (((L_X8_drought_0 v ms sl p n dd s_ k0).1) + ((L_X8_drought_1 v ms sl p n dd s_ k0 ((L_X8_drought_0 v ms sl p n dd s_ k0).1) ((L_X8_drought_0 v ms sl p n dd s_ k0).2.1) ((L_X8_drought_0 v ms sl p n dd s_ k0).2.2) n.toNatClampNeg).2.1))), (10, .int (nI n.toNatClampNeg)), (9, .int ((L_X8_drought_1 v ms sl p n dd s_ k0 ((L_X8_drought_0 v ms sl p n dd s_ k0).1) ((L_X8_drought_0 v ms sl p n dd s_ k0).2.1) ((L_X8_drought_0 v ms sl p n dd s_ k0).2.2) n.toNatClampNeg).1)), (8, .int ((L_X8_drought_1 v ms sl p n dd s_ k0 ((L_X8_drought_0 v ms sl p n dd s_ k0).1) ((L_X8_drought_0 v ms sl p n dd s_ k0).2.1) ((L_X8_drought_0 v ms sl p n dd s_ k0).2.2) n.toNatClampNeg).2.1)), (7, .int (nI k0)), (0, .ref m), (1, .int p), (2, .int n), (3, .int dd), (4, .int s_)]) hx hb dX8_drought_175 hl (by decide) rfl (fun ls hl => ?_)
                    refine lv_iinc (v := (nI (k0 + 1))) (lv' := [(7, .int (nI (k0 + 1))), (5, .int (((L_X8_drought_0 v ms sl p n dd s_ k0).2.1) + (j_X8_drought_4_0 v ms sl p n dd s_ k0 ((L_X8_drought_0 v ms sl p n dd s_ k0).1) ((L_X8_drought_0 v ms sl p n dd s_ k0).2.1) ((L_X8_drought_0 v ms sl p n dd s_ k0).2.2)))), (6, .int (((L_X8_drought_0 v ms sl p n dd s_ k0).1) + ((L_X8_drought_1 v ms sl p n dd s_ k0 ((L_X8_drought_0 v ms sl p n dd s_ k0).1) ((L_X8_drought_0 v ms sl p n dd s_ k0).2.1) ((L_X8_drought_0 v ms sl p n dd s_ k0).2.2) n.toNatClampNeg).2.1))), (10, .int (nI n.toNatClampNeg)), (9, .int ((L_X8_drought_1 v ms sl p n dd s_ k0 ((L_X8_drought_0 v ms sl p n dd s_ k0).1) ((L_X8_drought_0 v ms sl p n dd s_ k0).2.1) ((L_X8_drought_0 v ms sl p n dd s_ k0).2.2) n.toNatClampNeg).1)), (8, .int ((L_X8_drought_1 v ms sl p n dd s_ k0 ((L_X8_drought_0 v ms sl p n dd s_ k0).1) ((L_X8_drought_0 v ms sl p n dd s_ k0).2.1) ((L_X8_drought_0 v ms sl p n dd s_ k0).2.2) n.toNatClampNeg).2.1)), (0, .ref m), (1, .int p), (2, .int n), (3, .int dd), (4, .int s_)]) hx hb dX8_drought_177 hl (k := 5) rfl (nI_1 _) (by decide) rfl (fun ls hl => ?_)
                    refine lv_goto (tgt := 53) hx hb dX8_drought_180 (by decide) ?_
                    exact ih0 (k0 + 1) (by omega) (((L_X8_drought_0 v ms sl p n dd s_ k0).1) + ((L_X8_drought_1 v ms sl p n dd s_ k0 ((L_X8_drought_0 v ms sl p n dd s_ k0).1) ((L_X8_drought_0 v ms sl p n dd s_ k0).2.1) ((L_X8_drought_0 v ms sl p n dd s_ k0).2.2) n.toNatClampNeg).2.1)) (((L_X8_drought_0 v ms sl p n dd s_ k0).2.1) + (j_X8_drought_4_0 v ms sl p n dd s_ k0 ((L_X8_drought_0 v ms sl p n dd s_ k0).1) ((L_X8_drought_0 v ms sl p n dd s_ k0).2.1) ((L_X8_drought_0 v ms sl p n dd s_ k0).2.2))) ((L_X8_drought_1 v ms sl p n dd s_ k0 ((L_X8_drought_0 v ms sl p n dd s_ k0).1) ((L_X8_drought_0 v ms sl p n dd s_ k0).2.1) ((L_X8_drought_0 v ms sl p n dd s_ k0).2.2) n.toNatClampNeg).2.2) _ _ _ (by rw [L_X8_drought_0]) (by rw [L_X8_drought_0]) (by rw [L_X8_drought_0]) hG (lv_sub hl [0, 2, 1, 6, 7, 8, 9, 10] rfl)
                  refine lv_if_lt (tgt := 173) hx hb dX8_drought_153 (by decide) (fun c_40 => ?_) (fun c_40 => ?_)
                  · skip
                    refine lv_iconst (v := 0) hx hb dX8_drought_173 (by decide) ?_
                    exact k_4 0 _ _ _ (by rw [j_X8_drought_4_0, if_pos c_40]) hG (lv_sub hl [0, 1, 2, 3, 4, 5, 6, 7, 8, 9, 10] rfl)
                  · skip
                    refine lv_aload_n hx hb dX8_drought_156 rfl (lv_at hl 6 rfl) ?_
                    refine gf_X8_16 C dX8_drought_157 hG 0 rfl rfl ?_
                    refine lv_sipush (v := 155) hx hb dX8_drought_160 (by decide) ?_
                    refine z_ild C dX8_drought_163 hG 2 rfl 155 (by decide) (Nat.le_of_ble_eq_true rfl) (Nat.le_of_ble_eq_true rfl) ?_
                    refine lv_iload_n hx hb dX8_drought_164 rfl (lv_at hl 7 rfl) ?_
                    refine lv_icmp_ne (tgt := 173) hx hb dX8_drought_165 (by decide) (fun c_42 => ?_) (fun c_42 => ?_)
                    · skip
                      refine lv_iconst (v := 0) hx hb dX8_drought_173 (by decide) ?_
                      exact k_4 0 _ _ _ (by rw [j_X8_drought_4_0, if_neg c_40, if_neg c_42]) hG (lv_sub hl [0, 1, 2, 3, 4, 5, 6, 7, 8, 9, 10] rfl)
                    · skip
                      refine lv_iload hx hb dX8_drought_168 (lv_at hl 3 rfl) ?_
                      refine lv_goto (tgt := 174) hx hb dX8_drought_170 (by decide) ?_
                      exact k_4 ((L_X8_drought_1 v ms sl p n dd s_ k0 ((L_X8_drought_0 v ms sl p n dd s_ k0).1) ((L_X8_drought_0 v ms sl p n dd s_ k0).2.1) ((L_X8_drought_0 v ms sl p n dd s_ k0).2.2) n.toNatClampNeg).2.1) _ _ _ (by rw [j_X8_drought_4_0, if_neg c_40, if_pos c_42]) hG (lv_sub hl [0, 1, 2, 3, 4, 5, 6, 7, 8, 9, 10] rfl)
                | succ j1 ih1 =>
                  intro k1 hk1 u1_0 u1_1 u1_2 H locs ls e_u1_0 e_u1_1 e_u1_2 hG hl
                  subst e_u1_0
                  subst e_u1_1
                  subst e_u1_2
                  have hlt : k1 < n.toNatClampNeg := by omega
                  refine lv_iload hx hb dX8_drought_78 (lv_at hl 0 rfl) ?_
                  refine lv_iload_n hx hb dX8_drought_80 rfl (lv_at hl 8 rfl) ?_
                  refine lv_icmp_ge (tgt := 142) hx hb dX8_drought_81 (by decide) (fun c_43 => absurd c_43 (z_ge_no hlt (z_in1 (by decide) c_2) (z_in2 (by decide) c_2))) (fun c_43 => ?_)
                  refine lv_iload hx hb dX8_drought_84 (lv_at hl 3 rfl) ?_
                  refine lv_iload hx hb dX8_drought_86 (lv_at hl 0 rfl) ?_
                  refine lv_ishr hx hb dX8_drought_88 ?_
                  refine lv_iconst (v := 1) hx hb dX8_drought_89 (by decide) ?_
                  refine lv_iand hx hb dX8_drought_90 ?_
                  refine lv_iconst (v := 1) hx hb dX8_drought_91 (by decide) ?_
                  have k_2 : ∀ (y2_0 : Int32) (H : Heap) (locs : List Loc) (ls : Array Slot), (j_X8_drought_2_0 v ms sl p n dd s_ k0 ((L_X8_drought_0 v ms sl p n dd s_ k0).1) ((L_X8_drought_0 v ms sl p n dd s_ k0).2.1) ((L_X8_drought_0 v ms sl p n dd s_ k0).2.2) k1 ((L_X8_drought_1 v ms sl p n dd s_ k0 ((L_X8_drought_0 v ms sl p n dd s_ k0).1) ((L_X8_drought_0 v ms sl p n dd s_ k0).2.1) ((L_X8_drought_0 v ms sl p n dd s_ k0).2.2) k1).1) ((L_X8_drought_1 v ms sl p n dd s_ k0 ((L_X8_drought_0 v ms sl p n dd s_ k0).1) ((L_X8_drought_0 v ms sl p n dd s_ k0).2.1) ((L_X8_drought_0 v ms sl p n dd s_ k0).2.2) k1).2.1) ((L_X8_drought_1 v ms sl p n dd s_ k0 ((L_X8_drought_0 v ms sl p n dd s_ k0).1) ((L_X8_drought_0 v ms sl p n dd s_ k0).2.1) ((L_X8_drought_0 v ms sl p n dd s_ k0).2.2) k1).2.2)) = y2_0 → zG E zA zs.heap [(m, .inr (8, [.int (v 0), .int (v 1), .ref aS, .int (v 2), .int (v 3), .int (v 4), .ref aW, .int (v 5), .ref aL, .int (v 6), .int (v 7), .int (v 8), .ref aT, .int (v 9), .int (v 10), .int (v 11), .int (v 12), .ref a1, .ref a2, .ref a3, .ref aB, .int (v 13), .int (v 14)])), (aS, .inl (E.2.1.1, 12, .inl ms)), (aL, .inl (E.2.1.1, 156, .inl ((L_X8_drought_1 v ms sl p n dd s_ k0 ((L_X8_drought_0 v ms sl p n dd s_ k0).1) ((L_X8_drought_0 v ms sl p n dd s_ k0).2.1) ((L_X8_drought_0 v ms sl p n dd s_ k0).2.2) k1).2.2)))] H locs → lv_has ls 12 [(10, .int (nI k1)), (9, .int ((L_X8_drought_1 v ms sl p n dd s_ k0 ((L_X8_drought_0 v ms sl p n dd s_ k0).1) ((L_X8_drought_0 v ms sl p n dd s_ k0).2.1) ((L_X8_drought_0 v ms sl p n dd s_ k0).2.2) k1).1)), (8, .int ((L_X8_drought_1 v ms sl p n dd s_ k0 ((L_X8_drought_0 v ms sl p n dd s_ k0).1) ((L_X8_drought_0 v ms sl p n dd s_ k0).2.1) ((L_X8_drought_0 v ms sl p n dd s_ k0).2.2) k1).2.1)), (7, .int (nI k0)), (6, .int ((L_X8_drought_0 v ms sl p n dd s_ k0).1)), (5, .int ((L_X8_drought_0 v ms sl p n dd s_ k0).2.1)), (0, .ref m), (1, .int p), (2, .int n), (3, .int dd), (4, .int s_)] → W zp l ze (zR 4 95) zs zm za zb zt zc H locs 0 0 zq (F0 zm 100 ls [.int y2_0]) := by
                    intro y2_0 H locs ls e_y2_0 hG hl
                    subst e_y2_0
                    refine lv_istore (lv' := [(11, .int (j_X8_drought_2_0 v ms sl p n dd s_ k0 ((L_X8_drought_0 v ms sl p n dd s_ k0).1) ((L_X8_drought_0 v ms sl p n dd s_ k0).2.1) ((L_X8_drought_0 v ms sl p n dd s_ k0).2.2) k1 ((L_X8_drought_1 v ms sl p n dd s_ k0 ((L_X8_drought_0 v ms sl p n dd s_ k0).1) ((L_X8_drought_0 v ms sl p n dd s_ k0).2.1) ((L_X8_drought_0 v ms sl p n dd s_ k0).2.2) k1).1) ((L_X8_drought_1 v ms sl p n dd s_ k0 ((L_X8_drought_0 v ms sl p n dd s_ k0).1) ((L_X8_drought_0 v ms sl p n dd s_ k0).2.1) ((L_X8_drought_0 v ms sl p n dd s_ k0).2.2) k1).2.1) ((L_X8_drought_1 v ms sl p n dd s_ k0 ((L_X8_drought_0 v ms sl p n dd s_ k0).1) ((L_X8_drought_0 v ms sl p n dd s_ k0).2.1) ((L_X8_drought_0 v ms sl p n dd s_ k0).2.2) k1).2.2))), (10, .int (nI k1)), (9, .int ((L_X8_drought_1 v ms sl p n dd s_ k0 ((L_X8_drought_0 v ms sl p n dd s_ k0).1) ((L_X8_drought_0 v ms sl p n dd s_ k0).2.1) ((L_X8_drought_0 v ms sl p n dd s_ k0).2.2) k1).1)), (8, .int ((L_X8_drought_1 v ms sl p n dd s_ k0 ((L_X8_drought_0 v ms sl p n dd s_ k0).1) ((L_X8_drought_0 v ms sl p n dd s_ k0).2.1) ((L_X8_drought_0 v ms sl p n dd s_ k0).2.2) k1).2.1)), (7, .int (nI k0)), (6, .int ((L_X8_drought_0 v ms sl p n dd s_ k0).1)), (5, .int ((L_X8_drought_0 v ms sl p n dd s_ k0).2.1)), (0, .ref m), (1, .int p), (2, .int n), (3, .int dd), (4, .int s_)]) hx hb dX8_drought_100 hl (by decide) rfl (fun ls hl => ?_)
                    refine lv_iload hx hb dX8_drought_102 (lv_at hl 3 rfl) ?_
                    refine lv_iload hx hb dX8_drought_104 (lv_at hl 0 rfl) ?_
                    have k_3 : ∀ (y3_0 : Int32) (H : Heap) (locs : List Loc) (ls : Array Slot), (j_X8_drought_3_0 v ms sl p n dd s_ k0 ((L_X8_drought_0 v ms sl p n dd s_ k0).1) ((L_X8_drought_0 v ms sl p n dd s_ k0).2.1) ((L_X8_drought_0 v ms sl p n dd s_ k0).2.2) k1 ((L_X8_drought_1 v ms sl p n dd s_ k0 ((L_X8_drought_0 v ms sl p n dd s_ k0).1) ((L_X8_drought_0 v ms sl p n dd s_ k0).2.1) ((L_X8_drought_0 v ms sl p n dd s_ k0).2.2) k1).1) ((L_X8_drought_1 v ms sl p n dd s_ k0 ((L_X8_drought_0 v ms sl p n dd s_ k0).1) ((L_X8_drought_0 v ms sl p n dd s_ k0).2.1) ((L_X8_drought_0 v ms sl p n dd s_ k0).2.2) k1).2.1) ((L_X8_drought_1 v ms sl p n dd s_ k0 ((L_X8_drought_0 v ms sl p n dd s_ k0).1) ((L_X8_drought_0 v ms sl p n dd s_ k0).2.1) ((L_X8_drought_0 v ms sl p n dd s_ k0).2.2) k1).2.2)) = y3_0 → zG E zA zs.heap [(m, .inr (8, [.int (v 0), .int (v 1), .ref aS, .int (v 2), .int (v 3), .int (v 4), .ref aW, .int (v 5), .ref aL, .int (v 6), .int (v 7), .int (v 8), .ref aT, .int (v 9), .int (v 10), .int (v 11), .int (v 12), .ref a1, .ref a2, .ref a3, .ref aB, .int (v 13), .int (v 14)])), (aS, .inl (E.2.1.1, 12, .inl ms)), (aL, .inl (E.2.1.1, 156, .inl ((L_X8_drought_1 v ms sl p n dd s_ k0 ((L_X8_drought_0 v ms sl p n dd s_ k0).1) ((L_X8_drought_0 v ms sl p n dd s_ k0).2.1) ((L_X8_drought_0 v ms sl p n dd s_ k0).2.2) k1).2.2)))] H locs → lv_has ls 12 [(11, .int (j_X8_drought_2_0 v ms sl p n dd s_ k0 ((L_X8_drought_0 v ms sl p n dd s_ k0).1) ((L_X8_drought_0 v ms sl p n dd s_ k0).2.1) ((L_X8_drought_0 v ms sl p n dd s_ k0).2.2) k1 ((L_X8_drought_1 v ms sl p n dd s_ k0 ((L_X8_drought_0 v ms sl p n dd s_ k0).1) ((L_X8_drought_0 v ms sl p n dd s_ k0).2.1) ((L_X8_drought_0 v ms sl p n dd s_ k0).2.2) k1).1) ((L_X8_drought_1 v ms sl p n dd s_ k0 ((L_X8_drought_0 v ms sl p n dd s_ k0).1) ((L_X8_drought_0 v ms sl p n dd s_ k0).2.1) ((L_X8_drought_0 v ms sl p n dd s_ k0).2.2) k1).2.1) ((L_X8_drought_1 v ms sl p n dd s_ k0 ((L_X8_drought_0 v ms sl p n dd s_ k0).1) ((L_X8_drought_0 v ms sl p n dd s_ k0).2.1) ((L_X8_drought_0 v ms sl p n dd s_ k0).2.2) k1).2.2))), (10, .int (nI k1)), (9, .int ((L_X8_drought_1 v ms sl p n dd s_ k0 ((L_X8_drought_0 v ms sl p n dd s_ k0).1) ((L_X8_drought_0 v ms sl p n dd s_ k0).2.1) ((L_X8_drought_0 v ms sl p n dd s_ k0).2.2) k1).1)), (8, .int ((L_X8_drought_1 v ms sl p n dd s_ k0 ((L_X8_drought_0 v ms sl p n dd s_ k0).1) ((L_X8_drought_0 v ms sl p n dd s_ k0).2.1) ((L_X8_drought_0 v ms sl p n dd s_ k0).2.2) k1).2.1)), (7, .int (nI k0)), (6, .int ((L_X8_drought_0 v ms sl p n dd s_ k0).1)), (5, .int ((L_X8_drought_0 v ms sl p n dd s_ k0).2.1)), (0, .ref m), (1, .int p), (2, .int n), (3, .int dd), (4, .int s_)] → W zp l ze (zR 4 95) zs zm za zb zt zc H locs 0 0 zq (F0 zm 117 ls [.int y3_0, .int ((L_X8_drought_1 v ms sl p n dd s_ k0 ((L_X8_drought_0 v ms sl p n dd s_ k0).1) ((L_X8_drought_0 v ms sl p n dd s_ k0).2.1) ((L_X8_drought_0 v ms sl p n dd s_ k0).2.2) k1).2.1)]) := by
                      intro y3_0 H locs ls e_y3_0 hG hl
                      subst e_y3_0
                      refine lv_imul hx hb dX8_drought_117 ?_
                      refine lv_istore (lv' := [(8, .int (((L_X8_drought_1 v ms sl p n dd s_ k0 ((L_X8_drought_0 v ms sl p n dd s_ k0).1) ((L_X8_drought_0 v ms sl p n dd s_ k0).2.1) ((L_X8_drought_0 v ms sl p n dd s_ k0).2.2) k1).2.1) * (j_X8_drought_3_0 v ms sl p n dd s_ k0 ((L_X8_drought_0 v ms sl p n dd s_ k0).1) ((L_X8_drought_0 v ms sl p n dd s_ k0).2.1) ((L_X8_drought_0 v ms sl p n dd s_ k0).2.2) k1 ((L_X8_drought_1 v ms sl p n dd s_ k0 ((L_X8_drought_0 v ms sl p n dd s_ k0).1) ((L_X8_drought_0 v ms sl p n dd s_ k0).2.1) ((L_X8_drought_0 v ms sl p n dd s_ k0).2.2) k1).1) ((L_X8_drought_1 v ms sl p n dd s_ k0 ((L_X8_drought_0 v ms sl p n dd s_ k0).1) ((L_X8_drought_0 v ms sl p n dd s_ k0).2.1) ((L_X8_drought_0 v ms sl p n dd s_ k0).2.2) k1).2.1) ((L_X8_drought_1 v ms sl p n dd s_ k0 ((L_X8_drought_0 v ms sl p n dd s_ k0).1) ((L_X8_drought_0 v ms sl p n dd s_ k0).2.1) ((L_X8_drought_0 v ms sl p n dd s_ k0).2.2) k1).2.2)))), (11, .int (j_X8_drought_2_0 v ms sl p n dd s_ k0 ((L_X8_drought_0 v ms sl p n dd s_ k0).1) ((L_X8_drought_0 v ms sl p n dd s_ k0).2.1) ((L_X8_drought_0 v ms sl p n dd s_ k0).2.2) k1 ((L_X8_drought_1 v ms sl p n dd s_ k0 ((L_X8_drought_0 v ms sl p n dd s_ k0).1) ((L_X8_drought_0 v ms sl p n dd s_ k0).2.1) ((L_X8_drought_0 v ms sl p n dd s_ k0).2.2) k1).1) ((L_X8_drought_1 v ms sl p n dd s_ k0 ((L_X8_drought_0 v ms sl p n dd s_ k0).1) ((L_X8_drought_0 v ms sl p n dd s_ k0).2.1) ((L_X8_drought_0 v ms sl p n dd s_ k0).2.2) k1).2.1) ((L_X8_drought_1 v ms sl p n dd s_ k0 ((L_X8_drought_0 v ms sl p n dd s_ k0).1) ((L_X8_drought_0 v ms sl p n dd s_ k0).2.1) ((L_X8_drought_0 v ms sl p n dd s_ k0).2.2) k1).2.2))), (10, .int (nI k1)), (9, .int ((L_X8_drought_1 v ms sl p n dd s_ k0 ((L_X8_drought_0 v ms sl p n dd s_ k0).1) ((L_X8_drought_0 v ms sl p n dd s_ k0).2.1) ((L_X8_drought_0 v ms sl p n dd s_ k0).2.2) k1).1)), (7, .int (nI k0)), (6, .int ((L_X8_drought_0 v ms sl p n dd s_ k0).1)), (5, .int ((L_X8_drought_0 v ms sl p n dd s_ k0).2.1)), (0, .ref m), (1, .int p), (2, .int n), (3, .int dd), (4, .int s_)]) hx hb dX8_drought_118 hl (by decide) rfl (fun ls hl => ?_)
                      refine lv_iload hx hb dX8_drought_120 (lv_at hl 3 rfl) ?_
                      refine lv_aload_n hx hb dX8_drought_122 rfl (lv_at hl 7 rfl) ?_
                      refine lv_sipush (v := 143) hx hb dX8_drought_123 (by decide) ?_
                      refine lv_iconst (v := 0) hx hb dX8_drought_126 (by decide) ?_
                      refine lv_iconst (v := 0) hx hb dX8_drought_127 (by decide) ?_
                      refine lv_iload hx hb dX8_drought_128 (lv_at hl 1 rfl) ?_
                      refine call_X8_156 C dX8_drought_130 (c_X8_goes_143 l E v ms ((L_X8_drought_1 v ms sl p n dd s_ k0 ((L_X8_drought_0 v ms sl p n dd s_ k0).1) ((L_X8_drought_0 v ms sl p n dd s_ k0).2.1) ((L_X8_drought_0 v ms sl p n dd s_ k0).2.2) k1).2.2) 0 0 (j_X8_drought_2_0 v ms sl p n dd s_ k0 ((L_X8_drought_0 v ms sl p n dd s_ k0).1) ((L_X8_drought_0 v ms sl p n dd s_ k0).2.1) ((L_X8_drought_0 v ms sl p n dd s_ k0).2.2) k1 ((L_X8_drought_1 v ms sl p n dd s_ k0 ((L_X8_drought_0 v ms sl p n dd s_ k0).1) ((L_X8_drought_0 v ms sl p n dd s_ k0).2.1) ((L_X8_drought_0 v ms sl p n dd s_ k0).2.2) k1).1) ((L_X8_drought_1 v ms sl p n dd s_ k0 ((L_X8_drought_0 v ms sl p n dd s_ k0).1) ((L_X8_drought_0 v ms sl p n dd s_ k0).2.1) ((L_X8_drought_0 v ms sl p n dd s_ k0).2.2) k1).2.1) ((L_X8_drought_1 v ms sl p n dd s_ k0 ((L_X8_drought_0 v ms sl p n dd s_ k0).1) ((L_X8_drought_0 v ms sl p n dd s_ k0).2.1) ((L_X8_drought_0 v ms sl p n dd s_ k0).2.2) k1).2.2)) m aS aW aL aT a1 a2 a3 aB (dr_mB v ms sl p n dd s_ _ _ _ _ (by rw [dr_low0 _ _ _ _ _ _ _ (by decide)]; exact hB) _ (by have := z_in3 (c := 6) (by decide) (by decide) c_2; omega)).1) hl hG 0 rfl [0, 1, 2] (by decide) rfl (ads := [m, aS, aL]) rfl rfl (ws' := [(m, .inr (8, [.int (v 0), .int (v 1), .ref aS, .int (v 2), .int (v 3), .int (v 4), .ref aW, .int (v 5), .ref aL, .int (v 6), .int (v 7), .int (v 8), .ref aT, .int (v 9), .int (v 10), .int (v 11), .int (v 12), .ref a1, .ref a2, .ref a3, .ref aB, .int (v 13), .int (v 14)])), (aS, .inl (E.2.1.1, 12, .inl ms)), (aL, .inl (E.2.1.1, 156, .inl (o_X8_goes_143_2 v ms ((L_X8_drought_1 v ms sl p n dd s_ k0 ((L_X8_drought_0 v ms sl p n dd s_ k0).1) ((L_X8_drought_0 v ms sl p n dd s_ k0).2.1) ((L_X8_drought_0 v ms sl p n dd s_ k0).2.2) k1).2.2) 0 0 (j_X8_drought_2_0 v ms sl p n dd s_ k0 ((L_X8_drought_0 v ms sl p n dd s_ k0).1) ((L_X8_drought_0 v ms sl p n dd s_ k0).2.1) ((L_X8_drought_0 v ms sl p n dd s_ k0).2.2) k1 ((L_X8_drought_1 v ms sl p n dd s_ k0 ((L_X8_drought_0 v ms sl p n dd s_ k0).1) ((L_X8_drought_0 v ms sl p n dd s_ k0).2.1) ((L_X8_drought_0 v ms sl p n dd s_ k0).2.2) k1).1) ((L_X8_drought_1 v ms sl p n dd s_ k0 ((L_X8_drought_0 v ms sl p n dd s_ k0).1) ((L_X8_drought_0 v ms sl p n dd s_ k0).2.1) ((L_X8_drought_0 v ms sl p n dd s_ k0).2.2) k1).2.1) ((L_X8_drought_1 v ms sl p n dd s_ k0 ((L_X8_drought_0 v ms sl p n dd s_ k0).1) ((L_X8_drought_0 v ms sl p n dd s_ k0).2.1) ((L_X8_drought_0 v ms sl p n dd s_ k0).2.2) k1).2.2)))))]) rfl rfl (rest := [.int ((L_X8_drought_1 v ms sl p n dd s_ k0 ((L_X8_drought_0 v ms sl p n dd s_ k0).1) ((L_X8_drought_0 v ms sl p n dd s_ k0).2.1) ((L_X8_drought_0 v ms sl p n dd s_ k0).2.2) k1).1)]) rfl (Nat.le_of_ble_eq_true rfl) ⟨Nat.le_of_ble_eq_true rfl, Nat.le_of_ble_eq_true rfl⟩ (fun H locs hG => ?_)
                      refine lv_ior hx hb dX8_drought_133 ?_
                      refine lv_istore (lv' := [(9, .int (((L_X8_drought_1 v ms sl p n dd s_ k0 ((L_X8_drought_0 v ms sl p n dd s_ k0).1) ((L_X8_drought_0 v ms sl p n dd s_ k0).2.1) ((L_X8_drought_0 v ms sl p n dd s_ k0).2.2) k1).1) ||| (o_X8_goes_143_r v ms ((L_X8_drought_1 v ms sl p n dd s_ k0 ((L_X8_drought_0 v ms sl p n dd s_ k0).1) ((L_X8_drought_0 v ms sl p n dd s_ k0).2.1) ((L_X8_drought_0 v ms sl p n dd s_ k0).2.2) k1).2.2) 0 0 (j_X8_drought_2_0 v ms sl p n dd s_ k0 ((L_X8_drought_0 v ms sl p n dd s_ k0).1) ((L_X8_drought_0 v ms sl p n dd s_ k0).2.1) ((L_X8_drought_0 v ms sl p n dd s_ k0).2.2) k1 ((L_X8_drought_1 v ms sl p n dd s_ k0 ((L_X8_drought_0 v ms sl p n dd s_ k0).1) ((L_X8_drought_0 v ms sl p n dd s_ k0).2.1) ((L_X8_drought_0 v ms sl p n dd s_ k0).2.2) k1).1) ((L_X8_drought_1 v ms sl p n dd s_ k0 ((L_X8_drought_0 v ms sl p n dd s_ k0).1) ((L_X8_drought_0 v ms sl p n dd s_ k0).2.1) ((L_X8_drought_0 v ms sl p n dd s_ k0).2.2) k1).2.1) ((L_X8_drought_1 v ms sl p n dd s_ k0 ((L_X8_drought_0 v ms sl p n dd s_ k0).1) ((L_X8_drought_0 v ms sl p n dd s_ k0).2.1) ((L_X8_drought_0 v ms sl p n dd s_ k0).2.2) k1).2.2))))), (8, .int (((L_X8_drought_1 v ms sl p n dd s_ k0 ((L_X8_drought_0 v ms sl p n dd s_ k0).1) ((L_X8_drought_0 v ms sl p n dd s_ k0).2.1) ((L_X8_drought_0 v ms sl p n dd s_ k0).2.2) k1).2.1) * (j_X8_drought_3_0 v ms sl p n dd s_ k0 ((L_X8_drought_0 v ms sl p n dd s_ k0).1) ((L_X8_drought_0 v ms sl p n dd s_ k0).2.1) ((L_X8_drought_0 v ms sl p n dd s_ k0).2.2) k1 ((L_X8_drought_1 v ms sl p n dd s_ k0 ((L_X8_drought_0 v ms sl p n dd s_ k0).1) ((L_X8_drought_0 v ms sl p n dd s_ k0).2.1) ((L_X8_drought_0 v ms sl p n dd s_ k0).2.2) k1).1) ((L_X8_drought_1 v ms sl p n dd s_ k0 ((L_X8_drought_0 v ms sl p n dd s_ k0).1) ((L_X8_drought_0 v ms sl p n dd s_ k0).2.1) ((L_X8_drought_0 v ms sl p n dd s_ k0).2.2) k1).2.1) ((L_X8_drought_1 v ms sl p n dd s_ k0 ((L_X8_drought_0 v ms sl p n dd s_ k0).1) ((L_X8_drought_0 v ms sl p n dd s_ k0).2.1) ((L_X8_drought_0 v ms sl p n dd s_ k0).2.2) k1).2.2)))), (11, .int (j_X8_drought_2_0 v ms sl p n dd s_ k0 ((L_X8_drought_0 v ms sl p n dd s_ k0).1) ((L_X8_drought_0 v ms sl p n dd s_ k0).2.1) ((L_X8_drought_0 v ms sl p n dd s_ k0).2.2) k1 ((L_X8_drought_1 v ms sl p n dd s_ k0 ((L_X8_drought_0 v ms sl p n dd s_ k0).1) ((L_X8_drought_0 v ms sl p n dd s_ k0).2.1) ((L_X8_drought_0 v ms sl p n dd s_ k0).2.2) k1).1) ((L_X8_drought_1 v ms sl p n dd s_ k0 ((L_X8_drought_0 v ms sl p n dd s_ k0).1) ((L_X8_drought_0 v ms sl p n dd s_ k0).2.1) ((L_X8_drought_0 v ms sl p n dd s_ k0).2.2) k1).2.1) ((L_X8_drought_1 v ms sl p n dd s_ k0 ((L_X8_drought_0 v ms sl p n dd s_ k0).1) ((L_X8_drought_0 v ms sl p n dd s_ k0).2.1) ((L_X8_drought_0 v ms sl p n dd s_ k0).2.2) k1).2.2))), (10, .int (nI k1)), (7, .int (nI k0)), (6, .int ((L_X8_drought_0 v ms sl p n dd s_ k0).1)), (5, .int ((L_X8_drought_0 v ms sl p n dd s_ k0).2.1)), (0, .ref m), (1, .int p), (2, .int n), (3, .int dd), (4, .int s_)]) hx hb dX8_drought_134 hl (by decide) rfl (fun ls hl => ?_)
                      refine lv_iinc (v := (nI (k1 + 1))) (lv' := [(10, .int (nI (k1 + 1))), (9, .int (((L_X8_drought_1 v ms sl p n dd s_ k0 ((L_X8_drought_0 v ms sl p n dd s_ k0).1) ((L_X8_drought_0 v ms sl p n dd s_ k0).2.1) ((L_X8_drought_0 v ms sl p n dd s_ k0).2.2) k1).1) ||| (o_X8_goes_143_r v ms ((L_X8_drought_1 v ms sl p n dd s_ k0 ((L_X8_drought_0 v ms sl p n dd s_ k0).1) ((L_X8_drought_0 v ms sl p n dd s_ k0).2.1) ((L_X8_drought_0 v ms sl p n dd s_ k0).2.2) k1).2.2) 0 0 (j_X8_drought_2_0 v ms sl p n dd s_ k0 ((L_X8_drought_0 v ms sl p n dd s_ k0).1) ((L_X8_drought_0 v ms sl p n dd s_ k0).2.1) ((L_X8_drought_0 v ms sl p n dd s_ k0).2.2) k1 ((L_X8_drought_1 v ms sl p n dd s_ k0 ((L_X8_drought_0 v ms sl p n dd s_ k0).1) ((L_X8_drought_0 v ms sl p n dd s_ k0).2.1) ((L_X8_drought_0 v ms sl p n dd s_ k0).2.2) k1).1) ((L_X8_drought_1 v ms sl p n dd s_ k0 ((L_X8_drought_0 v ms sl p n dd s_ k0).1) ((L_X8_drought_0 v ms sl p n dd s_ k0).2.1) ((L_X8_drought_0 v ms sl p n dd s_ k0).2.2) k1).2.1) ((L_X8_drought_1 v ms sl p n dd s_ k0 ((L_X8_drought_0 v ms sl p n dd s_ k0).1) ((L_X8_drought_0 v ms sl p n dd s_ k0).2.1) ((L_X8_drought_0 v ms sl p n dd s_ k0).2.2) k1).2.2))))), (8, .int (((L_X8_drought_1 v ms sl p n dd s_ k0 ((L_X8_drought_0 v ms sl p n dd s_ k0).1) ((L_X8_drought_0 v ms sl p n dd s_ k0).2.1) ((L_X8_drought_0 v ms sl p n dd s_ k0).2.2) k1).2.1) * (j_X8_drought_3_0 v ms sl p n dd s_ k0 ((L_X8_drought_0 v ms sl p n dd s_ k0).1) ((L_X8_drought_0 v ms sl p n dd s_ k0).2.1) ((L_X8_drought_0 v ms sl p n dd s_ k0).2.2) k1 ((L_X8_drought_1 v ms sl p n dd s_ k0 ((L_X8_drought_0 v ms sl p n dd s_ k0).1) ((L_X8_drought_0 v ms sl p n dd s_ k0).2.1) ((L_X8_drought_0 v ms sl p n dd s_ k0).2.2) k1).1) ((L_X8_drought_1 v ms sl p n dd s_ k0 ((L_X8_drought_0 v ms sl p n dd s_ k0).1) ((L_X8_drought_0 v ms sl p n dd s_ k0).2.1) ((L_X8_drought_0 v ms sl p n dd s_ k0).2.2) k1).2.1) ((L_X8_drought_1 v ms sl p n dd s_ k0 ((L_X8_drought_0 v ms sl p n dd s_ k0).1) ((L_X8_drought_0 v ms sl p n dd s_ k0).2.1) ((L_X8_drought_0 v ms sl p n dd s_ k0).2.2) k1).2.2)))), (11, .int (j_X8_drought_2_0 v ms sl p n dd s_ k0 ((L_X8_drought_0 v ms sl p n dd s_ k0).1) ((L_X8_drought_0 v ms sl p n dd s_ k0).2.1) ((L_X8_drought_0 v ms sl p n dd s_ k0).2.2) k1 ((L_X8_drought_1 v ms sl p n dd s_ k0 ((L_X8_drought_0 v ms sl p n dd s_ k0).1) ((L_X8_drought_0 v ms sl p n dd s_ k0).2.1) ((L_X8_drought_0 v ms sl p n dd s_ k0).2.2) k1).1) ((L_X8_drought_1 v ms sl p n dd s_ k0 ((L_X8_drought_0 v ms sl p n dd s_ k0).1) ((L_X8_drought_0 v ms sl p n dd s_ k0).2.1) ((L_X8_drought_0 v ms sl p n dd s_ k0).2.2) k1).2.1) ((L_X8_drought_1 v ms sl p n dd s_ k0 ((L_X8_drought_0 v ms sl p n dd s_ k0).1) ((L_X8_drought_0 v ms sl p n dd s_ k0).2.1) ((L_X8_drought_0 v ms sl p n dd s_ k0).2.2) k1).2.2))), (7, .int (nI k0)), (6, .int ((L_X8_drought_0 v ms sl p n dd s_ k0).1)), (5, .int ((L_X8_drought_0 v ms sl p n dd s_ k0).2.1)), (0, .ref m), (1, .int p), (2, .int n), (3, .int dd), (4, .int s_)]) hx hb dX8_drought_136 hl (k := 3) rfl (nI_1 _) (by decide) rfl (fun ls hl => ?_)
                      refine lv_goto (tgt := 78) hx hb dX8_drought_139 (by decide) ?_
                      exact ih1 (k1 + 1) (by omega) (((L_X8_drought_1 v ms sl p n dd s_ k0 ((L_X8_drought_0 v ms sl p n dd s_ k0).1) ((L_X8_drought_0 v ms sl p n dd s_ k0).2.1) ((L_X8_drought_0 v ms sl p n dd s_ k0).2.2) k1).1) ||| (o_X8_goes_143_r v ms ((L_X8_drought_1 v ms sl p n dd s_ k0 ((L_X8_drought_0 v ms sl p n dd s_ k0).1) ((L_X8_drought_0 v ms sl p n dd s_ k0).2.1) ((L_X8_drought_0 v ms sl p n dd s_ k0).2.2) k1).2.2) 0 0 (j_X8_drought_2_0 v ms sl p n dd s_ k0 ((L_X8_drought_0 v ms sl p n dd s_ k0).1) ((L_X8_drought_0 v ms sl p n dd s_ k0).2.1) ((L_X8_drought_0 v ms sl p n dd s_ k0).2.2) k1 ((L_X8_drought_1 v ms sl p n dd s_ k0 ((L_X8_drought_0 v ms sl p n dd s_ k0).1) ((L_X8_drought_0 v ms sl p n dd s_ k0).2.1) ((L_X8_drought_0 v ms sl p n dd s_ k0).2.2) k1).1) ((L_X8_drought_1 v ms sl p n dd s_ k0 ((L_X8_drought_0 v ms sl p n dd s_ k0).1) ((L_X8_drought_0 v ms sl p n dd s_ k0).2.1) ((L_X8_drought_0 v ms sl p n dd s_ k0).2.2) k1).2.1) ((L_X8_drought_1 v ms sl p n dd s_ k0 ((L_X8_drought_0 v ms sl p n dd s_ k0).1) ((L_X8_drought_0 v ms sl p n dd s_ k0).2.1) ((L_X8_drought_0 v ms sl p n dd s_ k0).2.2) k1).2.2)))) (((L_X8_drought_1 v ms sl p n dd s_ k0 ((L_X8_drought_0 v ms sl p n dd s_ k0).1) ((L_X8_drought_0 v ms sl p n dd s_ k0).2.1) ((L_X8_drought_0 v ms sl p n dd s_ k0).2.2) k1).2.1) * (j_X8_drought_3_0 v ms sl p n dd s_ k0 ((L_X8_drought_0 v ms sl p n dd s_ k0).1) ((L_X8_drought_0 v ms sl p n dd s_ k0).2.1) ((L_X8_drought_0 v ms sl p n dd s_ k0).2.2) k1 ((L_X8_drought_1 v ms sl p n dd s_ k0 ((L_X8_drought_0 v ms sl p n dd s_ k0).1) ((L_X8_drought_0 v ms sl p n dd s_ k0).2.1) ((L_X8_drought_0 v ms sl p n dd s_ k0).2.2) k1).1) ((L_X8_drought_1 v ms sl p n dd s_ k0 ((L_X8_drought_0 v ms sl p n dd s_ k0).1) ((L_X8_drought_0 v ms sl p n dd s_ k0).2.1) ((L_X8_drought_0 v ms sl p n dd s_ k0).2.2) k1).2.1) ((L_X8_drought_1 v ms sl p n dd s_ k0 ((L_X8_drought_0 v ms sl p n dd s_ k0).1) ((L_X8_drought_0 v ms sl p n dd s_ k0).2.1) ((L_X8_drought_0 v ms sl p n dd s_ k0).2.2) k1).2.2))) (o_X8_goes_143_2 v ms ((L_X8_drought_1 v ms sl p n dd s_ k0 ((L_X8_drought_0 v ms sl p n dd s_ k0).1) ((L_X8_drought_0 v ms sl p n dd s_ k0).2.1) ((L_X8_drought_0 v ms sl p n dd s_ k0).2.2) k1).2.2) 0 0 (j_X8_drought_2_0 v ms sl p n dd s_ k0 ((L_X8_drought_0 v ms sl p n dd s_ k0).1) ((L_X8_drought_0 v ms sl p n dd s_ k0).2.1) ((L_X8_drought_0 v ms sl p n dd s_ k0).2.2) k1 ((L_X8_drought_1 v ms sl p n dd s_ k0 ((L_X8_drought_0 v ms sl p n dd s_ k0).1) ((L_X8_drought_0 v ms sl p n dd s_ k0).2.1) ((L_X8_drought_0 v ms sl p n dd s_ k0).2.2) k1).1) ((L_X8_drought_1 v ms sl p n dd s_ k0 ((L_X8_drought_0 v ms sl p n dd s_ k0).1) ((L_X8_drought_0 v ms sl p n dd s_ k0).2.1) ((L_X8_drought_0 v ms sl p n dd s_ k0).2.2) k1).2.1) ((L_X8_drought_1 v ms sl p n dd s_ k0 ((L_X8_drought_0 v ms sl p n dd s_ k0).1) ((L_X8_drought_0 v ms sl p n dd s_ k0).2.1) ((L_X8_drought_0 v ms sl p n dd s_ k0).2.2) k1).2.2))) _ _ _ (by rw [L_X8_drought_1]) (by rw [L_X8_drought_1]) (by rw [L_X8_drought_1]) hG (lv_sub hl [0, 1, 2, 4, 5, 6, 7, 8, 9, 10, 11] rfl)
                    refine lv_if_eq (tgt := 113) hx hb dX8_drought_106 (by decide) (fun c_45 => ?_) (fun c_45 => ?_)
                    · skip
                      refine lv_bipush (v := 10) hx hb dX8_drought_113 (by decide) ?_
                      refine lv_iload_n hx hb dX8_drought_115 rfl (lv_at hl 10 rfl) ?_
                      refine lv_isub hx hb dX8_drought_116 ?_
                      exact k_3 (10 - dd) _ _ _ (by rw [j_X8_drought_3_0, if_pos c_45]) hG (lv_sub hl [0, 1, 2, 3, 4, 5, 6, 7, 8, 9, 10, 11] rfl)
                    · skip
                      refine lv_iload_n hx hb dX8_drought_109 rfl (lv_at hl 10 rfl) ?_
                      refine lv_goto (tgt := 117) hx hb dX8_drought_110 (by decide) ?_
                      exact k_3 dd _ _ _ (by rw [j_X8_drought_3_0, if_neg c_45]) hG (lv_sub hl [0, 1, 2, 3, 4, 5, 6, 7, 8, 9, 10, 11] rfl)
                  refine lv_icmp_ne (tgt := 99) hx hb dX8_drought_92 (by decide) (fun c_44 => ?_) (fun c_44 => ?_)
                  · skip
                    refine lv_iconst (v := 0) hx hb dX8_drought_99 (by decide) ?_
                    exact k_2 0 _ _ _ (by rw [j_X8_drought_2_0, if_neg c_44]) hG (lv_sub hl [0, 1, 2, 3, 4, 5, 6, 7, 8, 9, 10] rfl)
                  · skip
                    refine lv_iconst (v := 1) hx hb dX8_drought_95 (by decide) ?_
                    refine lv_goto (tgt := 100) hx hb dX8_drought_96 (by decide) ?_
                    exact k_2 1 _ _ _ (by rw [j_X8_drought_2_0, if_pos c_44]) hG (lv_sub hl [0, 1, 2, 3, 4, 5, 6, 7, 8, 9, 10] rfl)
              exact kl_1 n.toNatClampNeg 0 (by omega) 0 1 (cp13 ((L_X8_drought_0 v ms sl p n dd s_ k0).2.2) 0 143) _ _ _ (by rw [L_X8_drought_1]) (by rw [L_X8_drought_1]) (by rw [L_X8_drought_1]) hG (lv_sub hl [0, 1, 2, 3, 4, 5, 6, 7, 8, 9, 10] rfl)
          exact kl_0 (2 ^ n.toNatClampNeg) 0 (by omega) 0 0 sl _ _ _ (by rw [L_X8_drought_0]) (by rw [L_X8_drought_0]) (by rw [L_X8_drought_0]) hG (lv_sub hl [0, 1, 2, 3, 4, 5, 6, 7] rfl)
        · skip
          refine lv_iconst (v := (-1)) hx hb dX8_drought_42 (by decide) ?_
          rw [O_X8_drought, if_neg c_1, if_neg c_2, if_neg c_3, if_pos c_4] at hF
          cases hF
          rw [hQ]
          exact z_iret C hr hlk hG dX8_drought_43 rfl rfl rfl
