def mkG15 (a0 a1 a2 a3 a4 a5 a6 a7 a8 a9 a10 a11 a12 a13 a14 : Int32) : Nat → Int32 := fun k => match k with | 0 => a0 | 1 => a1 | 2 => a2 | 3 => a3 | 4 => a4 | 5 => a5 | 6 => a6 | 7 => a7 | 8 => a8 | 9 => a9 | 10 => a10 | 11 => a11 | 12 => a12 | 13 => a13 | _ => a14
theorem mkG15_0 (a0 a1 a2 a3 a4 a5 a6 a7 a8 a9 a10 a11 a12 a13 a14 : Int32) : mkG15 a0 a1 a2 a3 a4 a5 a6 a7 a8 a9 a10 a11 a12 a13 a14 0 = a0 := rfl
theorem mkG15_1 (a0 a1 a2 a3 a4 a5 a6 a7 a8 a9 a10 a11 a12 a13 a14 : Int32) : mkG15 a0 a1 a2 a3 a4 a5 a6 a7 a8 a9 a10 a11 a12 a13 a14 1 = a1 := rfl
theorem mkG15_2 (a0 a1 a2 a3 a4 a5 a6 a7 a8 a9 a10 a11 a12 a13 a14 : Int32) : mkG15 a0 a1 a2 a3 a4 a5 a6 a7 a8 a9 a10 a11 a12 a13 a14 2 = a2 := rfl
theorem mkG15_3 (a0 a1 a2 a3 a4 a5 a6 a7 a8 a9 a10 a11 a12 a13 a14 : Int32) : mkG15 a0 a1 a2 a3 a4 a5 a6 a7 a8 a9 a10 a11 a12 a13 a14 3 = a3 := rfl
theorem mkG15_4 (a0 a1 a2 a3 a4 a5 a6 a7 a8 a9 a10 a11 a12 a13 a14 : Int32) : mkG15 a0 a1 a2 a3 a4 a5 a6 a7 a8 a9 a10 a11 a12 a13 a14 4 = a4 := rfl
theorem mkG15_5 (a0 a1 a2 a3 a4 a5 a6 a7 a8 a9 a10 a11 a12 a13 a14 : Int32) : mkG15 a0 a1 a2 a3 a4 a5 a6 a7 a8 a9 a10 a11 a12 a13 a14 5 = a5 := rfl
theorem mkG15_6 (a0 a1 a2 a3 a4 a5 a6 a7 a8 a9 a10 a11 a12 a13 a14 : Int32) : mkG15 a0 a1 a2 a3 a4 a5 a6 a7 a8 a9 a10 a11 a12 a13 a14 6 = a6 := rfl
theorem mkG15_7 (a0 a1 a2 a3 a4 a5 a6 a7 a8 a9 a10 a11 a12 a13 a14 : Int32) : mkG15 a0 a1 a2 a3 a4 a5 a6 a7 a8 a9 a10 a11 a12 a13 a14 7 = a7 := rfl
theorem mkG15_8 (a0 a1 a2 a3 a4 a5 a6 a7 a8 a9 a10 a11 a12 a13 a14 : Int32) : mkG15 a0 a1 a2 a3 a4 a5 a6 a7 a8 a9 a10 a11 a12 a13 a14 8 = a8 := rfl
theorem mkG15_9 (a0 a1 a2 a3 a4 a5 a6 a7 a8 a9 a10 a11 a12 a13 a14 : Int32) : mkG15 a0 a1 a2 a3 a4 a5 a6 a7 a8 a9 a10 a11 a12 a13 a14 9 = a9 := rfl
theorem mkG15_10 (a0 a1 a2 a3 a4 a5 a6 a7 a8 a9 a10 a11 a12 a13 a14 : Int32) : mkG15 a0 a1 a2 a3 a4 a5 a6 a7 a8 a9 a10 a11 a12 a13 a14 10 = a10 := rfl
theorem mkG15_11 (a0 a1 a2 a3 a4 a5 a6 a7 a8 a9 a10 a11 a12 a13 a14 : Int32) : mkG15 a0 a1 a2 a3 a4 a5 a6 a7 a8 a9 a10 a11 a12 a13 a14 11 = a11 := rfl
theorem mkG15_12 (a0 a1 a2 a3 a4 a5 a6 a7 a8 a9 a10 a11 a12 a13 a14 : Int32) : mkG15 a0 a1 a2 a3 a4 a5 a6 a7 a8 a9 a10 a11 a12 a13 a14 12 = a12 := rfl
theorem mkG15_13 (a0 a1 a2 a3 a4 a5 a6 a7 a8 a9 a10 a11 a12 a13 a14 : Int32) : mkG15 a0 a1 a2 a3 a4 a5 a6 a7 a8 a9 a10 a11 a12 a13 a14 13 = a13 := rfl
theorem mkG15_14 (a0 a1 a2 a3 a4 a5 a6 a7 a8 a9 a10 a11 a12 a13 a14 : Int32) : mkG15 a0 a1 a2 a3 a4 a5 a6 a7 a8 a9 a10 a11 a12 a13 a14 14 = a14 := rfl
theorem z_remN {x : Int32} (h : 0 ≤ x.toInt) : x - x / 12 * 12 = nI (x.toNatClampNeg % 12) := by
  have h1 := (z_clamp h).1
  have h2 := (z_clamp h).2
  have h3 : x.toInt < 2 ^ 31 := Int32.toInt_lt x
  generalize x.toNatClampNeg = k at h1 h2
  subst h1
  rw [show (12 : Int32) = nI 12 from rfl, pk_rem (by omega) (by decide) (by decide)]
theorem z_rem {x : Int32} (h : 0 ≤ x.toInt) : vp_in (x - x / 12 * 12) 12 := by
  rw [z_remN h]
  exact vp_in_nI (Nat.mod_lt _ (by decide)) (by decide)
def o_X8_in_r (v_ : Int64) (lo : Int64) (hi : Int64) : Int32 := (if (lg_cmp v_ lo) < 0 then 0 else (if (0 : Int32) < (lg_cmp v_ hi) then 0 else 1))
set_option maxRecDepth 100000 in
set_option maxHeartbeats 4000000 in
theorem c_X8_in (l : Launch) (E : zE) (v_ : Int64) (lo : Int64) (hi : Int64) : HM l E yX8_in cX8_in 6 (some .boolean) 0 0 [.long v_, .long lo, .long hi] [] (some (.int (o_X8_in_r v_ lo hi))) [] := by
  refine HM.of (own := RX8) (plainFor_of_name (by decide)) rfl (Nat.le_of_ble_eq_true rfl) ?_
  intro zp ze zs zm za zb zt zc zA ls H locs zq C hr hlk hG hl hQ
  have hx := C.1.1
  have hb := C.1.2.1
  replace hl : lv_has ls 6 [(0, .long v_), (2, .long lo), (4, .long hi)] := hl
  refine lv_lload_n hx hb dX8_in_0 rfl (lv_at hl 0 rfl) ?_
  refine lv_lload_n hx hb dX8_in_1 rfl (lv_at hl 1 rfl) ?_
  refine W.lcmp hx hb dX8_in_2 ?_
  refine lv_if_lt (tgt := 17) hx hb dX8_in_3 (by decide) (fun c_1 => ?_) (fun c_1 => ?_)
  · skip
    refine lv_iconst (v := 0) hx hb dX8_in_17 (by decide) ?_
    rw [hQ]
    exact z_iret C hr hlk hG dX8_in_18 rfl (by rw [o_X8_in_r, if_pos c_1]) rfl
  · skip
    refine lv_lload_n hx hb dX8_in_6 rfl (lv_at hl 0 rfl) ?_
    refine lv_lload hx hb dX8_in_7 (lv_at hl 2 rfl) ?_
    refine W.lcmp hx hb dX8_in_9 ?_
    refine lv_if_gt (tgt := 17) hx hb dX8_in_10 (by decide) (fun c_2 => ?_) (fun c_2 => ?_)
    · skip
      refine lv_iconst (v := 0) hx hb dX8_in_17 (by decide) ?_
      rw [hQ]
      exact z_iret C hr hlk hG dX8_in_18 rfl (by rw [o_X8_in_r, if_neg c_1, if_pos c_2]) rfl
    · skip
      refine lv_iconst (v := 1) hx hb dX8_in_13 (by decide) ?_
      refine lv_goto (tgt := 18) hx hb dX8_in_14 (by decide) ?_
      rw [hQ]
      exact z_iret C hr hlk hG dX8_in_18 rfl (by rw [o_X8_in_r, if_neg c_1, if_neg c_2]) rfl
theorem o_X8_in_b (v_ : Int64) (lo : Int64) (hi : Int64) : o_X8_in_r v_ lo hi = 0 ∨ o_X8_in_r v_ lo hi = 1 := by
  unfold o_X8_in_r; (repeat' split) <;> first | exact Or.inl rfl | exact Or.inr rfl
def o_X8_larger_r (a_ : Int32) (b_ : Int32) : Int32 := (if b_ ≤ a_ then a_ else b_)
set_option maxRecDepth 100000 in
set_option maxHeartbeats 4000000 in
theorem c_X8_larger (l : Launch) (E : zE) (a_ : Int32) (b_ : Int32) : HM l E yX8_larger cX8_larger 2 (some .int) 0 0 [.int a_, .int b_] [] (some (.int (o_X8_larger_r a_ b_))) [] := by
  refine HM.of (own := RX8) (plainFor_of_name (by decide)) rfl (Nat.le_of_ble_eq_true rfl) ?_
  intro zp ze zs zm za zb zt zc zA ls H locs zq C hr hlk hG hl hQ
  have hx := C.1.1
  have hb := C.1.2.1
  replace hl : lv_has ls 2 [(0, .int a_), (1, .int b_)] := hl
  refine lv_iload_n hx hb dX8_larger_0 rfl (lv_at hl 0 rfl) ?_
  refine lv_iload_n hx hb dX8_larger_1 rfl (lv_at hl 1 rfl) ?_
  refine lv_icmp_ge (tgt := 9) hx hb dX8_larger_2 (by decide) (fun c_1 => ?_) (fun c_1 => ?_)
  · skip
    refine lv_iload_n hx hb dX8_larger_9 rfl (lv_at hl 0 rfl) ?_
    rw [hQ]
    exact z_iret C hr hlk hG dX8_larger_10 rfl (by rw [o_X8_larger_r, if_pos c_1]) rfl
  · skip
    refine lv_iload_n hx hb dX8_larger_5 rfl (lv_at hl 1 rfl) ?_
    refine lv_goto (tgt := 10) hx hb dX8_larger_6 (by decide) ?_
    rw [hQ]
    exact z_iret C hr hlk hG dX8_larger_10 rfl (by rw [o_X8_larger_r, if_neg c_1]) rfl
def o_X8_smaller_r (a_ : Int32) (b_ : Int32) : Int32 := (if b_ ≤ a_ then b_ else a_)
set_option maxRecDepth 100000 in
set_option maxHeartbeats 4000000 in
theorem c_X8_smaller (l : Launch) (E : zE) (a_ : Int32) (b_ : Int32) : HM l E yX8_smaller cX8_smaller 2 (some .int) 0 0 [.int a_, .int b_] [] (some (.int (o_X8_smaller_r a_ b_))) [] := by
  refine HM.of (own := RX8) (plainFor_of_name (by decide)) rfl (Nat.le_of_ble_eq_true rfl) ?_
  intro zp ze zs zm za zb zt zc zA ls H locs zq C hr hlk hG hl hQ
  have hx := C.1.1
  have hb := C.1.2.1
  replace hl : lv_has ls 2 [(0, .int a_), (1, .int b_)] := hl
  refine lv_iload_n hx hb dX8_smaller_0 rfl (lv_at hl 0 rfl) ?_
  refine lv_iload_n hx hb dX8_smaller_1 rfl (lv_at hl 1 rfl) ?_
  refine lv_icmp_ge (tgt := 9) hx hb dX8_smaller_2 (by decide) (fun c_1 => ?_) (fun c_1 => ?_)
  · skip
    refine lv_iload_n hx hb dX8_smaller_9 rfl (lv_at hl 1 rfl) ?_
    rw [hQ]
    exact z_iret C hr hlk hG dX8_smaller_10 rfl (by rw [o_X8_smaller_r, if_pos c_1]) rfl
  · skip
    refine lv_iload_n hx hb dX8_smaller_5 rfl (lv_at hl 0 rfl) ?_
    refine lv_goto (tgt := 10) hx hb dX8_smaller_6 (by decide) ?_
    rw [hQ]
    exact z_iret C hr hlk hG dX8_smaller_10 rfl (by rw [o_X8_smaller_r, if_neg c_1]) rfl
def o_X8_isOne_r (p : Int32) : Int32 := (o_X8_in_r p.toInt64 0 1)
set_option maxRecDepth 100000 in
set_option maxHeartbeats 4000000 in
theorem c_X8_isOne (l : Launch) (E : zE) (p : Int32) : HM l E yX8_isOne cX8_isOne 1 (some .boolean) 1 25 [.int p] [] (some (.int (o_X8_isOne_r p))) [] := by
  refine HM.of (own := RX8) (plainFor_of_name (by decide)) rfl (Nat.le_of_ble_eq_true rfl) ?_
  intro zp ze zs zm za zb zt zc zA ls H locs zq C hr hlk hG hl hQ
  have hx := C.1.1
  have hb := C.1.2.1
  replace hl : lv_has ls 1 [(0, .int p)] := hl
  refine lv_iload_n hx hb dX8_isOne_0 rfl (lv_at hl 0 rfl) ?_
  refine lv_i2l (v := p.toInt64) hx hb dX8_isOne_1 rfl ?_
  refine lv_lconst (v := 0) hx hb dX8_isOne_2 (by decide) ?_
  refine lv_lconst (v := 1) hx hb dX8_isOne_3 (by decide) ?_
  refine call_X8_49 C dX8_isOne_4 (c_X8_in l E p.toInt64 0 1) hl hG [] (by decide) rfl (ads := []) rfl rfl (ws' := []) rfl rfl (rest := []) rfl (Nat.le_of_ble_eq_true rfl) ⟨Nat.le_of_ble_eq_true rfl, Nat.le_of_ble_eq_true rfl⟩ (fun H locs hG => ?_)
  rw [hQ]
  exact z_iret C hr hlk hG dX8_isOne_7 (z_b01 (o_X8_in_b p.toInt64 0 1)) (by rw [o_X8_isOne_r]) rfl
theorem o_X8_isOne_b (p : Int32) : o_X8_isOne_r p = 0 ∨ o_X8_isOne_r p = 1 := by
  unfold o_X8_isOne_r; (repeat' split) <;> first | exact Or.inl rfl | exact Or.inr rfl | exact o_X8_in_b _ _ _
def o_X8_bound_r (k_ : Int32) : Int32 := (if k_ = 0 then 24 else (if k_ = 1 then 40 else (if k_ = 2 then 30 else (if k_ = 3 then 10 else 36))))
set_option maxRecDepth 100000 in
set_option maxHeartbeats 4000000 in
theorem c_X8_bound (l : Launch) (E : zE) (k_ : Int32) : HM l E yX8_bound cX8_bound 1 (some .int) 0 0 [.int k_] [] (some (.int (o_X8_bound_r k_))) [] := by
  refine HM.of (own := RX8) (plainFor_of_name (by decide)) rfl (Nat.le_of_ble_eq_true rfl) ?_
  intro zp ze zs zm za zb zt zc zA ls H locs zq C hr hlk hG hl hQ
  have hx := C.1.1
  have hb := C.1.2.1
  replace hl : lv_has ls 1 [(0, .int k_)] := hl
  refine lv_iload_n hx hb dX8_bound_0 rfl (lv_at hl 0 rfl) ?_
  refine lv_if_ne (tgt := 9) hx hb dX8_bound_1 (by decide) (fun c_1 => ?_) (fun c_1 => ?_)
  · skip
    refine lv_iload_n hx hb dX8_bound_9 rfl (lv_at hl 0 rfl) ?_
    refine lv_iconst (v := 1) hx hb dX8_bound_10 (by decide) ?_
    refine lv_icmp_ne (tgt := 19) hx hb dX8_bound_11 (by decide) (fun c_2 => ?_) (fun c_2 => ?_)
    · skip
      refine lv_iload_n hx hb dX8_bound_19 rfl (lv_at hl 0 rfl) ?_
      refine lv_iconst (v := 2) hx hb dX8_bound_20 (by decide) ?_
      refine lv_icmp_ne (tgt := 29) hx hb dX8_bound_21 (by decide) (fun c_3 => ?_) (fun c_3 => ?_)
      · skip
        refine lv_iload_n hx hb dX8_bound_29 rfl (lv_at hl 0 rfl) ?_
        refine lv_iconst (v := 3) hx hb dX8_bound_30 (by decide) ?_
        refine lv_icmp_ne (tgt := 39) hx hb dX8_bound_31 (by decide) (fun c_4 => ?_) (fun c_4 => ?_)
        · skip
          refine lv_bipush (v := 36) hx hb dX8_bound_39 (by decide) ?_
          rw [hQ]
          exact z_iret C hr hlk hG dX8_bound_41 rfl (by rw [o_X8_bound_r, if_neg c_1, if_neg c_2, if_neg c_3, if_neg c_4]) rfl
        · skip
          refine lv_bipush (v := 10) hx hb dX8_bound_34 (by decide) ?_
          refine lv_goto (tgt := 41) hx hb dX8_bound_36 (by decide) ?_
          rw [hQ]
          exact z_iret C hr hlk hG dX8_bound_41 rfl (by rw [o_X8_bound_r, if_neg c_1, if_neg c_2, if_neg c_3, if_pos c_4]) rfl
      · skip
        refine lv_bipush (v := 30) hx hb dX8_bound_24 (by decide) ?_
        refine lv_goto (tgt := 41) hx hb dX8_bound_26 (by decide) ?_
        rw [hQ]
        exact z_iret C hr hlk hG dX8_bound_41 rfl (by rw [o_X8_bound_r, if_neg c_1, if_neg c_2, if_pos c_3]) rfl
    · skip
      refine lv_bipush (v := 40) hx hb dX8_bound_14 (by decide) ?_
      refine lv_goto (tgt := 41) hx hb dX8_bound_16 (by decide) ?_
      rw [hQ]
      exact z_iret C hr hlk hG dX8_bound_41 rfl (by rw [o_X8_bound_r, if_neg c_1, if_pos c_2]) rfl
  · skip
    refine lv_bipush (v := 24) hx hb dX8_bound_4 (by decide) ?_
    refine lv_goto (tgt := 41) hx hb dX8_bound_6 (by decide) ?_
    rw [hQ]
    exact z_iret C hr hlk hG dX8_bound_41 rfl (by rw [o_X8_bound_r, if_pos c_1]) rfl
def j_X8_grows_0_0 (k_ : Int32) (mo : Int32) : Int32 := (if mo < 2 then 1 else (if mo = 11 then 1 else 0))
def o_X8_grows_r (k_ : Int32) (mo : Int32) : Int32 := (if k_ = 0 then 3 else (if k_ = 1 then 1 else (if k_ = 3 then 1 else (if k_ = 2 then (if (j_X8_grows_0_0 k_ mo) = 0 then 2 else (-2)) else 2))))
set_option maxRecDepth 100000 in
set_option maxHeartbeats 4000000 in
theorem c_X8_grows (l : Launch) (E : zE) (k_ : Int32) (mo : Int32) : HM l E yX8_grows cX8_grows 3 (some .int) 0 0 [.int k_, .int mo] [] (some (.int (o_X8_grows_r k_ mo))) [] := by
  refine HM.of (own := RX8) (plainFor_of_name (by decide)) rfl (Nat.le_of_ble_eq_true rfl) ?_
  intro zp ze zs zm za zb zt zc zA ls H locs zq C hr hlk hG hl hQ
  have hx := C.1.1
  have hb := C.1.2.1
  replace hl : lv_has ls 3 [(0, .int k_), (1, .int mo)] := hl
  refine lv_iload_n hx hb dX8_grows_0 rfl (lv_at hl 1 rfl) ?_
  refine lv_iconst (v := 2) hx hb dX8_grows_1 (by decide) ?_
  have k_0 : ∀ (y0_0 : Int32) (H : Heap) (locs : List Loc) (ls : Array Slot), (j_X8_grows_0_0 k_ mo) = y0_0 → zG E zA zs.heap [] H locs → lv_has ls 3 [(0, .int k_), (1, .int mo)] → W zp l ze (zR 0 0) zs zm za zb zt zc H locs 0 0 zq (F0 zm 16 ls [.int y0_0]) := by
    intro y0_0 H locs ls e_y0_0 hG hl
    subst e_y0_0
    refine lv_istore_n (lv' := [(2, .int (j_X8_grows_0_0 k_ mo)), (0, .int k_), (1, .int mo)]) hx hb dX8_grows_16 rfl hl (by decide) rfl (fun ls hl => ?_)
    refine lv_iload_n hx hb dX8_grows_17 rfl (lv_at hl 1 rfl) ?_
    refine lv_if_ne (tgt := 25) hx hb dX8_grows_18 (by decide) (fun c_3 => ?_) (fun c_3 => ?_)
    · skip
      refine lv_iload_n hx hb dX8_grows_25 rfl (lv_at hl 1 rfl) ?_
      refine lv_iconst (v := 1) hx hb dX8_grows_26 (by decide) ?_
      refine lv_icmp_eq (tgt := 35) hx hb dX8_grows_27 (by decide) (fun c_4 => ?_) (fun c_4 => ?_)
      · skip
        refine lv_iconst (v := 1) hx hb dX8_grows_35 (by decide) ?_
        refine lv_goto (tgt := 54) hx hb dX8_grows_36 (by decide) ?_
        rw [hQ]
        exact z_iret C hr hlk hG dX8_grows_54 rfl (by rw [o_X8_grows_r, if_neg c_3, if_pos c_4]) rfl
      · skip
        refine lv_iload_n hx hb dX8_grows_30 rfl (lv_at hl 1 rfl) ?_
        refine lv_iconst (v := 3) hx hb dX8_grows_31 (by decide) ?_
        refine lv_icmp_ne (tgt := 39) hx hb dX8_grows_32 (by decide) (fun c_5 => ?_) (fun c_5 => ?_)
        · skip
          refine lv_iload_n hx hb dX8_grows_39 rfl (lv_at hl 1 rfl) ?_
          refine lv_iconst (v := 2) hx hb dX8_grows_40 (by decide) ?_
          refine lv_icmp_ne (tgt := 53) hx hb dX8_grows_41 (by decide) (fun c_6 => ?_) (fun c_6 => ?_)
          · skip
            refine lv_iconst (v := 2) hx hb dX8_grows_53 (by decide) ?_
            rw [hQ]
            exact z_iret C hr hlk hG dX8_grows_54 rfl (by rw [o_X8_grows_r, if_neg c_3, if_neg c_4, if_neg c_5, if_neg c_6]) rfl
          · skip
            refine lv_iload_n hx hb dX8_grows_44 rfl (lv_at hl 0 rfl) ?_
            refine lv_if_eq (tgt := 53) hx hb dX8_grows_45 (by decide) (fun c_7 => ?_) (fun c_7 => ?_)
            · skip
              refine lv_iconst (v := 2) hx hb dX8_grows_53 (by decide) ?_
              rw [hQ]
              exact z_iret C hr hlk hG dX8_grows_54 rfl (by rw [o_X8_grows_r, if_neg c_3, if_neg c_4, if_neg c_5, if_pos c_6, if_pos c_7]) rfl
            · skip
              refine lv_bipush (v := (-2)) hx hb dX8_grows_48 (by decide) ?_
              refine lv_goto (tgt := 54) hx hb dX8_grows_50 (by decide) ?_
              rw [hQ]
              exact z_iret C hr hlk hG dX8_grows_54 rfl (by rw [o_X8_grows_r, if_neg c_3, if_neg c_4, if_neg c_5, if_pos c_6, if_neg c_7]) rfl
        · skip
          refine lv_iconst (v := 1) hx hb dX8_grows_35 (by decide) ?_
          refine lv_goto (tgt := 54) hx hb dX8_grows_36 (by decide) ?_
          rw [hQ]
          exact z_iret C hr hlk hG dX8_grows_54 rfl (by rw [o_X8_grows_r, if_neg c_3, if_neg c_4, if_pos c_5]) rfl
    · skip
      refine lv_iconst (v := 3) hx hb dX8_grows_21 (by decide) ?_
      refine lv_goto (tgt := 54) hx hb dX8_grows_22 (by decide) ?_
      rw [hQ]
      exact z_iret C hr hlk hG dX8_grows_54 rfl (by rw [o_X8_grows_r, if_pos c_3]) rfl
  refine lv_icmp_lt (tgt := 11) hx hb dX8_grows_2 (by decide) (fun c_1 => ?_) (fun c_1 => ?_)
  · skip
    refine lv_iconst (v := 1) hx hb dX8_grows_11 (by decide) ?_
    refine lv_goto (tgt := 16) hx hb dX8_grows_12 (by decide) ?_
    exact k_0 1 _ _ _ (by rw [j_X8_grows_0_0, if_pos c_1]) hG (lv_sub hl [0, 1] rfl)
  · skip
    refine lv_iload_n hx hb dX8_grows_5 rfl (lv_at hl 1 rfl) ?_
    refine lv_bipush (v := 11) hx hb dX8_grows_6 (by decide) ?_
    refine lv_icmp_ne (tgt := 15) hx hb dX8_grows_8 (by decide) (fun c_8 => ?_) (fun c_8 => ?_)
    · skip
      refine lv_iconst (v := 0) hx hb dX8_grows_15 (by decide) ?_
      exact k_0 0 _ _ _ (by rw [j_X8_grows_0_0, if_neg c_1, if_neg c_8]) hG (lv_sub hl [0, 1] rfl)
    · skip
      refine lv_iconst (v := 1) hx hb dX8_grows_11 (by decide) ?_
      refine lv_goto (tgt := 16) hx hb dX8_grows_12 (by decide) ?_
      exact k_0 1 _ _ _ (by rw [j_X8_grows_0_0, if_neg c_1, if_pos c_8]) hG (lv_sub hl [0, 1] rfl)
def L_X8_copies_0 (v : Nat → Int32) (sl : Nat → Int32) (fo : Nat) (to : Nat) : Nat → (Nat → Int32)
  | 0 => sl
  | (k0 + 1) => (upd (L_X8_copies_0 v sl fo to k0) (to + k0) ((L_X8_copies_0 v sl fo to k0) (fo + k0)))
def o_X8_copies_1 (v : Nat → Int32) (sl : Nat → Int32) (fo : Nat) (to : Nat) : Nat → Int32 := (L_X8_copies_0 v sl fo to 13)
set_option maxRecDepth 100000 in
set_option maxHeartbeats 4000000 in
theorem c_X8_copies (l : Launch) (E : zE) (v : Nat → Int32) (sl : Nat → Int32) (fo : Nat) (to : Nat) (m aS aW aL aT a1 a2 a3 aB : Nat) (hfo : fo + 13 ≤ 156) (hto : to + 13 ≤ 156) : HM l E yX8_copies cX8_copies 4 none 0 0 [.ref m, .int (nI fo), .int (nI to)] [(m, .inr (8, [.int (v 0), .int (v 1), .ref aS, .int (v 2), .int (v 3), .int (v 4), .ref aW, .int (v 5), .ref aL, .int (v 6), .int (v 7), .int (v 8), .ref aT, .int (v 9), .int (v 10), .int (v 11), .int (v 12), .ref a1, .ref a2, .ref a3, .ref aB, .int (v 13), .int (v 14)])), (aL, .inl (E.2.1.1, 156, .inl sl))] none [(m, .inr (8, [.int (v 0), .int (v 1), .ref aS, .int (v 2), .int (v 3), .int (v 4), .ref aW, .int (v 5), .ref aL, .int (v 6), .int (v 7), .int (v 8), .ref aT, .int (v 9), .int (v 10), .int (v 11), .int (v 12), .ref a1, .ref a2, .ref a3, .ref aB, .int (v 13), .int (v 14)])), (aL, .inl (E.2.1.1, 156, .inl (o_X8_copies_1 v sl fo to)))] := by
  refine HM.of (own := RX8) (plainFor_of_name (by decide)) rfl (Nat.le_of_ble_eq_true rfl) ?_
  intro zp ze zs zm za zb zt zc zA ls H locs zq C hr hlk hG hl hQ
  have hx := C.1.1
  have hb := C.1.2.1
  replace hl : lv_has ls 4 [(0, .ref m), (1, .int (nI fo)), (2, .int (nI to))] := hl
  refine lv_iconst (v := 0) hx hb dX8_copies_0 (by decide) ?_
  refine lv_istore_n (lv' := [(3, .int 0), (0, .ref m), (1, .int (nI fo)), (2, .int (nI to))]) hx hb dX8_copies_1 rfl hl (by decide) rfl (fun ls hl => ?_)
  have kl_0 : ∀ (j0 k0 : Nat), j0 + k0 = 13 → ∀ (u0_0 : Nat → Int32) (H : Heap) (locs : List Loc) (ls : Array Slot), (L_X8_copies_0 v sl fo to k0) = u0_0 → zG E zA zs.heap [(m, .inr (8, [.int (v 0), .int (v 1), .ref aS, .int (v 2), .int (v 3), .int (v 4), .ref aW, .int (v 5), .ref aL, .int (v 6), .int (v 7), .int (v 8), .ref aT, .int (v 9), .int (v 10), .int (v 11), .int (v 12), .ref a1, .ref a2, .ref a3, .ref aB, .int (v 13), .int (v 14)])), (aL, .inl (E.2.1.1, 156, .inl u0_0))] H locs → lv_has ls 4 [(3, .int (nI k0)), (0, .ref m), (1, .int (nI fo)), (2, .int (nI to))] → W zp l ze (zR 0 0) zs zm za zb zt zc H locs 0 0 zq (F0 zm 2 ls []) := by
    intro j0
    induction j0 with
    | zero =>
      intro k0 hk0 u0_0 H locs ls e_u0_0 hG hl
      subst e_u0_0
      obtain rfl : k0 = 13 := by omega
      refine lv_iload_n hx hb dX8_copies_2 rfl (lv_at hl 0 rfl) ?_
      refine lv_bipush (v := 13) hx hb dX8_copies_3 (by decide) ?_
      refine lv_icmp_ge (tgt := 30) hx hb dX8_copies_5 (by decide) (fun c_3 => ?_) (fun c_3 => absurd (z_ge_yes (N := 13) rfl) c_3)
      rw [hQ]
      exact z_vret C hr hlk hG dX8_copies_30 rfl (by rw [o_X8_copies_1])
    | succ j0 ih0 =>
      intro k0 hk0 u0_0 H locs ls e_u0_0 hG hl
      subst e_u0_0
      have hlt : k0 < 13 := by omega
      refine lv_iload_n hx hb dX8_copies_2 rfl (lv_at hl 0 rfl) ?_
      refine lv_bipush (v := 13) hx hb dX8_copies_3 (by decide) ?_
      refine lv_icmp_ge (tgt := 30) hx hb dX8_copies_5 (by decide) (fun c_4 => absurd c_4 (z_ge_no (N := 13) hlt (by decide) rfl)) (fun c_4 => ?_)
      refine lv_aload_n hx hb dX8_copies_8 rfl (lv_at hl 1 rfl) ?_
      refine gf_X8_16 C dX8_copies_9 hG 0 rfl rfl ?_
      refine lv_iload_n hx hb dX8_copies_12 rfl (lv_at hl 3 rfl) ?_
      refine lv_iload_n hx hb dX8_copies_13 rfl (lv_at hl 0 rfl) ?_
      refine lv_iadd hx hb dX8_copies_14 ?_
      refine lv_aload_n hx hb dX8_copies_15 rfl (lv_at hl 1 rfl) ?_
      refine gf_X8_16 C dX8_copies_16 hG 0 rfl rfl ?_
      refine lv_iload_n hx hb dX8_copies_19 rfl (lv_at hl 2 rfl) ?_
      refine lv_iload_n hx hb dX8_copies_20 rfl (lv_at hl 0 rfl) ?_
      refine lv_iadd hx hb dX8_copies_21 ?_
      refine z_ild C dX8_copies_22 hG 1 rfl (fo + k0) (nI_add _ _) (by omega) (Nat.le_of_ble_eq_true rfl) ?_
      refine z_ist C dX8_copies_23 hG 1 rfl (to + k0) (nI_add _ _) (by omega) (Nat.le_of_ble_eq_true rfl) (ws' := [(m, .inr (8, [.int (v 0), .int (v 1), .ref aS, .int (v 2), .int (v 3), .int (v 4), .ref aW, .int (v 5), .ref aL, .int (v 6), .int (v 7), .int (v 8), .ref aT, .int (v 9), .int (v 10), .int (v 11), .int (v 12), .ref a1, .ref a2, .ref a3, .ref aB, .int (v 13), .int (v 14)])), (aL, .inl (E.2.1.1, 156, .inl (upd (L_X8_copies_0 v sl fo to k0) (to + k0) ((L_X8_copies_0 v sl fo to k0) (fo + k0)))))]) rfl (fun H locs hG => ?_)
      refine lv_iinc (v := (nI (k0 + 1))) (lv' := [(3, .int (nI (k0 + 1))), (0, .ref m), (1, .int (nI fo)), (2, .int (nI to))]) hx hb dX8_copies_24 hl (k := 0) rfl (nI_1 _) (by decide) rfl (fun ls hl => ?_)
      refine lv_goto (tgt := 2) hx hb dX8_copies_27 (by decide) ?_
      exact ih0 (k0 + 1) (by omega) (upd (L_X8_copies_0 v sl fo to k0) (to + k0) ((L_X8_copies_0 v sl fo to k0) (fo + k0))) _ _ _ (by rw [L_X8_copies_0]) hG (lv_sub hl [0, 1, 2, 3] rfl)
  exact kl_0 13 0 (by omega) sl _ _ _ (by rw [L_X8_copies_0]) hG (lv_sub hl [0, 1, 2, 3] rfl)
theorem L_copies (v sl : Nat → Int32) (fo to : Nat) (hd : fo + 13 ≤ to ∨ to + 13 ≤ fo) : ∀ k, k ≤ 13 → ∀ j, L_X8_copies_0 v sl fo to k j = if to ≤ j ∧ j < to + k then sl (fo + (j - to)) else sl j := by
  intro k
  induction k with
  | zero => intro _ j; rw [L_X8_copies_0, if_neg (by omega)]
  | succ k ih =>
    intro hk j
    rw [L_X8_copies_0]
    unfold upd
    by_cases h : j = to + k
    · rw [if_pos h, ih (by omega), if_neg (by omega), if_pos (by omega), show fo + (j - to) = fo + k by omega]
    · rw [if_neg h, ih (by omega)]
      by_cases h2 : to ≤ j ∧ j < to + k
      · rw [if_pos h2, if_pos (by omega)]
      · rw [if_neg h2, if_neg (by omega)]
def cp13 (sl : Nat → Int32) (fo to : Nat) : Nat → Int32 := fun j => if to ≤ j ∧ j < to + 13 then sl (fo + (j - to)) else sl j
theorem copies_eq (v sl : Nat → Int32) (fo to : Nat) (hd : fo + 13 ≤ to ∨ to + 13 ≤ fo) : o_X8_copies_1 v sl fo to = cp13 sl fo to := by
  funext j
  rw [o_X8_copies_1, L_copies v sl fo to hd 13 (Nat.le_refl 13) j]
  rfl
theorem c_X8_copies_t (l : Launch) (E : zE) (v : Nat → Int32) (sl : Nat → Int32) (fo : Nat) (to : Nat) (m aS aW aL aT a1 a2 a3 aB : Nat) (hfo : fo + 13 ≤ 156) (hto : to + 13 ≤ 156) (hdj : fo + 13 ≤ to ∨ to + 13 ≤ fo) : HM l E yX8_copies cX8_copies 4 none 0 0 [.ref m, .int (nI fo), .int (nI to)] [(m, .inr (8, [.int (v 0), .int (v 1), .ref aS, .int (v 2), .int (v 3), .int (v 4), .ref aW, .int (v 5), .ref aL, .int (v 6), .int (v 7), .int (v 8), .ref aT, .int (v 9), .int (v 10), .int (v 11), .int (v 12), .ref a1, .ref a2, .ref a3, .ref aB, .int (v 13), .int (v 14)])), (aL, .inl (E.2.1.1, 156, .inl sl))] none [(m, .inr (8, [.int (v 0), .int (v 1), .ref aS, .int (v 2), .int (v 3), .int (v 4), .ref aW, .int (v 5), .ref aL, .int (v 6), .int (v 7), .int (v 8), .ref aT, .int (v 9), .int (v 10), .int (v 11), .int (v 12), .ref a1, .ref a2, .ref a3, .ref aB, .int (v 13), .int (v 14)])), (aL, .inl (E.2.1.1, 156, .inl (cp13 sl fo to)))] := by
  rw [← copies_eq v sl fo to hdj]; exact c_X8_copies l E v sl fo to m aS aW aL aT a1 a2 a3 aB hfo hto
def o_X8_sunIn_0_r (v : Nat → Int32) (ms : Nat → Int32) (sl : Nat → Int32) : Int32 := (ms (((sl 11) - (sl 11) / 12 * 12).toNatClampNeg))
set_option maxRecDepth 100000 in
set_option maxHeartbeats 4000000 in
theorem c_X8_sunIn_0 (l : Launch) (E : zE) (v : Nat → Int32) (ms : Nat → Int32) (sl : Nat → Int32) (m aS aW aL aT a1 a2 a3 aB : Nat) (hM : 0 ≤ (sl 11).toInt) : HM l E yX8_sunIn cX8_sunIn 2 (some .int) 0 0 [.ref m, .int 0] [(m, .inr (8, [.int (v 0), .int (v 1), .ref aS, .int (v 2), .int (v 3), .int (v 4), .ref aW, .int (v 5), .ref aL, .int (v 6), .int (v 7), .int (v 8), .ref aT, .int (v 9), .int (v 10), .int (v 11), .int (v 12), .ref a1, .ref a2, .ref a3, .ref aB, .int (v 13), .int (v 14)])), (aS, .inl (E.2.1.1, 12, .inl ms)), (aL, .inl (E.2.1.1, 156, .inl sl))] (some (.int (o_X8_sunIn_0_r v ms sl))) [(m, .inr (8, [.int (v 0), .int (v 1), .ref aS, .int (v 2), .int (v 3), .int (v 4), .ref aW, .int (v 5), .ref aL, .int (v 6), .int (v 7), .int (v 8), .ref aT, .int (v 9), .int (v 10), .int (v 11), .int (v 12), .ref a1, .ref a2, .ref a3, .ref aB, .int (v 13), .int (v 14)])), (aS, .inl (E.2.1.1, 12, .inl ms)), (aL, .inl (E.2.1.1, 156, .inl sl))] := by
  refine HM.of (own := RX8) (plainFor_of_name (by decide)) rfl (Nat.le_of_ble_eq_true rfl) ?_
  intro zp ze zs zm za zb zt zc zA ls H locs zq C hr hlk hG hl hQ
  have hx := C.1.1
  have hb := C.1.2.1
  replace hl : lv_has ls 2 [(0, .ref m), (1, .int 0)] := hl
  refine lv_aload_n hx hb dX8_sunIn_0 rfl (lv_at hl 0 rfl) ?_
  refine gf_X8_7 C dX8_sunIn_1 hG 0 rfl rfl ?_
  refine lv_aload_n hx hb dX8_sunIn_4 rfl (lv_at hl 0 rfl) ?_
  refine gf_X8_16 C dX8_sunIn_5 hG 0 rfl rfl ?_
  refine lv_iload_n hx hb dX8_sunIn_8 rfl (lv_at hl 1 rfl) ?_
  refine lv_bipush (v := 11) hx hb dX8_sunIn_9 (by decide) ?_
  refine lv_iadd hx hb dX8_sunIn_11 ?_
  refine z_ti (y := 11) (by decide) ?_
  refine z_ild C dX8_sunIn_12 hG 2 rfl 11 (by decide) (Nat.le_of_ble_eq_true rfl) (Nat.le_of_ble_eq_true rfl) ?_
  refine lv_bipush (v := 12) hx hb dX8_sunIn_13 (by decide) ?_
  refine lv_irem hx hb dX8_sunIn_15 (by decide) ?_
  refine z_iald C dX8_sunIn_16 hG 1 rfl (z_rem hM) ?_
  rw [hQ]
  exact z_iret C hr hlk hG dX8_sunIn_17 rfl (by rw [o_X8_sunIn_0_r]) rfl
def o_X8_isDryNow_0_r (v : Nat → Int32) (sl : Nat → Int32) : Int32 := (if (((v 2) >>> (((sl 11) - (sl 11) / 12 * 12) &&& 31)) &&& 1) = 1 then 1 else 0)
set_option maxRecDepth 100000 in
set_option maxHeartbeats 4000000 in
theorem c_X8_isDryNow_0 (l : Launch) (E : zE) (v : Nat → Int32) (sl : Nat → Int32) (m aS aW aL aT a1 a2 a3 aB : Nat) : HM l E yX8_isDryNow cX8_isDryNow 2 (some .boolean) 0 0 [.ref m, .int 0] [(m, .inr (8, [.int (v 0), .int (v 1), .ref aS, .int (v 2), .int (v 3), .int (v 4), .ref aW, .int (v 5), .ref aL, .int (v 6), .int (v 7), .int (v 8), .ref aT, .int (v 9), .int (v 10), .int (v 11), .int (v 12), .ref a1, .ref a2, .ref a3, .ref aB, .int (v 13), .int (v 14)])), (aL, .inl (E.2.1.1, 156, .inl sl))] (some (.int (o_X8_isDryNow_0_r v sl))) [(m, .inr (8, [.int (v 0), .int (v 1), .ref aS, .int (v 2), .int (v 3), .int (v 4), .ref aW, .int (v 5), .ref aL, .int (v 6), .int (v 7), .int (v 8), .ref aT, .int (v 9), .int (v 10), .int (v 11), .int (v 12), .ref a1, .ref a2, .ref a3, .ref aB, .int (v 13), .int (v 14)])), (aL, .inl (E.2.1.1, 156, .inl sl))] := by
  refine HM.of (own := RX8) (plainFor_of_name (by decide)) rfl (Nat.le_of_ble_eq_true rfl) ?_
  intro zp ze zs zm za zb zt zc zA ls H locs zq C hr hlk hG hl hQ
  have hx := C.1.1
  have hb := C.1.2.1
  replace hl : lv_has ls 2 [(0, .ref m), (1, .int 0)] := hl
  refine lv_aload_n hx hb dX8_isDryNow_0 rfl (lv_at hl 0 rfl) ?_
  refine gf_X8_42 C dX8_isDryNow_1 hG 0 rfl rfl ?_
  refine lv_aload_n hx hb dX8_isDryNow_4 rfl (lv_at hl 0 rfl) ?_
  refine gf_X8_16 C dX8_isDryNow_5 hG 0 rfl rfl ?_
  refine lv_iload_n hx hb dX8_isDryNow_8 rfl (lv_at hl 1 rfl) ?_
  refine lv_bipush (v := 11) hx hb dX8_isDryNow_9 (by decide) ?_
  refine lv_iadd hx hb dX8_isDryNow_11 ?_
  refine z_ti (y := 11) (by decide) ?_
  refine z_ild C dX8_isDryNow_12 hG 1 rfl 11 (by decide) (Nat.le_of_ble_eq_true rfl) (Nat.le_of_ble_eq_true rfl) ?_
  refine lv_bipush (v := 12) hx hb dX8_isDryNow_13 (by decide) ?_
  refine lv_irem hx hb dX8_isDryNow_15 (by decide) ?_
  refine lv_ishr hx hb dX8_isDryNow_16 ?_
  refine lv_iconst (v := 1) hx hb dX8_isDryNow_17 (by decide) ?_
  refine lv_iand hx hb dX8_isDryNow_18 ?_
  refine lv_iconst (v := 1) hx hb dX8_isDryNow_19 (by decide) ?_
  refine lv_icmp_ne (tgt := 27) hx hb dX8_isDryNow_20 (by decide) (fun c_1 => ?_) (fun c_1 => ?_)
  · skip
    refine lv_iconst (v := 0) hx hb dX8_isDryNow_27 (by decide) ?_
    rw [hQ]
    exact z_iret C hr hlk hG dX8_isDryNow_28 rfl (by rw [o_X8_isDryNow_0_r, if_neg c_1]) rfl
  · skip
    refine lv_iconst (v := 1) hx hb dX8_isDryNow_23 (by decide) ?_
    refine lv_goto (tgt := 28) hx hb dX8_isDryNow_24 (by decide) ?_
    rw [hQ]
    exact z_iret C hr hlk hG dX8_isDryNow_28 rfl (by rw [o_X8_isDryNow_0_r, if_pos c_1]) rfl
theorem o_X8_isDryNow_0_b (v : Nat → Int32) (sl : Nat → Int32) : o_X8_isDryNow_0_r v sl = 0 ∨ o_X8_isDryNow_0_r v sl = 1 := by
  unfold o_X8_isDryNow_0_r; (repeat' split) <;> first | exact Or.inl rfl | exact Or.inr rfl
def o_X8_shadow_0_0_r (v : Nat → Int32) (ms : Nat → Int32) (sl : Nat → Int32) : Int32 := (((sl 2) * (10 - (o_X8_sunIn_0_r v ms sl))) / 3)
set_option maxRecDepth 100000 in
set_option maxHeartbeats 4000000 in
theorem c_X8_shadow_0_0 (l : Launch) (E : zE) (v : Nat → Int32) (ms : Nat → Int32) (sl : Nat → Int32) (m aS aW aL aT a1 a2 a3 aB : Nat) (hM : 0 ≤ (sl 11).toInt) : HM l E yX8_shadow cX8_shadow 3 (some .int) 1 21 [.ref m, .int 0, .int 0] [(m, .inr (8, [.int (v 0), .int (v 1), .ref aS, .int (v 2), .int (v 3), .int (v 4), .ref aW, .int (v 5), .ref aL, .int (v 6), .int (v 7), .int (v 8), .ref aT, .int (v 9), .int (v 10), .int (v 11), .int (v 12), .ref a1, .ref a2, .ref a3, .ref aB, .int (v 13), .int (v 14)])), (aS, .inl (E.2.1.1, 12, .inl ms)), (aL, .inl (E.2.1.1, 156, .inl sl))] (some (.int (o_X8_shadow_0_0_r v ms sl))) [(m, .inr (8, [.int (v 0), .int (v 1), .ref aS, .int (v 2), .int (v 3), .int (v 4), .ref aW, .int (v 5), .ref aL, .int (v 6), .int (v 7), .int (v 8), .ref aT, .int (v 9), .int (v 10), .int (v 11), .int (v 12), .ref a1, .ref a2, .ref a3, .ref aB, .int (v 13), .int (v 14)])), (aS, .inl (E.2.1.1, 12, .inl ms)), (aL, .inl (E.2.1.1, 156, .inl sl))] := by
  refine HM.of (own := RX8) (plainFor_of_name (by decide)) rfl (Nat.le_of_ble_eq_true rfl) ?_
  intro zp ze zs zm za zb zt zc zA ls H locs zq C hr hlk hG hl hQ
  have hx := C.1.1
  have hb := C.1.2.1
  replace hl : lv_has ls 3 [(0, .ref m), (1, .int 0), (2, .int 0)] := hl
  refine lv_aload_n hx hb dX8_shadow_0 rfl (lv_at hl 0 rfl) ?_
  refine gf_X8_16 C dX8_shadow_1 hG 0 rfl rfl ?_
  refine lv_iload_n hx hb dX8_shadow_4 rfl (lv_at hl 1 rfl) ?_
  refine lv_iconst (v := 2) hx hb dX8_shadow_5 (by decide) ?_
  refine lv_iadd hx hb dX8_shadow_6 ?_
  refine z_ti (y := 2) (by decide) ?_
  refine lv_iload_n hx hb dX8_shadow_7 rfl (lv_at hl 2 rfl) ?_
  refine lv_iadd hx hb dX8_shadow_8 ?_
  refine z_ti (y := 2) (by decide) ?_
  refine z_ild C dX8_shadow_9 hG 2 rfl 2 (by decide) (Nat.le_of_ble_eq_true rfl) (Nat.le_of_ble_eq_true rfl) ?_
  refine lv_bipush (v := 10) hx hb dX8_shadow_10 (by decide) ?_
  refine lv_aload_n hx hb dX8_shadow_12 rfl (lv_at hl 0 rfl) ?_
  refine lv_iload_n hx hb dX8_shadow_13 rfl (lv_at hl 1 rfl) ?_
  refine call_X8_114 C dX8_shadow_14 (c_X8_sunIn_0 l E v ms sl m aS aW aL aT a1 a2 a3 aB (by first | exact hM | (simpa [upd] using hM))) hl hG 0 rfl [0, 1, 2] (by decide) rfl (ads := [m, aS, aL]) rfl rfl (ws' := [(m, .inr (8, [.int (v 0), .int (v 1), .ref aS, .int (v 2), .int (v 3), .int (v 4), .ref aW, .int (v 5), .ref aL, .int (v 6), .int (v 7), .int (v 8), .ref aT, .int (v 9), .int (v 10), .int (v 11), .int (v 12), .ref a1, .ref a2, .ref a3, .ref aB, .int (v 13), .int (v 14)])), (aS, .inl (E.2.1.1, 12, .inl ms)), (aL, .inl (E.2.1.1, 156, .inl sl))]) rfl rfl (rest := [.int 10, .int (sl 2)]) rfl (Nat.le_of_ble_eq_true rfl) ⟨Nat.le_of_ble_eq_true rfl, Nat.le_of_ble_eq_true rfl⟩ (fun H locs hG => ?_)
  refine lv_isub hx hb dX8_shadow_17 ?_
  refine lv_imul hx hb dX8_shadow_18 ?_
  refine lv_iconst (v := 3) hx hb dX8_shadow_19 (by decide) ?_
  refine lv_idiv hx hb dX8_shadow_20 (by decide) ?_
  rw [hQ]
  exact z_iret C hr hlk hG dX8_shadow_21 rfl (by rw [o_X8_shadow_0_0_r]) rfl
def j_X8_does_0_0_0_0 (v : Nat → Int32) (sl : Nat → Int32) (ac : Int32) : Nat → Int32 := (if ac = 4 then (upd sl 4 (o_X8_smaller_r 3 ((sl 4) + 1))) else sl)
def j_X8_does_0_0_1_0 (v : Nat → Int32) (sl : Nat → Int32) (ac : Int32) : Nat → Int32 := (if ac = 4 then (upd sl 4 (o_X8_smaller_r 3 ((sl 4) + 1))) else sl)
def j_X8_does_0_0_2_0 (v : Nat → Int32) (sl : Nat → Int32) (ac : Int32) : Nat → Int32 := (if ac = 4 then (upd sl 4 (o_X8_smaller_r 3 ((sl 4) + 1))) else sl)
def j_X8_does_0_0_3_0 (v : Nat → Int32) (sl : Nat → Int32) (ac : Int32) : Nat → Int32 := (if ac = 4 then (upd sl 4 (o_X8_smaller_r 3 ((sl 4) + 1))) else sl)
def j_X8_does_0_0_4_0 (v : Nat → Int32) (sl : Nat → Int32) (ac : Int32) : Nat → Int32 := (if ac = 4 then (upd sl 4 (o_X8_smaller_r 3 ((sl 4) + 1))) else sl)
def j_X8_does_0_0_5_0 (v : Nat → Int32) (sl : Nat → Int32) (ac : Int32) : Nat → Int32 := (if ac = 4 then (upd sl 4 (o_X8_smaller_r 3 ((sl 4) + 1))) else sl)
def j_X8_does_0_0_6_0 (v : Nat → Int32) (sl : Nat → Int32) (ac : Int32) : Int32 := (if (3 : Int32) ≤ (sl 2) then (sl 2) else (o_X8_larger_r 0 ((sl 2) - 1)))
def o_X8_does_0_0_r (v : Nat → Int32) (sl : Nat → Int32) (ac : Int32) : Int32 := (if ac = 1 then 0 else (if ac = 2 then (if (sl 6) < 3 then (if ac = 3 then (if (sl 6) < 1 then 0 else (if (sl 10) < 1 then 0 else 1)) else 0) else (if (3 : Int32) ≤ (sl 2) then 2 else 0)) else (if ac = 3 then (if (sl 6) < 1 then 0 else (if (sl 10) < 1 then 0 else 1)) else 0)))
def o_X8_does_0_0_1 (v : Nat → Int32) (sl : Nat → Int32) (ac : Int32) : Nat → Int32 := (if ac = 1 then (upd sl 2 (o_X8_larger_r 0 ((sl 2) - 2))) else (if ac = 2 then (if (sl 6) < 3 then (if ac = 3 then (if (sl 6) < 1 then (j_X8_does_0_0_4_0 v sl ac) else (if (sl 10) < 1 then (j_X8_does_0_0_5_0 v sl ac) else (upd (upd sl 6 ((sl 6) - 1)) 10 (((upd sl 6 ((sl 6) - 1)) 10) - 1)))) else (j_X8_does_0_0_3_0 v sl ac)) else (upd (upd sl 6 ((sl 6) - 3)) 2 (j_X8_does_0_0_6_0 v sl ac))) else (if ac = 3 then (if (sl 6) < 1 then (j_X8_does_0_0_1_0 v sl ac) else (if (sl 10) < 1 then (j_X8_does_0_0_2_0 v sl ac) else (upd (upd sl 6 ((sl 6) - 1)) 10 (((upd sl 6 ((sl 6) - 1)) 10) - 1)))) else (j_X8_does_0_0_0_0 v sl ac))))
set_option maxRecDepth 100000 in
set_option maxHeartbeats 4000000 in
theorem c_X8_does_0_0 (l : Launch) (E : zE) (v : Nat → Int32) (sl : Nat → Int32) (ac : Int32) (m aS aW aL aT a1 a2 a3 aB : Nat) : HM l E yX8_does cX8_does 5 (some .int) 1 21 [.ref m, .int 0, .int 0, .int ac] [(m, .inr (8, [.int (v 0), .int (v 1), .ref aS, .int (v 2), .int (v 3), .int (v 4), .ref aW, .int (v 5), .ref aL, .int (v 6), .int (v 7), .int (v 8), .ref aT, .int (v 9), .int (v 10), .int (v 11), .int (v 12), .ref a1, .ref a2, .ref a3, .ref aB, .int (v 13), .int (v 14)])), (aL, .inl (E.2.1.1, 156, .inl sl))] (some (.int (o_X8_does_0_0_r v sl ac))) [(m, .inr (8, [.int (v 0), .int (v 1), .ref aS, .int (v 2), .int (v 3), .int (v 4), .ref aW, .int (v 5), .ref aL, .int (v 6), .int (v 7), .int (v 8), .ref aT, .int (v 9), .int (v 10), .int (v 11), .int (v 12), .ref a1, .ref a2, .ref a3, .ref aB, .int (v 13), .int (v 14)])), (aL, .inl (E.2.1.1, 156, .inl (o_X8_does_0_0_1 v sl ac)))] := by
  refine HM.of (own := RX8) (plainFor_of_name (by decide)) rfl (Nat.le_of_ble_eq_true rfl) ?_
  intro zp ze zs zm za zb zt zc zA ls H locs zq C hr hlk hG hl hQ
  have hx := C.1.1
  have hb := C.1.2.1
  replace hl : lv_has ls 5 [(0, .ref m), (1, .int 0), (2, .int 0), (3, .int ac)] := hl
  refine lv_aload_n hx hb dX8_does_0 rfl (lv_at hl 0 rfl) ?_
  refine gf_X8_16 C dX8_does_1 hG 0 rfl rfl ?_
  refine lv_iload_n hx hb dX8_does_4 rfl (lv_at hl 1 rfl) ?_
  refine lv_iconst (v := 2) hx hb dX8_does_5 (by decide) ?_
  refine lv_iadd hx hb dX8_does_6 ?_
  refine z_ti (y := 2) (by decide) ?_
  refine lv_iload_n hx hb dX8_does_7 rfl (lv_at hl 2 rfl) ?_
  refine lv_iadd hx hb dX8_does_8 ?_
  refine z_ti (y := 2) (by decide) ?_
  refine z_ild C dX8_does_9 hG 1 rfl 2 (by decide) (Nat.le_of_ble_eq_true rfl) (Nat.le_of_ble_eq_true rfl) ?_
  refine lv_istore (lv' := [(4, .int (sl 2)), (0, .ref m), (1, .int 0), (2, .int 0), (3, .int ac)]) hx hb dX8_does_10 hl (by decide) rfl (fun ls hl => ?_)
  refine lv_iload_n hx hb dX8_does_12 rfl (lv_at hl 4 rfl) ?_
  refine lv_iconst (v := 1) hx hb dX8_does_13 (by decide) ?_
  refine lv_icmp_ne (tgt := 38) hx hb dX8_does_14 (by decide) (fun c_1 => ?_) (fun c_1 => ?_)
  · skip
    refine lv_iload_n hx hb dX8_does_38 rfl (lv_at hl 4 rfl) ?_
    refine lv_iconst (v := 2) hx hb dX8_does_39 (by decide) ?_
    refine lv_icmp_ne (tgt := 114) hx hb dX8_does_40 (by decide) (fun c_2 => ?_) (fun c_2 => ?_)
    · skip
      refine lv_iload_n hx hb dX8_does_114 rfl (lv_at hl 4 rfl) ?_
      refine lv_iconst (v := 3) hx hb dX8_does_115 (by decide) ?_
      refine lv_icmp_ne (tgt := 177) hx hb dX8_does_116 (by decide) (fun c_3 => ?_) (fun c_3 => ?_)
      · skip
        refine lv_iload_n hx hb dX8_does_177 rfl (lv_at hl 4 rfl) ?_
        refine lv_iconst (v := 4) hx hb dX8_does_178 (by decide) ?_
        have k_0 : ∀ (y0_0 : Nat → Int32) (H : Heap) (locs : List Loc) (ls : Array Slot), (j_X8_does_0_0_0_0 v sl ac) = y0_0 → zG E zA zs.heap [(m, .inr (8, [.int (v 0), .int (v 1), .ref aS, .int (v 2), .int (v 3), .int (v 4), .ref aW, .int (v 5), .ref aL, .int (v 6), .int (v 7), .int (v 8), .ref aT, .int (v 9), .int (v 10), .int (v 11), .int (v 12), .ref a1, .ref a2, .ref a3, .ref aB, .int (v 13), .int (v 14)])), (aL, .inl (E.2.1.1, 156, .inl y0_0))] H locs → lv_has ls 5 [(4, .int (sl 2)), (0, .ref m), (1, .int 0), (2, .int 0), (3, .int ac)] → W zp l ze (zR 1 21) zs zm za zb zt zc H locs 0 0 zq (F0 zm 208 ls []) := by
          intro y0_0 H locs ls e_y0_0 hG hl
          subst e_y0_0
          refine lv_iconst (v := 0) hx hb dX8_does_208 (by decide) ?_
          rw [hQ]
          exact z_iret C hr hlk hG dX8_does_209 rfl (by rw [o_X8_does_0_0_r, if_neg c_1, if_neg c_2, if_neg c_3]) (by rw [o_X8_does_0_0_1, if_neg c_1, if_neg c_2, if_neg c_3])
        refine lv_icmp_ne (tgt := 208) hx hb dX8_does_179 (by decide) (fun c_4 => ?_) (fun c_4 => ?_)
        · skip
          exact k_0 sl _ _ _ (by rw [j_X8_does_0_0_0_0, if_neg c_4]) hG (lv_sub hl [0, 1, 2, 3, 4] rfl)
        · skip
          refine lv_aload_n hx hb dX8_does_182 rfl (lv_at hl 1 rfl) ?_
          refine gf_X8_16 C dX8_does_183 hG 0 rfl rfl ?_
          refine lv_iload_n hx hb dX8_does_186 rfl (lv_at hl 2 rfl) ?_
          refine lv_iconst (v := 4) hx hb dX8_does_187 (by decide) ?_
          refine lv_iadd hx hb dX8_does_188 ?_
          refine z_ti (y := 4) (by decide) ?_
          refine lv_iload_n hx hb dX8_does_189 rfl (lv_at hl 3 rfl) ?_
          refine lv_iadd hx hb dX8_does_190 ?_
          refine z_ti (y := 4) (by decide) ?_
          refine lv_iconst (v := 3) hx hb dX8_does_191 (by decide) ?_
          refine lv_aload_n hx hb dX8_does_192 rfl (lv_at hl 1 rfl) ?_
          refine gf_X8_16 C dX8_does_193 hG 0 rfl rfl ?_
          refine lv_iload_n hx hb dX8_does_196 rfl (lv_at hl 2 rfl) ?_
          refine lv_iconst (v := 4) hx hb dX8_does_197 (by decide) ?_
          refine lv_iadd hx hb dX8_does_198 ?_
          refine z_ti (y := 4) (by decide) ?_
          refine lv_iload_n hx hb dX8_does_199 rfl (lv_at hl 3 rfl) ?_
          refine lv_iadd hx hb dX8_does_200 ?_
          refine z_ti (y := 4) (by decide) ?_
          refine z_ild C dX8_does_201 hG 1 rfl 4 (by decide) (Nat.le_of_ble_eq_true rfl) (Nat.le_of_ble_eq_true rfl) ?_
          refine lv_iconst (v := 1) hx hb dX8_does_202 (by decide) ?_
          refine lv_iadd hx hb dX8_does_203 ?_
          refine call_X8_136 C dX8_does_204 (c_X8_smaller l E 3 ((sl 4) + 1)) hl hG [] (by decide) rfl (ads := []) rfl rfl (ws' := [(m, .inr (8, [.int (v 0), .int (v 1), .ref aS, .int (v 2), .int (v 3), .int (v 4), .ref aW, .int (v 5), .ref aL, .int (v 6), .int (v 7), .int (v 8), .ref aT, .int (v 9), .int (v 10), .int (v 11), .int (v 12), .ref a1, .ref a2, .ref a3, .ref aB, .int (v 13), .int (v 14)])), (aL, .inl (E.2.1.1, 156, .inl sl))]) rfl rfl (rest := [.int 4, .ref aL]) rfl (Nat.le_of_ble_eq_true rfl) ⟨Nat.le_of_ble_eq_true rfl, Nat.le_of_ble_eq_true rfl⟩ (fun H locs hG => ?_)
          refine z_ist C dX8_does_207 hG 1 rfl 4 (by decide) (Nat.le_of_ble_eq_true rfl) (Nat.le_of_ble_eq_true rfl) (ws' := [(m, .inr (8, [.int (v 0), .int (v 1), .ref aS, .int (v 2), .int (v 3), .int (v 4), .ref aW, .int (v 5), .ref aL, .int (v 6), .int (v 7), .int (v 8), .ref aT, .int (v 9), .int (v 10), .int (v 11), .int (v 12), .ref a1, .ref a2, .ref a3, .ref aB, .int (v 13), .int (v 14)])), (aL, .inl (E.2.1.1, 156, .inl (upd sl 4 (o_X8_smaller_r 3 ((sl 4) + 1)))))]) rfl (fun H locs hG => ?_)
          exact k_0 (upd sl 4 (o_X8_smaller_r 3 ((sl 4) + 1))) _ _ _ (by rw [j_X8_does_0_0_0_0, if_pos c_4]) hG (lv_sub hl [0, 1, 2, 3, 4] rfl)
      · skip
        refine lv_aload_n hx hb dX8_does_119 rfl (lv_at hl 1 rfl) ?_
        refine gf_X8_16 C dX8_does_120 hG 0 rfl rfl ?_
        refine lv_iload_n hx hb dX8_does_123 rfl (lv_at hl 2 rfl) ?_
        refine lv_bipush (v := 6) hx hb dX8_does_124 (by decide) ?_
        refine lv_iadd hx hb dX8_does_126 ?_
        refine z_ti (y := 6) (by decide) ?_
        refine lv_iload_n hx hb dX8_does_127 rfl (lv_at hl 3 rfl) ?_
        refine lv_iadd hx hb dX8_does_128 ?_
        refine z_ti (y := 6) (by decide) ?_
        refine z_ild C dX8_does_129 hG 1 rfl 6 (by decide) (Nat.le_of_ble_eq_true rfl) (Nat.le_of_ble_eq_true rfl) ?_
        refine lv_iconst (v := 1) hx hb dX8_does_130 (by decide) ?_
        refine lv_icmp_lt (tgt := 177) hx hb dX8_does_131 (by decide) (fun c_5 => ?_) (fun c_5 => ?_)
        · skip
          refine lv_iload_n hx hb dX8_does_177 rfl (lv_at hl 4 rfl) ?_
          refine lv_iconst (v := 4) hx hb dX8_does_178 (by decide) ?_
          have k_1 : ∀ (y1_0 : Nat → Int32) (H : Heap) (locs : List Loc) (ls : Array Slot), (j_X8_does_0_0_1_0 v sl ac) = y1_0 → zG E zA zs.heap [(m, .inr (8, [.int (v 0), .int (v 1), .ref aS, .int (v 2), .int (v 3), .int (v 4), .ref aW, .int (v 5), .ref aL, .int (v 6), .int (v 7), .int (v 8), .ref aT, .int (v 9), .int (v 10), .int (v 11), .int (v 12), .ref a1, .ref a2, .ref a3, .ref aB, .int (v 13), .int (v 14)])), (aL, .inl (E.2.1.1, 156, .inl y1_0))] H locs → lv_has ls 5 [(4, .int (sl 2)), (0, .ref m), (1, .int 0), (2, .int 0), (3, .int ac)] → W zp l ze (zR 1 21) zs zm za zb zt zc H locs 0 0 zq (F0 zm 208 ls []) := by
            intro y1_0 H locs ls e_y1_0 hG hl
            subst e_y1_0
            refine lv_iconst (v := 0) hx hb dX8_does_208 (by decide) ?_
            rw [hQ]
            exact z_iret C hr hlk hG dX8_does_209 rfl (by rw [o_X8_does_0_0_r, if_neg c_1, if_neg c_2, if_pos c_3, if_pos c_5]) (by rw [o_X8_does_0_0_1, if_neg c_1, if_neg c_2, if_pos c_3, if_pos c_5])
          refine lv_icmp_ne (tgt := 208) hx hb dX8_does_179 (by decide) (fun c_6 => ?_) (fun c_6 => ?_)
          · skip
            exact k_1 sl _ _ _ (by rw [j_X8_does_0_0_1_0, if_neg c_6]) hG (lv_sub hl [0, 1, 2, 3, 4] rfl)
          · skip
            refine lv_aload_n hx hb dX8_does_182 rfl (lv_at hl 1 rfl) ?_
            refine gf_X8_16 C dX8_does_183 hG 0 rfl rfl ?_
            refine lv_iload_n hx hb dX8_does_186 rfl (lv_at hl 2 rfl) ?_
            refine lv_iconst (v := 4) hx hb dX8_does_187 (by decide) ?_
            refine lv_iadd hx hb dX8_does_188 ?_
            refine z_ti (y := 4) (by decide) ?_
            refine lv_iload_n hx hb dX8_does_189 rfl (lv_at hl 3 rfl) ?_
            refine lv_iadd hx hb dX8_does_190 ?_
            refine z_ti (y := 4) (by decide) ?_
            refine lv_iconst (v := 3) hx hb dX8_does_191 (by decide) ?_
            refine lv_aload_n hx hb dX8_does_192 rfl (lv_at hl 1 rfl) ?_
            refine gf_X8_16 C dX8_does_193 hG 0 rfl rfl ?_
            refine lv_iload_n hx hb dX8_does_196 rfl (lv_at hl 2 rfl) ?_
            refine lv_iconst (v := 4) hx hb dX8_does_197 (by decide) ?_
            refine lv_iadd hx hb dX8_does_198 ?_
            refine z_ti (y := 4) (by decide) ?_
            refine lv_iload_n hx hb dX8_does_199 rfl (lv_at hl 3 rfl) ?_
            refine lv_iadd hx hb dX8_does_200 ?_
            refine z_ti (y := 4) (by decide) ?_
            refine z_ild C dX8_does_201 hG 1 rfl 4 (by decide) (Nat.le_of_ble_eq_true rfl) (Nat.le_of_ble_eq_true rfl) ?_
            refine lv_iconst (v := 1) hx hb dX8_does_202 (by decide) ?_
            refine lv_iadd hx hb dX8_does_203 ?_
            refine call_X8_136 C dX8_does_204 (c_X8_smaller l E 3 ((sl 4) + 1)) hl hG [] (by decide) rfl (ads := []) rfl rfl (ws' := [(m, .inr (8, [.int (v 0), .int (v 1), .ref aS, .int (v 2), .int (v 3), .int (v 4), .ref aW, .int (v 5), .ref aL, .int (v 6), .int (v 7), .int (v 8), .ref aT, .int (v 9), .int (v 10), .int (v 11), .int (v 12), .ref a1, .ref a2, .ref a3, .ref aB, .int (v 13), .int (v 14)])), (aL, .inl (E.2.1.1, 156, .inl sl))]) rfl rfl (rest := [.int 4, .ref aL]) rfl (Nat.le_of_ble_eq_true rfl) ⟨Nat.le_of_ble_eq_true rfl, Nat.le_of_ble_eq_true rfl⟩ (fun H locs hG => ?_)
            refine z_ist C dX8_does_207 hG 1 rfl 4 (by decide) (Nat.le_of_ble_eq_true rfl) (Nat.le_of_ble_eq_true rfl) (ws' := [(m, .inr (8, [.int (v 0), .int (v 1), .ref aS, .int (v 2), .int (v 3), .int (v 4), .ref aW, .int (v 5), .ref aL, .int (v 6), .int (v 7), .int (v 8), .ref aT, .int (v 9), .int (v 10), .int (v 11), .int (v 12), .ref a1, .ref a2, .ref a3, .ref aB, .int (v 13), .int (v 14)])), (aL, .inl (E.2.1.1, 156, .inl (upd sl 4 (o_X8_smaller_r 3 ((sl 4) + 1)))))]) rfl (fun H locs hG => ?_)
            exact k_1 (upd sl 4 (o_X8_smaller_r 3 ((sl 4) + 1))) _ _ _ (by rw [j_X8_does_0_0_1_0, if_pos c_6]) hG (lv_sub hl [0, 1, 2, 3, 4] rfl)
        · skip
          refine lv_aload_n hx hb dX8_does_134 rfl (lv_at hl 1 rfl) ?_
          refine gf_X8_16 C dX8_does_135 hG 0 rfl rfl ?_
          refine lv_iload_n hx hb dX8_does_138 rfl (lv_at hl 2 rfl) ?_
          refine lv_bipush (v := 10) hx hb dX8_does_139 (by decide) ?_
          refine lv_iadd hx hb dX8_does_141 ?_
          refine z_ti (y := 10) (by decide) ?_
          refine z_ild C dX8_does_142 hG 1 rfl 10 (by decide) (Nat.le_of_ble_eq_true rfl) (Nat.le_of_ble_eq_true rfl) ?_
          refine lv_iconst (v := 1) hx hb dX8_does_143 (by decide) ?_
          refine lv_icmp_lt (tgt := 177) hx hb dX8_does_144 (by decide) (fun c_7 => ?_) (fun c_7 => ?_)
          · skip
            refine lv_iload_n hx hb dX8_does_177 rfl (lv_at hl 4 rfl) ?_
            refine lv_iconst (v := 4) hx hb dX8_does_178 (by decide) ?_
            have k_2 : ∀ (y2_0 : Nat → Int32) (H : Heap) (locs : List Loc) (ls : Array Slot), (j_X8_does_0_0_2_0 v sl ac) = y2_0 → zG E zA zs.heap [(m, .inr (8, [.int (v 0), .int (v 1), .ref aS, .int (v 2), .int (v 3), .int (v 4), .ref aW, .int (v 5), .ref aL, .int (v 6), .int (v 7), .int (v 8), .ref aT, .int (v 9), .int (v 10), .int (v 11), .int (v 12), .ref a1, .ref a2, .ref a3, .ref aB, .int (v 13), .int (v 14)])), (aL, .inl (E.2.1.1, 156, .inl y2_0))] H locs → lv_has ls 5 [(4, .int (sl 2)), (0, .ref m), (1, .int 0), (2, .int 0), (3, .int ac)] → W zp l ze (zR 1 21) zs zm za zb zt zc H locs 0 0 zq (F0 zm 208 ls []) := by
              intro y2_0 H locs ls e_y2_0 hG hl
              subst e_y2_0
              refine lv_iconst (v := 0) hx hb dX8_does_208 (by decide) ?_
              rw [hQ]
              exact z_iret C hr hlk hG dX8_does_209 rfl (by rw [o_X8_does_0_0_r, if_neg c_1, if_neg c_2, if_pos c_3, if_neg c_5, if_pos c_7]) (by rw [o_X8_does_0_0_1, if_neg c_1, if_neg c_2, if_pos c_3, if_neg c_5, if_pos c_7])
            refine lv_icmp_ne (tgt := 208) hx hb dX8_does_179 (by decide) (fun c_8 => ?_) (fun c_8 => ?_)
            · skip
              exact k_2 sl _ _ _ (by rw [j_X8_does_0_0_2_0, if_neg c_8]) hG (lv_sub hl [0, 1, 2, 3, 4] rfl)
            · skip
              refine lv_aload_n hx hb dX8_does_182 rfl (lv_at hl 1 rfl) ?_
              refine gf_X8_16 C dX8_does_183 hG 0 rfl rfl ?_
              refine lv_iload_n hx hb dX8_does_186 rfl (lv_at hl 2 rfl) ?_
              refine lv_iconst (v := 4) hx hb dX8_does_187 (by decide) ?_
              refine lv_iadd hx hb dX8_does_188 ?_
              refine z_ti (y := 4) (by decide) ?_
              refine lv_iload_n hx hb dX8_does_189 rfl (lv_at hl 3 rfl) ?_
              refine lv_iadd hx hb dX8_does_190 ?_
              refine z_ti (y := 4) (by decide) ?_
              refine lv_iconst (v := 3) hx hb dX8_does_191 (by decide) ?_
              refine lv_aload_n hx hb dX8_does_192 rfl (lv_at hl 1 rfl) ?_
              refine gf_X8_16 C dX8_does_193 hG 0 rfl rfl ?_
              refine lv_iload_n hx hb dX8_does_196 rfl (lv_at hl 2 rfl) ?_
              refine lv_iconst (v := 4) hx hb dX8_does_197 (by decide) ?_
              refine lv_iadd hx hb dX8_does_198 ?_
              refine z_ti (y := 4) (by decide) ?_
              refine lv_iload_n hx hb dX8_does_199 rfl (lv_at hl 3 rfl) ?_
              refine lv_iadd hx hb dX8_does_200 ?_
              refine z_ti (y := 4) (by decide) ?_
              refine z_ild C dX8_does_201 hG 1 rfl 4 (by decide) (Nat.le_of_ble_eq_true rfl) (Nat.le_of_ble_eq_true rfl) ?_
              refine lv_iconst (v := 1) hx hb dX8_does_202 (by decide) ?_
              refine lv_iadd hx hb dX8_does_203 ?_
              refine call_X8_136 C dX8_does_204 (c_X8_smaller l E 3 ((sl 4) + 1)) hl hG [] (by decide) rfl (ads := []) rfl rfl (ws' := [(m, .inr (8, [.int (v 0), .int (v 1), .ref aS, .int (v 2), .int (v 3), .int (v 4), .ref aW, .int (v 5), .ref aL, .int (v 6), .int (v 7), .int (v 8), .ref aT, .int (v 9), .int (v 10), .int (v 11), .int (v 12), .ref a1, .ref a2, .ref a3, .ref aB, .int (v 13), .int (v 14)])), (aL, .inl (E.2.1.1, 156, .inl sl))]) rfl rfl (rest := [.int 4, .ref aL]) rfl (Nat.le_of_ble_eq_true rfl) ⟨Nat.le_of_ble_eq_true rfl, Nat.le_of_ble_eq_true rfl⟩ (fun H locs hG => ?_)
              refine z_ist C dX8_does_207 hG 1 rfl 4 (by decide) (Nat.le_of_ble_eq_true rfl) (Nat.le_of_ble_eq_true rfl) (ws' := [(m, .inr (8, [.int (v 0), .int (v 1), .ref aS, .int (v 2), .int (v 3), .int (v 4), .ref aW, .int (v 5), .ref aL, .int (v 6), .int (v 7), .int (v 8), .ref aT, .int (v 9), .int (v 10), .int (v 11), .int (v 12), .ref a1, .ref a2, .ref a3, .ref aB, .int (v 13), .int (v 14)])), (aL, .inl (E.2.1.1, 156, .inl (upd sl 4 (o_X8_smaller_r 3 ((sl 4) + 1)))))]) rfl (fun H locs hG => ?_)
              exact k_2 (upd sl 4 (o_X8_smaller_r 3 ((sl 4) + 1))) _ _ _ (by rw [j_X8_does_0_0_2_0, if_pos c_8]) hG (lv_sub hl [0, 1, 2, 3, 4] rfl)
          · skip
            refine lv_aload_n hx hb dX8_does_147 rfl (lv_at hl 1 rfl) ?_
            refine gf_X8_16 C dX8_does_148 hG 0 rfl rfl ?_
            refine lv_iload_n hx hb dX8_does_151 rfl (lv_at hl 2 rfl) ?_
            refine lv_bipush (v := 6) hx hb dX8_does_152 (by decide) ?_
            refine lv_iadd hx hb dX8_does_154 ?_
            refine z_ti (y := 6) (by decide) ?_
            refine lv_iload_n hx hb dX8_does_155 rfl (lv_at hl 3 rfl) ?_
            refine lv_iadd hx hb dX8_does_156 ?_
            refine z_ti (y := 6) (by decide) ?_
            refine lv_dup2_11 hx hb dX8_does_157 rfl rfl ?_
            refine z_ild C dX8_does_158 hG 1 rfl 6 (by decide) (Nat.le_of_ble_eq_true rfl) (Nat.le_of_ble_eq_true rfl) ?_
            refine lv_iconst (v := 1) hx hb dX8_does_159 (by decide) ?_
            refine lv_isub hx hb dX8_does_160 ?_
            refine z_ist C dX8_does_161 hG 1 rfl 6 (by decide) (Nat.le_of_ble_eq_true rfl) (Nat.le_of_ble_eq_true rfl) (ws' := [(m, .inr (8, [.int (v 0), .int (v 1), .ref aS, .int (v 2), .int (v 3), .int (v 4), .ref aW, .int (v 5), .ref aL, .int (v 6), .int (v 7), .int (v 8), .ref aT, .int (v 9), .int (v 10), .int (v 11), .int (v 12), .ref a1, .ref a2, .ref a3, .ref aB, .int (v 13), .int (v 14)])), (aL, .inl (E.2.1.1, 156, .inl (upd sl 6 ((sl 6) - 1))))]) rfl (fun H locs hG => ?_)
            refine lv_aload_n hx hb dX8_does_162 rfl (lv_at hl 1 rfl) ?_
            refine gf_X8_16 C dX8_does_163 hG 0 rfl rfl ?_
            refine lv_iload_n hx hb dX8_does_166 rfl (lv_at hl 2 rfl) ?_
            refine lv_bipush (v := 10) hx hb dX8_does_167 (by decide) ?_
            refine lv_iadd hx hb dX8_does_169 ?_
            refine z_ti (y := 10) (by decide) ?_
            refine lv_dup2_11 hx hb dX8_does_170 rfl rfl ?_
            refine z_ild C dX8_does_171 hG 1 rfl 10 (by decide) (Nat.le_of_ble_eq_true rfl) (Nat.le_of_ble_eq_true rfl) ?_
            refine lv_iconst (v := 1) hx hb dX8_does_172 (by decide) ?_
            refine lv_isub hx hb dX8_does_173 ?_
            refine z_ist C dX8_does_174 hG 1 rfl 10 (by decide) (Nat.le_of_ble_eq_true rfl) (Nat.le_of_ble_eq_true rfl) (ws' := [(m, .inr (8, [.int (v 0), .int (v 1), .ref aS, .int (v 2), .int (v 3), .int (v 4), .ref aW, .int (v 5), .ref aL, .int (v 6), .int (v 7), .int (v 8), .ref aT, .int (v 9), .int (v 10), .int (v 11), .int (v 12), .ref a1, .ref a2, .ref a3, .ref aB, .int (v 13), .int (v 14)])), (aL, .inl (E.2.1.1, 156, .inl (upd (upd sl 6 ((sl 6) - 1)) 10 (((upd sl 6 ((sl 6) - 1)) 10) - 1))))]) rfl (fun H locs hG => ?_)
            refine lv_iconst (v := 1) hx hb dX8_does_175 (by decide) ?_
            rw [hQ]
            exact z_iret C hr hlk hG dX8_does_176 rfl (by rw [o_X8_does_0_0_r, if_neg c_1, if_neg c_2, if_pos c_3, if_neg c_5, if_neg c_7]) (by rw [o_X8_does_0_0_1, if_neg c_1, if_neg c_2, if_pos c_3, if_neg c_5, if_neg c_7])
    · skip
      refine lv_aload_n hx hb dX8_does_43 rfl (lv_at hl 1 rfl) ?_
      refine gf_X8_16 C dX8_does_44 hG 0 rfl rfl ?_
      refine lv_iload_n hx hb dX8_does_47 rfl (lv_at hl 2 rfl) ?_
      refine lv_bipush (v := 6) hx hb dX8_does_48 (by decide) ?_
      refine lv_iadd hx hb dX8_does_50 ?_
      refine z_ti (y := 6) (by decide) ?_
      refine lv_iload_n hx hb dX8_does_51 rfl (lv_at hl 3 rfl) ?_
      refine lv_iadd hx hb dX8_does_52 ?_
      refine z_ti (y := 6) (by decide) ?_
      refine z_ild C dX8_does_53 hG 1 rfl 6 (by decide) (Nat.le_of_ble_eq_true rfl) (Nat.le_of_ble_eq_true rfl) ?_
      refine lv_iconst (v := 3) hx hb dX8_does_54 (by decide) ?_
      refine lv_icmp_lt (tgt := 114) hx hb dX8_does_55 (by decide) (fun c_9 => ?_) (fun c_9 => ?_)
      · skip
        refine lv_iload_n hx hb dX8_does_114 rfl (lv_at hl 4 rfl) ?_
        refine lv_iconst (v := 3) hx hb dX8_does_115 (by decide) ?_
        refine lv_icmp_ne (tgt := 177) hx hb dX8_does_116 (by decide) (fun c_10 => ?_) (fun c_10 => ?_)
        · skip
          refine lv_iload_n hx hb dX8_does_177 rfl (lv_at hl 4 rfl) ?_
          refine lv_iconst (v := 4) hx hb dX8_does_178 (by decide) ?_
          have k_3 : ∀ (y3_0 : Nat → Int32) (H : Heap) (locs : List Loc) (ls : Array Slot), (j_X8_does_0_0_3_0 v sl ac) = y3_0 → zG E zA zs.heap [(m, .inr (8, [.int (v 0), .int (v 1), .ref aS, .int (v 2), .int (v 3), .int (v 4), .ref aW, .int (v 5), .ref aL, .int (v 6), .int (v 7), .int (v 8), .ref aT, .int (v 9), .int (v 10), .int (v 11), .int (v 12), .ref a1, .ref a2, .ref a3, .ref aB, .int (v 13), .int (v 14)])), (aL, .inl (E.2.1.1, 156, .inl y3_0))] H locs → lv_has ls 5 [(4, .int (sl 2)), (0, .ref m), (1, .int 0), (2, .int 0), (3, .int ac)] → W zp l ze (zR 1 21) zs zm za zb zt zc H locs 0 0 zq (F0 zm 208 ls []) := by
            intro y3_0 H locs ls e_y3_0 hG hl
            subst e_y3_0
            refine lv_iconst (v := 0) hx hb dX8_does_208 (by decide) ?_
            rw [hQ]
            exact z_iret C hr hlk hG dX8_does_209 rfl (by rw [o_X8_does_0_0_r, if_neg c_1, if_pos c_2, if_pos c_9, if_neg c_10]) (by rw [o_X8_does_0_0_1, if_neg c_1, if_pos c_2, if_pos c_9, if_neg c_10])
          refine lv_icmp_ne (tgt := 208) hx hb dX8_does_179 (by decide) (fun c_11 => ?_) (fun c_11 => ?_)
          · skip
            exact k_3 sl _ _ _ (by rw [j_X8_does_0_0_3_0, if_neg c_11]) hG (lv_sub hl [0, 1, 2, 3, 4] rfl)
          · skip
            refine lv_aload_n hx hb dX8_does_182 rfl (lv_at hl 1 rfl) ?_
            refine gf_X8_16 C dX8_does_183 hG 0 rfl rfl ?_
            refine lv_iload_n hx hb dX8_does_186 rfl (lv_at hl 2 rfl) ?_
            refine lv_iconst (v := 4) hx hb dX8_does_187 (by decide) ?_
            refine lv_iadd hx hb dX8_does_188 ?_
            refine z_ti (y := 4) (by decide) ?_
            refine lv_iload_n hx hb dX8_does_189 rfl (lv_at hl 3 rfl) ?_
            refine lv_iadd hx hb dX8_does_190 ?_
            refine z_ti (y := 4) (by decide) ?_
            refine lv_iconst (v := 3) hx hb dX8_does_191 (by decide) ?_
            refine lv_aload_n hx hb dX8_does_192 rfl (lv_at hl 1 rfl) ?_
            refine gf_X8_16 C dX8_does_193 hG 0 rfl rfl ?_
            refine lv_iload_n hx hb dX8_does_196 rfl (lv_at hl 2 rfl) ?_
            refine lv_iconst (v := 4) hx hb dX8_does_197 (by decide) ?_
            refine lv_iadd hx hb dX8_does_198 ?_
            refine z_ti (y := 4) (by decide) ?_
            refine lv_iload_n hx hb dX8_does_199 rfl (lv_at hl 3 rfl) ?_
            refine lv_iadd hx hb dX8_does_200 ?_
            refine z_ti (y := 4) (by decide) ?_
            refine z_ild C dX8_does_201 hG 1 rfl 4 (by decide) (Nat.le_of_ble_eq_true rfl) (Nat.le_of_ble_eq_true rfl) ?_
            refine lv_iconst (v := 1) hx hb dX8_does_202 (by decide) ?_
            refine lv_iadd hx hb dX8_does_203 ?_
            refine call_X8_136 C dX8_does_204 (c_X8_smaller l E 3 ((sl 4) + 1)) hl hG [] (by decide) rfl (ads := []) rfl rfl (ws' := [(m, .inr (8, [.int (v 0), .int (v 1), .ref aS, .int (v 2), .int (v 3), .int (v 4), .ref aW, .int (v 5), .ref aL, .int (v 6), .int (v 7), .int (v 8), .ref aT, .int (v 9), .int (v 10), .int (v 11), .int (v 12), .ref a1, .ref a2, .ref a3, .ref aB, .int (v 13), .int (v 14)])), (aL, .inl (E.2.1.1, 156, .inl sl))]) rfl rfl (rest := [.int 4, .ref aL]) rfl (Nat.le_of_ble_eq_true rfl) ⟨Nat.le_of_ble_eq_true rfl, Nat.le_of_ble_eq_true rfl⟩ (fun H locs hG => ?_)
            refine z_ist C dX8_does_207 hG 1 rfl 4 (by decide) (Nat.le_of_ble_eq_true rfl) (Nat.le_of_ble_eq_true rfl) (ws' := [(m, .inr (8, [.int (v 0), .int (v 1), .ref aS, .int (v 2), .int (v 3), .int (v 4), .ref aW, .int (v 5), .ref aL, .int (v 6), .int (v 7), .int (v 8), .ref aT, .int (v 9), .int (v 10), .int (v 11), .int (v 12), .ref a1, .ref a2, .ref a3, .ref aB, .int (v 13), .int (v 14)])), (aL, .inl (E.2.1.1, 156, .inl (upd sl 4 (o_X8_smaller_r 3 ((sl 4) + 1)))))]) rfl (fun H locs hG => ?_)
            exact k_3 (upd sl 4 (o_X8_smaller_r 3 ((sl 4) + 1))) _ _ _ (by rw [j_X8_does_0_0_3_0, if_pos c_11]) hG (lv_sub hl [0, 1, 2, 3, 4] rfl)
        · skip
          refine lv_aload_n hx hb dX8_does_119 rfl (lv_at hl 1 rfl) ?_
          refine gf_X8_16 C dX8_does_120 hG 0 rfl rfl ?_
          refine lv_iload_n hx hb dX8_does_123 rfl (lv_at hl 2 rfl) ?_
          refine lv_bipush (v := 6) hx hb dX8_does_124 (by decide) ?_
          refine lv_iadd hx hb dX8_does_126 ?_
          refine z_ti (y := 6) (by decide) ?_
          refine lv_iload_n hx hb dX8_does_127 rfl (lv_at hl 3 rfl) ?_
          refine lv_iadd hx hb dX8_does_128 ?_
          refine z_ti (y := 6) (by decide) ?_
          refine z_ild C dX8_does_129 hG 1 rfl 6 (by decide) (Nat.le_of_ble_eq_true rfl) (Nat.le_of_ble_eq_true rfl) ?_
          refine lv_iconst (v := 1) hx hb dX8_does_130 (by decide) ?_
          refine lv_icmp_lt (tgt := 177) hx hb dX8_does_131 (by decide) (fun c_12 => ?_) (fun c_12 => ?_)
          · skip
            refine lv_iload_n hx hb dX8_does_177 rfl (lv_at hl 4 rfl) ?_
            refine lv_iconst (v := 4) hx hb dX8_does_178 (by decide) ?_
            have k_4 : ∀ (y4_0 : Nat → Int32) (H : Heap) (locs : List Loc) (ls : Array Slot), (j_X8_does_0_0_4_0 v sl ac) = y4_0 → zG E zA zs.heap [(m, .inr (8, [.int (v 0), .int (v 1), .ref aS, .int (v 2), .int (v 3), .int (v 4), .ref aW, .int (v 5), .ref aL, .int (v 6), .int (v 7), .int (v 8), .ref aT, .int (v 9), .int (v 10), .int (v 11), .int (v 12), .ref a1, .ref a2, .ref a3, .ref aB, .int (v 13), .int (v 14)])), (aL, .inl (E.2.1.1, 156, .inl y4_0))] H locs → lv_has ls 5 [(4, .int (sl 2)), (0, .ref m), (1, .int 0), (2, .int 0), (3, .int ac)] → W zp l ze (zR 1 21) zs zm za zb zt zc H locs 0 0 zq (F0 zm 208 ls []) := by
              intro y4_0 H locs ls e_y4_0 hG hl
              subst e_y4_0
              refine lv_iconst (v := 0) hx hb dX8_does_208 (by decide) ?_
              rw [hQ]
              exact z_iret C hr hlk hG dX8_does_209 rfl (by rw [o_X8_does_0_0_r, if_neg c_1, if_pos c_2, if_pos c_9, if_pos c_10, if_pos c_12]) (by rw [o_X8_does_0_0_1, if_neg c_1, if_pos c_2, if_pos c_9, if_pos c_10, if_pos c_12])
            refine lv_icmp_ne (tgt := 208) hx hb dX8_does_179 (by decide) (fun c_13 => ?_) (fun c_13 => ?_)
            · skip
              exact k_4 sl _ _ _ (by rw [j_X8_does_0_0_4_0, if_neg c_13]) hG (lv_sub hl [0, 1, 2, 3, 4] rfl)
            · skip
              refine lv_aload_n hx hb dX8_does_182 rfl (lv_at hl 1 rfl) ?_
              refine gf_X8_16 C dX8_does_183 hG 0 rfl rfl ?_
              refine lv_iload_n hx hb dX8_does_186 rfl (lv_at hl 2 rfl) ?_
              refine lv_iconst (v := 4) hx hb dX8_does_187 (by decide) ?_
              refine lv_iadd hx hb dX8_does_188 ?_
              refine z_ti (y := 4) (by decide) ?_
              refine lv_iload_n hx hb dX8_does_189 rfl (lv_at hl 3 rfl) ?_
              refine lv_iadd hx hb dX8_does_190 ?_
              refine z_ti (y := 4) (by decide) ?_
              refine lv_iconst (v := 3) hx hb dX8_does_191 (by decide) ?_
              refine lv_aload_n hx hb dX8_does_192 rfl (lv_at hl 1 rfl) ?_
              refine gf_X8_16 C dX8_does_193 hG 0 rfl rfl ?_
              refine lv_iload_n hx hb dX8_does_196 rfl (lv_at hl 2 rfl) ?_
              refine lv_iconst (v := 4) hx hb dX8_does_197 (by decide) ?_
              refine lv_iadd hx hb dX8_does_198 ?_
              refine z_ti (y := 4) (by decide) ?_
              refine lv_iload_n hx hb dX8_does_199 rfl (lv_at hl 3 rfl) ?_
              refine lv_iadd hx hb dX8_does_200 ?_
              refine z_ti (y := 4) (by decide) ?_
              refine z_ild C dX8_does_201 hG 1 rfl 4 (by decide) (Nat.le_of_ble_eq_true rfl) (Nat.le_of_ble_eq_true rfl) ?_
              refine lv_iconst (v := 1) hx hb dX8_does_202 (by decide) ?_
              refine lv_iadd hx hb dX8_does_203 ?_
              refine call_X8_136 C dX8_does_204 (c_X8_smaller l E 3 ((sl 4) + 1)) hl hG [] (by decide) rfl (ads := []) rfl rfl (ws' := [(m, .inr (8, [.int (v 0), .int (v 1), .ref aS, .int (v 2), .int (v 3), .int (v 4), .ref aW, .int (v 5), .ref aL, .int (v 6), .int (v 7), .int (v 8), .ref aT, .int (v 9), .int (v 10), .int (v 11), .int (v 12), .ref a1, .ref a2, .ref a3, .ref aB, .int (v 13), .int (v 14)])), (aL, .inl (E.2.1.1, 156, .inl sl))]) rfl rfl (rest := [.int 4, .ref aL]) rfl (Nat.le_of_ble_eq_true rfl) ⟨Nat.le_of_ble_eq_true rfl, Nat.le_of_ble_eq_true rfl⟩ (fun H locs hG => ?_)
              refine z_ist C dX8_does_207 hG 1 rfl 4 (by decide) (Nat.le_of_ble_eq_true rfl) (Nat.le_of_ble_eq_true rfl) (ws' := [(m, .inr (8, [.int (v 0), .int (v 1), .ref aS, .int (v 2), .int (v 3), .int (v 4), .ref aW, .int (v 5), .ref aL, .int (v 6), .int (v 7), .int (v 8), .ref aT, .int (v 9), .int (v 10), .int (v 11), .int (v 12), .ref a1, .ref a2, .ref a3, .ref aB, .int (v 13), .int (v 14)])), (aL, .inl (E.2.1.1, 156, .inl (upd sl 4 (o_X8_smaller_r 3 ((sl 4) + 1)))))]) rfl (fun H locs hG => ?_)
              exact k_4 (upd sl 4 (o_X8_smaller_r 3 ((sl 4) + 1))) _ _ _ (by rw [j_X8_does_0_0_4_0, if_pos c_13]) hG (lv_sub hl [0, 1, 2, 3, 4] rfl)
          · skip
            refine lv_aload_n hx hb dX8_does_134 rfl (lv_at hl 1 rfl) ?_
            refine gf_X8_16 C dX8_does_135 hG 0 rfl rfl ?_
            refine lv_iload_n hx hb dX8_does_138 rfl (lv_at hl 2 rfl) ?_
            refine lv_bipush (v := 10) hx hb dX8_does_139 (by decide) ?_
            refine lv_iadd hx hb dX8_does_141 ?_
            refine z_ti (y := 10) (by decide) ?_
            refine z_ild C dX8_does_142 hG 1 rfl 10 (by decide) (Nat.le_of_ble_eq_true rfl) (Nat.le_of_ble_eq_true rfl) ?_
            refine lv_iconst (v := 1) hx hb dX8_does_143 (by decide) ?_
            refine lv_icmp_lt (tgt := 177) hx hb dX8_does_144 (by decide) (fun c_14 => ?_) (fun c_14 => ?_)
            · skip
              refine lv_iload_n hx hb dX8_does_177 rfl (lv_at hl 4 rfl) ?_
              refine lv_iconst (v := 4) hx hb dX8_does_178 (by decide) ?_
              have k_5 : ∀ (y5_0 : Nat → Int32) (H : Heap) (locs : List Loc) (ls : Array Slot), (j_X8_does_0_0_5_0 v sl ac) = y5_0 → zG E zA zs.heap [(m, .inr (8, [.int (v 0), .int (v 1), .ref aS, .int (v 2), .int (v 3), .int (v 4), .ref aW, .int (v 5), .ref aL, .int (v 6), .int (v 7), .int (v 8), .ref aT, .int (v 9), .int (v 10), .int (v 11), .int (v 12), .ref a1, .ref a2, .ref a3, .ref aB, .int (v 13), .int (v 14)])), (aL, .inl (E.2.1.1, 156, .inl y5_0))] H locs → lv_has ls 5 [(4, .int (sl 2)), (0, .ref m), (1, .int 0), (2, .int 0), (3, .int ac)] → W zp l ze (zR 1 21) zs zm za zb zt zc H locs 0 0 zq (F0 zm 208 ls []) := by
                intro y5_0 H locs ls e_y5_0 hG hl
                subst e_y5_0
                refine lv_iconst (v := 0) hx hb dX8_does_208 (by decide) ?_
                rw [hQ]
                exact z_iret C hr hlk hG dX8_does_209 rfl (by rw [o_X8_does_0_0_r, if_neg c_1, if_pos c_2, if_pos c_9, if_pos c_10, if_neg c_12, if_pos c_14]) (by rw [o_X8_does_0_0_1, if_neg c_1, if_pos c_2, if_pos c_9, if_pos c_10, if_neg c_12, if_pos c_14])
              refine lv_icmp_ne (tgt := 208) hx hb dX8_does_179 (by decide) (fun c_15 => ?_) (fun c_15 => ?_)
              · skip
                exact k_5 sl _ _ _ (by rw [j_X8_does_0_0_5_0, if_neg c_15]) hG (lv_sub hl [0, 1, 2, 3, 4] rfl)
              · skip
                refine lv_aload_n hx hb dX8_does_182 rfl (lv_at hl 1 rfl) ?_
                refine gf_X8_16 C dX8_does_183 hG 0 rfl rfl ?_
                refine lv_iload_n hx hb dX8_does_186 rfl (lv_at hl 2 rfl) ?_
                refine lv_iconst (v := 4) hx hb dX8_does_187 (by decide) ?_
                refine lv_iadd hx hb dX8_does_188 ?_
                refine z_ti (y := 4) (by decide) ?_
                refine lv_iload_n hx hb dX8_does_189 rfl (lv_at hl 3 rfl) ?_
                refine lv_iadd hx hb dX8_does_190 ?_
                refine z_ti (y := 4) (by decide) ?_
                refine lv_iconst (v := 3) hx hb dX8_does_191 (by decide) ?_
                refine lv_aload_n hx hb dX8_does_192 rfl (lv_at hl 1 rfl) ?_
                refine gf_X8_16 C dX8_does_193 hG 0 rfl rfl ?_
                refine lv_iload_n hx hb dX8_does_196 rfl (lv_at hl 2 rfl) ?_
                refine lv_iconst (v := 4) hx hb dX8_does_197 (by decide) ?_
                refine lv_iadd hx hb dX8_does_198 ?_
                refine z_ti (y := 4) (by decide) ?_
                refine lv_iload_n hx hb dX8_does_199 rfl (lv_at hl 3 rfl) ?_
                refine lv_iadd hx hb dX8_does_200 ?_
                refine z_ti (y := 4) (by decide) ?_
                refine z_ild C dX8_does_201 hG 1 rfl 4 (by decide) (Nat.le_of_ble_eq_true rfl) (Nat.le_of_ble_eq_true rfl) ?_
                refine lv_iconst (v := 1) hx hb dX8_does_202 (by decide) ?_
                refine lv_iadd hx hb dX8_does_203 ?_
                refine call_X8_136 C dX8_does_204 (c_X8_smaller l E 3 ((sl 4) + 1)) hl hG [] (by decide) rfl (ads := []) rfl rfl (ws' := [(m, .inr (8, [.int (v 0), .int (v 1), .ref aS, .int (v 2), .int (v 3), .int (v 4), .ref aW, .int (v 5), .ref aL, .int (v 6), .int (v 7), .int (v 8), .ref aT, .int (v 9), .int (v 10), .int (v 11), .int (v 12), .ref a1, .ref a2, .ref a3, .ref aB, .int (v 13), .int (v 14)])), (aL, .inl (E.2.1.1, 156, .inl sl))]) rfl rfl (rest := [.int 4, .ref aL]) rfl (Nat.le_of_ble_eq_true rfl) ⟨Nat.le_of_ble_eq_true rfl, Nat.le_of_ble_eq_true rfl⟩ (fun H locs hG => ?_)
                refine z_ist C dX8_does_207 hG 1 rfl 4 (by decide) (Nat.le_of_ble_eq_true rfl) (Nat.le_of_ble_eq_true rfl) (ws' := [(m, .inr (8, [.int (v 0), .int (v 1), .ref aS, .int (v 2), .int (v 3), .int (v 4), .ref aW, .int (v 5), .ref aL, .int (v 6), .int (v 7), .int (v 8), .ref aT, .int (v 9), .int (v 10), .int (v 11), .int (v 12), .ref a1, .ref a2, .ref a3, .ref aB, .int (v 13), .int (v 14)])), (aL, .inl (E.2.1.1, 156, .inl (upd sl 4 (o_X8_smaller_r 3 ((sl 4) + 1)))))]) rfl (fun H locs hG => ?_)
                exact k_5 (upd sl 4 (o_X8_smaller_r 3 ((sl 4) + 1))) _ _ _ (by rw [j_X8_does_0_0_5_0, if_pos c_15]) hG (lv_sub hl [0, 1, 2, 3, 4] rfl)
            · skip
              refine lv_aload_n hx hb dX8_does_147 rfl (lv_at hl 1 rfl) ?_
              refine gf_X8_16 C dX8_does_148 hG 0 rfl rfl ?_
              refine lv_iload_n hx hb dX8_does_151 rfl (lv_at hl 2 rfl) ?_
              refine lv_bipush (v := 6) hx hb dX8_does_152 (by decide) ?_
              refine lv_iadd hx hb dX8_does_154 ?_
              refine z_ti (y := 6) (by decide) ?_
              refine lv_iload_n hx hb dX8_does_155 rfl (lv_at hl 3 rfl) ?_
              refine lv_iadd hx hb dX8_does_156 ?_
              refine z_ti (y := 6) (by decide) ?_
              refine lv_dup2_11 hx hb dX8_does_157 rfl rfl ?_
              refine z_ild C dX8_does_158 hG 1 rfl 6 (by decide) (Nat.le_of_ble_eq_true rfl) (Nat.le_of_ble_eq_true rfl) ?_
              refine lv_iconst (v := 1) hx hb dX8_does_159 (by decide) ?_
              refine lv_isub hx hb dX8_does_160 ?_
              refine z_ist C dX8_does_161 hG 1 rfl 6 (by decide) (Nat.le_of_ble_eq_true rfl) (Nat.le_of_ble_eq_true rfl) (ws' := [(m, .inr (8, [.int (v 0), .int (v 1), .ref aS, .int (v 2), .int (v 3), .int (v 4), .ref aW, .int (v 5), .ref aL, .int (v 6), .int (v 7), .int (v 8), .ref aT, .int (v 9), .int (v 10), .int (v 11), .int (v 12), .ref a1, .ref a2, .ref a3, .ref aB, .int (v 13), .int (v 14)])), (aL, .inl (E.2.1.1, 156, .inl (upd sl 6 ((sl 6) - 1))))]) rfl (fun H locs hG => ?_)
              refine lv_aload_n hx hb dX8_does_162 rfl (lv_at hl 1 rfl) ?_
              refine gf_X8_16 C dX8_does_163 hG 0 rfl rfl ?_
              refine lv_iload_n hx hb dX8_does_166 rfl (lv_at hl 2 rfl) ?_
              refine lv_bipush (v := 10) hx hb dX8_does_167 (by decide) ?_
              refine lv_iadd hx hb dX8_does_169 ?_
              refine z_ti (y := 10) (by decide) ?_
              refine lv_dup2_11 hx hb dX8_does_170 rfl rfl ?_
              refine z_ild C dX8_does_171 hG 1 rfl 10 (by decide) (Nat.le_of_ble_eq_true rfl) (Nat.le_of_ble_eq_true rfl) ?_
              refine lv_iconst (v := 1) hx hb dX8_does_172 (by decide) ?_
              refine lv_isub hx hb dX8_does_173 ?_
              refine z_ist C dX8_does_174 hG 1 rfl 10 (by decide) (Nat.le_of_ble_eq_true rfl) (Nat.le_of_ble_eq_true rfl) (ws' := [(m, .inr (8, [.int (v 0), .int (v 1), .ref aS, .int (v 2), .int (v 3), .int (v 4), .ref aW, .int (v 5), .ref aL, .int (v 6), .int (v 7), .int (v 8), .ref aT, .int (v 9), .int (v 10), .int (v 11), .int (v 12), .ref a1, .ref a2, .ref a3, .ref aB, .int (v 13), .int (v 14)])), (aL, .inl (E.2.1.1, 156, .inl (upd (upd sl 6 ((sl 6) - 1)) 10 (((upd sl 6 ((sl 6) - 1)) 10) - 1))))]) rfl (fun H locs hG => ?_)
              refine lv_iconst (v := 1) hx hb dX8_does_175 (by decide) ?_
              rw [hQ]
              exact z_iret C hr hlk hG dX8_does_176 rfl (by rw [o_X8_does_0_0_r, if_neg c_1, if_pos c_2, if_pos c_9, if_pos c_10, if_neg c_12, if_neg c_14]) (by rw [o_X8_does_0_0_1, if_neg c_1, if_pos c_2, if_pos c_9, if_pos c_10, if_neg c_12, if_neg c_14])
      · skip
        refine lv_aload_n hx hb dX8_does_58 rfl (lv_at hl 1 rfl) ?_
        refine gf_X8_16 C dX8_does_59 hG 0 rfl rfl ?_
        refine lv_iload_n hx hb dX8_does_62 rfl (lv_at hl 2 rfl) ?_
        refine lv_bipush (v := 6) hx hb dX8_does_63 (by decide) ?_
        refine lv_iadd hx hb dX8_does_65 ?_
        refine z_ti (y := 6) (by decide) ?_
        refine lv_iload_n hx hb dX8_does_66 rfl (lv_at hl 3 rfl) ?_
        refine lv_iadd hx hb dX8_does_67 ?_
        refine z_ti (y := 6) (by decide) ?_
        refine lv_dup2_11 hx hb dX8_does_68 rfl rfl ?_
        refine z_ild C dX8_does_69 hG 1 rfl 6 (by decide) (Nat.le_of_ble_eq_true rfl) (Nat.le_of_ble_eq_true rfl) ?_
        refine lv_iconst (v := 3) hx hb dX8_does_70 (by decide) ?_
        refine lv_isub hx hb dX8_does_71 ?_
        refine z_ist C dX8_does_72 hG 1 rfl 6 (by decide) (Nat.le_of_ble_eq_true rfl) (Nat.le_of_ble_eq_true rfl) (ws' := [(m, .inr (8, [.int (v 0), .int (v 1), .ref aS, .int (v 2), .int (v 3), .int (v 4), .ref aW, .int (v 5), .ref aL, .int (v 6), .int (v 7), .int (v 8), .ref aT, .int (v 9), .int (v 10), .int (v 11), .int (v 12), .ref a1, .ref a2, .ref a3, .ref aB, .int (v 13), .int (v 14)])), (aL, .inl (E.2.1.1, 156, .inl (upd sl 6 ((sl 6) - 3))))]) rfl (fun H locs hG => ?_)
        refine lv_aload_n hx hb dX8_does_73 rfl (lv_at hl 1 rfl) ?_
        refine gf_X8_16 C dX8_does_74 hG 0 rfl rfl ?_
        refine lv_iload_n hx hb dX8_does_77 rfl (lv_at hl 2 rfl) ?_
        refine lv_iconst (v := 2) hx hb dX8_does_78 (by decide) ?_
        refine lv_iadd hx hb dX8_does_79 ?_
        refine z_ti (y := 2) (by decide) ?_
        refine lv_iload_n hx hb dX8_does_80 rfl (lv_at hl 3 rfl) ?_
        refine lv_iadd hx hb dX8_does_81 ?_
        refine z_ti (y := 2) (by decide) ?_
        refine lv_iload hx hb dX8_does_82 (lv_at hl 0 rfl) ?_
        refine lv_iconst (v := 3) hx hb dX8_does_84 (by decide) ?_
        have k_6 : ∀ (y6_0 : Int32) (H : Heap) (locs : List Loc) (ls : Array Slot), (j_X8_does_0_0_6_0 v sl ac) = y6_0 → zG E zA zs.heap [(m, .inr (8, [.int (v 0), .int (v 1), .ref aS, .int (v 2), .int (v 3), .int (v 4), .ref aW, .int (v 5), .ref aL, .int (v 6), .int (v 7), .int (v 8), .ref aT, .int (v 9), .int (v 10), .int (v 11), .int (v 12), .ref a1, .ref a2, .ref a3, .ref aB, .int (v 13), .int (v 14)])), (aL, .inl (E.2.1.1, 156, .inl (upd sl 6 ((sl 6) - 3))))] H locs → lv_has ls 5 [(4, .int (sl 2)), (0, .ref m), (1, .int 0), (2, .int 0), (3, .int ac)] → W zp l ze (zR 1 21) zs zm za zb zt zc H locs 0 0 zq (F0 zm 101 ls [.int y6_0, .int 2, .ref aL]) := by
          intro y6_0 H locs ls e_y6_0 hG hl
          subst e_y6_0
          refine z_ist C dX8_does_101 hG 1 rfl 2 (by decide) (Nat.le_of_ble_eq_true rfl) (Nat.le_of_ble_eq_true rfl) (ws' := [(m, .inr (8, [.int (v 0), .int (v 1), .ref aS, .int (v 2), .int (v 3), .int (v 4), .ref aW, .int (v 5), .ref aL, .int (v 6), .int (v 7), .int (v 8), .ref aT, .int (v 9), .int (v 10), .int (v 11), .int (v 12), .ref a1, .ref a2, .ref a3, .ref aB, .int (v 13), .int (v 14)])), (aL, .inl (E.2.1.1, 156, .inl (upd (upd sl 6 ((sl 6) - 3)) 2 (j_X8_does_0_0_6_0 v sl ac))))]) rfl (fun H locs hG => ?_)
          refine lv_iload hx hb dX8_does_102 (lv_at hl 0 rfl) ?_
          refine lv_iconst (v := 3) hx hb dX8_does_104 (by decide) ?_
          refine lv_icmp_ge (tgt := 112) hx hb dX8_does_105 (by decide) (fun c_17 => ?_) (fun c_17 => ?_)
          · skip
            refine lv_iconst (v := 2) hx hb dX8_does_112 (by decide) ?_
            rw [hQ]
            exact z_iret C hr hlk hG dX8_does_113 rfl (by rw [o_X8_does_0_0_r, if_neg c_1, if_pos c_2, if_neg c_9, if_pos c_17]) (by rw [o_X8_does_0_0_1, if_neg c_1, if_pos c_2, if_neg c_9])
          · skip
            refine lv_iconst (v := 0) hx hb dX8_does_108 (by decide) ?_
            refine lv_goto (tgt := 113) hx hb dX8_does_109 (by decide) ?_
            rw [hQ]
            exact z_iret C hr hlk hG dX8_does_113 rfl (by rw [o_X8_does_0_0_r, if_neg c_1, if_pos c_2, if_neg c_9, if_neg c_17]) (by rw [o_X8_does_0_0_1, if_neg c_1, if_pos c_2, if_neg c_9])
        refine lv_icmp_ge (tgt := 99) hx hb dX8_does_85 (by decide) (fun c_16 => ?_) (fun c_16 => ?_)
        · skip
          refine lv_iload hx hb dX8_does_99 (lv_at hl 0 rfl) ?_
          exact k_6 (sl 2) _ _ _ (by rw [j_X8_does_0_0_6_0, if_pos c_16]) hG (lv_sub hl [0, 1, 2, 3, 4] rfl)
        · skip
          refine lv_iconst (v := 0) hx hb dX8_does_88 (by decide) ?_
          refine lv_iload hx hb dX8_does_89 (lv_at hl 0 rfl) ?_
          refine lv_iconst (v := 1) hx hb dX8_does_91 (by decide) ?_
          refine lv_isub hx hb dX8_does_92 ?_
          refine call_X8_133 C dX8_does_93 (c_X8_larger l E 0 ((sl 2) - 1)) hl hG [] (by decide) rfl (ads := []) rfl rfl (ws' := [(m, .inr (8, [.int (v 0), .int (v 1), .ref aS, .int (v 2), .int (v 3), .int (v 4), .ref aW, .int (v 5), .ref aL, .int (v 6), .int (v 7), .int (v 8), .ref aT, .int (v 9), .int (v 10), .int (v 11), .int (v 12), .ref a1, .ref a2, .ref a3, .ref aB, .int (v 13), .int (v 14)])), (aL, .inl (E.2.1.1, 156, .inl (upd sl 6 ((sl 6) - 3))))]) rfl rfl (rest := [.int 2, .ref aL]) rfl (Nat.le_of_ble_eq_true rfl) ⟨Nat.le_of_ble_eq_true rfl, Nat.le_of_ble_eq_true rfl⟩ (fun H locs hG => ?_)
          refine lv_goto (tgt := 101) hx hb dX8_does_96 (by decide) ?_
          exact k_6 (o_X8_larger_r 0 ((sl 2) - 1)) _ _ _ (by rw [j_X8_does_0_0_6_0, if_neg c_16]) hG (lv_sub hl [0, 1, 2, 3, 4] rfl)
  · skip
    refine lv_aload_n hx hb dX8_does_17 rfl (lv_at hl 1 rfl) ?_
    refine gf_X8_16 C dX8_does_18 hG 0 rfl rfl ?_
    refine lv_iload_n hx hb dX8_does_21 rfl (lv_at hl 2 rfl) ?_
    refine lv_iconst (v := 2) hx hb dX8_does_22 (by decide) ?_
    refine lv_iadd hx hb dX8_does_23 ?_
    refine z_ti (y := 2) (by decide) ?_
    refine lv_iload_n hx hb dX8_does_24 rfl (lv_at hl 3 rfl) ?_
    refine lv_iadd hx hb dX8_does_25 ?_
    refine z_ti (y := 2) (by decide) ?_
    refine lv_iconst (v := 0) hx hb dX8_does_26 (by decide) ?_
    refine lv_iload hx hb dX8_does_27 (lv_at hl 0 rfl) ?_
    refine lv_iconst (v := 2) hx hb dX8_does_29 (by decide) ?_
    refine lv_isub hx hb dX8_does_30 ?_
    refine call_X8_133 C dX8_does_31 (c_X8_larger l E 0 ((sl 2) - 2)) hl hG [] (by decide) rfl (ads := []) rfl rfl (ws' := [(m, .inr (8, [.int (v 0), .int (v 1), .ref aS, .int (v 2), .int (v 3), .int (v 4), .ref aW, .int (v 5), .ref aL, .int (v 6), .int (v 7), .int (v 8), .ref aT, .int (v 9), .int (v 10), .int (v 11), .int (v 12), .ref a1, .ref a2, .ref a3, .ref aB, .int (v 13), .int (v 14)])), (aL, .inl (E.2.1.1, 156, .inl sl))]) rfl rfl (rest := [.int 2, .ref aL]) rfl (Nat.le_of_ble_eq_true rfl) ⟨Nat.le_of_ble_eq_true rfl, Nat.le_of_ble_eq_true rfl⟩ (fun H locs hG => ?_)
    refine z_ist C dX8_does_34 hG 1 rfl 2 (by decide) (Nat.le_of_ble_eq_true rfl) (Nat.le_of_ble_eq_true rfl) (ws' := [(m, .inr (8, [.int (v 0), .int (v 1), .ref aS, .int (v 2), .int (v 3), .int (v 4), .ref aW, .int (v 5), .ref aL, .int (v 6), .int (v 7), .int (v 8), .ref aT, .int (v 9), .int (v 10), .int (v 11), .int (v 12), .ref a1, .ref a2, .ref a3, .ref aB, .int (v 13), .int (v 14)])), (aL, .inl (E.2.1.1, 156, .inl (upd sl 2 (o_X8_larger_r 0 ((sl 2) - 2)))))]) rfl (fun H locs hG => ?_)
    refine lv_goto (tgt := 208) hx hb dX8_does_35 (by decide) ?_
    refine lv_iconst (v := 0) hx hb dX8_does_208 (by decide) ?_
    rw [hQ]
    exact z_iret C hr hlk hG dX8_does_209 rfl (by rw [o_X8_does_0_0_r, if_pos c_1]) (by rw [o_X8_does_0_0_1, if_pos c_1])
def j_X8_rises_0_0_0_0 (v : Nat → Int32) (sl : Nat → Int32) (more : Int32) (dr : Int32) : Int32 := (if (o_X8_bound_r (sl 0)) < (sl 2) then 1 else (if dr = 0 then 0 else (if more = 1 then 0 else 1)))
def j_X8_rises_0_0_1_0 (v : Nat → Int32) (sl : Nat → Int32) (more : Int32) (dr : Int32) : Int32 := (if (j_X8_rises_0_0_0_0 v sl more dr) = 0 then (o_X8_larger_r 0 (o_X8_smaller_r (o_X8_bound_r (sl 0)) (((sl 2) + (o_X8_grows_r (sl 0) ((sl 11) - (sl 11) / 12 * 12))) + more))) else (sl 2))
def o_X8_rises_0_0_1 (v : Nat → Int32) (sl : Nat → Int32) (more : Int32) (dr : Int32) : Nat → Int32 := (upd sl 2 (j_X8_rises_0_0_1_0 v sl more dr))
set_option maxRecDepth 100000 in
set_option maxHeartbeats 4000000 in
theorem c_X8_rises_0_0 (l : Launch) (E : zE) (v : Nat → Int32) (sl : Nat → Int32) (more : Int32) (dr : Int32) (m aS aW aL aT a1 a2 a3 aB : Nat) : HM l E yX8_rises cX8_rises 9 none 1 22 [.ref m, .int 0, .int 0, .int more, .int dr] [(m, .inr (8, [.int (v 0), .int (v 1), .ref aS, .int (v 2), .int (v 3), .int (v 4), .ref aW, .int (v 5), .ref aL, .int (v 6), .int (v 7), .int (v 8), .ref aT, .int (v 9), .int (v 10), .int (v 11), .int (v 12), .ref a1, .ref a2, .ref a3, .ref aB, .int (v 13), .int (v 14)])), (aL, .inl (E.2.1.1, 156, .inl sl))] none [(m, .inr (8, [.int (v 0), .int (v 1), .ref aS, .int (v 2), .int (v 3), .int (v 4), .ref aW, .int (v 5), .ref aL, .int (v 6), .int (v 7), .int (v 8), .ref aT, .int (v 9), .int (v 10), .int (v 11), .int (v 12), .ref a1, .ref a2, .ref a3, .ref aB, .int (v 13), .int (v 14)])), (aL, .inl (E.2.1.1, 156, .inl (o_X8_rises_0_0_1 v sl more dr)))] := by
  refine HM.of (own := RX8) (plainFor_of_name (by decide)) rfl (Nat.le_of_ble_eq_true rfl) ?_
  intro zp ze zs zm za zb zt zc zA ls H locs zq C hr hlk hG hl hQ
  have hx := C.1.1
  have hb := C.1.2.1
  replace hl : lv_has ls 9 [(0, .ref m), (1, .int 0), (2, .int 0), (3, .int more), (4, .int dr)] := hl
  refine lv_aload_n hx hb dX8_rises_0 rfl (lv_at hl 0 rfl) ?_
  refine gf_X8_16 C dX8_rises_1 hG 0 rfl rfl ?_
  refine lv_iload_n hx hb dX8_rises_4 rfl (lv_at hl 1 rfl) ?_
  refine lv_iload_n hx hb dX8_rises_5 rfl (lv_at hl 2 rfl) ?_
  refine lv_iadd hx hb dX8_rises_6 ?_
  refine z_ti (y := 0) (by decide) ?_
  refine z_ild C dX8_rises_7 hG 1 rfl 0 (by decide) (Nat.le_of_ble_eq_true rfl) (Nat.le_of_ble_eq_true rfl) ?_
  refine lv_istore (lv' := [(5, .int (sl 0)), (0, .ref m), (1, .int 0), (2, .int 0), (3, .int more), (4, .int dr)]) hx hb dX8_rises_8 hl (by decide) rfl (fun ls hl => ?_)
  refine lv_aload_n hx hb dX8_rises_10 rfl (lv_at hl 1 rfl) ?_
  refine gf_X8_16 C dX8_rises_11 hG 0 rfl rfl ?_
  refine lv_iload_n hx hb dX8_rises_14 rfl (lv_at hl 2 rfl) ?_
  refine lv_iconst (v := 2) hx hb dX8_rises_15 (by decide) ?_
  refine lv_iadd hx hb dX8_rises_16 ?_
  refine z_ti (y := 2) (by decide) ?_
  refine lv_iload_n hx hb dX8_rises_17 rfl (lv_at hl 3 rfl) ?_
  refine lv_iadd hx hb dX8_rises_18 ?_
  refine z_ti (y := 2) (by decide) ?_
  refine z_ild C dX8_rises_19 hG 1 rfl 2 (by decide) (Nat.le_of_ble_eq_true rfl) (Nat.le_of_ble_eq_true rfl) ?_
  refine lv_istore (lv' := [(6, .int (sl 2)), (5, .int (sl 0)), (0, .ref m), (1, .int 0), (2, .int 0), (3, .int more), (4, .int dr)]) hx hb dX8_rises_20 hl (by decide) rfl (fun ls hl => ?_)
  refine lv_iload hx hb dX8_rises_22 (lv_at hl 0 rfl) ?_
  refine lv_iload hx hb dX8_rises_24 (lv_at hl 1 rfl) ?_
  refine call_X8_139 C dX8_rises_26 (c_X8_bound l E (sl 0)) hl hG [] (by decide) rfl (ads := []) rfl rfl (ws' := [(m, .inr (8, [.int (v 0), .int (v 1), .ref aS, .int (v 2), .int (v 3), .int (v 4), .ref aW, .int (v 5), .ref aL, .int (v 6), .int (v 7), .int (v 8), .ref aT, .int (v 9), .int (v 10), .int (v 11), .int (v 12), .ref a1, .ref a2, .ref a3, .ref aB, .int (v 13), .int (v 14)])), (aL, .inl (E.2.1.1, 156, .inl sl))]) rfl rfl (rest := [.int (sl 2)]) rfl (Nat.le_of_ble_eq_true rfl) ⟨Nat.le_of_ble_eq_true rfl, Nat.le_of_ble_eq_true rfl⟩ (fun H locs hG => ?_)
  have k_0 : ∀ (y0_0 : Int32) (H : Heap) (locs : List Loc) (ls : Array Slot), (j_X8_rises_0_0_0_0 v sl more dr) = y0_0 → zG E zA zs.heap [(m, .inr (8, [.int (v 0), .int (v 1), .ref aS, .int (v 2), .int (v 3), .int (v 4), .ref aW, .int (v 5), .ref aL, .int (v 6), .int (v 7), .int (v 8), .ref aT, .int (v 9), .int (v 10), .int (v 11), .int (v 12), .ref a1, .ref a2, .ref a3, .ref aB, .int (v 13), .int (v 14)])), (aL, .inl (E.2.1.1, 156, .inl sl))] H locs → lv_has ls 9 [(6, .int (sl 2)), (5, .int (sl 0)), (0, .ref m), (1, .int 0), (2, .int 0), (3, .int more), (4, .int dr)] → W zp l ze (zR 1 22) zs zm za zb zt zc H locs 0 0 zq (F0 zm 47 ls [.int y0_0]) := by
    intro y0_0 H locs ls e_y0_0 hG hl
    subst e_y0_0
    refine lv_istore (lv' := [(7, .int (j_X8_rises_0_0_0_0 v sl more dr)), (6, .int (sl 2)), (5, .int (sl 0)), (0, .ref m), (1, .int 0), (2, .int 0), (3, .int more), (4, .int dr)]) hx hb dX8_rises_47 hl (by decide) rfl (fun ls hl => ?_)
    refine lv_iload hx hb dX8_rises_49 (lv_at hl 1 rfl) ?_
    refine lv_iload hx hb dX8_rises_51 (lv_at hl 2 rfl) ?_
    refine lv_aload_n hx hb dX8_rises_53 rfl (lv_at hl 3 rfl) ?_
    refine gf_X8_16 C dX8_rises_54 hG 0 rfl rfl ?_
    refine lv_iload_n hx hb dX8_rises_57 rfl (lv_at hl 4 rfl) ?_
    refine lv_bipush (v := 11) hx hb dX8_rises_58 (by decide) ?_
    refine lv_iadd hx hb dX8_rises_60 ?_
    refine z_ti (y := 11) (by decide) ?_
    refine z_ild C dX8_rises_61 hG 1 rfl 11 (by decide) (Nat.le_of_ble_eq_true rfl) (Nat.le_of_ble_eq_true rfl) ?_
    refine lv_bipush (v := 12) hx hb dX8_rises_62 (by decide) ?_
    refine lv_irem hx hb dX8_rises_64 (by decide) ?_
    refine call_X8_142 C dX8_rises_65 (c_X8_grows l E (sl 0) ((sl 11) - (sl 11) / 12 * 12)) hl hG [] (by decide) rfl (ads := []) rfl rfl (ws' := [(m, .inr (8, [.int (v 0), .int (v 1), .ref aS, .int (v 2), .int (v 3), .int (v 4), .ref aW, .int (v 5), .ref aL, .int (v 6), .int (v 7), .int (v 8), .ref aT, .int (v 9), .int (v 10), .int (v 11), .int (v 12), .ref a1, .ref a2, .ref a3, .ref aB, .int (v 13), .int (v 14)])), (aL, .inl (E.2.1.1, 156, .inl sl))]) rfl rfl (rest := [.int (sl 2)]) rfl (Nat.le_of_ble_eq_true rfl) ⟨Nat.le_of_ble_eq_true rfl, Nat.le_of_ble_eq_true rfl⟩ (fun H locs hG => ?_)
    refine lv_iadd hx hb dX8_rises_68 ?_
    refine lv_iload_n hx hb dX8_rises_69 rfl (lv_at hl 6 rfl) ?_
    refine lv_iadd hx hb dX8_rises_70 ?_
    refine lv_istore (lv' := [(8, .int (((sl 2) + (o_X8_grows_r (sl 0) ((sl 11) - (sl 11) / 12 * 12))) + more)), (7, .int (j_X8_rises_0_0_0_0 v sl more dr)), (6, .int (sl 2)), (5, .int (sl 0)), (0, .ref m), (1, .int 0), (2, .int 0), (3, .int more), (4, .int dr)]) hx hb dX8_rises_71 hl (by decide) rfl (fun ls hl => ?_)
    refine lv_aload_n hx hb dX8_rises_73 rfl (lv_at hl 4 rfl) ?_
    refine gf_X8_16 C dX8_rises_74 hG 0 rfl rfl ?_
    refine lv_iload_n hx hb dX8_rises_77 rfl (lv_at hl 5 rfl) ?_
    refine lv_iconst (v := 2) hx hb dX8_rises_78 (by decide) ?_
    refine lv_iadd hx hb dX8_rises_79 ?_
    refine z_ti (y := 2) (by decide) ?_
    refine lv_iload_n hx hb dX8_rises_80 rfl (lv_at hl 6 rfl) ?_
    refine lv_iadd hx hb dX8_rises_81 ?_
    refine z_ti (y := 2) (by decide) ?_
    refine lv_iload hx hb dX8_rises_82 (lv_at hl 1 rfl) ?_
    have k_1 : ∀ (y1_0 : Int32) (H : Heap) (locs : List Loc) (ls : Array Slot), (j_X8_rises_0_0_1_0 v sl more dr) = y1_0 → zG E zA zs.heap [(m, .inr (8, [.int (v 0), .int (v 1), .ref aS, .int (v 2), .int (v 3), .int (v 4), .ref aW, .int (v 5), .ref aL, .int (v 6), .int (v 7), .int (v 8), .ref aT, .int (v 9), .int (v 10), .int (v 11), .int (v 12), .ref a1, .ref a2, .ref a3, .ref aB, .int (v 13), .int (v 14)])), (aL, .inl (E.2.1.1, 156, .inl sl))] H locs → lv_has ls 9 [(8, .int (((sl 2) + (o_X8_grows_r (sl 0) ((sl 11) - (sl 11) / 12 * 12))) + more)), (7, .int (j_X8_rises_0_0_0_0 v sl more dr)), (6, .int (sl 2)), (5, .int (sl 0)), (0, .ref m), (1, .int 0), (2, .int 0), (3, .int more), (4, .int dr)] → W zp l ze (zR 1 22) zs zm za zb zt zc H locs 0 0 zq (F0 zm 106 ls [.int y1_0, .int 2, .ref aL]) := by
      intro y1_0 H locs ls e_y1_0 hG hl
      subst e_y1_0
      refine z_ist C dX8_rises_106 hG 1 rfl 2 (by decide) (Nat.le_of_ble_eq_true rfl) (Nat.le_of_ble_eq_true rfl) (ws' := [(m, .inr (8, [.int (v 0), .int (v 1), .ref aS, .int (v 2), .int (v 3), .int (v 4), .ref aW, .int (v 5), .ref aL, .int (v 6), .int (v 7), .int (v 8), .ref aT, .int (v 9), .int (v 10), .int (v 11), .int (v 12), .ref a1, .ref a2, .ref a3, .ref aB, .int (v 13), .int (v 14)])), (aL, .inl (E.2.1.1, 156, .inl (upd sl 2 (j_X8_rises_0_0_1_0 v sl more dr))))]) rfl (fun H locs hG => ?_)
      rw [hQ]
      exact z_vret C hr hlk hG dX8_rises_107 rfl (by rw [o_X8_rises_0_0_1])
    refine lv_if_eq (tgt := 92) hx hb dX8_rises_84 (by decide) (fun c_4 => ?_) (fun c_4 => ?_)
    · skip
      refine lv_iconst (v := 0) hx hb dX8_rises_92 (by decide) ?_
      refine lv_iload hx hb dX8_rises_93 (lv_at hl 3 rfl) ?_
      refine call_X8_139 C dX8_rises_95 (c_X8_bound l E (sl 0)) hl hG [] (by decide) rfl (ads := []) rfl rfl (ws' := [(m, .inr (8, [.int (v 0), .int (v 1), .ref aS, .int (v 2), .int (v 3), .int (v 4), .ref aW, .int (v 5), .ref aL, .int (v 6), .int (v 7), .int (v 8), .ref aT, .int (v 9), .int (v 10), .int (v 11), .int (v 12), .ref a1, .ref a2, .ref a3, .ref aB, .int (v 13), .int (v 14)])), (aL, .inl (E.2.1.1, 156, .inl sl))]) rfl rfl (rest := [.int 0, .int 2, .ref aL]) rfl (Nat.le_of_ble_eq_true rfl) ⟨Nat.le_of_ble_eq_true rfl, Nat.le_of_ble_eq_true rfl⟩ (fun H locs hG => ?_)
      refine lv_iload hx hb dX8_rises_98 (lv_at hl 0 rfl) ?_
      refine call_X8_136 C dX8_rises_100 (c_X8_smaller l E (o_X8_bound_r (sl 0)) (((sl 2) + (o_X8_grows_r (sl 0) ((sl 11) - (sl 11) / 12 * 12))) + more)) hl hG [] (by decide) rfl (ads := []) rfl rfl (ws' := [(m, .inr (8, [.int (v 0), .int (v 1), .ref aS, .int (v 2), .int (v 3), .int (v 4), .ref aW, .int (v 5), .ref aL, .int (v 6), .int (v 7), .int (v 8), .ref aT, .int (v 9), .int (v 10), .int (v 11), .int (v 12), .ref a1, .ref a2, .ref a3, .ref aB, .int (v 13), .int (v 14)])), (aL, .inl (E.2.1.1, 156, .inl sl))]) rfl rfl (rest := [.int 0, .int 2, .ref aL]) rfl (Nat.le_of_ble_eq_true rfl) ⟨Nat.le_of_ble_eq_true rfl, Nat.le_of_ble_eq_true rfl⟩ (fun H locs hG => ?_)
      refine call_X8_133 C dX8_rises_103 (c_X8_larger l E 0 (o_X8_smaller_r (o_X8_bound_r (sl 0)) (((sl 2) + (o_X8_grows_r (sl 0) ((sl 11) - (sl 11) / 12 * 12))) + more))) hl hG [] (by decide) rfl (ads := []) rfl rfl (ws' := [(m, .inr (8, [.int (v 0), .int (v 1), .ref aS, .int (v 2), .int (v 3), .int (v 4), .ref aW, .int (v 5), .ref aL, .int (v 6), .int (v 7), .int (v 8), .ref aT, .int (v 9), .int (v 10), .int (v 11), .int (v 12), .ref a1, .ref a2, .ref a3, .ref aB, .int (v 13), .int (v 14)])), (aL, .inl (E.2.1.1, 156, .inl sl))]) rfl rfl (rest := [.int 2, .ref aL]) rfl (Nat.le_of_ble_eq_true rfl) ⟨Nat.le_of_ble_eq_true rfl, Nat.le_of_ble_eq_true rfl⟩ (fun H locs hG => ?_)
      exact k_1 (o_X8_larger_r 0 (o_X8_smaller_r (o_X8_bound_r (sl 0)) (((sl 2) + (o_X8_grows_r (sl 0) ((sl 11) - (sl 11) / 12 * 12))) + more))) _ _ _ (by rw [j_X8_rises_0_0_1_0, if_pos c_4]) hG (lv_sub hl [0, 1, 2, 3, 4, 5, 6, 7, 8] rfl)
    · skip
      refine lv_iload hx hb dX8_rises_87 (lv_at hl 2 rfl) ?_
      refine lv_goto (tgt := 106) hx hb dX8_rises_89 (by decide) ?_
      exact k_1 (sl 2) _ _ _ (by rw [j_X8_rises_0_0_1_0, if_neg c_4]) hG (lv_sub hl [0, 1, 2, 3, 4, 5, 6, 7, 8] rfl)
  refine lv_icmp_gt (tgt := 42) hx hb dX8_rises_29 (by decide) (fun c_1 => ?_) (fun c_1 => ?_)
  · skip
    refine lv_iconst (v := 1) hx hb dX8_rises_42 (by decide) ?_
    refine lv_goto (tgt := 47) hx hb dX8_rises_43 (by decide) ?_
    exact k_0 1 _ _ _ (by rw [j_X8_rises_0_0_0_0, if_pos c_1]) hG (lv_sub hl [0, 1, 2, 3, 4, 5, 6] rfl)
  · skip
    refine lv_iload hx hb dX8_rises_32 (lv_at hl 6 rfl) ?_
    refine lv_if_eq (tgt := 46) hx hb dX8_rises_34 (by decide) (fun c_5 => ?_) (fun c_5 => ?_)
    · skip
      refine lv_iconst (v := 0) hx hb dX8_rises_46 (by decide) ?_
      exact k_0 0 _ _ _ (by rw [j_X8_rises_0_0_0_0, if_neg c_1, if_pos c_5]) hG (lv_sub hl [0, 1, 2, 3, 4, 5, 6] rfl)
    · skip
      refine lv_iload_n hx hb dX8_rises_37 rfl (lv_at hl 5 rfl) ?_
      refine lv_iconst (v := 1) hx hb dX8_rises_38 (by decide) ?_
      refine lv_icmp_eq (tgt := 46) hx hb dX8_rises_39 (by decide) (fun c_6 => ?_) (fun c_6 => ?_)
      · skip
        refine lv_iconst (v := 0) hx hb dX8_rises_46 (by decide) ?_
        exact k_0 0 _ _ _ (by rw [j_X8_rises_0_0_0_0, if_neg c_1, if_neg c_5, if_pos c_6]) hG (lv_sub hl [0, 1, 2, 3, 4, 5, 6] rfl)
      · skip
        refine lv_iconst (v := 1) hx hb dX8_rises_42 (by decide) ?_
        refine lv_goto (tgt := 47) hx hb dX8_rises_43 (by decide) ?_
        exact k_0 1 _ _ _ (by rw [j_X8_rises_0_0_0_0, if_neg c_1, if_neg c_5, if_neg c_6]) hG (lv_sub hl [0, 1, 2, 3, 4, 5, 6] rfl)
def o_X8_shadow_0_1_r (v : Nat → Int32) (ms : Nat → Int32) (sl : Nat → Int32) : Int32 := (((sl 3) * (10 - (o_X8_sunIn_0_r v ms sl))) / 3)
set_option maxRecDepth 100000 in
set_option maxHeartbeats 4000000 in
theorem c_X8_shadow_0_1 (l : Launch) (E : zE) (v : Nat → Int32) (ms : Nat → Int32) (sl : Nat → Int32) (m aS aW aL aT a1 a2 a3 aB : Nat) (hM : 0 ≤ (sl 11).toInt) : HM l E yX8_shadow cX8_shadow 3 (some .int) 1 21 [.ref m, .int 0, .int 1] [(m, .inr (8, [.int (v 0), .int (v 1), .ref aS, .int (v 2), .int (v 3), .int (v 4), .ref aW, .int (v 5), .ref aL, .int (v 6), .int (v 7), .int (v 8), .ref aT, .int (v 9), .int (v 10), .int (v 11), .int (v 12), .ref a1, .ref a2, .ref a3, .ref aB, .int (v 13), .int (v 14)])), (aS, .inl (E.2.1.1, 12, .inl ms)), (aL, .inl (E.2.1.1, 156, .inl sl))] (some (.int (o_X8_shadow_0_1_r v ms sl))) [(m, .inr (8, [.int (v 0), .int (v 1), .ref aS, .int (v 2), .int (v 3), .int (v 4), .ref aW, .int (v 5), .ref aL, .int (v 6), .int (v 7), .int (v 8), .ref aT, .int (v 9), .int (v 10), .int (v 11), .int (v 12), .ref a1, .ref a2, .ref a3, .ref aB, .int (v 13), .int (v 14)])), (aS, .inl (E.2.1.1, 12, .inl ms)), (aL, .inl (E.2.1.1, 156, .inl sl))] := by
  refine HM.of (own := RX8) (plainFor_of_name (by decide)) rfl (Nat.le_of_ble_eq_true rfl) ?_
  intro zp ze zs zm za zb zt zc zA ls H locs zq C hr hlk hG hl hQ
  have hx := C.1.1
  have hb := C.1.2.1
  replace hl : lv_has ls 3 [(0, .ref m), (1, .int 0), (2, .int 1)] := hl
  refine lv_aload_n hx hb dX8_shadow_0 rfl (lv_at hl 0 rfl) ?_
  refine gf_X8_16 C dX8_shadow_1 hG 0 rfl rfl ?_
  refine lv_iload_n hx hb dX8_shadow_4 rfl (lv_at hl 1 rfl) ?_
  refine lv_iconst (v := 2) hx hb dX8_shadow_5 (by decide) ?_
  refine lv_iadd hx hb dX8_shadow_6 ?_
  refine z_ti (y := 2) (by decide) ?_
  refine lv_iload_n hx hb dX8_shadow_7 rfl (lv_at hl 2 rfl) ?_
  refine lv_iadd hx hb dX8_shadow_8 ?_
  refine z_ti (y := 3) (by decide) ?_
  refine z_ild C dX8_shadow_9 hG 2 rfl 3 (by decide) (Nat.le_of_ble_eq_true rfl) (Nat.le_of_ble_eq_true rfl) ?_
  refine lv_bipush (v := 10) hx hb dX8_shadow_10 (by decide) ?_
  refine lv_aload_n hx hb dX8_shadow_12 rfl (lv_at hl 0 rfl) ?_
  refine lv_iload_n hx hb dX8_shadow_13 rfl (lv_at hl 1 rfl) ?_
  refine call_X8_114 C dX8_shadow_14 (c_X8_sunIn_0 l E v ms sl m aS aW aL aT a1 a2 a3 aB (by first | exact hM | (simpa [upd] using hM))) hl hG 0 rfl [0, 1, 2] (by decide) rfl (ads := [m, aS, aL]) rfl rfl (ws' := [(m, .inr (8, [.int (v 0), .int (v 1), .ref aS, .int (v 2), .int (v 3), .int (v 4), .ref aW, .int (v 5), .ref aL, .int (v 6), .int (v 7), .int (v 8), .ref aT, .int (v 9), .int (v 10), .int (v 11), .int (v 12), .ref a1, .ref a2, .ref a3, .ref aB, .int (v 13), .int (v 14)])), (aS, .inl (E.2.1.1, 12, .inl ms)), (aL, .inl (E.2.1.1, 156, .inl sl))]) rfl rfl (rest := [.int 10, .int (sl 3)]) rfl (Nat.le_of_ble_eq_true rfl) ⟨Nat.le_of_ble_eq_true rfl, Nat.le_of_ble_eq_true rfl⟩ (fun H locs hG => ?_)
  refine lv_isub hx hb dX8_shadow_17 ?_
  refine lv_imul hx hb dX8_shadow_18 ?_
  refine lv_iconst (v := 3) hx hb dX8_shadow_19 (by decide) ?_
  refine lv_idiv hx hb dX8_shadow_20 (by decide) ?_
  rw [hQ]
  exact z_iret C hr hlk hG dX8_shadow_21 rfl (by rw [o_X8_shadow_0_1_r]) rfl
def j_X8_does_0_1_0_0 (v : Nat → Int32) (sl : Nat → Int32) (ac : Int32) : Nat → Int32 := (if ac = 4 then (upd sl 5 (o_X8_smaller_r 3 ((sl 5) + 1))) else sl)
def j_X8_does_0_1_1_0 (v : Nat → Int32) (sl : Nat → Int32) (ac : Int32) : Nat → Int32 := (if ac = 4 then (upd sl 5 (o_X8_smaller_r 3 ((sl 5) + 1))) else sl)
def j_X8_does_0_1_2_0 (v : Nat → Int32) (sl : Nat → Int32) (ac : Int32) : Nat → Int32 := (if ac = 4 then (upd sl 5 (o_X8_smaller_r 3 ((sl 5) + 1))) else sl)
def j_X8_does_0_1_3_0 (v : Nat → Int32) (sl : Nat → Int32) (ac : Int32) : Nat → Int32 := (if ac = 4 then (upd sl 5 (o_X8_smaller_r 3 ((sl 5) + 1))) else sl)
def j_X8_does_0_1_4_0 (v : Nat → Int32) (sl : Nat → Int32) (ac : Int32) : Nat → Int32 := (if ac = 4 then (upd sl 5 (o_X8_smaller_r 3 ((sl 5) + 1))) else sl)
def j_X8_does_0_1_5_0 (v : Nat → Int32) (sl : Nat → Int32) (ac : Int32) : Nat → Int32 := (if ac = 4 then (upd sl 5 (o_X8_smaller_r 3 ((sl 5) + 1))) else sl)
def j_X8_does_0_1_6_0 (v : Nat → Int32) (sl : Nat → Int32) (ac : Int32) : Int32 := (if (3 : Int32) ≤ (sl 3) then (sl 3) else (o_X8_larger_r 0 ((sl 3) - 1)))
def o_X8_does_0_1_r (v : Nat → Int32) (sl : Nat → Int32) (ac : Int32) : Int32 := (if ac = 1 then 0 else (if ac = 2 then (if (sl 7) < 3 then (if ac = 3 then (if (sl 7) < 1 then 0 else (if (sl 10) < 1 then 0 else 1)) else 0) else (if (3 : Int32) ≤ (sl 3) then 2 else 0)) else (if ac = 3 then (if (sl 7) < 1 then 0 else (if (sl 10) < 1 then 0 else 1)) else 0)))
def o_X8_does_0_1_1 (v : Nat → Int32) (sl : Nat → Int32) (ac : Int32) : Nat → Int32 := (if ac = 1 then (upd sl 3 (o_X8_larger_r 0 ((sl 3) - 2))) else (if ac = 2 then (if (sl 7) < 3 then (if ac = 3 then (if (sl 7) < 1 then (j_X8_does_0_1_4_0 v sl ac) else (if (sl 10) < 1 then (j_X8_does_0_1_5_0 v sl ac) else (upd (upd sl 7 ((sl 7) - 1)) 10 (((upd sl 7 ((sl 7) - 1)) 10) - 1)))) else (j_X8_does_0_1_3_0 v sl ac)) else (upd (upd sl 7 ((sl 7) - 3)) 3 (j_X8_does_0_1_6_0 v sl ac))) else (if ac = 3 then (if (sl 7) < 1 then (j_X8_does_0_1_1_0 v sl ac) else (if (sl 10) < 1 then (j_X8_does_0_1_2_0 v sl ac) else (upd (upd sl 7 ((sl 7) - 1)) 10 (((upd sl 7 ((sl 7) - 1)) 10) - 1)))) else (j_X8_does_0_1_0_0 v sl ac))))
set_option maxRecDepth 100000 in
set_option maxHeartbeats 4000000 in
theorem c_X8_does_0_1 (l : Launch) (E : zE) (v : Nat → Int32) (sl : Nat → Int32) (ac : Int32) (m aS aW aL aT a1 a2 a3 aB : Nat) : HM l E yX8_does cX8_does 5 (some .int) 1 21 [.ref m, .int 0, .int 1, .int ac] [(m, .inr (8, [.int (v 0), .int (v 1), .ref aS, .int (v 2), .int (v 3), .int (v 4), .ref aW, .int (v 5), .ref aL, .int (v 6), .int (v 7), .int (v 8), .ref aT, .int (v 9), .int (v 10), .int (v 11), .int (v 12), .ref a1, .ref a2, .ref a3, .ref aB, .int (v 13), .int (v 14)])), (aL, .inl (E.2.1.1, 156, .inl sl))] (some (.int (o_X8_does_0_1_r v sl ac))) [(m, .inr (8, [.int (v 0), .int (v 1), .ref aS, .int (v 2), .int (v 3), .int (v 4), .ref aW, .int (v 5), .ref aL, .int (v 6), .int (v 7), .int (v 8), .ref aT, .int (v 9), .int (v 10), .int (v 11), .int (v 12), .ref a1, .ref a2, .ref a3, .ref aB, .int (v 13), .int (v 14)])), (aL, .inl (E.2.1.1, 156, .inl (o_X8_does_0_1_1 v sl ac)))] := by
  refine HM.of (own := RX8) (plainFor_of_name (by decide)) rfl (Nat.le_of_ble_eq_true rfl) ?_
  intro zp ze zs zm za zb zt zc zA ls H locs zq C hr hlk hG hl hQ
  have hx := C.1.1
  have hb := C.1.2.1
  replace hl : lv_has ls 5 [(0, .ref m), (1, .int 0), (2, .int 1), (3, .int ac)] := hl
  refine lv_aload_n hx hb dX8_does_0 rfl (lv_at hl 0 rfl) ?_
  refine gf_X8_16 C dX8_does_1 hG 0 rfl rfl ?_
  refine lv_iload_n hx hb dX8_does_4 rfl (lv_at hl 1 rfl) ?_
  refine lv_iconst (v := 2) hx hb dX8_does_5 (by decide) ?_
  refine lv_iadd hx hb dX8_does_6 ?_
  refine z_ti (y := 2) (by decide) ?_
  refine lv_iload_n hx hb dX8_does_7 rfl (lv_at hl 2 rfl) ?_
  refine lv_iadd hx hb dX8_does_8 ?_
  refine z_ti (y := 3) (by decide) ?_
  refine z_ild C dX8_does_9 hG 1 rfl 3 (by decide) (Nat.le_of_ble_eq_true rfl) (Nat.le_of_ble_eq_true rfl) ?_
  refine lv_istore (lv' := [(4, .int (sl 3)), (0, .ref m), (1, .int 0), (2, .int 1), (3, .int ac)]) hx hb dX8_does_10 hl (by decide) rfl (fun ls hl => ?_)
  refine lv_iload_n hx hb dX8_does_12 rfl (lv_at hl 4 rfl) ?_
  refine lv_iconst (v := 1) hx hb dX8_does_13 (by decide) ?_
  refine lv_icmp_ne (tgt := 38) hx hb dX8_does_14 (by decide) (fun c_1 => ?_) (fun c_1 => ?_)
  · skip
    refine lv_iload_n hx hb dX8_does_38 rfl (lv_at hl 4 rfl) ?_
    refine lv_iconst (v := 2) hx hb dX8_does_39 (by decide) ?_
    refine lv_icmp_ne (tgt := 114) hx hb dX8_does_40 (by decide) (fun c_2 => ?_) (fun c_2 => ?_)
    · skip
      refine lv_iload_n hx hb dX8_does_114 rfl (lv_at hl 4 rfl) ?_
      refine lv_iconst (v := 3) hx hb dX8_does_115 (by decide) ?_
      refine lv_icmp_ne (tgt := 177) hx hb dX8_does_116 (by decide) (fun c_3 => ?_) (fun c_3 => ?_)
      · skip
        refine lv_iload_n hx hb dX8_does_177 rfl (lv_at hl 4 rfl) ?_
        refine lv_iconst (v := 4) hx hb dX8_does_178 (by decide) ?_
        have k_0 : ∀ (y0_0 : Nat → Int32) (H : Heap) (locs : List Loc) (ls : Array Slot), (j_X8_does_0_1_0_0 v sl ac) = y0_0 → zG E zA zs.heap [(m, .inr (8, [.int (v 0), .int (v 1), .ref aS, .int (v 2), .int (v 3), .int (v 4), .ref aW, .int (v 5), .ref aL, .int (v 6), .int (v 7), .int (v 8), .ref aT, .int (v 9), .int (v 10), .int (v 11), .int (v 12), .ref a1, .ref a2, .ref a3, .ref aB, .int (v 13), .int (v 14)])), (aL, .inl (E.2.1.1, 156, .inl y0_0))] H locs → lv_has ls 5 [(4, .int (sl 3)), (0, .ref m), (1, .int 0), (2, .int 1), (3, .int ac)] → W zp l ze (zR 1 21) zs zm za zb zt zc H locs 0 0 zq (F0 zm 208 ls []) := by
          intro y0_0 H locs ls e_y0_0 hG hl
          subst e_y0_0
          refine lv_iconst (v := 0) hx hb dX8_does_208 (by decide) ?_
          rw [hQ]
          exact z_iret C hr hlk hG dX8_does_209 rfl (by rw [o_X8_does_0_1_r, if_neg c_1, if_neg c_2, if_neg c_3]) (by rw [o_X8_does_0_1_1, if_neg c_1, if_neg c_2, if_neg c_3])
        refine lv_icmp_ne (tgt := 208) hx hb dX8_does_179 (by decide) (fun c_4 => ?_) (fun c_4 => ?_)
        · skip
          exact k_0 sl _ _ _ (by rw [j_X8_does_0_1_0_0, if_neg c_4]) hG (lv_sub hl [0, 1, 2, 3, 4] rfl)
        · skip
          refine lv_aload_n hx hb dX8_does_182 rfl (lv_at hl 1 rfl) ?_
          refine gf_X8_16 C dX8_does_183 hG 0 rfl rfl ?_
          refine lv_iload_n hx hb dX8_does_186 rfl (lv_at hl 2 rfl) ?_
          refine lv_iconst (v := 4) hx hb dX8_does_187 (by decide) ?_
          refine lv_iadd hx hb dX8_does_188 ?_
          refine z_ti (y := 4) (by decide) ?_
          refine lv_iload_n hx hb dX8_does_189 rfl (lv_at hl 3 rfl) ?_
          refine lv_iadd hx hb dX8_does_190 ?_
          refine z_ti (y := 5) (by decide) ?_
          refine lv_iconst (v := 3) hx hb dX8_does_191 (by decide) ?_
          refine lv_aload_n hx hb dX8_does_192 rfl (lv_at hl 1 rfl) ?_
          refine gf_X8_16 C dX8_does_193 hG 0 rfl rfl ?_
          refine lv_iload_n hx hb dX8_does_196 rfl (lv_at hl 2 rfl) ?_
          refine lv_iconst (v := 4) hx hb dX8_does_197 (by decide) ?_
          refine lv_iadd hx hb dX8_does_198 ?_
          refine z_ti (y := 4) (by decide) ?_
          refine lv_iload_n hx hb dX8_does_199 rfl (lv_at hl 3 rfl) ?_
          refine lv_iadd hx hb dX8_does_200 ?_
          refine z_ti (y := 5) (by decide) ?_
          refine z_ild C dX8_does_201 hG 1 rfl 5 (by decide) (Nat.le_of_ble_eq_true rfl) (Nat.le_of_ble_eq_true rfl) ?_
          refine lv_iconst (v := 1) hx hb dX8_does_202 (by decide) ?_
          refine lv_iadd hx hb dX8_does_203 ?_
          refine call_X8_136 C dX8_does_204 (c_X8_smaller l E 3 ((sl 5) + 1)) hl hG [] (by decide) rfl (ads := []) rfl rfl (ws' := [(m, .inr (8, [.int (v 0), .int (v 1), .ref aS, .int (v 2), .int (v 3), .int (v 4), .ref aW, .int (v 5), .ref aL, .int (v 6), .int (v 7), .int (v 8), .ref aT, .int (v 9), .int (v 10), .int (v 11), .int (v 12), .ref a1, .ref a2, .ref a3, .ref aB, .int (v 13), .int (v 14)])), (aL, .inl (E.2.1.1, 156, .inl sl))]) rfl rfl (rest := [.int 5, .ref aL]) rfl (Nat.le_of_ble_eq_true rfl) ⟨Nat.le_of_ble_eq_true rfl, Nat.le_of_ble_eq_true rfl⟩ (fun H locs hG => ?_)
          refine z_ist C dX8_does_207 hG 1 rfl 5 (by decide) (Nat.le_of_ble_eq_true rfl) (Nat.le_of_ble_eq_true rfl) (ws' := [(m, .inr (8, [.int (v 0), .int (v 1), .ref aS, .int (v 2), .int (v 3), .int (v 4), .ref aW, .int (v 5), .ref aL, .int (v 6), .int (v 7), .int (v 8), .ref aT, .int (v 9), .int (v 10), .int (v 11), .int (v 12), .ref a1, .ref a2, .ref a3, .ref aB, .int (v 13), .int (v 14)])), (aL, .inl (E.2.1.1, 156, .inl (upd sl 5 (o_X8_smaller_r 3 ((sl 5) + 1)))))]) rfl (fun H locs hG => ?_)
          exact k_0 (upd sl 5 (o_X8_smaller_r 3 ((sl 5) + 1))) _ _ _ (by rw [j_X8_does_0_1_0_0, if_pos c_4]) hG (lv_sub hl [0, 1, 2, 3, 4] rfl)
      · skip
        refine lv_aload_n hx hb dX8_does_119 rfl (lv_at hl 1 rfl) ?_
        refine gf_X8_16 C dX8_does_120 hG 0 rfl rfl ?_
        refine lv_iload_n hx hb dX8_does_123 rfl (lv_at hl 2 rfl) ?_
        refine lv_bipush (v := 6) hx hb dX8_does_124 (by decide) ?_
        refine lv_iadd hx hb dX8_does_126 ?_
        refine z_ti (y := 6) (by decide) ?_
        refine lv_iload_n hx hb dX8_does_127 rfl (lv_at hl 3 rfl) ?_
        refine lv_iadd hx hb dX8_does_128 ?_
        refine z_ti (y := 7) (by decide) ?_
        refine z_ild C dX8_does_129 hG 1 rfl 7 (by decide) (Nat.le_of_ble_eq_true rfl) (Nat.le_of_ble_eq_true rfl) ?_
        refine lv_iconst (v := 1) hx hb dX8_does_130 (by decide) ?_
        refine lv_icmp_lt (tgt := 177) hx hb dX8_does_131 (by decide) (fun c_5 => ?_) (fun c_5 => ?_)
        · skip
          refine lv_iload_n hx hb dX8_does_177 rfl (lv_at hl 4 rfl) ?_
          refine lv_iconst (v := 4) hx hb dX8_does_178 (by decide) ?_
          have k_1 : ∀ (y1_0 : Nat → Int32) (H : Heap) (locs : List Loc) (ls : Array Slot), (j_X8_does_0_1_1_0 v sl ac) = y1_0 → zG E zA zs.heap [(m, .inr (8, [.int (v 0), .int (v 1), .ref aS, .int (v 2), .int (v 3), .int (v 4), .ref aW, .int (v 5), .ref aL, .int (v 6), .int (v 7), .int (v 8), .ref aT, .int (v 9), .int (v 10), .int (v 11), .int (v 12), .ref a1, .ref a2, .ref a3, .ref aB, .int (v 13), .int (v 14)])), (aL, .inl (E.2.1.1, 156, .inl y1_0))] H locs → lv_has ls 5 [(4, .int (sl 3)), (0, .ref m), (1, .int 0), (2, .int 1), (3, .int ac)] → W zp l ze (zR 1 21) zs zm za zb zt zc H locs 0 0 zq (F0 zm 208 ls []) := by
            intro y1_0 H locs ls e_y1_0 hG hl
            subst e_y1_0
            refine lv_iconst (v := 0) hx hb dX8_does_208 (by decide) ?_
            rw [hQ]
            exact z_iret C hr hlk hG dX8_does_209 rfl (by rw [o_X8_does_0_1_r, if_neg c_1, if_neg c_2, if_pos c_3, if_pos c_5]) (by rw [o_X8_does_0_1_1, if_neg c_1, if_neg c_2, if_pos c_3, if_pos c_5])
          refine lv_icmp_ne (tgt := 208) hx hb dX8_does_179 (by decide) (fun c_6 => ?_) (fun c_6 => ?_)
          · skip
            exact k_1 sl _ _ _ (by rw [j_X8_does_0_1_1_0, if_neg c_6]) hG (lv_sub hl [0, 1, 2, 3, 4] rfl)
          · skip
            refine lv_aload_n hx hb dX8_does_182 rfl (lv_at hl 1 rfl) ?_
            refine gf_X8_16 C dX8_does_183 hG 0 rfl rfl ?_
            refine lv_iload_n hx hb dX8_does_186 rfl (lv_at hl 2 rfl) ?_
            refine lv_iconst (v := 4) hx hb dX8_does_187 (by decide) ?_
            refine lv_iadd hx hb dX8_does_188 ?_
            refine z_ti (y := 4) (by decide) ?_
            refine lv_iload_n hx hb dX8_does_189 rfl (lv_at hl 3 rfl) ?_
            refine lv_iadd hx hb dX8_does_190 ?_
            refine z_ti (y := 5) (by decide) ?_
            refine lv_iconst (v := 3) hx hb dX8_does_191 (by decide) ?_
            refine lv_aload_n hx hb dX8_does_192 rfl (lv_at hl 1 rfl) ?_
            refine gf_X8_16 C dX8_does_193 hG 0 rfl rfl ?_
            refine lv_iload_n hx hb dX8_does_196 rfl (lv_at hl 2 rfl) ?_
            refine lv_iconst (v := 4) hx hb dX8_does_197 (by decide) ?_
            refine lv_iadd hx hb dX8_does_198 ?_
            refine z_ti (y := 4) (by decide) ?_
            refine lv_iload_n hx hb dX8_does_199 rfl (lv_at hl 3 rfl) ?_
            refine lv_iadd hx hb dX8_does_200 ?_
            refine z_ti (y := 5) (by decide) ?_
            refine z_ild C dX8_does_201 hG 1 rfl 5 (by decide) (Nat.le_of_ble_eq_true rfl) (Nat.le_of_ble_eq_true rfl) ?_
            refine lv_iconst (v := 1) hx hb dX8_does_202 (by decide) ?_
            refine lv_iadd hx hb dX8_does_203 ?_
            refine call_X8_136 C dX8_does_204 (c_X8_smaller l E 3 ((sl 5) + 1)) hl hG [] (by decide) rfl (ads := []) rfl rfl (ws' := [(m, .inr (8, [.int (v 0), .int (v 1), .ref aS, .int (v 2), .int (v 3), .int (v 4), .ref aW, .int (v 5), .ref aL, .int (v 6), .int (v 7), .int (v 8), .ref aT, .int (v 9), .int (v 10), .int (v 11), .int (v 12), .ref a1, .ref a2, .ref a3, .ref aB, .int (v 13), .int (v 14)])), (aL, .inl (E.2.1.1, 156, .inl sl))]) rfl rfl (rest := [.int 5, .ref aL]) rfl (Nat.le_of_ble_eq_true rfl) ⟨Nat.le_of_ble_eq_true rfl, Nat.le_of_ble_eq_true rfl⟩ (fun H locs hG => ?_)
            refine z_ist C dX8_does_207 hG 1 rfl 5 (by decide) (Nat.le_of_ble_eq_true rfl) (Nat.le_of_ble_eq_true rfl) (ws' := [(m, .inr (8, [.int (v 0), .int (v 1), .ref aS, .int (v 2), .int (v 3), .int (v 4), .ref aW, .int (v 5), .ref aL, .int (v 6), .int (v 7), .int (v 8), .ref aT, .int (v 9), .int (v 10), .int (v 11), .int (v 12), .ref a1, .ref a2, .ref a3, .ref aB, .int (v 13), .int (v 14)])), (aL, .inl (E.2.1.1, 156, .inl (upd sl 5 (o_X8_smaller_r 3 ((sl 5) + 1)))))]) rfl (fun H locs hG => ?_)
            exact k_1 (upd sl 5 (o_X8_smaller_r 3 ((sl 5) + 1))) _ _ _ (by rw [j_X8_does_0_1_1_0, if_pos c_6]) hG (lv_sub hl [0, 1, 2, 3, 4] rfl)
        · skip
          refine lv_aload_n hx hb dX8_does_134 rfl (lv_at hl 1 rfl) ?_
          refine gf_X8_16 C dX8_does_135 hG 0 rfl rfl ?_
          refine lv_iload_n hx hb dX8_does_138 rfl (lv_at hl 2 rfl) ?_
          refine lv_bipush (v := 10) hx hb dX8_does_139 (by decide) ?_
          refine lv_iadd hx hb dX8_does_141 ?_
          refine z_ti (y := 10) (by decide) ?_
          refine z_ild C dX8_does_142 hG 1 rfl 10 (by decide) (Nat.le_of_ble_eq_true rfl) (Nat.le_of_ble_eq_true rfl) ?_
          refine lv_iconst (v := 1) hx hb dX8_does_143 (by decide) ?_
          refine lv_icmp_lt (tgt := 177) hx hb dX8_does_144 (by decide) (fun c_7 => ?_) (fun c_7 => ?_)
          · skip
            refine lv_iload_n hx hb dX8_does_177 rfl (lv_at hl 4 rfl) ?_
            refine lv_iconst (v := 4) hx hb dX8_does_178 (by decide) ?_
            have k_2 : ∀ (y2_0 : Nat → Int32) (H : Heap) (locs : List Loc) (ls : Array Slot), (j_X8_does_0_1_2_0 v sl ac) = y2_0 → zG E zA zs.heap [(m, .inr (8, [.int (v 0), .int (v 1), .ref aS, .int (v 2), .int (v 3), .int (v 4), .ref aW, .int (v 5), .ref aL, .int (v 6), .int (v 7), .int (v 8), .ref aT, .int (v 9), .int (v 10), .int (v 11), .int (v 12), .ref a1, .ref a2, .ref a3, .ref aB, .int (v 13), .int (v 14)])), (aL, .inl (E.2.1.1, 156, .inl y2_0))] H locs → lv_has ls 5 [(4, .int (sl 3)), (0, .ref m), (1, .int 0), (2, .int 1), (3, .int ac)] → W zp l ze (zR 1 21) zs zm za zb zt zc H locs 0 0 zq (F0 zm 208 ls []) := by
              intro y2_0 H locs ls e_y2_0 hG hl
              subst e_y2_0
              refine lv_iconst (v := 0) hx hb dX8_does_208 (by decide) ?_
              rw [hQ]
              exact z_iret C hr hlk hG dX8_does_209 rfl (by rw [o_X8_does_0_1_r, if_neg c_1, if_neg c_2, if_pos c_3, if_neg c_5, if_pos c_7]) (by rw [o_X8_does_0_1_1, if_neg c_1, if_neg c_2, if_pos c_3, if_neg c_5, if_pos c_7])
            refine lv_icmp_ne (tgt := 208) hx hb dX8_does_179 (by decide) (fun c_8 => ?_) (fun c_8 => ?_)
            · skip
              exact k_2 sl _ _ _ (by rw [j_X8_does_0_1_2_0, if_neg c_8]) hG (lv_sub hl [0, 1, 2, 3, 4] rfl)
            · skip
              refine lv_aload_n hx hb dX8_does_182 rfl (lv_at hl 1 rfl) ?_
              refine gf_X8_16 C dX8_does_183 hG 0 rfl rfl ?_
              refine lv_iload_n hx hb dX8_does_186 rfl (lv_at hl 2 rfl) ?_
              refine lv_iconst (v := 4) hx hb dX8_does_187 (by decide) ?_
              refine lv_iadd hx hb dX8_does_188 ?_
              refine z_ti (y := 4) (by decide) ?_
              refine lv_iload_n hx hb dX8_does_189 rfl (lv_at hl 3 rfl) ?_
              refine lv_iadd hx hb dX8_does_190 ?_
              refine z_ti (y := 5) (by decide) ?_
              refine lv_iconst (v := 3) hx hb dX8_does_191 (by decide) ?_
              refine lv_aload_n hx hb dX8_does_192 rfl (lv_at hl 1 rfl) ?_
              refine gf_X8_16 C dX8_does_193 hG 0 rfl rfl ?_
              refine lv_iload_n hx hb dX8_does_196 rfl (lv_at hl 2 rfl) ?_
              refine lv_iconst (v := 4) hx hb dX8_does_197 (by decide) ?_
              refine lv_iadd hx hb dX8_does_198 ?_
              refine z_ti (y := 4) (by decide) ?_
              refine lv_iload_n hx hb dX8_does_199 rfl (lv_at hl 3 rfl) ?_
              refine lv_iadd hx hb dX8_does_200 ?_
              refine z_ti (y := 5) (by decide) ?_
              refine z_ild C dX8_does_201 hG 1 rfl 5 (by decide) (Nat.le_of_ble_eq_true rfl) (Nat.le_of_ble_eq_true rfl) ?_
              refine lv_iconst (v := 1) hx hb dX8_does_202 (by decide) ?_
              refine lv_iadd hx hb dX8_does_203 ?_
              refine call_X8_136 C dX8_does_204 (c_X8_smaller l E 3 ((sl 5) + 1)) hl hG [] (by decide) rfl (ads := []) rfl rfl (ws' := [(m, .inr (8, [.int (v 0), .int (v 1), .ref aS, .int (v 2), .int (v 3), .int (v 4), .ref aW, .int (v 5), .ref aL, .int (v 6), .int (v 7), .int (v 8), .ref aT, .int (v 9), .int (v 10), .int (v 11), .int (v 12), .ref a1, .ref a2, .ref a3, .ref aB, .int (v 13), .int (v 14)])), (aL, .inl (E.2.1.1, 156, .inl sl))]) rfl rfl (rest := [.int 5, .ref aL]) rfl (Nat.le_of_ble_eq_true rfl) ⟨Nat.le_of_ble_eq_true rfl, Nat.le_of_ble_eq_true rfl⟩ (fun H locs hG => ?_)
              refine z_ist C dX8_does_207 hG 1 rfl 5 (by decide) (Nat.le_of_ble_eq_true rfl) (Nat.le_of_ble_eq_true rfl) (ws' := [(m, .inr (8, [.int (v 0), .int (v 1), .ref aS, .int (v 2), .int (v 3), .int (v 4), .ref aW, .int (v 5), .ref aL, .int (v 6), .int (v 7), .int (v 8), .ref aT, .int (v 9), .int (v 10), .int (v 11), .int (v 12), .ref a1, .ref a2, .ref a3, .ref aB, .int (v 13), .int (v 14)])), (aL, .inl (E.2.1.1, 156, .inl (upd sl 5 (o_X8_smaller_r 3 ((sl 5) + 1)))))]) rfl (fun H locs hG => ?_)
              exact k_2 (upd sl 5 (o_X8_smaller_r 3 ((sl 5) + 1))) _ _ _ (by rw [j_X8_does_0_1_2_0, if_pos c_8]) hG (lv_sub hl [0, 1, 2, 3, 4] rfl)
          · skip
            refine lv_aload_n hx hb dX8_does_147 rfl (lv_at hl 1 rfl) ?_
            refine gf_X8_16 C dX8_does_148 hG 0 rfl rfl ?_
            refine lv_iload_n hx hb dX8_does_151 rfl (lv_at hl 2 rfl) ?_
            refine lv_bipush (v := 6) hx hb dX8_does_152 (by decide) ?_
            refine lv_iadd hx hb dX8_does_154 ?_
            refine z_ti (y := 6) (by decide) ?_
            refine lv_iload_n hx hb dX8_does_155 rfl (lv_at hl 3 rfl) ?_
            refine lv_iadd hx hb dX8_does_156 ?_
            refine z_ti (y := 7) (by decide) ?_
            refine lv_dup2_11 hx hb dX8_does_157 rfl rfl ?_
            refine z_ild C dX8_does_158 hG 1 rfl 7 (by decide) (Nat.le_of_ble_eq_true rfl) (Nat.le_of_ble_eq_true rfl) ?_
            refine lv_iconst (v := 1) hx hb dX8_does_159 (by decide) ?_
            refine lv_isub hx hb dX8_does_160 ?_
            refine z_ist C dX8_does_161 hG 1 rfl 7 (by decide) (Nat.le_of_ble_eq_true rfl) (Nat.le_of_ble_eq_true rfl) (ws' := [(m, .inr (8, [.int (v 0), .int (v 1), .ref aS, .int (v 2), .int (v 3), .int (v 4), .ref aW, .int (v 5), .ref aL, .int (v 6), .int (v 7), .int (v 8), .ref aT, .int (v 9), .int (v 10), .int (v 11), .int (v 12), .ref a1, .ref a2, .ref a3, .ref aB, .int (v 13), .int (v 14)])), (aL, .inl (E.2.1.1, 156, .inl (upd sl 7 ((sl 7) - 1))))]) rfl (fun H locs hG => ?_)
            refine lv_aload_n hx hb dX8_does_162 rfl (lv_at hl 1 rfl) ?_
            refine gf_X8_16 C dX8_does_163 hG 0 rfl rfl ?_
            refine lv_iload_n hx hb dX8_does_166 rfl (lv_at hl 2 rfl) ?_
            refine lv_bipush (v := 10) hx hb dX8_does_167 (by decide) ?_
            refine lv_iadd hx hb dX8_does_169 ?_
            refine z_ti (y := 10) (by decide) ?_
            refine lv_dup2_11 hx hb dX8_does_170 rfl rfl ?_
            refine z_ild C dX8_does_171 hG 1 rfl 10 (by decide) (Nat.le_of_ble_eq_true rfl) (Nat.le_of_ble_eq_true rfl) ?_
            refine lv_iconst (v := 1) hx hb dX8_does_172 (by decide) ?_
            refine lv_isub hx hb dX8_does_173 ?_
            refine z_ist C dX8_does_174 hG 1 rfl 10 (by decide) (Nat.le_of_ble_eq_true rfl) (Nat.le_of_ble_eq_true rfl) (ws' := [(m, .inr (8, [.int (v 0), .int (v 1), .ref aS, .int (v 2), .int (v 3), .int (v 4), .ref aW, .int (v 5), .ref aL, .int (v 6), .int (v 7), .int (v 8), .ref aT, .int (v 9), .int (v 10), .int (v 11), .int (v 12), .ref a1, .ref a2, .ref a3, .ref aB, .int (v 13), .int (v 14)])), (aL, .inl (E.2.1.1, 156, .inl (upd (upd sl 7 ((sl 7) - 1)) 10 (((upd sl 7 ((sl 7) - 1)) 10) - 1))))]) rfl (fun H locs hG => ?_)
            refine lv_iconst (v := 1) hx hb dX8_does_175 (by decide) ?_
            rw [hQ]
            exact z_iret C hr hlk hG dX8_does_176 rfl (by rw [o_X8_does_0_1_r, if_neg c_1, if_neg c_2, if_pos c_3, if_neg c_5, if_neg c_7]) (by rw [o_X8_does_0_1_1, if_neg c_1, if_neg c_2, if_pos c_3, if_neg c_5, if_neg c_7])
    · skip
      refine lv_aload_n hx hb dX8_does_43 rfl (lv_at hl 1 rfl) ?_
      refine gf_X8_16 C dX8_does_44 hG 0 rfl rfl ?_
      refine lv_iload_n hx hb dX8_does_47 rfl (lv_at hl 2 rfl) ?_
      refine lv_bipush (v := 6) hx hb dX8_does_48 (by decide) ?_
      refine lv_iadd hx hb dX8_does_50 ?_
      refine z_ti (y := 6) (by decide) ?_
      refine lv_iload_n hx hb dX8_does_51 rfl (lv_at hl 3 rfl) ?_
      refine lv_iadd hx hb dX8_does_52 ?_
      refine z_ti (y := 7) (by decide) ?_
      refine z_ild C dX8_does_53 hG 1 rfl 7 (by decide) (Nat.le_of_ble_eq_true rfl) (Nat.le_of_ble_eq_true rfl) ?_
      refine lv_iconst (v := 3) hx hb dX8_does_54 (by decide) ?_
      refine lv_icmp_lt (tgt := 114) hx hb dX8_does_55 (by decide) (fun c_9 => ?_) (fun c_9 => ?_)
      · skip
        refine lv_iload_n hx hb dX8_does_114 rfl (lv_at hl 4 rfl) ?_
        refine lv_iconst (v := 3) hx hb dX8_does_115 (by decide) ?_
        refine lv_icmp_ne (tgt := 177) hx hb dX8_does_116 (by decide) (fun c_10 => ?_) (fun c_10 => ?_)
        · skip
          refine lv_iload_n hx hb dX8_does_177 rfl (lv_at hl 4 rfl) ?_
          refine lv_iconst (v := 4) hx hb dX8_does_178 (by decide) ?_
          have k_3 : ∀ (y3_0 : Nat → Int32) (H : Heap) (locs : List Loc) (ls : Array Slot), (j_X8_does_0_1_3_0 v sl ac) = y3_0 → zG E zA zs.heap [(m, .inr (8, [.int (v 0), .int (v 1), .ref aS, .int (v 2), .int (v 3), .int (v 4), .ref aW, .int (v 5), .ref aL, .int (v 6), .int (v 7), .int (v 8), .ref aT, .int (v 9), .int (v 10), .int (v 11), .int (v 12), .ref a1, .ref a2, .ref a3, .ref aB, .int (v 13), .int (v 14)])), (aL, .inl (E.2.1.1, 156, .inl y3_0))] H locs → lv_has ls 5 [(4, .int (sl 3)), (0, .ref m), (1, .int 0), (2, .int 1), (3, .int ac)] → W zp l ze (zR 1 21) zs zm za zb zt zc H locs 0 0 zq (F0 zm 208 ls []) := by
            intro y3_0 H locs ls e_y3_0 hG hl
            subst e_y3_0
            refine lv_iconst (v := 0) hx hb dX8_does_208 (by decide) ?_
            rw [hQ]
            exact z_iret C hr hlk hG dX8_does_209 rfl (by rw [o_X8_does_0_1_r, if_neg c_1, if_pos c_2, if_pos c_9, if_neg c_10]) (by rw [o_X8_does_0_1_1, if_neg c_1, if_pos c_2, if_pos c_9, if_neg c_10])
          refine lv_icmp_ne (tgt := 208) hx hb dX8_does_179 (by decide) (fun c_11 => ?_) (fun c_11 => ?_)
          · skip
            exact k_3 sl _ _ _ (by rw [j_X8_does_0_1_3_0, if_neg c_11]) hG (lv_sub hl [0, 1, 2, 3, 4] rfl)
          · skip
            refine lv_aload_n hx hb dX8_does_182 rfl (lv_at hl 1 rfl) ?_
            refine gf_X8_16 C dX8_does_183 hG 0 rfl rfl ?_
            refine lv_iload_n hx hb dX8_does_186 rfl (lv_at hl 2 rfl) ?_
            refine lv_iconst (v := 4) hx hb dX8_does_187 (by decide) ?_
            refine lv_iadd hx hb dX8_does_188 ?_
            refine z_ti (y := 4) (by decide) ?_
            refine lv_iload_n hx hb dX8_does_189 rfl (lv_at hl 3 rfl) ?_
            refine lv_iadd hx hb dX8_does_190 ?_
            refine z_ti (y := 5) (by decide) ?_
            refine lv_iconst (v := 3) hx hb dX8_does_191 (by decide) ?_
            refine lv_aload_n hx hb dX8_does_192 rfl (lv_at hl 1 rfl) ?_
            refine gf_X8_16 C dX8_does_193 hG 0 rfl rfl ?_
            refine lv_iload_n hx hb dX8_does_196 rfl (lv_at hl 2 rfl) ?_
            refine lv_iconst (v := 4) hx hb dX8_does_197 (by decide) ?_
            refine lv_iadd hx hb dX8_does_198 ?_
            refine z_ti (y := 4) (by decide) ?_
            refine lv_iload_n hx hb dX8_does_199 rfl (lv_at hl 3 rfl) ?_
            refine lv_iadd hx hb dX8_does_200 ?_
            refine z_ti (y := 5) (by decide) ?_
            refine z_ild C dX8_does_201 hG 1 rfl 5 (by decide) (Nat.le_of_ble_eq_true rfl) (Nat.le_of_ble_eq_true rfl) ?_
            refine lv_iconst (v := 1) hx hb dX8_does_202 (by decide) ?_
            refine lv_iadd hx hb dX8_does_203 ?_
            refine call_X8_136 C dX8_does_204 (c_X8_smaller l E 3 ((sl 5) + 1)) hl hG [] (by decide) rfl (ads := []) rfl rfl (ws' := [(m, .inr (8, [.int (v 0), .int (v 1), .ref aS, .int (v 2), .int (v 3), .int (v 4), .ref aW, .int (v 5), .ref aL, .int (v 6), .int (v 7), .int (v 8), .ref aT, .int (v 9), .int (v 10), .int (v 11), .int (v 12), .ref a1, .ref a2, .ref a3, .ref aB, .int (v 13), .int (v 14)])), (aL, .inl (E.2.1.1, 156, .inl sl))]) rfl rfl (rest := [.int 5, .ref aL]) rfl (Nat.le_of_ble_eq_true rfl) ⟨Nat.le_of_ble_eq_true rfl, Nat.le_of_ble_eq_true rfl⟩ (fun H locs hG => ?_)
            refine z_ist C dX8_does_207 hG 1 rfl 5 (by decide) (Nat.le_of_ble_eq_true rfl) (Nat.le_of_ble_eq_true rfl) (ws' := [(m, .inr (8, [.int (v 0), .int (v 1), .ref aS, .int (v 2), .int (v 3), .int (v 4), .ref aW, .int (v 5), .ref aL, .int (v 6), .int (v 7), .int (v 8), .ref aT, .int (v 9), .int (v 10), .int (v 11), .int (v 12), .ref a1, .ref a2, .ref a3, .ref aB, .int (v 13), .int (v 14)])), (aL, .inl (E.2.1.1, 156, .inl (upd sl 5 (o_X8_smaller_r 3 ((sl 5) + 1)))))]) rfl (fun H locs hG => ?_)
            exact k_3 (upd sl 5 (o_X8_smaller_r 3 ((sl 5) + 1))) _ _ _ (by rw [j_X8_does_0_1_3_0, if_pos c_11]) hG (lv_sub hl [0, 1, 2, 3, 4] rfl)
        · skip
          refine lv_aload_n hx hb dX8_does_119 rfl (lv_at hl 1 rfl) ?_
          refine gf_X8_16 C dX8_does_120 hG 0 rfl rfl ?_
          refine lv_iload_n hx hb dX8_does_123 rfl (lv_at hl 2 rfl) ?_
          refine lv_bipush (v := 6) hx hb dX8_does_124 (by decide) ?_
          refine lv_iadd hx hb dX8_does_126 ?_
          refine z_ti (y := 6) (by decide) ?_
          refine lv_iload_n hx hb dX8_does_127 rfl (lv_at hl 3 rfl) ?_
          refine lv_iadd hx hb dX8_does_128 ?_
          refine z_ti (y := 7) (by decide) ?_
          refine z_ild C dX8_does_129 hG 1 rfl 7 (by decide) (Nat.le_of_ble_eq_true rfl) (Nat.le_of_ble_eq_true rfl) ?_
          refine lv_iconst (v := 1) hx hb dX8_does_130 (by decide) ?_
          refine lv_icmp_lt (tgt := 177) hx hb dX8_does_131 (by decide) (fun c_12 => ?_) (fun c_12 => ?_)
          · skip
            refine lv_iload_n hx hb dX8_does_177 rfl (lv_at hl 4 rfl) ?_
            refine lv_iconst (v := 4) hx hb dX8_does_178 (by decide) ?_
            have k_4 : ∀ (y4_0 : Nat → Int32) (H : Heap) (locs : List Loc) (ls : Array Slot), (j_X8_does_0_1_4_0 v sl ac) = y4_0 → zG E zA zs.heap [(m, .inr (8, [.int (v 0), .int (v 1), .ref aS, .int (v 2), .int (v 3), .int (v 4), .ref aW, .int (v 5), .ref aL, .int (v 6), .int (v 7), .int (v 8), .ref aT, .int (v 9), .int (v 10), .int (v 11), .int (v 12), .ref a1, .ref a2, .ref a3, .ref aB, .int (v 13), .int (v 14)])), (aL, .inl (E.2.1.1, 156, .inl y4_0))] H locs → lv_has ls 5 [(4, .int (sl 3)), (0, .ref m), (1, .int 0), (2, .int 1), (3, .int ac)] → W zp l ze (zR 1 21) zs zm za zb zt zc H locs 0 0 zq (F0 zm 208 ls []) := by
              intro y4_0 H locs ls e_y4_0 hG hl
              subst e_y4_0
              refine lv_iconst (v := 0) hx hb dX8_does_208 (by decide) ?_
              rw [hQ]
              exact z_iret C hr hlk hG dX8_does_209 rfl (by rw [o_X8_does_0_1_r, if_neg c_1, if_pos c_2, if_pos c_9, if_pos c_10, if_pos c_12]) (by rw [o_X8_does_0_1_1, if_neg c_1, if_pos c_2, if_pos c_9, if_pos c_10, if_pos c_12])
            refine lv_icmp_ne (tgt := 208) hx hb dX8_does_179 (by decide) (fun c_13 => ?_) (fun c_13 => ?_)
            · skip
              exact k_4 sl _ _ _ (by rw [j_X8_does_0_1_4_0, if_neg c_13]) hG (lv_sub hl [0, 1, 2, 3, 4] rfl)
            · skip
              refine lv_aload_n hx hb dX8_does_182 rfl (lv_at hl 1 rfl) ?_
              refine gf_X8_16 C dX8_does_183 hG 0 rfl rfl ?_
              refine lv_iload_n hx hb dX8_does_186 rfl (lv_at hl 2 rfl) ?_
              refine lv_iconst (v := 4) hx hb dX8_does_187 (by decide) ?_
              refine lv_iadd hx hb dX8_does_188 ?_
              refine z_ti (y := 4) (by decide) ?_
              refine lv_iload_n hx hb dX8_does_189 rfl (lv_at hl 3 rfl) ?_
              refine lv_iadd hx hb dX8_does_190 ?_
              refine z_ti (y := 5) (by decide) ?_
              refine lv_iconst (v := 3) hx hb dX8_does_191 (by decide) ?_
              refine lv_aload_n hx hb dX8_does_192 rfl (lv_at hl 1 rfl) ?_
              refine gf_X8_16 C dX8_does_193 hG 0 rfl rfl ?_
              refine lv_iload_n hx hb dX8_does_196 rfl (lv_at hl 2 rfl) ?_
              refine lv_iconst (v := 4) hx hb dX8_does_197 (by decide) ?_
              refine lv_iadd hx hb dX8_does_198 ?_
              refine z_ti (y := 4) (by decide) ?_
              refine lv_iload_n hx hb dX8_does_199 rfl (lv_at hl 3 rfl) ?_
              refine lv_iadd hx hb dX8_does_200 ?_
              refine z_ti (y := 5) (by decide) ?_
              refine z_ild C dX8_does_201 hG 1 rfl 5 (by decide) (Nat.le_of_ble_eq_true rfl) (Nat.le_of_ble_eq_true rfl) ?_
              refine lv_iconst (v := 1) hx hb dX8_does_202 (by decide) ?_
              refine lv_iadd hx hb dX8_does_203 ?_
              refine call_X8_136 C dX8_does_204 (c_X8_smaller l E 3 ((sl 5) + 1)) hl hG [] (by decide) rfl (ads := []) rfl rfl (ws' := [(m, .inr (8, [.int (v 0), .int (v 1), .ref aS, .int (v 2), .int (v 3), .int (v 4), .ref aW, .int (v 5), .ref aL, .int (v 6), .int (v 7), .int (v 8), .ref aT, .int (v 9), .int (v 10), .int (v 11), .int (v 12), .ref a1, .ref a2, .ref a3, .ref aB, .int (v 13), .int (v 14)])), (aL, .inl (E.2.1.1, 156, .inl sl))]) rfl rfl (rest := [.int 5, .ref aL]) rfl (Nat.le_of_ble_eq_true rfl) ⟨Nat.le_of_ble_eq_true rfl, Nat.le_of_ble_eq_true rfl⟩ (fun H locs hG => ?_)
              refine z_ist C dX8_does_207 hG 1 rfl 5 (by decide) (Nat.le_of_ble_eq_true rfl) (Nat.le_of_ble_eq_true rfl) (ws' := [(m, .inr (8, [.int (v 0), .int (v 1), .ref aS, .int (v 2), .int (v 3), .int (v 4), .ref aW, .int (v 5), .ref aL, .int (v 6), .int (v 7), .int (v 8), .ref aT, .int (v 9), .int (v 10), .int (v 11), .int (v 12), .ref a1, .ref a2, .ref a3, .ref aB, .int (v 13), .int (v 14)])), (aL, .inl (E.2.1.1, 156, .inl (upd sl 5 (o_X8_smaller_r 3 ((sl 5) + 1)))))]) rfl (fun H locs hG => ?_)
              exact k_4 (upd sl 5 (o_X8_smaller_r 3 ((sl 5) + 1))) _ _ _ (by rw [j_X8_does_0_1_4_0, if_pos c_13]) hG (lv_sub hl [0, 1, 2, 3, 4] rfl)
          · skip
            refine lv_aload_n hx hb dX8_does_134 rfl (lv_at hl 1 rfl) ?_
            refine gf_X8_16 C dX8_does_135 hG 0 rfl rfl ?_
            refine lv_iload_n hx hb dX8_does_138 rfl (lv_at hl 2 rfl) ?_
            refine lv_bipush (v := 10) hx hb dX8_does_139 (by decide) ?_
            refine lv_iadd hx hb dX8_does_141 ?_
            refine z_ti (y := 10) (by decide) ?_
            refine z_ild C dX8_does_142 hG 1 rfl 10 (by decide) (Nat.le_of_ble_eq_true rfl) (Nat.le_of_ble_eq_true rfl) ?_
            refine lv_iconst (v := 1) hx hb dX8_does_143 (by decide) ?_
            refine lv_icmp_lt (tgt := 177) hx hb dX8_does_144 (by decide) (fun c_14 => ?_) (fun c_14 => ?_)
            · skip
              refine lv_iload_n hx hb dX8_does_177 rfl (lv_at hl 4 rfl) ?_
              refine lv_iconst (v := 4) hx hb dX8_does_178 (by decide) ?_
              have k_5 : ∀ (y5_0 : Nat → Int32) (H : Heap) (locs : List Loc) (ls : Array Slot), (j_X8_does_0_1_5_0 v sl ac) = y5_0 → zG E zA zs.heap [(m, .inr (8, [.int (v 0), .int (v 1), .ref aS, .int (v 2), .int (v 3), .int (v 4), .ref aW, .int (v 5), .ref aL, .int (v 6), .int (v 7), .int (v 8), .ref aT, .int (v 9), .int (v 10), .int (v 11), .int (v 12), .ref a1, .ref a2, .ref a3, .ref aB, .int (v 13), .int (v 14)])), (aL, .inl (E.2.1.1, 156, .inl y5_0))] H locs → lv_has ls 5 [(4, .int (sl 3)), (0, .ref m), (1, .int 0), (2, .int 1), (3, .int ac)] → W zp l ze (zR 1 21) zs zm za zb zt zc H locs 0 0 zq (F0 zm 208 ls []) := by
                intro y5_0 H locs ls e_y5_0 hG hl
                subst e_y5_0
                refine lv_iconst (v := 0) hx hb dX8_does_208 (by decide) ?_
                rw [hQ]
                exact z_iret C hr hlk hG dX8_does_209 rfl (by rw [o_X8_does_0_1_r, if_neg c_1, if_pos c_2, if_pos c_9, if_pos c_10, if_neg c_12, if_pos c_14]) (by rw [o_X8_does_0_1_1, if_neg c_1, if_pos c_2, if_pos c_9, if_pos c_10, if_neg c_12, if_pos c_14])
              refine lv_icmp_ne (tgt := 208) hx hb dX8_does_179 (by decide) (fun c_15 => ?_) (fun c_15 => ?_)
              · skip
                exact k_5 sl _ _ _ (by rw [j_X8_does_0_1_5_0, if_neg c_15]) hG (lv_sub hl [0, 1, 2, 3, 4] rfl)
              · skip
                refine lv_aload_n hx hb dX8_does_182 rfl (lv_at hl 1 rfl) ?_
                refine gf_X8_16 C dX8_does_183 hG 0 rfl rfl ?_
                refine lv_iload_n hx hb dX8_does_186 rfl (lv_at hl 2 rfl) ?_
                refine lv_iconst (v := 4) hx hb dX8_does_187 (by decide) ?_
                refine lv_iadd hx hb dX8_does_188 ?_
                refine z_ti (y := 4) (by decide) ?_
                refine lv_iload_n hx hb dX8_does_189 rfl (lv_at hl 3 rfl) ?_
                refine lv_iadd hx hb dX8_does_190 ?_
                refine z_ti (y := 5) (by decide) ?_
                refine lv_iconst (v := 3) hx hb dX8_does_191 (by decide) ?_
                refine lv_aload_n hx hb dX8_does_192 rfl (lv_at hl 1 rfl) ?_
                refine gf_X8_16 C dX8_does_193 hG 0 rfl rfl ?_
                refine lv_iload_n hx hb dX8_does_196 rfl (lv_at hl 2 rfl) ?_
                refine lv_iconst (v := 4) hx hb dX8_does_197 (by decide) ?_
                refine lv_iadd hx hb dX8_does_198 ?_
                refine z_ti (y := 4) (by decide) ?_
                refine lv_iload_n hx hb dX8_does_199 rfl (lv_at hl 3 rfl) ?_
                refine lv_iadd hx hb dX8_does_200 ?_
                refine z_ti (y := 5) (by decide) ?_
                refine z_ild C dX8_does_201 hG 1 rfl 5 (by decide) (Nat.le_of_ble_eq_true rfl) (Nat.le_of_ble_eq_true rfl) ?_
                refine lv_iconst (v := 1) hx hb dX8_does_202 (by decide) ?_
                refine lv_iadd hx hb dX8_does_203 ?_
                refine call_X8_136 C dX8_does_204 (c_X8_smaller l E 3 ((sl 5) + 1)) hl hG [] (by decide) rfl (ads := []) rfl rfl (ws' := [(m, .inr (8, [.int (v 0), .int (v 1), .ref aS, .int (v 2), .int (v 3), .int (v 4), .ref aW, .int (v 5), .ref aL, .int (v 6), .int (v 7), .int (v 8), .ref aT, .int (v 9), .int (v 10), .int (v 11), .int (v 12), .ref a1, .ref a2, .ref a3, .ref aB, .int (v 13), .int (v 14)])), (aL, .inl (E.2.1.1, 156, .inl sl))]) rfl rfl (rest := [.int 5, .ref aL]) rfl (Nat.le_of_ble_eq_true rfl) ⟨Nat.le_of_ble_eq_true rfl, Nat.le_of_ble_eq_true rfl⟩ (fun H locs hG => ?_)
                refine z_ist C dX8_does_207 hG 1 rfl 5 (by decide) (Nat.le_of_ble_eq_true rfl) (Nat.le_of_ble_eq_true rfl) (ws' := [(m, .inr (8, [.int (v 0), .int (v 1), .ref aS, .int (v 2), .int (v 3), .int (v 4), .ref aW, .int (v 5), .ref aL, .int (v 6), .int (v 7), .int (v 8), .ref aT, .int (v 9), .int (v 10), .int (v 11), .int (v 12), .ref a1, .ref a2, .ref a3, .ref aB, .int (v 13), .int (v 14)])), (aL, .inl (E.2.1.1, 156, .inl (upd sl 5 (o_X8_smaller_r 3 ((sl 5) + 1)))))]) rfl (fun H locs hG => ?_)
                exact k_5 (upd sl 5 (o_X8_smaller_r 3 ((sl 5) + 1))) _ _ _ (by rw [j_X8_does_0_1_5_0, if_pos c_15]) hG (lv_sub hl [0, 1, 2, 3, 4] rfl)
            · skip
              refine lv_aload_n hx hb dX8_does_147 rfl (lv_at hl 1 rfl) ?_
              refine gf_X8_16 C dX8_does_148 hG 0 rfl rfl ?_
              refine lv_iload_n hx hb dX8_does_151 rfl (lv_at hl 2 rfl) ?_
              refine lv_bipush (v := 6) hx hb dX8_does_152 (by decide) ?_
              refine lv_iadd hx hb dX8_does_154 ?_
              refine z_ti (y := 6) (by decide) ?_
              refine lv_iload_n hx hb dX8_does_155 rfl (lv_at hl 3 rfl) ?_
              refine lv_iadd hx hb dX8_does_156 ?_
              refine z_ti (y := 7) (by decide) ?_
              refine lv_dup2_11 hx hb dX8_does_157 rfl rfl ?_
              refine z_ild C dX8_does_158 hG 1 rfl 7 (by decide) (Nat.le_of_ble_eq_true rfl) (Nat.le_of_ble_eq_true rfl) ?_
              refine lv_iconst (v := 1) hx hb dX8_does_159 (by decide) ?_
              refine lv_isub hx hb dX8_does_160 ?_
              refine z_ist C dX8_does_161 hG 1 rfl 7 (by decide) (Nat.le_of_ble_eq_true rfl) (Nat.le_of_ble_eq_true rfl) (ws' := [(m, .inr (8, [.int (v 0), .int (v 1), .ref aS, .int (v 2), .int (v 3), .int (v 4), .ref aW, .int (v 5), .ref aL, .int (v 6), .int (v 7), .int (v 8), .ref aT, .int (v 9), .int (v 10), .int (v 11), .int (v 12), .ref a1, .ref a2, .ref a3, .ref aB, .int (v 13), .int (v 14)])), (aL, .inl (E.2.1.1, 156, .inl (upd sl 7 ((sl 7) - 1))))]) rfl (fun H locs hG => ?_)
              refine lv_aload_n hx hb dX8_does_162 rfl (lv_at hl 1 rfl) ?_
              refine gf_X8_16 C dX8_does_163 hG 0 rfl rfl ?_
              refine lv_iload_n hx hb dX8_does_166 rfl (lv_at hl 2 rfl) ?_
              refine lv_bipush (v := 10) hx hb dX8_does_167 (by decide) ?_
              refine lv_iadd hx hb dX8_does_169 ?_
              refine z_ti (y := 10) (by decide) ?_
              refine lv_dup2_11 hx hb dX8_does_170 rfl rfl ?_
              refine z_ild C dX8_does_171 hG 1 rfl 10 (by decide) (Nat.le_of_ble_eq_true rfl) (Nat.le_of_ble_eq_true rfl) ?_
              refine lv_iconst (v := 1) hx hb dX8_does_172 (by decide) ?_
              refine lv_isub hx hb dX8_does_173 ?_
              refine z_ist C dX8_does_174 hG 1 rfl 10 (by decide) (Nat.le_of_ble_eq_true rfl) (Nat.le_of_ble_eq_true rfl) (ws' := [(m, .inr (8, [.int (v 0), .int (v 1), .ref aS, .int (v 2), .int (v 3), .int (v 4), .ref aW, .int (v 5), .ref aL, .int (v 6), .int (v 7), .int (v 8), .ref aT, .int (v 9), .int (v 10), .int (v 11), .int (v 12), .ref a1, .ref a2, .ref a3, .ref aB, .int (v 13), .int (v 14)])), (aL, .inl (E.2.1.1, 156, .inl (upd (upd sl 7 ((sl 7) - 1)) 10 (((upd sl 7 ((sl 7) - 1)) 10) - 1))))]) rfl (fun H locs hG => ?_)
              refine lv_iconst (v := 1) hx hb dX8_does_175 (by decide) ?_
              rw [hQ]
              exact z_iret C hr hlk hG dX8_does_176 rfl (by rw [o_X8_does_0_1_r, if_neg c_1, if_pos c_2, if_pos c_9, if_pos c_10, if_neg c_12, if_neg c_14]) (by rw [o_X8_does_0_1_1, if_neg c_1, if_pos c_2, if_pos c_9, if_pos c_10, if_neg c_12, if_neg c_14])
      · skip
        refine lv_aload_n hx hb dX8_does_58 rfl (lv_at hl 1 rfl) ?_
        refine gf_X8_16 C dX8_does_59 hG 0 rfl rfl ?_
        refine lv_iload_n hx hb dX8_does_62 rfl (lv_at hl 2 rfl) ?_
        refine lv_bipush (v := 6) hx hb dX8_does_63 (by decide) ?_
        refine lv_iadd hx hb dX8_does_65 ?_
        refine z_ti (y := 6) (by decide) ?_
        refine lv_iload_n hx hb dX8_does_66 rfl (lv_at hl 3 rfl) ?_
        refine lv_iadd hx hb dX8_does_67 ?_
        refine z_ti (y := 7) (by decide) ?_
        refine lv_dup2_11 hx hb dX8_does_68 rfl rfl ?_
        refine z_ild C dX8_does_69 hG 1 rfl 7 (by decide) (Nat.le_of_ble_eq_true rfl) (Nat.le_of_ble_eq_true rfl) ?_
        refine lv_iconst (v := 3) hx hb dX8_does_70 (by decide) ?_
        refine lv_isub hx hb dX8_does_71 ?_
        refine z_ist C dX8_does_72 hG 1 rfl 7 (by decide) (Nat.le_of_ble_eq_true rfl) (Nat.le_of_ble_eq_true rfl) (ws' := [(m, .inr (8, [.int (v 0), .int (v 1), .ref aS, .int (v 2), .int (v 3), .int (v 4), .ref aW, .int (v 5), .ref aL, .int (v 6), .int (v 7), .int (v 8), .ref aT, .int (v 9), .int (v 10), .int (v 11), .int (v 12), .ref a1, .ref a2, .ref a3, .ref aB, .int (v 13), .int (v 14)])), (aL, .inl (E.2.1.1, 156, .inl (upd sl 7 ((sl 7) - 3))))]) rfl (fun H locs hG => ?_)
        refine lv_aload_n hx hb dX8_does_73 rfl (lv_at hl 1 rfl) ?_
        refine gf_X8_16 C dX8_does_74 hG 0 rfl rfl ?_
        refine lv_iload_n hx hb dX8_does_77 rfl (lv_at hl 2 rfl) ?_
        refine lv_iconst (v := 2) hx hb dX8_does_78 (by decide) ?_
        refine lv_iadd hx hb dX8_does_79 ?_
        refine z_ti (y := 2) (by decide) ?_
        refine lv_iload_n hx hb dX8_does_80 rfl (lv_at hl 3 rfl) ?_
        refine lv_iadd hx hb dX8_does_81 ?_
        refine z_ti (y := 3) (by decide) ?_
        refine lv_iload hx hb dX8_does_82 (lv_at hl 0 rfl) ?_
        refine lv_iconst (v := 3) hx hb dX8_does_84 (by decide) ?_
        have k_6 : ∀ (y6_0 : Int32) (H : Heap) (locs : List Loc) (ls : Array Slot), (j_X8_does_0_1_6_0 v sl ac) = y6_0 → zG E zA zs.heap [(m, .inr (8, [.int (v 0), .int (v 1), .ref aS, .int (v 2), .int (v 3), .int (v 4), .ref aW, .int (v 5), .ref aL, .int (v 6), .int (v 7), .int (v 8), .ref aT, .int (v 9), .int (v 10), .int (v 11), .int (v 12), .ref a1, .ref a2, .ref a3, .ref aB, .int (v 13), .int (v 14)])), (aL, .inl (E.2.1.1, 156, .inl (upd sl 7 ((sl 7) - 3))))] H locs → lv_has ls 5 [(4, .int (sl 3)), (0, .ref m), (1, .int 0), (2, .int 1), (3, .int ac)] → W zp l ze (zR 1 21) zs zm za zb zt zc H locs 0 0 zq (F0 zm 101 ls [.int y6_0, .int 3, .ref aL]) := by
          intro y6_0 H locs ls e_y6_0 hG hl
          subst e_y6_0
          refine z_ist C dX8_does_101 hG 1 rfl 3 (by decide) (Nat.le_of_ble_eq_true rfl) (Nat.le_of_ble_eq_true rfl) (ws' := [(m, .inr (8, [.int (v 0), .int (v 1), .ref aS, .int (v 2), .int (v 3), .int (v 4), .ref aW, .int (v 5), .ref aL, .int (v 6), .int (v 7), .int (v 8), .ref aT, .int (v 9), .int (v 10), .int (v 11), .int (v 12), .ref a1, .ref a2, .ref a3, .ref aB, .int (v 13), .int (v 14)])), (aL, .inl (E.2.1.1, 156, .inl (upd (upd sl 7 ((sl 7) - 3)) 3 (j_X8_does_0_1_6_0 v sl ac))))]) rfl (fun H locs hG => ?_)
          refine lv_iload hx hb dX8_does_102 (lv_at hl 0 rfl) ?_
          refine lv_iconst (v := 3) hx hb dX8_does_104 (by decide) ?_
          refine lv_icmp_ge (tgt := 112) hx hb dX8_does_105 (by decide) (fun c_17 => ?_) (fun c_17 => ?_)
          · skip
            refine lv_iconst (v := 2) hx hb dX8_does_112 (by decide) ?_
            rw [hQ]
            exact z_iret C hr hlk hG dX8_does_113 rfl (by rw [o_X8_does_0_1_r, if_neg c_1, if_pos c_2, if_neg c_9, if_pos c_17]) (by rw [o_X8_does_0_1_1, if_neg c_1, if_pos c_2, if_neg c_9])
          · skip
            refine lv_iconst (v := 0) hx hb dX8_does_108 (by decide) ?_
            refine lv_goto (tgt := 113) hx hb dX8_does_109 (by decide) ?_
            rw [hQ]
            exact z_iret C hr hlk hG dX8_does_113 rfl (by rw [o_X8_does_0_1_r, if_neg c_1, if_pos c_2, if_neg c_9, if_neg c_17]) (by rw [o_X8_does_0_1_1, if_neg c_1, if_pos c_2, if_neg c_9])
        refine lv_icmp_ge (tgt := 99) hx hb dX8_does_85 (by decide) (fun c_16 => ?_) (fun c_16 => ?_)
        · skip
          refine lv_iload hx hb dX8_does_99 (lv_at hl 0 rfl) ?_
          exact k_6 (sl 3) _ _ _ (by rw [j_X8_does_0_1_6_0, if_pos c_16]) hG (lv_sub hl [0, 1, 2, 3, 4] rfl)
        · skip
          refine lv_iconst (v := 0) hx hb dX8_does_88 (by decide) ?_
          refine lv_iload hx hb dX8_does_89 (lv_at hl 0 rfl) ?_
          refine lv_iconst (v := 1) hx hb dX8_does_91 (by decide) ?_
          refine lv_isub hx hb dX8_does_92 ?_
          refine call_X8_133 C dX8_does_93 (c_X8_larger l E 0 ((sl 3) - 1)) hl hG [] (by decide) rfl (ads := []) rfl rfl (ws' := [(m, .inr (8, [.int (v 0), .int (v 1), .ref aS, .int (v 2), .int (v 3), .int (v 4), .ref aW, .int (v 5), .ref aL, .int (v 6), .int (v 7), .int (v 8), .ref aT, .int (v 9), .int (v 10), .int (v 11), .int (v 12), .ref a1, .ref a2, .ref a3, .ref aB, .int (v 13), .int (v 14)])), (aL, .inl (E.2.1.1, 156, .inl (upd sl 7 ((sl 7) - 3))))]) rfl rfl (rest := [.int 3, .ref aL]) rfl (Nat.le_of_ble_eq_true rfl) ⟨Nat.le_of_ble_eq_true rfl, Nat.le_of_ble_eq_true rfl⟩ (fun H locs hG => ?_)
          refine lv_goto (tgt := 101) hx hb dX8_does_96 (by decide) ?_
          exact k_6 (o_X8_larger_r 0 ((sl 3) - 1)) _ _ _ (by rw [j_X8_does_0_1_6_0, if_neg c_16]) hG (lv_sub hl [0, 1, 2, 3, 4] rfl)
  · skip
    refine lv_aload_n hx hb dX8_does_17 rfl (lv_at hl 1 rfl) ?_
    refine gf_X8_16 C dX8_does_18 hG 0 rfl rfl ?_
    refine lv_iload_n hx hb dX8_does_21 rfl (lv_at hl 2 rfl) ?_
    refine lv_iconst (v := 2) hx hb dX8_does_22 (by decide) ?_
    refine lv_iadd hx hb dX8_does_23 ?_
    refine z_ti (y := 2) (by decide) ?_
    refine lv_iload_n hx hb dX8_does_24 rfl (lv_at hl 3 rfl) ?_
    refine lv_iadd hx hb dX8_does_25 ?_
    refine z_ti (y := 3) (by decide) ?_
    refine lv_iconst (v := 0) hx hb dX8_does_26 (by decide) ?_
    refine lv_iload hx hb dX8_does_27 (lv_at hl 0 rfl) ?_
    refine lv_iconst (v := 2) hx hb dX8_does_29 (by decide) ?_
    refine lv_isub hx hb dX8_does_30 ?_
    refine call_X8_133 C dX8_does_31 (c_X8_larger l E 0 ((sl 3) - 2)) hl hG [] (by decide) rfl (ads := []) rfl rfl (ws' := [(m, .inr (8, [.int (v 0), .int (v 1), .ref aS, .int (v 2), .int (v 3), .int (v 4), .ref aW, .int (v 5), .ref aL, .int (v 6), .int (v 7), .int (v 8), .ref aT, .int (v 9), .int (v 10), .int (v 11), .int (v 12), .ref a1, .ref a2, .ref a3, .ref aB, .int (v 13), .int (v 14)])), (aL, .inl (E.2.1.1, 156, .inl sl))]) rfl rfl (rest := [.int 3, .ref aL]) rfl (Nat.le_of_ble_eq_true rfl) ⟨Nat.le_of_ble_eq_true rfl, Nat.le_of_ble_eq_true rfl⟩ (fun H locs hG => ?_)
    refine z_ist C dX8_does_34 hG 1 rfl 3 (by decide) (Nat.le_of_ble_eq_true rfl) (Nat.le_of_ble_eq_true rfl) (ws' := [(m, .inr (8, [.int (v 0), .int (v 1), .ref aS, .int (v 2), .int (v 3), .int (v 4), .ref aW, .int (v 5), .ref aL, .int (v 6), .int (v 7), .int (v 8), .ref aT, .int (v 9), .int (v 10), .int (v 11), .int (v 12), .ref a1, .ref a2, .ref a3, .ref aB, .int (v 13), .int (v 14)])), (aL, .inl (E.2.1.1, 156, .inl (upd sl 3 (o_X8_larger_r 0 ((sl 3) - 2)))))]) rfl (fun H locs hG => ?_)
    refine lv_goto (tgt := 208) hx hb dX8_does_35 (by decide) ?_
    refine lv_iconst (v := 0) hx hb dX8_does_208 (by decide) ?_
    rw [hQ]
    exact z_iret C hr hlk hG dX8_does_209 rfl (by rw [o_X8_does_0_1_r, if_pos c_1]) (by rw [o_X8_does_0_1_1, if_pos c_1])
def j_X8_rises_0_1_0_0 (v : Nat → Int32) (sl : Nat → Int32) (more : Int32) (dr : Int32) : Int32 := (if (o_X8_bound_r (sl 1)) < (sl 3) then 1 else (if dr = 0 then 0 else (if more = 1 then 0 else 1)))
def j_X8_rises_0_1_1_0 (v : Nat → Int32) (sl : Nat → Int32) (more : Int32) (dr : Int32) : Int32 := (if (j_X8_rises_0_1_0_0 v sl more dr) = 0 then (o_X8_larger_r 0 (o_X8_smaller_r (o_X8_bound_r (sl 1)) (((sl 3) + (o_X8_grows_r (sl 1) ((sl 11) - (sl 11) / 12 * 12))) + more))) else (sl 3))
def o_X8_rises_0_1_1 (v : Nat → Int32) (sl : Nat → Int32) (more : Int32) (dr : Int32) : Nat → Int32 := (upd sl 3 (j_X8_rises_0_1_1_0 v sl more dr))
set_option maxRecDepth 100000 in
set_option maxHeartbeats 4000000 in
theorem c_X8_rises_0_1 (l : Launch) (E : zE) (v : Nat → Int32) (sl : Nat → Int32) (more : Int32) (dr : Int32) (m aS aW aL aT a1 a2 a3 aB : Nat) : HM l E yX8_rises cX8_rises 9 none 1 22 [.ref m, .int 0, .int 1, .int more, .int dr] [(m, .inr (8, [.int (v 0), .int (v 1), .ref aS, .int (v 2), .int (v 3), .int (v 4), .ref aW, .int (v 5), .ref aL, .int (v 6), .int (v 7), .int (v 8), .ref aT, .int (v 9), .int (v 10), .int (v 11), .int (v 12), .ref a1, .ref a2, .ref a3, .ref aB, .int (v 13), .int (v 14)])), (aL, .inl (E.2.1.1, 156, .inl sl))] none [(m, .inr (8, [.int (v 0), .int (v 1), .ref aS, .int (v 2), .int (v 3), .int (v 4), .ref aW, .int (v 5), .ref aL, .int (v 6), .int (v 7), .int (v 8), .ref aT, .int (v 9), .int (v 10), .int (v 11), .int (v 12), .ref a1, .ref a2, .ref a3, .ref aB, .int (v 13), .int (v 14)])), (aL, .inl (E.2.1.1, 156, .inl (o_X8_rises_0_1_1 v sl more dr)))] := by
  refine HM.of (own := RX8) (plainFor_of_name (by decide)) rfl (Nat.le_of_ble_eq_true rfl) ?_
  intro zp ze zs zm za zb zt zc zA ls H locs zq C hr hlk hG hl hQ
  have hx := C.1.1
  have hb := C.1.2.1
  replace hl : lv_has ls 9 [(0, .ref m), (1, .int 0), (2, .int 1), (3, .int more), (4, .int dr)] := hl
  refine lv_aload_n hx hb dX8_rises_0 rfl (lv_at hl 0 rfl) ?_
  refine gf_X8_16 C dX8_rises_1 hG 0 rfl rfl ?_
  refine lv_iload_n hx hb dX8_rises_4 rfl (lv_at hl 1 rfl) ?_
  refine lv_iload_n hx hb dX8_rises_5 rfl (lv_at hl 2 rfl) ?_
  refine lv_iadd hx hb dX8_rises_6 ?_
  refine z_ti (y := 1) (by decide) ?_
  refine z_ild C dX8_rises_7 hG 1 rfl 1 (by decide) (Nat.le_of_ble_eq_true rfl) (Nat.le_of_ble_eq_true rfl) ?_
  refine lv_istore (lv' := [(5, .int (sl 1)), (0, .ref m), (1, .int 0), (2, .int 1), (3, .int more), (4, .int dr)]) hx hb dX8_rises_8 hl (by decide) rfl (fun ls hl => ?_)
  refine lv_aload_n hx hb dX8_rises_10 rfl (lv_at hl 1 rfl) ?_
  refine gf_X8_16 C dX8_rises_11 hG 0 rfl rfl ?_
  refine lv_iload_n hx hb dX8_rises_14 rfl (lv_at hl 2 rfl) ?_
  refine lv_iconst (v := 2) hx hb dX8_rises_15 (by decide) ?_
  refine lv_iadd hx hb dX8_rises_16 ?_
  refine z_ti (y := 2) (by decide) ?_
  refine lv_iload_n hx hb dX8_rises_17 rfl (lv_at hl 3 rfl) ?_
  refine lv_iadd hx hb dX8_rises_18 ?_
  refine z_ti (y := 3) (by decide) ?_
  refine z_ild C dX8_rises_19 hG 1 rfl 3 (by decide) (Nat.le_of_ble_eq_true rfl) (Nat.le_of_ble_eq_true rfl) ?_
  refine lv_istore (lv' := [(6, .int (sl 3)), (5, .int (sl 1)), (0, .ref m), (1, .int 0), (2, .int 1), (3, .int more), (4, .int dr)]) hx hb dX8_rises_20 hl (by decide) rfl (fun ls hl => ?_)
  refine lv_iload hx hb dX8_rises_22 (lv_at hl 0 rfl) ?_
  refine lv_iload hx hb dX8_rises_24 (lv_at hl 1 rfl) ?_
  refine call_X8_139 C dX8_rises_26 (c_X8_bound l E (sl 1)) hl hG [] (by decide) rfl (ads := []) rfl rfl (ws' := [(m, .inr (8, [.int (v 0), .int (v 1), .ref aS, .int (v 2), .int (v 3), .int (v 4), .ref aW, .int (v 5), .ref aL, .int (v 6), .int (v 7), .int (v 8), .ref aT, .int (v 9), .int (v 10), .int (v 11), .int (v 12), .ref a1, .ref a2, .ref a3, .ref aB, .int (v 13), .int (v 14)])), (aL, .inl (E.2.1.1, 156, .inl sl))]) rfl rfl (rest := [.int (sl 3)]) rfl (Nat.le_of_ble_eq_true rfl) ⟨Nat.le_of_ble_eq_true rfl, Nat.le_of_ble_eq_true rfl⟩ (fun H locs hG => ?_)
  have k_0 : ∀ (y0_0 : Int32) (H : Heap) (locs : List Loc) (ls : Array Slot), (j_X8_rises_0_1_0_0 v sl more dr) = y0_0 → zG E zA zs.heap [(m, .inr (8, [.int (v 0), .int (v 1), .ref aS, .int (v 2), .int (v 3), .int (v 4), .ref aW, .int (v 5), .ref aL, .int (v 6), .int (v 7), .int (v 8), .ref aT, .int (v 9), .int (v 10), .int (v 11), .int (v 12), .ref a1, .ref a2, .ref a3, .ref aB, .int (v 13), .int (v 14)])), (aL, .inl (E.2.1.1, 156, .inl sl))] H locs → lv_has ls 9 [(6, .int (sl 3)), (5, .int (sl 1)), (0, .ref m), (1, .int 0), (2, .int 1), (3, .int more), (4, .int dr)] → W zp l ze (zR 1 22) zs zm za zb zt zc H locs 0 0 zq (F0 zm 47 ls [.int y0_0]) := by
    intro y0_0 H locs ls e_y0_0 hG hl
    subst e_y0_0
    refine lv_istore (lv' := [(7, .int (j_X8_rises_0_1_0_0 v sl more dr)), (6, .int (sl 3)), (5, .int (sl 1)), (0, .ref m), (1, .int 0), (2, .int 1), (3, .int more), (4, .int dr)]) hx hb dX8_rises_47 hl (by decide) rfl (fun ls hl => ?_)
    refine lv_iload hx hb dX8_rises_49 (lv_at hl 1 rfl) ?_
    refine lv_iload hx hb dX8_rises_51 (lv_at hl 2 rfl) ?_
    refine lv_aload_n hx hb dX8_rises_53 rfl (lv_at hl 3 rfl) ?_
    refine gf_X8_16 C dX8_rises_54 hG 0 rfl rfl ?_
    refine lv_iload_n hx hb dX8_rises_57 rfl (lv_at hl 4 rfl) ?_
    refine lv_bipush (v := 11) hx hb dX8_rises_58 (by decide) ?_
    refine lv_iadd hx hb dX8_rises_60 ?_
    refine z_ti (y := 11) (by decide) ?_
    refine z_ild C dX8_rises_61 hG 1 rfl 11 (by decide) (Nat.le_of_ble_eq_true rfl) (Nat.le_of_ble_eq_true rfl) ?_
    refine lv_bipush (v := 12) hx hb dX8_rises_62 (by decide) ?_
    refine lv_irem hx hb dX8_rises_64 (by decide) ?_
    refine call_X8_142 C dX8_rises_65 (c_X8_grows l E (sl 1) ((sl 11) - (sl 11) / 12 * 12)) hl hG [] (by decide) rfl (ads := []) rfl rfl (ws' := [(m, .inr (8, [.int (v 0), .int (v 1), .ref aS, .int (v 2), .int (v 3), .int (v 4), .ref aW, .int (v 5), .ref aL, .int (v 6), .int (v 7), .int (v 8), .ref aT, .int (v 9), .int (v 10), .int (v 11), .int (v 12), .ref a1, .ref a2, .ref a3, .ref aB, .int (v 13), .int (v 14)])), (aL, .inl (E.2.1.1, 156, .inl sl))]) rfl rfl (rest := [.int (sl 3)]) rfl (Nat.le_of_ble_eq_true rfl) ⟨Nat.le_of_ble_eq_true rfl, Nat.le_of_ble_eq_true rfl⟩ (fun H locs hG => ?_)
    refine lv_iadd hx hb dX8_rises_68 ?_
    refine lv_iload_n hx hb dX8_rises_69 rfl (lv_at hl 6 rfl) ?_
    refine lv_iadd hx hb dX8_rises_70 ?_
    refine lv_istore (lv' := [(8, .int (((sl 3) + (o_X8_grows_r (sl 1) ((sl 11) - (sl 11) / 12 * 12))) + more)), (7, .int (j_X8_rises_0_1_0_0 v sl more dr)), (6, .int (sl 3)), (5, .int (sl 1)), (0, .ref m), (1, .int 0), (2, .int 1), (3, .int more), (4, .int dr)]) hx hb dX8_rises_71 hl (by decide) rfl (fun ls hl => ?_)
    refine lv_aload_n hx hb dX8_rises_73 rfl (lv_at hl 4 rfl) ?_
    refine gf_X8_16 C dX8_rises_74 hG 0 rfl rfl ?_
    refine lv_iload_n hx hb dX8_rises_77 rfl (lv_at hl 5 rfl) ?_
    refine lv_iconst (v := 2) hx hb dX8_rises_78 (by decide) ?_
    refine lv_iadd hx hb dX8_rises_79 ?_
    refine z_ti (y := 2) (by decide) ?_
    refine lv_iload_n hx hb dX8_rises_80 rfl (lv_at hl 6 rfl) ?_
    refine lv_iadd hx hb dX8_rises_81 ?_
    refine z_ti (y := 3) (by decide) ?_
    refine lv_iload hx hb dX8_rises_82 (lv_at hl 1 rfl) ?_
    have k_1 : ∀ (y1_0 : Int32) (H : Heap) (locs : List Loc) (ls : Array Slot), (j_X8_rises_0_1_1_0 v sl more dr) = y1_0 → zG E zA zs.heap [(m, .inr (8, [.int (v 0), .int (v 1), .ref aS, .int (v 2), .int (v 3), .int (v 4), .ref aW, .int (v 5), .ref aL, .int (v 6), .int (v 7), .int (v 8), .ref aT, .int (v 9), .int (v 10), .int (v 11), .int (v 12), .ref a1, .ref a2, .ref a3, .ref aB, .int (v 13), .int (v 14)])), (aL, .inl (E.2.1.1, 156, .inl sl))] H locs → lv_has ls 9 [(8, .int (((sl 3) + (o_X8_grows_r (sl 1) ((sl 11) - (sl 11) / 12 * 12))) + more)), (7, .int (j_X8_rises_0_1_0_0 v sl more dr)), (6, .int (sl 3)), (5, .int (sl 1)), (0, .ref m), (1, .int 0), (2, .int 1), (3, .int more), (4, .int dr)] → W zp l ze (zR 1 22) zs zm za zb zt zc H locs 0 0 zq (F0 zm 106 ls [.int y1_0, .int 3, .ref aL]) := by
      intro y1_0 H locs ls e_y1_0 hG hl
      subst e_y1_0
      refine z_ist C dX8_rises_106 hG 1 rfl 3 (by decide) (Nat.le_of_ble_eq_true rfl) (Nat.le_of_ble_eq_true rfl) (ws' := [(m, .inr (8, [.int (v 0), .int (v 1), .ref aS, .int (v 2), .int (v 3), .int (v 4), .ref aW, .int (v 5), .ref aL, .int (v 6), .int (v 7), .int (v 8), .ref aT, .int (v 9), .int (v 10), .int (v 11), .int (v 12), .ref a1, .ref a2, .ref a3, .ref aB, .int (v 13), .int (v 14)])), (aL, .inl (E.2.1.1, 156, .inl (upd sl 3 (j_X8_rises_0_1_1_0 v sl more dr))))]) rfl (fun H locs hG => ?_)
      rw [hQ]
      exact z_vret C hr hlk hG dX8_rises_107 rfl (by rw [o_X8_rises_0_1_1])
    refine lv_if_eq (tgt := 92) hx hb dX8_rises_84 (by decide) (fun c_4 => ?_) (fun c_4 => ?_)
    · skip
      refine lv_iconst (v := 0) hx hb dX8_rises_92 (by decide) ?_
      refine lv_iload hx hb dX8_rises_93 (lv_at hl 3 rfl) ?_
      refine call_X8_139 C dX8_rises_95 (c_X8_bound l E (sl 1)) hl hG [] (by decide) rfl (ads := []) rfl rfl (ws' := [(m, .inr (8, [.int (v 0), .int (v 1), .ref aS, .int (v 2), .int (v 3), .int (v 4), .ref aW, .int (v 5), .ref aL, .int (v 6), .int (v 7), .int (v 8), .ref aT, .int (v 9), .int (v 10), .int (v 11), .int (v 12), .ref a1, .ref a2, .ref a3, .ref aB, .int (v 13), .int (v 14)])), (aL, .inl (E.2.1.1, 156, .inl sl))]) rfl rfl (rest := [.int 0, .int 3, .ref aL]) rfl (Nat.le_of_ble_eq_true rfl) ⟨Nat.le_of_ble_eq_true rfl, Nat.le_of_ble_eq_true rfl⟩ (fun H locs hG => ?_)
      refine lv_iload hx hb dX8_rises_98 (lv_at hl 0 rfl) ?_
      refine call_X8_136 C dX8_rises_100 (c_X8_smaller l E (o_X8_bound_r (sl 1)) (((sl 3) + (o_X8_grows_r (sl 1) ((sl 11) - (sl 11) / 12 * 12))) + more)) hl hG [] (by decide) rfl (ads := []) rfl rfl (ws' := [(m, .inr (8, [.int (v 0), .int (v 1), .ref aS, .int (v 2), .int (v 3), .int (v 4), .ref aW, .int (v 5), .ref aL, .int (v 6), .int (v 7), .int (v 8), .ref aT, .int (v 9), .int (v 10), .int (v 11), .int (v 12), .ref a1, .ref a2, .ref a3, .ref aB, .int (v 13), .int (v 14)])), (aL, .inl (E.2.1.1, 156, .inl sl))]) rfl rfl (rest := [.int 0, .int 3, .ref aL]) rfl (Nat.le_of_ble_eq_true rfl) ⟨Nat.le_of_ble_eq_true rfl, Nat.le_of_ble_eq_true rfl⟩ (fun H locs hG => ?_)
      refine call_X8_133 C dX8_rises_103 (c_X8_larger l E 0 (o_X8_smaller_r (o_X8_bound_r (sl 1)) (((sl 3) + (o_X8_grows_r (sl 1) ((sl 11) - (sl 11) / 12 * 12))) + more))) hl hG [] (by decide) rfl (ads := []) rfl rfl (ws' := [(m, .inr (8, [.int (v 0), .int (v 1), .ref aS, .int (v 2), .int (v 3), .int (v 4), .ref aW, .int (v 5), .ref aL, .int (v 6), .int (v 7), .int (v 8), .ref aT, .int (v 9), .int (v 10), .int (v 11), .int (v 12), .ref a1, .ref a2, .ref a3, .ref aB, .int (v 13), .int (v 14)])), (aL, .inl (E.2.1.1, 156, .inl sl))]) rfl rfl (rest := [.int 3, .ref aL]) rfl (Nat.le_of_ble_eq_true rfl) ⟨Nat.le_of_ble_eq_true rfl, Nat.le_of_ble_eq_true rfl⟩ (fun H locs hG => ?_)
      exact k_1 (o_X8_larger_r 0 (o_X8_smaller_r (o_X8_bound_r (sl 1)) (((sl 3) + (o_X8_grows_r (sl 1) ((sl 11) - (sl 11) / 12 * 12))) + more))) _ _ _ (by rw [j_X8_rises_0_1_1_0, if_pos c_4]) hG (lv_sub hl [0, 1, 2, 3, 4, 5, 6, 7, 8] rfl)
    · skip
      refine lv_iload hx hb dX8_rises_87 (lv_at hl 2 rfl) ?_
      refine lv_goto (tgt := 106) hx hb dX8_rises_89 (by decide) ?_
      exact k_1 (sl 3) _ _ _ (by rw [j_X8_rises_0_1_1_0, if_neg c_4]) hG (lv_sub hl [0, 1, 2, 3, 4, 5, 6, 7, 8] rfl)
  refine lv_icmp_gt (tgt := 42) hx hb dX8_rises_29 (by decide) (fun c_1 => ?_) (fun c_1 => ?_)
  · skip
    refine lv_iconst (v := 1) hx hb dX8_rises_42 (by decide) ?_
    refine lv_goto (tgt := 47) hx hb dX8_rises_43 (by decide) ?_
    exact k_0 1 _ _ _ (by rw [j_X8_rises_0_1_0_0, if_pos c_1]) hG (lv_sub hl [0, 1, 2, 3, 4, 5, 6] rfl)
  · skip
    refine lv_iload hx hb dX8_rises_32 (lv_at hl 6 rfl) ?_
    refine lv_if_eq (tgt := 46) hx hb dX8_rises_34 (by decide) (fun c_5 => ?_) (fun c_5 => ?_)
    · skip
      refine lv_iconst (v := 0) hx hb dX8_rises_46 (by decide) ?_
      exact k_0 0 _ _ _ (by rw [j_X8_rises_0_1_0_0, if_neg c_1, if_pos c_5]) hG (lv_sub hl [0, 1, 2, 3, 4, 5, 6] rfl)
    · skip
      refine lv_iload_n hx hb dX8_rises_37 rfl (lv_at hl 5 rfl) ?_
      refine lv_iconst (v := 1) hx hb dX8_rises_38 (by decide) ?_
      refine lv_icmp_eq (tgt := 46) hx hb dX8_rises_39 (by decide) (fun c_6 => ?_) (fun c_6 => ?_)
      · skip
        refine lv_iconst (v := 0) hx hb dX8_rises_46 (by decide) ?_
        exact k_0 0 _ _ _ (by rw [j_X8_rises_0_1_0_0, if_neg c_1, if_neg c_5, if_pos c_6]) hG (lv_sub hl [0, 1, 2, 3, 4, 5, 6] rfl)
      · skip
        refine lv_iconst (v := 1) hx hb dX8_rises_42 (by decide) ?_
        refine lv_goto (tgt := 47) hx hb dX8_rises_43 (by decide) ?_
        exact k_0 1 _ _ _ (by rw [j_X8_rises_0_1_0_0, if_neg c_1, if_neg c_5, if_neg c_6]) hG (lv_sub hl [0, 1, 2, 3, 4, 5, 6] rfl)
def o_X8_isShaded_0_0_r (v : Nat → Int32) (ms : Nat → Int32) (sl : Nat → Int32) : Int32 := (if (o_X8_shadow_0_1_r v ms sl) < ((v 0) - (sl 5)) then 0 else (if (sl 3) ≤ (sl 2) then 0 else 1))
set_option maxRecDepth 100000 in
set_option maxHeartbeats 4000000 in
theorem c_X8_isShaded_0_0 (l : Launch) (E : zE) (v : Nat → Int32) (ms : Nat → Int32) (sl : Nat → Int32) (m aS aW aL aT a1 a2 a3 aB : Nat) (hM : 0 ≤ (sl 11).toInt) : HM l E yX8_isShaded cX8_isShaded 4 (some .boolean) 2 43 [.ref m, .int 0, .int 0] [(m, .inr (8, [.int (v 0), .int (v 1), .ref aS, .int (v 2), .int (v 3), .int (v 4), .ref aW, .int (v 5), .ref aL, .int (v 6), .int (v 7), .int (v 8), .ref aT, .int (v 9), .int (v 10), .int (v 11), .int (v 12), .ref a1, .ref a2, .ref a3, .ref aB, .int (v 13), .int (v 14)])), (aS, .inl (E.2.1.1, 12, .inl ms)), (aL, .inl (E.2.1.1, 156, .inl sl))] (some (.int (o_X8_isShaded_0_0_r v ms sl))) [(m, .inr (8, [.int (v 0), .int (v 1), .ref aS, .int (v 2), .int (v 3), .int (v 4), .ref aW, .int (v 5), .ref aL, .int (v 6), .int (v 7), .int (v 8), .ref aT, .int (v 9), .int (v 10), .int (v 11), .int (v 12), .ref a1, .ref a2, .ref a3, .ref aB, .int (v 13), .int (v 14)])), (aS, .inl (E.2.1.1, 12, .inl ms)), (aL, .inl (E.2.1.1, 156, .inl sl))] := by
  refine HM.of (own := RX8) (plainFor_of_name (by decide)) rfl (Nat.le_of_ble_eq_true rfl) ?_
  intro zp ze zs zm za zb zt zc zA ls H locs zq C hr hlk hG hl hQ
  have hx := C.1.1
  have hb := C.1.2.1
  replace hl : lv_has ls 4 [(0, .ref m), (1, .int 0), (2, .int 0)] := hl
  refine lv_iconst (v := 1) hx hb dX8_isShaded_0 (by decide) ?_
  refine lv_iload_n hx hb dX8_isShaded_1 rfl (lv_at hl 2 rfl) ?_
  refine lv_isub hx hb dX8_isShaded_2 ?_
  refine z_ti (y := 1) (by decide) ?_
  refine lv_istore_n (lv' := [(3, .int 1), (0, .ref m), (1, .int 0), (2, .int 0)]) hx hb dX8_isShaded_3 rfl hl (by decide) rfl (fun ls hl => ?_)
  refine lv_aload_n hx hb dX8_isShaded_4 rfl (lv_at hl 1 rfl) ?_
  refine lv_iload_n hx hb dX8_isShaded_5 rfl (lv_at hl 2 rfl) ?_
  refine lv_iload_n hx hb dX8_isShaded_6 rfl (lv_at hl 0 rfl) ?_
  refine call_X8_118 C dX8_isShaded_7 (c_X8_shadow_0_1 l E v ms sl m aS aW aL aT a1 a2 a3 aB (by first | exact hM | (simpa [upd] using hM))) hl hG 0 rfl [0, 1, 2] (by decide) rfl (ads := [m, aS, aL]) rfl rfl (ws' := [(m, .inr (8, [.int (v 0), .int (v 1), .ref aS, .int (v 2), .int (v 3), .int (v 4), .ref aW, .int (v 5), .ref aL, .int (v 6), .int (v 7), .int (v 8), .ref aT, .int (v 9), .int (v 10), .int (v 11), .int (v 12), .ref a1, .ref a2, .ref a3, .ref aB, .int (v 13), .int (v 14)])), (aS, .inl (E.2.1.1, 12, .inl ms)), (aL, .inl (E.2.1.1, 156, .inl sl))]) rfl rfl (rest := []) rfl (Nat.le_of_ble_eq_true rfl) ⟨Nat.le_of_ble_eq_true rfl, Nat.le_of_ble_eq_true rfl⟩ (fun H locs hG => ?_)
  refine lv_aload_n hx hb dX8_isShaded_10 rfl (lv_at hl 1 rfl) ?_
  refine gf_X8_35 C dX8_isShaded_11 hG 0 rfl rfl ?_
  refine lv_aload_n hx hb dX8_isShaded_14 rfl (lv_at hl 1 rfl) ?_
  refine gf_X8_16 C dX8_isShaded_15 hG 0 rfl rfl ?_
  refine lv_iload_n hx hb dX8_isShaded_18 rfl (lv_at hl 2 rfl) ?_
  refine lv_iconst (v := 4) hx hb dX8_isShaded_19 (by decide) ?_
  refine lv_iadd hx hb dX8_isShaded_20 ?_
  refine z_ti (y := 4) (by decide) ?_
  refine lv_iload_n hx hb dX8_isShaded_21 rfl (lv_at hl 0 rfl) ?_
  refine lv_iadd hx hb dX8_isShaded_22 ?_
  refine z_ti (y := 5) (by decide) ?_
  refine z_ild C dX8_isShaded_23 hG 2 rfl 5 (by decide) (Nat.le_of_ble_eq_true rfl) (Nat.le_of_ble_eq_true rfl) ?_
  refine lv_isub hx hb dX8_isShaded_24 ?_
  refine lv_icmp_lt (tgt := 55) hx hb dX8_isShaded_25 (by decide) (fun c_1 => ?_) (fun c_1 => ?_)
  · skip
    refine lv_iconst (v := 0) hx hb dX8_isShaded_55 (by decide) ?_
    rw [hQ]
    exact z_iret C hr hlk hG dX8_isShaded_56 rfl (by rw [o_X8_isShaded_0_0_r, if_pos c_1]) rfl
  · skip
    refine lv_aload_n hx hb dX8_isShaded_28 rfl (lv_at hl 1 rfl) ?_
    refine gf_X8_16 C dX8_isShaded_29 hG 0 rfl rfl ?_
    refine lv_iload_n hx hb dX8_isShaded_32 rfl (lv_at hl 2 rfl) ?_
    refine lv_iconst (v := 2) hx hb dX8_isShaded_33 (by decide) ?_
    refine lv_iadd hx hb dX8_isShaded_34 ?_
    refine z_ti (y := 2) (by decide) ?_
    refine lv_iload_n hx hb dX8_isShaded_35 rfl (lv_at hl 3 rfl) ?_
    refine lv_iadd hx hb dX8_isShaded_36 ?_
    refine z_ti (y := 2) (by decide) ?_
    refine z_ild C dX8_isShaded_37 hG 2 rfl 2 (by decide) (Nat.le_of_ble_eq_true rfl) (Nat.le_of_ble_eq_true rfl) ?_
    refine lv_aload_n hx hb dX8_isShaded_38 rfl (lv_at hl 1 rfl) ?_
    refine gf_X8_16 C dX8_isShaded_39 hG 0 rfl rfl ?_
    refine lv_iload_n hx hb dX8_isShaded_42 rfl (lv_at hl 2 rfl) ?_
    refine lv_iconst (v := 2) hx hb dX8_isShaded_43 (by decide) ?_
    refine lv_iadd hx hb dX8_isShaded_44 ?_
    refine z_ti (y := 2) (by decide) ?_
    refine lv_iload_n hx hb dX8_isShaded_45 rfl (lv_at hl 0 rfl) ?_
    refine lv_iadd hx hb dX8_isShaded_46 ?_
    refine z_ti (y := 3) (by decide) ?_
    refine z_ild C dX8_isShaded_47 hG 2 rfl 3 (by decide) (Nat.le_of_ble_eq_true rfl) (Nat.le_of_ble_eq_true rfl) ?_
    refine lv_icmp_ge (tgt := 55) hx hb dX8_isShaded_48 (by decide) (fun c_2 => ?_) (fun c_2 => ?_)
    · skip
      refine lv_iconst (v := 0) hx hb dX8_isShaded_55 (by decide) ?_
      rw [hQ]
      exact z_iret C hr hlk hG dX8_isShaded_56 rfl (by rw [o_X8_isShaded_0_0_r, if_neg c_1, if_pos c_2]) rfl
    · skip
      refine lv_iconst (v := 1) hx hb dX8_isShaded_51 (by decide) ?_
      refine lv_goto (tgt := 56) hx hb dX8_isShaded_52 (by decide) ?_
      rw [hQ]
      exact z_iret C hr hlk hG dX8_isShaded_56 rfl (by rw [o_X8_isShaded_0_0_r, if_neg c_1, if_neg c_2]) rfl
theorem o_X8_isShaded_0_0_b (v : Nat → Int32) (ms : Nat → Int32) (sl : Nat → Int32) : o_X8_isShaded_0_0_r v ms sl = 0 ∨ o_X8_isShaded_0_0_r v ms sl = 1 := by
  unfold o_X8_isShaded_0_0_r; (repeat' split) <;> first | exact Or.inl rfl | exact Or.inr rfl
theorem gn_does_0_0 (v sl : Nat → Int32) (ac : Int32) : o_X8_does_0_0_1 v sl ac 11 = sl 11 := by
  simp only [j_X8_does_0_0_0_0, j_X8_does_0_0_1_0, j_X8_does_0_0_2_0, j_X8_does_0_0_3_0, j_X8_does_0_0_4_0, j_X8_does_0_0_5_0, j_X8_does_0_0_6_0, o_X8_does_0_0_r, o_X8_does_0_0_1]; (repeat' split) <;> simp [upd]
theorem gn_rises_0_0 (v sl : Nat → Int32) (more dr : Int32) : o_X8_rises_0_0_1 v sl more dr 11 = sl 11 := by
  simp [j_X8_rises_0_0_0_0, j_X8_rises_0_0_1_0, o_X8_rises_0_0_1, upd]
def o_X8_isShaded_0_1_r (v : Nat → Int32) (ms : Nat → Int32) (sl : Nat → Int32) : Int32 := (if (o_X8_shadow_0_0_r v ms sl) < ((v 0) - (sl 4)) then 0 else (if (sl 2) ≤ (sl 3) then 0 else 1))
set_option maxRecDepth 100000 in
set_option maxHeartbeats 4000000 in
theorem c_X8_isShaded_0_1 (l : Launch) (E : zE) (v : Nat → Int32) (ms : Nat → Int32) (sl : Nat → Int32) (m aS aW aL aT a1 a2 a3 aB : Nat) (hM : 0 ≤ (sl 11).toInt) : HM l E yX8_isShaded cX8_isShaded 4 (some .boolean) 2 43 [.ref m, .int 0, .int 1] [(m, .inr (8, [.int (v 0), .int (v 1), .ref aS, .int (v 2), .int (v 3), .int (v 4), .ref aW, .int (v 5), .ref aL, .int (v 6), .int (v 7), .int (v 8), .ref aT, .int (v 9), .int (v 10), .int (v 11), .int (v 12), .ref a1, .ref a2, .ref a3, .ref aB, .int (v 13), .int (v 14)])), (aS, .inl (E.2.1.1, 12, .inl ms)), (aL, .inl (E.2.1.1, 156, .inl sl))] (some (.int (o_X8_isShaded_0_1_r v ms sl))) [(m, .inr (8, [.int (v 0), .int (v 1), .ref aS, .int (v 2), .int (v 3), .int (v 4), .ref aW, .int (v 5), .ref aL, .int (v 6), .int (v 7), .int (v 8), .ref aT, .int (v 9), .int (v 10), .int (v 11), .int (v 12), .ref a1, .ref a2, .ref a3, .ref aB, .int (v 13), .int (v 14)])), (aS, .inl (E.2.1.1, 12, .inl ms)), (aL, .inl (E.2.1.1, 156, .inl sl))] := by
  refine HM.of (own := RX8) (plainFor_of_name (by decide)) rfl (Nat.le_of_ble_eq_true rfl) ?_
  intro zp ze zs zm za zb zt zc zA ls H locs zq C hr hlk hG hl hQ
  have hx := C.1.1
  have hb := C.1.2.1
  replace hl : lv_has ls 4 [(0, .ref m), (1, .int 0), (2, .int 1)] := hl
  refine lv_iconst (v := 1) hx hb dX8_isShaded_0 (by decide) ?_
  refine lv_iload_n hx hb dX8_isShaded_1 rfl (lv_at hl 2 rfl) ?_
  refine lv_isub hx hb dX8_isShaded_2 ?_
  refine z_ti (y := 0) (by decide) ?_
  refine lv_istore_n (lv' := [(3, .int 0), (0, .ref m), (1, .int 0), (2, .int 1)]) hx hb dX8_isShaded_3 rfl hl (by decide) rfl (fun ls hl => ?_)
  refine lv_aload_n hx hb dX8_isShaded_4 rfl (lv_at hl 1 rfl) ?_
  refine lv_iload_n hx hb dX8_isShaded_5 rfl (lv_at hl 2 rfl) ?_
  refine lv_iload_n hx hb dX8_isShaded_6 rfl (lv_at hl 0 rfl) ?_
  refine call_X8_118 C dX8_isShaded_7 (c_X8_shadow_0_0 l E v ms sl m aS aW aL aT a1 a2 a3 aB (by first | exact hM | (simpa [upd, gn_does_0_0, gn_rises_0_0] using hM))) hl hG 0 rfl [0, 1, 2] (by decide) rfl (ads := [m, aS, aL]) rfl rfl (ws' := [(m, .inr (8, [.int (v 0), .int (v 1), .ref aS, .int (v 2), .int (v 3), .int (v 4), .ref aW, .int (v 5), .ref aL, .int (v 6), .int (v 7), .int (v 8), .ref aT, .int (v 9), .int (v 10), .int (v 11), .int (v 12), .ref a1, .ref a2, .ref a3, .ref aB, .int (v 13), .int (v 14)])), (aS, .inl (E.2.1.1, 12, .inl ms)), (aL, .inl (E.2.1.1, 156, .inl sl))]) rfl rfl (rest := []) rfl (Nat.le_of_ble_eq_true rfl) ⟨Nat.le_of_ble_eq_true rfl, Nat.le_of_ble_eq_true rfl⟩ (fun H locs hG => ?_)
  refine lv_aload_n hx hb dX8_isShaded_10 rfl (lv_at hl 1 rfl) ?_
  refine gf_X8_35 C dX8_isShaded_11 hG 0 rfl rfl ?_
  refine lv_aload_n hx hb dX8_isShaded_14 rfl (lv_at hl 1 rfl) ?_
  refine gf_X8_16 C dX8_isShaded_15 hG 0 rfl rfl ?_
  refine lv_iload_n hx hb dX8_isShaded_18 rfl (lv_at hl 2 rfl) ?_
  refine lv_iconst (v := 4) hx hb dX8_isShaded_19 (by decide) ?_
  refine lv_iadd hx hb dX8_isShaded_20 ?_
  refine z_ti (y := 4) (by decide) ?_
  refine lv_iload_n hx hb dX8_isShaded_21 rfl (lv_at hl 0 rfl) ?_
  refine lv_iadd hx hb dX8_isShaded_22 ?_
  refine z_ti (y := 4) (by decide) ?_
  refine z_ild C dX8_isShaded_23 hG 2 rfl 4 (by decide) (Nat.le_of_ble_eq_true rfl) (Nat.le_of_ble_eq_true rfl) ?_
  refine lv_isub hx hb dX8_isShaded_24 ?_
  refine lv_icmp_lt (tgt := 55) hx hb dX8_isShaded_25 (by decide) (fun c_1 => ?_) (fun c_1 => ?_)
  · skip
    refine lv_iconst (v := 0) hx hb dX8_isShaded_55 (by decide) ?_
    rw [hQ]
    exact z_iret C hr hlk hG dX8_isShaded_56 rfl (by rw [o_X8_isShaded_0_1_r, if_pos c_1]) rfl
  · skip
    refine lv_aload_n hx hb dX8_isShaded_28 rfl (lv_at hl 1 rfl) ?_
    refine gf_X8_16 C dX8_isShaded_29 hG 0 rfl rfl ?_
    refine lv_iload_n hx hb dX8_isShaded_32 rfl (lv_at hl 2 rfl) ?_
    refine lv_iconst (v := 2) hx hb dX8_isShaded_33 (by decide) ?_
    refine lv_iadd hx hb dX8_isShaded_34 ?_
    refine z_ti (y := 2) (by decide) ?_
    refine lv_iload_n hx hb dX8_isShaded_35 rfl (lv_at hl 3 rfl) ?_
    refine lv_iadd hx hb dX8_isShaded_36 ?_
    refine z_ti (y := 3) (by decide) ?_
    refine z_ild C dX8_isShaded_37 hG 2 rfl 3 (by decide) (Nat.le_of_ble_eq_true rfl) (Nat.le_of_ble_eq_true rfl) ?_
    refine lv_aload_n hx hb dX8_isShaded_38 rfl (lv_at hl 1 rfl) ?_
    refine gf_X8_16 C dX8_isShaded_39 hG 0 rfl rfl ?_
    refine lv_iload_n hx hb dX8_isShaded_42 rfl (lv_at hl 2 rfl) ?_
    refine lv_iconst (v := 2) hx hb dX8_isShaded_43 (by decide) ?_
    refine lv_iadd hx hb dX8_isShaded_44 ?_
    refine z_ti (y := 2) (by decide) ?_
    refine lv_iload_n hx hb dX8_isShaded_45 rfl (lv_at hl 0 rfl) ?_
    refine lv_iadd hx hb dX8_isShaded_46 ?_
    refine z_ti (y := 2) (by decide) ?_
    refine z_ild C dX8_isShaded_47 hG 2 rfl 2 (by decide) (Nat.le_of_ble_eq_true rfl) (Nat.le_of_ble_eq_true rfl) ?_
    refine lv_icmp_ge (tgt := 55) hx hb dX8_isShaded_48 (by decide) (fun c_2 => ?_) (fun c_2 => ?_)
    · skip
      refine lv_iconst (v := 0) hx hb dX8_isShaded_55 (by decide) ?_
      rw [hQ]
      exact z_iret C hr hlk hG dX8_isShaded_56 rfl (by rw [o_X8_isShaded_0_1_r, if_neg c_1, if_pos c_2]) rfl
    · skip
      refine lv_iconst (v := 1) hx hb dX8_isShaded_51 (by decide) ?_
      refine lv_goto (tgt := 56) hx hb dX8_isShaded_52 (by decide) ?_
      rw [hQ]
      exact z_iret C hr hlk hG dX8_isShaded_56 rfl (by rw [o_X8_isShaded_0_1_r, if_neg c_1, if_neg c_2]) rfl
theorem o_X8_isShaded_0_1_b (v : Nat → Int32) (ms : Nat → Int32) (sl : Nat → Int32) : o_X8_isShaded_0_1_r v ms sl = 0 ∨ o_X8_isShaded_0_1_r v ms sl = 1 := by
  unfold o_X8_isShaded_0_1_r; (repeat' split) <;> first | exact Or.inl rfl | exact Or.inr rfl
theorem gn_does_0_1 (v sl : Nat → Int32) (ac : Int32) : o_X8_does_0_1_1 v sl ac 11 = sl 11 := by
  simp only [j_X8_does_0_1_0_0, j_X8_does_0_1_1_0, j_X8_does_0_1_2_0, j_X8_does_0_1_3_0, j_X8_does_0_1_4_0, j_X8_does_0_1_5_0, j_X8_does_0_1_6_0, o_X8_does_0_1_r, o_X8_does_0_1_1]; (repeat' split) <;> simp [upd]
theorem gn_rises_0_1 (v sl : Nat → Int32) (more dr : Int32) : o_X8_rises_0_1_1 v sl more dr 11 = sl 11 := by
  simp [j_X8_rises_0_1_0_0, j_X8_rises_0_1_1_0, o_X8_rises_0_1_1, upd]
def j_X8_goes_0_0_0 (v : Nat → Int32) (ms : Nat → Int32) (sl : Nat → Int32) (da : Int32) (db : Int32) (dr : Int32) : Int32 := (if (o_X8_isShaded_0_0_r v ms (o_X8_rises_0_1_1 v (o_X8_rises_0_0_1 v (o_X8_does_0_1_1 v (o_X8_does_0_0_1 v sl da) db) (o_X8_does_0_0_r v sl da) dr) (o_X8_does_0_1_r v (o_X8_does_0_0_1 v sl da) db) dr)) = 0 then 0 else 1)
def j_X8_goes_0_1_0 (v : Nat → Int32) (ms : Nat → Int32) (sl : Nat → Int32) (da : Int32) (db : Int32) (dr : Int32) : Int32 := (if (o_X8_isShaded_0_0_r v ms (o_X8_rises_0_1_1 v (o_X8_rises_0_0_1 v (o_X8_does_0_1_1 v (o_X8_does_0_0_1 v sl da) db) (o_X8_does_0_0_r v sl da) dr) (o_X8_does_0_1_r v (o_X8_does_0_0_1 v sl da) db) dr)) = 0 then 0 else (((o_X8_rises_0_1_1 v (o_X8_rises_0_0_1 v (o_X8_does_0_1_1 v (o_X8_does_0_0_1 v sl da) db) (o_X8_does_0_0_r v sl da) dr) (o_X8_does_0_1_r v (o_X8_does_0_0_1 v sl da) db) dr) 8) + 1))
def j_X8_goes_0_2_0 (v : Nat → Int32) (ms : Nat → Int32) (sl : Nat → Int32) (da : Int32) (db : Int32) (dr : Int32) : Int32 := (if (o_X8_isShaded_0_1_r v ms (upd (o_X8_rises_0_1_1 v (o_X8_rises_0_0_1 v (o_X8_does_0_1_1 v (o_X8_does_0_0_1 v sl da) db) (o_X8_does_0_0_r v sl da) dr) (o_X8_does_0_1_r v (o_X8_does_0_0_1 v sl da) db) dr) 8 (j_X8_goes_0_1_0 v ms sl da db dr))) = 0 then 0 else 2)
def j_X8_goes_0_3_0 (v : Nat → Int32) (ms : Nat → Int32) (sl : Nat → Int32) (da : Int32) (db : Int32) (dr : Int32) : Int32 := (if (o_X8_isShaded_0_1_r v ms (upd (o_X8_rises_0_1_1 v (o_X8_rises_0_0_1 v (o_X8_does_0_1_1 v (o_X8_does_0_0_1 v sl da) db) (o_X8_does_0_0_r v sl da) dr) (o_X8_does_0_1_r v (o_X8_does_0_0_1 v sl da) db) dr) 8 (j_X8_goes_0_1_0 v ms sl da db dr))) = 0 then 0 else (((upd (o_X8_rises_0_1_1 v (o_X8_rises_0_0_1 v (o_X8_does_0_1_1 v (o_X8_does_0_0_1 v sl da) db) (o_X8_does_0_0_r v sl da) dr) (o_X8_does_0_1_r v (o_X8_does_0_0_1 v sl da) db) dr) 8 (j_X8_goes_0_1_0 v ms sl da db dr)) 9) + 1))
def j_X8_goes_0_4_0 (v : Nat → Int32) (ms : Nat → Int32) (sl : Nat → Int32) (da : Int32) (db : Int32) (dr : Int32) : Int32 := (if ((upd (upd (o_X8_rises_0_1_1 v (o_X8_rises_0_0_1 v (o_X8_does_0_1_1 v (o_X8_does_0_0_1 v sl da) db) (o_X8_does_0_0_r v sl da) dr) (o_X8_does_0_1_r v (o_X8_does_0_0_1 v sl da) db) dr) 8 (j_X8_goes_0_1_0 v ms sl da db dr)) 9 (j_X8_goes_0_3_0 v ms sl da db dr)) 8) < (v 1) then ((upd (upd (o_X8_rises_0_1_1 v (o_X8_rises_0_0_1 v (o_X8_does_0_1_1 v (o_X8_does_0_0_1 v sl da) db) (o_X8_does_0_0_r v sl da) dr) (o_X8_does_0_1_r v (o_X8_does_0_0_1 v sl da) db) dr) 8 (j_X8_goes_0_1_0 v ms sl da db dr)) 9 (j_X8_goes_0_3_0 v ms sl da db dr)) 12) else 0)
def j_X8_goes_0_5_0 (v : Nat → Int32) (ms : Nat → Int32) (sl : Nat → Int32) (da : Int32) (db : Int32) (dr : Int32) : Int32 := (if ((upd (upd (upd (o_X8_rises_0_1_1 v (o_X8_rises_0_0_1 v (o_X8_does_0_1_1 v (o_X8_does_0_0_1 v sl da) db) (o_X8_does_0_0_r v sl da) dr) (o_X8_does_0_1_r v (o_X8_does_0_0_1 v sl da) db) dr) 8 (j_X8_goes_0_1_0 v ms sl da db dr)) 9 (j_X8_goes_0_3_0 v ms sl da db dr)) 12 (j_X8_goes_0_4_0 v ms sl da db dr)) 9) < (v 1) then ((upd (upd (upd (o_X8_rises_0_1_1 v (o_X8_rises_0_0_1 v (o_X8_does_0_1_1 v (o_X8_does_0_0_1 v sl da) db) (o_X8_does_0_0_r v sl da) dr) (o_X8_does_0_1_r v (o_X8_does_0_0_1 v sl da) db) dr) 8 (j_X8_goes_0_1_0 v ms sl da db dr)) 9 (j_X8_goes_0_3_0 v ms sl da db dr)) 12 (j_X8_goes_0_4_0 v ms sl da db dr)) 12) else 1)
def o_X8_goes_0_r (v : Nat → Int32) (ms : Nat → Int32) (sl : Nat → Int32) (da : Int32) (db : Int32) (dr : Int32) : Int32 := (if (sl 12) < 0 then ((0 ||| (j_X8_goes_0_0_0 v ms sl da db dr)) ||| (j_X8_goes_0_2_0 v ms sl da db dr)) else 0)
def o_X8_goes_0_2 (v : Nat → Int32) (ms : Nat → Int32) (sl : Nat → Int32) (da : Int32) (db : Int32) (dr : Int32) : Nat → Int32 := (if (sl 12) < 0 then (upd (upd (upd (upd (upd (o_X8_rises_0_1_1 v (o_X8_rises_0_0_1 v (o_X8_does_0_1_1 v (o_X8_does_0_0_1 v sl da) db) (o_X8_does_0_0_r v sl da) dr) (o_X8_does_0_1_r v (o_X8_does_0_0_1 v sl da) db) dr) 8 (j_X8_goes_0_1_0 v ms sl da db dr)) 9 (j_X8_goes_0_3_0 v ms sl da db dr)) 12 (j_X8_goes_0_4_0 v ms sl da db dr)) 12 (j_X8_goes_0_5_0 v ms sl da db dr)) 11 (((upd (upd (upd (upd (o_X8_rises_0_1_1 v (o_X8_rises_0_0_1 v (o_X8_does_0_1_1 v (o_X8_does_0_0_1 v sl da) db) (o_X8_does_0_0_r v sl da) dr) (o_X8_does_0_1_r v (o_X8_does_0_0_1 v sl da) db) dr) 8 (j_X8_goes_0_1_0 v ms sl da db dr)) 9 (j_X8_goes_0_3_0 v ms sl da db dr)) 12 (j_X8_goes_0_4_0 v ms sl da db dr)) 12 (j_X8_goes_0_5_0 v ms sl da db dr)) 11) + 1)) else sl)
set_option maxRecDepth 100000 in
set_option maxHeartbeats 4000000 in
theorem c_X8_goes_0 (l : Launch) (E : zE) (v : Nat → Int32) (ms : Nat → Int32) (sl : Nat → Int32) (da : Int32) (db : Int32) (dr : Int32) (m aS aW aL aT a1 a2 a3 aB : Nat) (hM : 0 ≤ (sl 11).toInt) : HM l E yX8_goes cX8_goes 10 (some .int) 3 66 [.ref m, .int 0, .int da, .int db, .int dr] [(m, .inr (8, [.int (v 0), .int (v 1), .ref aS, .int (v 2), .int (v 3), .int (v 4), .ref aW, .int (v 5), .ref aL, .int (v 6), .int (v 7), .int (v 8), .ref aT, .int (v 9), .int (v 10), .int (v 11), .int (v 12), .ref a1, .ref a2, .ref a3, .ref aB, .int (v 13), .int (v 14)])), (aS, .inl (E.2.1.1, 12, .inl ms)), (aL, .inl (E.2.1.1, 156, .inl sl))] (some (.int (o_X8_goes_0_r v ms sl da db dr))) [(m, .inr (8, [.int (v 0), .int (v 1), .ref aS, .int (v 2), .int (v 3), .int (v 4), .ref aW, .int (v 5), .ref aL, .int (v 6), .int (v 7), .int (v 8), .ref aT, .int (v 9), .int (v 10), .int (v 11), .int (v 12), .ref a1, .ref a2, .ref a3, .ref aB, .int (v 13), .int (v 14)])), (aS, .inl (E.2.1.1, 12, .inl ms)), (aL, .inl (E.2.1.1, 156, .inl (o_X8_goes_0_2 v ms sl da db dr)))] := by
  refine HM.of (own := RX8) (plainFor_of_name (by decide)) rfl (Nat.le_of_ble_eq_true rfl) ?_
  intro zp ze zs zm za zb zt zc zA ls H locs zq C hr hlk hG hl hQ
  have hx := C.1.1
  have hb := C.1.2.1
  replace hl : lv_has ls 10 [(0, .ref m), (1, .int 0), (2, .int da), (3, .int db), (4, .int dr)] := hl
  refine lv_aload_n hx hb dX8_goes_0 rfl (lv_at hl 0 rfl) ?_
  refine gf_X8_16 C dX8_goes_1 hG 0 rfl rfl ?_
  refine lv_iload_n hx hb dX8_goes_4 rfl (lv_at hl 1 rfl) ?_
  refine lv_bipush (v := 12) hx hb dX8_goes_5 (by decide) ?_
  refine lv_iadd hx hb dX8_goes_7 ?_
  refine z_ti (y := 12) (by decide) ?_
  refine z_ild C dX8_goes_8 hG 2 rfl 12 (by decide) (Nat.le_of_ble_eq_true rfl) (Nat.le_of_ble_eq_true rfl) ?_
  refine lv_if_lt (tgt := 14) hx hb dX8_goes_9 (by decide) (fun c_1 => ?_) (fun c_1 => ?_)
  · skip
    refine lv_aload_n hx hb dX8_goes_14 rfl (lv_at hl 0 rfl) ?_
    refine lv_iload_n hx hb dX8_goes_15 rfl (lv_at hl 1 rfl) ?_
    refine lv_iconst (v := 0) hx hb dX8_goes_16 (by decide) ?_
    refine lv_iload_n hx hb dX8_goes_17 rfl (lv_at hl 2 rfl) ?_
    refine call_X8_145 C dX8_goes_18 (c_X8_does_0_0 l E v sl da m aS aW aL aT a1 a2 a3 aB) hl hG 0 rfl [0, 2] (by decide) rfl (ads := [m, aL]) rfl rfl (ws' := [(m, .inr (8, [.int (v 0), .int (v 1), .ref aS, .int (v 2), .int (v 3), .int (v 4), .ref aW, .int (v 5), .ref aL, .int (v 6), .int (v 7), .int (v 8), .ref aT, .int (v 9), .int (v 10), .int (v 11), .int (v 12), .ref a1, .ref a2, .ref a3, .ref aB, .int (v 13), .int (v 14)])), (aS, .inl (E.2.1.1, 12, .inl ms)), (aL, .inl (E.2.1.1, 156, .inl (o_X8_does_0_0_1 v sl da)))]) rfl rfl (rest := []) rfl (Nat.le_of_ble_eq_true rfl) ⟨Nat.le_of_ble_eq_true rfl, Nat.le_of_ble_eq_true rfl⟩ (fun H locs hG => ?_)
    refine lv_istore (lv' := [(5, .int (o_X8_does_0_0_r v sl da)), (0, .ref m), (1, .int 0), (2, .int da), (3, .int db), (4, .int dr)]) hx hb dX8_goes_21 hl (by decide) rfl (fun ls hl => ?_)
    refine lv_aload_n hx hb dX8_goes_23 rfl (lv_at hl 1 rfl) ?_
    refine lv_iload_n hx hb dX8_goes_24 rfl (lv_at hl 2 rfl) ?_
    refine lv_iconst (v := 1) hx hb dX8_goes_25 (by decide) ?_
    refine lv_iload_n hx hb dX8_goes_26 rfl (lv_at hl 4 rfl) ?_
    refine call_X8_145 C dX8_goes_27 (c_X8_does_0_1 l E v (o_X8_does_0_0_1 v sl da) db m aS aW aL aT a1 a2 a3 aB) hl hG 0 rfl [0, 2] (by decide) rfl (ads := [m, aL]) rfl rfl (ws' := [(m, .inr (8, [.int (v 0), .int (v 1), .ref aS, .int (v 2), .int (v 3), .int (v 4), .ref aW, .int (v 5), .ref aL, .int (v 6), .int (v 7), .int (v 8), .ref aT, .int (v 9), .int (v 10), .int (v 11), .int (v 12), .ref a1, .ref a2, .ref a3, .ref aB, .int (v 13), .int (v 14)])), (aS, .inl (E.2.1.1, 12, .inl ms)), (aL, .inl (E.2.1.1, 156, .inl (o_X8_does_0_1_1 v (o_X8_does_0_0_1 v sl da) db)))]) rfl rfl (rest := []) rfl (Nat.le_of_ble_eq_true rfl) ⟨Nat.le_of_ble_eq_true rfl, Nat.le_of_ble_eq_true rfl⟩ (fun H locs hG => ?_)
    refine lv_istore (lv' := [(6, .int (o_X8_does_0_1_r v (o_X8_does_0_0_1 v sl da) db)), (5, .int (o_X8_does_0_0_r v sl da)), (0, .ref m), (1, .int 0), (2, .int da), (3, .int db), (4, .int dr)]) hx hb dX8_goes_30 hl (by decide) rfl (fun ls hl => ?_)
    refine lv_aload_n hx hb dX8_goes_32 rfl (lv_at hl 2 rfl) ?_
    refine lv_iload_n hx hb dX8_goes_33 rfl (lv_at hl 3 rfl) ?_
    refine lv_iconst (v := 0) hx hb dX8_goes_34 (by decide) ?_
    refine lv_iload hx hb dX8_goes_35 (lv_at hl 1 rfl) ?_
    refine lv_iload hx hb dX8_goes_37 (lv_at hl 6 rfl) ?_
    refine call_X8_149 C dX8_goes_39 (c_X8_rises_0_0 l E v (o_X8_does_0_1_1 v (o_X8_does_0_0_1 v sl da) db) (o_X8_does_0_0_r v sl da) dr m aS aW aL aT a1 a2 a3 aB) hl hG 0 rfl [0, 2] (by decide) rfl (ads := [m, aL]) rfl rfl (ws' := [(m, .inr (8, [.int (v 0), .int (v 1), .ref aS, .int (v 2), .int (v 3), .int (v 4), .ref aW, .int (v 5), .ref aL, .int (v 6), .int (v 7), .int (v 8), .ref aT, .int (v 9), .int (v 10), .int (v 11), .int (v 12), .ref a1, .ref a2, .ref a3, .ref aB, .int (v 13), .int (v 14)])), (aS, .inl (E.2.1.1, 12, .inl ms)), (aL, .inl (E.2.1.1, 156, .inl (o_X8_rises_0_0_1 v (o_X8_does_0_1_1 v (o_X8_does_0_0_1 v sl da) db) (o_X8_does_0_0_r v sl da) dr)))]) rfl rfl (rest := []) rfl (Nat.le_of_ble_eq_true rfl) ⟨Nat.le_of_ble_eq_true rfl, Nat.le_of_ble_eq_true rfl⟩ (fun H locs hG => ?_)
    refine lv_aload_n hx hb dX8_goes_42 rfl (lv_at hl 2 rfl) ?_
    refine lv_iload_n hx hb dX8_goes_43 rfl (lv_at hl 3 rfl) ?_
    refine lv_iconst (v := 1) hx hb dX8_goes_44 (by decide) ?_
    refine lv_iload hx hb dX8_goes_45 (lv_at hl 0 rfl) ?_
    refine lv_iload hx hb dX8_goes_47 (lv_at hl 6 rfl) ?_
    refine call_X8_149 C dX8_goes_49 (c_X8_rises_0_1 l E v (o_X8_rises_0_0_1 v (o_X8_does_0_1_1 v (o_X8_does_0_0_1 v sl da) db) (o_X8_does_0_0_r v sl da) dr) (o_X8_does_0_1_r v (o_X8_does_0_0_1 v sl da) db) dr m aS aW aL aT a1 a2 a3 aB) hl hG 0 rfl [0, 2] (by decide) rfl (ads := [m, aL]) rfl rfl (ws' := [(m, .inr (8, [.int (v 0), .int (v 1), .ref aS, .int (v 2), .int (v 3), .int (v 4), .ref aW, .int (v 5), .ref aL, .int (v 6), .int (v 7), .int (v 8), .ref aT, .int (v 9), .int (v 10), .int (v 11), .int (v 12), .ref a1, .ref a2, .ref a3, .ref aB, .int (v 13), .int (v 14)])), (aS, .inl (E.2.1.1, 12, .inl ms)), (aL, .inl (E.2.1.1, 156, .inl (o_X8_rises_0_1_1 v (o_X8_rises_0_0_1 v (o_X8_does_0_1_1 v (o_X8_does_0_0_1 v sl da) db) (o_X8_does_0_0_r v sl da) dr) (o_X8_does_0_1_r v (o_X8_does_0_0_1 v sl da) db) dr)))]) rfl rfl (rest := []) rfl (Nat.le_of_ble_eq_true rfl) ⟨Nat.le_of_ble_eq_true rfl, Nat.le_of_ble_eq_true rfl⟩ (fun H locs hG => ?_)
    refine lv_iconst (v := 0) hx hb dX8_goes_52 (by decide) ?_
    refine lv_istore (lv' := [(7, .int 0), (6, .int (o_X8_does_0_1_r v (o_X8_does_0_0_1 v sl da) db)), (5, .int (o_X8_does_0_0_r v sl da)), (0, .ref m), (1, .int 0), (2, .int da), (3, .int db), (4, .int dr)]) hx hb dX8_goes_53 hl (by decide) rfl (fun ls hl => ?_)
    refine lv_iconst (v := 0) hx hb dX8_goes_55 (by decide) ?_
    refine lv_istore (lv' := [(8, .int 0), (7, .int 0), (6, .int (o_X8_does_0_1_r v (o_X8_does_0_0_1 v sl da) db)), (5, .int (o_X8_does_0_0_r v sl da)), (0, .ref m), (1, .int 0), (2, .int da), (3, .int db), (4, .int dr)]) hx hb dX8_goes_56 hl (by decide) rfl (fun ls hl => ?_)
    refine lv_iload hx hb dX8_goes_58 (lv_at hl 0 rfl) ?_
    refine lv_iconst (v := 2) hx hb dX8_goes_60 (by decide) ?_
    refine lv_icmp_ge (tgt := 132) hx hb dX8_goes_61 (by decide) (fun c_2 => absurd c_2 (by decide)) (fun c_2 => ?_)
    refine lv_aload_n hx hb dX8_goes_64 rfl (lv_at hl 4 rfl) ?_
    refine lv_iload_n hx hb dX8_goes_65 rfl (lv_at hl 5 rfl) ?_
    refine lv_iload hx hb dX8_goes_66 (lv_at hl 0 rfl) ?_
    refine call_X8_127 C dX8_goes_68 (c_X8_isShaded_0_0 l E v ms (o_X8_rises_0_1_1 v (o_X8_rises_0_0_1 v (o_X8_does_0_1_1 v (o_X8_does_0_0_1 v sl da) db) (o_X8_does_0_0_r v sl da) dr) (o_X8_does_0_1_r v (o_X8_does_0_0_1 v sl da) db) dr) m aS aW aL aT a1 a2 a3 aB (by first | exact hM | (simpa [upd, gn_does_0_0, gn_rises_0_0, gn_does_0_1, gn_rises_0_1] using hM))) hl hG 0 rfl [0, 1, 2] (by decide) rfl (ads := [m, aS, aL]) rfl rfl (ws' := [(m, .inr (8, [.int (v 0), .int (v 1), .ref aS, .int (v 2), .int (v 3), .int (v 4), .ref aW, .int (v 5), .ref aL, .int (v 6), .int (v 7), .int (v 8), .ref aT, .int (v 9), .int (v 10), .int (v 11), .int (v 12), .ref a1, .ref a2, .ref a3, .ref aB, .int (v 13), .int (v 14)])), (aS, .inl (E.2.1.1, 12, .inl ms)), (aL, .inl (E.2.1.1, 156, .inl (o_X8_rises_0_1_1 v (o_X8_rises_0_0_1 v (o_X8_does_0_1_1 v (o_X8_does_0_0_1 v sl da) db) (o_X8_does_0_0_r v sl da) dr) (o_X8_does_0_1_r v (o_X8_does_0_0_1 v sl da) db) dr)))]) rfl rfl (rest := []) rfl (Nat.le_of_ble_eq_true rfl) ⟨Nat.le_of_ble_eq_true rfl, Nat.le_of_ble_eq_true rfl⟩ (fun H locs hG => ?_)
    refine lv_istore (lv' := [(9, .int (o_X8_isShaded_0_0_r v ms (o_X8_rises_0_1_1 v (o_X8_rises_0_0_1 v (o_X8_does_0_1_1 v (o_X8_does_0_0_1 v sl da) db) (o_X8_does_0_0_r v sl da) dr) (o_X8_does_0_1_r v (o_X8_does_0_0_1 v sl da) db) dr))), (8, .int 0), (7, .int 0), (6, .int (o_X8_does_0_1_r v (o_X8_does_0_0_1 v sl da) db)), (5, .int (o_X8_does_0_0_r v sl da)), (0, .ref m), (1, .int 0), (2, .int da), (3, .int db), (4, .int dr)]) hx hb dX8_goes_71 hl (by decide) rfl (fun ls hl => ?_)
    refine lv_iload hx hb dX8_goes_73 (lv_at hl 2 rfl) ?_
    refine lv_iload hx hb dX8_goes_75 (lv_at hl 0 rfl) ?_
    have k_0 : ∀ (y0_0 : Int32) (H : Heap) (locs : List Loc) (ls : Array Slot), (j_X8_goes_0_0_0 v ms sl da db dr) = y0_0 → zG E zA zs.heap [(m, .inr (8, [.int (v 0), .int (v 1), .ref aS, .int (v 2), .int (v 3), .int (v 4), .ref aW, .int (v 5), .ref aL, .int (v 6), .int (v 7), .int (v 8), .ref aT, .int (v 9), .int (v 10), .int (v 11), .int (v 12), .ref a1, .ref a2, .ref a3, .ref aB, .int (v 13), .int (v 14)])), (aS, .inl (E.2.1.1, 12, .inl ms)), (aL, .inl (E.2.1.1, 156, .inl (o_X8_rises_0_1_1 v (o_X8_rises_0_0_1 v (o_X8_does_0_1_1 v (o_X8_does_0_0_1 v sl da) db) (o_X8_does_0_0_r v sl da) dr) (o_X8_does_0_1_r v (o_X8_does_0_0_1 v sl da) db) dr)))] H locs → lv_has ls 10 [(9, .int (o_X8_isShaded_0_0_r v ms (o_X8_rises_0_1_1 v (o_X8_rises_0_0_1 v (o_X8_does_0_1_1 v (o_X8_does_0_0_1 v sl da) db) (o_X8_does_0_0_r v sl da) dr) (o_X8_does_0_1_r v (o_X8_does_0_0_1 v sl da) db) dr))), (8, .int 0), (7, .int 0), (6, .int (o_X8_does_0_1_r v (o_X8_does_0_0_1 v sl da) db)), (5, .int (o_X8_does_0_0_r v sl da)), (0, .ref m), (1, .int 0), (2, .int da), (3, .int db), (4, .int dr)] → W zp l ze (zR 3 66) zs zm za zb zt zc H locs 0 0 zq (F0 zm 88 ls [.int y0_0, .int 0]) := by
      intro y0_0 H locs ls e_y0_0 hG hl
      subst e_y0_0
      refine lv_ior hx hb dX8_goes_88 ?_
      refine lv_istore (lv' := [(7, .int (0 ||| (j_X8_goes_0_0_0 v ms sl da db dr))), (9, .int (o_X8_isShaded_0_0_r v ms (o_X8_rises_0_1_1 v (o_X8_rises_0_0_1 v (o_X8_does_0_1_1 v (o_X8_does_0_0_1 v sl da) db) (o_X8_does_0_0_r v sl da) dr) (o_X8_does_0_1_r v (o_X8_does_0_0_1 v sl da) db) dr))), (8, .int 0), (6, .int (o_X8_does_0_1_r v (o_X8_does_0_0_1 v sl da) db)), (5, .int (o_X8_does_0_0_r v sl da)), (0, .ref m), (1, .int 0), (2, .int da), (3, .int db), (4, .int dr)]) hx hb dX8_goes_89 hl (by decide) rfl (fun ls hl => ?_)
      refine lv_aload_n hx hb dX8_goes_91 rfl (lv_at hl 5 rfl) ?_
      refine gf_X8_16 C dX8_goes_92 hG 0 rfl rfl ?_
      refine lv_iload_n hx hb dX8_goes_95 rfl (lv_at hl 6 rfl) ?_
      refine lv_bipush (v := 8) hx hb dX8_goes_96 (by decide) ?_
      refine lv_iadd hx hb dX8_goes_98 ?_
      refine z_ti (y := 8) (by decide) ?_
      refine lv_iload hx hb dX8_goes_99 (lv_at hl 2 rfl) ?_
      refine lv_iadd hx hb dX8_goes_101 ?_
      refine z_ti (y := 8) (by decide) ?_
      refine lv_iload hx hb dX8_goes_102 (lv_at hl 1 rfl) ?_
      have k_1 : ∀ (y1_0 : Int32) (H : Heap) (locs : List Loc) (ls : Array Slot), (j_X8_goes_0_1_0 v ms sl da db dr) = y1_0 → zG E zA zs.heap [(m, .inr (8, [.int (v 0), .int (v 1), .ref aS, .int (v 2), .int (v 3), .int (v 4), .ref aW, .int (v 5), .ref aL, .int (v 6), .int (v 7), .int (v 8), .ref aT, .int (v 9), .int (v 10), .int (v 11), .int (v 12), .ref a1, .ref a2, .ref a3, .ref aB, .int (v 13), .int (v 14)])), (aS, .inl (E.2.1.1, 12, .inl ms)), (aL, .inl (E.2.1.1, 156, .inl (o_X8_rises_0_1_1 v (o_X8_rises_0_0_1 v (o_X8_does_0_1_1 v (o_X8_does_0_0_1 v sl da) db) (o_X8_does_0_0_r v sl da) dr) (o_X8_does_0_1_r v (o_X8_does_0_0_1 v sl da) db) dr)))] H locs → lv_has ls 10 [(7, .int (0 ||| (j_X8_goes_0_0_0 v ms sl da db dr))), (9, .int (o_X8_isShaded_0_0_r v ms (o_X8_rises_0_1_1 v (o_X8_rises_0_0_1 v (o_X8_does_0_1_1 v (o_X8_does_0_0_1 v sl da) db) (o_X8_does_0_0_r v sl da) dr) (o_X8_does_0_1_r v (o_X8_does_0_0_1 v sl da) db) dr))), (8, .int 0), (6, .int (o_X8_does_0_1_r v (o_X8_does_0_0_1 v sl da) db)), (5, .int (o_X8_does_0_0_r v sl da)), (0, .ref m), (1, .int 0), (2, .int da), (3, .int db), (4, .int dr)] → W zp l ze (zR 3 66) zs zm za zb zt zc H locs 0 0 zq (F0 zm 125 ls [.int y1_0, .int 8, .ref aL]) := by
        intro y1_0 H locs ls e_y1_0 hG hl
        subst e_y1_0
        refine z_ist C dX8_goes_125 hG 2 rfl 8 (by decide) (Nat.le_of_ble_eq_true rfl) (Nat.le_of_ble_eq_true rfl) (ws' := [(m, .inr (8, [.int (v 0), .int (v 1), .ref aS, .int (v 2), .int (v 3), .int (v 4), .ref aW, .int (v 5), .ref aL, .int (v 6), .int (v 7), .int (v 8), .ref aT, .int (v 9), .int (v 10), .int (v 11), .int (v 12), .ref a1, .ref a2, .ref a3, .ref aB, .int (v 13), .int (v 14)])), (aS, .inl (E.2.1.1, 12, .inl ms)), (aL, .inl (E.2.1.1, 156, .inl (upd (o_X8_rises_0_1_1 v (o_X8_rises_0_0_1 v (o_X8_does_0_1_1 v (o_X8_does_0_0_1 v sl da) db) (o_X8_does_0_0_r v sl da) dr) (o_X8_does_0_1_r v (o_X8_does_0_0_1 v sl da) db) dr) 8 (j_X8_goes_0_1_0 v ms sl da db dr))))]) rfl (fun H locs hG => ?_)
        refine lv_iinc (v := 1) (lv' := [(8, .int 1), (7, .int (0 ||| (j_X8_goes_0_0_0 v ms sl da db dr))), (9, .int (o_X8_isShaded_0_0_r v ms (o_X8_rises_0_1_1 v (o_X8_rises_0_0_1 v (o_X8_does_0_1_1 v (o_X8_does_0_0_1 v sl da) db) (o_X8_does_0_0_r v sl da) dr) (o_X8_does_0_1_r v (o_X8_does_0_0_1 v sl da) db) dr))), (6, .int (o_X8_does_0_1_r v (o_X8_does_0_0_1 v sl da) db)), (5, .int (o_X8_does_0_0_r v sl da)), (0, .ref m), (1, .int 0), (2, .int da), (3, .int db), (4, .int dr)]) hx hb dX8_goes_126 hl (k := 2) rfl (by decide) (by decide) rfl (fun ls hl => ?_)
        refine lv_goto (tgt := 58) hx hb dX8_goes_129 (by decide) ?_
        refine lv_iload hx hb dX8_goes_58 (lv_at hl 0 rfl) ?_
        refine lv_iconst (v := 2) hx hb dX8_goes_60 (by decide) ?_
        refine lv_icmp_ge (tgt := 132) hx hb dX8_goes_61 (by decide) (fun c_5 => absurd c_5 (by decide)) (fun c_5 => ?_)
        refine lv_aload_n hx hb dX8_goes_64 rfl (lv_at hl 5 rfl) ?_
        refine lv_iload_n hx hb dX8_goes_65 rfl (lv_at hl 6 rfl) ?_
        refine lv_iload hx hb dX8_goes_66 (lv_at hl 0 rfl) ?_
        refine call_X8_127 C dX8_goes_68 (c_X8_isShaded_0_1 l E v ms (upd (o_X8_rises_0_1_1 v (o_X8_rises_0_0_1 v (o_X8_does_0_1_1 v (o_X8_does_0_0_1 v sl da) db) (o_X8_does_0_0_r v sl da) dr) (o_X8_does_0_1_r v (o_X8_does_0_0_1 v sl da) db) dr) 8 (j_X8_goes_0_1_0 v ms sl da db dr)) m aS aW aL aT a1 a2 a3 aB (by first | exact hM | (simpa [upd, gn_does_0_0, gn_rises_0_0, gn_does_0_1, gn_rises_0_1] using hM))) hl hG 0 rfl [0, 1, 2] (by decide) rfl (ads := [m, aS, aL]) rfl rfl (ws' := [(m, .inr (8, [.int (v 0), .int (v 1), .ref aS, .int (v 2), .int (v 3), .int (v 4), .ref aW, .int (v 5), .ref aL, .int (v 6), .int (v 7), .int (v 8), .ref aT, .int (v 9), .int (v 10), .int (v 11), .int (v 12), .ref a1, .ref a2, .ref a3, .ref aB, .int (v 13), .int (v 14)])), (aS, .inl (E.2.1.1, 12, .inl ms)), (aL, .inl (E.2.1.1, 156, .inl (upd (o_X8_rises_0_1_1 v (o_X8_rises_0_0_1 v (o_X8_does_0_1_1 v (o_X8_does_0_0_1 v sl da) db) (o_X8_does_0_0_r v sl da) dr) (o_X8_does_0_1_r v (o_X8_does_0_0_1 v sl da) db) dr) 8 (j_X8_goes_0_1_0 v ms sl da db dr))))]) rfl rfl (rest := []) rfl (Nat.le_of_ble_eq_true rfl) ⟨Nat.le_of_ble_eq_true rfl, Nat.le_of_ble_eq_true rfl⟩ (fun H locs hG => ?_)
        refine lv_istore (lv' := [(9, .int (o_X8_isShaded_0_1_r v ms (upd (o_X8_rises_0_1_1 v (o_X8_rises_0_0_1 v (o_X8_does_0_1_1 v (o_X8_does_0_0_1 v sl da) db) (o_X8_does_0_0_r v sl da) dr) (o_X8_does_0_1_r v (o_X8_does_0_0_1 v sl da) db) dr) 8 (j_X8_goes_0_1_0 v ms sl da db dr)))), (8, .int 1), (7, .int (0 ||| (j_X8_goes_0_0_0 v ms sl da db dr))), (6, .int (o_X8_does_0_1_r v (o_X8_does_0_0_1 v sl da) db)), (5, .int (o_X8_does_0_0_r v sl da)), (0, .ref m), (1, .int 0), (2, .int da), (3, .int db), (4, .int dr)]) hx hb dX8_goes_71 hl (by decide) rfl (fun ls hl => ?_)
        refine lv_iload hx hb dX8_goes_73 (lv_at hl 2 rfl) ?_
        refine lv_iload hx hb dX8_goes_75 (lv_at hl 0 rfl) ?_
        have k_2 : ∀ (y2_0 : Int32) (H : Heap) (locs : List Loc) (ls : Array Slot), (j_X8_goes_0_2_0 v ms sl da db dr) = y2_0 → zG E zA zs.heap [(m, .inr (8, [.int (v 0), .int (v 1), .ref aS, .int (v 2), .int (v 3), .int (v 4), .ref aW, .int (v 5), .ref aL, .int (v 6), .int (v 7), .int (v 8), .ref aT, .int (v 9), .int (v 10), .int (v 11), .int (v 12), .ref a1, .ref a2, .ref a3, .ref aB, .int (v 13), .int (v 14)])), (aS, .inl (E.2.1.1, 12, .inl ms)), (aL, .inl (E.2.1.1, 156, .inl (upd (o_X8_rises_0_1_1 v (o_X8_rises_0_0_1 v (o_X8_does_0_1_1 v (o_X8_does_0_0_1 v sl da) db) (o_X8_does_0_0_r v sl da) dr) (o_X8_does_0_1_r v (o_X8_does_0_0_1 v sl da) db) dr) 8 (j_X8_goes_0_1_0 v ms sl da db dr))))] H locs → lv_has ls 10 [(9, .int (o_X8_isShaded_0_1_r v ms (upd (o_X8_rises_0_1_1 v (o_X8_rises_0_0_1 v (o_X8_does_0_1_1 v (o_X8_does_0_0_1 v sl da) db) (o_X8_does_0_0_r v sl da) dr) (o_X8_does_0_1_r v (o_X8_does_0_0_1 v sl da) db) dr) 8 (j_X8_goes_0_1_0 v ms sl da db dr)))), (8, .int 1), (7, .int (0 ||| (j_X8_goes_0_0_0 v ms sl da db dr))), (6, .int (o_X8_does_0_1_r v (o_X8_does_0_0_1 v sl da) db)), (5, .int (o_X8_does_0_0_r v sl da)), (0, .ref m), (1, .int 0), (2, .int da), (3, .int db), (4, .int dr)] → W zp l ze (zR 3 66) zs zm za zb zt zc H locs 0 0 zq (F0 zm 88 ls [.int y2_0, .int (0 ||| (j_X8_goes_0_0_0 v ms sl da db dr))]) := by
          intro y2_0 H locs ls e_y2_0 hG hl
          subst e_y2_0
          refine lv_ior hx hb dX8_goes_88 ?_
          refine lv_istore (lv' := [(7, .int ((0 ||| (j_X8_goes_0_0_0 v ms sl da db dr)) ||| (j_X8_goes_0_2_0 v ms sl da db dr))), (9, .int (o_X8_isShaded_0_1_r v ms (upd (o_X8_rises_0_1_1 v (o_X8_rises_0_0_1 v (o_X8_does_0_1_1 v (o_X8_does_0_0_1 v sl da) db) (o_X8_does_0_0_r v sl da) dr) (o_X8_does_0_1_r v (o_X8_does_0_0_1 v sl da) db) dr) 8 (j_X8_goes_0_1_0 v ms sl da db dr)))), (8, .int 1), (6, .int (o_X8_does_0_1_r v (o_X8_does_0_0_1 v sl da) db)), (5, .int (o_X8_does_0_0_r v sl da)), (0, .ref m), (1, .int 0), (2, .int da), (3, .int db), (4, .int dr)]) hx hb dX8_goes_89 hl (by decide) rfl (fun ls hl => ?_)
          refine lv_aload_n hx hb dX8_goes_91 rfl (lv_at hl 5 rfl) ?_
          refine gf_X8_16 C dX8_goes_92 hG 0 rfl rfl ?_
          refine lv_iload_n hx hb dX8_goes_95 rfl (lv_at hl 6 rfl) ?_
          refine lv_bipush (v := 8) hx hb dX8_goes_96 (by decide) ?_
          refine lv_iadd hx hb dX8_goes_98 ?_
          refine z_ti (y := 8) (by decide) ?_
          refine lv_iload hx hb dX8_goes_99 (lv_at hl 2 rfl) ?_
          refine lv_iadd hx hb dX8_goes_101 ?_
          refine z_ti (y := 9) (by decide) ?_
          refine lv_iload hx hb dX8_goes_102 (lv_at hl 1 rfl) ?_
          have k_3 : ∀ (y3_0 : Int32) (H : Heap) (locs : List Loc) (ls : Array Slot), (j_X8_goes_0_3_0 v ms sl da db dr) = y3_0 → zG E zA zs.heap [(m, .inr (8, [.int (v 0), .int (v 1), .ref aS, .int (v 2), .int (v 3), .int (v 4), .ref aW, .int (v 5), .ref aL, .int (v 6), .int (v 7), .int (v 8), .ref aT, .int (v 9), .int (v 10), .int (v 11), .int (v 12), .ref a1, .ref a2, .ref a3, .ref aB, .int (v 13), .int (v 14)])), (aS, .inl (E.2.1.1, 12, .inl ms)), (aL, .inl (E.2.1.1, 156, .inl (upd (o_X8_rises_0_1_1 v (o_X8_rises_0_0_1 v (o_X8_does_0_1_1 v (o_X8_does_0_0_1 v sl da) db) (o_X8_does_0_0_r v sl da) dr) (o_X8_does_0_1_r v (o_X8_does_0_0_1 v sl da) db) dr) 8 (j_X8_goes_0_1_0 v ms sl da db dr))))] H locs → lv_has ls 10 [(7, .int ((0 ||| (j_X8_goes_0_0_0 v ms sl da db dr)) ||| (j_X8_goes_0_2_0 v ms sl da db dr))), (9, .int (o_X8_isShaded_0_1_r v ms (upd (o_X8_rises_0_1_1 v (o_X8_rises_0_0_1 v (o_X8_does_0_1_1 v (o_X8_does_0_0_1 v sl da) db) (o_X8_does_0_0_r v sl da) dr) (o_X8_does_0_1_r v (o_X8_does_0_0_1 v sl da) db) dr) 8 (j_X8_goes_0_1_0 v ms sl da db dr)))), (8, .int 1), (6, .int (o_X8_does_0_1_r v (o_X8_does_0_0_1 v sl da) db)), (5, .int (o_X8_does_0_0_r v sl da)), (0, .ref m), (1, .int 0), (2, .int da), (3, .int db), (4, .int dr)] → W zp l ze (zR 3 66) zs zm za zb zt zc H locs 0 0 zq (F0 zm 125 ls [.int y3_0, .int 9, .ref aL]) := by
            intro y3_0 H locs ls e_y3_0 hG hl
            subst e_y3_0
            refine z_ist C dX8_goes_125 hG 2 rfl 9 (by decide) (Nat.le_of_ble_eq_true rfl) (Nat.le_of_ble_eq_true rfl) (ws' := [(m, .inr (8, [.int (v 0), .int (v 1), .ref aS, .int (v 2), .int (v 3), .int (v 4), .ref aW, .int (v 5), .ref aL, .int (v 6), .int (v 7), .int (v 8), .ref aT, .int (v 9), .int (v 10), .int (v 11), .int (v 12), .ref a1, .ref a2, .ref a3, .ref aB, .int (v 13), .int (v 14)])), (aS, .inl (E.2.1.1, 12, .inl ms)), (aL, .inl (E.2.1.1, 156, .inl (upd (upd (o_X8_rises_0_1_1 v (o_X8_rises_0_0_1 v (o_X8_does_0_1_1 v (o_X8_does_0_0_1 v sl da) db) (o_X8_does_0_0_r v sl da) dr) (o_X8_does_0_1_r v (o_X8_does_0_0_1 v sl da) db) dr) 8 (j_X8_goes_0_1_0 v ms sl da db dr)) 9 (j_X8_goes_0_3_0 v ms sl da db dr))))]) rfl (fun H locs hG => ?_)
            refine lv_iinc (v := 2) (lv' := [(8, .int 2), (7, .int ((0 ||| (j_X8_goes_0_0_0 v ms sl da db dr)) ||| (j_X8_goes_0_2_0 v ms sl da db dr))), (9, .int (o_X8_isShaded_0_1_r v ms (upd (o_X8_rises_0_1_1 v (o_X8_rises_0_0_1 v (o_X8_does_0_1_1 v (o_X8_does_0_0_1 v sl da) db) (o_X8_does_0_0_r v sl da) dr) (o_X8_does_0_1_r v (o_X8_does_0_0_1 v sl da) db) dr) 8 (j_X8_goes_0_1_0 v ms sl da db dr)))), (6, .int (o_X8_does_0_1_r v (o_X8_does_0_0_1 v sl da) db)), (5, .int (o_X8_does_0_0_r v sl da)), (0, .ref m), (1, .int 0), (2, .int da), (3, .int db), (4, .int dr)]) hx hb dX8_goes_126 hl (k := 2) rfl (by decide) (by decide) rfl (fun ls hl => ?_)
            refine lv_goto (tgt := 58) hx hb dX8_goes_129 (by decide) ?_
            refine lv_iload hx hb dX8_goes_58 (lv_at hl 0 rfl) ?_
            refine lv_iconst (v := 2) hx hb dX8_goes_60 (by decide) ?_
            refine lv_icmp_ge (tgt := 132) hx hb dX8_goes_61 (by decide) (fun c_8 => ?_) (fun c_8 => absurd (by decide) c_8)
            refine lv_iconst (v := 0) hx hb dX8_goes_132 (by decide) ?_
            refine lv_istore (lv' := [(8, .int 0), (7, .int ((0 ||| (j_X8_goes_0_0_0 v ms sl da db dr)) ||| (j_X8_goes_0_2_0 v ms sl da db dr))), (9, .int (o_X8_isShaded_0_1_r v ms (upd (o_X8_rises_0_1_1 v (o_X8_rises_0_0_1 v (o_X8_does_0_1_1 v (o_X8_does_0_0_1 v sl da) db) (o_X8_does_0_0_r v sl da) dr) (o_X8_does_0_1_r v (o_X8_does_0_0_1 v sl da) db) dr) 8 (j_X8_goes_0_1_0 v ms sl da db dr)))), (6, .int (o_X8_does_0_1_r v (o_X8_does_0_0_1 v sl da) db)), (5, .int (o_X8_does_0_0_r v sl da)), (0, .ref m), (1, .int 0), (2, .int da), (3, .int db), (4, .int dr)]) hx hb dX8_goes_133 hl (by decide) rfl (fun ls hl => ?_)
            refine lv_iload hx hb dX8_goes_135 (lv_at hl 0 rfl) ?_
            refine lv_iconst (v := 2) hx hb dX8_goes_137 (by decide) ?_
            refine lv_icmp_ge (tgt := 189) hx hb dX8_goes_138 (by decide) (fun c_9 => absurd c_9 (by decide)) (fun c_9 => ?_)
            refine lv_aload_n hx hb dX8_goes_141 rfl (lv_at hl 5 rfl) ?_
            refine gf_X8_16 C dX8_goes_142 hG 0 rfl rfl ?_
            refine lv_iload_n hx hb dX8_goes_145 rfl (lv_at hl 6 rfl) ?_
            refine lv_bipush (v := 12) hx hb dX8_goes_146 (by decide) ?_
            refine lv_iadd hx hb dX8_goes_148 ?_
            refine z_ti (y := 12) (by decide) ?_
            refine lv_aload_n hx hb dX8_goes_149 rfl (lv_at hl 5 rfl) ?_
            refine gf_X8_16 C dX8_goes_150 hG 0 rfl rfl ?_
            refine lv_iload_n hx hb dX8_goes_153 rfl (lv_at hl 6 rfl) ?_
            refine lv_bipush (v := 8) hx hb dX8_goes_154 (by decide) ?_
            refine lv_iadd hx hb dX8_goes_156 ?_
            refine z_ti (y := 8) (by decide) ?_
            refine lv_iload hx hb dX8_goes_157 (lv_at hl 0 rfl) ?_
            refine lv_iadd hx hb dX8_goes_159 ?_
            refine z_ti (y := 8) (by decide) ?_
            refine z_ild C dX8_goes_160 hG 2 rfl 8 (by decide) (Nat.le_of_ble_eq_true rfl) (Nat.le_of_ble_eq_true rfl) ?_
            refine lv_aload_n hx hb dX8_goes_161 rfl (lv_at hl 5 rfl) ?_
            refine gf_X8_39 C dX8_goes_162 hG 0 rfl rfl ?_
            have k_4 : ∀ (y4_0 : Int32) (H : Heap) (locs : List Loc) (ls : Array Slot), (j_X8_goes_0_4_0 v ms sl da db dr) = y4_0 → zG E zA zs.heap [(m, .inr (8, [.int (v 0), .int (v 1), .ref aS, .int (v 2), .int (v 3), .int (v 4), .ref aW, .int (v 5), .ref aL, .int (v 6), .int (v 7), .int (v 8), .ref aT, .int (v 9), .int (v 10), .int (v 11), .int (v 12), .ref a1, .ref a2, .ref a3, .ref aB, .int (v 13), .int (v 14)])), (aS, .inl (E.2.1.1, 12, .inl ms)), (aL, .inl (E.2.1.1, 156, .inl (upd (upd (o_X8_rises_0_1_1 v (o_X8_rises_0_0_1 v (o_X8_does_0_1_1 v (o_X8_does_0_0_1 v sl da) db) (o_X8_does_0_0_r v sl da) dr) (o_X8_does_0_1_r v (o_X8_does_0_0_1 v sl da) db) dr) 8 (j_X8_goes_0_1_0 v ms sl da db dr)) 9 (j_X8_goes_0_3_0 v ms sl da db dr))))] H locs → lv_has ls 10 [(8, .int 0), (7, .int ((0 ||| (j_X8_goes_0_0_0 v ms sl da db dr)) ||| (j_X8_goes_0_2_0 v ms sl da db dr))), (9, .int (o_X8_isShaded_0_1_r v ms (upd (o_X8_rises_0_1_1 v (o_X8_rises_0_0_1 v (o_X8_does_0_1_1 v (o_X8_does_0_0_1 v sl da) db) (o_X8_does_0_0_r v sl da) dr) (o_X8_does_0_1_r v (o_X8_does_0_0_1 v sl da) db) dr) 8 (j_X8_goes_0_1_0 v ms sl da db dr)))), (6, .int (o_X8_does_0_1_r v (o_X8_does_0_0_1 v sl da) db)), (5, .int (o_X8_does_0_0_r v sl da)), (0, .ref m), (1, .int 0), (2, .int da), (3, .int db), (4, .int dr)] → W zp l ze (zR 3 66) zs zm za zb zt zc H locs 0 0 zq (F0 zm 182 ls [.int y4_0, .int 12, .ref aL]) := by
              intro y4_0 H locs ls e_y4_0 hG hl
              subst e_y4_0
              refine z_ist C dX8_goes_182 hG 2 rfl 12 (by decide) (Nat.le_of_ble_eq_true rfl) (Nat.le_of_ble_eq_true rfl) (ws' := [(m, .inr (8, [.int (v 0), .int (v 1), .ref aS, .int (v 2), .int (v 3), .int (v 4), .ref aW, .int (v 5), .ref aL, .int (v 6), .int (v 7), .int (v 8), .ref aT, .int (v 9), .int (v 10), .int (v 11), .int (v 12), .ref a1, .ref a2, .ref a3, .ref aB, .int (v 13), .int (v 14)])), (aS, .inl (E.2.1.1, 12, .inl ms)), (aL, .inl (E.2.1.1, 156, .inl (upd (upd (upd (o_X8_rises_0_1_1 v (o_X8_rises_0_0_1 v (o_X8_does_0_1_1 v (o_X8_does_0_0_1 v sl da) db) (o_X8_does_0_0_r v sl da) dr) (o_X8_does_0_1_r v (o_X8_does_0_0_1 v sl da) db) dr) 8 (j_X8_goes_0_1_0 v ms sl da db dr)) 9 (j_X8_goes_0_3_0 v ms sl da db dr)) 12 (j_X8_goes_0_4_0 v ms sl da db dr))))]) rfl (fun H locs hG => ?_)
              refine lv_iinc (v := 1) (lv' := [(8, .int 1), (7, .int ((0 ||| (j_X8_goes_0_0_0 v ms sl da db dr)) ||| (j_X8_goes_0_2_0 v ms sl da db dr))), (9, .int (o_X8_isShaded_0_1_r v ms (upd (o_X8_rises_0_1_1 v (o_X8_rises_0_0_1 v (o_X8_does_0_1_1 v (o_X8_does_0_0_1 v sl da) db) (o_X8_does_0_0_r v sl da) dr) (o_X8_does_0_1_r v (o_X8_does_0_0_1 v sl da) db) dr) 8 (j_X8_goes_0_1_0 v ms sl da db dr)))), (6, .int (o_X8_does_0_1_r v (o_X8_does_0_0_1 v sl da) db)), (5, .int (o_X8_does_0_0_r v sl da)), (0, .ref m), (1, .int 0), (2, .int da), (3, .int db), (4, .int dr)]) hx hb dX8_goes_183 hl (k := 0) rfl (by decide) (by decide) rfl (fun ls hl => ?_)
              refine lv_goto (tgt := 135) hx hb dX8_goes_186 (by decide) ?_
              refine lv_iload hx hb dX8_goes_135 (lv_at hl 0 rfl) ?_
              refine lv_iconst (v := 2) hx hb dX8_goes_137 (by decide) ?_
              refine lv_icmp_ge (tgt := 189) hx hb dX8_goes_138 (by decide) (fun c_11 => absurd c_11 (by decide)) (fun c_11 => ?_)
              refine lv_aload_n hx hb dX8_goes_141 rfl (lv_at hl 5 rfl) ?_
              refine gf_X8_16 C dX8_goes_142 hG 0 rfl rfl ?_
              refine lv_iload_n hx hb dX8_goes_145 rfl (lv_at hl 6 rfl) ?_
              refine lv_bipush (v := 12) hx hb dX8_goes_146 (by decide) ?_
              refine lv_iadd hx hb dX8_goes_148 ?_
              refine z_ti (y := 12) (by decide) ?_
              refine lv_aload_n hx hb dX8_goes_149 rfl (lv_at hl 5 rfl) ?_
              refine gf_X8_16 C dX8_goes_150 hG 0 rfl rfl ?_
              refine lv_iload_n hx hb dX8_goes_153 rfl (lv_at hl 6 rfl) ?_
              refine lv_bipush (v := 8) hx hb dX8_goes_154 (by decide) ?_
              refine lv_iadd hx hb dX8_goes_156 ?_
              refine z_ti (y := 8) (by decide) ?_
              refine lv_iload hx hb dX8_goes_157 (lv_at hl 0 rfl) ?_
              refine lv_iadd hx hb dX8_goes_159 ?_
              refine z_ti (y := 9) (by decide) ?_
              refine z_ild C dX8_goes_160 hG 2 rfl 9 (by decide) (Nat.le_of_ble_eq_true rfl) (Nat.le_of_ble_eq_true rfl) ?_
              refine lv_aload_n hx hb dX8_goes_161 rfl (lv_at hl 5 rfl) ?_
              refine gf_X8_39 C dX8_goes_162 hG 0 rfl rfl ?_
              have k_5 : ∀ (y5_0 : Int32) (H : Heap) (locs : List Loc) (ls : Array Slot), (j_X8_goes_0_5_0 v ms sl da db dr) = y5_0 → zG E zA zs.heap [(m, .inr (8, [.int (v 0), .int (v 1), .ref aS, .int (v 2), .int (v 3), .int (v 4), .ref aW, .int (v 5), .ref aL, .int (v 6), .int (v 7), .int (v 8), .ref aT, .int (v 9), .int (v 10), .int (v 11), .int (v 12), .ref a1, .ref a2, .ref a3, .ref aB, .int (v 13), .int (v 14)])), (aS, .inl (E.2.1.1, 12, .inl ms)), (aL, .inl (E.2.1.1, 156, .inl (upd (upd (upd (o_X8_rises_0_1_1 v (o_X8_rises_0_0_1 v (o_X8_does_0_1_1 v (o_X8_does_0_0_1 v sl da) db) (o_X8_does_0_0_r v sl da) dr) (o_X8_does_0_1_r v (o_X8_does_0_0_1 v sl da) db) dr) 8 (j_X8_goes_0_1_0 v ms sl da db dr)) 9 (j_X8_goes_0_3_0 v ms sl da db dr)) 12 (j_X8_goes_0_4_0 v ms sl da db dr))))] H locs → lv_has ls 10 [(8, .int 1), (7, .int ((0 ||| (j_X8_goes_0_0_0 v ms sl da db dr)) ||| (j_X8_goes_0_2_0 v ms sl da db dr))), (9, .int (o_X8_isShaded_0_1_r v ms (upd (o_X8_rises_0_1_1 v (o_X8_rises_0_0_1 v (o_X8_does_0_1_1 v (o_X8_does_0_0_1 v sl da) db) (o_X8_does_0_0_r v sl da) dr) (o_X8_does_0_1_r v (o_X8_does_0_0_1 v sl da) db) dr) 8 (j_X8_goes_0_1_0 v ms sl da db dr)))), (6, .int (o_X8_does_0_1_r v (o_X8_does_0_0_1 v sl da) db)), (5, .int (o_X8_does_0_0_r v sl da)), (0, .ref m), (1, .int 0), (2, .int da), (3, .int db), (4, .int dr)] → W zp l ze (zR 3 66) zs zm za zb zt zc H locs 0 0 zq (F0 zm 182 ls [.int y5_0, .int 12, .ref aL]) := by
                intro y5_0 H locs ls e_y5_0 hG hl
                subst e_y5_0
                refine z_ist C dX8_goes_182 hG 2 rfl 12 (by decide) (Nat.le_of_ble_eq_true rfl) (Nat.le_of_ble_eq_true rfl) (ws' := [(m, .inr (8, [.int (v 0), .int (v 1), .ref aS, .int (v 2), .int (v 3), .int (v 4), .ref aW, .int (v 5), .ref aL, .int (v 6), .int (v 7), .int (v 8), .ref aT, .int (v 9), .int (v 10), .int (v 11), .int (v 12), .ref a1, .ref a2, .ref a3, .ref aB, .int (v 13), .int (v 14)])), (aS, .inl (E.2.1.1, 12, .inl ms)), (aL, .inl (E.2.1.1, 156, .inl (upd (upd (upd (upd (o_X8_rises_0_1_1 v (o_X8_rises_0_0_1 v (o_X8_does_0_1_1 v (o_X8_does_0_0_1 v sl da) db) (o_X8_does_0_0_r v sl da) dr) (o_X8_does_0_1_r v (o_X8_does_0_0_1 v sl da) db) dr) 8 (j_X8_goes_0_1_0 v ms sl da db dr)) 9 (j_X8_goes_0_3_0 v ms sl da db dr)) 12 (j_X8_goes_0_4_0 v ms sl da db dr)) 12 (j_X8_goes_0_5_0 v ms sl da db dr))))]) rfl (fun H locs hG => ?_)
                refine lv_iinc (v := 2) (lv' := [(8, .int 2), (7, .int ((0 ||| (j_X8_goes_0_0_0 v ms sl da db dr)) ||| (j_X8_goes_0_2_0 v ms sl da db dr))), (9, .int (o_X8_isShaded_0_1_r v ms (upd (o_X8_rises_0_1_1 v (o_X8_rises_0_0_1 v (o_X8_does_0_1_1 v (o_X8_does_0_0_1 v sl da) db) (o_X8_does_0_0_r v sl da) dr) (o_X8_does_0_1_r v (o_X8_does_0_0_1 v sl da) db) dr) 8 (j_X8_goes_0_1_0 v ms sl da db dr)))), (6, .int (o_X8_does_0_1_r v (o_X8_does_0_0_1 v sl da) db)), (5, .int (o_X8_does_0_0_r v sl da)), (0, .ref m), (1, .int 0), (2, .int da), (3, .int db), (4, .int dr)]) hx hb dX8_goes_183 hl (k := 0) rfl (by decide) (by decide) rfl (fun ls hl => ?_)
                refine lv_goto (tgt := 135) hx hb dX8_goes_186 (by decide) ?_
                refine lv_iload hx hb dX8_goes_135 (lv_at hl 0 rfl) ?_
                refine lv_iconst (v := 2) hx hb dX8_goes_137 (by decide) ?_
                refine lv_icmp_ge (tgt := 189) hx hb dX8_goes_138 (by decide) (fun c_13 => ?_) (fun c_13 => absurd (by decide) c_13)
                refine lv_aload_n hx hb dX8_goes_189 rfl (lv_at hl 5 rfl) ?_
                refine gf_X8_16 C dX8_goes_190 hG 0 rfl rfl ?_
                refine lv_iload_n hx hb dX8_goes_193 rfl (lv_at hl 6 rfl) ?_
                refine lv_bipush (v := 11) hx hb dX8_goes_194 (by decide) ?_
                refine lv_iadd hx hb dX8_goes_196 ?_
                refine z_ti (y := 11) (by decide) ?_
                refine lv_dup2_11 hx hb dX8_goes_197 rfl rfl ?_
                refine z_ild C dX8_goes_198 hG 2 rfl 11 (by decide) (Nat.le_of_ble_eq_true rfl) (Nat.le_of_ble_eq_true rfl) ?_
                refine lv_iconst (v := 1) hx hb dX8_goes_199 (by decide) ?_
                refine lv_iadd hx hb dX8_goes_200 ?_
                refine z_ist C dX8_goes_201 hG 2 rfl 11 (by decide) (Nat.le_of_ble_eq_true rfl) (Nat.le_of_ble_eq_true rfl) (ws' := [(m, .inr (8, [.int (v 0), .int (v 1), .ref aS, .int (v 2), .int (v 3), .int (v 4), .ref aW, .int (v 5), .ref aL, .int (v 6), .int (v 7), .int (v 8), .ref aT, .int (v 9), .int (v 10), .int (v 11), .int (v 12), .ref a1, .ref a2, .ref a3, .ref aB, .int (v 13), .int (v 14)])), (aS, .inl (E.2.1.1, 12, .inl ms)), (aL, .inl (E.2.1.1, 156, .inl (upd (upd (upd (upd (upd (o_X8_rises_0_1_1 v (o_X8_rises_0_0_1 v (o_X8_does_0_1_1 v (o_X8_does_0_0_1 v sl da) db) (o_X8_does_0_0_r v sl da) dr) (o_X8_does_0_1_r v (o_X8_does_0_0_1 v sl da) db) dr) 8 (j_X8_goes_0_1_0 v ms sl da db dr)) 9 (j_X8_goes_0_3_0 v ms sl da db dr)) 12 (j_X8_goes_0_4_0 v ms sl da db dr)) 12 (j_X8_goes_0_5_0 v ms sl da db dr)) 11 (((upd (upd (upd (upd (o_X8_rises_0_1_1 v (o_X8_rises_0_0_1 v (o_X8_does_0_1_1 v (o_X8_does_0_0_1 v sl da) db) (o_X8_does_0_0_r v sl da) dr) (o_X8_does_0_1_r v (o_X8_does_0_0_1 v sl da) db) dr) 8 (j_X8_goes_0_1_0 v ms sl da db dr)) 9 (j_X8_goes_0_3_0 v ms sl da db dr)) 12 (j_X8_goes_0_4_0 v ms sl da db dr)) 12 (j_X8_goes_0_5_0 v ms sl da db dr)) 11) + 1))))]) rfl (fun H locs hG => ?_)
                refine lv_iload hx hb dX8_goes_202 (lv_at hl 1 rfl) ?_
                rw [hQ]
                exact z_iret C hr hlk hG dX8_goes_204 rfl (by rw [o_X8_goes_0_r, if_pos c_1]) (by rw [o_X8_goes_0_2, if_pos c_1])
              refine lv_icmp_lt (tgt := 173) hx hb dX8_goes_165 (by decide) (fun c_12 => ?_) (fun c_12 => ?_)
              · skip
                refine lv_aload_n hx hb dX8_goes_173 rfl (lv_at hl 5 rfl) ?_
                refine gf_X8_16 C dX8_goes_174 hG 0 rfl rfl ?_
                refine lv_iload_n hx hb dX8_goes_177 rfl (lv_at hl 6 rfl) ?_
                refine lv_bipush (v := 12) hx hb dX8_goes_178 (by decide) ?_
                refine lv_iadd hx hb dX8_goes_180 ?_
                refine z_ti (y := 12) (by decide) ?_
                refine z_ild C dX8_goes_181 hG 2 rfl 12 (by decide) (Nat.le_of_ble_eq_true rfl) (Nat.le_of_ble_eq_true rfl) ?_
                exact k_5 ((upd (upd (upd (o_X8_rises_0_1_1 v (o_X8_rises_0_0_1 v (o_X8_does_0_1_1 v (o_X8_does_0_0_1 v sl da) db) (o_X8_does_0_0_r v sl da) dr) (o_X8_does_0_1_r v (o_X8_does_0_0_1 v sl da) db) dr) 8 (j_X8_goes_0_1_0 v ms sl da db dr)) 9 (j_X8_goes_0_3_0 v ms sl da db dr)) 12 (j_X8_goes_0_4_0 v ms sl da db dr)) 12) _ _ _ (by rw [j_X8_goes_0_5_0, if_pos c_12]) hG (lv_sub hl [0, 1, 2, 3, 4, 5, 6, 7, 8, 9] rfl)
              · skip
                refine lv_iload hx hb dX8_goes_168 (lv_at hl 0 rfl) ?_
                refine lv_goto (tgt := 182) hx hb dX8_goes_170 (by decide) ?_
                exact k_5 1 _ _ _ (by rw [j_X8_goes_0_5_0, if_neg c_12]) hG (lv_sub hl [0, 1, 2, 3, 4, 5, 6, 7, 8, 9] rfl)
            refine lv_icmp_lt (tgt := 173) hx hb dX8_goes_165 (by decide) (fun c_10 => ?_) (fun c_10 => ?_)
            · skip
              refine lv_aload_n hx hb dX8_goes_173 rfl (lv_at hl 5 rfl) ?_
              refine gf_X8_16 C dX8_goes_174 hG 0 rfl rfl ?_
              refine lv_iload_n hx hb dX8_goes_177 rfl (lv_at hl 6 rfl) ?_
              refine lv_bipush (v := 12) hx hb dX8_goes_178 (by decide) ?_
              refine lv_iadd hx hb dX8_goes_180 ?_
              refine z_ti (y := 12) (by decide) ?_
              refine z_ild C dX8_goes_181 hG 2 rfl 12 (by decide) (Nat.le_of_ble_eq_true rfl) (Nat.le_of_ble_eq_true rfl) ?_
              exact k_4 ((upd (upd (o_X8_rises_0_1_1 v (o_X8_rises_0_0_1 v (o_X8_does_0_1_1 v (o_X8_does_0_0_1 v sl da) db) (o_X8_does_0_0_r v sl da) dr) (o_X8_does_0_1_r v (o_X8_does_0_0_1 v sl da) db) dr) 8 (j_X8_goes_0_1_0 v ms sl da db dr)) 9 (j_X8_goes_0_3_0 v ms sl da db dr)) 12) _ _ _ (by rw [j_X8_goes_0_4_0, if_pos c_10]) hG (lv_sub hl [0, 1, 2, 3, 4, 5, 6, 7, 8, 9] rfl)
            · skip
              refine lv_iload hx hb dX8_goes_168 (lv_at hl 0 rfl) ?_
              refine lv_goto (tgt := 182) hx hb dX8_goes_170 (by decide) ?_
              exact k_4 0 _ _ _ (by rw [j_X8_goes_0_4_0, if_neg c_10]) hG (lv_sub hl [0, 1, 2, 3, 4, 5, 6, 7, 8, 9] rfl)
          refine lv_if_eq (tgt := 124) hx hb dX8_goes_104 (by decide) (fun c_7 => ?_) (fun c_7 => ?_)
          · skip
            refine lv_iconst (v := 0) hx hb dX8_goes_124 (by decide) ?_
            exact k_3 0 _ _ _ (by rw [j_X8_goes_0_3_0, if_pos c_7]) hG (lv_sub hl [0, 1, 2, 3, 4, 5, 6, 7, 8, 9] rfl)
          · skip
            refine lv_aload_n hx hb dX8_goes_107 rfl (lv_at hl 5 rfl) ?_
            refine gf_X8_16 C dX8_goes_108 hG 0 rfl rfl ?_
            refine lv_iload_n hx hb dX8_goes_111 rfl (lv_at hl 6 rfl) ?_
            refine lv_bipush (v := 8) hx hb dX8_goes_112 (by decide) ?_
            refine lv_iadd hx hb dX8_goes_114 ?_
            refine z_ti (y := 8) (by decide) ?_
            refine lv_iload hx hb dX8_goes_115 (lv_at hl 2 rfl) ?_
            refine lv_iadd hx hb dX8_goes_117 ?_
            refine z_ti (y := 9) (by decide) ?_
            refine z_ild C dX8_goes_118 hG 2 rfl 9 (by decide) (Nat.le_of_ble_eq_true rfl) (Nat.le_of_ble_eq_true rfl) ?_
            refine lv_iconst (v := 1) hx hb dX8_goes_119 (by decide) ?_
            refine lv_iadd hx hb dX8_goes_120 ?_
            refine lv_goto (tgt := 125) hx hb dX8_goes_121 (by decide) ?_
            exact k_3 (((upd (o_X8_rises_0_1_1 v (o_X8_rises_0_0_1 v (o_X8_does_0_1_1 v (o_X8_does_0_0_1 v sl da) db) (o_X8_does_0_0_r v sl da) dr) (o_X8_does_0_1_r v (o_X8_does_0_0_1 v sl da) db) dr) 8 (j_X8_goes_0_1_0 v ms sl da db dr)) 9) + 1) _ _ _ (by rw [j_X8_goes_0_3_0, if_neg c_7]) hG (lv_sub hl [0, 1, 2, 3, 4, 5, 6, 7, 8, 9] rfl)
        refine lv_if_eq (tgt := 87) hx hb dX8_goes_77 (by decide) (fun c_6 => ?_) (fun c_6 => ?_)
        · skip
          refine lv_iconst (v := 0) hx hb dX8_goes_87 (by decide) ?_
          exact k_2 0 _ _ _ (by rw [j_X8_goes_0_2_0, if_pos c_6]) hG (lv_sub hl [0, 1, 2, 3, 4, 5, 6, 7, 8, 9] rfl)
        · skip
          refine lv_iconst (v := 1) hx hb dX8_goes_80 (by decide) ?_
          refine lv_iload hx hb dX8_goes_81 (lv_at hl 1 rfl) ?_
          refine lv_ishl hx hb dX8_goes_83 ?_
          refine z_ti (y := 2) (by decide) ?_
          refine lv_goto (tgt := 88) hx hb dX8_goes_84 (by decide) ?_
          exact k_2 2 _ _ _ (by rw [j_X8_goes_0_2_0, if_neg c_6]) hG (lv_sub hl [0, 1, 2, 3, 4, 5, 6, 7, 8, 9] rfl)
      refine lv_if_eq (tgt := 124) hx hb dX8_goes_104 (by decide) (fun c_4 => ?_) (fun c_4 => ?_)
      · skip
        refine lv_iconst (v := 0) hx hb dX8_goes_124 (by decide) ?_
        exact k_1 0 _ _ _ (by rw [j_X8_goes_0_1_0, if_pos c_4]) hG (lv_sub hl [0, 1, 2, 3, 4, 5, 6, 7, 8, 9] rfl)
      · skip
        refine lv_aload_n hx hb dX8_goes_107 rfl (lv_at hl 5 rfl) ?_
        refine gf_X8_16 C dX8_goes_108 hG 0 rfl rfl ?_
        refine lv_iload_n hx hb dX8_goes_111 rfl (lv_at hl 6 rfl) ?_
        refine lv_bipush (v := 8) hx hb dX8_goes_112 (by decide) ?_
        refine lv_iadd hx hb dX8_goes_114 ?_
        refine z_ti (y := 8) (by decide) ?_
        refine lv_iload hx hb dX8_goes_115 (lv_at hl 2 rfl) ?_
        refine lv_iadd hx hb dX8_goes_117 ?_
        refine z_ti (y := 8) (by decide) ?_
        refine z_ild C dX8_goes_118 hG 2 rfl 8 (by decide) (Nat.le_of_ble_eq_true rfl) (Nat.le_of_ble_eq_true rfl) ?_
        refine lv_iconst (v := 1) hx hb dX8_goes_119 (by decide) ?_
        refine lv_iadd hx hb dX8_goes_120 ?_
        refine lv_goto (tgt := 125) hx hb dX8_goes_121 (by decide) ?_
        exact k_1 (((o_X8_rises_0_1_1 v (o_X8_rises_0_0_1 v (o_X8_does_0_1_1 v (o_X8_does_0_0_1 v sl da) db) (o_X8_does_0_0_r v sl da) dr) (o_X8_does_0_1_r v (o_X8_does_0_0_1 v sl da) db) dr) 8) + 1) _ _ _ (by rw [j_X8_goes_0_1_0, if_neg c_4]) hG (lv_sub hl [0, 1, 2, 3, 4, 5, 6, 7, 8, 9] rfl)
    refine lv_if_eq (tgt := 87) hx hb dX8_goes_77 (by decide) (fun c_3 => ?_) (fun c_3 => ?_)
    · skip
      refine lv_iconst (v := 0) hx hb dX8_goes_87 (by decide) ?_
      exact k_0 0 _ _ _ (by rw [j_X8_goes_0_0_0, if_pos c_3]) hG (lv_sub hl [0, 1, 2, 3, 4, 5, 6, 7, 8, 9] rfl)
    · skip
      refine lv_iconst (v := 1) hx hb dX8_goes_80 (by decide) ?_
      refine lv_iload hx hb dX8_goes_81 (lv_at hl 1 rfl) ?_
      refine lv_ishl hx hb dX8_goes_83 ?_
      refine z_ti (y := 1) (by decide) ?_
      refine lv_goto (tgt := 88) hx hb dX8_goes_84 (by decide) ?_
      exact k_0 1 _ _ _ (by rw [j_X8_goes_0_0_0, if_neg c_3]) hG (lv_sub hl [0, 1, 2, 3, 4, 5, 6, 7, 8, 9] rfl)
  · skip
    refine lv_iconst (v := 0) hx hb dX8_goes_12 (by decide) ?_
    rw [hQ]
    exact z_iret C hr hlk hG dX8_goes_13 rfl (by rw [o_X8_goes_0_r, if_neg c_1]) (by rw [o_X8_goes_0_2, if_neg c_1])
def o_X8_told_0_r (v : Nat → Int32) (ms : Nat → Int32) (sl : Nat → Int32) (da : Int32) (db : Int32) : Int32 := (o_X8_goes_0_r v ms sl da db (o_X8_isDryNow_0_r v sl))
def o_X8_told_0_2 (v : Nat → Int32) (ms : Nat → Int32) (sl : Nat → Int32) (da : Int32) (db : Int32) : Nat → Int32 := (o_X8_goes_0_2 v ms sl da db (o_X8_isDryNow_0_r v sl))
set_option maxRecDepth 100000 in
set_option maxHeartbeats 4000000 in
theorem c_X8_told_0 (l : Launch) (E : zE) (v : Nat → Int32) (ms : Nat → Int32) (sl : Nat → Int32) (da : Int32) (db : Int32) (m aS aW aL aT a1 a2 a3 aB : Nat) (hM : 0 ≤ (sl 11).toInt) : HM l E yX8_told cX8_told 4 (some .int) 4 95 [.ref m, .int 0, .int da, .int db] [(m, .inr (8, [.int (v 0), .int (v 1), .ref aS, .int (v 2), .int (v 3), .int (v 4), .ref aW, .int (v 5), .ref aL, .int (v 6), .int (v 7), .int (v 8), .ref aT, .int (v 9), .int (v 10), .int (v 11), .int (v 12), .ref a1, .ref a2, .ref a3, .ref aB, .int (v 13), .int (v 14)])), (aS, .inl (E.2.1.1, 12, .inl ms)), (aL, .inl (E.2.1.1, 156, .inl sl))] (some (.int (o_X8_told_0_r v ms sl da db))) [(m, .inr (8, [.int (v 0), .int (v 1), .ref aS, .int (v 2), .int (v 3), .int (v 4), .ref aW, .int (v 5), .ref aL, .int (v 6), .int (v 7), .int (v 8), .ref aT, .int (v 9), .int (v 10), .int (v 11), .int (v 12), .ref a1, .ref a2, .ref a3, .ref aB, .int (v 13), .int (v 14)])), (aS, .inl (E.2.1.1, 12, .inl ms)), (aL, .inl (E.2.1.1, 156, .inl (o_X8_told_0_2 v ms sl da db)))] := by
  refine HM.of (own := RX8) (plainFor_of_name (by decide)) rfl (Nat.le_of_ble_eq_true rfl) ?_
  intro zp ze zs zm za zb zt zc zA ls H locs zq C hr hlk hG hl hQ
  have hx := C.1.1
  have hb := C.1.2.1
  replace hl : lv_has ls 4 [(0, .ref m), (1, .int 0), (2, .int da), (3, .int db)] := hl
  refine lv_aload_n hx hb dX8_told_0 rfl (lv_at hl 0 rfl) ?_
  refine lv_iload_n hx hb dX8_told_1 rfl (lv_at hl 1 rfl) ?_
  refine lv_iload_n hx hb dX8_told_2 rfl (lv_at hl 2 rfl) ?_
  refine lv_iload_n hx hb dX8_told_3 rfl (lv_at hl 3 rfl) ?_
  refine lv_aload_n hx hb dX8_told_4 rfl (lv_at hl 0 rfl) ?_
  refine lv_iload_n hx hb dX8_told_5 rfl (lv_at hl 1 rfl) ?_
  refine call_X8_153 C dX8_told_6 (c_X8_isDryNow_0 l E v sl m aS aW aL aT a1 a2 a3 aB) hl hG 0 rfl [0, 2] (by decide) rfl (ads := [m, aL]) rfl rfl (ws' := [(m, .inr (8, [.int (v 0), .int (v 1), .ref aS, .int (v 2), .int (v 3), .int (v 4), .ref aW, .int (v 5), .ref aL, .int (v 6), .int (v 7), .int (v 8), .ref aT, .int (v 9), .int (v 10), .int (v 11), .int (v 12), .ref a1, .ref a2, .ref a3, .ref aB, .int (v 13), .int (v 14)])), (aS, .inl (E.2.1.1, 12, .inl ms)), (aL, .inl (E.2.1.1, 156, .inl sl))]) rfl rfl (rest := [.int db, .int da, .int 0, .ref m]) rfl (Nat.le_of_ble_eq_true rfl) ⟨Nat.le_of_ble_eq_true rfl, Nat.le_of_ble_eq_true rfl⟩ (fun H locs hG => ?_)
  refine call_X8_156 C dX8_told_9 (c_X8_goes_0 l E v ms sl da db (o_X8_isDryNow_0_r v sl) m aS aW aL aT a1 a2 a3 aB (by first | exact hM | (simpa [upd, gn_does_0_0, gn_rises_0_0, gn_does_0_1, gn_rises_0_1] using hM))) hl hG 0 rfl [0, 1, 2] (by decide) rfl (ads := [m, aS, aL]) rfl rfl (ws' := [(m, .inr (8, [.int (v 0), .int (v 1), .ref aS, .int (v 2), .int (v 3), .int (v 4), .ref aW, .int (v 5), .ref aL, .int (v 6), .int (v 7), .int (v 8), .ref aT, .int (v 9), .int (v 10), .int (v 11), .int (v 12), .ref a1, .ref a2, .ref a3, .ref aB, .int (v 13), .int (v 14)])), (aS, .inl (E.2.1.1, 12, .inl ms)), (aL, .inl (E.2.1.1, 156, .inl (o_X8_goes_0_2 v ms sl da db (o_X8_isDryNow_0_r v sl))))]) rfl rfl (rest := []) rfl (Nat.le_of_ble_eq_true rfl) ⟨Nat.le_of_ble_eq_true rfl, Nat.le_of_ble_eq_true rfl⟩ (fun H locs hG => ?_)
  rw [hQ]
  exact z_iret C hr hlk hG dX8_told_12 rfl (by rw [o_X8_told_0_r]) (by rw [o_X8_told_0_2])
def o_X8_sunIn_143_r (v : Nat → Int32) (ms : Nat → Int32) (sl : Nat → Int32) : Int32 := (ms (((sl 154) - (sl 154) / 12 * 12).toNatClampNeg))
set_option maxRecDepth 100000 in
set_option maxHeartbeats 4000000 in
theorem c_X8_sunIn_143 (l : Launch) (E : zE) (v : Nat → Int32) (ms : Nat → Int32) (sl : Nat → Int32) (m aS aW aL aT a1 a2 a3 aB : Nat) (hM : 0 ≤ (sl 154).toInt) : HM l E yX8_sunIn cX8_sunIn 2 (some .int) 0 0 [.ref m, .int 143] [(m, .inr (8, [.int (v 0), .int (v 1), .ref aS, .int (v 2), .int (v 3), .int (v 4), .ref aW, .int (v 5), .ref aL, .int (v 6), .int (v 7), .int (v 8), .ref aT, .int (v 9), .int (v 10), .int (v 11), .int (v 12), .ref a1, .ref a2, .ref a3, .ref aB, .int (v 13), .int (v 14)])), (aS, .inl (E.2.1.1, 12, .inl ms)), (aL, .inl (E.2.1.1, 156, .inl sl))] (some (.int (o_X8_sunIn_143_r v ms sl))) [(m, .inr (8, [.int (v 0), .int (v 1), .ref aS, .int (v 2), .int (v 3), .int (v 4), .ref aW, .int (v 5), .ref aL, .int (v 6), .int (v 7), .int (v 8), .ref aT, .int (v 9), .int (v 10), .int (v 11), .int (v 12), .ref a1, .ref a2, .ref a3, .ref aB, .int (v 13), .int (v 14)])), (aS, .inl (E.2.1.1, 12, .inl ms)), (aL, .inl (E.2.1.1, 156, .inl sl))] := by
  refine HM.of (own := RX8) (plainFor_of_name (by decide)) rfl (Nat.le_of_ble_eq_true rfl) ?_
  intro zp ze zs zm za zb zt zc zA ls H locs zq C hr hlk hG hl hQ
  have hx := C.1.1
  have hb := C.1.2.1
  replace hl : lv_has ls 2 [(0, .ref m), (1, .int 143)] := hl
  refine lv_aload_n hx hb dX8_sunIn_0 rfl (lv_at hl 0 rfl) ?_
  refine gf_X8_7 C dX8_sunIn_1 hG 0 rfl rfl ?_
  refine lv_aload_n hx hb dX8_sunIn_4 rfl (lv_at hl 0 rfl) ?_
  refine gf_X8_16 C dX8_sunIn_5 hG 0 rfl rfl ?_
  refine lv_iload_n hx hb dX8_sunIn_8 rfl (lv_at hl 1 rfl) ?_
  refine lv_bipush (v := 11) hx hb dX8_sunIn_9 (by decide) ?_
  refine lv_iadd hx hb dX8_sunIn_11 ?_
  refine z_ti (y := 154) (by decide) ?_
  refine z_ild C dX8_sunIn_12 hG 2 rfl 154 (by decide) (Nat.le_of_ble_eq_true rfl) (Nat.le_of_ble_eq_true rfl) ?_
  refine lv_bipush (v := 12) hx hb dX8_sunIn_13 (by decide) ?_
  refine lv_irem hx hb dX8_sunIn_15 (by decide) ?_
  refine z_iald C dX8_sunIn_16 hG 1 rfl (z_rem hM) ?_
  rw [hQ]
  exact z_iret C hr hlk hG dX8_sunIn_17 rfl (by rw [o_X8_sunIn_143_r]) rfl
def o_X8_isDryNow_143_r (v : Nat → Int32) (sl : Nat → Int32) : Int32 := (if (((v 2) >>> (((sl 154) - (sl 154) / 12 * 12) &&& 31)) &&& 1) = 1 then 1 else 0)
set_option maxRecDepth 100000 in
set_option maxHeartbeats 4000000 in
theorem c_X8_isDryNow_143 (l : Launch) (E : zE) (v : Nat → Int32) (sl : Nat → Int32) (m aS aW aL aT a1 a2 a3 aB : Nat) : HM l E yX8_isDryNow cX8_isDryNow 2 (some .boolean) 0 0 [.ref m, .int 143] [(m, .inr (8, [.int (v 0), .int (v 1), .ref aS, .int (v 2), .int (v 3), .int (v 4), .ref aW, .int (v 5), .ref aL, .int (v 6), .int (v 7), .int (v 8), .ref aT, .int (v 9), .int (v 10), .int (v 11), .int (v 12), .ref a1, .ref a2, .ref a3, .ref aB, .int (v 13), .int (v 14)])), (aL, .inl (E.2.1.1, 156, .inl sl))] (some (.int (o_X8_isDryNow_143_r v sl))) [(m, .inr (8, [.int (v 0), .int (v 1), .ref aS, .int (v 2), .int (v 3), .int (v 4), .ref aW, .int (v 5), .ref aL, .int (v 6), .int (v 7), .int (v 8), .ref aT, .int (v 9), .int (v 10), .int (v 11), .int (v 12), .ref a1, .ref a2, .ref a3, .ref aB, .int (v 13), .int (v 14)])), (aL, .inl (E.2.1.1, 156, .inl sl))] := by
  refine HM.of (own := RX8) (plainFor_of_name (by decide)) rfl (Nat.le_of_ble_eq_true rfl) ?_
  intro zp ze zs zm za zb zt zc zA ls H locs zq C hr hlk hG hl hQ
  have hx := C.1.1
  have hb := C.1.2.1
  replace hl : lv_has ls 2 [(0, .ref m), (1, .int 143)] := hl
  refine lv_aload_n hx hb dX8_isDryNow_0 rfl (lv_at hl 0 rfl) ?_
  refine gf_X8_42 C dX8_isDryNow_1 hG 0 rfl rfl ?_
  refine lv_aload_n hx hb dX8_isDryNow_4 rfl (lv_at hl 0 rfl) ?_
  refine gf_X8_16 C dX8_isDryNow_5 hG 0 rfl rfl ?_
  refine lv_iload_n hx hb dX8_isDryNow_8 rfl (lv_at hl 1 rfl) ?_
  refine lv_bipush (v := 11) hx hb dX8_isDryNow_9 (by decide) ?_
  refine lv_iadd hx hb dX8_isDryNow_11 ?_
  refine z_ti (y := 154) (by decide) ?_
  refine z_ild C dX8_isDryNow_12 hG 1 rfl 154 (by decide) (Nat.le_of_ble_eq_true rfl) (Nat.le_of_ble_eq_true rfl) ?_
  refine lv_bipush (v := 12) hx hb dX8_isDryNow_13 (by decide) ?_
  refine lv_irem hx hb dX8_isDryNow_15 (by decide) ?_
  refine lv_ishr hx hb dX8_isDryNow_16 ?_
  refine lv_iconst (v := 1) hx hb dX8_isDryNow_17 (by decide) ?_
  refine lv_iand hx hb dX8_isDryNow_18 ?_
  refine lv_iconst (v := 1) hx hb dX8_isDryNow_19 (by decide) ?_
  refine lv_icmp_ne (tgt := 27) hx hb dX8_isDryNow_20 (by decide) (fun c_1 => ?_) (fun c_1 => ?_)
  · skip
    refine lv_iconst (v := 0) hx hb dX8_isDryNow_27 (by decide) ?_
    rw [hQ]
    exact z_iret C hr hlk hG dX8_isDryNow_28 rfl (by rw [o_X8_isDryNow_143_r, if_neg c_1]) rfl
  · skip
    refine lv_iconst (v := 1) hx hb dX8_isDryNow_23 (by decide) ?_
    refine lv_goto (tgt := 28) hx hb dX8_isDryNow_24 (by decide) ?_
    rw [hQ]
    exact z_iret C hr hlk hG dX8_isDryNow_28 rfl (by rw [o_X8_isDryNow_143_r, if_pos c_1]) rfl
theorem o_X8_isDryNow_143_b (v : Nat → Int32) (sl : Nat → Int32) : o_X8_isDryNow_143_r v sl = 0 ∨ o_X8_isDryNow_143_r v sl = 1 := by
  unfold o_X8_isDryNow_143_r; (repeat' split) <;> first | exact Or.inl rfl | exact Or.inr rfl
def o_X8_shadow_143_0_r (v : Nat → Int32) (ms : Nat → Int32) (sl : Nat → Int32) : Int32 := (((sl 145) * (10 - (o_X8_sunIn_143_r v ms sl))) / 3)
set_option maxRecDepth 100000 in
set_option maxHeartbeats 4000000 in
theorem c_X8_shadow_143_0 (l : Launch) (E : zE) (v : Nat → Int32) (ms : Nat → Int32) (sl : Nat → Int32) (m aS aW aL aT a1 a2 a3 aB : Nat) (hM : 0 ≤ (sl 154).toInt) : HM l E yX8_shadow cX8_shadow 3 (some .int) 1 21 [.ref m, .int 143, .int 0] [(m, .inr (8, [.int (v 0), .int (v 1), .ref aS, .int (v 2), .int (v 3), .int (v 4), .ref aW, .int (v 5), .ref aL, .int (v 6), .int (v 7), .int (v 8), .ref aT, .int (v 9), .int (v 10), .int (v 11), .int (v 12), .ref a1, .ref a2, .ref a3, .ref aB, .int (v 13), .int (v 14)])), (aS, .inl (E.2.1.1, 12, .inl ms)), (aL, .inl (E.2.1.1, 156, .inl sl))] (some (.int (o_X8_shadow_143_0_r v ms sl))) [(m, .inr (8, [.int (v 0), .int (v 1), .ref aS, .int (v 2), .int (v 3), .int (v 4), .ref aW, .int (v 5), .ref aL, .int (v 6), .int (v 7), .int (v 8), .ref aT, .int (v 9), .int (v 10), .int (v 11), .int (v 12), .ref a1, .ref a2, .ref a3, .ref aB, .int (v 13), .int (v 14)])), (aS, .inl (E.2.1.1, 12, .inl ms)), (aL, .inl (E.2.1.1, 156, .inl sl))] := by
  refine HM.of (own := RX8) (plainFor_of_name (by decide)) rfl (Nat.le_of_ble_eq_true rfl) ?_
  intro zp ze zs zm za zb zt zc zA ls H locs zq C hr hlk hG hl hQ
  have hx := C.1.1
  have hb := C.1.2.1
  replace hl : lv_has ls 3 [(0, .ref m), (1, .int 143), (2, .int 0)] := hl
  refine lv_aload_n hx hb dX8_shadow_0 rfl (lv_at hl 0 rfl) ?_
  refine gf_X8_16 C dX8_shadow_1 hG 0 rfl rfl ?_
  refine lv_iload_n hx hb dX8_shadow_4 rfl (lv_at hl 1 rfl) ?_
  refine lv_iconst (v := 2) hx hb dX8_shadow_5 (by decide) ?_
  refine lv_iadd hx hb dX8_shadow_6 ?_
  refine z_ti (y := 145) (by decide) ?_
  refine lv_iload_n hx hb dX8_shadow_7 rfl (lv_at hl 2 rfl) ?_
  refine lv_iadd hx hb dX8_shadow_8 ?_
  refine z_ti (y := 145) (by decide) ?_
  refine z_ild C dX8_shadow_9 hG 2 rfl 145 (by decide) (Nat.le_of_ble_eq_true rfl) (Nat.le_of_ble_eq_true rfl) ?_
  refine lv_bipush (v := 10) hx hb dX8_shadow_10 (by decide) ?_
  refine lv_aload_n hx hb dX8_shadow_12 rfl (lv_at hl 0 rfl) ?_
  refine lv_iload_n hx hb dX8_shadow_13 rfl (lv_at hl 1 rfl) ?_
  refine call_X8_114 C dX8_shadow_14 (c_X8_sunIn_143 l E v ms sl m aS aW aL aT a1 a2 a3 aB (by first | exact hM | (simpa [upd, gn_does_0_0, gn_rises_0_0, gn_does_0_1, gn_rises_0_1] using hM))) hl hG 0 rfl [0, 1, 2] (by decide) rfl (ads := [m, aS, aL]) rfl rfl (ws' := [(m, .inr (8, [.int (v 0), .int (v 1), .ref aS, .int (v 2), .int (v 3), .int (v 4), .ref aW, .int (v 5), .ref aL, .int (v 6), .int (v 7), .int (v 8), .ref aT, .int (v 9), .int (v 10), .int (v 11), .int (v 12), .ref a1, .ref a2, .ref a3, .ref aB, .int (v 13), .int (v 14)])), (aS, .inl (E.2.1.1, 12, .inl ms)), (aL, .inl (E.2.1.1, 156, .inl sl))]) rfl rfl (rest := [.int 10, .int (sl 145)]) rfl (Nat.le_of_ble_eq_true rfl) ⟨Nat.le_of_ble_eq_true rfl, Nat.le_of_ble_eq_true rfl⟩ (fun H locs hG => ?_)
  refine lv_isub hx hb dX8_shadow_17 ?_
  refine lv_imul hx hb dX8_shadow_18 ?_
  refine lv_iconst (v := 3) hx hb dX8_shadow_19 (by decide) ?_
  refine lv_idiv hx hb dX8_shadow_20 (by decide) ?_
  rw [hQ]
  exact z_iret C hr hlk hG dX8_shadow_21 rfl (by rw [o_X8_shadow_143_0_r]) rfl
def j_X8_does_143_0_0_0 (v : Nat → Int32) (sl : Nat → Int32) (ac : Int32) : Nat → Int32 := (if ac = 4 then (upd sl 147 (o_X8_smaller_r 3 ((sl 147) + 1))) else sl)
def j_X8_does_143_0_1_0 (v : Nat → Int32) (sl : Nat → Int32) (ac : Int32) : Nat → Int32 := (if ac = 4 then (upd sl 147 (o_X8_smaller_r 3 ((sl 147) + 1))) else sl)
def j_X8_does_143_0_2_0 (v : Nat → Int32) (sl : Nat → Int32) (ac : Int32) : Nat → Int32 := (if ac = 4 then (upd sl 147 (o_X8_smaller_r 3 ((sl 147) + 1))) else sl)
def j_X8_does_143_0_3_0 (v : Nat → Int32) (sl : Nat → Int32) (ac : Int32) : Nat → Int32 := (if ac = 4 then (upd sl 147 (o_X8_smaller_r 3 ((sl 147) + 1))) else sl)
def j_X8_does_143_0_4_0 (v : Nat → Int32) (sl : Nat → Int32) (ac : Int32) : Nat → Int32 := (if ac = 4 then (upd sl 147 (o_X8_smaller_r 3 ((sl 147) + 1))) else sl)
def j_X8_does_143_0_5_0 (v : Nat → Int32) (sl : Nat → Int32) (ac : Int32) : Nat → Int32 := (if ac = 4 then (upd sl 147 (o_X8_smaller_r 3 ((sl 147) + 1))) else sl)
def j_X8_does_143_0_6_0 (v : Nat → Int32) (sl : Nat → Int32) (ac : Int32) : Int32 := (if (3 : Int32) ≤ (sl 145) then (sl 145) else (o_X8_larger_r 0 ((sl 145) - 1)))
def o_X8_does_143_0_r (v : Nat → Int32) (sl : Nat → Int32) (ac : Int32) : Int32 := (if ac = 1 then 0 else (if ac = 2 then (if (sl 149) < 3 then (if ac = 3 then (if (sl 149) < 1 then 0 else (if (sl 153) < 1 then 0 else 1)) else 0) else (if (3 : Int32) ≤ (sl 145) then 2 else 0)) else (if ac = 3 then (if (sl 149) < 1 then 0 else (if (sl 153) < 1 then 0 else 1)) else 0)))
def o_X8_does_143_0_1 (v : Nat → Int32) (sl : Nat → Int32) (ac : Int32) : Nat → Int32 := (if ac = 1 then (upd sl 145 (o_X8_larger_r 0 ((sl 145) - 2))) else (if ac = 2 then (if (sl 149) < 3 then (if ac = 3 then (if (sl 149) < 1 then (j_X8_does_143_0_4_0 v sl ac) else (if (sl 153) < 1 then (j_X8_does_143_0_5_0 v sl ac) else (upd (upd sl 149 ((sl 149) - 1)) 153 (((upd sl 149 ((sl 149) - 1)) 153) - 1)))) else (j_X8_does_143_0_3_0 v sl ac)) else (upd (upd sl 149 ((sl 149) - 3)) 145 (j_X8_does_143_0_6_0 v sl ac))) else (if ac = 3 then (if (sl 149) < 1 then (j_X8_does_143_0_1_0 v sl ac) else (if (sl 153) < 1 then (j_X8_does_143_0_2_0 v sl ac) else (upd (upd sl 149 ((sl 149) - 1)) 153 (((upd sl 149 ((sl 149) - 1)) 153) - 1)))) else (j_X8_does_143_0_0_0 v sl ac))))
set_option maxRecDepth 100000 in
set_option maxHeartbeats 4000000 in
theorem c_X8_does_143_0 (l : Launch) (E : zE) (v : Nat → Int32) (sl : Nat → Int32) (ac : Int32) (m aS aW aL aT a1 a2 a3 aB : Nat) : HM l E yX8_does cX8_does 5 (some .int) 1 21 [.ref m, .int 143, .int 0, .int ac] [(m, .inr (8, [.int (v 0), .int (v 1), .ref aS, .int (v 2), .int (v 3), .int (v 4), .ref aW, .int (v 5), .ref aL, .int (v 6), .int (v 7), .int (v 8), .ref aT, .int (v 9), .int (v 10), .int (v 11), .int (v 12), .ref a1, .ref a2, .ref a3, .ref aB, .int (v 13), .int (v 14)])), (aL, .inl (E.2.1.1, 156, .inl sl))] (some (.int (o_X8_does_143_0_r v sl ac))) [(m, .inr (8, [.int (v 0), .int (v 1), .ref aS, .int (v 2), .int (v 3), .int (v 4), .ref aW, .int (v 5), .ref aL, .int (v 6), .int (v 7), .int (v 8), .ref aT, .int (v 9), .int (v 10), .int (v 11), .int (v 12), .ref a1, .ref a2, .ref a3, .ref aB, .int (v 13), .int (v 14)])), (aL, .inl (E.2.1.1, 156, .inl (o_X8_does_143_0_1 v sl ac)))] := by
  refine HM.of (own := RX8) (plainFor_of_name (by decide)) rfl (Nat.le_of_ble_eq_true rfl) ?_
  intro zp ze zs zm za zb zt zc zA ls H locs zq C hr hlk hG hl hQ
  have hx := C.1.1
  have hb := C.1.2.1
  replace hl : lv_has ls 5 [(0, .ref m), (1, .int 143), (2, .int 0), (3, .int ac)] := hl
  refine lv_aload_n hx hb dX8_does_0 rfl (lv_at hl 0 rfl) ?_
  refine gf_X8_16 C dX8_does_1 hG 0 rfl rfl ?_
  refine lv_iload_n hx hb dX8_does_4 rfl (lv_at hl 1 rfl) ?_
  refine lv_iconst (v := 2) hx hb dX8_does_5 (by decide) ?_
  refine lv_iadd hx hb dX8_does_6 ?_
  refine z_ti (y := 145) (by decide) ?_
  refine lv_iload_n hx hb dX8_does_7 rfl (lv_at hl 2 rfl) ?_
  refine lv_iadd hx hb dX8_does_8 ?_
  refine z_ti (y := 145) (by decide) ?_
  refine z_ild C dX8_does_9 hG 1 rfl 145 (by decide) (Nat.le_of_ble_eq_true rfl) (Nat.le_of_ble_eq_true rfl) ?_
  refine lv_istore (lv' := [(4, .int (sl 145)), (0, .ref m), (1, .int 143), (2, .int 0), (3, .int ac)]) hx hb dX8_does_10 hl (by decide) rfl (fun ls hl => ?_)
  refine lv_iload_n hx hb dX8_does_12 rfl (lv_at hl 4 rfl) ?_
  refine lv_iconst (v := 1) hx hb dX8_does_13 (by decide) ?_
  refine lv_icmp_ne (tgt := 38) hx hb dX8_does_14 (by decide) (fun c_1 => ?_) (fun c_1 => ?_)
  · skip
    refine lv_iload_n hx hb dX8_does_38 rfl (lv_at hl 4 rfl) ?_
    refine lv_iconst (v := 2) hx hb dX8_does_39 (by decide) ?_
    refine lv_icmp_ne (tgt := 114) hx hb dX8_does_40 (by decide) (fun c_2 => ?_) (fun c_2 => ?_)
    · skip
      refine lv_iload_n hx hb dX8_does_114 rfl (lv_at hl 4 rfl) ?_
      refine lv_iconst (v := 3) hx hb dX8_does_115 (by decide) ?_
      refine lv_icmp_ne (tgt := 177) hx hb dX8_does_116 (by decide) (fun c_3 => ?_) (fun c_3 => ?_)
      · skip
        refine lv_iload_n hx hb dX8_does_177 rfl (lv_at hl 4 rfl) ?_
        refine lv_iconst (v := 4) hx hb dX8_does_178 (by decide) ?_
        have k_0 : ∀ (y0_0 : Nat → Int32) (H : Heap) (locs : List Loc) (ls : Array Slot), (j_X8_does_143_0_0_0 v sl ac) = y0_0 → zG E zA zs.heap [(m, .inr (8, [.int (v 0), .int (v 1), .ref aS, .int (v 2), .int (v 3), .int (v 4), .ref aW, .int (v 5), .ref aL, .int (v 6), .int (v 7), .int (v 8), .ref aT, .int (v 9), .int (v 10), .int (v 11), .int (v 12), .ref a1, .ref a2, .ref a3, .ref aB, .int (v 13), .int (v 14)])), (aL, .inl (E.2.1.1, 156, .inl y0_0))] H locs → lv_has ls 5 [(4, .int (sl 145)), (0, .ref m), (1, .int 143), (2, .int 0), (3, .int ac)] → W zp l ze (zR 1 21) zs zm za zb zt zc H locs 0 0 zq (F0 zm 208 ls []) := by
          intro y0_0 H locs ls e_y0_0 hG hl
          subst e_y0_0
          refine lv_iconst (v := 0) hx hb dX8_does_208 (by decide) ?_
          rw [hQ]
          exact z_iret C hr hlk hG dX8_does_209 rfl (by rw [o_X8_does_143_0_r, if_neg c_1, if_neg c_2, if_neg c_3]) (by rw [o_X8_does_143_0_1, if_neg c_1, if_neg c_2, if_neg c_3])
        refine lv_icmp_ne (tgt := 208) hx hb dX8_does_179 (by decide) (fun c_4 => ?_) (fun c_4 => ?_)
        · skip
          exact k_0 sl _ _ _ (by rw [j_X8_does_143_0_0_0, if_neg c_4]) hG (lv_sub hl [0, 1, 2, 3, 4] rfl)
        · skip
          refine lv_aload_n hx hb dX8_does_182 rfl (lv_at hl 1 rfl) ?_
          refine gf_X8_16 C dX8_does_183 hG 0 rfl rfl ?_
          refine lv_iload_n hx hb dX8_does_186 rfl (lv_at hl 2 rfl) ?_
          refine lv_iconst (v := 4) hx hb dX8_does_187 (by decide) ?_
          refine lv_iadd hx hb dX8_does_188 ?_
          refine z_ti (y := 147) (by decide) ?_
          refine lv_iload_n hx hb dX8_does_189 rfl (lv_at hl 3 rfl) ?_
          refine lv_iadd hx hb dX8_does_190 ?_
          refine z_ti (y := 147) (by decide) ?_
          refine lv_iconst (v := 3) hx hb dX8_does_191 (by decide) ?_
          refine lv_aload_n hx hb dX8_does_192 rfl (lv_at hl 1 rfl) ?_
          refine gf_X8_16 C dX8_does_193 hG 0 rfl rfl ?_
          refine lv_iload_n hx hb dX8_does_196 rfl (lv_at hl 2 rfl) ?_
          refine lv_iconst (v := 4) hx hb dX8_does_197 (by decide) ?_
          refine lv_iadd hx hb dX8_does_198 ?_
          refine z_ti (y := 147) (by decide) ?_
          refine lv_iload_n hx hb dX8_does_199 rfl (lv_at hl 3 rfl) ?_
          refine lv_iadd hx hb dX8_does_200 ?_
          refine z_ti (y := 147) (by decide) ?_
          refine z_ild C dX8_does_201 hG 1 rfl 147 (by decide) (Nat.le_of_ble_eq_true rfl) (Nat.le_of_ble_eq_true rfl) ?_
          refine lv_iconst (v := 1) hx hb dX8_does_202 (by decide) ?_
          refine lv_iadd hx hb dX8_does_203 ?_
          refine call_X8_136 C dX8_does_204 (c_X8_smaller l E 3 ((sl 147) + 1)) hl hG [] (by decide) rfl (ads := []) rfl rfl (ws' := [(m, .inr (8, [.int (v 0), .int (v 1), .ref aS, .int (v 2), .int (v 3), .int (v 4), .ref aW, .int (v 5), .ref aL, .int (v 6), .int (v 7), .int (v 8), .ref aT, .int (v 9), .int (v 10), .int (v 11), .int (v 12), .ref a1, .ref a2, .ref a3, .ref aB, .int (v 13), .int (v 14)])), (aL, .inl (E.2.1.1, 156, .inl sl))]) rfl rfl (rest := [.int 147, .ref aL]) rfl (Nat.le_of_ble_eq_true rfl) ⟨Nat.le_of_ble_eq_true rfl, Nat.le_of_ble_eq_true rfl⟩ (fun H locs hG => ?_)
          refine z_ist C dX8_does_207 hG 1 rfl 147 (by decide) (Nat.le_of_ble_eq_true rfl) (Nat.le_of_ble_eq_true rfl) (ws' := [(m, .inr (8, [.int (v 0), .int (v 1), .ref aS, .int (v 2), .int (v 3), .int (v 4), .ref aW, .int (v 5), .ref aL, .int (v 6), .int (v 7), .int (v 8), .ref aT, .int (v 9), .int (v 10), .int (v 11), .int (v 12), .ref a1, .ref a2, .ref a3, .ref aB, .int (v 13), .int (v 14)])), (aL, .inl (E.2.1.1, 156, .inl (upd sl 147 (o_X8_smaller_r 3 ((sl 147) + 1)))))]) rfl (fun H locs hG => ?_)
          exact k_0 (upd sl 147 (o_X8_smaller_r 3 ((sl 147) + 1))) _ _ _ (by rw [j_X8_does_143_0_0_0, if_pos c_4]) hG (lv_sub hl [0, 1, 2, 3, 4] rfl)
      · skip
        refine lv_aload_n hx hb dX8_does_119 rfl (lv_at hl 1 rfl) ?_
        refine gf_X8_16 C dX8_does_120 hG 0 rfl rfl ?_
        refine lv_iload_n hx hb dX8_does_123 rfl (lv_at hl 2 rfl) ?_
        refine lv_bipush (v := 6) hx hb dX8_does_124 (by decide) ?_
        refine lv_iadd hx hb dX8_does_126 ?_
        refine z_ti (y := 149) (by decide) ?_
        refine lv_iload_n hx hb dX8_does_127 rfl (lv_at hl 3 rfl) ?_
        refine lv_iadd hx hb dX8_does_128 ?_
        refine z_ti (y := 149) (by decide) ?_
        refine z_ild C dX8_does_129 hG 1 rfl 149 (by decide) (Nat.le_of_ble_eq_true rfl) (Nat.le_of_ble_eq_true rfl) ?_
        refine lv_iconst (v := 1) hx hb dX8_does_130 (by decide) ?_
        refine lv_icmp_lt (tgt := 177) hx hb dX8_does_131 (by decide) (fun c_5 => ?_) (fun c_5 => ?_)
        · skip
          refine lv_iload_n hx hb dX8_does_177 rfl (lv_at hl 4 rfl) ?_
          refine lv_iconst (v := 4) hx hb dX8_does_178 (by decide) ?_
          have k_1 : ∀ (y1_0 : Nat → Int32) (H : Heap) (locs : List Loc) (ls : Array Slot), (j_X8_does_143_0_1_0 v sl ac) = y1_0 → zG E zA zs.heap [(m, .inr (8, [.int (v 0), .int (v 1), .ref aS, .int (v 2), .int (v 3), .int (v 4), .ref aW, .int (v 5), .ref aL, .int (v 6), .int (v 7), .int (v 8), .ref aT, .int (v 9), .int (v 10), .int (v 11), .int (v 12), .ref a1, .ref a2, .ref a3, .ref aB, .int (v 13), .int (v 14)])), (aL, .inl (E.2.1.1, 156, .inl y1_0))] H locs → lv_has ls 5 [(4, .int (sl 145)), (0, .ref m), (1, .int 143), (2, .int 0), (3, .int ac)] → W zp l ze (zR 1 21) zs zm za zb zt zc H locs 0 0 zq (F0 zm 208 ls []) := by
            intro y1_0 H locs ls e_y1_0 hG hl
            subst e_y1_0
            refine lv_iconst (v := 0) hx hb dX8_does_208 (by decide) ?_
            rw [hQ]
            exact z_iret C hr hlk hG dX8_does_209 rfl (by rw [o_X8_does_143_0_r, if_neg c_1, if_neg c_2, if_pos c_3, if_pos c_5]) (by rw [o_X8_does_143_0_1, if_neg c_1, if_neg c_2, if_pos c_3, if_pos c_5])
          refine lv_icmp_ne (tgt := 208) hx hb dX8_does_179 (by decide) (fun c_6 => ?_) (fun c_6 => ?_)
          · skip
            exact k_1 sl _ _ _ (by rw [j_X8_does_143_0_1_0, if_neg c_6]) hG (lv_sub hl [0, 1, 2, 3, 4] rfl)
          · skip
            refine lv_aload_n hx hb dX8_does_182 rfl (lv_at hl 1 rfl) ?_
            refine gf_X8_16 C dX8_does_183 hG 0 rfl rfl ?_
            refine lv_iload_n hx hb dX8_does_186 rfl (lv_at hl 2 rfl) ?_
            refine lv_iconst (v := 4) hx hb dX8_does_187 (by decide) ?_
            refine lv_iadd hx hb dX8_does_188 ?_
            refine z_ti (y := 147) (by decide) ?_
            refine lv_iload_n hx hb dX8_does_189 rfl (lv_at hl 3 rfl) ?_
            refine lv_iadd hx hb dX8_does_190 ?_
            refine z_ti (y := 147) (by decide) ?_
            refine lv_iconst (v := 3) hx hb dX8_does_191 (by decide) ?_
            refine lv_aload_n hx hb dX8_does_192 rfl (lv_at hl 1 rfl) ?_
            refine gf_X8_16 C dX8_does_193 hG 0 rfl rfl ?_
            refine lv_iload_n hx hb dX8_does_196 rfl (lv_at hl 2 rfl) ?_
            refine lv_iconst (v := 4) hx hb dX8_does_197 (by decide) ?_
            refine lv_iadd hx hb dX8_does_198 ?_
            refine z_ti (y := 147) (by decide) ?_
            refine lv_iload_n hx hb dX8_does_199 rfl (lv_at hl 3 rfl) ?_
            refine lv_iadd hx hb dX8_does_200 ?_
            refine z_ti (y := 147) (by decide) ?_
            refine z_ild C dX8_does_201 hG 1 rfl 147 (by decide) (Nat.le_of_ble_eq_true rfl) (Nat.le_of_ble_eq_true rfl) ?_
            refine lv_iconst (v := 1) hx hb dX8_does_202 (by decide) ?_
            refine lv_iadd hx hb dX8_does_203 ?_
            refine call_X8_136 C dX8_does_204 (c_X8_smaller l E 3 ((sl 147) + 1)) hl hG [] (by decide) rfl (ads := []) rfl rfl (ws' := [(m, .inr (8, [.int (v 0), .int (v 1), .ref aS, .int (v 2), .int (v 3), .int (v 4), .ref aW, .int (v 5), .ref aL, .int (v 6), .int (v 7), .int (v 8), .ref aT, .int (v 9), .int (v 10), .int (v 11), .int (v 12), .ref a1, .ref a2, .ref a3, .ref aB, .int (v 13), .int (v 14)])), (aL, .inl (E.2.1.1, 156, .inl sl))]) rfl rfl (rest := [.int 147, .ref aL]) rfl (Nat.le_of_ble_eq_true rfl) ⟨Nat.le_of_ble_eq_true rfl, Nat.le_of_ble_eq_true rfl⟩ (fun H locs hG => ?_)
            refine z_ist C dX8_does_207 hG 1 rfl 147 (by decide) (Nat.le_of_ble_eq_true rfl) (Nat.le_of_ble_eq_true rfl) (ws' := [(m, .inr (8, [.int (v 0), .int (v 1), .ref aS, .int (v 2), .int (v 3), .int (v 4), .ref aW, .int (v 5), .ref aL, .int (v 6), .int (v 7), .int (v 8), .ref aT, .int (v 9), .int (v 10), .int (v 11), .int (v 12), .ref a1, .ref a2, .ref a3, .ref aB, .int (v 13), .int (v 14)])), (aL, .inl (E.2.1.1, 156, .inl (upd sl 147 (o_X8_smaller_r 3 ((sl 147) + 1)))))]) rfl (fun H locs hG => ?_)
            exact k_1 (upd sl 147 (o_X8_smaller_r 3 ((sl 147) + 1))) _ _ _ (by rw [j_X8_does_143_0_1_0, if_pos c_6]) hG (lv_sub hl [0, 1, 2, 3, 4] rfl)
        · skip
          refine lv_aload_n hx hb dX8_does_134 rfl (lv_at hl 1 rfl) ?_
          refine gf_X8_16 C dX8_does_135 hG 0 rfl rfl ?_
          refine lv_iload_n hx hb dX8_does_138 rfl (lv_at hl 2 rfl) ?_
          refine lv_bipush (v := 10) hx hb dX8_does_139 (by decide) ?_
          refine lv_iadd hx hb dX8_does_141 ?_
          refine z_ti (y := 153) (by decide) ?_
          refine z_ild C dX8_does_142 hG 1 rfl 153 (by decide) (Nat.le_of_ble_eq_true rfl) (Nat.le_of_ble_eq_true rfl) ?_
          refine lv_iconst (v := 1) hx hb dX8_does_143 (by decide) ?_
          refine lv_icmp_lt (tgt := 177) hx hb dX8_does_144 (by decide) (fun c_7 => ?_) (fun c_7 => ?_)
          · skip
            refine lv_iload_n hx hb dX8_does_177 rfl (lv_at hl 4 rfl) ?_
            refine lv_iconst (v := 4) hx hb dX8_does_178 (by decide) ?_
            have k_2 : ∀ (y2_0 : Nat → Int32) (H : Heap) (locs : List Loc) (ls : Array Slot), (j_X8_does_143_0_2_0 v sl ac) = y2_0 → zG E zA zs.heap [(m, .inr (8, [.int (v 0), .int (v 1), .ref aS, .int (v 2), .int (v 3), .int (v 4), .ref aW, .int (v 5), .ref aL, .int (v 6), .int (v 7), .int (v 8), .ref aT, .int (v 9), .int (v 10), .int (v 11), .int (v 12), .ref a1, .ref a2, .ref a3, .ref aB, .int (v 13), .int (v 14)])), (aL, .inl (E.2.1.1, 156, .inl y2_0))] H locs → lv_has ls 5 [(4, .int (sl 145)), (0, .ref m), (1, .int 143), (2, .int 0), (3, .int ac)] → W zp l ze (zR 1 21) zs zm za zb zt zc H locs 0 0 zq (F0 zm 208 ls []) := by
              intro y2_0 H locs ls e_y2_0 hG hl
              subst e_y2_0
              refine lv_iconst (v := 0) hx hb dX8_does_208 (by decide) ?_
              rw [hQ]
              exact z_iret C hr hlk hG dX8_does_209 rfl (by rw [o_X8_does_143_0_r, if_neg c_1, if_neg c_2, if_pos c_3, if_neg c_5, if_pos c_7]) (by rw [o_X8_does_143_0_1, if_neg c_1, if_neg c_2, if_pos c_3, if_neg c_5, if_pos c_7])
            refine lv_icmp_ne (tgt := 208) hx hb dX8_does_179 (by decide) (fun c_8 => ?_) (fun c_8 => ?_)
            · skip
              exact k_2 sl _ _ _ (by rw [j_X8_does_143_0_2_0, if_neg c_8]) hG (lv_sub hl [0, 1, 2, 3, 4] rfl)
            · skip
              refine lv_aload_n hx hb dX8_does_182 rfl (lv_at hl 1 rfl) ?_
              refine gf_X8_16 C dX8_does_183 hG 0 rfl rfl ?_
              refine lv_iload_n hx hb dX8_does_186 rfl (lv_at hl 2 rfl) ?_
              refine lv_iconst (v := 4) hx hb dX8_does_187 (by decide) ?_
              refine lv_iadd hx hb dX8_does_188 ?_
              refine z_ti (y := 147) (by decide) ?_
              refine lv_iload_n hx hb dX8_does_189 rfl (lv_at hl 3 rfl) ?_
              refine lv_iadd hx hb dX8_does_190 ?_
              refine z_ti (y := 147) (by decide) ?_
              refine lv_iconst (v := 3) hx hb dX8_does_191 (by decide) ?_
              refine lv_aload_n hx hb dX8_does_192 rfl (lv_at hl 1 rfl) ?_
              refine gf_X8_16 C dX8_does_193 hG 0 rfl rfl ?_
              refine lv_iload_n hx hb dX8_does_196 rfl (lv_at hl 2 rfl) ?_
              refine lv_iconst (v := 4) hx hb dX8_does_197 (by decide) ?_
              refine lv_iadd hx hb dX8_does_198 ?_
              refine z_ti (y := 147) (by decide) ?_
              refine lv_iload_n hx hb dX8_does_199 rfl (lv_at hl 3 rfl) ?_
              refine lv_iadd hx hb dX8_does_200 ?_
              refine z_ti (y := 147) (by decide) ?_
              refine z_ild C dX8_does_201 hG 1 rfl 147 (by decide) (Nat.le_of_ble_eq_true rfl) (Nat.le_of_ble_eq_true rfl) ?_
              refine lv_iconst (v := 1) hx hb dX8_does_202 (by decide) ?_
              refine lv_iadd hx hb dX8_does_203 ?_
              refine call_X8_136 C dX8_does_204 (c_X8_smaller l E 3 ((sl 147) + 1)) hl hG [] (by decide) rfl (ads := []) rfl rfl (ws' := [(m, .inr (8, [.int (v 0), .int (v 1), .ref aS, .int (v 2), .int (v 3), .int (v 4), .ref aW, .int (v 5), .ref aL, .int (v 6), .int (v 7), .int (v 8), .ref aT, .int (v 9), .int (v 10), .int (v 11), .int (v 12), .ref a1, .ref a2, .ref a3, .ref aB, .int (v 13), .int (v 14)])), (aL, .inl (E.2.1.1, 156, .inl sl))]) rfl rfl (rest := [.int 147, .ref aL]) rfl (Nat.le_of_ble_eq_true rfl) ⟨Nat.le_of_ble_eq_true rfl, Nat.le_of_ble_eq_true rfl⟩ (fun H locs hG => ?_)
              refine z_ist C dX8_does_207 hG 1 rfl 147 (by decide) (Nat.le_of_ble_eq_true rfl) (Nat.le_of_ble_eq_true rfl) (ws' := [(m, .inr (8, [.int (v 0), .int (v 1), .ref aS, .int (v 2), .int (v 3), .int (v 4), .ref aW, .int (v 5), .ref aL, .int (v 6), .int (v 7), .int (v 8), .ref aT, .int (v 9), .int (v 10), .int (v 11), .int (v 12), .ref a1, .ref a2, .ref a3, .ref aB, .int (v 13), .int (v 14)])), (aL, .inl (E.2.1.1, 156, .inl (upd sl 147 (o_X8_smaller_r 3 ((sl 147) + 1)))))]) rfl (fun H locs hG => ?_)
              exact k_2 (upd sl 147 (o_X8_smaller_r 3 ((sl 147) + 1))) _ _ _ (by rw [j_X8_does_143_0_2_0, if_pos c_8]) hG (lv_sub hl [0, 1, 2, 3, 4] rfl)
          · skip
            refine lv_aload_n hx hb dX8_does_147 rfl (lv_at hl 1 rfl) ?_
            refine gf_X8_16 C dX8_does_148 hG 0 rfl rfl ?_
            refine lv_iload_n hx hb dX8_does_151 rfl (lv_at hl 2 rfl) ?_
            refine lv_bipush (v := 6) hx hb dX8_does_152 (by decide) ?_
            refine lv_iadd hx hb dX8_does_154 ?_
            refine z_ti (y := 149) (by decide) ?_
            refine lv_iload_n hx hb dX8_does_155 rfl (lv_at hl 3 rfl) ?_
            refine lv_iadd hx hb dX8_does_156 ?_
            refine z_ti (y := 149) (by decide) ?_
            refine lv_dup2_11 hx hb dX8_does_157 rfl rfl ?_
            refine z_ild C dX8_does_158 hG 1 rfl 149 (by decide) (Nat.le_of_ble_eq_true rfl) (Nat.le_of_ble_eq_true rfl) ?_
            refine lv_iconst (v := 1) hx hb dX8_does_159 (by decide) ?_
            refine lv_isub hx hb dX8_does_160 ?_
            refine z_ist C dX8_does_161 hG 1 rfl 149 (by decide) (Nat.le_of_ble_eq_true rfl) (Nat.le_of_ble_eq_true rfl) (ws' := [(m, .inr (8, [.int (v 0), .int (v 1), .ref aS, .int (v 2), .int (v 3), .int (v 4), .ref aW, .int (v 5), .ref aL, .int (v 6), .int (v 7), .int (v 8), .ref aT, .int (v 9), .int (v 10), .int (v 11), .int (v 12), .ref a1, .ref a2, .ref a3, .ref aB, .int (v 13), .int (v 14)])), (aL, .inl (E.2.1.1, 156, .inl (upd sl 149 ((sl 149) - 1))))]) rfl (fun H locs hG => ?_)
            refine lv_aload_n hx hb dX8_does_162 rfl (lv_at hl 1 rfl) ?_
            refine gf_X8_16 C dX8_does_163 hG 0 rfl rfl ?_
            refine lv_iload_n hx hb dX8_does_166 rfl (lv_at hl 2 rfl) ?_
            refine lv_bipush (v := 10) hx hb dX8_does_167 (by decide) ?_
            refine lv_iadd hx hb dX8_does_169 ?_
            refine z_ti (y := 153) (by decide) ?_
            refine lv_dup2_11 hx hb dX8_does_170 rfl rfl ?_
            refine z_ild C dX8_does_171 hG 1 rfl 153 (by decide) (Nat.le_of_ble_eq_true rfl) (Nat.le_of_ble_eq_true rfl) ?_
            refine lv_iconst (v := 1) hx hb dX8_does_172 (by decide) ?_
            refine lv_isub hx hb dX8_does_173 ?_
            refine z_ist C dX8_does_174 hG 1 rfl 153 (by decide) (Nat.le_of_ble_eq_true rfl) (Nat.le_of_ble_eq_true rfl) (ws' := [(m, .inr (8, [.int (v 0), .int (v 1), .ref aS, .int (v 2), .int (v 3), .int (v 4), .ref aW, .int (v 5), .ref aL, .int (v 6), .int (v 7), .int (v 8), .ref aT, .int (v 9), .int (v 10), .int (v 11), .int (v 12), .ref a1, .ref a2, .ref a3, .ref aB, .int (v 13), .int (v 14)])), (aL, .inl (E.2.1.1, 156, .inl (upd (upd sl 149 ((sl 149) - 1)) 153 (((upd sl 149 ((sl 149) - 1)) 153) - 1))))]) rfl (fun H locs hG => ?_)
            refine lv_iconst (v := 1) hx hb dX8_does_175 (by decide) ?_
            rw [hQ]
            exact z_iret C hr hlk hG dX8_does_176 rfl (by rw [o_X8_does_143_0_r, if_neg c_1, if_neg c_2, if_pos c_3, if_neg c_5, if_neg c_7]) (by rw [o_X8_does_143_0_1, if_neg c_1, if_neg c_2, if_pos c_3, if_neg c_5, if_neg c_7])
    · skip
      refine lv_aload_n hx hb dX8_does_43 rfl (lv_at hl 1 rfl) ?_
      refine gf_X8_16 C dX8_does_44 hG 0 rfl rfl ?_
      refine lv_iload_n hx hb dX8_does_47 rfl (lv_at hl 2 rfl) ?_
      refine lv_bipush (v := 6) hx hb dX8_does_48 (by decide) ?_
      refine lv_iadd hx hb dX8_does_50 ?_
      refine z_ti (y := 149) (by decide) ?_
      refine lv_iload_n hx hb dX8_does_51 rfl (lv_at hl 3 rfl) ?_
      refine lv_iadd hx hb dX8_does_52 ?_
      refine z_ti (y := 149) (by decide) ?_
      refine z_ild C dX8_does_53 hG 1 rfl 149 (by decide) (Nat.le_of_ble_eq_true rfl) (Nat.le_of_ble_eq_true rfl) ?_
      refine lv_iconst (v := 3) hx hb dX8_does_54 (by decide) ?_
      refine lv_icmp_lt (tgt := 114) hx hb dX8_does_55 (by decide) (fun c_9 => ?_) (fun c_9 => ?_)
      · skip
        refine lv_iload_n hx hb dX8_does_114 rfl (lv_at hl 4 rfl) ?_
        refine lv_iconst (v := 3) hx hb dX8_does_115 (by decide) ?_
        refine lv_icmp_ne (tgt := 177) hx hb dX8_does_116 (by decide) (fun c_10 => ?_) (fun c_10 => ?_)
        · skip
          refine lv_iload_n hx hb dX8_does_177 rfl (lv_at hl 4 rfl) ?_
          refine lv_iconst (v := 4) hx hb dX8_does_178 (by decide) ?_
          have k_3 : ∀ (y3_0 : Nat → Int32) (H : Heap) (locs : List Loc) (ls : Array Slot), (j_X8_does_143_0_3_0 v sl ac) = y3_0 → zG E zA zs.heap [(m, .inr (8, [.int (v 0), .int (v 1), .ref aS, .int (v 2), .int (v 3), .int (v 4), .ref aW, .int (v 5), .ref aL, .int (v 6), .int (v 7), .int (v 8), .ref aT, .int (v 9), .int (v 10), .int (v 11), .int (v 12), .ref a1, .ref a2, .ref a3, .ref aB, .int (v 13), .int (v 14)])), (aL, .inl (E.2.1.1, 156, .inl y3_0))] H locs → lv_has ls 5 [(4, .int (sl 145)), (0, .ref m), (1, .int 143), (2, .int 0), (3, .int ac)] → W zp l ze (zR 1 21) zs zm za zb zt zc H locs 0 0 zq (F0 zm 208 ls []) := by
            intro y3_0 H locs ls e_y3_0 hG hl
            subst e_y3_0
            refine lv_iconst (v := 0) hx hb dX8_does_208 (by decide) ?_
            rw [hQ]
            exact z_iret C hr hlk hG dX8_does_209 rfl (by rw [o_X8_does_143_0_r, if_neg c_1, if_pos c_2, if_pos c_9, if_neg c_10]) (by rw [o_X8_does_143_0_1, if_neg c_1, if_pos c_2, if_pos c_9, if_neg c_10])
          refine lv_icmp_ne (tgt := 208) hx hb dX8_does_179 (by decide) (fun c_11 => ?_) (fun c_11 => ?_)
          · skip
            exact k_3 sl _ _ _ (by rw [j_X8_does_143_0_3_0, if_neg c_11]) hG (lv_sub hl [0, 1, 2, 3, 4] rfl)
          · skip
            refine lv_aload_n hx hb dX8_does_182 rfl (lv_at hl 1 rfl) ?_
            refine gf_X8_16 C dX8_does_183 hG 0 rfl rfl ?_
            refine lv_iload_n hx hb dX8_does_186 rfl (lv_at hl 2 rfl) ?_
            refine lv_iconst (v := 4) hx hb dX8_does_187 (by decide) ?_
            refine lv_iadd hx hb dX8_does_188 ?_
            refine z_ti (y := 147) (by decide) ?_
            refine lv_iload_n hx hb dX8_does_189 rfl (lv_at hl 3 rfl) ?_
            refine lv_iadd hx hb dX8_does_190 ?_
            refine z_ti (y := 147) (by decide) ?_
            refine lv_iconst (v := 3) hx hb dX8_does_191 (by decide) ?_
            refine lv_aload_n hx hb dX8_does_192 rfl (lv_at hl 1 rfl) ?_
            refine gf_X8_16 C dX8_does_193 hG 0 rfl rfl ?_
            refine lv_iload_n hx hb dX8_does_196 rfl (lv_at hl 2 rfl) ?_
            refine lv_iconst (v := 4) hx hb dX8_does_197 (by decide) ?_
            refine lv_iadd hx hb dX8_does_198 ?_
            refine z_ti (y := 147) (by decide) ?_
            refine lv_iload_n hx hb dX8_does_199 rfl (lv_at hl 3 rfl) ?_
            refine lv_iadd hx hb dX8_does_200 ?_
            refine z_ti (y := 147) (by decide) ?_
            refine z_ild C dX8_does_201 hG 1 rfl 147 (by decide) (Nat.le_of_ble_eq_true rfl) (Nat.le_of_ble_eq_true rfl) ?_
            refine lv_iconst (v := 1) hx hb dX8_does_202 (by decide) ?_
            refine lv_iadd hx hb dX8_does_203 ?_
            refine call_X8_136 C dX8_does_204 (c_X8_smaller l E 3 ((sl 147) + 1)) hl hG [] (by decide) rfl (ads := []) rfl rfl (ws' := [(m, .inr (8, [.int (v 0), .int (v 1), .ref aS, .int (v 2), .int (v 3), .int (v 4), .ref aW, .int (v 5), .ref aL, .int (v 6), .int (v 7), .int (v 8), .ref aT, .int (v 9), .int (v 10), .int (v 11), .int (v 12), .ref a1, .ref a2, .ref a3, .ref aB, .int (v 13), .int (v 14)])), (aL, .inl (E.2.1.1, 156, .inl sl))]) rfl rfl (rest := [.int 147, .ref aL]) rfl (Nat.le_of_ble_eq_true rfl) ⟨Nat.le_of_ble_eq_true rfl, Nat.le_of_ble_eq_true rfl⟩ (fun H locs hG => ?_)
            refine z_ist C dX8_does_207 hG 1 rfl 147 (by decide) (Nat.le_of_ble_eq_true rfl) (Nat.le_of_ble_eq_true rfl) (ws' := [(m, .inr (8, [.int (v 0), .int (v 1), .ref aS, .int (v 2), .int (v 3), .int (v 4), .ref aW, .int (v 5), .ref aL, .int (v 6), .int (v 7), .int (v 8), .ref aT, .int (v 9), .int (v 10), .int (v 11), .int (v 12), .ref a1, .ref a2, .ref a3, .ref aB, .int (v 13), .int (v 14)])), (aL, .inl (E.2.1.1, 156, .inl (upd sl 147 (o_X8_smaller_r 3 ((sl 147) + 1)))))]) rfl (fun H locs hG => ?_)
            exact k_3 (upd sl 147 (o_X8_smaller_r 3 ((sl 147) + 1))) _ _ _ (by rw [j_X8_does_143_0_3_0, if_pos c_11]) hG (lv_sub hl [0, 1, 2, 3, 4] rfl)
        · skip
          refine lv_aload_n hx hb dX8_does_119 rfl (lv_at hl 1 rfl) ?_
          refine gf_X8_16 C dX8_does_120 hG 0 rfl rfl ?_
          refine lv_iload_n hx hb dX8_does_123 rfl (lv_at hl 2 rfl) ?_
          refine lv_bipush (v := 6) hx hb dX8_does_124 (by decide) ?_
          refine lv_iadd hx hb dX8_does_126 ?_
          refine z_ti (y := 149) (by decide) ?_
          refine lv_iload_n hx hb dX8_does_127 rfl (lv_at hl 3 rfl) ?_
          refine lv_iadd hx hb dX8_does_128 ?_
          refine z_ti (y := 149) (by decide) ?_
          refine z_ild C dX8_does_129 hG 1 rfl 149 (by decide) (Nat.le_of_ble_eq_true rfl) (Nat.le_of_ble_eq_true rfl) ?_
          refine lv_iconst (v := 1) hx hb dX8_does_130 (by decide) ?_
          refine lv_icmp_lt (tgt := 177) hx hb dX8_does_131 (by decide) (fun c_12 => ?_) (fun c_12 => ?_)
          · skip
            refine lv_iload_n hx hb dX8_does_177 rfl (lv_at hl 4 rfl) ?_
            refine lv_iconst (v := 4) hx hb dX8_does_178 (by decide) ?_
            have k_4 : ∀ (y4_0 : Nat → Int32) (H : Heap) (locs : List Loc) (ls : Array Slot), (j_X8_does_143_0_4_0 v sl ac) = y4_0 → zG E zA zs.heap [(m, .inr (8, [.int (v 0), .int (v 1), .ref aS, .int (v 2), .int (v 3), .int (v 4), .ref aW, .int (v 5), .ref aL, .int (v 6), .int (v 7), .int (v 8), .ref aT, .int (v 9), .int (v 10), .int (v 11), .int (v 12), .ref a1, .ref a2, .ref a3, .ref aB, .int (v 13), .int (v 14)])), (aL, .inl (E.2.1.1, 156, .inl y4_0))] H locs → lv_has ls 5 [(4, .int (sl 145)), (0, .ref m), (1, .int 143), (2, .int 0), (3, .int ac)] → W zp l ze (zR 1 21) zs zm za zb zt zc H locs 0 0 zq (F0 zm 208 ls []) := by
              intro y4_0 H locs ls e_y4_0 hG hl
              subst e_y4_0
              refine lv_iconst (v := 0) hx hb dX8_does_208 (by decide) ?_
              rw [hQ]
              exact z_iret C hr hlk hG dX8_does_209 rfl (by rw [o_X8_does_143_0_r, if_neg c_1, if_pos c_2, if_pos c_9, if_pos c_10, if_pos c_12]) (by rw [o_X8_does_143_0_1, if_neg c_1, if_pos c_2, if_pos c_9, if_pos c_10, if_pos c_12])
            refine lv_icmp_ne (tgt := 208) hx hb dX8_does_179 (by decide) (fun c_13 => ?_) (fun c_13 => ?_)
            · skip
              exact k_4 sl _ _ _ (by rw [j_X8_does_143_0_4_0, if_neg c_13]) hG (lv_sub hl [0, 1, 2, 3, 4] rfl)
            · skip
              refine lv_aload_n hx hb dX8_does_182 rfl (lv_at hl 1 rfl) ?_
              refine gf_X8_16 C dX8_does_183 hG 0 rfl rfl ?_
              refine lv_iload_n hx hb dX8_does_186 rfl (lv_at hl 2 rfl) ?_
              refine lv_iconst (v := 4) hx hb dX8_does_187 (by decide) ?_
              refine lv_iadd hx hb dX8_does_188 ?_
              refine z_ti (y := 147) (by decide) ?_
              refine lv_iload_n hx hb dX8_does_189 rfl (lv_at hl 3 rfl) ?_
              refine lv_iadd hx hb dX8_does_190 ?_
              refine z_ti (y := 147) (by decide) ?_
              refine lv_iconst (v := 3) hx hb dX8_does_191 (by decide) ?_
              refine lv_aload_n hx hb dX8_does_192 rfl (lv_at hl 1 rfl) ?_
              refine gf_X8_16 C dX8_does_193 hG 0 rfl rfl ?_
              refine lv_iload_n hx hb dX8_does_196 rfl (lv_at hl 2 rfl) ?_
              refine lv_iconst (v := 4) hx hb dX8_does_197 (by decide) ?_
              refine lv_iadd hx hb dX8_does_198 ?_
              refine z_ti (y := 147) (by decide) ?_
              refine lv_iload_n hx hb dX8_does_199 rfl (lv_at hl 3 rfl) ?_
              refine lv_iadd hx hb dX8_does_200 ?_
              refine z_ti (y := 147) (by decide) ?_
              refine z_ild C dX8_does_201 hG 1 rfl 147 (by decide) (Nat.le_of_ble_eq_true rfl) (Nat.le_of_ble_eq_true rfl) ?_
              refine lv_iconst (v := 1) hx hb dX8_does_202 (by decide) ?_
              refine lv_iadd hx hb dX8_does_203 ?_
              refine call_X8_136 C dX8_does_204 (c_X8_smaller l E 3 ((sl 147) + 1)) hl hG [] (by decide) rfl (ads := []) rfl rfl (ws' := [(m, .inr (8, [.int (v 0), .int (v 1), .ref aS, .int (v 2), .int (v 3), .int (v 4), .ref aW, .int (v 5), .ref aL, .int (v 6), .int (v 7), .int (v 8), .ref aT, .int (v 9), .int (v 10), .int (v 11), .int (v 12), .ref a1, .ref a2, .ref a3, .ref aB, .int (v 13), .int (v 14)])), (aL, .inl (E.2.1.1, 156, .inl sl))]) rfl rfl (rest := [.int 147, .ref aL]) rfl (Nat.le_of_ble_eq_true rfl) ⟨Nat.le_of_ble_eq_true rfl, Nat.le_of_ble_eq_true rfl⟩ (fun H locs hG => ?_)
              refine z_ist C dX8_does_207 hG 1 rfl 147 (by decide) (Nat.le_of_ble_eq_true rfl) (Nat.le_of_ble_eq_true rfl) (ws' := [(m, .inr (8, [.int (v 0), .int (v 1), .ref aS, .int (v 2), .int (v 3), .int (v 4), .ref aW, .int (v 5), .ref aL, .int (v 6), .int (v 7), .int (v 8), .ref aT, .int (v 9), .int (v 10), .int (v 11), .int (v 12), .ref a1, .ref a2, .ref a3, .ref aB, .int (v 13), .int (v 14)])), (aL, .inl (E.2.1.1, 156, .inl (upd sl 147 (o_X8_smaller_r 3 ((sl 147) + 1)))))]) rfl (fun H locs hG => ?_)
              exact k_4 (upd sl 147 (o_X8_smaller_r 3 ((sl 147) + 1))) _ _ _ (by rw [j_X8_does_143_0_4_0, if_pos c_13]) hG (lv_sub hl [0, 1, 2, 3, 4] rfl)
          · skip
            refine lv_aload_n hx hb dX8_does_134 rfl (lv_at hl 1 rfl) ?_
            refine gf_X8_16 C dX8_does_135 hG 0 rfl rfl ?_
            refine lv_iload_n hx hb dX8_does_138 rfl (lv_at hl 2 rfl) ?_
            refine lv_bipush (v := 10) hx hb dX8_does_139 (by decide) ?_
            refine lv_iadd hx hb dX8_does_141 ?_
            refine z_ti (y := 153) (by decide) ?_
            refine z_ild C dX8_does_142 hG 1 rfl 153 (by decide) (Nat.le_of_ble_eq_true rfl) (Nat.le_of_ble_eq_true rfl) ?_
            refine lv_iconst (v := 1) hx hb dX8_does_143 (by decide) ?_
            refine lv_icmp_lt (tgt := 177) hx hb dX8_does_144 (by decide) (fun c_14 => ?_) (fun c_14 => ?_)
            · skip
              refine lv_iload_n hx hb dX8_does_177 rfl (lv_at hl 4 rfl) ?_
              refine lv_iconst (v := 4) hx hb dX8_does_178 (by decide) ?_
              have k_5 : ∀ (y5_0 : Nat → Int32) (H : Heap) (locs : List Loc) (ls : Array Slot), (j_X8_does_143_0_5_0 v sl ac) = y5_0 → zG E zA zs.heap [(m, .inr (8, [.int (v 0), .int (v 1), .ref aS, .int (v 2), .int (v 3), .int (v 4), .ref aW, .int (v 5), .ref aL, .int (v 6), .int (v 7), .int (v 8), .ref aT, .int (v 9), .int (v 10), .int (v 11), .int (v 12), .ref a1, .ref a2, .ref a3, .ref aB, .int (v 13), .int (v 14)])), (aL, .inl (E.2.1.1, 156, .inl y5_0))] H locs → lv_has ls 5 [(4, .int (sl 145)), (0, .ref m), (1, .int 143), (2, .int 0), (3, .int ac)] → W zp l ze (zR 1 21) zs zm za zb zt zc H locs 0 0 zq (F0 zm 208 ls []) := by
                intro y5_0 H locs ls e_y5_0 hG hl
                subst e_y5_0
                refine lv_iconst (v := 0) hx hb dX8_does_208 (by decide) ?_
                rw [hQ]
                exact z_iret C hr hlk hG dX8_does_209 rfl (by rw [o_X8_does_143_0_r, if_neg c_1, if_pos c_2, if_pos c_9, if_pos c_10, if_neg c_12, if_pos c_14]) (by rw [o_X8_does_143_0_1, if_neg c_1, if_pos c_2, if_pos c_9, if_pos c_10, if_neg c_12, if_pos c_14])
              refine lv_icmp_ne (tgt := 208) hx hb dX8_does_179 (by decide) (fun c_15 => ?_) (fun c_15 => ?_)
              · skip
                exact k_5 sl _ _ _ (by rw [j_X8_does_143_0_5_0, if_neg c_15]) hG (lv_sub hl [0, 1, 2, 3, 4] rfl)
              · skip
                refine lv_aload_n hx hb dX8_does_182 rfl (lv_at hl 1 rfl) ?_
                refine gf_X8_16 C dX8_does_183 hG 0 rfl rfl ?_
                refine lv_iload_n hx hb dX8_does_186 rfl (lv_at hl 2 rfl) ?_
                refine lv_iconst (v := 4) hx hb dX8_does_187 (by decide) ?_
                refine lv_iadd hx hb dX8_does_188 ?_
                refine z_ti (y := 147) (by decide) ?_
                refine lv_iload_n hx hb dX8_does_189 rfl (lv_at hl 3 rfl) ?_
                refine lv_iadd hx hb dX8_does_190 ?_
                refine z_ti (y := 147) (by decide) ?_
                refine lv_iconst (v := 3) hx hb dX8_does_191 (by decide) ?_
                refine lv_aload_n hx hb dX8_does_192 rfl (lv_at hl 1 rfl) ?_
                refine gf_X8_16 C dX8_does_193 hG 0 rfl rfl ?_
                refine lv_iload_n hx hb dX8_does_196 rfl (lv_at hl 2 rfl) ?_
                refine lv_iconst (v := 4) hx hb dX8_does_197 (by decide) ?_
                refine lv_iadd hx hb dX8_does_198 ?_
                refine z_ti (y := 147) (by decide) ?_
                refine lv_iload_n hx hb dX8_does_199 rfl (lv_at hl 3 rfl) ?_
                refine lv_iadd hx hb dX8_does_200 ?_
                refine z_ti (y := 147) (by decide) ?_
                refine z_ild C dX8_does_201 hG 1 rfl 147 (by decide) (Nat.le_of_ble_eq_true rfl) (Nat.le_of_ble_eq_true rfl) ?_
                refine lv_iconst (v := 1) hx hb dX8_does_202 (by decide) ?_
                refine lv_iadd hx hb dX8_does_203 ?_
                refine call_X8_136 C dX8_does_204 (c_X8_smaller l E 3 ((sl 147) + 1)) hl hG [] (by decide) rfl (ads := []) rfl rfl (ws' := [(m, .inr (8, [.int (v 0), .int (v 1), .ref aS, .int (v 2), .int (v 3), .int (v 4), .ref aW, .int (v 5), .ref aL, .int (v 6), .int (v 7), .int (v 8), .ref aT, .int (v 9), .int (v 10), .int (v 11), .int (v 12), .ref a1, .ref a2, .ref a3, .ref aB, .int (v 13), .int (v 14)])), (aL, .inl (E.2.1.1, 156, .inl sl))]) rfl rfl (rest := [.int 147, .ref aL]) rfl (Nat.le_of_ble_eq_true rfl) ⟨Nat.le_of_ble_eq_true rfl, Nat.le_of_ble_eq_true rfl⟩ (fun H locs hG => ?_)
                refine z_ist C dX8_does_207 hG 1 rfl 147 (by decide) (Nat.le_of_ble_eq_true rfl) (Nat.le_of_ble_eq_true rfl) (ws' := [(m, .inr (8, [.int (v 0), .int (v 1), .ref aS, .int (v 2), .int (v 3), .int (v 4), .ref aW, .int (v 5), .ref aL, .int (v 6), .int (v 7), .int (v 8), .ref aT, .int (v 9), .int (v 10), .int (v 11), .int (v 12), .ref a1, .ref a2, .ref a3, .ref aB, .int (v 13), .int (v 14)])), (aL, .inl (E.2.1.1, 156, .inl (upd sl 147 (o_X8_smaller_r 3 ((sl 147) + 1)))))]) rfl (fun H locs hG => ?_)
                exact k_5 (upd sl 147 (o_X8_smaller_r 3 ((sl 147) + 1))) _ _ _ (by rw [j_X8_does_143_0_5_0, if_pos c_15]) hG (lv_sub hl [0, 1, 2, 3, 4] rfl)
            · skip
              refine lv_aload_n hx hb dX8_does_147 rfl (lv_at hl 1 rfl) ?_
              refine gf_X8_16 C dX8_does_148 hG 0 rfl rfl ?_
              refine lv_iload_n hx hb dX8_does_151 rfl (lv_at hl 2 rfl) ?_
              refine lv_bipush (v := 6) hx hb dX8_does_152 (by decide) ?_
              refine lv_iadd hx hb dX8_does_154 ?_
              refine z_ti (y := 149) (by decide) ?_
              refine lv_iload_n hx hb dX8_does_155 rfl (lv_at hl 3 rfl) ?_
              refine lv_iadd hx hb dX8_does_156 ?_
              refine z_ti (y := 149) (by decide) ?_
              refine lv_dup2_11 hx hb dX8_does_157 rfl rfl ?_
              refine z_ild C dX8_does_158 hG 1 rfl 149 (by decide) (Nat.le_of_ble_eq_true rfl) (Nat.le_of_ble_eq_true rfl) ?_
              refine lv_iconst (v := 1) hx hb dX8_does_159 (by decide) ?_
              refine lv_isub hx hb dX8_does_160 ?_
              refine z_ist C dX8_does_161 hG 1 rfl 149 (by decide) (Nat.le_of_ble_eq_true rfl) (Nat.le_of_ble_eq_true rfl) (ws' := [(m, .inr (8, [.int (v 0), .int (v 1), .ref aS, .int (v 2), .int (v 3), .int (v 4), .ref aW, .int (v 5), .ref aL, .int (v 6), .int (v 7), .int (v 8), .ref aT, .int (v 9), .int (v 10), .int (v 11), .int (v 12), .ref a1, .ref a2, .ref a3, .ref aB, .int (v 13), .int (v 14)])), (aL, .inl (E.2.1.1, 156, .inl (upd sl 149 ((sl 149) - 1))))]) rfl (fun H locs hG => ?_)
              refine lv_aload_n hx hb dX8_does_162 rfl (lv_at hl 1 rfl) ?_
              refine gf_X8_16 C dX8_does_163 hG 0 rfl rfl ?_
              refine lv_iload_n hx hb dX8_does_166 rfl (lv_at hl 2 rfl) ?_
              refine lv_bipush (v := 10) hx hb dX8_does_167 (by decide) ?_
              refine lv_iadd hx hb dX8_does_169 ?_
              refine z_ti (y := 153) (by decide) ?_
              refine lv_dup2_11 hx hb dX8_does_170 rfl rfl ?_
              refine z_ild C dX8_does_171 hG 1 rfl 153 (by decide) (Nat.le_of_ble_eq_true rfl) (Nat.le_of_ble_eq_true rfl) ?_
              refine lv_iconst (v := 1) hx hb dX8_does_172 (by decide) ?_
              refine lv_isub hx hb dX8_does_173 ?_
              refine z_ist C dX8_does_174 hG 1 rfl 153 (by decide) (Nat.le_of_ble_eq_true rfl) (Nat.le_of_ble_eq_true rfl) (ws' := [(m, .inr (8, [.int (v 0), .int (v 1), .ref aS, .int (v 2), .int (v 3), .int (v 4), .ref aW, .int (v 5), .ref aL, .int (v 6), .int (v 7), .int (v 8), .ref aT, .int (v 9), .int (v 10), .int (v 11), .int (v 12), .ref a1, .ref a2, .ref a3, .ref aB, .int (v 13), .int (v 14)])), (aL, .inl (E.2.1.1, 156, .inl (upd (upd sl 149 ((sl 149) - 1)) 153 (((upd sl 149 ((sl 149) - 1)) 153) - 1))))]) rfl (fun H locs hG => ?_)
              refine lv_iconst (v := 1) hx hb dX8_does_175 (by decide) ?_
              rw [hQ]
              exact z_iret C hr hlk hG dX8_does_176 rfl (by rw [o_X8_does_143_0_r, if_neg c_1, if_pos c_2, if_pos c_9, if_pos c_10, if_neg c_12, if_neg c_14]) (by rw [o_X8_does_143_0_1, if_neg c_1, if_pos c_2, if_pos c_9, if_pos c_10, if_neg c_12, if_neg c_14])
      · skip
        refine lv_aload_n hx hb dX8_does_58 rfl (lv_at hl 1 rfl) ?_
        refine gf_X8_16 C dX8_does_59 hG 0 rfl rfl ?_
        refine lv_iload_n hx hb dX8_does_62 rfl (lv_at hl 2 rfl) ?_
        refine lv_bipush (v := 6) hx hb dX8_does_63 (by decide) ?_
        refine lv_iadd hx hb dX8_does_65 ?_
        refine z_ti (y := 149) (by decide) ?_
        refine lv_iload_n hx hb dX8_does_66 rfl (lv_at hl 3 rfl) ?_
        refine lv_iadd hx hb dX8_does_67 ?_
        refine z_ti (y := 149) (by decide) ?_
        refine lv_dup2_11 hx hb dX8_does_68 rfl rfl ?_
        refine z_ild C dX8_does_69 hG 1 rfl 149 (by decide) (Nat.le_of_ble_eq_true rfl) (Nat.le_of_ble_eq_true rfl) ?_
        refine lv_iconst (v := 3) hx hb dX8_does_70 (by decide) ?_
        refine lv_isub hx hb dX8_does_71 ?_
        refine z_ist C dX8_does_72 hG 1 rfl 149 (by decide) (Nat.le_of_ble_eq_true rfl) (Nat.le_of_ble_eq_true rfl) (ws' := [(m, .inr (8, [.int (v 0), .int (v 1), .ref aS, .int (v 2), .int (v 3), .int (v 4), .ref aW, .int (v 5), .ref aL, .int (v 6), .int (v 7), .int (v 8), .ref aT, .int (v 9), .int (v 10), .int (v 11), .int (v 12), .ref a1, .ref a2, .ref a3, .ref aB, .int (v 13), .int (v 14)])), (aL, .inl (E.2.1.1, 156, .inl (upd sl 149 ((sl 149) - 3))))]) rfl (fun H locs hG => ?_)
        refine lv_aload_n hx hb dX8_does_73 rfl (lv_at hl 1 rfl) ?_
        refine gf_X8_16 C dX8_does_74 hG 0 rfl rfl ?_
        refine lv_iload_n hx hb dX8_does_77 rfl (lv_at hl 2 rfl) ?_
        refine lv_iconst (v := 2) hx hb dX8_does_78 (by decide) ?_
        refine lv_iadd hx hb dX8_does_79 ?_
        refine z_ti (y := 145) (by decide) ?_
        refine lv_iload_n hx hb dX8_does_80 rfl (lv_at hl 3 rfl) ?_
        refine lv_iadd hx hb dX8_does_81 ?_
        refine z_ti (y := 145) (by decide) ?_
        refine lv_iload hx hb dX8_does_82 (lv_at hl 0 rfl) ?_
        refine lv_iconst (v := 3) hx hb dX8_does_84 (by decide) ?_
        have k_6 : ∀ (y6_0 : Int32) (H : Heap) (locs : List Loc) (ls : Array Slot), (j_X8_does_143_0_6_0 v sl ac) = y6_0 → zG E zA zs.heap [(m, .inr (8, [.int (v 0), .int (v 1), .ref aS, .int (v 2), .int (v 3), .int (v 4), .ref aW, .int (v 5), .ref aL, .int (v 6), .int (v 7), .int (v 8), .ref aT, .int (v 9), .int (v 10), .int (v 11), .int (v 12), .ref a1, .ref a2, .ref a3, .ref aB, .int (v 13), .int (v 14)])), (aL, .inl (E.2.1.1, 156, .inl (upd sl 149 ((sl 149) - 3))))] H locs → lv_has ls 5 [(4, .int (sl 145)), (0, .ref m), (1, .int 143), (2, .int 0), (3, .int ac)] → W zp l ze (zR 1 21) zs zm za zb zt zc H locs 0 0 zq (F0 zm 101 ls [.int y6_0, .int 145, .ref aL]) := by
          intro y6_0 H locs ls e_y6_0 hG hl
          subst e_y6_0
          refine z_ist C dX8_does_101 hG 1 rfl 145 (by decide) (Nat.le_of_ble_eq_true rfl) (Nat.le_of_ble_eq_true rfl) (ws' := [(m, .inr (8, [.int (v 0), .int (v 1), .ref aS, .int (v 2), .int (v 3), .int (v 4), .ref aW, .int (v 5), .ref aL, .int (v 6), .int (v 7), .int (v 8), .ref aT, .int (v 9), .int (v 10), .int (v 11), .int (v 12), .ref a1, .ref a2, .ref a3, .ref aB, .int (v 13), .int (v 14)])), (aL, .inl (E.2.1.1, 156, .inl (upd (upd sl 149 ((sl 149) - 3)) 145 (j_X8_does_143_0_6_0 v sl ac))))]) rfl (fun H locs hG => ?_)
          refine lv_iload hx hb dX8_does_102 (lv_at hl 0 rfl) ?_
          refine lv_iconst (v := 3) hx hb dX8_does_104 (by decide) ?_
          refine lv_icmp_ge (tgt := 112) hx hb dX8_does_105 (by decide) (fun c_17 => ?_) (fun c_17 => ?_)
          · skip
            refine lv_iconst (v := 2) hx hb dX8_does_112 (by decide) ?_
            rw [hQ]
            exact z_iret C hr hlk hG dX8_does_113 rfl (by rw [o_X8_does_143_0_r, if_neg c_1, if_pos c_2, if_neg c_9, if_pos c_17]) (by rw [o_X8_does_143_0_1, if_neg c_1, if_pos c_2, if_neg c_9])
          · skip
            refine lv_iconst (v := 0) hx hb dX8_does_108 (by decide) ?_
            refine lv_goto (tgt := 113) hx hb dX8_does_109 (by decide) ?_
            rw [hQ]
            exact z_iret C hr hlk hG dX8_does_113 rfl (by rw [o_X8_does_143_0_r, if_neg c_1, if_pos c_2, if_neg c_9, if_neg c_17]) (by rw [o_X8_does_143_0_1, if_neg c_1, if_pos c_2, if_neg c_9])
        refine lv_icmp_ge (tgt := 99) hx hb dX8_does_85 (by decide) (fun c_16 => ?_) (fun c_16 => ?_)
        · skip
          refine lv_iload hx hb dX8_does_99 (lv_at hl 0 rfl) ?_
          exact k_6 (sl 145) _ _ _ (by rw [j_X8_does_143_0_6_0, if_pos c_16]) hG (lv_sub hl [0, 1, 2, 3, 4] rfl)
        · skip
          refine lv_iconst (v := 0) hx hb dX8_does_88 (by decide) ?_
          refine lv_iload hx hb dX8_does_89 (lv_at hl 0 rfl) ?_
          refine lv_iconst (v := 1) hx hb dX8_does_91 (by decide) ?_
          refine lv_isub hx hb dX8_does_92 ?_
          refine call_X8_133 C dX8_does_93 (c_X8_larger l E 0 ((sl 145) - 1)) hl hG [] (by decide) rfl (ads := []) rfl rfl (ws' := [(m, .inr (8, [.int (v 0), .int (v 1), .ref aS, .int (v 2), .int (v 3), .int (v 4), .ref aW, .int (v 5), .ref aL, .int (v 6), .int (v 7), .int (v 8), .ref aT, .int (v 9), .int (v 10), .int (v 11), .int (v 12), .ref a1, .ref a2, .ref a3, .ref aB, .int (v 13), .int (v 14)])), (aL, .inl (E.2.1.1, 156, .inl (upd sl 149 ((sl 149) - 3))))]) rfl rfl (rest := [.int 145, .ref aL]) rfl (Nat.le_of_ble_eq_true rfl) ⟨Nat.le_of_ble_eq_true rfl, Nat.le_of_ble_eq_true rfl⟩ (fun H locs hG => ?_)
          refine lv_goto (tgt := 101) hx hb dX8_does_96 (by decide) ?_
          exact k_6 (o_X8_larger_r 0 ((sl 145) - 1)) _ _ _ (by rw [j_X8_does_143_0_6_0, if_neg c_16]) hG (lv_sub hl [0, 1, 2, 3, 4] rfl)
  · skip
    refine lv_aload_n hx hb dX8_does_17 rfl (lv_at hl 1 rfl) ?_
    refine gf_X8_16 C dX8_does_18 hG 0 rfl rfl ?_
    refine lv_iload_n hx hb dX8_does_21 rfl (lv_at hl 2 rfl) ?_
    refine lv_iconst (v := 2) hx hb dX8_does_22 (by decide) ?_
    refine lv_iadd hx hb dX8_does_23 ?_
    refine z_ti (y := 145) (by decide) ?_
    refine lv_iload_n hx hb dX8_does_24 rfl (lv_at hl 3 rfl) ?_
    refine lv_iadd hx hb dX8_does_25 ?_
    refine z_ti (y := 145) (by decide) ?_
    refine lv_iconst (v := 0) hx hb dX8_does_26 (by decide) ?_
    refine lv_iload hx hb dX8_does_27 (lv_at hl 0 rfl) ?_
    refine lv_iconst (v := 2) hx hb dX8_does_29 (by decide) ?_
    refine lv_isub hx hb dX8_does_30 ?_
    refine call_X8_133 C dX8_does_31 (c_X8_larger l E 0 ((sl 145) - 2)) hl hG [] (by decide) rfl (ads := []) rfl rfl (ws' := [(m, .inr (8, [.int (v 0), .int (v 1), .ref aS, .int (v 2), .int (v 3), .int (v 4), .ref aW, .int (v 5), .ref aL, .int (v 6), .int (v 7), .int (v 8), .ref aT, .int (v 9), .int (v 10), .int (v 11), .int (v 12), .ref a1, .ref a2, .ref a3, .ref aB, .int (v 13), .int (v 14)])), (aL, .inl (E.2.1.1, 156, .inl sl))]) rfl rfl (rest := [.int 145, .ref aL]) rfl (Nat.le_of_ble_eq_true rfl) ⟨Nat.le_of_ble_eq_true rfl, Nat.le_of_ble_eq_true rfl⟩ (fun H locs hG => ?_)
    refine z_ist C dX8_does_34 hG 1 rfl 145 (by decide) (Nat.le_of_ble_eq_true rfl) (Nat.le_of_ble_eq_true rfl) (ws' := [(m, .inr (8, [.int (v 0), .int (v 1), .ref aS, .int (v 2), .int (v 3), .int (v 4), .ref aW, .int (v 5), .ref aL, .int (v 6), .int (v 7), .int (v 8), .ref aT, .int (v 9), .int (v 10), .int (v 11), .int (v 12), .ref a1, .ref a2, .ref a3, .ref aB, .int (v 13), .int (v 14)])), (aL, .inl (E.2.1.1, 156, .inl (upd sl 145 (o_X8_larger_r 0 ((sl 145) - 2)))))]) rfl (fun H locs hG => ?_)
    refine lv_goto (tgt := 208) hx hb dX8_does_35 (by decide) ?_
    refine lv_iconst (v := 0) hx hb dX8_does_208 (by decide) ?_
    rw [hQ]
    exact z_iret C hr hlk hG dX8_does_209 rfl (by rw [o_X8_does_143_0_r, if_pos c_1]) (by rw [o_X8_does_143_0_1, if_pos c_1])
def j_X8_rises_143_0_0_0 (v : Nat → Int32) (sl : Nat → Int32) (more : Int32) (dr : Int32) : Int32 := (if (o_X8_bound_r (sl 143)) < (sl 145) then 1 else (if dr = 0 then 0 else (if more = 1 then 0 else 1)))
def j_X8_rises_143_0_1_0 (v : Nat → Int32) (sl : Nat → Int32) (more : Int32) (dr : Int32) : Int32 := (if (j_X8_rises_143_0_0_0 v sl more dr) = 0 then (o_X8_larger_r 0 (o_X8_smaller_r (o_X8_bound_r (sl 143)) (((sl 145) + (o_X8_grows_r (sl 143) ((sl 154) - (sl 154) / 12 * 12))) + more))) else (sl 145))
def o_X8_rises_143_0_1 (v : Nat → Int32) (sl : Nat → Int32) (more : Int32) (dr : Int32) : Nat → Int32 := (upd sl 145 (j_X8_rises_143_0_1_0 v sl more dr))
set_option maxRecDepth 100000 in
set_option maxHeartbeats 4000000 in
theorem c_X8_rises_143_0 (l : Launch) (E : zE) (v : Nat → Int32) (sl : Nat → Int32) (more : Int32) (dr : Int32) (m aS aW aL aT a1 a2 a3 aB : Nat) : HM l E yX8_rises cX8_rises 9 none 1 22 [.ref m, .int 143, .int 0, .int more, .int dr] [(m, .inr (8, [.int (v 0), .int (v 1), .ref aS, .int (v 2), .int (v 3), .int (v 4), .ref aW, .int (v 5), .ref aL, .int (v 6), .int (v 7), .int (v 8), .ref aT, .int (v 9), .int (v 10), .int (v 11), .int (v 12), .ref a1, .ref a2, .ref a3, .ref aB, .int (v 13), .int (v 14)])), (aL, .inl (E.2.1.1, 156, .inl sl))] none [(m, .inr (8, [.int (v 0), .int (v 1), .ref aS, .int (v 2), .int (v 3), .int (v 4), .ref aW, .int (v 5), .ref aL, .int (v 6), .int (v 7), .int (v 8), .ref aT, .int (v 9), .int (v 10), .int (v 11), .int (v 12), .ref a1, .ref a2, .ref a3, .ref aB, .int (v 13), .int (v 14)])), (aL, .inl (E.2.1.1, 156, .inl (o_X8_rises_143_0_1 v sl more dr)))] := by
  refine HM.of (own := RX8) (plainFor_of_name (by decide)) rfl (Nat.le_of_ble_eq_true rfl) ?_
  intro zp ze zs zm za zb zt zc zA ls H locs zq C hr hlk hG hl hQ
  have hx := C.1.1
  have hb := C.1.2.1
  replace hl : lv_has ls 9 [(0, .ref m), (1, .int 143), (2, .int 0), (3, .int more), (4, .int dr)] := hl
  refine lv_aload_n hx hb dX8_rises_0 rfl (lv_at hl 0 rfl) ?_
  refine gf_X8_16 C dX8_rises_1 hG 0 rfl rfl ?_
  refine lv_iload_n hx hb dX8_rises_4 rfl (lv_at hl 1 rfl) ?_
  refine lv_iload_n hx hb dX8_rises_5 rfl (lv_at hl 2 rfl) ?_
  refine lv_iadd hx hb dX8_rises_6 ?_
  refine z_ti (y := 143) (by decide) ?_
  refine z_ild C dX8_rises_7 hG 1 rfl 143 (by decide) (Nat.le_of_ble_eq_true rfl) (Nat.le_of_ble_eq_true rfl) ?_
  refine lv_istore (lv' := [(5, .int (sl 143)), (0, .ref m), (1, .int 143), (2, .int 0), (3, .int more), (4, .int dr)]) hx hb dX8_rises_8 hl (by decide) rfl (fun ls hl => ?_)
  refine lv_aload_n hx hb dX8_rises_10 rfl (lv_at hl 1 rfl) ?_
  refine gf_X8_16 C dX8_rises_11 hG 0 rfl rfl ?_
  refine lv_iload_n hx hb dX8_rises_14 rfl (lv_at hl 2 rfl) ?_
  refine lv_iconst (v := 2) hx hb dX8_rises_15 (by decide) ?_
  refine lv_iadd hx hb dX8_rises_16 ?_
  refine z_ti (y := 145) (by decide) ?_
  refine lv_iload_n hx hb dX8_rises_17 rfl (lv_at hl 3 rfl) ?_
  refine lv_iadd hx hb dX8_rises_18 ?_
  refine z_ti (y := 145) (by decide) ?_
  refine z_ild C dX8_rises_19 hG 1 rfl 145 (by decide) (Nat.le_of_ble_eq_true rfl) (Nat.le_of_ble_eq_true rfl) ?_
  refine lv_istore (lv' := [(6, .int (sl 145)), (5, .int (sl 143)), (0, .ref m), (1, .int 143), (2, .int 0), (3, .int more), (4, .int dr)]) hx hb dX8_rises_20 hl (by decide) rfl (fun ls hl => ?_)
  refine lv_iload hx hb dX8_rises_22 (lv_at hl 0 rfl) ?_
  refine lv_iload hx hb dX8_rises_24 (lv_at hl 1 rfl) ?_
  refine call_X8_139 C dX8_rises_26 (c_X8_bound l E (sl 143)) hl hG [] (by decide) rfl (ads := []) rfl rfl (ws' := [(m, .inr (8, [.int (v 0), .int (v 1), .ref aS, .int (v 2), .int (v 3), .int (v 4), .ref aW, .int (v 5), .ref aL, .int (v 6), .int (v 7), .int (v 8), .ref aT, .int (v 9), .int (v 10), .int (v 11), .int (v 12), .ref a1, .ref a2, .ref a3, .ref aB, .int (v 13), .int (v 14)])), (aL, .inl (E.2.1.1, 156, .inl sl))]) rfl rfl (rest := [.int (sl 145)]) rfl (Nat.le_of_ble_eq_true rfl) ⟨Nat.le_of_ble_eq_true rfl, Nat.le_of_ble_eq_true rfl⟩ (fun H locs hG => ?_)
  have k_0 : ∀ (y0_0 : Int32) (H : Heap) (locs : List Loc) (ls : Array Slot), (j_X8_rises_143_0_0_0 v sl more dr) = y0_0 → zG E zA zs.heap [(m, .inr (8, [.int (v 0), .int (v 1), .ref aS, .int (v 2), .int (v 3), .int (v 4), .ref aW, .int (v 5), .ref aL, .int (v 6), .int (v 7), .int (v 8), .ref aT, .int (v 9), .int (v 10), .int (v 11), .int (v 12), .ref a1, .ref a2, .ref a3, .ref aB, .int (v 13), .int (v 14)])), (aL, .inl (E.2.1.1, 156, .inl sl))] H locs → lv_has ls 9 [(6, .int (sl 145)), (5, .int (sl 143)), (0, .ref m), (1, .int 143), (2, .int 0), (3, .int more), (4, .int dr)] → W zp l ze (zR 1 22) zs zm za zb zt zc H locs 0 0 zq (F0 zm 47 ls [.int y0_0]) := by
    intro y0_0 H locs ls e_y0_0 hG hl
    subst e_y0_0
    refine lv_istore (lv' := [(7, .int (j_X8_rises_143_0_0_0 v sl more dr)), (6, .int (sl 145)), (5, .int (sl 143)), (0, .ref m), (1, .int 143), (2, .int 0), (3, .int more), (4, .int dr)]) hx hb dX8_rises_47 hl (by decide) rfl (fun ls hl => ?_)
    refine lv_iload hx hb dX8_rises_49 (lv_at hl 1 rfl) ?_
    refine lv_iload hx hb dX8_rises_51 (lv_at hl 2 rfl) ?_
    refine lv_aload_n hx hb dX8_rises_53 rfl (lv_at hl 3 rfl) ?_
    refine gf_X8_16 C dX8_rises_54 hG 0 rfl rfl ?_
    refine lv_iload_n hx hb dX8_rises_57 rfl (lv_at hl 4 rfl) ?_
    refine lv_bipush (v := 11) hx hb dX8_rises_58 (by decide) ?_
    refine lv_iadd hx hb dX8_rises_60 ?_
    refine z_ti (y := 154) (by decide) ?_
    refine z_ild C dX8_rises_61 hG 1 rfl 154 (by decide) (Nat.le_of_ble_eq_true rfl) (Nat.le_of_ble_eq_true rfl) ?_
    refine lv_bipush (v := 12) hx hb dX8_rises_62 (by decide) ?_
    refine lv_irem hx hb dX8_rises_64 (by decide) ?_
    refine call_X8_142 C dX8_rises_65 (c_X8_grows l E (sl 143) ((sl 154) - (sl 154) / 12 * 12)) hl hG [] (by decide) rfl (ads := []) rfl rfl (ws' := [(m, .inr (8, [.int (v 0), .int (v 1), .ref aS, .int (v 2), .int (v 3), .int (v 4), .ref aW, .int (v 5), .ref aL, .int (v 6), .int (v 7), .int (v 8), .ref aT, .int (v 9), .int (v 10), .int (v 11), .int (v 12), .ref a1, .ref a2, .ref a3, .ref aB, .int (v 13), .int (v 14)])), (aL, .inl (E.2.1.1, 156, .inl sl))]) rfl rfl (rest := [.int (sl 145)]) rfl (Nat.le_of_ble_eq_true rfl) ⟨Nat.le_of_ble_eq_true rfl, Nat.le_of_ble_eq_true rfl⟩ (fun H locs hG => ?_)
    refine lv_iadd hx hb dX8_rises_68 ?_
    refine lv_iload_n hx hb dX8_rises_69 rfl (lv_at hl 6 rfl) ?_
    refine lv_iadd hx hb dX8_rises_70 ?_
    refine lv_istore (lv' := [(8, .int (((sl 145) + (o_X8_grows_r (sl 143) ((sl 154) - (sl 154) / 12 * 12))) + more)), (7, .int (j_X8_rises_143_0_0_0 v sl more dr)), (6, .int (sl 145)), (5, .int (sl 143)), (0, .ref m), (1, .int 143), (2, .int 0), (3, .int more), (4, .int dr)]) hx hb dX8_rises_71 hl (by decide) rfl (fun ls hl => ?_)
    refine lv_aload_n hx hb dX8_rises_73 rfl (lv_at hl 4 rfl) ?_
    refine gf_X8_16 C dX8_rises_74 hG 0 rfl rfl ?_
    refine lv_iload_n hx hb dX8_rises_77 rfl (lv_at hl 5 rfl) ?_
    refine lv_iconst (v := 2) hx hb dX8_rises_78 (by decide) ?_
    refine lv_iadd hx hb dX8_rises_79 ?_
    refine z_ti (y := 145) (by decide) ?_
    refine lv_iload_n hx hb dX8_rises_80 rfl (lv_at hl 6 rfl) ?_
    refine lv_iadd hx hb dX8_rises_81 ?_
    refine z_ti (y := 145) (by decide) ?_
    refine lv_iload hx hb dX8_rises_82 (lv_at hl 1 rfl) ?_
    have k_1 : ∀ (y1_0 : Int32) (H : Heap) (locs : List Loc) (ls : Array Slot), (j_X8_rises_143_0_1_0 v sl more dr) = y1_0 → zG E zA zs.heap [(m, .inr (8, [.int (v 0), .int (v 1), .ref aS, .int (v 2), .int (v 3), .int (v 4), .ref aW, .int (v 5), .ref aL, .int (v 6), .int (v 7), .int (v 8), .ref aT, .int (v 9), .int (v 10), .int (v 11), .int (v 12), .ref a1, .ref a2, .ref a3, .ref aB, .int (v 13), .int (v 14)])), (aL, .inl (E.2.1.1, 156, .inl sl))] H locs → lv_has ls 9 [(8, .int (((sl 145) + (o_X8_grows_r (sl 143) ((sl 154) - (sl 154) / 12 * 12))) + more)), (7, .int (j_X8_rises_143_0_0_0 v sl more dr)), (6, .int (sl 145)), (5, .int (sl 143)), (0, .ref m), (1, .int 143), (2, .int 0), (3, .int more), (4, .int dr)] → W zp l ze (zR 1 22) zs zm za zb zt zc H locs 0 0 zq (F0 zm 106 ls [.int y1_0, .int 145, .ref aL]) := by
      intro y1_0 H locs ls e_y1_0 hG hl
      subst e_y1_0
      refine z_ist C dX8_rises_106 hG 1 rfl 145 (by decide) (Nat.le_of_ble_eq_true rfl) (Nat.le_of_ble_eq_true rfl) (ws' := [(m, .inr (8, [.int (v 0), .int (v 1), .ref aS, .int (v 2), .int (v 3), .int (v 4), .ref aW, .int (v 5), .ref aL, .int (v 6), .int (v 7), .int (v 8), .ref aT, .int (v 9), .int (v 10), .int (v 11), .int (v 12), .ref a1, .ref a2, .ref a3, .ref aB, .int (v 13), .int (v 14)])), (aL, .inl (E.2.1.1, 156, .inl (upd sl 145 (j_X8_rises_143_0_1_0 v sl more dr))))]) rfl (fun H locs hG => ?_)
      rw [hQ]
      exact z_vret C hr hlk hG dX8_rises_107 rfl (by rw [o_X8_rises_143_0_1])
    refine lv_if_eq (tgt := 92) hx hb dX8_rises_84 (by decide) (fun c_4 => ?_) (fun c_4 => ?_)
    · skip
      refine lv_iconst (v := 0) hx hb dX8_rises_92 (by decide) ?_
      refine lv_iload hx hb dX8_rises_93 (lv_at hl 3 rfl) ?_
      refine call_X8_139 C dX8_rises_95 (c_X8_bound l E (sl 143)) hl hG [] (by decide) rfl (ads := []) rfl rfl (ws' := [(m, .inr (8, [.int (v 0), .int (v 1), .ref aS, .int (v 2), .int (v 3), .int (v 4), .ref aW, .int (v 5), .ref aL, .int (v 6), .int (v 7), .int (v 8), .ref aT, .int (v 9), .int (v 10), .int (v 11), .int (v 12), .ref a1, .ref a2, .ref a3, .ref aB, .int (v 13), .int (v 14)])), (aL, .inl (E.2.1.1, 156, .inl sl))]) rfl rfl (rest := [.int 0, .int 145, .ref aL]) rfl (Nat.le_of_ble_eq_true rfl) ⟨Nat.le_of_ble_eq_true rfl, Nat.le_of_ble_eq_true rfl⟩ (fun H locs hG => ?_)
      refine lv_iload hx hb dX8_rises_98 (lv_at hl 0 rfl) ?_
      refine call_X8_136 C dX8_rises_100 (c_X8_smaller l E (o_X8_bound_r (sl 143)) (((sl 145) + (o_X8_grows_r (sl 143) ((sl 154) - (sl 154) / 12 * 12))) + more)) hl hG [] (by decide) rfl (ads := []) rfl rfl (ws' := [(m, .inr (8, [.int (v 0), .int (v 1), .ref aS, .int (v 2), .int (v 3), .int (v 4), .ref aW, .int (v 5), .ref aL, .int (v 6), .int (v 7), .int (v 8), .ref aT, .int (v 9), .int (v 10), .int (v 11), .int (v 12), .ref a1, .ref a2, .ref a3, .ref aB, .int (v 13), .int (v 14)])), (aL, .inl (E.2.1.1, 156, .inl sl))]) rfl rfl (rest := [.int 0, .int 145, .ref aL]) rfl (Nat.le_of_ble_eq_true rfl) ⟨Nat.le_of_ble_eq_true rfl, Nat.le_of_ble_eq_true rfl⟩ (fun H locs hG => ?_)
      refine call_X8_133 C dX8_rises_103 (c_X8_larger l E 0 (o_X8_smaller_r (o_X8_bound_r (sl 143)) (((sl 145) + (o_X8_grows_r (sl 143) ((sl 154) - (sl 154) / 12 * 12))) + more))) hl hG [] (by decide) rfl (ads := []) rfl rfl (ws' := [(m, .inr (8, [.int (v 0), .int (v 1), .ref aS, .int (v 2), .int (v 3), .int (v 4), .ref aW, .int (v 5), .ref aL, .int (v 6), .int (v 7), .int (v 8), .ref aT, .int (v 9), .int (v 10), .int (v 11), .int (v 12), .ref a1, .ref a2, .ref a3, .ref aB, .int (v 13), .int (v 14)])), (aL, .inl (E.2.1.1, 156, .inl sl))]) rfl rfl (rest := [.int 145, .ref aL]) rfl (Nat.le_of_ble_eq_true rfl) ⟨Nat.le_of_ble_eq_true rfl, Nat.le_of_ble_eq_true rfl⟩ (fun H locs hG => ?_)
      exact k_1 (o_X8_larger_r 0 (o_X8_smaller_r (o_X8_bound_r (sl 143)) (((sl 145) + (o_X8_grows_r (sl 143) ((sl 154) - (sl 154) / 12 * 12))) + more))) _ _ _ (by rw [j_X8_rises_143_0_1_0, if_pos c_4]) hG (lv_sub hl [0, 1, 2, 3, 4, 5, 6, 7, 8] rfl)
    · skip
      refine lv_iload hx hb dX8_rises_87 (lv_at hl 2 rfl) ?_
      refine lv_goto (tgt := 106) hx hb dX8_rises_89 (by decide) ?_
      exact k_1 (sl 145) _ _ _ (by rw [j_X8_rises_143_0_1_0, if_neg c_4]) hG (lv_sub hl [0, 1, 2, 3, 4, 5, 6, 7, 8] rfl)
  refine lv_icmp_gt (tgt := 42) hx hb dX8_rises_29 (by decide) (fun c_1 => ?_) (fun c_1 => ?_)
  · skip
    refine lv_iconst (v := 1) hx hb dX8_rises_42 (by decide) ?_
    refine lv_goto (tgt := 47) hx hb dX8_rises_43 (by decide) ?_
    exact k_0 1 _ _ _ (by rw [j_X8_rises_143_0_0_0, if_pos c_1]) hG (lv_sub hl [0, 1, 2, 3, 4, 5, 6] rfl)
  · skip
    refine lv_iload hx hb dX8_rises_32 (lv_at hl 6 rfl) ?_
    refine lv_if_eq (tgt := 46) hx hb dX8_rises_34 (by decide) (fun c_5 => ?_) (fun c_5 => ?_)
    · skip
      refine lv_iconst (v := 0) hx hb dX8_rises_46 (by decide) ?_
      exact k_0 0 _ _ _ (by rw [j_X8_rises_143_0_0_0, if_neg c_1, if_pos c_5]) hG (lv_sub hl [0, 1, 2, 3, 4, 5, 6] rfl)
    · skip
      refine lv_iload_n hx hb dX8_rises_37 rfl (lv_at hl 5 rfl) ?_
      refine lv_iconst (v := 1) hx hb dX8_rises_38 (by decide) ?_
      refine lv_icmp_eq (tgt := 46) hx hb dX8_rises_39 (by decide) (fun c_6 => ?_) (fun c_6 => ?_)
      · skip
        refine lv_iconst (v := 0) hx hb dX8_rises_46 (by decide) ?_
        exact k_0 0 _ _ _ (by rw [j_X8_rises_143_0_0_0, if_neg c_1, if_neg c_5, if_pos c_6]) hG (lv_sub hl [0, 1, 2, 3, 4, 5, 6] rfl)
      · skip
        refine lv_iconst (v := 1) hx hb dX8_rises_42 (by decide) ?_
        refine lv_goto (tgt := 47) hx hb dX8_rises_43 (by decide) ?_
        exact k_0 1 _ _ _ (by rw [j_X8_rises_143_0_0_0, if_neg c_1, if_neg c_5, if_neg c_6]) hG (lv_sub hl [0, 1, 2, 3, 4, 5, 6] rfl)
def o_X8_shadow_143_1_r (v : Nat → Int32) (ms : Nat → Int32) (sl : Nat → Int32) : Int32 := (((sl 146) * (10 - (o_X8_sunIn_143_r v ms sl))) / 3)
set_option maxRecDepth 100000 in
set_option maxHeartbeats 4000000 in
theorem c_X8_shadow_143_1 (l : Launch) (E : zE) (v : Nat → Int32) (ms : Nat → Int32) (sl : Nat → Int32) (m aS aW aL aT a1 a2 a3 aB : Nat) (hM : 0 ≤ (sl 154).toInt) : HM l E yX8_shadow cX8_shadow 3 (some .int) 1 21 [.ref m, .int 143, .int 1] [(m, .inr (8, [.int (v 0), .int (v 1), .ref aS, .int (v 2), .int (v 3), .int (v 4), .ref aW, .int (v 5), .ref aL, .int (v 6), .int (v 7), .int (v 8), .ref aT, .int (v 9), .int (v 10), .int (v 11), .int (v 12), .ref a1, .ref a2, .ref a3, .ref aB, .int (v 13), .int (v 14)])), (aS, .inl (E.2.1.1, 12, .inl ms)), (aL, .inl (E.2.1.1, 156, .inl sl))] (some (.int (o_X8_shadow_143_1_r v ms sl))) [(m, .inr (8, [.int (v 0), .int (v 1), .ref aS, .int (v 2), .int (v 3), .int (v 4), .ref aW, .int (v 5), .ref aL, .int (v 6), .int (v 7), .int (v 8), .ref aT, .int (v 9), .int (v 10), .int (v 11), .int (v 12), .ref a1, .ref a2, .ref a3, .ref aB, .int (v 13), .int (v 14)])), (aS, .inl (E.2.1.1, 12, .inl ms)), (aL, .inl (E.2.1.1, 156, .inl sl))] := by
  refine HM.of (own := RX8) (plainFor_of_name (by decide)) rfl (Nat.le_of_ble_eq_true rfl) ?_
  intro zp ze zs zm za zb zt zc zA ls H locs zq C hr hlk hG hl hQ
  have hx := C.1.1
  have hb := C.1.2.1
  replace hl : lv_has ls 3 [(0, .ref m), (1, .int 143), (2, .int 1)] := hl
  refine lv_aload_n hx hb dX8_shadow_0 rfl (lv_at hl 0 rfl) ?_
  refine gf_X8_16 C dX8_shadow_1 hG 0 rfl rfl ?_
  refine lv_iload_n hx hb dX8_shadow_4 rfl (lv_at hl 1 rfl) ?_
  refine lv_iconst (v := 2) hx hb dX8_shadow_5 (by decide) ?_
  refine lv_iadd hx hb dX8_shadow_6 ?_
  refine z_ti (y := 145) (by decide) ?_
  refine lv_iload_n hx hb dX8_shadow_7 rfl (lv_at hl 2 rfl) ?_
  refine lv_iadd hx hb dX8_shadow_8 ?_
  refine z_ti (y := 146) (by decide) ?_
  refine z_ild C dX8_shadow_9 hG 2 rfl 146 (by decide) (Nat.le_of_ble_eq_true rfl) (Nat.le_of_ble_eq_true rfl) ?_
  refine lv_bipush (v := 10) hx hb dX8_shadow_10 (by decide) ?_
  refine lv_aload_n hx hb dX8_shadow_12 rfl (lv_at hl 0 rfl) ?_
  refine lv_iload_n hx hb dX8_shadow_13 rfl (lv_at hl 1 rfl) ?_
  refine call_X8_114 C dX8_shadow_14 (c_X8_sunIn_143 l E v ms sl m aS aW aL aT a1 a2 a3 aB (by first | exact hM | (simpa [upd, gn_does_0_0, gn_rises_0_0, gn_does_0_1, gn_rises_0_1] using hM))) hl hG 0 rfl [0, 1, 2] (by decide) rfl (ads := [m, aS, aL]) rfl rfl (ws' := [(m, .inr (8, [.int (v 0), .int (v 1), .ref aS, .int (v 2), .int (v 3), .int (v 4), .ref aW, .int (v 5), .ref aL, .int (v 6), .int (v 7), .int (v 8), .ref aT, .int (v 9), .int (v 10), .int (v 11), .int (v 12), .ref a1, .ref a2, .ref a3, .ref aB, .int (v 13), .int (v 14)])), (aS, .inl (E.2.1.1, 12, .inl ms)), (aL, .inl (E.2.1.1, 156, .inl sl))]) rfl rfl (rest := [.int 10, .int (sl 146)]) rfl (Nat.le_of_ble_eq_true rfl) ⟨Nat.le_of_ble_eq_true rfl, Nat.le_of_ble_eq_true rfl⟩ (fun H locs hG => ?_)
  refine lv_isub hx hb dX8_shadow_17 ?_
  refine lv_imul hx hb dX8_shadow_18 ?_
  refine lv_iconst (v := 3) hx hb dX8_shadow_19 (by decide) ?_
  refine lv_idiv hx hb dX8_shadow_20 (by decide) ?_
  rw [hQ]
  exact z_iret C hr hlk hG dX8_shadow_21 rfl (by rw [o_X8_shadow_143_1_r]) rfl
def j_X8_does_143_1_0_0 (v : Nat → Int32) (sl : Nat → Int32) (ac : Int32) : Nat → Int32 := (if ac = 4 then (upd sl 148 (o_X8_smaller_r 3 ((sl 148) + 1))) else sl)
def j_X8_does_143_1_1_0 (v : Nat → Int32) (sl : Nat → Int32) (ac : Int32) : Nat → Int32 := (if ac = 4 then (upd sl 148 (o_X8_smaller_r 3 ((sl 148) + 1))) else sl)
def j_X8_does_143_1_2_0 (v : Nat → Int32) (sl : Nat → Int32) (ac : Int32) : Nat → Int32 := (if ac = 4 then (upd sl 148 (o_X8_smaller_r 3 ((sl 148) + 1))) else sl)
def j_X8_does_143_1_3_0 (v : Nat → Int32) (sl : Nat → Int32) (ac : Int32) : Nat → Int32 := (if ac = 4 then (upd sl 148 (o_X8_smaller_r 3 ((sl 148) + 1))) else sl)
def j_X8_does_143_1_4_0 (v : Nat → Int32) (sl : Nat → Int32) (ac : Int32) : Nat → Int32 := (if ac = 4 then (upd sl 148 (o_X8_smaller_r 3 ((sl 148) + 1))) else sl)
def j_X8_does_143_1_5_0 (v : Nat → Int32) (sl : Nat → Int32) (ac : Int32) : Nat → Int32 := (if ac = 4 then (upd sl 148 (o_X8_smaller_r 3 ((sl 148) + 1))) else sl)
def j_X8_does_143_1_6_0 (v : Nat → Int32) (sl : Nat → Int32) (ac : Int32) : Int32 := (if (3 : Int32) ≤ (sl 146) then (sl 146) else (o_X8_larger_r 0 ((sl 146) - 1)))
def o_X8_does_143_1_r (v : Nat → Int32) (sl : Nat → Int32) (ac : Int32) : Int32 := (if ac = 1 then 0 else (if ac = 2 then (if (sl 150) < 3 then (if ac = 3 then (if (sl 150) < 1 then 0 else (if (sl 153) < 1 then 0 else 1)) else 0) else (if (3 : Int32) ≤ (sl 146) then 2 else 0)) else (if ac = 3 then (if (sl 150) < 1 then 0 else (if (sl 153) < 1 then 0 else 1)) else 0)))
def o_X8_does_143_1_1 (v : Nat → Int32) (sl : Nat → Int32) (ac : Int32) : Nat → Int32 := (if ac = 1 then (upd sl 146 (o_X8_larger_r 0 ((sl 146) - 2))) else (if ac = 2 then (if (sl 150) < 3 then (if ac = 3 then (if (sl 150) < 1 then (j_X8_does_143_1_4_0 v sl ac) else (if (sl 153) < 1 then (j_X8_does_143_1_5_0 v sl ac) else (upd (upd sl 150 ((sl 150) - 1)) 153 (((upd sl 150 ((sl 150) - 1)) 153) - 1)))) else (j_X8_does_143_1_3_0 v sl ac)) else (upd (upd sl 150 ((sl 150) - 3)) 146 (j_X8_does_143_1_6_0 v sl ac))) else (if ac = 3 then (if (sl 150) < 1 then (j_X8_does_143_1_1_0 v sl ac) else (if (sl 153) < 1 then (j_X8_does_143_1_2_0 v sl ac) else (upd (upd sl 150 ((sl 150) - 1)) 153 (((upd sl 150 ((sl 150) - 1)) 153) - 1)))) else (j_X8_does_143_1_0_0 v sl ac))))
set_option maxRecDepth 100000 in
set_option maxHeartbeats 4000000 in
theorem c_X8_does_143_1 (l : Launch) (E : zE) (v : Nat → Int32) (sl : Nat → Int32) (ac : Int32) (m aS aW aL aT a1 a2 a3 aB : Nat) : HM l E yX8_does cX8_does 5 (some .int) 1 21 [.ref m, .int 143, .int 1, .int ac] [(m, .inr (8, [.int (v 0), .int (v 1), .ref aS, .int (v 2), .int (v 3), .int (v 4), .ref aW, .int (v 5), .ref aL, .int (v 6), .int (v 7), .int (v 8), .ref aT, .int (v 9), .int (v 10), .int (v 11), .int (v 12), .ref a1, .ref a2, .ref a3, .ref aB, .int (v 13), .int (v 14)])), (aL, .inl (E.2.1.1, 156, .inl sl))] (some (.int (o_X8_does_143_1_r v sl ac))) [(m, .inr (8, [.int (v 0), .int (v 1), .ref aS, .int (v 2), .int (v 3), .int (v 4), .ref aW, .int (v 5), .ref aL, .int (v 6), .int (v 7), .int (v 8), .ref aT, .int (v 9), .int (v 10), .int (v 11), .int (v 12), .ref a1, .ref a2, .ref a3, .ref aB, .int (v 13), .int (v 14)])), (aL, .inl (E.2.1.1, 156, .inl (o_X8_does_143_1_1 v sl ac)))] := by
  refine HM.of (own := RX8) (plainFor_of_name (by decide)) rfl (Nat.le_of_ble_eq_true rfl) ?_
  intro zp ze zs zm za zb zt zc zA ls H locs zq C hr hlk hG hl hQ
  have hx := C.1.1
  have hb := C.1.2.1
  replace hl : lv_has ls 5 [(0, .ref m), (1, .int 143), (2, .int 1), (3, .int ac)] := hl
  refine lv_aload_n hx hb dX8_does_0 rfl (lv_at hl 0 rfl) ?_
  refine gf_X8_16 C dX8_does_1 hG 0 rfl rfl ?_
  refine lv_iload_n hx hb dX8_does_4 rfl (lv_at hl 1 rfl) ?_
  refine lv_iconst (v := 2) hx hb dX8_does_5 (by decide) ?_
  refine lv_iadd hx hb dX8_does_6 ?_
  refine z_ti (y := 145) (by decide) ?_
  refine lv_iload_n hx hb dX8_does_7 rfl (lv_at hl 2 rfl) ?_
  refine lv_iadd hx hb dX8_does_8 ?_
  refine z_ti (y := 146) (by decide) ?_
  refine z_ild C dX8_does_9 hG 1 rfl 146 (by decide) (Nat.le_of_ble_eq_true rfl) (Nat.le_of_ble_eq_true rfl) ?_
  refine lv_istore (lv' := [(4, .int (sl 146)), (0, .ref m), (1, .int 143), (2, .int 1), (3, .int ac)]) hx hb dX8_does_10 hl (by decide) rfl (fun ls hl => ?_)
  refine lv_iload_n hx hb dX8_does_12 rfl (lv_at hl 4 rfl) ?_
  refine lv_iconst (v := 1) hx hb dX8_does_13 (by decide) ?_
  refine lv_icmp_ne (tgt := 38) hx hb dX8_does_14 (by decide) (fun c_1 => ?_) (fun c_1 => ?_)
  · skip
    refine lv_iload_n hx hb dX8_does_38 rfl (lv_at hl 4 rfl) ?_
    refine lv_iconst (v := 2) hx hb dX8_does_39 (by decide) ?_
    refine lv_icmp_ne (tgt := 114) hx hb dX8_does_40 (by decide) (fun c_2 => ?_) (fun c_2 => ?_)
    · skip
      refine lv_iload_n hx hb dX8_does_114 rfl (lv_at hl 4 rfl) ?_
      refine lv_iconst (v := 3) hx hb dX8_does_115 (by decide) ?_
      refine lv_icmp_ne (tgt := 177) hx hb dX8_does_116 (by decide) (fun c_3 => ?_) (fun c_3 => ?_)
      · skip
        refine lv_iload_n hx hb dX8_does_177 rfl (lv_at hl 4 rfl) ?_
        refine lv_iconst (v := 4) hx hb dX8_does_178 (by decide) ?_
        have k_0 : ∀ (y0_0 : Nat → Int32) (H : Heap) (locs : List Loc) (ls : Array Slot), (j_X8_does_143_1_0_0 v sl ac) = y0_0 → zG E zA zs.heap [(m, .inr (8, [.int (v 0), .int (v 1), .ref aS, .int (v 2), .int (v 3), .int (v 4), .ref aW, .int (v 5), .ref aL, .int (v 6), .int (v 7), .int (v 8), .ref aT, .int (v 9), .int (v 10), .int (v 11), .int (v 12), .ref a1, .ref a2, .ref a3, .ref aB, .int (v 13), .int (v 14)])), (aL, .inl (E.2.1.1, 156, .inl y0_0))] H locs → lv_has ls 5 [(4, .int (sl 146)), (0, .ref m), (1, .int 143), (2, .int 1), (3, .int ac)] → W zp l ze (zR 1 21) zs zm za zb zt zc H locs 0 0 zq (F0 zm 208 ls []) := by
          intro y0_0 H locs ls e_y0_0 hG hl
          subst e_y0_0
          refine lv_iconst (v := 0) hx hb dX8_does_208 (by decide) ?_
          rw [hQ]
          exact z_iret C hr hlk hG dX8_does_209 rfl (by rw [o_X8_does_143_1_r, if_neg c_1, if_neg c_2, if_neg c_3]) (by rw [o_X8_does_143_1_1, if_neg c_1, if_neg c_2, if_neg c_3])
        refine lv_icmp_ne (tgt := 208) hx hb dX8_does_179 (by decide) (fun c_4 => ?_) (fun c_4 => ?_)
        · skip
          exact k_0 sl _ _ _ (by rw [j_X8_does_143_1_0_0, if_neg c_4]) hG (lv_sub hl [0, 1, 2, 3, 4] rfl)
        · skip
          refine lv_aload_n hx hb dX8_does_182 rfl (lv_at hl 1 rfl) ?_
          refine gf_X8_16 C dX8_does_183 hG 0 rfl rfl ?_
          refine lv_iload_n hx hb dX8_does_186 rfl (lv_at hl 2 rfl) ?_
          refine lv_iconst (v := 4) hx hb dX8_does_187 (by decide) ?_
          refine lv_iadd hx hb dX8_does_188 ?_
          refine z_ti (y := 147) (by decide) ?_
          refine lv_iload_n hx hb dX8_does_189 rfl (lv_at hl 3 rfl) ?_
          refine lv_iadd hx hb dX8_does_190 ?_
          refine z_ti (y := 148) (by decide) ?_
          refine lv_iconst (v := 3) hx hb dX8_does_191 (by decide) ?_
          refine lv_aload_n hx hb dX8_does_192 rfl (lv_at hl 1 rfl) ?_
          refine gf_X8_16 C dX8_does_193 hG 0 rfl rfl ?_
          refine lv_iload_n hx hb dX8_does_196 rfl (lv_at hl 2 rfl) ?_
          refine lv_iconst (v := 4) hx hb dX8_does_197 (by decide) ?_
          refine lv_iadd hx hb dX8_does_198 ?_
          refine z_ti (y := 147) (by decide) ?_
          refine lv_iload_n hx hb dX8_does_199 rfl (lv_at hl 3 rfl) ?_
          refine lv_iadd hx hb dX8_does_200 ?_
          refine z_ti (y := 148) (by decide) ?_
          refine z_ild C dX8_does_201 hG 1 rfl 148 (by decide) (Nat.le_of_ble_eq_true rfl) (Nat.le_of_ble_eq_true rfl) ?_
          refine lv_iconst (v := 1) hx hb dX8_does_202 (by decide) ?_
          refine lv_iadd hx hb dX8_does_203 ?_
          refine call_X8_136 C dX8_does_204 (c_X8_smaller l E 3 ((sl 148) + 1)) hl hG [] (by decide) rfl (ads := []) rfl rfl (ws' := [(m, .inr (8, [.int (v 0), .int (v 1), .ref aS, .int (v 2), .int (v 3), .int (v 4), .ref aW, .int (v 5), .ref aL, .int (v 6), .int (v 7), .int (v 8), .ref aT, .int (v 9), .int (v 10), .int (v 11), .int (v 12), .ref a1, .ref a2, .ref a3, .ref aB, .int (v 13), .int (v 14)])), (aL, .inl (E.2.1.1, 156, .inl sl))]) rfl rfl (rest := [.int 148, .ref aL]) rfl (Nat.le_of_ble_eq_true rfl) ⟨Nat.le_of_ble_eq_true rfl, Nat.le_of_ble_eq_true rfl⟩ (fun H locs hG => ?_)
          refine z_ist C dX8_does_207 hG 1 rfl 148 (by decide) (Nat.le_of_ble_eq_true rfl) (Nat.le_of_ble_eq_true rfl) (ws' := [(m, .inr (8, [.int (v 0), .int (v 1), .ref aS, .int (v 2), .int (v 3), .int (v 4), .ref aW, .int (v 5), .ref aL, .int (v 6), .int (v 7), .int (v 8), .ref aT, .int (v 9), .int (v 10), .int (v 11), .int (v 12), .ref a1, .ref a2, .ref a3, .ref aB, .int (v 13), .int (v 14)])), (aL, .inl (E.2.1.1, 156, .inl (upd sl 148 (o_X8_smaller_r 3 ((sl 148) + 1)))))]) rfl (fun H locs hG => ?_)
          exact k_0 (upd sl 148 (o_X8_smaller_r 3 ((sl 148) + 1))) _ _ _ (by rw [j_X8_does_143_1_0_0, if_pos c_4]) hG (lv_sub hl [0, 1, 2, 3, 4] rfl)
      · skip
        refine lv_aload_n hx hb dX8_does_119 rfl (lv_at hl 1 rfl) ?_
        refine gf_X8_16 C dX8_does_120 hG 0 rfl rfl ?_
        refine lv_iload_n hx hb dX8_does_123 rfl (lv_at hl 2 rfl) ?_
        refine lv_bipush (v := 6) hx hb dX8_does_124 (by decide) ?_
        refine lv_iadd hx hb dX8_does_126 ?_
        refine z_ti (y := 149) (by decide) ?_
        refine lv_iload_n hx hb dX8_does_127 rfl (lv_at hl 3 rfl) ?_
        refine lv_iadd hx hb dX8_does_128 ?_
        refine z_ti (y := 150) (by decide) ?_
        refine z_ild C dX8_does_129 hG 1 rfl 150 (by decide) (Nat.le_of_ble_eq_true rfl) (Nat.le_of_ble_eq_true rfl) ?_
        refine lv_iconst (v := 1) hx hb dX8_does_130 (by decide) ?_
        refine lv_icmp_lt (tgt := 177) hx hb dX8_does_131 (by decide) (fun c_5 => ?_) (fun c_5 => ?_)
        · skip
          refine lv_iload_n hx hb dX8_does_177 rfl (lv_at hl 4 rfl) ?_
          refine lv_iconst (v := 4) hx hb dX8_does_178 (by decide) ?_
          have k_1 : ∀ (y1_0 : Nat → Int32) (H : Heap) (locs : List Loc) (ls : Array Slot), (j_X8_does_143_1_1_0 v sl ac) = y1_0 → zG E zA zs.heap [(m, .inr (8, [.int (v 0), .int (v 1), .ref aS, .int (v 2), .int (v 3), .int (v 4), .ref aW, .int (v 5), .ref aL, .int (v 6), .int (v 7), .int (v 8), .ref aT, .int (v 9), .int (v 10), .int (v 11), .int (v 12), .ref a1, .ref a2, .ref a3, .ref aB, .int (v 13), .int (v 14)])), (aL, .inl (E.2.1.1, 156, .inl y1_0))] H locs → lv_has ls 5 [(4, .int (sl 146)), (0, .ref m), (1, .int 143), (2, .int 1), (3, .int ac)] → W zp l ze (zR 1 21) zs zm za zb zt zc H locs 0 0 zq (F0 zm 208 ls []) := by
            intro y1_0 H locs ls e_y1_0 hG hl
            subst e_y1_0
            refine lv_iconst (v := 0) hx hb dX8_does_208 (by decide) ?_
            rw [hQ]
            exact z_iret C hr hlk hG dX8_does_209 rfl (by rw [o_X8_does_143_1_r, if_neg c_1, if_neg c_2, if_pos c_3, if_pos c_5]) (by rw [o_X8_does_143_1_1, if_neg c_1, if_neg c_2, if_pos c_3, if_pos c_5])
          refine lv_icmp_ne (tgt := 208) hx hb dX8_does_179 (by decide) (fun c_6 => ?_) (fun c_6 => ?_)
          · skip
            exact k_1 sl _ _ _ (by rw [j_X8_does_143_1_1_0, if_neg c_6]) hG (lv_sub hl [0, 1, 2, 3, 4] rfl)
          · skip
            refine lv_aload_n hx hb dX8_does_182 rfl (lv_at hl 1 rfl) ?_
            refine gf_X8_16 C dX8_does_183 hG 0 rfl rfl ?_
            refine lv_iload_n hx hb dX8_does_186 rfl (lv_at hl 2 rfl) ?_
            refine lv_iconst (v := 4) hx hb dX8_does_187 (by decide) ?_
            refine lv_iadd hx hb dX8_does_188 ?_
            refine z_ti (y := 147) (by decide) ?_
            refine lv_iload_n hx hb dX8_does_189 rfl (lv_at hl 3 rfl) ?_
            refine lv_iadd hx hb dX8_does_190 ?_
            refine z_ti (y := 148) (by decide) ?_
            refine lv_iconst (v := 3) hx hb dX8_does_191 (by decide) ?_
            refine lv_aload_n hx hb dX8_does_192 rfl (lv_at hl 1 rfl) ?_
            refine gf_X8_16 C dX8_does_193 hG 0 rfl rfl ?_
            refine lv_iload_n hx hb dX8_does_196 rfl (lv_at hl 2 rfl) ?_
            refine lv_iconst (v := 4) hx hb dX8_does_197 (by decide) ?_
            refine lv_iadd hx hb dX8_does_198 ?_
            refine z_ti (y := 147) (by decide) ?_
            refine lv_iload_n hx hb dX8_does_199 rfl (lv_at hl 3 rfl) ?_
            refine lv_iadd hx hb dX8_does_200 ?_
            refine z_ti (y := 148) (by decide) ?_
            refine z_ild C dX8_does_201 hG 1 rfl 148 (by decide) (Nat.le_of_ble_eq_true rfl) (Nat.le_of_ble_eq_true rfl) ?_
            refine lv_iconst (v := 1) hx hb dX8_does_202 (by decide) ?_
            refine lv_iadd hx hb dX8_does_203 ?_
            refine call_X8_136 C dX8_does_204 (c_X8_smaller l E 3 ((sl 148) + 1)) hl hG [] (by decide) rfl (ads := []) rfl rfl (ws' := [(m, .inr (8, [.int (v 0), .int (v 1), .ref aS, .int (v 2), .int (v 3), .int (v 4), .ref aW, .int (v 5), .ref aL, .int (v 6), .int (v 7), .int (v 8), .ref aT, .int (v 9), .int (v 10), .int (v 11), .int (v 12), .ref a1, .ref a2, .ref a3, .ref aB, .int (v 13), .int (v 14)])), (aL, .inl (E.2.1.1, 156, .inl sl))]) rfl rfl (rest := [.int 148, .ref aL]) rfl (Nat.le_of_ble_eq_true rfl) ⟨Nat.le_of_ble_eq_true rfl, Nat.le_of_ble_eq_true rfl⟩ (fun H locs hG => ?_)
            refine z_ist C dX8_does_207 hG 1 rfl 148 (by decide) (Nat.le_of_ble_eq_true rfl) (Nat.le_of_ble_eq_true rfl) (ws' := [(m, .inr (8, [.int (v 0), .int (v 1), .ref aS, .int (v 2), .int (v 3), .int (v 4), .ref aW, .int (v 5), .ref aL, .int (v 6), .int (v 7), .int (v 8), .ref aT, .int (v 9), .int (v 10), .int (v 11), .int (v 12), .ref a1, .ref a2, .ref a3, .ref aB, .int (v 13), .int (v 14)])), (aL, .inl (E.2.1.1, 156, .inl (upd sl 148 (o_X8_smaller_r 3 ((sl 148) + 1)))))]) rfl (fun H locs hG => ?_)
            exact k_1 (upd sl 148 (o_X8_smaller_r 3 ((sl 148) + 1))) _ _ _ (by rw [j_X8_does_143_1_1_0, if_pos c_6]) hG (lv_sub hl [0, 1, 2, 3, 4] rfl)
        · skip
          refine lv_aload_n hx hb dX8_does_134 rfl (lv_at hl 1 rfl) ?_
          refine gf_X8_16 C dX8_does_135 hG 0 rfl rfl ?_
          refine lv_iload_n hx hb dX8_does_138 rfl (lv_at hl 2 rfl) ?_
          refine lv_bipush (v := 10) hx hb dX8_does_139 (by decide) ?_
          refine lv_iadd hx hb dX8_does_141 ?_
          refine z_ti (y := 153) (by decide) ?_
          refine z_ild C dX8_does_142 hG 1 rfl 153 (by decide) (Nat.le_of_ble_eq_true rfl) (Nat.le_of_ble_eq_true rfl) ?_
          refine lv_iconst (v := 1) hx hb dX8_does_143 (by decide) ?_
          refine lv_icmp_lt (tgt := 177) hx hb dX8_does_144 (by decide) (fun c_7 => ?_) (fun c_7 => ?_)
          · skip
            refine lv_iload_n hx hb dX8_does_177 rfl (lv_at hl 4 rfl) ?_
            refine lv_iconst (v := 4) hx hb dX8_does_178 (by decide) ?_
            have k_2 : ∀ (y2_0 : Nat → Int32) (H : Heap) (locs : List Loc) (ls : Array Slot), (j_X8_does_143_1_2_0 v sl ac) = y2_0 → zG E zA zs.heap [(m, .inr (8, [.int (v 0), .int (v 1), .ref aS, .int (v 2), .int (v 3), .int (v 4), .ref aW, .int (v 5), .ref aL, .int (v 6), .int (v 7), .int (v 8), .ref aT, .int (v 9), .int (v 10), .int (v 11), .int (v 12), .ref a1, .ref a2, .ref a3, .ref aB, .int (v 13), .int (v 14)])), (aL, .inl (E.2.1.1, 156, .inl y2_0))] H locs → lv_has ls 5 [(4, .int (sl 146)), (0, .ref m), (1, .int 143), (2, .int 1), (3, .int ac)] → W zp l ze (zR 1 21) zs zm za zb zt zc H locs 0 0 zq (F0 zm 208 ls []) := by
              intro y2_0 H locs ls e_y2_0 hG hl
              subst e_y2_0
              refine lv_iconst (v := 0) hx hb dX8_does_208 (by decide) ?_
              rw [hQ]
              exact z_iret C hr hlk hG dX8_does_209 rfl (by rw [o_X8_does_143_1_r, if_neg c_1, if_neg c_2, if_pos c_3, if_neg c_5, if_pos c_7]) (by rw [o_X8_does_143_1_1, if_neg c_1, if_neg c_2, if_pos c_3, if_neg c_5, if_pos c_7])
            refine lv_icmp_ne (tgt := 208) hx hb dX8_does_179 (by decide) (fun c_8 => ?_) (fun c_8 => ?_)
            · skip
              exact k_2 sl _ _ _ (by rw [j_X8_does_143_1_2_0, if_neg c_8]) hG (lv_sub hl [0, 1, 2, 3, 4] rfl)
            · skip
              refine lv_aload_n hx hb dX8_does_182 rfl (lv_at hl 1 rfl) ?_
              refine gf_X8_16 C dX8_does_183 hG 0 rfl rfl ?_
              refine lv_iload_n hx hb dX8_does_186 rfl (lv_at hl 2 rfl) ?_
              refine lv_iconst (v := 4) hx hb dX8_does_187 (by decide) ?_
              refine lv_iadd hx hb dX8_does_188 ?_
              refine z_ti (y := 147) (by decide) ?_
              refine lv_iload_n hx hb dX8_does_189 rfl (lv_at hl 3 rfl) ?_
              refine lv_iadd hx hb dX8_does_190 ?_
              refine z_ti (y := 148) (by decide) ?_
              refine lv_iconst (v := 3) hx hb dX8_does_191 (by decide) ?_
              refine lv_aload_n hx hb dX8_does_192 rfl (lv_at hl 1 rfl) ?_
              refine gf_X8_16 C dX8_does_193 hG 0 rfl rfl ?_
              refine lv_iload_n hx hb dX8_does_196 rfl (lv_at hl 2 rfl) ?_
              refine lv_iconst (v := 4) hx hb dX8_does_197 (by decide) ?_
              refine lv_iadd hx hb dX8_does_198 ?_
              refine z_ti (y := 147) (by decide) ?_
              refine lv_iload_n hx hb dX8_does_199 rfl (lv_at hl 3 rfl) ?_
              refine lv_iadd hx hb dX8_does_200 ?_
              refine z_ti (y := 148) (by decide) ?_
              refine z_ild C dX8_does_201 hG 1 rfl 148 (by decide) (Nat.le_of_ble_eq_true rfl) (Nat.le_of_ble_eq_true rfl) ?_
              refine lv_iconst (v := 1) hx hb dX8_does_202 (by decide) ?_
              refine lv_iadd hx hb dX8_does_203 ?_
              refine call_X8_136 C dX8_does_204 (c_X8_smaller l E 3 ((sl 148) + 1)) hl hG [] (by decide) rfl (ads := []) rfl rfl (ws' := [(m, .inr (8, [.int (v 0), .int (v 1), .ref aS, .int (v 2), .int (v 3), .int (v 4), .ref aW, .int (v 5), .ref aL, .int (v 6), .int (v 7), .int (v 8), .ref aT, .int (v 9), .int (v 10), .int (v 11), .int (v 12), .ref a1, .ref a2, .ref a3, .ref aB, .int (v 13), .int (v 14)])), (aL, .inl (E.2.1.1, 156, .inl sl))]) rfl rfl (rest := [.int 148, .ref aL]) rfl (Nat.le_of_ble_eq_true rfl) ⟨Nat.le_of_ble_eq_true rfl, Nat.le_of_ble_eq_true rfl⟩ (fun H locs hG => ?_)
              refine z_ist C dX8_does_207 hG 1 rfl 148 (by decide) (Nat.le_of_ble_eq_true rfl) (Nat.le_of_ble_eq_true rfl) (ws' := [(m, .inr (8, [.int (v 0), .int (v 1), .ref aS, .int (v 2), .int (v 3), .int (v 4), .ref aW, .int (v 5), .ref aL, .int (v 6), .int (v 7), .int (v 8), .ref aT, .int (v 9), .int (v 10), .int (v 11), .int (v 12), .ref a1, .ref a2, .ref a3, .ref aB, .int (v 13), .int (v 14)])), (aL, .inl (E.2.1.1, 156, .inl (upd sl 148 (o_X8_smaller_r 3 ((sl 148) + 1)))))]) rfl (fun H locs hG => ?_)
              exact k_2 (upd sl 148 (o_X8_smaller_r 3 ((sl 148) + 1))) _ _ _ (by rw [j_X8_does_143_1_2_0, if_pos c_8]) hG (lv_sub hl [0, 1, 2, 3, 4] rfl)
          · skip
            refine lv_aload_n hx hb dX8_does_147 rfl (lv_at hl 1 rfl) ?_
            refine gf_X8_16 C dX8_does_148 hG 0 rfl rfl ?_
            refine lv_iload_n hx hb dX8_does_151 rfl (lv_at hl 2 rfl) ?_
            refine lv_bipush (v := 6) hx hb dX8_does_152 (by decide) ?_
            refine lv_iadd hx hb dX8_does_154 ?_
            refine z_ti (y := 149) (by decide) ?_
            refine lv_iload_n hx hb dX8_does_155 rfl (lv_at hl 3 rfl) ?_
            refine lv_iadd hx hb dX8_does_156 ?_
            refine z_ti (y := 150) (by decide) ?_
            refine lv_dup2_11 hx hb dX8_does_157 rfl rfl ?_
            refine z_ild C dX8_does_158 hG 1 rfl 150 (by decide) (Nat.le_of_ble_eq_true rfl) (Nat.le_of_ble_eq_true rfl) ?_
            refine lv_iconst (v := 1) hx hb dX8_does_159 (by decide) ?_
            refine lv_isub hx hb dX8_does_160 ?_
            refine z_ist C dX8_does_161 hG 1 rfl 150 (by decide) (Nat.le_of_ble_eq_true rfl) (Nat.le_of_ble_eq_true rfl) (ws' := [(m, .inr (8, [.int (v 0), .int (v 1), .ref aS, .int (v 2), .int (v 3), .int (v 4), .ref aW, .int (v 5), .ref aL, .int (v 6), .int (v 7), .int (v 8), .ref aT, .int (v 9), .int (v 10), .int (v 11), .int (v 12), .ref a1, .ref a2, .ref a3, .ref aB, .int (v 13), .int (v 14)])), (aL, .inl (E.2.1.1, 156, .inl (upd sl 150 ((sl 150) - 1))))]) rfl (fun H locs hG => ?_)
            refine lv_aload_n hx hb dX8_does_162 rfl (lv_at hl 1 rfl) ?_
            refine gf_X8_16 C dX8_does_163 hG 0 rfl rfl ?_
            refine lv_iload_n hx hb dX8_does_166 rfl (lv_at hl 2 rfl) ?_
            refine lv_bipush (v := 10) hx hb dX8_does_167 (by decide) ?_
            refine lv_iadd hx hb dX8_does_169 ?_
            refine z_ti (y := 153) (by decide) ?_
            refine lv_dup2_11 hx hb dX8_does_170 rfl rfl ?_
            refine z_ild C dX8_does_171 hG 1 rfl 153 (by decide) (Nat.le_of_ble_eq_true rfl) (Nat.le_of_ble_eq_true rfl) ?_
            refine lv_iconst (v := 1) hx hb dX8_does_172 (by decide) ?_
            refine lv_isub hx hb dX8_does_173 ?_
            refine z_ist C dX8_does_174 hG 1 rfl 153 (by decide) (Nat.le_of_ble_eq_true rfl) (Nat.le_of_ble_eq_true rfl) (ws' := [(m, .inr (8, [.int (v 0), .int (v 1), .ref aS, .int (v 2), .int (v 3), .int (v 4), .ref aW, .int (v 5), .ref aL, .int (v 6), .int (v 7), .int (v 8), .ref aT, .int (v 9), .int (v 10), .int (v 11), .int (v 12), .ref a1, .ref a2, .ref a3, .ref aB, .int (v 13), .int (v 14)])), (aL, .inl (E.2.1.1, 156, .inl (upd (upd sl 150 ((sl 150) - 1)) 153 (((upd sl 150 ((sl 150) - 1)) 153) - 1))))]) rfl (fun H locs hG => ?_)
            refine lv_iconst (v := 1) hx hb dX8_does_175 (by decide) ?_
            rw [hQ]
            exact z_iret C hr hlk hG dX8_does_176 rfl (by rw [o_X8_does_143_1_r, if_neg c_1, if_neg c_2, if_pos c_3, if_neg c_5, if_neg c_7]) (by rw [o_X8_does_143_1_1, if_neg c_1, if_neg c_2, if_pos c_3, if_neg c_5, if_neg c_7])
    · skip
      refine lv_aload_n hx hb dX8_does_43 rfl (lv_at hl 1 rfl) ?_
      refine gf_X8_16 C dX8_does_44 hG 0 rfl rfl ?_
      refine lv_iload_n hx hb dX8_does_47 rfl (lv_at hl 2 rfl) ?_
      refine lv_bipush (v := 6) hx hb dX8_does_48 (by decide) ?_
      refine lv_iadd hx hb dX8_does_50 ?_
      refine z_ti (y := 149) (by decide) ?_
      refine lv_iload_n hx hb dX8_does_51 rfl (lv_at hl 3 rfl) ?_
      refine lv_iadd hx hb dX8_does_52 ?_
      refine z_ti (y := 150) (by decide) ?_
      refine z_ild C dX8_does_53 hG 1 rfl 150 (by decide) (Nat.le_of_ble_eq_true rfl) (Nat.le_of_ble_eq_true rfl) ?_
      refine lv_iconst (v := 3) hx hb dX8_does_54 (by decide) ?_
      refine lv_icmp_lt (tgt := 114) hx hb dX8_does_55 (by decide) (fun c_9 => ?_) (fun c_9 => ?_)
      · skip
        refine lv_iload_n hx hb dX8_does_114 rfl (lv_at hl 4 rfl) ?_
        refine lv_iconst (v := 3) hx hb dX8_does_115 (by decide) ?_
        refine lv_icmp_ne (tgt := 177) hx hb dX8_does_116 (by decide) (fun c_10 => ?_) (fun c_10 => ?_)
        · skip
          refine lv_iload_n hx hb dX8_does_177 rfl (lv_at hl 4 rfl) ?_
          refine lv_iconst (v := 4) hx hb dX8_does_178 (by decide) ?_
          have k_3 : ∀ (y3_0 : Nat → Int32) (H : Heap) (locs : List Loc) (ls : Array Slot), (j_X8_does_143_1_3_0 v sl ac) = y3_0 → zG E zA zs.heap [(m, .inr (8, [.int (v 0), .int (v 1), .ref aS, .int (v 2), .int (v 3), .int (v 4), .ref aW, .int (v 5), .ref aL, .int (v 6), .int (v 7), .int (v 8), .ref aT, .int (v 9), .int (v 10), .int (v 11), .int (v 12), .ref a1, .ref a2, .ref a3, .ref aB, .int (v 13), .int (v 14)])), (aL, .inl (E.2.1.1, 156, .inl y3_0))] H locs → lv_has ls 5 [(4, .int (sl 146)), (0, .ref m), (1, .int 143), (2, .int 1), (3, .int ac)] → W zp l ze (zR 1 21) zs zm za zb zt zc H locs 0 0 zq (F0 zm 208 ls []) := by
            intro y3_0 H locs ls e_y3_0 hG hl
            subst e_y3_0
            refine lv_iconst (v := 0) hx hb dX8_does_208 (by decide) ?_
            rw [hQ]
            exact z_iret C hr hlk hG dX8_does_209 rfl (by rw [o_X8_does_143_1_r, if_neg c_1, if_pos c_2, if_pos c_9, if_neg c_10]) (by rw [o_X8_does_143_1_1, if_neg c_1, if_pos c_2, if_pos c_9, if_neg c_10])
          refine lv_icmp_ne (tgt := 208) hx hb dX8_does_179 (by decide) (fun c_11 => ?_) (fun c_11 => ?_)
          · skip
            exact k_3 sl _ _ _ (by rw [j_X8_does_143_1_3_0, if_neg c_11]) hG (lv_sub hl [0, 1, 2, 3, 4] rfl)
          · skip
            refine lv_aload_n hx hb dX8_does_182 rfl (lv_at hl 1 rfl) ?_
            refine gf_X8_16 C dX8_does_183 hG 0 rfl rfl ?_
            refine lv_iload_n hx hb dX8_does_186 rfl (lv_at hl 2 rfl) ?_
            refine lv_iconst (v := 4) hx hb dX8_does_187 (by decide) ?_
            refine lv_iadd hx hb dX8_does_188 ?_
            refine z_ti (y := 147) (by decide) ?_
            refine lv_iload_n hx hb dX8_does_189 rfl (lv_at hl 3 rfl) ?_
            refine lv_iadd hx hb dX8_does_190 ?_
            refine z_ti (y := 148) (by decide) ?_
            refine lv_iconst (v := 3) hx hb dX8_does_191 (by decide) ?_
            refine lv_aload_n hx hb dX8_does_192 rfl (lv_at hl 1 rfl) ?_
            refine gf_X8_16 C dX8_does_193 hG 0 rfl rfl ?_
            refine lv_iload_n hx hb dX8_does_196 rfl (lv_at hl 2 rfl) ?_
            refine lv_iconst (v := 4) hx hb dX8_does_197 (by decide) ?_
            refine lv_iadd hx hb dX8_does_198 ?_
            refine z_ti (y := 147) (by decide) ?_
            refine lv_iload_n hx hb dX8_does_199 rfl (lv_at hl 3 rfl) ?_
            refine lv_iadd hx hb dX8_does_200 ?_
            refine z_ti (y := 148) (by decide) ?_
            refine z_ild C dX8_does_201 hG 1 rfl 148 (by decide) (Nat.le_of_ble_eq_true rfl) (Nat.le_of_ble_eq_true rfl) ?_
            refine lv_iconst (v := 1) hx hb dX8_does_202 (by decide) ?_
            refine lv_iadd hx hb dX8_does_203 ?_
            refine call_X8_136 C dX8_does_204 (c_X8_smaller l E 3 ((sl 148) + 1)) hl hG [] (by decide) rfl (ads := []) rfl rfl (ws' := [(m, .inr (8, [.int (v 0), .int (v 1), .ref aS, .int (v 2), .int (v 3), .int (v 4), .ref aW, .int (v 5), .ref aL, .int (v 6), .int (v 7), .int (v 8), .ref aT, .int (v 9), .int (v 10), .int (v 11), .int (v 12), .ref a1, .ref a2, .ref a3, .ref aB, .int (v 13), .int (v 14)])), (aL, .inl (E.2.1.1, 156, .inl sl))]) rfl rfl (rest := [.int 148, .ref aL]) rfl (Nat.le_of_ble_eq_true rfl) ⟨Nat.le_of_ble_eq_true rfl, Nat.le_of_ble_eq_true rfl⟩ (fun H locs hG => ?_)
            refine z_ist C dX8_does_207 hG 1 rfl 148 (by decide) (Nat.le_of_ble_eq_true rfl) (Nat.le_of_ble_eq_true rfl) (ws' := [(m, .inr (8, [.int (v 0), .int (v 1), .ref aS, .int (v 2), .int (v 3), .int (v 4), .ref aW, .int (v 5), .ref aL, .int (v 6), .int (v 7), .int (v 8), .ref aT, .int (v 9), .int (v 10), .int (v 11), .int (v 12), .ref a1, .ref a2, .ref a3, .ref aB, .int (v 13), .int (v 14)])), (aL, .inl (E.2.1.1, 156, .inl (upd sl 148 (o_X8_smaller_r 3 ((sl 148) + 1)))))]) rfl (fun H locs hG => ?_)
            exact k_3 (upd sl 148 (o_X8_smaller_r 3 ((sl 148) + 1))) _ _ _ (by rw [j_X8_does_143_1_3_0, if_pos c_11]) hG (lv_sub hl [0, 1, 2, 3, 4] rfl)
        · skip
          refine lv_aload_n hx hb dX8_does_119 rfl (lv_at hl 1 rfl) ?_
          refine gf_X8_16 C dX8_does_120 hG 0 rfl rfl ?_
          refine lv_iload_n hx hb dX8_does_123 rfl (lv_at hl 2 rfl) ?_
          refine lv_bipush (v := 6) hx hb dX8_does_124 (by decide) ?_
          refine lv_iadd hx hb dX8_does_126 ?_
          refine z_ti (y := 149) (by decide) ?_
          refine lv_iload_n hx hb dX8_does_127 rfl (lv_at hl 3 rfl) ?_
          refine lv_iadd hx hb dX8_does_128 ?_
          refine z_ti (y := 150) (by decide) ?_
          refine z_ild C dX8_does_129 hG 1 rfl 150 (by decide) (Nat.le_of_ble_eq_true rfl) (Nat.le_of_ble_eq_true rfl) ?_
          refine lv_iconst (v := 1) hx hb dX8_does_130 (by decide) ?_
          refine lv_icmp_lt (tgt := 177) hx hb dX8_does_131 (by decide) (fun c_12 => ?_) (fun c_12 => ?_)
          · skip
            refine lv_iload_n hx hb dX8_does_177 rfl (lv_at hl 4 rfl) ?_
            refine lv_iconst (v := 4) hx hb dX8_does_178 (by decide) ?_
            have k_4 : ∀ (y4_0 : Nat → Int32) (H : Heap) (locs : List Loc) (ls : Array Slot), (j_X8_does_143_1_4_0 v sl ac) = y4_0 → zG E zA zs.heap [(m, .inr (8, [.int (v 0), .int (v 1), .ref aS, .int (v 2), .int (v 3), .int (v 4), .ref aW, .int (v 5), .ref aL, .int (v 6), .int (v 7), .int (v 8), .ref aT, .int (v 9), .int (v 10), .int (v 11), .int (v 12), .ref a1, .ref a2, .ref a3, .ref aB, .int (v 13), .int (v 14)])), (aL, .inl (E.2.1.1, 156, .inl y4_0))] H locs → lv_has ls 5 [(4, .int (sl 146)), (0, .ref m), (1, .int 143), (2, .int 1), (3, .int ac)] → W zp l ze (zR 1 21) zs zm za zb zt zc H locs 0 0 zq (F0 zm 208 ls []) := by
              intro y4_0 H locs ls e_y4_0 hG hl
              subst e_y4_0
              refine lv_iconst (v := 0) hx hb dX8_does_208 (by decide) ?_
              rw [hQ]
              exact z_iret C hr hlk hG dX8_does_209 rfl (by rw [o_X8_does_143_1_r, if_neg c_1, if_pos c_2, if_pos c_9, if_pos c_10, if_pos c_12]) (by rw [o_X8_does_143_1_1, if_neg c_1, if_pos c_2, if_pos c_9, if_pos c_10, if_pos c_12])
            refine lv_icmp_ne (tgt := 208) hx hb dX8_does_179 (by decide) (fun c_13 => ?_) (fun c_13 => ?_)
            · skip
              exact k_4 sl _ _ _ (by rw [j_X8_does_143_1_4_0, if_neg c_13]) hG (lv_sub hl [0, 1, 2, 3, 4] rfl)
            · skip
              refine lv_aload_n hx hb dX8_does_182 rfl (lv_at hl 1 rfl) ?_
              refine gf_X8_16 C dX8_does_183 hG 0 rfl rfl ?_
              refine lv_iload_n hx hb dX8_does_186 rfl (lv_at hl 2 rfl) ?_
              refine lv_iconst (v := 4) hx hb dX8_does_187 (by decide) ?_
              refine lv_iadd hx hb dX8_does_188 ?_
              refine z_ti (y := 147) (by decide) ?_
              refine lv_iload_n hx hb dX8_does_189 rfl (lv_at hl 3 rfl) ?_
              refine lv_iadd hx hb dX8_does_190 ?_
              refine z_ti (y := 148) (by decide) ?_
              refine lv_iconst (v := 3) hx hb dX8_does_191 (by decide) ?_
              refine lv_aload_n hx hb dX8_does_192 rfl (lv_at hl 1 rfl) ?_
              refine gf_X8_16 C dX8_does_193 hG 0 rfl rfl ?_
              refine lv_iload_n hx hb dX8_does_196 rfl (lv_at hl 2 rfl) ?_
              refine lv_iconst (v := 4) hx hb dX8_does_197 (by decide) ?_
              refine lv_iadd hx hb dX8_does_198 ?_
              refine z_ti (y := 147) (by decide) ?_
              refine lv_iload_n hx hb dX8_does_199 rfl (lv_at hl 3 rfl) ?_
              refine lv_iadd hx hb dX8_does_200 ?_
              refine z_ti (y := 148) (by decide) ?_
              refine z_ild C dX8_does_201 hG 1 rfl 148 (by decide) (Nat.le_of_ble_eq_true rfl) (Nat.le_of_ble_eq_true rfl) ?_
              refine lv_iconst (v := 1) hx hb dX8_does_202 (by decide) ?_
              refine lv_iadd hx hb dX8_does_203 ?_
              refine call_X8_136 C dX8_does_204 (c_X8_smaller l E 3 ((sl 148) + 1)) hl hG [] (by decide) rfl (ads := []) rfl rfl (ws' := [(m, .inr (8, [.int (v 0), .int (v 1), .ref aS, .int (v 2), .int (v 3), .int (v 4), .ref aW, .int (v 5), .ref aL, .int (v 6), .int (v 7), .int (v 8), .ref aT, .int (v 9), .int (v 10), .int (v 11), .int (v 12), .ref a1, .ref a2, .ref a3, .ref aB, .int (v 13), .int (v 14)])), (aL, .inl (E.2.1.1, 156, .inl sl))]) rfl rfl (rest := [.int 148, .ref aL]) rfl (Nat.le_of_ble_eq_true rfl) ⟨Nat.le_of_ble_eq_true rfl, Nat.le_of_ble_eq_true rfl⟩ (fun H locs hG => ?_)
              refine z_ist C dX8_does_207 hG 1 rfl 148 (by decide) (Nat.le_of_ble_eq_true rfl) (Nat.le_of_ble_eq_true rfl) (ws' := [(m, .inr (8, [.int (v 0), .int (v 1), .ref aS, .int (v 2), .int (v 3), .int (v 4), .ref aW, .int (v 5), .ref aL, .int (v 6), .int (v 7), .int (v 8), .ref aT, .int (v 9), .int (v 10), .int (v 11), .int (v 12), .ref a1, .ref a2, .ref a3, .ref aB, .int (v 13), .int (v 14)])), (aL, .inl (E.2.1.1, 156, .inl (upd sl 148 (o_X8_smaller_r 3 ((sl 148) + 1)))))]) rfl (fun H locs hG => ?_)
              exact k_4 (upd sl 148 (o_X8_smaller_r 3 ((sl 148) + 1))) _ _ _ (by rw [j_X8_does_143_1_4_0, if_pos c_13]) hG (lv_sub hl [0, 1, 2, 3, 4] rfl)
          · skip
            refine lv_aload_n hx hb dX8_does_134 rfl (lv_at hl 1 rfl) ?_
            refine gf_X8_16 C dX8_does_135 hG 0 rfl rfl ?_
            refine lv_iload_n hx hb dX8_does_138 rfl (lv_at hl 2 rfl) ?_
            refine lv_bipush (v := 10) hx hb dX8_does_139 (by decide) ?_
            refine lv_iadd hx hb dX8_does_141 ?_
            refine z_ti (y := 153) (by decide) ?_
            refine z_ild C dX8_does_142 hG 1 rfl 153 (by decide) (Nat.le_of_ble_eq_true rfl) (Nat.le_of_ble_eq_true rfl) ?_
            refine lv_iconst (v := 1) hx hb dX8_does_143 (by decide) ?_
            refine lv_icmp_lt (tgt := 177) hx hb dX8_does_144 (by decide) (fun c_14 => ?_) (fun c_14 => ?_)
            · skip
              refine lv_iload_n hx hb dX8_does_177 rfl (lv_at hl 4 rfl) ?_
              refine lv_iconst (v := 4) hx hb dX8_does_178 (by decide) ?_
              have k_5 : ∀ (y5_0 : Nat → Int32) (H : Heap) (locs : List Loc) (ls : Array Slot), (j_X8_does_143_1_5_0 v sl ac) = y5_0 → zG E zA zs.heap [(m, .inr (8, [.int (v 0), .int (v 1), .ref aS, .int (v 2), .int (v 3), .int (v 4), .ref aW, .int (v 5), .ref aL, .int (v 6), .int (v 7), .int (v 8), .ref aT, .int (v 9), .int (v 10), .int (v 11), .int (v 12), .ref a1, .ref a2, .ref a3, .ref aB, .int (v 13), .int (v 14)])), (aL, .inl (E.2.1.1, 156, .inl y5_0))] H locs → lv_has ls 5 [(4, .int (sl 146)), (0, .ref m), (1, .int 143), (2, .int 1), (3, .int ac)] → W zp l ze (zR 1 21) zs zm za zb zt zc H locs 0 0 zq (F0 zm 208 ls []) := by
                intro y5_0 H locs ls e_y5_0 hG hl
                subst e_y5_0
                refine lv_iconst (v := 0) hx hb dX8_does_208 (by decide) ?_
                rw [hQ]
                exact z_iret C hr hlk hG dX8_does_209 rfl (by rw [o_X8_does_143_1_r, if_neg c_1, if_pos c_2, if_pos c_9, if_pos c_10, if_neg c_12, if_pos c_14]) (by rw [o_X8_does_143_1_1, if_neg c_1, if_pos c_2, if_pos c_9, if_pos c_10, if_neg c_12, if_pos c_14])
              refine lv_icmp_ne (tgt := 208) hx hb dX8_does_179 (by decide) (fun c_15 => ?_) (fun c_15 => ?_)
              · skip
                exact k_5 sl _ _ _ (by rw [j_X8_does_143_1_5_0, if_neg c_15]) hG (lv_sub hl [0, 1, 2, 3, 4] rfl)
              · skip
                refine lv_aload_n hx hb dX8_does_182 rfl (lv_at hl 1 rfl) ?_
                refine gf_X8_16 C dX8_does_183 hG 0 rfl rfl ?_
                refine lv_iload_n hx hb dX8_does_186 rfl (lv_at hl 2 rfl) ?_
                refine lv_iconst (v := 4) hx hb dX8_does_187 (by decide) ?_
                refine lv_iadd hx hb dX8_does_188 ?_
                refine z_ti (y := 147) (by decide) ?_
                refine lv_iload_n hx hb dX8_does_189 rfl (lv_at hl 3 rfl) ?_
                refine lv_iadd hx hb dX8_does_190 ?_
                refine z_ti (y := 148) (by decide) ?_
                refine lv_iconst (v := 3) hx hb dX8_does_191 (by decide) ?_
                refine lv_aload_n hx hb dX8_does_192 rfl (lv_at hl 1 rfl) ?_
                refine gf_X8_16 C dX8_does_193 hG 0 rfl rfl ?_
                refine lv_iload_n hx hb dX8_does_196 rfl (lv_at hl 2 rfl) ?_
                refine lv_iconst (v := 4) hx hb dX8_does_197 (by decide) ?_
                refine lv_iadd hx hb dX8_does_198 ?_
                refine z_ti (y := 147) (by decide) ?_
                refine lv_iload_n hx hb dX8_does_199 rfl (lv_at hl 3 rfl) ?_
                refine lv_iadd hx hb dX8_does_200 ?_
                refine z_ti (y := 148) (by decide) ?_
                refine z_ild C dX8_does_201 hG 1 rfl 148 (by decide) (Nat.le_of_ble_eq_true rfl) (Nat.le_of_ble_eq_true rfl) ?_
                refine lv_iconst (v := 1) hx hb dX8_does_202 (by decide) ?_
                refine lv_iadd hx hb dX8_does_203 ?_
                refine call_X8_136 C dX8_does_204 (c_X8_smaller l E 3 ((sl 148) + 1)) hl hG [] (by decide) rfl (ads := []) rfl rfl (ws' := [(m, .inr (8, [.int (v 0), .int (v 1), .ref aS, .int (v 2), .int (v 3), .int (v 4), .ref aW, .int (v 5), .ref aL, .int (v 6), .int (v 7), .int (v 8), .ref aT, .int (v 9), .int (v 10), .int (v 11), .int (v 12), .ref a1, .ref a2, .ref a3, .ref aB, .int (v 13), .int (v 14)])), (aL, .inl (E.2.1.1, 156, .inl sl))]) rfl rfl (rest := [.int 148, .ref aL]) rfl (Nat.le_of_ble_eq_true rfl) ⟨Nat.le_of_ble_eq_true rfl, Nat.le_of_ble_eq_true rfl⟩ (fun H locs hG => ?_)
                refine z_ist C dX8_does_207 hG 1 rfl 148 (by decide) (Nat.le_of_ble_eq_true rfl) (Nat.le_of_ble_eq_true rfl) (ws' := [(m, .inr (8, [.int (v 0), .int (v 1), .ref aS, .int (v 2), .int (v 3), .int (v 4), .ref aW, .int (v 5), .ref aL, .int (v 6), .int (v 7), .int (v 8), .ref aT, .int (v 9), .int (v 10), .int (v 11), .int (v 12), .ref a1, .ref a2, .ref a3, .ref aB, .int (v 13), .int (v 14)])), (aL, .inl (E.2.1.1, 156, .inl (upd sl 148 (o_X8_smaller_r 3 ((sl 148) + 1)))))]) rfl (fun H locs hG => ?_)
                exact k_5 (upd sl 148 (o_X8_smaller_r 3 ((sl 148) + 1))) _ _ _ (by rw [j_X8_does_143_1_5_0, if_pos c_15]) hG (lv_sub hl [0, 1, 2, 3, 4] rfl)
            · skip
              refine lv_aload_n hx hb dX8_does_147 rfl (lv_at hl 1 rfl) ?_
              refine gf_X8_16 C dX8_does_148 hG 0 rfl rfl ?_
              refine lv_iload_n hx hb dX8_does_151 rfl (lv_at hl 2 rfl) ?_
              refine lv_bipush (v := 6) hx hb dX8_does_152 (by decide) ?_
              refine lv_iadd hx hb dX8_does_154 ?_
              refine z_ti (y := 149) (by decide) ?_
              refine lv_iload_n hx hb dX8_does_155 rfl (lv_at hl 3 rfl) ?_
              refine lv_iadd hx hb dX8_does_156 ?_
              refine z_ti (y := 150) (by decide) ?_
              refine lv_dup2_11 hx hb dX8_does_157 rfl rfl ?_
              refine z_ild C dX8_does_158 hG 1 rfl 150 (by decide) (Nat.le_of_ble_eq_true rfl) (Nat.le_of_ble_eq_true rfl) ?_
              refine lv_iconst (v := 1) hx hb dX8_does_159 (by decide) ?_
              refine lv_isub hx hb dX8_does_160 ?_
              refine z_ist C dX8_does_161 hG 1 rfl 150 (by decide) (Nat.le_of_ble_eq_true rfl) (Nat.le_of_ble_eq_true rfl) (ws' := [(m, .inr (8, [.int (v 0), .int (v 1), .ref aS, .int (v 2), .int (v 3), .int (v 4), .ref aW, .int (v 5), .ref aL, .int (v 6), .int (v 7), .int (v 8), .ref aT, .int (v 9), .int (v 10), .int (v 11), .int (v 12), .ref a1, .ref a2, .ref a3, .ref aB, .int (v 13), .int (v 14)])), (aL, .inl (E.2.1.1, 156, .inl (upd sl 150 ((sl 150) - 1))))]) rfl (fun H locs hG => ?_)
              refine lv_aload_n hx hb dX8_does_162 rfl (lv_at hl 1 rfl) ?_
              refine gf_X8_16 C dX8_does_163 hG 0 rfl rfl ?_
              refine lv_iload_n hx hb dX8_does_166 rfl (lv_at hl 2 rfl) ?_
              refine lv_bipush (v := 10) hx hb dX8_does_167 (by decide) ?_
              refine lv_iadd hx hb dX8_does_169 ?_
              refine z_ti (y := 153) (by decide) ?_
              refine lv_dup2_11 hx hb dX8_does_170 rfl rfl ?_
              refine z_ild C dX8_does_171 hG 1 rfl 153 (by decide) (Nat.le_of_ble_eq_true rfl) (Nat.le_of_ble_eq_true rfl) ?_
              refine lv_iconst (v := 1) hx hb dX8_does_172 (by decide) ?_
              refine lv_isub hx hb dX8_does_173 ?_
              refine z_ist C dX8_does_174 hG 1 rfl 153 (by decide) (Nat.le_of_ble_eq_true rfl) (Nat.le_of_ble_eq_true rfl) (ws' := [(m, .inr (8, [.int (v 0), .int (v 1), .ref aS, .int (v 2), .int (v 3), .int (v 4), .ref aW, .int (v 5), .ref aL, .int (v 6), .int (v 7), .int (v 8), .ref aT, .int (v 9), .int (v 10), .int (v 11), .int (v 12), .ref a1, .ref a2, .ref a3, .ref aB, .int (v 13), .int (v 14)])), (aL, .inl (E.2.1.1, 156, .inl (upd (upd sl 150 ((sl 150) - 1)) 153 (((upd sl 150 ((sl 150) - 1)) 153) - 1))))]) rfl (fun H locs hG => ?_)
              refine lv_iconst (v := 1) hx hb dX8_does_175 (by decide) ?_
              rw [hQ]
              exact z_iret C hr hlk hG dX8_does_176 rfl (by rw [o_X8_does_143_1_r, if_neg c_1, if_pos c_2, if_pos c_9, if_pos c_10, if_neg c_12, if_neg c_14]) (by rw [o_X8_does_143_1_1, if_neg c_1, if_pos c_2, if_pos c_9, if_pos c_10, if_neg c_12, if_neg c_14])
      · skip
        refine lv_aload_n hx hb dX8_does_58 rfl (lv_at hl 1 rfl) ?_
        refine gf_X8_16 C dX8_does_59 hG 0 rfl rfl ?_
        refine lv_iload_n hx hb dX8_does_62 rfl (lv_at hl 2 rfl) ?_
        refine lv_bipush (v := 6) hx hb dX8_does_63 (by decide) ?_
        refine lv_iadd hx hb dX8_does_65 ?_
        refine z_ti (y := 149) (by decide) ?_
        refine lv_iload_n hx hb dX8_does_66 rfl (lv_at hl 3 rfl) ?_
        refine lv_iadd hx hb dX8_does_67 ?_
        refine z_ti (y := 150) (by decide) ?_
        refine lv_dup2_11 hx hb dX8_does_68 rfl rfl ?_
        refine z_ild C dX8_does_69 hG 1 rfl 150 (by decide) (Nat.le_of_ble_eq_true rfl) (Nat.le_of_ble_eq_true rfl) ?_
        refine lv_iconst (v := 3) hx hb dX8_does_70 (by decide) ?_
        refine lv_isub hx hb dX8_does_71 ?_
        refine z_ist C dX8_does_72 hG 1 rfl 150 (by decide) (Nat.le_of_ble_eq_true rfl) (Nat.le_of_ble_eq_true rfl) (ws' := [(m, .inr (8, [.int (v 0), .int (v 1), .ref aS, .int (v 2), .int (v 3), .int (v 4), .ref aW, .int (v 5), .ref aL, .int (v 6), .int (v 7), .int (v 8), .ref aT, .int (v 9), .int (v 10), .int (v 11), .int (v 12), .ref a1, .ref a2, .ref a3, .ref aB, .int (v 13), .int (v 14)])), (aL, .inl (E.2.1.1, 156, .inl (upd sl 150 ((sl 150) - 3))))]) rfl (fun H locs hG => ?_)
        refine lv_aload_n hx hb dX8_does_73 rfl (lv_at hl 1 rfl) ?_
        refine gf_X8_16 C dX8_does_74 hG 0 rfl rfl ?_
        refine lv_iload_n hx hb dX8_does_77 rfl (lv_at hl 2 rfl) ?_
        refine lv_iconst (v := 2) hx hb dX8_does_78 (by decide) ?_
        refine lv_iadd hx hb dX8_does_79 ?_
        refine z_ti (y := 145) (by decide) ?_
        refine lv_iload_n hx hb dX8_does_80 rfl (lv_at hl 3 rfl) ?_
        refine lv_iadd hx hb dX8_does_81 ?_
        refine z_ti (y := 146) (by decide) ?_
        refine lv_iload hx hb dX8_does_82 (lv_at hl 0 rfl) ?_
        refine lv_iconst (v := 3) hx hb dX8_does_84 (by decide) ?_
        have k_6 : ∀ (y6_0 : Int32) (H : Heap) (locs : List Loc) (ls : Array Slot), (j_X8_does_143_1_6_0 v sl ac) = y6_0 → zG E zA zs.heap [(m, .inr (8, [.int (v 0), .int (v 1), .ref aS, .int (v 2), .int (v 3), .int (v 4), .ref aW, .int (v 5), .ref aL, .int (v 6), .int (v 7), .int (v 8), .ref aT, .int (v 9), .int (v 10), .int (v 11), .int (v 12), .ref a1, .ref a2, .ref a3, .ref aB, .int (v 13), .int (v 14)])), (aL, .inl (E.2.1.1, 156, .inl (upd sl 150 ((sl 150) - 3))))] H locs → lv_has ls 5 [(4, .int (sl 146)), (0, .ref m), (1, .int 143), (2, .int 1), (3, .int ac)] → W zp l ze (zR 1 21) zs zm za zb zt zc H locs 0 0 zq (F0 zm 101 ls [.int y6_0, .int 146, .ref aL]) := by
          intro y6_0 H locs ls e_y6_0 hG hl
          subst e_y6_0
          refine z_ist C dX8_does_101 hG 1 rfl 146 (by decide) (Nat.le_of_ble_eq_true rfl) (Nat.le_of_ble_eq_true rfl) (ws' := [(m, .inr (8, [.int (v 0), .int (v 1), .ref aS, .int (v 2), .int (v 3), .int (v 4), .ref aW, .int (v 5), .ref aL, .int (v 6), .int (v 7), .int (v 8), .ref aT, .int (v 9), .int (v 10), .int (v 11), .int (v 12), .ref a1, .ref a2, .ref a3, .ref aB, .int (v 13), .int (v 14)])), (aL, .inl (E.2.1.1, 156, .inl (upd (upd sl 150 ((sl 150) - 3)) 146 (j_X8_does_143_1_6_0 v sl ac))))]) rfl (fun H locs hG => ?_)
          refine lv_iload hx hb dX8_does_102 (lv_at hl 0 rfl) ?_
          refine lv_iconst (v := 3) hx hb dX8_does_104 (by decide) ?_
          refine lv_icmp_ge (tgt := 112) hx hb dX8_does_105 (by decide) (fun c_17 => ?_) (fun c_17 => ?_)
          · skip
            refine lv_iconst (v := 2) hx hb dX8_does_112 (by decide) ?_
            rw [hQ]
            exact z_iret C hr hlk hG dX8_does_113 rfl (by rw [o_X8_does_143_1_r, if_neg c_1, if_pos c_2, if_neg c_9, if_pos c_17]) (by rw [o_X8_does_143_1_1, if_neg c_1, if_pos c_2, if_neg c_9])
          · skip
            refine lv_iconst (v := 0) hx hb dX8_does_108 (by decide) ?_
            refine lv_goto (tgt := 113) hx hb dX8_does_109 (by decide) ?_
            rw [hQ]
            exact z_iret C hr hlk hG dX8_does_113 rfl (by rw [o_X8_does_143_1_r, if_neg c_1, if_pos c_2, if_neg c_9, if_neg c_17]) (by rw [o_X8_does_143_1_1, if_neg c_1, if_pos c_2, if_neg c_9])
        refine lv_icmp_ge (tgt := 99) hx hb dX8_does_85 (by decide) (fun c_16 => ?_) (fun c_16 => ?_)
        · skip
          refine lv_iload hx hb dX8_does_99 (lv_at hl 0 rfl) ?_
          exact k_6 (sl 146) _ _ _ (by rw [j_X8_does_143_1_6_0, if_pos c_16]) hG (lv_sub hl [0, 1, 2, 3, 4] rfl)
        · skip
          refine lv_iconst (v := 0) hx hb dX8_does_88 (by decide) ?_
          refine lv_iload hx hb dX8_does_89 (lv_at hl 0 rfl) ?_
          refine lv_iconst (v := 1) hx hb dX8_does_91 (by decide) ?_
          refine lv_isub hx hb dX8_does_92 ?_
          refine call_X8_133 C dX8_does_93 (c_X8_larger l E 0 ((sl 146) - 1)) hl hG [] (by decide) rfl (ads := []) rfl rfl (ws' := [(m, .inr (8, [.int (v 0), .int (v 1), .ref aS, .int (v 2), .int (v 3), .int (v 4), .ref aW, .int (v 5), .ref aL, .int (v 6), .int (v 7), .int (v 8), .ref aT, .int (v 9), .int (v 10), .int (v 11), .int (v 12), .ref a1, .ref a2, .ref a3, .ref aB, .int (v 13), .int (v 14)])), (aL, .inl (E.2.1.1, 156, .inl (upd sl 150 ((sl 150) - 3))))]) rfl rfl (rest := [.int 146, .ref aL]) rfl (Nat.le_of_ble_eq_true rfl) ⟨Nat.le_of_ble_eq_true rfl, Nat.le_of_ble_eq_true rfl⟩ (fun H locs hG => ?_)
          refine lv_goto (tgt := 101) hx hb dX8_does_96 (by decide) ?_
          exact k_6 (o_X8_larger_r 0 ((sl 146) - 1)) _ _ _ (by rw [j_X8_does_143_1_6_0, if_neg c_16]) hG (lv_sub hl [0, 1, 2, 3, 4] rfl)
  · skip
    refine lv_aload_n hx hb dX8_does_17 rfl (lv_at hl 1 rfl) ?_
    refine gf_X8_16 C dX8_does_18 hG 0 rfl rfl ?_
    refine lv_iload_n hx hb dX8_does_21 rfl (lv_at hl 2 rfl) ?_
    refine lv_iconst (v := 2) hx hb dX8_does_22 (by decide) ?_
    refine lv_iadd hx hb dX8_does_23 ?_
    refine z_ti (y := 145) (by decide) ?_
    refine lv_iload_n hx hb dX8_does_24 rfl (lv_at hl 3 rfl) ?_
    refine lv_iadd hx hb dX8_does_25 ?_
    refine z_ti (y := 146) (by decide) ?_
    refine lv_iconst (v := 0) hx hb dX8_does_26 (by decide) ?_
    refine lv_iload hx hb dX8_does_27 (lv_at hl 0 rfl) ?_
    refine lv_iconst (v := 2) hx hb dX8_does_29 (by decide) ?_
    refine lv_isub hx hb dX8_does_30 ?_
    refine call_X8_133 C dX8_does_31 (c_X8_larger l E 0 ((sl 146) - 2)) hl hG [] (by decide) rfl (ads := []) rfl rfl (ws' := [(m, .inr (8, [.int (v 0), .int (v 1), .ref aS, .int (v 2), .int (v 3), .int (v 4), .ref aW, .int (v 5), .ref aL, .int (v 6), .int (v 7), .int (v 8), .ref aT, .int (v 9), .int (v 10), .int (v 11), .int (v 12), .ref a1, .ref a2, .ref a3, .ref aB, .int (v 13), .int (v 14)])), (aL, .inl (E.2.1.1, 156, .inl sl))]) rfl rfl (rest := [.int 146, .ref aL]) rfl (Nat.le_of_ble_eq_true rfl) ⟨Nat.le_of_ble_eq_true rfl, Nat.le_of_ble_eq_true rfl⟩ (fun H locs hG => ?_)
    refine z_ist C dX8_does_34 hG 1 rfl 146 (by decide) (Nat.le_of_ble_eq_true rfl) (Nat.le_of_ble_eq_true rfl) (ws' := [(m, .inr (8, [.int (v 0), .int (v 1), .ref aS, .int (v 2), .int (v 3), .int (v 4), .ref aW, .int (v 5), .ref aL, .int (v 6), .int (v 7), .int (v 8), .ref aT, .int (v 9), .int (v 10), .int (v 11), .int (v 12), .ref a1, .ref a2, .ref a3, .ref aB, .int (v 13), .int (v 14)])), (aL, .inl (E.2.1.1, 156, .inl (upd sl 146 (o_X8_larger_r 0 ((sl 146) - 2)))))]) rfl (fun H locs hG => ?_)
    refine lv_goto (tgt := 208) hx hb dX8_does_35 (by decide) ?_
    refine lv_iconst (v := 0) hx hb dX8_does_208 (by decide) ?_
    rw [hQ]
    exact z_iret C hr hlk hG dX8_does_209 rfl (by rw [o_X8_does_143_1_r, if_pos c_1]) (by rw [o_X8_does_143_1_1, if_pos c_1])
def j_X8_rises_143_1_0_0 (v : Nat → Int32) (sl : Nat → Int32) (more : Int32) (dr : Int32) : Int32 := (if (o_X8_bound_r (sl 144)) < (sl 146) then 1 else (if dr = 0 then 0 else (if more = 1 then 0 else 1)))
def j_X8_rises_143_1_1_0 (v : Nat → Int32) (sl : Nat → Int32) (more : Int32) (dr : Int32) : Int32 := (if (j_X8_rises_143_1_0_0 v sl more dr) = 0 then (o_X8_larger_r 0 (o_X8_smaller_r (o_X8_bound_r (sl 144)) (((sl 146) + (o_X8_grows_r (sl 144) ((sl 154) - (sl 154) / 12 * 12))) + more))) else (sl 146))
def o_X8_rises_143_1_1 (v : Nat → Int32) (sl : Nat → Int32) (more : Int32) (dr : Int32) : Nat → Int32 := (upd sl 146 (j_X8_rises_143_1_1_0 v sl more dr))
set_option maxRecDepth 100000 in
set_option maxHeartbeats 4000000 in
theorem c_X8_rises_143_1 (l : Launch) (E : zE) (v : Nat → Int32) (sl : Nat → Int32) (more : Int32) (dr : Int32) (m aS aW aL aT a1 a2 a3 aB : Nat) : HM l E yX8_rises cX8_rises 9 none 1 22 [.ref m, .int 143, .int 1, .int more, .int dr] [(m, .inr (8, [.int (v 0), .int (v 1), .ref aS, .int (v 2), .int (v 3), .int (v 4), .ref aW, .int (v 5), .ref aL, .int (v 6), .int (v 7), .int (v 8), .ref aT, .int (v 9), .int (v 10), .int (v 11), .int (v 12), .ref a1, .ref a2, .ref a3, .ref aB, .int (v 13), .int (v 14)])), (aL, .inl (E.2.1.1, 156, .inl sl))] none [(m, .inr (8, [.int (v 0), .int (v 1), .ref aS, .int (v 2), .int (v 3), .int (v 4), .ref aW, .int (v 5), .ref aL, .int (v 6), .int (v 7), .int (v 8), .ref aT, .int (v 9), .int (v 10), .int (v 11), .int (v 12), .ref a1, .ref a2, .ref a3, .ref aB, .int (v 13), .int (v 14)])), (aL, .inl (E.2.1.1, 156, .inl (o_X8_rises_143_1_1 v sl more dr)))] := by
  refine HM.of (own := RX8) (plainFor_of_name (by decide)) rfl (Nat.le_of_ble_eq_true rfl) ?_
  intro zp ze zs zm za zb zt zc zA ls H locs zq C hr hlk hG hl hQ
  have hx := C.1.1
  have hb := C.1.2.1
  replace hl : lv_has ls 9 [(0, .ref m), (1, .int 143), (2, .int 1), (3, .int more), (4, .int dr)] := hl
  refine lv_aload_n hx hb dX8_rises_0 rfl (lv_at hl 0 rfl) ?_
  refine gf_X8_16 C dX8_rises_1 hG 0 rfl rfl ?_
  refine lv_iload_n hx hb dX8_rises_4 rfl (lv_at hl 1 rfl) ?_
  refine lv_iload_n hx hb dX8_rises_5 rfl (lv_at hl 2 rfl) ?_
  refine lv_iadd hx hb dX8_rises_6 ?_
  refine z_ti (y := 144) (by decide) ?_
  refine z_ild C dX8_rises_7 hG 1 rfl 144 (by decide) (Nat.le_of_ble_eq_true rfl) (Nat.le_of_ble_eq_true rfl) ?_
  refine lv_istore (lv' := [(5, .int (sl 144)), (0, .ref m), (1, .int 143), (2, .int 1), (3, .int more), (4, .int dr)]) hx hb dX8_rises_8 hl (by decide) rfl (fun ls hl => ?_)
  refine lv_aload_n hx hb dX8_rises_10 rfl (lv_at hl 1 rfl) ?_
  refine gf_X8_16 C dX8_rises_11 hG 0 rfl rfl ?_
  refine lv_iload_n hx hb dX8_rises_14 rfl (lv_at hl 2 rfl) ?_
  refine lv_iconst (v := 2) hx hb dX8_rises_15 (by decide) ?_
  refine lv_iadd hx hb dX8_rises_16 ?_
  refine z_ti (y := 145) (by decide) ?_
  refine lv_iload_n hx hb dX8_rises_17 rfl (lv_at hl 3 rfl) ?_
  refine lv_iadd hx hb dX8_rises_18 ?_
  refine z_ti (y := 146) (by decide) ?_
  refine z_ild C dX8_rises_19 hG 1 rfl 146 (by decide) (Nat.le_of_ble_eq_true rfl) (Nat.le_of_ble_eq_true rfl) ?_
  refine lv_istore (lv' := [(6, .int (sl 146)), (5, .int (sl 144)), (0, .ref m), (1, .int 143), (2, .int 1), (3, .int more), (4, .int dr)]) hx hb dX8_rises_20 hl (by decide) rfl (fun ls hl => ?_)
  refine lv_iload hx hb dX8_rises_22 (lv_at hl 0 rfl) ?_
  refine lv_iload hx hb dX8_rises_24 (lv_at hl 1 rfl) ?_
  refine call_X8_139 C dX8_rises_26 (c_X8_bound l E (sl 144)) hl hG [] (by decide) rfl (ads := []) rfl rfl (ws' := [(m, .inr (8, [.int (v 0), .int (v 1), .ref aS, .int (v 2), .int (v 3), .int (v 4), .ref aW, .int (v 5), .ref aL, .int (v 6), .int (v 7), .int (v 8), .ref aT, .int (v 9), .int (v 10), .int (v 11), .int (v 12), .ref a1, .ref a2, .ref a3, .ref aB, .int (v 13), .int (v 14)])), (aL, .inl (E.2.1.1, 156, .inl sl))]) rfl rfl (rest := [.int (sl 146)]) rfl (Nat.le_of_ble_eq_true rfl) ⟨Nat.le_of_ble_eq_true rfl, Nat.le_of_ble_eq_true rfl⟩ (fun H locs hG => ?_)
  have k_0 : ∀ (y0_0 : Int32) (H : Heap) (locs : List Loc) (ls : Array Slot), (j_X8_rises_143_1_0_0 v sl more dr) = y0_0 → zG E zA zs.heap [(m, .inr (8, [.int (v 0), .int (v 1), .ref aS, .int (v 2), .int (v 3), .int (v 4), .ref aW, .int (v 5), .ref aL, .int (v 6), .int (v 7), .int (v 8), .ref aT, .int (v 9), .int (v 10), .int (v 11), .int (v 12), .ref a1, .ref a2, .ref a3, .ref aB, .int (v 13), .int (v 14)])), (aL, .inl (E.2.1.1, 156, .inl sl))] H locs → lv_has ls 9 [(6, .int (sl 146)), (5, .int (sl 144)), (0, .ref m), (1, .int 143), (2, .int 1), (3, .int more), (4, .int dr)] → W zp l ze (zR 1 22) zs zm za zb zt zc H locs 0 0 zq (F0 zm 47 ls [.int y0_0]) := by
    intro y0_0 H locs ls e_y0_0 hG hl
    subst e_y0_0
    refine lv_istore (lv' := [(7, .int (j_X8_rises_143_1_0_0 v sl more dr)), (6, .int (sl 146)), (5, .int (sl 144)), (0, .ref m), (1, .int 143), (2, .int 1), (3, .int more), (4, .int dr)]) hx hb dX8_rises_47 hl (by decide) rfl (fun ls hl => ?_)
    refine lv_iload hx hb dX8_rises_49 (lv_at hl 1 rfl) ?_
    refine lv_iload hx hb dX8_rises_51 (lv_at hl 2 rfl) ?_
    refine lv_aload_n hx hb dX8_rises_53 rfl (lv_at hl 3 rfl) ?_
    refine gf_X8_16 C dX8_rises_54 hG 0 rfl rfl ?_
    refine lv_iload_n hx hb dX8_rises_57 rfl (lv_at hl 4 rfl) ?_
    refine lv_bipush (v := 11) hx hb dX8_rises_58 (by decide) ?_
    refine lv_iadd hx hb dX8_rises_60 ?_
    refine z_ti (y := 154) (by decide) ?_
    refine z_ild C dX8_rises_61 hG 1 rfl 154 (by decide) (Nat.le_of_ble_eq_true rfl) (Nat.le_of_ble_eq_true rfl) ?_
    refine lv_bipush (v := 12) hx hb dX8_rises_62 (by decide) ?_
    refine lv_irem hx hb dX8_rises_64 (by decide) ?_
    refine call_X8_142 C dX8_rises_65 (c_X8_grows l E (sl 144) ((sl 154) - (sl 154) / 12 * 12)) hl hG [] (by decide) rfl (ads := []) rfl rfl (ws' := [(m, .inr (8, [.int (v 0), .int (v 1), .ref aS, .int (v 2), .int (v 3), .int (v 4), .ref aW, .int (v 5), .ref aL, .int (v 6), .int (v 7), .int (v 8), .ref aT, .int (v 9), .int (v 10), .int (v 11), .int (v 12), .ref a1, .ref a2, .ref a3, .ref aB, .int (v 13), .int (v 14)])), (aL, .inl (E.2.1.1, 156, .inl sl))]) rfl rfl (rest := [.int (sl 146)]) rfl (Nat.le_of_ble_eq_true rfl) ⟨Nat.le_of_ble_eq_true rfl, Nat.le_of_ble_eq_true rfl⟩ (fun H locs hG => ?_)
    refine lv_iadd hx hb dX8_rises_68 ?_
    refine lv_iload_n hx hb dX8_rises_69 rfl (lv_at hl 6 rfl) ?_
    refine lv_iadd hx hb dX8_rises_70 ?_
    refine lv_istore (lv' := [(8, .int (((sl 146) + (o_X8_grows_r (sl 144) ((sl 154) - (sl 154) / 12 * 12))) + more)), (7, .int (j_X8_rises_143_1_0_0 v sl more dr)), (6, .int (sl 146)), (5, .int (sl 144)), (0, .ref m), (1, .int 143), (2, .int 1), (3, .int more), (4, .int dr)]) hx hb dX8_rises_71 hl (by decide) rfl (fun ls hl => ?_)
    refine lv_aload_n hx hb dX8_rises_73 rfl (lv_at hl 4 rfl) ?_
    refine gf_X8_16 C dX8_rises_74 hG 0 rfl rfl ?_
    refine lv_iload_n hx hb dX8_rises_77 rfl (lv_at hl 5 rfl) ?_
    refine lv_iconst (v := 2) hx hb dX8_rises_78 (by decide) ?_
    refine lv_iadd hx hb dX8_rises_79 ?_
    refine z_ti (y := 145) (by decide) ?_
    refine lv_iload_n hx hb dX8_rises_80 rfl (lv_at hl 6 rfl) ?_
    refine lv_iadd hx hb dX8_rises_81 ?_
    refine z_ti (y := 146) (by decide) ?_
    refine lv_iload hx hb dX8_rises_82 (lv_at hl 1 rfl) ?_
    have k_1 : ∀ (y1_0 : Int32) (H : Heap) (locs : List Loc) (ls : Array Slot), (j_X8_rises_143_1_1_0 v sl more dr) = y1_0 → zG E zA zs.heap [(m, .inr (8, [.int (v 0), .int (v 1), .ref aS, .int (v 2), .int (v 3), .int (v 4), .ref aW, .int (v 5), .ref aL, .int (v 6), .int (v 7), .int (v 8), .ref aT, .int (v 9), .int (v 10), .int (v 11), .int (v 12), .ref a1, .ref a2, .ref a3, .ref aB, .int (v 13), .int (v 14)])), (aL, .inl (E.2.1.1, 156, .inl sl))] H locs → lv_has ls 9 [(8, .int (((sl 146) + (o_X8_grows_r (sl 144) ((sl 154) - (sl 154) / 12 * 12))) + more)), (7, .int (j_X8_rises_143_1_0_0 v sl more dr)), (6, .int (sl 146)), (5, .int (sl 144)), (0, .ref m), (1, .int 143), (2, .int 1), (3, .int more), (4, .int dr)] → W zp l ze (zR 1 22) zs zm za zb zt zc H locs 0 0 zq (F0 zm 106 ls [.int y1_0, .int 146, .ref aL]) := by
      intro y1_0 H locs ls e_y1_0 hG hl
      subst e_y1_0
      refine z_ist C dX8_rises_106 hG 1 rfl 146 (by decide) (Nat.le_of_ble_eq_true rfl) (Nat.le_of_ble_eq_true rfl) (ws' := [(m, .inr (8, [.int (v 0), .int (v 1), .ref aS, .int (v 2), .int (v 3), .int (v 4), .ref aW, .int (v 5), .ref aL, .int (v 6), .int (v 7), .int (v 8), .ref aT, .int (v 9), .int (v 10), .int (v 11), .int (v 12), .ref a1, .ref a2, .ref a3, .ref aB, .int (v 13), .int (v 14)])), (aL, .inl (E.2.1.1, 156, .inl (upd sl 146 (j_X8_rises_143_1_1_0 v sl more dr))))]) rfl (fun H locs hG => ?_)
      rw [hQ]
      exact z_vret C hr hlk hG dX8_rises_107 rfl (by rw [o_X8_rises_143_1_1])
    refine lv_if_eq (tgt := 92) hx hb dX8_rises_84 (by decide) (fun c_4 => ?_) (fun c_4 => ?_)
    · skip
      refine lv_iconst (v := 0) hx hb dX8_rises_92 (by decide) ?_
      refine lv_iload hx hb dX8_rises_93 (lv_at hl 3 rfl) ?_
      refine call_X8_139 C dX8_rises_95 (c_X8_bound l E (sl 144)) hl hG [] (by decide) rfl (ads := []) rfl rfl (ws' := [(m, .inr (8, [.int (v 0), .int (v 1), .ref aS, .int (v 2), .int (v 3), .int (v 4), .ref aW, .int (v 5), .ref aL, .int (v 6), .int (v 7), .int (v 8), .ref aT, .int (v 9), .int (v 10), .int (v 11), .int (v 12), .ref a1, .ref a2, .ref a3, .ref aB, .int (v 13), .int (v 14)])), (aL, .inl (E.2.1.1, 156, .inl sl))]) rfl rfl (rest := [.int 0, .int 146, .ref aL]) rfl (Nat.le_of_ble_eq_true rfl) ⟨Nat.le_of_ble_eq_true rfl, Nat.le_of_ble_eq_true rfl⟩ (fun H locs hG => ?_)
      refine lv_iload hx hb dX8_rises_98 (lv_at hl 0 rfl) ?_
      refine call_X8_136 C dX8_rises_100 (c_X8_smaller l E (o_X8_bound_r (sl 144)) (((sl 146) + (o_X8_grows_r (sl 144) ((sl 154) - (sl 154) / 12 * 12))) + more)) hl hG [] (by decide) rfl (ads := []) rfl rfl (ws' := [(m, .inr (8, [.int (v 0), .int (v 1), .ref aS, .int (v 2), .int (v 3), .int (v 4), .ref aW, .int (v 5), .ref aL, .int (v 6), .int (v 7), .int (v 8), .ref aT, .int (v 9), .int (v 10), .int (v 11), .int (v 12), .ref a1, .ref a2, .ref a3, .ref aB, .int (v 13), .int (v 14)])), (aL, .inl (E.2.1.1, 156, .inl sl))]) rfl rfl (rest := [.int 0, .int 146, .ref aL]) rfl (Nat.le_of_ble_eq_true rfl) ⟨Nat.le_of_ble_eq_true rfl, Nat.le_of_ble_eq_true rfl⟩ (fun H locs hG => ?_)
      refine call_X8_133 C dX8_rises_103 (c_X8_larger l E 0 (o_X8_smaller_r (o_X8_bound_r (sl 144)) (((sl 146) + (o_X8_grows_r (sl 144) ((sl 154) - (sl 154) / 12 * 12))) + more))) hl hG [] (by decide) rfl (ads := []) rfl rfl (ws' := [(m, .inr (8, [.int (v 0), .int (v 1), .ref aS, .int (v 2), .int (v 3), .int (v 4), .ref aW, .int (v 5), .ref aL, .int (v 6), .int (v 7), .int (v 8), .ref aT, .int (v 9), .int (v 10), .int (v 11), .int (v 12), .ref a1, .ref a2, .ref a3, .ref aB, .int (v 13), .int (v 14)])), (aL, .inl (E.2.1.1, 156, .inl sl))]) rfl rfl (rest := [.int 146, .ref aL]) rfl (Nat.le_of_ble_eq_true rfl) ⟨Nat.le_of_ble_eq_true rfl, Nat.le_of_ble_eq_true rfl⟩ (fun H locs hG => ?_)
      exact k_1 (o_X8_larger_r 0 (o_X8_smaller_r (o_X8_bound_r (sl 144)) (((sl 146) + (o_X8_grows_r (sl 144) ((sl 154) - (sl 154) / 12 * 12))) + more))) _ _ _ (by rw [j_X8_rises_143_1_1_0, if_pos c_4]) hG (lv_sub hl [0, 1, 2, 3, 4, 5, 6, 7, 8] rfl)
    · skip
      refine lv_iload hx hb dX8_rises_87 (lv_at hl 2 rfl) ?_
      refine lv_goto (tgt := 106) hx hb dX8_rises_89 (by decide) ?_
      exact k_1 (sl 146) _ _ _ (by rw [j_X8_rises_143_1_1_0, if_neg c_4]) hG (lv_sub hl [0, 1, 2, 3, 4, 5, 6, 7, 8] rfl)
  refine lv_icmp_gt (tgt := 42) hx hb dX8_rises_29 (by decide) (fun c_1 => ?_) (fun c_1 => ?_)
  · skip
    refine lv_iconst (v := 1) hx hb dX8_rises_42 (by decide) ?_
    refine lv_goto (tgt := 47) hx hb dX8_rises_43 (by decide) ?_
    exact k_0 1 _ _ _ (by rw [j_X8_rises_143_1_0_0, if_pos c_1]) hG (lv_sub hl [0, 1, 2, 3, 4, 5, 6] rfl)
  · skip
    refine lv_iload hx hb dX8_rises_32 (lv_at hl 6 rfl) ?_
    refine lv_if_eq (tgt := 46) hx hb dX8_rises_34 (by decide) (fun c_5 => ?_) (fun c_5 => ?_)
    · skip
      refine lv_iconst (v := 0) hx hb dX8_rises_46 (by decide) ?_
      exact k_0 0 _ _ _ (by rw [j_X8_rises_143_1_0_0, if_neg c_1, if_pos c_5]) hG (lv_sub hl [0, 1, 2, 3, 4, 5, 6] rfl)
    · skip
      refine lv_iload_n hx hb dX8_rises_37 rfl (lv_at hl 5 rfl) ?_
      refine lv_iconst (v := 1) hx hb dX8_rises_38 (by decide) ?_
      refine lv_icmp_eq (tgt := 46) hx hb dX8_rises_39 (by decide) (fun c_6 => ?_) (fun c_6 => ?_)
      · skip
        refine lv_iconst (v := 0) hx hb dX8_rises_46 (by decide) ?_
        exact k_0 0 _ _ _ (by rw [j_X8_rises_143_1_0_0, if_neg c_1, if_neg c_5, if_pos c_6]) hG (lv_sub hl [0, 1, 2, 3, 4, 5, 6] rfl)
      · skip
        refine lv_iconst (v := 1) hx hb dX8_rises_42 (by decide) ?_
        refine lv_goto (tgt := 47) hx hb dX8_rises_43 (by decide) ?_
        exact k_0 1 _ _ _ (by rw [j_X8_rises_143_1_0_0, if_neg c_1, if_neg c_5, if_neg c_6]) hG (lv_sub hl [0, 1, 2, 3, 4, 5, 6] rfl)
def o_X8_isShaded_143_0_r (v : Nat → Int32) (ms : Nat → Int32) (sl : Nat → Int32) : Int32 := (if (o_X8_shadow_143_1_r v ms sl) < ((v 0) - (sl 148)) then 0 else (if (sl 146) ≤ (sl 145) then 0 else 1))
set_option maxRecDepth 100000 in
set_option maxHeartbeats 4000000 in
theorem c_X8_isShaded_143_0 (l : Launch) (E : zE) (v : Nat → Int32) (ms : Nat → Int32) (sl : Nat → Int32) (m aS aW aL aT a1 a2 a3 aB : Nat) (hM : 0 ≤ (sl 154).toInt) : HM l E yX8_isShaded cX8_isShaded 4 (some .boolean) 2 43 [.ref m, .int 143, .int 0] [(m, .inr (8, [.int (v 0), .int (v 1), .ref aS, .int (v 2), .int (v 3), .int (v 4), .ref aW, .int (v 5), .ref aL, .int (v 6), .int (v 7), .int (v 8), .ref aT, .int (v 9), .int (v 10), .int (v 11), .int (v 12), .ref a1, .ref a2, .ref a3, .ref aB, .int (v 13), .int (v 14)])), (aS, .inl (E.2.1.1, 12, .inl ms)), (aL, .inl (E.2.1.1, 156, .inl sl))] (some (.int (o_X8_isShaded_143_0_r v ms sl))) [(m, .inr (8, [.int (v 0), .int (v 1), .ref aS, .int (v 2), .int (v 3), .int (v 4), .ref aW, .int (v 5), .ref aL, .int (v 6), .int (v 7), .int (v 8), .ref aT, .int (v 9), .int (v 10), .int (v 11), .int (v 12), .ref a1, .ref a2, .ref a3, .ref aB, .int (v 13), .int (v 14)])), (aS, .inl (E.2.1.1, 12, .inl ms)), (aL, .inl (E.2.1.1, 156, .inl sl))] := by
  refine HM.of (own := RX8) (plainFor_of_name (by decide)) rfl (Nat.le_of_ble_eq_true rfl) ?_
  intro zp ze zs zm za zb zt zc zA ls H locs zq C hr hlk hG hl hQ
  have hx := C.1.1
  have hb := C.1.2.1
  replace hl : lv_has ls 4 [(0, .ref m), (1, .int 143), (2, .int 0)] := hl
  refine lv_iconst (v := 1) hx hb dX8_isShaded_0 (by decide) ?_
  refine lv_iload_n hx hb dX8_isShaded_1 rfl (lv_at hl 2 rfl) ?_
  refine lv_isub hx hb dX8_isShaded_2 ?_
  refine z_ti (y := 1) (by decide) ?_
  refine lv_istore_n (lv' := [(3, .int 1), (0, .ref m), (1, .int 143), (2, .int 0)]) hx hb dX8_isShaded_3 rfl hl (by decide) rfl (fun ls hl => ?_)
  refine lv_aload_n hx hb dX8_isShaded_4 rfl (lv_at hl 1 rfl) ?_
  refine lv_iload_n hx hb dX8_isShaded_5 rfl (lv_at hl 2 rfl) ?_
  refine lv_iload_n hx hb dX8_isShaded_6 rfl (lv_at hl 0 rfl) ?_
  refine call_X8_118 C dX8_isShaded_7 (c_X8_shadow_143_1 l E v ms sl m aS aW aL aT a1 a2 a3 aB (by first | exact hM | (simpa [upd, gn_does_0_0, gn_rises_0_0, gn_does_0_1, gn_rises_0_1] using hM))) hl hG 0 rfl [0, 1, 2] (by decide) rfl (ads := [m, aS, aL]) rfl rfl (ws' := [(m, .inr (8, [.int (v 0), .int (v 1), .ref aS, .int (v 2), .int (v 3), .int (v 4), .ref aW, .int (v 5), .ref aL, .int (v 6), .int (v 7), .int (v 8), .ref aT, .int (v 9), .int (v 10), .int (v 11), .int (v 12), .ref a1, .ref a2, .ref a3, .ref aB, .int (v 13), .int (v 14)])), (aS, .inl (E.2.1.1, 12, .inl ms)), (aL, .inl (E.2.1.1, 156, .inl sl))]) rfl rfl (rest := []) rfl (Nat.le_of_ble_eq_true rfl) ⟨Nat.le_of_ble_eq_true rfl, Nat.le_of_ble_eq_true rfl⟩ (fun H locs hG => ?_)
  refine lv_aload_n hx hb dX8_isShaded_10 rfl (lv_at hl 1 rfl) ?_
  refine gf_X8_35 C dX8_isShaded_11 hG 0 rfl rfl ?_
  refine lv_aload_n hx hb dX8_isShaded_14 rfl (lv_at hl 1 rfl) ?_
  refine gf_X8_16 C dX8_isShaded_15 hG 0 rfl rfl ?_
  refine lv_iload_n hx hb dX8_isShaded_18 rfl (lv_at hl 2 rfl) ?_
  refine lv_iconst (v := 4) hx hb dX8_isShaded_19 (by decide) ?_
  refine lv_iadd hx hb dX8_isShaded_20 ?_
  refine z_ti (y := 147) (by decide) ?_
  refine lv_iload_n hx hb dX8_isShaded_21 rfl (lv_at hl 0 rfl) ?_
  refine lv_iadd hx hb dX8_isShaded_22 ?_
  refine z_ti (y := 148) (by decide) ?_
  refine z_ild C dX8_isShaded_23 hG 2 rfl 148 (by decide) (Nat.le_of_ble_eq_true rfl) (Nat.le_of_ble_eq_true rfl) ?_
  refine lv_isub hx hb dX8_isShaded_24 ?_
  refine lv_icmp_lt (tgt := 55) hx hb dX8_isShaded_25 (by decide) (fun c_1 => ?_) (fun c_1 => ?_)
  · skip
    refine lv_iconst (v := 0) hx hb dX8_isShaded_55 (by decide) ?_
    rw [hQ]
    exact z_iret C hr hlk hG dX8_isShaded_56 rfl (by rw [o_X8_isShaded_143_0_r, if_pos c_1]) rfl
  · skip
    refine lv_aload_n hx hb dX8_isShaded_28 rfl (lv_at hl 1 rfl) ?_
    refine gf_X8_16 C dX8_isShaded_29 hG 0 rfl rfl ?_
    refine lv_iload_n hx hb dX8_isShaded_32 rfl (lv_at hl 2 rfl) ?_
    refine lv_iconst (v := 2) hx hb dX8_isShaded_33 (by decide) ?_
    refine lv_iadd hx hb dX8_isShaded_34 ?_
    refine z_ti (y := 145) (by decide) ?_
    refine lv_iload_n hx hb dX8_isShaded_35 rfl (lv_at hl 3 rfl) ?_
    refine lv_iadd hx hb dX8_isShaded_36 ?_
    refine z_ti (y := 145) (by decide) ?_
    refine z_ild C dX8_isShaded_37 hG 2 rfl 145 (by decide) (Nat.le_of_ble_eq_true rfl) (Nat.le_of_ble_eq_true rfl) ?_
    refine lv_aload_n hx hb dX8_isShaded_38 rfl (lv_at hl 1 rfl) ?_
    refine gf_X8_16 C dX8_isShaded_39 hG 0 rfl rfl ?_
    refine lv_iload_n hx hb dX8_isShaded_42 rfl (lv_at hl 2 rfl) ?_
    refine lv_iconst (v := 2) hx hb dX8_isShaded_43 (by decide) ?_
    refine lv_iadd hx hb dX8_isShaded_44 ?_
    refine z_ti (y := 145) (by decide) ?_
    refine lv_iload_n hx hb dX8_isShaded_45 rfl (lv_at hl 0 rfl) ?_
    refine lv_iadd hx hb dX8_isShaded_46 ?_
    refine z_ti (y := 146) (by decide) ?_
    refine z_ild C dX8_isShaded_47 hG 2 rfl 146 (by decide) (Nat.le_of_ble_eq_true rfl) (Nat.le_of_ble_eq_true rfl) ?_
    refine lv_icmp_ge (tgt := 55) hx hb dX8_isShaded_48 (by decide) (fun c_2 => ?_) (fun c_2 => ?_)
    · skip
      refine lv_iconst (v := 0) hx hb dX8_isShaded_55 (by decide) ?_
      rw [hQ]
      exact z_iret C hr hlk hG dX8_isShaded_56 rfl (by rw [o_X8_isShaded_143_0_r, if_neg c_1, if_pos c_2]) rfl
    · skip
      refine lv_iconst (v := 1) hx hb dX8_isShaded_51 (by decide) ?_
      refine lv_goto (tgt := 56) hx hb dX8_isShaded_52 (by decide) ?_
      rw [hQ]
      exact z_iret C hr hlk hG dX8_isShaded_56 rfl (by rw [o_X8_isShaded_143_0_r, if_neg c_1, if_neg c_2]) rfl
theorem o_X8_isShaded_143_0_b (v : Nat → Int32) (ms : Nat → Int32) (sl : Nat → Int32) : o_X8_isShaded_143_0_r v ms sl = 0 ∨ o_X8_isShaded_143_0_r v ms sl = 1 := by
  unfold o_X8_isShaded_143_0_r; (repeat' split) <;> first | exact Or.inl rfl | exact Or.inr rfl
theorem gn_does_143_0 (v sl : Nat → Int32) (ac : Int32) : o_X8_does_143_0_1 v sl ac 154 = sl 154 := by
  simp only [j_X8_does_143_0_0_0, j_X8_does_143_0_1_0, j_X8_does_143_0_2_0, j_X8_does_143_0_3_0, j_X8_does_143_0_4_0, j_X8_does_143_0_5_0, j_X8_does_143_0_6_0, o_X8_does_143_0_r, o_X8_does_143_0_1]; (repeat' split) <;> simp [upd]
theorem gn_rises_143_0 (v sl : Nat → Int32) (more dr : Int32) : o_X8_rises_143_0_1 v sl more dr 154 = sl 154 := by
  simp [j_X8_rises_143_0_0_0, j_X8_rises_143_0_1_0, o_X8_rises_143_0_1, upd]
def o_X8_isShaded_143_1_r (v : Nat → Int32) (ms : Nat → Int32) (sl : Nat → Int32) : Int32 := (if (o_X8_shadow_143_0_r v ms sl) < ((v 0) - (sl 147)) then 0 else (if (sl 145) ≤ (sl 146) then 0 else 1))
set_option maxRecDepth 100000 in
set_option maxHeartbeats 4000000 in
theorem c_X8_isShaded_143_1 (l : Launch) (E : zE) (v : Nat → Int32) (ms : Nat → Int32) (sl : Nat → Int32) (m aS aW aL aT a1 a2 a3 aB : Nat) (hM : 0 ≤ (sl 154).toInt) : HM l E yX8_isShaded cX8_isShaded 4 (some .boolean) 2 43 [.ref m, .int 143, .int 1] [(m, .inr (8, [.int (v 0), .int (v 1), .ref aS, .int (v 2), .int (v 3), .int (v 4), .ref aW, .int (v 5), .ref aL, .int (v 6), .int (v 7), .int (v 8), .ref aT, .int (v 9), .int (v 10), .int (v 11), .int (v 12), .ref a1, .ref a2, .ref a3, .ref aB, .int (v 13), .int (v 14)])), (aS, .inl (E.2.1.1, 12, .inl ms)), (aL, .inl (E.2.1.1, 156, .inl sl))] (some (.int (o_X8_isShaded_143_1_r v ms sl))) [(m, .inr (8, [.int (v 0), .int (v 1), .ref aS, .int (v 2), .int (v 3), .int (v 4), .ref aW, .int (v 5), .ref aL, .int (v 6), .int (v 7), .int (v 8), .ref aT, .int (v 9), .int (v 10), .int (v 11), .int (v 12), .ref a1, .ref a2, .ref a3, .ref aB, .int (v 13), .int (v 14)])), (aS, .inl (E.2.1.1, 12, .inl ms)), (aL, .inl (E.2.1.1, 156, .inl sl))] := by
  refine HM.of (own := RX8) (plainFor_of_name (by decide)) rfl (Nat.le_of_ble_eq_true rfl) ?_
  intro zp ze zs zm za zb zt zc zA ls H locs zq C hr hlk hG hl hQ
  have hx := C.1.1
  have hb := C.1.2.1
  replace hl : lv_has ls 4 [(0, .ref m), (1, .int 143), (2, .int 1)] := hl
  refine lv_iconst (v := 1) hx hb dX8_isShaded_0 (by decide) ?_
  refine lv_iload_n hx hb dX8_isShaded_1 rfl (lv_at hl 2 rfl) ?_
  refine lv_isub hx hb dX8_isShaded_2 ?_
  refine z_ti (y := 0) (by decide) ?_
  refine lv_istore_n (lv' := [(3, .int 0), (0, .ref m), (1, .int 143), (2, .int 1)]) hx hb dX8_isShaded_3 rfl hl (by decide) rfl (fun ls hl => ?_)
  refine lv_aload_n hx hb dX8_isShaded_4 rfl (lv_at hl 1 rfl) ?_
  refine lv_iload_n hx hb dX8_isShaded_5 rfl (lv_at hl 2 rfl) ?_
  refine lv_iload_n hx hb dX8_isShaded_6 rfl (lv_at hl 0 rfl) ?_
  refine call_X8_118 C dX8_isShaded_7 (c_X8_shadow_143_0 l E v ms sl m aS aW aL aT a1 a2 a3 aB (by first | exact hM | (simpa [upd, gn_does_0_0, gn_rises_0_0, gn_does_0_1, gn_rises_0_1, gn_does_143_0, gn_rises_143_0] using hM))) hl hG 0 rfl [0, 1, 2] (by decide) rfl (ads := [m, aS, aL]) rfl rfl (ws' := [(m, .inr (8, [.int (v 0), .int (v 1), .ref aS, .int (v 2), .int (v 3), .int (v 4), .ref aW, .int (v 5), .ref aL, .int (v 6), .int (v 7), .int (v 8), .ref aT, .int (v 9), .int (v 10), .int (v 11), .int (v 12), .ref a1, .ref a2, .ref a3, .ref aB, .int (v 13), .int (v 14)])), (aS, .inl (E.2.1.1, 12, .inl ms)), (aL, .inl (E.2.1.1, 156, .inl sl))]) rfl rfl (rest := []) rfl (Nat.le_of_ble_eq_true rfl) ⟨Nat.le_of_ble_eq_true rfl, Nat.le_of_ble_eq_true rfl⟩ (fun H locs hG => ?_)
  refine lv_aload_n hx hb dX8_isShaded_10 rfl (lv_at hl 1 rfl) ?_
  refine gf_X8_35 C dX8_isShaded_11 hG 0 rfl rfl ?_
  refine lv_aload_n hx hb dX8_isShaded_14 rfl (lv_at hl 1 rfl) ?_
  refine gf_X8_16 C dX8_isShaded_15 hG 0 rfl rfl ?_
  refine lv_iload_n hx hb dX8_isShaded_18 rfl (lv_at hl 2 rfl) ?_
  refine lv_iconst (v := 4) hx hb dX8_isShaded_19 (by decide) ?_
  refine lv_iadd hx hb dX8_isShaded_20 ?_
  refine z_ti (y := 147) (by decide) ?_
  refine lv_iload_n hx hb dX8_isShaded_21 rfl (lv_at hl 0 rfl) ?_
  refine lv_iadd hx hb dX8_isShaded_22 ?_
  refine z_ti (y := 147) (by decide) ?_
  refine z_ild C dX8_isShaded_23 hG 2 rfl 147 (by decide) (Nat.le_of_ble_eq_true rfl) (Nat.le_of_ble_eq_true rfl) ?_
  refine lv_isub hx hb dX8_isShaded_24 ?_
  refine lv_icmp_lt (tgt := 55) hx hb dX8_isShaded_25 (by decide) (fun c_1 => ?_) (fun c_1 => ?_)
  · skip
    refine lv_iconst (v := 0) hx hb dX8_isShaded_55 (by decide) ?_
    rw [hQ]
    exact z_iret C hr hlk hG dX8_isShaded_56 rfl (by rw [o_X8_isShaded_143_1_r, if_pos c_1]) rfl
  · skip
    refine lv_aload_n hx hb dX8_isShaded_28 rfl (lv_at hl 1 rfl) ?_
    refine gf_X8_16 C dX8_isShaded_29 hG 0 rfl rfl ?_
    refine lv_iload_n hx hb dX8_isShaded_32 rfl (lv_at hl 2 rfl) ?_
    refine lv_iconst (v := 2) hx hb dX8_isShaded_33 (by decide) ?_
    refine lv_iadd hx hb dX8_isShaded_34 ?_
    refine z_ti (y := 145) (by decide) ?_
    refine lv_iload_n hx hb dX8_isShaded_35 rfl (lv_at hl 3 rfl) ?_
    refine lv_iadd hx hb dX8_isShaded_36 ?_
    refine z_ti (y := 146) (by decide) ?_
    refine z_ild C dX8_isShaded_37 hG 2 rfl 146 (by decide) (Nat.le_of_ble_eq_true rfl) (Nat.le_of_ble_eq_true rfl) ?_
    refine lv_aload_n hx hb dX8_isShaded_38 rfl (lv_at hl 1 rfl) ?_
    refine gf_X8_16 C dX8_isShaded_39 hG 0 rfl rfl ?_
    refine lv_iload_n hx hb dX8_isShaded_42 rfl (lv_at hl 2 rfl) ?_
    refine lv_iconst (v := 2) hx hb dX8_isShaded_43 (by decide) ?_
    refine lv_iadd hx hb dX8_isShaded_44 ?_
    refine z_ti (y := 145) (by decide) ?_
    refine lv_iload_n hx hb dX8_isShaded_45 rfl (lv_at hl 0 rfl) ?_
    refine lv_iadd hx hb dX8_isShaded_46 ?_
    refine z_ti (y := 145) (by decide) ?_
    refine z_ild C dX8_isShaded_47 hG 2 rfl 145 (by decide) (Nat.le_of_ble_eq_true rfl) (Nat.le_of_ble_eq_true rfl) ?_
    refine lv_icmp_ge (tgt := 55) hx hb dX8_isShaded_48 (by decide) (fun c_2 => ?_) (fun c_2 => ?_)
    · skip
      refine lv_iconst (v := 0) hx hb dX8_isShaded_55 (by decide) ?_
      rw [hQ]
      exact z_iret C hr hlk hG dX8_isShaded_56 rfl (by rw [o_X8_isShaded_143_1_r, if_neg c_1, if_pos c_2]) rfl
    · skip
      refine lv_iconst (v := 1) hx hb dX8_isShaded_51 (by decide) ?_
      refine lv_goto (tgt := 56) hx hb dX8_isShaded_52 (by decide) ?_
      rw [hQ]
      exact z_iret C hr hlk hG dX8_isShaded_56 rfl (by rw [o_X8_isShaded_143_1_r, if_neg c_1, if_neg c_2]) rfl
theorem o_X8_isShaded_143_1_b (v : Nat → Int32) (ms : Nat → Int32) (sl : Nat → Int32) : o_X8_isShaded_143_1_r v ms sl = 0 ∨ o_X8_isShaded_143_1_r v ms sl = 1 := by
  unfold o_X8_isShaded_143_1_r; (repeat' split) <;> first | exact Or.inl rfl | exact Or.inr rfl
theorem gn_does_143_1 (v sl : Nat → Int32) (ac : Int32) : o_X8_does_143_1_1 v sl ac 154 = sl 154 := by
  simp only [j_X8_does_143_1_0_0, j_X8_does_143_1_1_0, j_X8_does_143_1_2_0, j_X8_does_143_1_3_0, j_X8_does_143_1_4_0, j_X8_does_143_1_5_0, j_X8_does_143_1_6_0, o_X8_does_143_1_r, o_X8_does_143_1_1]; (repeat' split) <;> simp [upd]
theorem gn_rises_143_1 (v sl : Nat → Int32) (more dr : Int32) : o_X8_rises_143_1_1 v sl more dr 154 = sl 154 := by
  simp [j_X8_rises_143_1_0_0, j_X8_rises_143_1_1_0, o_X8_rises_143_1_1, upd]
def j_X8_goes_143_0_0 (v : Nat → Int32) (ms : Nat → Int32) (sl : Nat → Int32) (da : Int32) (db : Int32) (dr : Int32) : Int32 := (if (o_X8_isShaded_143_0_r v ms (o_X8_rises_143_1_1 v (o_X8_rises_143_0_1 v (o_X8_does_143_1_1 v (o_X8_does_143_0_1 v sl da) db) (o_X8_does_143_0_r v sl da) dr) (o_X8_does_143_1_r v (o_X8_does_143_0_1 v sl da) db) dr)) = 0 then 0 else 1)
def j_X8_goes_143_1_0 (v : Nat → Int32) (ms : Nat → Int32) (sl : Nat → Int32) (da : Int32) (db : Int32) (dr : Int32) : Int32 := (if (o_X8_isShaded_143_0_r v ms (o_X8_rises_143_1_1 v (o_X8_rises_143_0_1 v (o_X8_does_143_1_1 v (o_X8_does_143_0_1 v sl da) db) (o_X8_does_143_0_r v sl da) dr) (o_X8_does_143_1_r v (o_X8_does_143_0_1 v sl da) db) dr)) = 0 then 0 else (((o_X8_rises_143_1_1 v (o_X8_rises_143_0_1 v (o_X8_does_143_1_1 v (o_X8_does_143_0_1 v sl da) db) (o_X8_does_143_0_r v sl da) dr) (o_X8_does_143_1_r v (o_X8_does_143_0_1 v sl da) db) dr) 151) + 1))
def j_X8_goes_143_2_0 (v : Nat → Int32) (ms : Nat → Int32) (sl : Nat → Int32) (da : Int32) (db : Int32) (dr : Int32) : Int32 := (if (o_X8_isShaded_143_1_r v ms (upd (o_X8_rises_143_1_1 v (o_X8_rises_143_0_1 v (o_X8_does_143_1_1 v (o_X8_does_143_0_1 v sl da) db) (o_X8_does_143_0_r v sl da) dr) (o_X8_does_143_1_r v (o_X8_does_143_0_1 v sl da) db) dr) 151 (j_X8_goes_143_1_0 v ms sl da db dr))) = 0 then 0 else 2)
def j_X8_goes_143_3_0 (v : Nat → Int32) (ms : Nat → Int32) (sl : Nat → Int32) (da : Int32) (db : Int32) (dr : Int32) : Int32 := (if (o_X8_isShaded_143_1_r v ms (upd (o_X8_rises_143_1_1 v (o_X8_rises_143_0_1 v (o_X8_does_143_1_1 v (o_X8_does_143_0_1 v sl da) db) (o_X8_does_143_0_r v sl da) dr) (o_X8_does_143_1_r v (o_X8_does_143_0_1 v sl da) db) dr) 151 (j_X8_goes_143_1_0 v ms sl da db dr))) = 0 then 0 else (((upd (o_X8_rises_143_1_1 v (o_X8_rises_143_0_1 v (o_X8_does_143_1_1 v (o_X8_does_143_0_1 v sl da) db) (o_X8_does_143_0_r v sl da) dr) (o_X8_does_143_1_r v (o_X8_does_143_0_1 v sl da) db) dr) 151 (j_X8_goes_143_1_0 v ms sl da db dr)) 152) + 1))
def j_X8_goes_143_4_0 (v : Nat → Int32) (ms : Nat → Int32) (sl : Nat → Int32) (da : Int32) (db : Int32) (dr : Int32) : Int32 := (if ((upd (upd (o_X8_rises_143_1_1 v (o_X8_rises_143_0_1 v (o_X8_does_143_1_1 v (o_X8_does_143_0_1 v sl da) db) (o_X8_does_143_0_r v sl da) dr) (o_X8_does_143_1_r v (o_X8_does_143_0_1 v sl da) db) dr) 151 (j_X8_goes_143_1_0 v ms sl da db dr)) 152 (j_X8_goes_143_3_0 v ms sl da db dr)) 151) < (v 1) then ((upd (upd (o_X8_rises_143_1_1 v (o_X8_rises_143_0_1 v (o_X8_does_143_1_1 v (o_X8_does_143_0_1 v sl da) db) (o_X8_does_143_0_r v sl da) dr) (o_X8_does_143_1_r v (o_X8_does_143_0_1 v sl da) db) dr) 151 (j_X8_goes_143_1_0 v ms sl da db dr)) 152 (j_X8_goes_143_3_0 v ms sl da db dr)) 155) else 0)
def j_X8_goes_143_5_0 (v : Nat → Int32) (ms : Nat → Int32) (sl : Nat → Int32) (da : Int32) (db : Int32) (dr : Int32) : Int32 := (if ((upd (upd (upd (o_X8_rises_143_1_1 v (o_X8_rises_143_0_1 v (o_X8_does_143_1_1 v (o_X8_does_143_0_1 v sl da) db) (o_X8_does_143_0_r v sl da) dr) (o_X8_does_143_1_r v (o_X8_does_143_0_1 v sl da) db) dr) 151 (j_X8_goes_143_1_0 v ms sl da db dr)) 152 (j_X8_goes_143_3_0 v ms sl da db dr)) 155 (j_X8_goes_143_4_0 v ms sl da db dr)) 152) < (v 1) then ((upd (upd (upd (o_X8_rises_143_1_1 v (o_X8_rises_143_0_1 v (o_X8_does_143_1_1 v (o_X8_does_143_0_1 v sl da) db) (o_X8_does_143_0_r v sl da) dr) (o_X8_does_143_1_r v (o_X8_does_143_0_1 v sl da) db) dr) 151 (j_X8_goes_143_1_0 v ms sl da db dr)) 152 (j_X8_goes_143_3_0 v ms sl da db dr)) 155 (j_X8_goes_143_4_0 v ms sl da db dr)) 155) else 1)
def o_X8_goes_143_r (v : Nat → Int32) (ms : Nat → Int32) (sl : Nat → Int32) (da : Int32) (db : Int32) (dr : Int32) : Int32 := (if (sl 155) < 0 then ((0 ||| (j_X8_goes_143_0_0 v ms sl da db dr)) ||| (j_X8_goes_143_2_0 v ms sl da db dr)) else 0)
def o_X8_goes_143_2 (v : Nat → Int32) (ms : Nat → Int32) (sl : Nat → Int32) (da : Int32) (db : Int32) (dr : Int32) : Nat → Int32 := (if (sl 155) < 0 then (upd (upd (upd (upd (upd (o_X8_rises_143_1_1 v (o_X8_rises_143_0_1 v (o_X8_does_143_1_1 v (o_X8_does_143_0_1 v sl da) db) (o_X8_does_143_0_r v sl da) dr) (o_X8_does_143_1_r v (o_X8_does_143_0_1 v sl da) db) dr) 151 (j_X8_goes_143_1_0 v ms sl da db dr)) 152 (j_X8_goes_143_3_0 v ms sl da db dr)) 155 (j_X8_goes_143_4_0 v ms sl da db dr)) 155 (j_X8_goes_143_5_0 v ms sl da db dr)) 154 (((upd (upd (upd (upd (o_X8_rises_143_1_1 v (o_X8_rises_143_0_1 v (o_X8_does_143_1_1 v (o_X8_does_143_0_1 v sl da) db) (o_X8_does_143_0_r v sl da) dr) (o_X8_does_143_1_r v (o_X8_does_143_0_1 v sl da) db) dr) 151 (j_X8_goes_143_1_0 v ms sl da db dr)) 152 (j_X8_goes_143_3_0 v ms sl da db dr)) 155 (j_X8_goes_143_4_0 v ms sl da db dr)) 155 (j_X8_goes_143_5_0 v ms sl da db dr)) 154) + 1)) else sl)
set_option maxRecDepth 100000 in
set_option maxHeartbeats 4000000 in
theorem c_X8_goes_143 (l : Launch) (E : zE) (v : Nat → Int32) (ms : Nat → Int32) (sl : Nat → Int32) (da : Int32) (db : Int32) (dr : Int32) (m aS aW aL aT a1 a2 a3 aB : Nat) (hM : 0 ≤ (sl 154).toInt) : HM l E yX8_goes cX8_goes 10 (some .int) 3 66 [.ref m, .int 143, .int da, .int db, .int dr] [(m, .inr (8, [.int (v 0), .int (v 1), .ref aS, .int (v 2), .int (v 3), .int (v 4), .ref aW, .int (v 5), .ref aL, .int (v 6), .int (v 7), .int (v 8), .ref aT, .int (v 9), .int (v 10), .int (v 11), .int (v 12), .ref a1, .ref a2, .ref a3, .ref aB, .int (v 13), .int (v 14)])), (aS, .inl (E.2.1.1, 12, .inl ms)), (aL, .inl (E.2.1.1, 156, .inl sl))] (some (.int (o_X8_goes_143_r v ms sl da db dr))) [(m, .inr (8, [.int (v 0), .int (v 1), .ref aS, .int (v 2), .int (v 3), .int (v 4), .ref aW, .int (v 5), .ref aL, .int (v 6), .int (v 7), .int (v 8), .ref aT, .int (v 9), .int (v 10), .int (v 11), .int (v 12), .ref a1, .ref a2, .ref a3, .ref aB, .int (v 13), .int (v 14)])), (aS, .inl (E.2.1.1, 12, .inl ms)), (aL, .inl (E.2.1.1, 156, .inl (o_X8_goes_143_2 v ms sl da db dr)))] := by
  refine HM.of (own := RX8) (plainFor_of_name (by decide)) rfl (Nat.le_of_ble_eq_true rfl) ?_
  intro zp ze zs zm za zb zt zc zA ls H locs zq C hr hlk hG hl hQ
  have hx := C.1.1
  have hb := C.1.2.1
  replace hl : lv_has ls 10 [(0, .ref m), (1, .int 143), (2, .int da), (3, .int db), (4, .int dr)] := hl
  refine lv_aload_n hx hb dX8_goes_0 rfl (lv_at hl 0 rfl) ?_
  refine gf_X8_16 C dX8_goes_1 hG 0 rfl rfl ?_
  refine lv_iload_n hx hb dX8_goes_4 rfl (lv_at hl 1 rfl) ?_
  refine lv_bipush (v := 12) hx hb dX8_goes_5 (by decide) ?_
  refine lv_iadd hx hb dX8_goes_7 ?_
  refine z_ti (y := 155) (by decide) ?_
  refine z_ild C dX8_goes_8 hG 2 rfl 155 (by decide) (Nat.le_of_ble_eq_true rfl) (Nat.le_of_ble_eq_true rfl) ?_
  refine lv_if_lt (tgt := 14) hx hb dX8_goes_9 (by decide) (fun c_1 => ?_) (fun c_1 => ?_)
  · skip
    refine lv_aload_n hx hb dX8_goes_14 rfl (lv_at hl 0 rfl) ?_
    refine lv_iload_n hx hb dX8_goes_15 rfl (lv_at hl 1 rfl) ?_
    refine lv_iconst (v := 0) hx hb dX8_goes_16 (by decide) ?_
    refine lv_iload_n hx hb dX8_goes_17 rfl (lv_at hl 2 rfl) ?_
    refine call_X8_145 C dX8_goes_18 (c_X8_does_143_0 l E v sl da m aS aW aL aT a1 a2 a3 aB) hl hG 0 rfl [0, 2] (by decide) rfl (ads := [m, aL]) rfl rfl (ws' := [(m, .inr (8, [.int (v 0), .int (v 1), .ref aS, .int (v 2), .int (v 3), .int (v 4), .ref aW, .int (v 5), .ref aL, .int (v 6), .int (v 7), .int (v 8), .ref aT, .int (v 9), .int (v 10), .int (v 11), .int (v 12), .ref a1, .ref a2, .ref a3, .ref aB, .int (v 13), .int (v 14)])), (aS, .inl (E.2.1.1, 12, .inl ms)), (aL, .inl (E.2.1.1, 156, .inl (o_X8_does_143_0_1 v sl da)))]) rfl rfl (rest := []) rfl (Nat.le_of_ble_eq_true rfl) ⟨Nat.le_of_ble_eq_true rfl, Nat.le_of_ble_eq_true rfl⟩ (fun H locs hG => ?_)
    refine lv_istore (lv' := [(5, .int (o_X8_does_143_0_r v sl da)), (0, .ref m), (1, .int 143), (2, .int da), (3, .int db), (4, .int dr)]) hx hb dX8_goes_21 hl (by decide) rfl (fun ls hl => ?_)
    refine lv_aload_n hx hb dX8_goes_23 rfl (lv_at hl 1 rfl) ?_
    refine lv_iload_n hx hb dX8_goes_24 rfl (lv_at hl 2 rfl) ?_
    refine lv_iconst (v := 1) hx hb dX8_goes_25 (by decide) ?_
    refine lv_iload_n hx hb dX8_goes_26 rfl (lv_at hl 4 rfl) ?_
    refine call_X8_145 C dX8_goes_27 (c_X8_does_143_1 l E v (o_X8_does_143_0_1 v sl da) db m aS aW aL aT a1 a2 a3 aB) hl hG 0 rfl [0, 2] (by decide) rfl (ads := [m, aL]) rfl rfl (ws' := [(m, .inr (8, [.int (v 0), .int (v 1), .ref aS, .int (v 2), .int (v 3), .int (v 4), .ref aW, .int (v 5), .ref aL, .int (v 6), .int (v 7), .int (v 8), .ref aT, .int (v 9), .int (v 10), .int (v 11), .int (v 12), .ref a1, .ref a2, .ref a3, .ref aB, .int (v 13), .int (v 14)])), (aS, .inl (E.2.1.1, 12, .inl ms)), (aL, .inl (E.2.1.1, 156, .inl (o_X8_does_143_1_1 v (o_X8_does_143_0_1 v sl da) db)))]) rfl rfl (rest := []) rfl (Nat.le_of_ble_eq_true rfl) ⟨Nat.le_of_ble_eq_true rfl, Nat.le_of_ble_eq_true rfl⟩ (fun H locs hG => ?_)
    refine lv_istore (lv' := [(6, .int (o_X8_does_143_1_r v (o_X8_does_143_0_1 v sl da) db)), (5, .int (o_X8_does_143_0_r v sl da)), (0, .ref m), (1, .int 143), (2, .int da), (3, .int db), (4, .int dr)]) hx hb dX8_goes_30 hl (by decide) rfl (fun ls hl => ?_)
    refine lv_aload_n hx hb dX8_goes_32 rfl (lv_at hl 2 rfl) ?_
    refine lv_iload_n hx hb dX8_goes_33 rfl (lv_at hl 3 rfl) ?_
    refine lv_iconst (v := 0) hx hb dX8_goes_34 (by decide) ?_
    refine lv_iload hx hb dX8_goes_35 (lv_at hl 1 rfl) ?_
    refine lv_iload hx hb dX8_goes_37 (lv_at hl 6 rfl) ?_
    refine call_X8_149 C dX8_goes_39 (c_X8_rises_143_0 l E v (o_X8_does_143_1_1 v (o_X8_does_143_0_1 v sl da) db) (o_X8_does_143_0_r v sl da) dr m aS aW aL aT a1 a2 a3 aB) hl hG 0 rfl [0, 2] (by decide) rfl (ads := [m, aL]) rfl rfl (ws' := [(m, .inr (8, [.int (v 0), .int (v 1), .ref aS, .int (v 2), .int (v 3), .int (v 4), .ref aW, .int (v 5), .ref aL, .int (v 6), .int (v 7), .int (v 8), .ref aT, .int (v 9), .int (v 10), .int (v 11), .int (v 12), .ref a1, .ref a2, .ref a3, .ref aB, .int (v 13), .int (v 14)])), (aS, .inl (E.2.1.1, 12, .inl ms)), (aL, .inl (E.2.1.1, 156, .inl (o_X8_rises_143_0_1 v (o_X8_does_143_1_1 v (o_X8_does_143_0_1 v sl da) db) (o_X8_does_143_0_r v sl da) dr)))]) rfl rfl (rest := []) rfl (Nat.le_of_ble_eq_true rfl) ⟨Nat.le_of_ble_eq_true rfl, Nat.le_of_ble_eq_true rfl⟩ (fun H locs hG => ?_)
    refine lv_aload_n hx hb dX8_goes_42 rfl (lv_at hl 2 rfl) ?_
    refine lv_iload_n hx hb dX8_goes_43 rfl (lv_at hl 3 rfl) ?_
    refine lv_iconst (v := 1) hx hb dX8_goes_44 (by decide) ?_
    refine lv_iload hx hb dX8_goes_45 (lv_at hl 0 rfl) ?_
    refine lv_iload hx hb dX8_goes_47 (lv_at hl 6 rfl) ?_
    refine call_X8_149 C dX8_goes_49 (c_X8_rises_143_1 l E v (o_X8_rises_143_0_1 v (o_X8_does_143_1_1 v (o_X8_does_143_0_1 v sl da) db) (o_X8_does_143_0_r v sl da) dr) (o_X8_does_143_1_r v (o_X8_does_143_0_1 v sl da) db) dr m aS aW aL aT a1 a2 a3 aB) hl hG 0 rfl [0, 2] (by decide) rfl (ads := [m, aL]) rfl rfl (ws' := [(m, .inr (8, [.int (v 0), .int (v 1), .ref aS, .int (v 2), .int (v 3), .int (v 4), .ref aW, .int (v 5), .ref aL, .int (v 6), .int (v 7), .int (v 8), .ref aT, .int (v 9), .int (v 10), .int (v 11), .int (v 12), .ref a1, .ref a2, .ref a3, .ref aB, .int (v 13), .int (v 14)])), (aS, .inl (E.2.1.1, 12, .inl ms)), (aL, .inl (E.2.1.1, 156, .inl (o_X8_rises_143_1_1 v (o_X8_rises_143_0_1 v (o_X8_does_143_1_1 v (o_X8_does_143_0_1 v sl da) db) (o_X8_does_143_0_r v sl da) dr) (o_X8_does_143_1_r v (o_X8_does_143_0_1 v sl da) db) dr)))]) rfl rfl (rest := []) rfl (Nat.le_of_ble_eq_true rfl) ⟨Nat.le_of_ble_eq_true rfl, Nat.le_of_ble_eq_true rfl⟩ (fun H locs hG => ?_)
    refine lv_iconst (v := 0) hx hb dX8_goes_52 (by decide) ?_
    refine lv_istore (lv' := [(7, .int 0), (6, .int (o_X8_does_143_1_r v (o_X8_does_143_0_1 v sl da) db)), (5, .int (o_X8_does_143_0_r v sl da)), (0, .ref m), (1, .int 143), (2, .int da), (3, .int db), (4, .int dr)]) hx hb dX8_goes_53 hl (by decide) rfl (fun ls hl => ?_)
    refine lv_iconst (v := 0) hx hb dX8_goes_55 (by decide) ?_
    refine lv_istore (lv' := [(8, .int 0), (7, .int 0), (6, .int (o_X8_does_143_1_r v (o_X8_does_143_0_1 v sl da) db)), (5, .int (o_X8_does_143_0_r v sl da)), (0, .ref m), (1, .int 143), (2, .int da), (3, .int db), (4, .int dr)]) hx hb dX8_goes_56 hl (by decide) rfl (fun ls hl => ?_)
    refine lv_iload hx hb dX8_goes_58 (lv_at hl 0 rfl) ?_
    refine lv_iconst (v := 2) hx hb dX8_goes_60 (by decide) ?_
    refine lv_icmp_ge (tgt := 132) hx hb dX8_goes_61 (by decide) (fun c_2 => absurd c_2 (by decide)) (fun c_2 => ?_)
    refine lv_aload_n hx hb dX8_goes_64 rfl (lv_at hl 4 rfl) ?_
    refine lv_iload_n hx hb dX8_goes_65 rfl (lv_at hl 5 rfl) ?_
    refine lv_iload hx hb dX8_goes_66 (lv_at hl 0 rfl) ?_
    refine call_X8_127 C dX8_goes_68 (c_X8_isShaded_143_0 l E v ms (o_X8_rises_143_1_1 v (o_X8_rises_143_0_1 v (o_X8_does_143_1_1 v (o_X8_does_143_0_1 v sl da) db) (o_X8_does_143_0_r v sl da) dr) (o_X8_does_143_1_r v (o_X8_does_143_0_1 v sl da) db) dr) m aS aW aL aT a1 a2 a3 aB (by first | exact hM | (simpa [upd, gn_does_0_0, gn_rises_0_0, gn_does_0_1, gn_rises_0_1, gn_does_143_0, gn_rises_143_0, gn_does_143_1, gn_rises_143_1] using hM))) hl hG 0 rfl [0, 1, 2] (by decide) rfl (ads := [m, aS, aL]) rfl rfl (ws' := [(m, .inr (8, [.int (v 0), .int (v 1), .ref aS, .int (v 2), .int (v 3), .int (v 4), .ref aW, .int (v 5), .ref aL, .int (v 6), .int (v 7), .int (v 8), .ref aT, .int (v 9), .int (v 10), .int (v 11), .int (v 12), .ref a1, .ref a2, .ref a3, .ref aB, .int (v 13), .int (v 14)])), (aS, .inl (E.2.1.1, 12, .inl ms)), (aL, .inl (E.2.1.1, 156, .inl (o_X8_rises_143_1_1 v (o_X8_rises_143_0_1 v (o_X8_does_143_1_1 v (o_X8_does_143_0_1 v sl da) db) (o_X8_does_143_0_r v sl da) dr) (o_X8_does_143_1_r v (o_X8_does_143_0_1 v sl da) db) dr)))]) rfl rfl (rest := []) rfl (Nat.le_of_ble_eq_true rfl) ⟨Nat.le_of_ble_eq_true rfl, Nat.le_of_ble_eq_true rfl⟩ (fun H locs hG => ?_)
    refine lv_istore (lv' := [(9, .int (o_X8_isShaded_143_0_r v ms (o_X8_rises_143_1_1 v (o_X8_rises_143_0_1 v (o_X8_does_143_1_1 v (o_X8_does_143_0_1 v sl da) db) (o_X8_does_143_0_r v sl da) dr) (o_X8_does_143_1_r v (o_X8_does_143_0_1 v sl da) db) dr))), (8, .int 0), (7, .int 0), (6, .int (o_X8_does_143_1_r v (o_X8_does_143_0_1 v sl da) db)), (5, .int (o_X8_does_143_0_r v sl da)), (0, .ref m), (1, .int 143), (2, .int da), (3, .int db), (4, .int dr)]) hx hb dX8_goes_71 hl (by decide) rfl (fun ls hl => ?_)
    refine lv_iload hx hb dX8_goes_73 (lv_at hl 2 rfl) ?_
    refine lv_iload hx hb dX8_goes_75 (lv_at hl 0 rfl) ?_
    have k_0 : ∀ (y0_0 : Int32) (H : Heap) (locs : List Loc) (ls : Array Slot), (j_X8_goes_143_0_0 v ms sl da db dr) = y0_0 → zG E zA zs.heap [(m, .inr (8, [.int (v 0), .int (v 1), .ref aS, .int (v 2), .int (v 3), .int (v 4), .ref aW, .int (v 5), .ref aL, .int (v 6), .int (v 7), .int (v 8), .ref aT, .int (v 9), .int (v 10), .int (v 11), .int (v 12), .ref a1, .ref a2, .ref a3, .ref aB, .int (v 13), .int (v 14)])), (aS, .inl (E.2.1.1, 12, .inl ms)), (aL, .inl (E.2.1.1, 156, .inl (o_X8_rises_143_1_1 v (o_X8_rises_143_0_1 v (o_X8_does_143_1_1 v (o_X8_does_143_0_1 v sl da) db) (o_X8_does_143_0_r v sl da) dr) (o_X8_does_143_1_r v (o_X8_does_143_0_1 v sl da) db) dr)))] H locs → lv_has ls 10 [(9, .int (o_X8_isShaded_143_0_r v ms (o_X8_rises_143_1_1 v (o_X8_rises_143_0_1 v (o_X8_does_143_1_1 v (o_X8_does_143_0_1 v sl da) db) (o_X8_does_143_0_r v sl da) dr) (o_X8_does_143_1_r v (o_X8_does_143_0_1 v sl da) db) dr))), (8, .int 0), (7, .int 0), (6, .int (o_X8_does_143_1_r v (o_X8_does_143_0_1 v sl da) db)), (5, .int (o_X8_does_143_0_r v sl da)), (0, .ref m), (1, .int 143), (2, .int da), (3, .int db), (4, .int dr)] → W zp l ze (zR 3 66) zs zm za zb zt zc H locs 0 0 zq (F0 zm 88 ls [.int y0_0, .int 0]) := by
      intro y0_0 H locs ls e_y0_0 hG hl
      subst e_y0_0
      refine lv_ior hx hb dX8_goes_88 ?_
      refine lv_istore (lv' := [(7, .int (0 ||| (j_X8_goes_143_0_0 v ms sl da db dr))), (9, .int (o_X8_isShaded_143_0_r v ms (o_X8_rises_143_1_1 v (o_X8_rises_143_0_1 v (o_X8_does_143_1_1 v (o_X8_does_143_0_1 v sl da) db) (o_X8_does_143_0_r v sl da) dr) (o_X8_does_143_1_r v (o_X8_does_143_0_1 v sl da) db) dr))), (8, .int 0), (6, .int (o_X8_does_143_1_r v (o_X8_does_143_0_1 v sl da) db)), (5, .int (o_X8_does_143_0_r v sl da)), (0, .ref m), (1, .int 143), (2, .int da), (3, .int db), (4, .int dr)]) hx hb dX8_goes_89 hl (by decide) rfl (fun ls hl => ?_)
      refine lv_aload_n hx hb dX8_goes_91 rfl (lv_at hl 5 rfl) ?_
      refine gf_X8_16 C dX8_goes_92 hG 0 rfl rfl ?_
      refine lv_iload_n hx hb dX8_goes_95 rfl (lv_at hl 6 rfl) ?_
      refine lv_bipush (v := 8) hx hb dX8_goes_96 (by decide) ?_
      refine lv_iadd hx hb dX8_goes_98 ?_
      refine z_ti (y := 151) (by decide) ?_
      refine lv_iload hx hb dX8_goes_99 (lv_at hl 2 rfl) ?_
      refine lv_iadd hx hb dX8_goes_101 ?_
      refine z_ti (y := 151) (by decide) ?_
      refine lv_iload hx hb dX8_goes_102 (lv_at hl 1 rfl) ?_
      have k_1 : ∀ (y1_0 : Int32) (H : Heap) (locs : List Loc) (ls : Array Slot), (j_X8_goes_143_1_0 v ms sl da db dr) = y1_0 → zG E zA zs.heap [(m, .inr (8, [.int (v 0), .int (v 1), .ref aS, .int (v 2), .int (v 3), .int (v 4), .ref aW, .int (v 5), .ref aL, .int (v 6), .int (v 7), .int (v 8), .ref aT, .int (v 9), .int (v 10), .int (v 11), .int (v 12), .ref a1, .ref a2, .ref a3, .ref aB, .int (v 13), .int (v 14)])), (aS, .inl (E.2.1.1, 12, .inl ms)), (aL, .inl (E.2.1.1, 156, .inl (o_X8_rises_143_1_1 v (o_X8_rises_143_0_1 v (o_X8_does_143_1_1 v (o_X8_does_143_0_1 v sl da) db) (o_X8_does_143_0_r v sl da) dr) (o_X8_does_143_1_r v (o_X8_does_143_0_1 v sl da) db) dr)))] H locs → lv_has ls 10 [(7, .int (0 ||| (j_X8_goes_143_0_0 v ms sl da db dr))), (9, .int (o_X8_isShaded_143_0_r v ms (o_X8_rises_143_1_1 v (o_X8_rises_143_0_1 v (o_X8_does_143_1_1 v (o_X8_does_143_0_1 v sl da) db) (o_X8_does_143_0_r v sl da) dr) (o_X8_does_143_1_r v (o_X8_does_143_0_1 v sl da) db) dr))), (8, .int 0), (6, .int (o_X8_does_143_1_r v (o_X8_does_143_0_1 v sl da) db)), (5, .int (o_X8_does_143_0_r v sl da)), (0, .ref m), (1, .int 143), (2, .int da), (3, .int db), (4, .int dr)] → W zp l ze (zR 3 66) zs zm za zb zt zc H locs 0 0 zq (F0 zm 125 ls [.int y1_0, .int 151, .ref aL]) := by
        intro y1_0 H locs ls e_y1_0 hG hl
        subst e_y1_0
        refine z_ist C dX8_goes_125 hG 2 rfl 151 (by decide) (Nat.le_of_ble_eq_true rfl) (Nat.le_of_ble_eq_true rfl) (ws' := [(m, .inr (8, [.int (v 0), .int (v 1), .ref aS, .int (v 2), .int (v 3), .int (v 4), .ref aW, .int (v 5), .ref aL, .int (v 6), .int (v 7), .int (v 8), .ref aT, .int (v 9), .int (v 10), .int (v 11), .int (v 12), .ref a1, .ref a2, .ref a3, .ref aB, .int (v 13), .int (v 14)])), (aS, .inl (E.2.1.1, 12, .inl ms)), (aL, .inl (E.2.1.1, 156, .inl (upd (o_X8_rises_143_1_1 v (o_X8_rises_143_0_1 v (o_X8_does_143_1_1 v (o_X8_does_143_0_1 v sl da) db) (o_X8_does_143_0_r v sl da) dr) (o_X8_does_143_1_r v (o_X8_does_143_0_1 v sl da) db) dr) 151 (j_X8_goes_143_1_0 v ms sl da db dr))))]) rfl (fun H locs hG => ?_)
        refine lv_iinc (v := 1) (lv' := [(8, .int 1), (7, .int (0 ||| (j_X8_goes_143_0_0 v ms sl da db dr))), (9, .int (o_X8_isShaded_143_0_r v ms (o_X8_rises_143_1_1 v (o_X8_rises_143_0_1 v (o_X8_does_143_1_1 v (o_X8_does_143_0_1 v sl da) db) (o_X8_does_143_0_r v sl da) dr) (o_X8_does_143_1_r v (o_X8_does_143_0_1 v sl da) db) dr))), (6, .int (o_X8_does_143_1_r v (o_X8_does_143_0_1 v sl da) db)), (5, .int (o_X8_does_143_0_r v sl da)), (0, .ref m), (1, .int 143), (2, .int da), (3, .int db), (4, .int dr)]) hx hb dX8_goes_126 hl (k := 2) rfl (by decide) (by decide) rfl (fun ls hl => ?_)
        refine lv_goto (tgt := 58) hx hb dX8_goes_129 (by decide) ?_
        refine lv_iload hx hb dX8_goes_58 (lv_at hl 0 rfl) ?_
        refine lv_iconst (v := 2) hx hb dX8_goes_60 (by decide) ?_
        refine lv_icmp_ge (tgt := 132) hx hb dX8_goes_61 (by decide) (fun c_5 => absurd c_5 (by decide)) (fun c_5 => ?_)
        refine lv_aload_n hx hb dX8_goes_64 rfl (lv_at hl 5 rfl) ?_
        refine lv_iload_n hx hb dX8_goes_65 rfl (lv_at hl 6 rfl) ?_
        refine lv_iload hx hb dX8_goes_66 (lv_at hl 0 rfl) ?_
        refine call_X8_127 C dX8_goes_68 (c_X8_isShaded_143_1 l E v ms (upd (o_X8_rises_143_1_1 v (o_X8_rises_143_0_1 v (o_X8_does_143_1_1 v (o_X8_does_143_0_1 v sl da) db) (o_X8_does_143_0_r v sl da) dr) (o_X8_does_143_1_r v (o_X8_does_143_0_1 v sl da) db) dr) 151 (j_X8_goes_143_1_0 v ms sl da db dr)) m aS aW aL aT a1 a2 a3 aB (by first | exact hM | (simpa [upd, gn_does_0_0, gn_rises_0_0, gn_does_0_1, gn_rises_0_1, gn_does_143_0, gn_rises_143_0, gn_does_143_1, gn_rises_143_1] using hM))) hl hG 0 rfl [0, 1, 2] (by decide) rfl (ads := [m, aS, aL]) rfl rfl (ws' := [(m, .inr (8, [.int (v 0), .int (v 1), .ref aS, .int (v 2), .int (v 3), .int (v 4), .ref aW, .int (v 5), .ref aL, .int (v 6), .int (v 7), .int (v 8), .ref aT, .int (v 9), .int (v 10), .int (v 11), .int (v 12), .ref a1, .ref a2, .ref a3, .ref aB, .int (v 13), .int (v 14)])), (aS, .inl (E.2.1.1, 12, .inl ms)), (aL, .inl (E.2.1.1, 156, .inl (upd (o_X8_rises_143_1_1 v (o_X8_rises_143_0_1 v (o_X8_does_143_1_1 v (o_X8_does_143_0_1 v sl da) db) (o_X8_does_143_0_r v sl da) dr) (o_X8_does_143_1_r v (o_X8_does_143_0_1 v sl da) db) dr) 151 (j_X8_goes_143_1_0 v ms sl da db dr))))]) rfl rfl (rest := []) rfl (Nat.le_of_ble_eq_true rfl) ⟨Nat.le_of_ble_eq_true rfl, Nat.le_of_ble_eq_true rfl⟩ (fun H locs hG => ?_)
        refine lv_istore (lv' := [(9, .int (o_X8_isShaded_143_1_r v ms (upd (o_X8_rises_143_1_1 v (o_X8_rises_143_0_1 v (o_X8_does_143_1_1 v (o_X8_does_143_0_1 v sl da) db) (o_X8_does_143_0_r v sl da) dr) (o_X8_does_143_1_r v (o_X8_does_143_0_1 v sl da) db) dr) 151 (j_X8_goes_143_1_0 v ms sl da db dr)))), (8, .int 1), (7, .int (0 ||| (j_X8_goes_143_0_0 v ms sl da db dr))), (6, .int (o_X8_does_143_1_r v (o_X8_does_143_0_1 v sl da) db)), (5, .int (o_X8_does_143_0_r v sl da)), (0, .ref m), (1, .int 143), (2, .int da), (3, .int db), (4, .int dr)]) hx hb dX8_goes_71 hl (by decide) rfl (fun ls hl => ?_)
        refine lv_iload hx hb dX8_goes_73 (lv_at hl 2 rfl) ?_
        refine lv_iload hx hb dX8_goes_75 (lv_at hl 0 rfl) ?_
        have k_2 : ∀ (y2_0 : Int32) (H : Heap) (locs : List Loc) (ls : Array Slot), (j_X8_goes_143_2_0 v ms sl da db dr) = y2_0 → zG E zA zs.heap [(m, .inr (8, [.int (v 0), .int (v 1), .ref aS, .int (v 2), .int (v 3), .int (v 4), .ref aW, .int (v 5), .ref aL, .int (v 6), .int (v 7), .int (v 8), .ref aT, .int (v 9), .int (v 10), .int (v 11), .int (v 12), .ref a1, .ref a2, .ref a3, .ref aB, .int (v 13), .int (v 14)])), (aS, .inl (E.2.1.1, 12, .inl ms)), (aL, .inl (E.2.1.1, 156, .inl (upd (o_X8_rises_143_1_1 v (o_X8_rises_143_0_1 v (o_X8_does_143_1_1 v (o_X8_does_143_0_1 v sl da) db) (o_X8_does_143_0_r v sl da) dr) (o_X8_does_143_1_r v (o_X8_does_143_0_1 v sl da) db) dr) 151 (j_X8_goes_143_1_0 v ms sl da db dr))))] H locs → lv_has ls 10 [(9, .int (o_X8_isShaded_143_1_r v ms (upd (o_X8_rises_143_1_1 v (o_X8_rises_143_0_1 v (o_X8_does_143_1_1 v (o_X8_does_143_0_1 v sl da) db) (o_X8_does_143_0_r v sl da) dr) (o_X8_does_143_1_r v (o_X8_does_143_0_1 v sl da) db) dr) 151 (j_X8_goes_143_1_0 v ms sl da db dr)))), (8, .int 1), (7, .int (0 ||| (j_X8_goes_143_0_0 v ms sl da db dr))), (6, .int (o_X8_does_143_1_r v (o_X8_does_143_0_1 v sl da) db)), (5, .int (o_X8_does_143_0_r v sl da)), (0, .ref m), (1, .int 143), (2, .int da), (3, .int db), (4, .int dr)] → W zp l ze (zR 3 66) zs zm za zb zt zc H locs 0 0 zq (F0 zm 88 ls [.int y2_0, .int (0 ||| (j_X8_goes_143_0_0 v ms sl da db dr))]) := by
          intro y2_0 H locs ls e_y2_0 hG hl
          subst e_y2_0
          refine lv_ior hx hb dX8_goes_88 ?_
          refine lv_istore (lv' := [(7, .int ((0 ||| (j_X8_goes_143_0_0 v ms sl da db dr)) ||| (j_X8_goes_143_2_0 v ms sl da db dr))), (9, .int (o_X8_isShaded_143_1_r v ms (upd (o_X8_rises_143_1_1 v (o_X8_rises_143_0_1 v (o_X8_does_143_1_1 v (o_X8_does_143_0_1 v sl da) db) (o_X8_does_143_0_r v sl da) dr) (o_X8_does_143_1_r v (o_X8_does_143_0_1 v sl da) db) dr) 151 (j_X8_goes_143_1_0 v ms sl da db dr)))), (8, .int 1), (6, .int (o_X8_does_143_1_r v (o_X8_does_143_0_1 v sl da) db)), (5, .int (o_X8_does_143_0_r v sl da)), (0, .ref m), (1, .int 143), (2, .int da), (3, .int db), (4, .int dr)]) hx hb dX8_goes_89 hl (by decide) rfl (fun ls hl => ?_)
          refine lv_aload_n hx hb dX8_goes_91 rfl (lv_at hl 5 rfl) ?_
          refine gf_X8_16 C dX8_goes_92 hG 0 rfl rfl ?_
          refine lv_iload_n hx hb dX8_goes_95 rfl (lv_at hl 6 rfl) ?_
          refine lv_bipush (v := 8) hx hb dX8_goes_96 (by decide) ?_
          refine lv_iadd hx hb dX8_goes_98 ?_
          refine z_ti (y := 151) (by decide) ?_
          refine lv_iload hx hb dX8_goes_99 (lv_at hl 2 rfl) ?_
          refine lv_iadd hx hb dX8_goes_101 ?_
          refine z_ti (y := 152) (by decide) ?_
          refine lv_iload hx hb dX8_goes_102 (lv_at hl 1 rfl) ?_
          have k_3 : ∀ (y3_0 : Int32) (H : Heap) (locs : List Loc) (ls : Array Slot), (j_X8_goes_143_3_0 v ms sl da db dr) = y3_0 → zG E zA zs.heap [(m, .inr (8, [.int (v 0), .int (v 1), .ref aS, .int (v 2), .int (v 3), .int (v 4), .ref aW, .int (v 5), .ref aL, .int (v 6), .int (v 7), .int (v 8), .ref aT, .int (v 9), .int (v 10), .int (v 11), .int (v 12), .ref a1, .ref a2, .ref a3, .ref aB, .int (v 13), .int (v 14)])), (aS, .inl (E.2.1.1, 12, .inl ms)), (aL, .inl (E.2.1.1, 156, .inl (upd (o_X8_rises_143_1_1 v (o_X8_rises_143_0_1 v (o_X8_does_143_1_1 v (o_X8_does_143_0_1 v sl da) db) (o_X8_does_143_0_r v sl da) dr) (o_X8_does_143_1_r v (o_X8_does_143_0_1 v sl da) db) dr) 151 (j_X8_goes_143_1_0 v ms sl da db dr))))] H locs → lv_has ls 10 [(7, .int ((0 ||| (j_X8_goes_143_0_0 v ms sl da db dr)) ||| (j_X8_goes_143_2_0 v ms sl da db dr))), (9, .int (o_X8_isShaded_143_1_r v ms (upd (o_X8_rises_143_1_1 v (o_X8_rises_143_0_1 v (o_X8_does_143_1_1 v (o_X8_does_143_0_1 v sl da) db) (o_X8_does_143_0_r v sl da) dr) (o_X8_does_143_1_r v (o_X8_does_143_0_1 v sl da) db) dr) 151 (j_X8_goes_143_1_0 v ms sl da db dr)))), (8, .int 1), (6, .int (o_X8_does_143_1_r v (o_X8_does_143_0_1 v sl da) db)), (5, .int (o_X8_does_143_0_r v sl da)), (0, .ref m), (1, .int 143), (2, .int da), (3, .int db), (4, .int dr)] → W zp l ze (zR 3 66) zs zm za zb zt zc H locs 0 0 zq (F0 zm 125 ls [.int y3_0, .int 152, .ref aL]) := by
            intro y3_0 H locs ls e_y3_0 hG hl
            subst e_y3_0
            refine z_ist C dX8_goes_125 hG 2 rfl 152 (by decide) (Nat.le_of_ble_eq_true rfl) (Nat.le_of_ble_eq_true rfl) (ws' := [(m, .inr (8, [.int (v 0), .int (v 1), .ref aS, .int (v 2), .int (v 3), .int (v 4), .ref aW, .int (v 5), .ref aL, .int (v 6), .int (v 7), .int (v 8), .ref aT, .int (v 9), .int (v 10), .int (v 11), .int (v 12), .ref a1, .ref a2, .ref a3, .ref aB, .int (v 13), .int (v 14)])), (aS, .inl (E.2.1.1, 12, .inl ms)), (aL, .inl (E.2.1.1, 156, .inl (upd (upd (o_X8_rises_143_1_1 v (o_X8_rises_143_0_1 v (o_X8_does_143_1_1 v (o_X8_does_143_0_1 v sl da) db) (o_X8_does_143_0_r v sl da) dr) (o_X8_does_143_1_r v (o_X8_does_143_0_1 v sl da) db) dr) 151 (j_X8_goes_143_1_0 v ms sl da db dr)) 152 (j_X8_goes_143_3_0 v ms sl da db dr))))]) rfl (fun H locs hG => ?_)
            refine lv_iinc (v := 2) (lv' := [(8, .int 2), (7, .int ((0 ||| (j_X8_goes_143_0_0 v ms sl da db dr)) ||| (j_X8_goes_143_2_0 v ms sl da db dr))), (9, .int (o_X8_isShaded_143_1_r v ms (upd (o_X8_rises_143_1_1 v (o_X8_rises_143_0_1 v (o_X8_does_143_1_1 v (o_X8_does_143_0_1 v sl da) db) (o_X8_does_143_0_r v sl da) dr) (o_X8_does_143_1_r v (o_X8_does_143_0_1 v sl da) db) dr) 151 (j_X8_goes_143_1_0 v ms sl da db dr)))), (6, .int (o_X8_does_143_1_r v (o_X8_does_143_0_1 v sl da) db)), (5, .int (o_X8_does_143_0_r v sl da)), (0, .ref m), (1, .int 143), (2, .int da), (3, .int db), (4, .int dr)]) hx hb dX8_goes_126 hl (k := 2) rfl (by decide) (by decide) rfl (fun ls hl => ?_)
            refine lv_goto (tgt := 58) hx hb dX8_goes_129 (by decide) ?_
            refine lv_iload hx hb dX8_goes_58 (lv_at hl 0 rfl) ?_
            refine lv_iconst (v := 2) hx hb dX8_goes_60 (by decide) ?_
            refine lv_icmp_ge (tgt := 132) hx hb dX8_goes_61 (by decide) (fun c_8 => ?_) (fun c_8 => absurd (by decide) c_8)
            refine lv_iconst (v := 0) hx hb dX8_goes_132 (by decide) ?_
            refine lv_istore (lv' := [(8, .int 0), (7, .int ((0 ||| (j_X8_goes_143_0_0 v ms sl da db dr)) ||| (j_X8_goes_143_2_0 v ms sl da db dr))), (9, .int (o_X8_isShaded_143_1_r v ms (upd (o_X8_rises_143_1_1 v (o_X8_rises_143_0_1 v (o_X8_does_143_1_1 v (o_X8_does_143_0_1 v sl da) db) (o_X8_does_143_0_r v sl da) dr) (o_X8_does_143_1_r v (o_X8_does_143_0_1 v sl da) db) dr) 151 (j_X8_goes_143_1_0 v ms sl da db dr)))), (6, .int (o_X8_does_143_1_r v (o_X8_does_143_0_1 v sl da) db)), (5, .int (o_X8_does_143_0_r v sl da)), (0, .ref m), (1, .int 143), (2, .int da), (3, .int db), (4, .int dr)]) hx hb dX8_goes_133 hl (by decide) rfl (fun ls hl => ?_)
            refine lv_iload hx hb dX8_goes_135 (lv_at hl 0 rfl) ?_
            refine lv_iconst (v := 2) hx hb dX8_goes_137 (by decide) ?_
            refine lv_icmp_ge (tgt := 189) hx hb dX8_goes_138 (by decide) (fun c_9 => absurd c_9 (by decide)) (fun c_9 => ?_)
            refine lv_aload_n hx hb dX8_goes_141 rfl (lv_at hl 5 rfl) ?_
            refine gf_X8_16 C dX8_goes_142 hG 0 rfl rfl ?_
            refine lv_iload_n hx hb dX8_goes_145 rfl (lv_at hl 6 rfl) ?_
            refine lv_bipush (v := 12) hx hb dX8_goes_146 (by decide) ?_
            refine lv_iadd hx hb dX8_goes_148 ?_
            refine z_ti (y := 155) (by decide) ?_
            refine lv_aload_n hx hb dX8_goes_149 rfl (lv_at hl 5 rfl) ?_
            refine gf_X8_16 C dX8_goes_150 hG 0 rfl rfl ?_
            refine lv_iload_n hx hb dX8_goes_153 rfl (lv_at hl 6 rfl) ?_
            refine lv_bipush (v := 8) hx hb dX8_goes_154 (by decide) ?_
            refine lv_iadd hx hb dX8_goes_156 ?_
            refine z_ti (y := 151) (by decide) ?_
            refine lv_iload hx hb dX8_goes_157 (lv_at hl 0 rfl) ?_
            refine lv_iadd hx hb dX8_goes_159 ?_
            refine z_ti (y := 151) (by decide) ?_
            refine z_ild C dX8_goes_160 hG 2 rfl 151 (by decide) (Nat.le_of_ble_eq_true rfl) (Nat.le_of_ble_eq_true rfl) ?_
            refine lv_aload_n hx hb dX8_goes_161 rfl (lv_at hl 5 rfl) ?_
            refine gf_X8_39 C dX8_goes_162 hG 0 rfl rfl ?_
            have k_4 : ∀ (y4_0 : Int32) (H : Heap) (locs : List Loc) (ls : Array Slot), (j_X8_goes_143_4_0 v ms sl da db dr) = y4_0 → zG E zA zs.heap [(m, .inr (8, [.int (v 0), .int (v 1), .ref aS, .int (v 2), .int (v 3), .int (v 4), .ref aW, .int (v 5), .ref aL, .int (v 6), .int (v 7), .int (v 8), .ref aT, .int (v 9), .int (v 10), .int (v 11), .int (v 12), .ref a1, .ref a2, .ref a3, .ref aB, .int (v 13), .int (v 14)])), (aS, .inl (E.2.1.1, 12, .inl ms)), (aL, .inl (E.2.1.1, 156, .inl (upd (upd (o_X8_rises_143_1_1 v (o_X8_rises_143_0_1 v (o_X8_does_143_1_1 v (o_X8_does_143_0_1 v sl da) db) (o_X8_does_143_0_r v sl da) dr) (o_X8_does_143_1_r v (o_X8_does_143_0_1 v sl da) db) dr) 151 (j_X8_goes_143_1_0 v ms sl da db dr)) 152 (j_X8_goes_143_3_0 v ms sl da db dr))))] H locs → lv_has ls 10 [(8, .int 0), (7, .int ((0 ||| (j_X8_goes_143_0_0 v ms sl da db dr)) ||| (j_X8_goes_143_2_0 v ms sl da db dr))), (9, .int (o_X8_isShaded_143_1_r v ms (upd (o_X8_rises_143_1_1 v (o_X8_rises_143_0_1 v (o_X8_does_143_1_1 v (o_X8_does_143_0_1 v sl da) db) (o_X8_does_143_0_r v sl da) dr) (o_X8_does_143_1_r v (o_X8_does_143_0_1 v sl da) db) dr) 151 (j_X8_goes_143_1_0 v ms sl da db dr)))), (6, .int (o_X8_does_143_1_r v (o_X8_does_143_0_1 v sl da) db)), (5, .int (o_X8_does_143_0_r v sl da)), (0, .ref m), (1, .int 143), (2, .int da), (3, .int db), (4, .int dr)] → W zp l ze (zR 3 66) zs zm za zb zt zc H locs 0 0 zq (F0 zm 182 ls [.int y4_0, .int 155, .ref aL]) := by
              intro y4_0 H locs ls e_y4_0 hG hl
              subst e_y4_0
              refine z_ist C dX8_goes_182 hG 2 rfl 155 (by decide) (Nat.le_of_ble_eq_true rfl) (Nat.le_of_ble_eq_true rfl) (ws' := [(m, .inr (8, [.int (v 0), .int (v 1), .ref aS, .int (v 2), .int (v 3), .int (v 4), .ref aW, .int (v 5), .ref aL, .int (v 6), .int (v 7), .int (v 8), .ref aT, .int (v 9), .int (v 10), .int (v 11), .int (v 12), .ref a1, .ref a2, .ref a3, .ref aB, .int (v 13), .int (v 14)])), (aS, .inl (E.2.1.1, 12, .inl ms)), (aL, .inl (E.2.1.1, 156, .inl (upd (upd (upd (o_X8_rises_143_1_1 v (o_X8_rises_143_0_1 v (o_X8_does_143_1_1 v (o_X8_does_143_0_1 v sl da) db) (o_X8_does_143_0_r v sl da) dr) (o_X8_does_143_1_r v (o_X8_does_143_0_1 v sl da) db) dr) 151 (j_X8_goes_143_1_0 v ms sl da db dr)) 152 (j_X8_goes_143_3_0 v ms sl da db dr)) 155 (j_X8_goes_143_4_0 v ms sl da db dr))))]) rfl (fun H locs hG => ?_)
              refine lv_iinc (v := 1) (lv' := [(8, .int 1), (7, .int ((0 ||| (j_X8_goes_143_0_0 v ms sl da db dr)) ||| (j_X8_goes_143_2_0 v ms sl da db dr))), (9, .int (o_X8_isShaded_143_1_r v ms (upd (o_X8_rises_143_1_1 v (o_X8_rises_143_0_1 v (o_X8_does_143_1_1 v (o_X8_does_143_0_1 v sl da) db) (o_X8_does_143_0_r v sl da) dr) (o_X8_does_143_1_r v (o_X8_does_143_0_1 v sl da) db) dr) 151 (j_X8_goes_143_1_0 v ms sl da db dr)))), (6, .int (o_X8_does_143_1_r v (o_X8_does_143_0_1 v sl da) db)), (5, .int (o_X8_does_143_0_r v sl da)), (0, .ref m), (1, .int 143), (2, .int da), (3, .int db), (4, .int dr)]) hx hb dX8_goes_183 hl (k := 0) rfl (by decide) (by decide) rfl (fun ls hl => ?_)
              refine lv_goto (tgt := 135) hx hb dX8_goes_186 (by decide) ?_
              refine lv_iload hx hb dX8_goes_135 (lv_at hl 0 rfl) ?_
              refine lv_iconst (v := 2) hx hb dX8_goes_137 (by decide) ?_
              refine lv_icmp_ge (tgt := 189) hx hb dX8_goes_138 (by decide) (fun c_11 => absurd c_11 (by decide)) (fun c_11 => ?_)
              refine lv_aload_n hx hb dX8_goes_141 rfl (lv_at hl 5 rfl) ?_
              refine gf_X8_16 C dX8_goes_142 hG 0 rfl rfl ?_
              refine lv_iload_n hx hb dX8_goes_145 rfl (lv_at hl 6 rfl) ?_
              refine lv_bipush (v := 12) hx hb dX8_goes_146 (by decide) ?_
              refine lv_iadd hx hb dX8_goes_148 ?_
              refine z_ti (y := 155) (by decide) ?_
              refine lv_aload_n hx hb dX8_goes_149 rfl (lv_at hl 5 rfl) ?_
              refine gf_X8_16 C dX8_goes_150 hG 0 rfl rfl ?_
              refine lv_iload_n hx hb dX8_goes_153 rfl (lv_at hl 6 rfl) ?_
              refine lv_bipush (v := 8) hx hb dX8_goes_154 (by decide) ?_
              refine lv_iadd hx hb dX8_goes_156 ?_
              refine z_ti (y := 151) (by decide) ?_
              refine lv_iload hx hb dX8_goes_157 (lv_at hl 0 rfl) ?_
              refine lv_iadd hx hb dX8_goes_159 ?_
              refine z_ti (y := 152) (by decide) ?_
              refine z_ild C dX8_goes_160 hG 2 rfl 152 (by decide) (Nat.le_of_ble_eq_true rfl) (Nat.le_of_ble_eq_true rfl) ?_
              refine lv_aload_n hx hb dX8_goes_161 rfl (lv_at hl 5 rfl) ?_
              refine gf_X8_39 C dX8_goes_162 hG 0 rfl rfl ?_
              have k_5 : ∀ (y5_0 : Int32) (H : Heap) (locs : List Loc) (ls : Array Slot), (j_X8_goes_143_5_0 v ms sl da db dr) = y5_0 → zG E zA zs.heap [(m, .inr (8, [.int (v 0), .int (v 1), .ref aS, .int (v 2), .int (v 3), .int (v 4), .ref aW, .int (v 5), .ref aL, .int (v 6), .int (v 7), .int (v 8), .ref aT, .int (v 9), .int (v 10), .int (v 11), .int (v 12), .ref a1, .ref a2, .ref a3, .ref aB, .int (v 13), .int (v 14)])), (aS, .inl (E.2.1.1, 12, .inl ms)), (aL, .inl (E.2.1.1, 156, .inl (upd (upd (upd (o_X8_rises_143_1_1 v (o_X8_rises_143_0_1 v (o_X8_does_143_1_1 v (o_X8_does_143_0_1 v sl da) db) (o_X8_does_143_0_r v sl da) dr) (o_X8_does_143_1_r v (o_X8_does_143_0_1 v sl da) db) dr) 151 (j_X8_goes_143_1_0 v ms sl da db dr)) 152 (j_X8_goes_143_3_0 v ms sl da db dr)) 155 (j_X8_goes_143_4_0 v ms sl da db dr))))] H locs → lv_has ls 10 [(8, .int 1), (7, .int ((0 ||| (j_X8_goes_143_0_0 v ms sl da db dr)) ||| (j_X8_goes_143_2_0 v ms sl da db dr))), (9, .int (o_X8_isShaded_143_1_r v ms (upd (o_X8_rises_143_1_1 v (o_X8_rises_143_0_1 v (o_X8_does_143_1_1 v (o_X8_does_143_0_1 v sl da) db) (o_X8_does_143_0_r v sl da) dr) (o_X8_does_143_1_r v (o_X8_does_143_0_1 v sl da) db) dr) 151 (j_X8_goes_143_1_0 v ms sl da db dr)))), (6, .int (o_X8_does_143_1_r v (o_X8_does_143_0_1 v sl da) db)), (5, .int (o_X8_does_143_0_r v sl da)), (0, .ref m), (1, .int 143), (2, .int da), (3, .int db), (4, .int dr)] → W zp l ze (zR 3 66) zs zm za zb zt zc H locs 0 0 zq (F0 zm 182 ls [.int y5_0, .int 155, .ref aL]) := by
                intro y5_0 H locs ls e_y5_0 hG hl
                subst e_y5_0
                refine z_ist C dX8_goes_182 hG 2 rfl 155 (by decide) (Nat.le_of_ble_eq_true rfl) (Nat.le_of_ble_eq_true rfl) (ws' := [(m, .inr (8, [.int (v 0), .int (v 1), .ref aS, .int (v 2), .int (v 3), .int (v 4), .ref aW, .int (v 5), .ref aL, .int (v 6), .int (v 7), .int (v 8), .ref aT, .int (v 9), .int (v 10), .int (v 11), .int (v 12), .ref a1, .ref a2, .ref a3, .ref aB, .int (v 13), .int (v 14)])), (aS, .inl (E.2.1.1, 12, .inl ms)), (aL, .inl (E.2.1.1, 156, .inl (upd (upd (upd (upd (o_X8_rises_143_1_1 v (o_X8_rises_143_0_1 v (o_X8_does_143_1_1 v (o_X8_does_143_0_1 v sl da) db) (o_X8_does_143_0_r v sl da) dr) (o_X8_does_143_1_r v (o_X8_does_143_0_1 v sl da) db) dr) 151 (j_X8_goes_143_1_0 v ms sl da db dr)) 152 (j_X8_goes_143_3_0 v ms sl da db dr)) 155 (j_X8_goes_143_4_0 v ms sl da db dr)) 155 (j_X8_goes_143_5_0 v ms sl da db dr))))]) rfl (fun H locs hG => ?_)
                refine lv_iinc (v := 2) (lv' := [(8, .int 2), (7, .int ((0 ||| (j_X8_goes_143_0_0 v ms sl da db dr)) ||| (j_X8_goes_143_2_0 v ms sl da db dr))), (9, .int (o_X8_isShaded_143_1_r v ms (upd (o_X8_rises_143_1_1 v (o_X8_rises_143_0_1 v (o_X8_does_143_1_1 v (o_X8_does_143_0_1 v sl da) db) (o_X8_does_143_0_r v sl da) dr) (o_X8_does_143_1_r v (o_X8_does_143_0_1 v sl da) db) dr) 151 (j_X8_goes_143_1_0 v ms sl da db dr)))), (6, .int (o_X8_does_143_1_r v (o_X8_does_143_0_1 v sl da) db)), (5, .int (o_X8_does_143_0_r v sl da)), (0, .ref m), (1, .int 143), (2, .int da), (3, .int db), (4, .int dr)]) hx hb dX8_goes_183 hl (k := 0) rfl (by decide) (by decide) rfl (fun ls hl => ?_)
                refine lv_goto (tgt := 135) hx hb dX8_goes_186 (by decide) ?_
                refine lv_iload hx hb dX8_goes_135 (lv_at hl 0 rfl) ?_
                refine lv_iconst (v := 2) hx hb dX8_goes_137 (by decide) ?_
                refine lv_icmp_ge (tgt := 189) hx hb dX8_goes_138 (by decide) (fun c_13 => ?_) (fun c_13 => absurd (by decide) c_13)
                refine lv_aload_n hx hb dX8_goes_189 rfl (lv_at hl 5 rfl) ?_
                refine gf_X8_16 C dX8_goes_190 hG 0 rfl rfl ?_
                refine lv_iload_n hx hb dX8_goes_193 rfl (lv_at hl 6 rfl) ?_
                refine lv_bipush (v := 11) hx hb dX8_goes_194 (by decide) ?_
                refine lv_iadd hx hb dX8_goes_196 ?_
                refine z_ti (y := 154) (by decide) ?_
                refine lv_dup2_11 hx hb dX8_goes_197 rfl rfl ?_
                refine z_ild C dX8_goes_198 hG 2 rfl 154 (by decide) (Nat.le_of_ble_eq_true rfl) (Nat.le_of_ble_eq_true rfl) ?_
                refine lv_iconst (v := 1) hx hb dX8_goes_199 (by decide) ?_
                refine lv_iadd hx hb dX8_goes_200 ?_
                refine z_ist C dX8_goes_201 hG 2 rfl 154 (by decide) (Nat.le_of_ble_eq_true rfl) (Nat.le_of_ble_eq_true rfl) (ws' := [(m, .inr (8, [.int (v 0), .int (v 1), .ref aS, .int (v 2), .int (v 3), .int (v 4), .ref aW, .int (v 5), .ref aL, .int (v 6), .int (v 7), .int (v 8), .ref aT, .int (v 9), .int (v 10), .int (v 11), .int (v 12), .ref a1, .ref a2, .ref a3, .ref aB, .int (v 13), .int (v 14)])), (aS, .inl (E.2.1.1, 12, .inl ms)), (aL, .inl (E.2.1.1, 156, .inl (upd (upd (upd (upd (upd (o_X8_rises_143_1_1 v (o_X8_rises_143_0_1 v (o_X8_does_143_1_1 v (o_X8_does_143_0_1 v sl da) db) (o_X8_does_143_0_r v sl da) dr) (o_X8_does_143_1_r v (o_X8_does_143_0_1 v sl da) db) dr) 151 (j_X8_goes_143_1_0 v ms sl da db dr)) 152 (j_X8_goes_143_3_0 v ms sl da db dr)) 155 (j_X8_goes_143_4_0 v ms sl da db dr)) 155 (j_X8_goes_143_5_0 v ms sl da db dr)) 154 (((upd (upd (upd (upd (o_X8_rises_143_1_1 v (o_X8_rises_143_0_1 v (o_X8_does_143_1_1 v (o_X8_does_143_0_1 v sl da) db) (o_X8_does_143_0_r v sl da) dr) (o_X8_does_143_1_r v (o_X8_does_143_0_1 v sl da) db) dr) 151 (j_X8_goes_143_1_0 v ms sl da db dr)) 152 (j_X8_goes_143_3_0 v ms sl da db dr)) 155 (j_X8_goes_143_4_0 v ms sl da db dr)) 155 (j_X8_goes_143_5_0 v ms sl da db dr)) 154) + 1))))]) rfl (fun H locs hG => ?_)
                refine lv_iload hx hb dX8_goes_202 (lv_at hl 1 rfl) ?_
                rw [hQ]
                exact z_iret C hr hlk hG dX8_goes_204 rfl (by rw [o_X8_goes_143_r, if_pos c_1]) (by rw [o_X8_goes_143_2, if_pos c_1])
              refine lv_icmp_lt (tgt := 173) hx hb dX8_goes_165 (by decide) (fun c_12 => ?_) (fun c_12 => ?_)
              · skip
                refine lv_aload_n hx hb dX8_goes_173 rfl (lv_at hl 5 rfl) ?_
                refine gf_X8_16 C dX8_goes_174 hG 0 rfl rfl ?_
                refine lv_iload_n hx hb dX8_goes_177 rfl (lv_at hl 6 rfl) ?_
                refine lv_bipush (v := 12) hx hb dX8_goes_178 (by decide) ?_
                refine lv_iadd hx hb dX8_goes_180 ?_
                refine z_ti (y := 155) (by decide) ?_
                refine z_ild C dX8_goes_181 hG 2 rfl 155 (by decide) (Nat.le_of_ble_eq_true rfl) (Nat.le_of_ble_eq_true rfl) ?_
                exact k_5 ((upd (upd (upd (o_X8_rises_143_1_1 v (o_X8_rises_143_0_1 v (o_X8_does_143_1_1 v (o_X8_does_143_0_1 v sl da) db) (o_X8_does_143_0_r v sl da) dr) (o_X8_does_143_1_r v (o_X8_does_143_0_1 v sl da) db) dr) 151 (j_X8_goes_143_1_0 v ms sl da db dr)) 152 (j_X8_goes_143_3_0 v ms sl da db dr)) 155 (j_X8_goes_143_4_0 v ms sl da db dr)) 155) _ _ _ (by rw [j_X8_goes_143_5_0, if_pos c_12]) hG (lv_sub hl [0, 1, 2, 3, 4, 5, 6, 7, 8, 9] rfl)
              · skip
                refine lv_iload hx hb dX8_goes_168 (lv_at hl 0 rfl) ?_
                refine lv_goto (tgt := 182) hx hb dX8_goes_170 (by decide) ?_
                exact k_5 1 _ _ _ (by rw [j_X8_goes_143_5_0, if_neg c_12]) hG (lv_sub hl [0, 1, 2, 3, 4, 5, 6, 7, 8, 9] rfl)
            refine lv_icmp_lt (tgt := 173) hx hb dX8_goes_165 (by decide) (fun c_10 => ?_) (fun c_10 => ?_)
            · skip
              refine lv_aload_n hx hb dX8_goes_173 rfl (lv_at hl 5 rfl) ?_
              refine gf_X8_16 C dX8_goes_174 hG 0 rfl rfl ?_
              refine lv_iload_n hx hb dX8_goes_177 rfl (lv_at hl 6 rfl) ?_
              refine lv_bipush (v := 12) hx hb dX8_goes_178 (by decide) ?_
              refine lv_iadd hx hb dX8_goes_180 ?_
              refine z_ti (y := 155) (by decide) ?_
              refine z_ild C dX8_goes_181 hG 2 rfl 155 (by decide) (Nat.le_of_ble_eq_true rfl) (Nat.le_of_ble_eq_true rfl) ?_
              exact k_4 ((upd (upd (o_X8_rises_143_1_1 v (o_X8_rises_143_0_1 v (o_X8_does_143_1_1 v (o_X8_does_143_0_1 v sl da) db) (o_X8_does_143_0_r v sl da) dr) (o_X8_does_143_1_r v (o_X8_does_143_0_1 v sl da) db) dr) 151 (j_X8_goes_143_1_0 v ms sl da db dr)) 152 (j_X8_goes_143_3_0 v ms sl da db dr)) 155) _ _ _ (by rw [j_X8_goes_143_4_0, if_pos c_10]) hG (lv_sub hl [0, 1, 2, 3, 4, 5, 6, 7, 8, 9] rfl)
            · skip
              refine lv_iload hx hb dX8_goes_168 (lv_at hl 0 rfl) ?_
              refine lv_goto (tgt := 182) hx hb dX8_goes_170 (by decide) ?_
              exact k_4 0 _ _ _ (by rw [j_X8_goes_143_4_0, if_neg c_10]) hG (lv_sub hl [0, 1, 2, 3, 4, 5, 6, 7, 8, 9] rfl)
          refine lv_if_eq (tgt := 124) hx hb dX8_goes_104 (by decide) (fun c_7 => ?_) (fun c_7 => ?_)
          · skip
            refine lv_iconst (v := 0) hx hb dX8_goes_124 (by decide) ?_
            exact k_3 0 _ _ _ (by rw [j_X8_goes_143_3_0, if_pos c_7]) hG (lv_sub hl [0, 1, 2, 3, 4, 5, 6, 7, 8, 9] rfl)
          · skip
            refine lv_aload_n hx hb dX8_goes_107 rfl (lv_at hl 5 rfl) ?_
            refine gf_X8_16 C dX8_goes_108 hG 0 rfl rfl ?_
            refine lv_iload_n hx hb dX8_goes_111 rfl (lv_at hl 6 rfl) ?_
            refine lv_bipush (v := 8) hx hb dX8_goes_112 (by decide) ?_
            refine lv_iadd hx hb dX8_goes_114 ?_
            refine z_ti (y := 151) (by decide) ?_
            refine lv_iload hx hb dX8_goes_115 (lv_at hl 2 rfl) ?_
            refine lv_iadd hx hb dX8_goes_117 ?_
            refine z_ti (y := 152) (by decide) ?_
            refine z_ild C dX8_goes_118 hG 2 rfl 152 (by decide) (Nat.le_of_ble_eq_true rfl) (Nat.le_of_ble_eq_true rfl) ?_
            refine lv_iconst (v := 1) hx hb dX8_goes_119 (by decide) ?_
            refine lv_iadd hx hb dX8_goes_120 ?_
            refine lv_goto (tgt := 125) hx hb dX8_goes_121 (by decide) ?_
            exact k_3 (((upd (o_X8_rises_143_1_1 v (o_X8_rises_143_0_1 v (o_X8_does_143_1_1 v (o_X8_does_143_0_1 v sl da) db) (o_X8_does_143_0_r v sl da) dr) (o_X8_does_143_1_r v (o_X8_does_143_0_1 v sl da) db) dr) 151 (j_X8_goes_143_1_0 v ms sl da db dr)) 152) + 1) _ _ _ (by rw [j_X8_goes_143_3_0, if_neg c_7]) hG (lv_sub hl [0, 1, 2, 3, 4, 5, 6, 7, 8, 9] rfl)
        refine lv_if_eq (tgt := 87) hx hb dX8_goes_77 (by decide) (fun c_6 => ?_) (fun c_6 => ?_)
        · skip
          refine lv_iconst (v := 0) hx hb dX8_goes_87 (by decide) ?_
          exact k_2 0 _ _ _ (by rw [j_X8_goes_143_2_0, if_pos c_6]) hG (lv_sub hl [0, 1, 2, 3, 4, 5, 6, 7, 8, 9] rfl)
        · skip
          refine lv_iconst (v := 1) hx hb dX8_goes_80 (by decide) ?_
          refine lv_iload hx hb dX8_goes_81 (lv_at hl 1 rfl) ?_
          refine lv_ishl hx hb dX8_goes_83 ?_
          refine z_ti (y := 2) (by decide) ?_
          refine lv_goto (tgt := 88) hx hb dX8_goes_84 (by decide) ?_
          exact k_2 2 _ _ _ (by rw [j_X8_goes_143_2_0, if_neg c_6]) hG (lv_sub hl [0, 1, 2, 3, 4, 5, 6, 7, 8, 9] rfl)
      refine lv_if_eq (tgt := 124) hx hb dX8_goes_104 (by decide) (fun c_4 => ?_) (fun c_4 => ?_)
      · skip
        refine lv_iconst (v := 0) hx hb dX8_goes_124 (by decide) ?_
        exact k_1 0 _ _ _ (by rw [j_X8_goes_143_1_0, if_pos c_4]) hG (lv_sub hl [0, 1, 2, 3, 4, 5, 6, 7, 8, 9] rfl)
      · skip
        refine lv_aload_n hx hb dX8_goes_107 rfl (lv_at hl 5 rfl) ?_
        refine gf_X8_16 C dX8_goes_108 hG 0 rfl rfl ?_
        refine lv_iload_n hx hb dX8_goes_111 rfl (lv_at hl 6 rfl) ?_
        refine lv_bipush (v := 8) hx hb dX8_goes_112 (by decide) ?_
        refine lv_iadd hx hb dX8_goes_114 ?_
        refine z_ti (y := 151) (by decide) ?_
        refine lv_iload hx hb dX8_goes_115 (lv_at hl 2 rfl) ?_
        refine lv_iadd hx hb dX8_goes_117 ?_
        refine z_ti (y := 151) (by decide) ?_
        refine z_ild C dX8_goes_118 hG 2 rfl 151 (by decide) (Nat.le_of_ble_eq_true rfl) (Nat.le_of_ble_eq_true rfl) ?_
        refine lv_iconst (v := 1) hx hb dX8_goes_119 (by decide) ?_
        refine lv_iadd hx hb dX8_goes_120 ?_
        refine lv_goto (tgt := 125) hx hb dX8_goes_121 (by decide) ?_
        exact k_1 (((o_X8_rises_143_1_1 v (o_X8_rises_143_0_1 v (o_X8_does_143_1_1 v (o_X8_does_143_0_1 v sl da) db) (o_X8_does_143_0_r v sl da) dr) (o_X8_does_143_1_r v (o_X8_does_143_0_1 v sl da) db) dr) 151) + 1) _ _ _ (by rw [j_X8_goes_143_1_0, if_neg c_4]) hG (lv_sub hl [0, 1, 2, 3, 4, 5, 6, 7, 8, 9] rfl)
    refine lv_if_eq (tgt := 87) hx hb dX8_goes_77 (by decide) (fun c_3 => ?_) (fun c_3 => ?_)
    · skip
      refine lv_iconst (v := 0) hx hb dX8_goes_87 (by decide) ?_
      exact k_0 0 _ _ _ (by rw [j_X8_goes_143_0_0, if_pos c_3]) hG (lv_sub hl [0, 1, 2, 3, 4, 5, 6, 7, 8, 9] rfl)
    · skip
      refine lv_iconst (v := 1) hx hb dX8_goes_80 (by decide) ?_
      refine lv_iload hx hb dX8_goes_81 (lv_at hl 1 rfl) ?_
      refine lv_ishl hx hb dX8_goes_83 ?_
      refine z_ti (y := 1) (by decide) ?_
      refine lv_goto (tgt := 88) hx hb dX8_goes_84 (by decide) ?_
      exact k_0 1 _ _ _ (by rw [j_X8_goes_143_0_0, if_neg c_3]) hG (lv_sub hl [0, 1, 2, 3, 4, 5, 6, 7, 8, 9] rfl)
  · skip
    refine lv_iconst (v := 0) hx hb dX8_goes_12 (by decide) ?_
    rw [hQ]
    exact z_iret C hr hlk hG dX8_goes_13 rfl (by rw [o_X8_goes_143_r, if_neg c_1]) (by rw [o_X8_goes_143_2, if_neg c_1])
def o_X8_told_143_r (v : Nat → Int32) (ms : Nat → Int32) (sl : Nat → Int32) (da : Int32) (db : Int32) : Int32 := (o_X8_goes_143_r v ms sl da db (o_X8_isDryNow_143_r v sl))
def o_X8_told_143_2 (v : Nat → Int32) (ms : Nat → Int32) (sl : Nat → Int32) (da : Int32) (db : Int32) : Nat → Int32 := (o_X8_goes_143_2 v ms sl da db (o_X8_isDryNow_143_r v sl))
set_option maxRecDepth 100000 in
set_option maxHeartbeats 4000000 in
theorem c_X8_told_143 (l : Launch) (E : zE) (v : Nat → Int32) (ms : Nat → Int32) (sl : Nat → Int32) (da : Int32) (db : Int32) (m aS aW aL aT a1 a2 a3 aB : Nat) (hM : 0 ≤ (sl 154).toInt) : HM l E yX8_told cX8_told 4 (some .int) 4 95 [.ref m, .int 143, .int da, .int db] [(m, .inr (8, [.int (v 0), .int (v 1), .ref aS, .int (v 2), .int (v 3), .int (v 4), .ref aW, .int (v 5), .ref aL, .int (v 6), .int (v 7), .int (v 8), .ref aT, .int (v 9), .int (v 10), .int (v 11), .int (v 12), .ref a1, .ref a2, .ref a3, .ref aB, .int (v 13), .int (v 14)])), (aS, .inl (E.2.1.1, 12, .inl ms)), (aL, .inl (E.2.1.1, 156, .inl sl))] (some (.int (o_X8_told_143_r v ms sl da db))) [(m, .inr (8, [.int (v 0), .int (v 1), .ref aS, .int (v 2), .int (v 3), .int (v 4), .ref aW, .int (v 5), .ref aL, .int (v 6), .int (v 7), .int (v 8), .ref aT, .int (v 9), .int (v 10), .int (v 11), .int (v 12), .ref a1, .ref a2, .ref a3, .ref aB, .int (v 13), .int (v 14)])), (aS, .inl (E.2.1.1, 12, .inl ms)), (aL, .inl (E.2.1.1, 156, .inl (o_X8_told_143_2 v ms sl da db)))] := by
  refine HM.of (own := RX8) (plainFor_of_name (by decide)) rfl (Nat.le_of_ble_eq_true rfl) ?_
  intro zp ze zs zm za zb zt zc zA ls H locs zq C hr hlk hG hl hQ
  have hx := C.1.1
  have hb := C.1.2.1
  replace hl : lv_has ls 4 [(0, .ref m), (1, .int 143), (2, .int da), (3, .int db)] := hl
  refine lv_aload_n hx hb dX8_told_0 rfl (lv_at hl 0 rfl) ?_
  refine lv_iload_n hx hb dX8_told_1 rfl (lv_at hl 1 rfl) ?_
  refine lv_iload_n hx hb dX8_told_2 rfl (lv_at hl 2 rfl) ?_
  refine lv_iload_n hx hb dX8_told_3 rfl (lv_at hl 3 rfl) ?_
  refine lv_aload_n hx hb dX8_told_4 rfl (lv_at hl 0 rfl) ?_
  refine lv_iload_n hx hb dX8_told_5 rfl (lv_at hl 1 rfl) ?_
  refine call_X8_153 C dX8_told_6 (c_X8_isDryNow_143 l E v sl m aS aW aL aT a1 a2 a3 aB) hl hG 0 rfl [0, 2] (by decide) rfl (ads := [m, aL]) rfl rfl (ws' := [(m, .inr (8, [.int (v 0), .int (v 1), .ref aS, .int (v 2), .int (v 3), .int (v 4), .ref aW, .int (v 5), .ref aL, .int (v 6), .int (v 7), .int (v 8), .ref aT, .int (v 9), .int (v 10), .int (v 11), .int (v 12), .ref a1, .ref a2, .ref a3, .ref aB, .int (v 13), .int (v 14)])), (aS, .inl (E.2.1.1, 12, .inl ms)), (aL, .inl (E.2.1.1, 156, .inl sl))]) rfl rfl (rest := [.int db, .int da, .int 143, .ref m]) rfl (Nat.le_of_ble_eq_true rfl) ⟨Nat.le_of_ble_eq_true rfl, Nat.le_of_ble_eq_true rfl⟩ (fun H locs hG => ?_)
  refine call_X8_156 C dX8_told_9 (c_X8_goes_143 l E v ms sl da db (o_X8_isDryNow_143_r v sl) m aS aW aL aT a1 a2 a3 aB (by first | exact hM | (simpa [upd, gn_does_0_0, gn_rises_0_0, gn_does_0_1, gn_rises_0_1, gn_does_143_0, gn_rises_143_0, gn_does_143_1, gn_rises_143_1] using hM))) hl hG 0 rfl [0, 1, 2] (by decide) rfl (ads := [m, aS, aL]) rfl rfl (ws' := [(m, .inr (8, [.int (v 0), .int (v 1), .ref aS, .int (v 2), .int (v 3), .int (v 4), .ref aW, .int (v 5), .ref aL, .int (v 6), .int (v 7), .int (v 8), .ref aT, .int (v 9), .int (v 10), .int (v 11), .int (v 12), .ref a1, .ref a2, .ref a3, .ref aB, .int (v 13), .int (v 14)])), (aS, .inl (E.2.1.1, 12, .inl ms)), (aL, .inl (E.2.1.1, 156, .inl (o_X8_goes_143_2 v ms sl da db (o_X8_isDryNow_143_r v sl))))]) rfl rfl (rest := []) rfl (Nat.le_of_ble_eq_true rfl) ⟨Nat.le_of_ble_eq_true rfl, Nat.le_of_ble_eq_true rfl⟩ (fun H locs hG => ?_)
  rw [hQ]
  exact z_iret C hr hlk hG dX8_told_12 rfl (by rw [o_X8_told_143_r]) (by rw [o_X8_told_143_2])
