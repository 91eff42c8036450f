theorem z_le200 {x : Int32} (h : x.toInt ≤ 200) : x ≤ 200 := by
  rw [Int32.le_iff_toInt_le]; exact h
theorem z_at {x : Int32} (h : 0 ≤ x.toInt) (h2 : x < 200) : vp_in x 200 := by
  have e := z_clamp h
  generalize x.toNatClampNeg = k at e
  obtain ⟨rfl, e3⟩ := e
  rw [Int32.lt_iff_toInt_lt, ← e3] at h2
  have h5 : (200 : Int32).toInt = 200 := by decide
  exact vp_in_nI (by omega) (by decide)
def o_X8_next_r (v : Nat → Int32) (tx : Nat → Int32) : Int32 := (if (v 8) ≤ (v 9) then (-1) else (tx ((v 9).toNatClampNeg)))
set_option maxRecDepth 100000 in
set_option maxHeartbeats 4000000 in
theorem c_X8_next (l : Launch) (E : zE) (v : Nat → Int32) (tx : Nat → Int32) (m aS aW aL aT a1 a2 a3 aB : Nat) (hat : 0 ≤ (v 9).toInt) (hlen : (v 8).toInt ≤ 200) : HM l E yX8_next cX8_next 1 (some .int) 0 0 [.ref m] [(m, .inr (8, [.int (v 0), .int (v 1), .ref aS, .int (v 2), .int (v 3), .int (v 4), .ref aW, .int (v 5), .ref aL, .int (v 6), .int (v 7), .int (v 8), .ref aT, .int (v 9), .int (v 10), .int (v 11), .int (v 12), .ref a1, .ref a2, .ref a3, .ref aB, .int (v 13), .int (v 14)])), (aT, .inl (E.2.1.2, 200, .inl tx))] (some (.int (o_X8_next_r v tx))) [(m, .inr (8, [.int (v 0), .int (v 1), .ref aS, .int (v 2), .int (v 3), .int (v 4), .ref aW, .int (v 5), .ref aL, .int (v 6), .int (v 7), .int (v 8), .ref aT, .int (v 9), .int (v 10), .int (v 11), .int (v 12), .ref a1, .ref a2, .ref a3, .ref aB, .int (v 13), .int (v 14)])), (aT, .inl (E.2.1.2, 200, .inl tx))] := by
  refine HM.of (own := RX8) (plainFor_of_name (by decide)) rfl (Nat.le_of_ble_eq_true rfl) ?_
  intro zp ze zs zm za zb zt zc zA ls H locs zq C hr hlk hG hl hQ
  have hx := C.1.1
  have hb := C.1.2.1
  replace hl : lv_has ls 1 [(0, .ref m)] := hl
  refine lv_aload_n hx hb dX8_next_0 rfl (lv_at hl 0 rfl) ?_
  refine gf_X8_56 C dX8_next_1 hG 0 rfl rfl ?_
  refine lv_aload_n hx hb dX8_next_4 rfl (lv_at hl 0 rfl) ?_
  refine gf_X8_53 C dX8_next_5 hG 0 rfl rfl ?_
  refine lv_icmp_ge (tgt := 23) hx hb dX8_next_8 (by decide) (fun c_1 => ?_) (fun c_1 => ?_)
  · skip
    refine lv_iconst (v := (-1)) hx hb dX8_next_23 (by decide) ?_
    rw [hQ]
    exact z_iret C hr hlk hG dX8_next_24 rfl (by rw [o_X8_next_r, if_pos c_1]) rfl
  · skip
    refine lv_aload_n hx hb dX8_next_11 rfl (lv_at hl 0 rfl) ?_
    refine gf_X8_19 C dX8_next_12 hG 0 rfl rfl ?_
    refine lv_aload_n hx hb dX8_next_15 rfl (lv_at hl 0 rfl) ?_
    refine gf_X8_56 C dX8_next_16 hG 0 rfl rfl ?_
    refine z_bald C dX8_next_19 hG 1 rfl (z_at hat (Int32.lt_of_lt_of_le (Int32.not_le.mp c_1) (z_le200 hlen))) ?_
    refine lv_goto (tgt := 24) hx hb dX8_next_20 (by decide) ?_
    rw [hQ]
    exact z_iret C hr hlk hG dX8_next_24 rfl (by rw [o_X8_next_r, if_neg c_1]) rfl
