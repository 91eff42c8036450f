def o_X7_within_r (n : Int32) (a : Int32) (b : Int32) : Int32 := (if n < a then 0 else (if b < n then 0 else 1))
set_option maxRecDepth 100000 in
set_option maxHeartbeats 4000000 in
theorem c_X7_within (l : Launch) (E : zE) (n : Int32) (a : Int32) (b : Int32) : HM l E yX7_within cX7_within 3 (some .boolean) 0 0 [.int n, .int a, .int b] [] (some (.int (o_X7_within_r n a b))) [] := by
  refine HM.of (own := RX7) (by decide) rfl (Nat.le_of_ble_eq_true rfl) ?_
  intro zp ze zs zm za zb zt zc zA ls H locs zq C hr hlk hG hl hQ
  have hx := C.1.1
  have hb := C.1.2.1
  replace hl : lv_has ls 3 [(0, .int n), (1, .int a), (2, .int b)] := hl
  refine lv_iload_n hx hb dX7_within_0 rfl (lv_at hl 0 rfl) ?_
  refine lv_iload_n hx hb dX7_within_1 rfl (lv_at hl 1 rfl) ?_
  refine lv_icmp_lt (tgt := 14) hx hb dX7_within_2 (by decide) (fun c_1 => ?_) (fun c_1 => ?_)
  · skip
    refine lv_iconst (v := 0) hx hb dX7_within_14 (by decide) ?_
    rw [hQ]
    exact z_iret C hr hlk hG dX7_within_15 rfl (by rw [o_X7_within_r, if_pos c_1]) rfl
  · skip
    refine lv_iload_n hx hb dX7_within_5 rfl (lv_at hl 0 rfl) ?_
    refine lv_iload_n hx hb dX7_within_6 rfl (lv_at hl 2 rfl) ?_
    refine lv_icmp_gt (tgt := 14) hx hb dX7_within_7 (by decide) (fun c_2 => ?_) (fun c_2 => ?_)
    · skip
      refine lv_iconst (v := 0) hx hb dX7_within_14 (by decide) ?_
      rw [hQ]
      exact z_iret C hr hlk hG dX7_within_15 rfl (by rw [o_X7_within_r, if_neg c_1, if_pos c_2]) rfl
    · skip
      refine lv_iconst (v := 1) hx hb dX7_within_10 (by decide) ?_
      refine lv_goto (tgt := 15) hx hb dX7_within_11 (by decide) ?_
      rw [hQ]
      exact z_iret C hr hlk hG dX7_within_15 rfl (by rw [o_X7_within_r, if_neg c_1, if_neg c_2]) rfl
theorem o_X7_within_b (n : Int32) (a : Int32) (b : Int32) : o_X7_within_r n a b = 0 ∨ o_X7_within_r n a b = 1 := by
  unfold o_X7_within_r; (repeat' split) <;> first | exact Or.inl rfl | exact Or.inr rfl
def o_X7_isSide_r (p : Int32) : Int32 := (o_X7_within_r p 0 1)
set_option maxRecDepth 100000 in
set_option maxHeartbeats 4000000 in
theorem c_X7_isSide (l : Launch) (E : zE) (p : Int32) : HM l E yX7_isSide cX7_isSide 1 (some .boolean) 1 22 [.int p] [] (some (.int (o_X7_isSide_r p))) [] := by
  refine HM.of (own := RX7) (by decide) rfl (Nat.le_of_ble_eq_true rfl) ?_
  intro zp ze zs zm za zb zt zc zA ls H locs zq C hr hlk hG hl hQ
  have hx := C.1.1
  have hb := C.1.2.1
  replace hl : lv_has ls 1 [(0, .int p)] := hl
  refine lv_iload_n hx hb dX7_isSide_0 rfl (lv_at hl 0 rfl) ?_
  refine lv_iconst (v := 0) hx hb dX7_isSide_1 (by decide) ?_
  refine lv_iconst (v := 1) hx hb dX7_isSide_2 (by decide) ?_
  refine call_X7_83 C dX7_isSide_3 (c_X7_within l E p 0 1) hl hG [] (by decide) rfl rfl (ws' := []) rfl rfl (rest := []) rfl (Nat.le_of_ble_eq_true rfl) ⟨Nat.le_of_ble_eq_true rfl, Nat.le_of_ble_eq_true rfl⟩ (fun H locs hG => ?_)
  rw [hQ]
  exact z_iret C hr hlk hG dX7_isSide_6 (z_b01 (o_X7_within_b p 0 1)) (by rw [o_X7_isSide_r]) rfl
theorem o_X7_isSide_b (p : Int32) : o_X7_isSide_r p = 0 ∨ o_X7_isSide_r p = 1 := by
  unfold o_X7_isSide_r; (repeat' split) <;> first | exact Or.inl rfl | exact Or.inr rfl | exact o_X7_within_b _ _ _
def o_X7_isKind_r (p : Int32) : Int32 := (o_X7_within_r p 0 4)
set_option maxRecDepth 100000 in
set_option maxHeartbeats 4000000 in
theorem c_X7_isKind (l : Launch) (E : zE) (p : Int32) : HM l E yX7_isKind cX7_isKind 1 (some .boolean) 1 22 [.int p] [] (some (.int (o_X7_isKind_r p))) [] := by
  refine HM.of (own := RX7) (by decide) rfl (Nat.le_of_ble_eq_true rfl) ?_
  intro zp ze zs zm za zb zt zc zA ls H locs zq C hr hlk hG hl hQ
  have hx := C.1.1
  have hb := C.1.2.1
  replace hl : lv_has ls 1 [(0, .int p)] := hl
  refine lv_iload_n hx hb dX7_isKind_0 rfl (lv_at hl 0 rfl) ?_
  refine lv_iconst (v := 0) hx hb dX7_isKind_1 (by decide) ?_
  refine lv_iconst (v := 4) hx hb dX7_isKind_2 (by decide) ?_
  refine call_X7_83 C dX7_isKind_3 (c_X7_within l E p 0 4) hl hG [] (by decide) rfl rfl (ws' := []) rfl rfl (rest := []) rfl (Nat.le_of_ble_eq_true rfl) ⟨Nat.le_of_ble_eq_true rfl, Nat.le_of_ble_eq_true rfl⟩ (fun H locs hG => ?_)
  rw [hQ]
  exact z_iret C hr hlk hG dX7_isKind_6 (z_b01 (o_X7_within_b p 0 4)) (by rw [o_X7_isKind_r]) rfl
theorem o_X7_isKind_b (p : Int32) : o_X7_isKind_r p = 0 ∨ o_X7_isKind_r p = 1 := by
  unfold o_X7_isKind_r; (repeat' split) <;> first | exact Or.inl rfl | exact Or.inr rfl | exact o_X7_within_b _ _ _
def o_X7_isDeed_r (p : Int32) : Int32 := (o_X7_within_r p 0 4)
set_option maxRecDepth 100000 in
set_option maxHeartbeats 4000000 in
theorem c_X7_isDeed (l : Launch) (E : zE) (p : Int32) : HM l E yX7_isDeed cX7_isDeed 1 (some .boolean) 1 22 [.int p] [] (some (.int (o_X7_isDeed_r p))) [] := by
  refine HM.of (own := RX7) (by decide) rfl (Nat.le_of_ble_eq_true rfl) ?_
  intro zp ze zs zm za zb zt zc zA ls H locs zq C hr hlk hG hl hQ
  have hx := C.1.1
  have hb := C.1.2.1
  replace hl : lv_has ls 1 [(0, .int p)] := hl
  refine lv_iload_n hx hb dX7_isDeed_0 rfl (lv_at hl 0 rfl) ?_
  refine lv_iconst (v := 0) hx hb dX7_isDeed_1 (by decide) ?_
  refine lv_iconst (v := 4) hx hb dX7_isDeed_2 (by decide) ?_
  refine call_X7_83 C dX7_isDeed_3 (c_X7_within l E p 0 4) hl hG [] (by decide) rfl rfl (ws' := []) rfl rfl (rest := []) rfl (Nat.le_of_ble_eq_true rfl) ⟨Nat.le_of_ble_eq_true rfl, Nat.le_of_ble_eq_true rfl⟩ (fun H locs hG => ?_)
  rw [hQ]
  exact z_iret C hr hlk hG dX7_isDeed_6 (z_b01 (o_X7_within_b p 0 4)) (by rw [o_X7_isDeed_r]) rfl
theorem o_X7_isDeed_b (p : Int32) : o_X7_isDeed_r p = 0 ∨ o_X7_isDeed_r p = 1 := by
  unfold o_X7_isDeed_r; (repeat' split) <;> first | exact Or.inl rfl | exact Or.inr rfl | exact o_X7_within_b _ _ _
