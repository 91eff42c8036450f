def o_X7_within_r (n : Int32) (a : Int32) (b : Int32) : Int32 := (if n < a then 0 else (if b < n then 0 else 1))
set_option maxRecDepth 100000 in
set_option maxHeartbeats 4000000 in
theorem c_X7_within (l : Launch) (E : zE) (n : Int32) (a : Int32) (b : Int32) : HM l E yX7_within cX7_within 3 (some .boolean) 0 0 [.int n, .int a, .int b] [] (some (.int (o_X7_within_r n a b))) [] := by
  refine HM.of (own := RX7) (plainFor_of_name (by decide)) rfl (Nat.le_of_ble_eq_true rfl) ?_
  intro zp ze zs zm za zb zt zc zA ls H locs zq C hr hlk hG hl hQ
  have hx := C.1.1
  have hb := C.1.2.1
  replace hl : lv_has ls 3 [(0, .int n), (1, .int a), (2, .int b)] := hl
  refine lv_iload_n hx hb dX7_within_0 rfl (lv_at hl 0 rfl) ?_
  refine lv_iload_n hx hb dX7_within_1 rfl (lv_at hl 1 rfl) ?_
  refine lv_icmp_lt (tgt := 14) hx hb dX7_within_2 (by decide) (fun c_1 => ?_) (fun c_1 => ?_)
  · skip
    refine lv_iconst (v := 0) hx hb dX7_within_14 (by decide) ?_
    rw [hQ]
    exact z_iret C hr hlk hG dX7_within_15 rfl (by rw [o_X7_within_r, if_pos c_1]) rfl
  · skip
    refine lv_iload_n hx hb dX7_within_5 rfl (lv_at hl 0 rfl) ?_
    refine lv_iload_n hx hb dX7_within_6 rfl (lv_at hl 2 rfl) ?_
    refine lv_icmp_gt (tgt := 14) hx hb dX7_within_7 (by decide) (fun c_2 => ?_) (fun c_2 => ?_)
    · skip
      refine lv_iconst (v := 0) hx hb dX7_within_14 (by decide) ?_
      rw [hQ]
      exact z_iret C hr hlk hG dX7_within_15 rfl (by rw [o_X7_within_r, if_neg c_1, if_pos c_2]) rfl
    · skip
      refine lv_iconst (v := 1) hx hb dX7_within_10 (by decide) ?_
      refine lv_goto (tgt := 15) hx hb dX7_within_11 (by decide) ?_
      rw [hQ]
      exact z_iret C hr hlk hG dX7_within_15 rfl (by rw [o_X7_within_r, if_neg c_1, if_neg c_2]) rfl
theorem o_X7_within_b (n : Int32) (a : Int32) (b : Int32) : o_X7_within_r n a b = 0 ∨ o_X7_within_r n a b = 1 := by
  unfold o_X7_within_r; (repeat' split) <;> first | exact Or.inl rfl | exact Or.inr rfl
def o_X7_isSide_r (p : Int32) : Int32 := (o_X7_within_r p 0 1)
set_option maxRecDepth 100000 in
set_option maxHeartbeats 4000000 in
theorem c_X7_isSide (l : Launch) (E : zE) (p : Int32) : HM l E yX7_isSide cX7_isSide 1 (some .boolean) 1 22 [.int p] [] (some (.int (o_X7_isSide_r p))) [] := by
  refine HM.of (own := RX7) (plainFor_of_name (by decide)) rfl (Nat.le_of_ble_eq_true rfl) ?_
  intro zp ze zs zm za zb zt zc zA ls H locs zq C hr hlk hG hl hQ
  have hx := C.1.1
  have hb := C.1.2.1
  replace hl : lv_has ls 1 [(0, .int p)] := hl
  refine lv_iload_n hx hb dX7_isSide_0 rfl (lv_at hl 0 rfl) ?_
  refine lv_iconst (v := 0) hx hb dX7_isSide_1 (by decide) ?_
  refine lv_iconst (v := 1) hx hb dX7_isSide_2 (by decide) ?_
  refine call_X7_83 C dX7_isSide_3 (c_X7_within l E p 0 1) hl hG [] (by decide) rfl (ads := []) rfl rfl (ws' := []) rfl rfl (rest := []) rfl (Nat.le_of_ble_eq_true rfl) ⟨Nat.le_of_ble_eq_true rfl, Nat.le_of_ble_eq_true rfl⟩ (fun H locs hG => ?_)
  rw [hQ]
  exact z_iret C hr hlk hG dX7_isSide_6 (z_b01 (o_X7_within_b p 0 1)) (by rw [o_X7_isSide_r]) rfl
theorem o_X7_isSide_b (p : Int32) : o_X7_isSide_r p = 0 ∨ o_X7_isSide_r p = 1 := by
  unfold o_X7_isSide_r; (repeat' split) <;> first | exact Or.inl rfl | exact Or.inr rfl | exact o_X7_within_b _ _ _
def o_X7_isKind_r (p : Int32) : Int32 := (o_X7_within_r p 0 4)
set_option maxRecDepth 100000 in
set_option maxHeartbeats 4000000 in
theorem c_X7_isKind (l : Launch) (E : zE) (p : Int32) : HM l E yX7_isKind cX7_isKind 1 (some .boolean) 1 22 [.int p] [] (some (.int (o_X7_isKind_r p))) [] := by
  refine HM.of (own := RX7) (plainFor_of_name (by decide)) rfl (Nat.le_of_ble_eq_true rfl) ?_
  intro zp ze zs zm za zb zt zc zA ls H locs zq C hr hlk hG hl hQ
  have hx := C.1.1
  have hb := C.1.2.1
  replace hl : lv_has ls 1 [(0, .int p)] := hl
  refine lv_iload_n hx hb dX7_isKind_0 rfl (lv_at hl 0 rfl) ?_
  refine lv_iconst (v := 0) hx hb dX7_isKind_1 (by decide) ?_
  refine lv_iconst (v := 4) hx hb dX7_isKind_2 (by decide) ?_
  refine call_X7_83 C dX7_isKind_3 (c_X7_within l E p 0 4) hl hG [] (by decide) rfl (ads := []) rfl rfl (ws' := []) rfl rfl (rest := []) rfl (Nat.le_of_ble_eq_true rfl) ⟨Nat.le_of_ble_eq_true rfl, Nat.le_of_ble_eq_true rfl⟩ (fun H locs hG => ?_)
  rw [hQ]
  exact z_iret C hr hlk hG dX7_isKind_6 (z_b01 (o_X7_within_b p 0 4)) (by rw [o_X7_isKind_r]) rfl
theorem o_X7_isKind_b (p : Int32) : o_X7_isKind_r p = 0 ∨ o_X7_isKind_r p = 1 := by
  unfold o_X7_isKind_r; (repeat' split) <;> first | exact Or.inl rfl | exact Or.inr rfl | exact o_X7_within_b _ _ _
def o_X7_isDeed_r (p : Int32) : Int32 := (o_X7_within_r p 0 4)
set_option maxRecDepth 100000 in
set_option maxHeartbeats 4000000 in
theorem c_X7_isDeed (l : Launch) (E : zE) (p : Int32) : HM l E yX7_isDeed cX7_isDeed 1 (some .boolean) 1 22 [.int p] [] (some (.int (o_X7_isDeed_r p))) [] := by
  refine HM.of (own := RX7) (plainFor_of_name (by decide)) rfl (Nat.le_of_ble_eq_true rfl) ?_
  intro zp ze zs zm za zb zt zc zA ls H locs zq C hr hlk hG hl hQ
  have hx := C.1.1
  have hb := C.1.2.1
  replace hl : lv_has ls 1 [(0, .int p)] := hl
  refine lv_iload_n hx hb dX7_isDeed_0 rfl (lv_at hl 0 rfl) ?_
  refine lv_iconst (v := 0) hx hb dX7_isDeed_1 (by decide) ?_
  refine lv_iconst (v := 4) hx hb dX7_isDeed_2 (by decide) ?_
  refine call_X7_83 C dX7_isDeed_3 (c_X7_within l E p 0 4) hl hG [] (by decide) rfl (ads := []) rfl rfl (ws' := []) rfl rfl (rest := []) rfl (Nat.le_of_ble_eq_true rfl) ⟨Nat.le_of_ble_eq_true rfl, Nat.le_of_ble_eq_true rfl⟩ (fun H locs hG => ?_)
  rw [hQ]
  exact z_iret C hr hlk hG dX7_isDeed_6 (z_b01 (o_X7_within_b p 0 4)) (by rw [o_X7_isDeed_r]) rfl
theorem o_X7_isDeed_b (p : Int32) : o_X7_isDeed_r p = 0 ∨ o_X7_isDeed_r p = 1 := by
  unfold o_X7_isDeed_r; (repeat' split) <;> first | exact Or.inl rfl | exact Or.inr rfl | exact o_X7_within_b _ _ _
def o_X7_cell_r (N : Nat) (f : Nat → Int32) (i : Int32) : Int32 := (if i < 0 then 0 else (if (nI N) ≤ i then 0 else (f i.toNatClampNeg)))
set_option maxRecDepth 100000 in
set_option maxHeartbeats 4000000 in
theorem c_X7_cell (l : Launch) (E : zE) (N : Nat) (f : Nat → Int32) (i : Int32) (q : Nat) (hN : N < 2 ^ 31) : HM l E yX7_cell cX7_cell 2 (some .int) 0 0 [.ref q, .int i] [(q, .inl (E.2.1.1, N, .inl f))] (some (.int (o_X7_cell_r N f i))) [(q, .inl (E.2.1.1, N, .inl f))] := by
  refine HM.of (own := RX7) (plainFor_of_name (by decide)) rfl (Nat.le_of_ble_eq_true rfl) ?_
  intro zp ze zs zm za zb zt zc zA ls H locs zq C hr hlk hG hl hQ
  have hx := C.1.1
  have hb := C.1.2.1
  replace hl : lv_has ls 2 [(0, .ref q), (1, .int i)] := hl
  refine lv_iload_n hx hb dX7_cell_0 rfl (lv_at hl 1 rfl) ?_
  refine lv_if_lt (tgt := 16) hx hb dX7_cell_1 (by decide) (fun c_1 => ?_) (fun c_1 => ?_)
  · skip
    refine lv_iconst (v := 0) hx hb dX7_cell_16 (by decide) ?_
    rw [hQ]
    exact z_iret C hr hlk hG dX7_cell_17 rfl (by rw [o_X7_cell_r, if_pos c_1]) rfl
  · skip
    refine lv_iload_n hx hb dX7_cell_4 rfl (lv_at hl 1 rfl) ?_
    refine lv_aload_n hx hb dX7_cell_5 rfl (lv_at hl 0 rfl) ?_
    refine z_alen C dX7_cell_6 hG 0 rfl (v := (nI N)) rfl ?_
    refine lv_icmp_ge (tgt := 16) hx hb dX7_cell_7 (by decide) (fun c_2 => ?_) (fun c_2 => ?_)
    · skip
      refine lv_iconst (v := 0) hx hb dX7_cell_16 (by decide) ?_
      rw [hQ]
      exact z_iret C hr hlk hG dX7_cell_17 rfl (by rw [o_X7_cell_r, if_neg c_1, if_pos c_2]) rfl
    · skip
      refine lv_aload_n hx hb dX7_cell_10 rfl (lv_at hl 0 rfl) ?_
      refine lv_iload_n hx hb dX7_cell_11 rfl (lv_at hl 1 rfl) ?_
      refine z_iald C dX7_cell_12 hG 0 rfl (z_vin hN c_1 c_2) ?_
      refine lv_goto (tgt := 17) hx hb dX7_cell_13 (by decide) ?_
      rw [hQ]
      exact z_iret C hr hlk hG dX7_cell_17 rfl (by rw [o_X7_cell_r, if_neg c_1, if_neg c_2]) rfl
def o_X7_cell_g_r (i : Int32) : Int32 := (if i < 0 then 0 else (if (5 : Int32) ≤ i then 0 else (zGrowth i.toNatClampNeg)))
set_option maxRecDepth 100000 in
set_option maxHeartbeats 4000000 in
theorem c_X7_cell_g (l : Launch) (E : zE) (i : Int32) : HM l E yX7_cell cX7_cell 2 (some .int) 0 0 [.ref E.2.2.1, .int i] [] (some (.int (o_X7_cell_g_r i))) [] := by
  refine HM.of (own := RX7) (plainFor_of_name (by decide)) rfl (Nat.le_of_ble_eq_true rfl) ?_
  intro zp ze zs zm za zb zt zc zA ls H locs zq C hr hlk hG hl hQ
  have hx := C.1.1
  have hb := C.1.2.1
  replace hl : lv_has ls 2 [(0, .ref E.2.2.1), (1, .int i)] := hl
  refine lv_iload_n hx hb dX7_cell_0 rfl (lv_at hl 1 rfl) ?_
  refine lv_if_lt (tgt := 16) hx hb dX7_cell_1 (by decide) (fun c_1 => ?_) (fun c_1 => ?_)
  · skip
    refine lv_iconst (v := 0) hx hb dX7_cell_16 (by decide) ?_
    rw [hQ]
    exact z_iret C hr hlk hG dX7_cell_17 rfl (by rw [o_X7_cell_g_r, if_pos c_1]) rfl
  · skip
    refine lv_iload_n hx hb dX7_cell_4 rfl (lv_at hl 1 rfl) ?_
    refine lv_aload_n hx hb dX7_cell_5 rfl (lv_at hl 0 rfl) ?_
    refine va_tlen hx hb C.2.2.1.1.1.2 hG.2.2 (v := 5) (by decide) dX7_cell_6 ?_
    refine lv_icmp_ge (tgt := 16) hx hb dX7_cell_7 (by decide) (fun c_2 => ?_) (fun c_2 => ?_)
    · skip
      refine lv_iconst (v := 0) hx hb dX7_cell_16 (by decide) ?_
      rw [hQ]
      exact z_iret C hr hlk hG dX7_cell_17 rfl (by rw [o_X7_cell_g_r, if_neg c_1, if_pos c_2]) rfl
    · skip
      refine lv_aload_n hx hb dX7_cell_10 rfl (lv_at hl 0 rfl) ?_
      refine lv_iload_n hx hb dX7_cell_11 rfl (lv_at hl 1 rfl) ?_
      refine va_ti hx hb C.2.2.1.1.1.2 hG.2.2 (z_vin (n := 5) (Nat.le_of_ble_eq_true rfl) c_1 c_2) (v := .int (zGrowth i.toNatClampNeg)) rfl dX7_cell_12 ?_
      refine lv_goto (tgt := 17) hx hb dX7_cell_13 (by decide) ?_
      rw [hQ]
      exact z_iret C hr hlk hG dX7_cell_17 rfl (by rw [o_X7_cell_g_r, if_neg c_1, if_neg c_2]) rfl
def o_X7_cell_b_r (i : Int32) : Int32 := (if i < 0 then 0 else (if (5 : Int32) ≤ i then 0 else (zBound i.toNatClampNeg)))
set_option maxRecDepth 100000 in
set_option maxHeartbeats 4000000 in
theorem c_X7_cell_b (l : Launch) (E : zE) (i : Int32) : HM l E yX7_cell cX7_cell 2 (some .int) 0 0 [.ref E.2.2.2.1, .int i] [] (some (.int (o_X7_cell_b_r i))) [] := by
  refine HM.of (own := RX7) (plainFor_of_name (by decide)) rfl (Nat.le_of_ble_eq_true rfl) ?_
  intro zp ze zs zm za zb zt zc zA ls H locs zq C hr hlk hG hl hQ
  have hx := C.1.1
  have hb := C.1.2.1
  replace hl : lv_has ls 2 [(0, .ref E.2.2.2.1), (1, .int i)] := hl
  refine lv_iload_n hx hb dX7_cell_0 rfl (lv_at hl 1 rfl) ?_
  refine lv_if_lt (tgt := 16) hx hb dX7_cell_1 (by decide) (fun c_1 => ?_) (fun c_1 => ?_)
  · skip
    refine lv_iconst (v := 0) hx hb dX7_cell_16 (by decide) ?_
    rw [hQ]
    exact z_iret C hr hlk hG dX7_cell_17 rfl (by rw [o_X7_cell_b_r, if_pos c_1]) rfl
  · skip
    refine lv_iload_n hx hb dX7_cell_4 rfl (lv_at hl 1 rfl) ?_
    refine lv_aload_n hx hb dX7_cell_5 rfl (lv_at hl 0 rfl) ?_
    refine va_tlen hx hb C.2.2.1.1.2.2 hG.2.2 (v := 5) (by decide) dX7_cell_6 ?_
    refine lv_icmp_ge (tgt := 16) hx hb dX7_cell_7 (by decide) (fun c_2 => ?_) (fun c_2 => ?_)
    · skip
      refine lv_iconst (v := 0) hx hb dX7_cell_16 (by decide) ?_
      rw [hQ]
      exact z_iret C hr hlk hG dX7_cell_17 rfl (by rw [o_X7_cell_b_r, if_neg c_1, if_pos c_2]) rfl
    · skip
      refine lv_aload_n hx hb dX7_cell_10 rfl (lv_at hl 0 rfl) ?_
      refine lv_iload_n hx hb dX7_cell_11 rfl (lv_at hl 1 rfl) ?_
      refine va_ti hx hb C.2.2.1.1.2.2 hG.2.2 (z_vin (n := 5) (Nat.le_of_ble_eq_true rfl) c_1 c_2) (v := .int (zBound i.toNatClampNeg)) rfl dX7_cell_12 ?_
      refine lv_goto (tgt := 17) hx hb dX7_cell_13 (by decide) ?_
      rw [hQ]
      exact z_iret C hr hlk hG dX7_cell_17 rfl (by rw [o_X7_cell_b_r, if_neg c_1, if_neg c_2]) rfl
def o_X7_setCell_0 (N : Nat) (f : Nat → Int32) (i : Int32) (v : Int32) : Nat → Int32 := (if i < 0 then f else (if (nI N) ≤ i then f else (upd f i.toNatClampNeg v)))
set_option maxRecDepth 100000 in
set_option maxHeartbeats 4000000 in
theorem c_X7_setCell (l : Launch) (E : zE) (N : Nat) (f : Nat → Int32) (i : Int32) (v : Int32) (q : Nat) (hN : N < 2 ^ 31) : HM l E yX7_setCell cX7_setCell 3 none 0 0 [.ref q, .int i, .int v] [(q, .inl (E.2.1.1, N, .inl f))] none [(q, .inl (E.2.1.1, N, .inl (o_X7_setCell_0 N f i v)))] := by
  refine HM.of (own := RX7) (plainFor_of_name (by decide)) rfl (Nat.le_of_ble_eq_true rfl) ?_
  intro zp ze zs zm za zb zt zc zA ls H locs zq C hr hlk hG hl hQ
  have hx := C.1.1
  have hb := C.1.2.1
  replace hl : lv_has ls 3 [(0, .ref q), (1, .int i), (2, .int v)] := hl
  refine lv_iload_n hx hb dX7_setCell_0 rfl (lv_at hl 1 rfl) ?_
  refine lv_if_lt (tgt := 14) hx hb dX7_setCell_1 (by decide) (fun c_1 => ?_) (fun c_1 => ?_)
  · skip
    rw [hQ]
    exact z_vret C hr hlk hG dX7_setCell_14 rfl (by rw [o_X7_setCell_0, if_pos c_1])
  · skip
    refine lv_iload_n hx hb dX7_setCell_4 rfl (lv_at hl 1 rfl) ?_
    refine lv_aload_n hx hb dX7_setCell_5 rfl (lv_at hl 0 rfl) ?_
    refine z_alen C dX7_setCell_6 hG 0 rfl (v := (nI N)) rfl ?_
    refine lv_icmp_ge (tgt := 14) hx hb dX7_setCell_7 (by decide) (fun c_2 => ?_) (fun c_2 => ?_)
    · skip
      rw [hQ]
      exact z_vret C hr hlk hG dX7_setCell_14 rfl (by rw [o_X7_setCell_0, if_neg c_1, if_pos c_2])
    · skip
      refine lv_aload_n hx hb dX7_setCell_10 rfl (lv_at hl 0 rfl) ?_
      refine lv_iload_n hx hb dX7_setCell_11 rfl (lv_at hl 1 rfl) ?_
      refine lv_iload_n hx hb dX7_setCell_12 rfl (lv_at hl 2 rfl) ?_
      refine z_iast C dX7_setCell_13 hG 0 rfl (z_vin hN c_1 c_2) (ws' := [(q, .inl (E.2.1.1, N, .inl (upd f i.toNatClampNeg v)))]) rfl (fun H locs hG => ?_)
      rw [hQ]
      exact z_vret C hr hlk hG dX7_setCell_14 rfl (by rw [o_X7_setCell_0, if_neg c_1, if_neg c_2])
def o_J9_floorMod_7cf53_r (x : Int32) : Int32 := (if (0 : Int32) ≤ (x ^^^ 12) then (x - x / 12 * 12) else (if (x - x / 12 * 12) = 0 then (x - x / 12 * 12) else ((x - x / 12 * 12) + 12)))
set_option maxRecDepth 100000 in
set_option maxHeartbeats 4000000 in
theorem c_J9_floorMod_7cf53 (l : Launch) (E : zE) (x : Int32) : HM l E yJ9_floorMod_7cf53 cJ9_floorMod_7cf53 3 (some .int) 0 0 [.int x, .int 12] [] (some (.int (o_J9_floorMod_7cf53_r x))) [] := by
  refine HM.of (own := RJ9) (by decide +kernel) rfl (Nat.le_of_ble_eq_true rfl) ?_
  intro zp ze zs zm za zb zt zc zA ls H locs zq C hr hlk hG hl hQ
  have hx := C.1.1
  have hb := C.1.2.1
  replace hl : lv_has ls 3 [(0, .int x), (1, .int 12)] := hl
  refine lv_iload_n hx hb dJ9_floorMod_7cf53_0 rfl (lv_at hl 0 rfl) ?_
  refine lv_iload_n hx hb dJ9_floorMod_7cf53_1 rfl (lv_at hl 1 rfl) ?_
  refine lv_irem hx hb dJ9_floorMod_7cf53_2 (by decide) ?_
  refine lv_istore_n (lv' := [(2, .int (x - x / 12 * 12)), (0, .int x), (1, .int 12)]) hx hb dJ9_floorMod_7cf53_3 rfl hl (by decide) rfl (fun ls hl => ?_)
  refine lv_iload_n hx hb dJ9_floorMod_7cf53_4 rfl (lv_at hl 1 rfl) ?_
  refine lv_iload_n hx hb dJ9_floorMod_7cf53_5 rfl (lv_at hl 2 rfl) ?_
  refine lv_ixor hx hb dJ9_floorMod_7cf53_6 ?_
  refine lv_if_ge (tgt := 18) hx hb dJ9_floorMod_7cf53_7 (by decide) (fun c_1 => ?_) (fun c_1 => ?_)
  · skip
    refine lv_iload_n hx hb dJ9_floorMod_7cf53_18 rfl (lv_at hl 0 rfl) ?_
    rw [hQ]
    exact z_iret C hr hlk hG dJ9_floorMod_7cf53_19 rfl (by rw [o_J9_floorMod_7cf53_r, if_pos c_1]) rfl
  · skip
    refine lv_iload_n hx hb dJ9_floorMod_7cf53_10 rfl (lv_at hl 0 rfl) ?_
    refine lv_if_eq (tgt := 18) hx hb dJ9_floorMod_7cf53_11 (by decide) (fun c_2 => ?_) (fun c_2 => ?_)
    · skip
      refine lv_iload_n hx hb dJ9_floorMod_7cf53_18 rfl (lv_at hl 0 rfl) ?_
      rw [hQ]
      exact z_iret C hr hlk hG dJ9_floorMod_7cf53_19 rfl (by rw [o_J9_floorMod_7cf53_r, if_neg c_1, if_pos c_2]) rfl
    · skip
      refine lv_iload_n hx hb dJ9_floorMod_7cf53_14 rfl (lv_at hl 0 rfl) ?_
      refine lv_iload_n hx hb dJ9_floorMod_7cf53_15 rfl (lv_at hl 2 rfl) ?_
      refine lv_iadd hx hb dJ9_floorMod_7cf53_16 ?_
      rw [hQ]
      exact z_iret C hr hlk hG dJ9_floorMod_7cf53_17 rfl (by rw [o_J9_floorMod_7cf53_r, if_neg c_1, if_neg c_2]) rfl
def o_X1_begin_0_0 (h : Nat → Int32) (k : Int32) (hi : Int32) (co : Int32) : Int32 := k
def o_X1_begin_0_1 (h : Nat → Int32) (k : Int32) (hi : Int32) (co : Int32) : Int32 := hi
def o_X1_begin_0_3 (h : Nat → Int32) (k : Int32) (hi : Int32) (co : Int32) : Int32 := co
set_option maxRecDepth 100000 in
set_option maxHeartbeats 4000000 in
theorem c_X1_begin (l : Launch) (E : zE) (h : Nat → Int32) (k : Int32) (hi : Int32) (co : Int32) (mr : Int32) (wt : Int32) (q : Nat) : HM l E yX1_begin cX1_begin 4 none 0 0 [.ref q, .int k, .int hi, .int co] [(q, .inr (1, [.int (h 0), .int (h 1), .int (h 2), .int (h 3), .int (h 4), .int mr, .int wt]))] none [(q, .inr (1, [.int (o_X1_begin_0_0 h k hi co), .int (o_X1_begin_0_1 h k hi co), .int 0, .int (o_X1_begin_0_3 h k hi co), .int 0, .int mr, .int wt]))] := by
  refine HM.of (own := RX1) (plainFor_of_name (by decide)) rfl (Nat.le_of_ble_eq_true rfl) ?_
  intro zp ze zs zm za zb zt zc zA ls H locs zq C hr hlk hG hl hQ
  have hx := C.1.1
  have hb := C.1.2.1
  replace hl : lv_has ls 4 [(0, .ref q), (1, .int k), (2, .int hi), (3, .int co)] := hl
  refine lv_aload_n hx hb dX1_begin_0 rfl (lv_at hl 0 rfl) ?_
  refine lv_iload_n hx hb dX1_begin_1 rfl (lv_at hl 1 rfl) ?_
  refine pf_X1_9 C dX1_begin_2 hG 0 rfl (Nat.le_of_ble_eq_true rfl) (ws' := [(q, .inr (1, [.int k, .int (h 1), .int (h 2), .int (h 3), .int (h 4), .int mr, .int wt]))]) rfl (fun H locs hG => ?_)
  refine lv_aload_n hx hb dX1_begin_5 rfl (lv_at hl 0 rfl) ?_
  refine lv_iload_n hx hb dX1_begin_6 rfl (lv_at hl 2 rfl) ?_
  refine pf_X1_15 C dX1_begin_7 hG 0 rfl (Nat.le_of_ble_eq_true rfl) (ws' := [(q, .inr (1, [.int k, .int hi, .int (h 2), .int (h 3), .int (h 4), .int mr, .int wt]))]) rfl (fun H locs hG => ?_)
  refine lv_aload_n hx hb dX1_begin_10 rfl (lv_at hl 0 rfl) ?_
  refine lv_iload_n hx hb dX1_begin_11 rfl (lv_at hl 3 rfl) ?_
  refine pf_X1_18 C dX1_begin_12 hG 0 rfl (Nat.le_of_ble_eq_true rfl) (ws' := [(q, .inr (1, [.int k, .int hi, .int (h 2), .int co, .int (h 4), .int mr, .int wt]))]) rfl (fun H locs hG => ?_)
  refine lv_aload_n hx hb dX1_begin_15 rfl (lv_at hl 0 rfl) ?_
  refine lv_iconst (v := 0) hx hb dX1_begin_16 (by decide) ?_
  refine pf_X1_21 C dX1_begin_17 hG 0 rfl (Nat.le_of_ble_eq_true rfl) (ws' := [(q, .inr (1, [.int k, .int hi, .int 0, .int co, .int (h 4), .int mr, .int wt]))]) rfl (fun H locs hG => ?_)
  refine lv_aload_n hx hb dX1_begin_20 rfl (lv_at hl 0 rfl) ?_
  refine lv_iconst (v := 0) hx hb dX1_begin_21 (by decide) ?_
  refine pf_X1_24 C dX1_begin_22 hG 0 rfl (Nat.le_of_ble_eq_true rfl) (ws' := [(q, .inr (1, [.int k, .int hi, .int 0, .int co, .int 0, .int mr, .int wt]))]) rfl (fun H locs hG => ?_)
  rw [hQ]
  exact z_vret C hr hlk hG dX1_begin_25 rfl (by rw [o_X1_begin_0_0, o_X1_begin_0_1, o_X1_begin_0_3])
def o_X1_copy_0_0 (h : Nat → Int32) (o : Nat → Int32) : Int32 := (o 0)
def o_X1_copy_0_1 (h : Nat → Int32) (o : Nat → Int32) : Int32 := (o 1)
def o_X1_copy_0_2 (h : Nat → Int32) (o : Nat → Int32) : Int32 := (o 2)
def o_X1_copy_0_3 (h : Nat → Int32) (o : Nat → Int32) : Int32 := (o 3)
def o_X1_copy_0_4 (h : Nat → Int32) (o : Nat → Int32) : Int32 := (o 4)
set_option maxRecDepth 100000 in
set_option maxHeartbeats 4000000 in
theorem c_X1_copy (l : Launch) (E : zE) (h : Nat → Int32) (o : Nat → Int32) (mr : Int32) (wt : Int32) (mr2 : Int32) (wt2 : Int32) (q r : Nat) : HM l E yX1_copy cX1_copy 2 none 0 0 [.ref q, .ref r] [(q, .inr (1, [.int (h 0), .int (h 1), .int (h 2), .int (h 3), .int (h 4), .int mr, .int wt])), (r, .inr (1, [.int (o 0), .int (o 1), .int (o 2), .int (o 3), .int (o 4), .int mr2, .int wt2]))] none [(q, .inr (1, [.int (o_X1_copy_0_0 h o), .int (o_X1_copy_0_1 h o), .int (o_X1_copy_0_2 h o), .int (o_X1_copy_0_3 h o), .int (o_X1_copy_0_4 h o), .int mr, .int wt])), (r, .inr (1, [.int (o 0), .int (o 1), .int (o 2), .int (o 3), .int (o 4), .int mr2, .int wt2]))] := by
  refine HM.of (own := RX1) (plainFor_of_name (by decide)) rfl (Nat.le_of_ble_eq_true rfl) ?_
  intro zp ze zs zm za zb zt zc zA ls H locs zq C hr hlk hG hl hQ
  have hx := C.1.1
  have hb := C.1.2.1
  replace hl : lv_has ls 2 [(0, .ref q), (1, .ref r)] := hl
  refine lv_aload_n hx hb dX1_copy_0 rfl (lv_at hl 0 rfl) ?_
  refine lv_aload_n hx hb dX1_copy_1 rfl (lv_at hl 1 rfl) ?_
  refine gf_X1_9 C dX1_copy_2 hG 1 rfl rfl ?_
  refine pf_X1_9 C dX1_copy_5 hG 0 rfl (Nat.le_of_ble_eq_true rfl) (ws' := [(q, .inr (1, [.int (o 0), .int (h 1), .int (h 2), .int (h 3), .int (h 4), .int mr, .int wt])), (r, .inr (1, [.int (o 0), .int (o 1), .int (o 2), .int (o 3), .int (o 4), .int mr2, .int wt2]))]) rfl (fun H locs hG => ?_)
  refine lv_aload_n hx hb dX1_copy_8 rfl (lv_at hl 0 rfl) ?_
  refine lv_aload_n hx hb dX1_copy_9 rfl (lv_at hl 1 rfl) ?_
  refine gf_X1_15 C dX1_copy_10 hG 1 rfl rfl ?_
  refine pf_X1_15 C dX1_copy_13 hG 0 rfl (Nat.le_of_ble_eq_true rfl) (ws' := [(q, .inr (1, [.int (o 0), .int (o 1), .int (h 2), .int (h 3), .int (h 4), .int mr, .int wt])), (r, .inr (1, [.int (o 0), .int (o 1), .int (o 2), .int (o 3), .int (o 4), .int mr2, .int wt2]))]) rfl (fun H locs hG => ?_)
  refine lv_aload_n hx hb dX1_copy_16 rfl (lv_at hl 0 rfl) ?_
  refine lv_aload_n hx hb dX1_copy_17 rfl (lv_at hl 1 rfl) ?_
  refine gf_X1_21 C dX1_copy_18 hG 1 rfl rfl ?_
  refine pf_X1_21 C dX1_copy_21 hG 0 rfl (Nat.le_of_ble_eq_true rfl) (ws' := [(q, .inr (1, [.int (o 0), .int (o 1), .int (o 2), .int (h 3), .int (h 4), .int mr, .int wt])), (r, .inr (1, [.int (o 0), .int (o 1), .int (o 2), .int (o 3), .int (o 4), .int mr2, .int wt2]))]) rfl (fun H locs hG => ?_)
  refine lv_aload_n hx hb dX1_copy_24 rfl (lv_at hl 0 rfl) ?_
  refine lv_aload_n hx hb dX1_copy_25 rfl (lv_at hl 1 rfl) ?_
  refine gf_X1_18 C dX1_copy_26 hG 1 rfl rfl ?_
  refine pf_X1_18 C dX1_copy_29 hG 0 rfl (Nat.le_of_ble_eq_true rfl) (ws' := [(q, .inr (1, [.int (o 0), .int (o 1), .int (o 2), .int (o 3), .int (h 4), .int mr, .int wt])), (r, .inr (1, [.int (o 0), .int (o 1), .int (o 2), .int (o 3), .int (o 4), .int mr2, .int wt2]))]) rfl (fun H locs hG => ?_)
  refine lv_aload_n hx hb dX1_copy_32 rfl (lv_at hl 0 rfl) ?_
  refine lv_aload_n hx hb dX1_copy_33 rfl (lv_at hl 1 rfl) ?_
  refine gf_X1_24 C dX1_copy_34 hG 1 rfl rfl ?_
  refine pf_X1_24 C dX1_copy_37 hG 0 rfl (Nat.le_of_ble_eq_true rfl) (ws' := [(q, .inr (1, [.int (o 0), .int (o 1), .int (o 2), .int (o 3), .int (o 4), .int mr, .int wt])), (r, .inr (1, [.int (o 0), .int (o 1), .int (o 2), .int (o 3), .int (o 4), .int mr2, .int wt2]))]) rfl (fun H locs hG => ?_)
  rw [hQ]
  exact z_vret C hr hlk hG dX1_copy_40 rfl (by rw [o_X1_copy_0_0, o_X1_copy_0_1, o_X1_copy_0_2, o_X1_copy_0_3, o_X1_copy_0_4])
def o_X1_store_1 (N : Nat) (h : Nat → Int32) (f : Nat → Int32) (i : Int32) : Nat → Int32 := (o_X7_setCell_0 N (o_X7_setCell_0 N (o_X7_setCell_0 N (o_X7_setCell_0 N (o_X7_setCell_0 N f i (h 0)) (i + 1) (h 1)) (i + 2) (h 2)) (i + 3) (h 3)) (i + 4) (h 4))
set_option maxRecDepth 100000 in
set_option maxHeartbeats 4000000 in
theorem c_X1_store (l : Launch) (E : zE) (N : Nat) (h : Nat → Int32) (f : Nat → Int32) (i : Int32) (mr : Int32) (wt : Int32) (q r : Nat) (hN : N < 2 ^ 31) : HM l E yX1_store cX1_store 3 none 1 22 [.ref q, .ref r, .int i] [(q, .inr (1, [.int (h 0), .int (h 1), .int (h 2), .int (h 3), .int (h 4), .int mr, .int wt])), (r, .inl (E.2.1.1, N, .inl f))] none [(q, .inr (1, [.int (h 0), .int (h 1), .int (h 2), .int (h 3), .int (h 4), .int mr, .int wt])), (r, .inl (E.2.1.1, N, .inl (o_X1_store_1 N h f i)))] := by
  refine HM.of (own := RX1) (plainFor_of_name (by decide)) rfl (Nat.le_of_ble_eq_true rfl) ?_
  intro zp ze zs zm za zb zt zc zA ls H locs zq C hr hlk hG hl hQ
  have hx := C.1.1
  have hb := C.1.2.1
  replace hl : lv_has ls 3 [(0, .ref q), (1, .ref r), (2, .int i)] := hl
  refine lv_aload_n hx hb dX1_store_0 rfl (lv_at hl 1 rfl) ?_
  refine lv_iload_n hx hb dX1_store_1 rfl (lv_at hl 2 rfl) ?_
  refine lv_aload_n hx hb dX1_store_2 rfl (lv_at hl 0 rfl) ?_
  refine gf_X1_9 C dX1_store_3 hG 0 rfl rfl ?_
  refine call_X1_27 C dX1_store_6 (c_X7_setCell l E N f i (h 0) r hN) hl hG [1] (by decide) rfl (ads := [r]) rfl rfl (ws' := [(q, .inr (1, [.int (h 0), .int (h 1), .int (h 2), .int (h 3), .int (h 4), .int mr, .int wt])), (r, .inl (E.2.1.1, N, .inl (o_X7_setCell_0 N f i (h 0))))]) rfl rfl (rest := []) rfl (Nat.le_of_ble_eq_true rfl) ⟨Nat.le_of_ble_eq_true rfl, Nat.le_of_ble_eq_true rfl⟩ (fun H locs hG => ?_)
  refine lv_aload_n hx hb dX1_store_9 rfl (lv_at hl 1 rfl) ?_
  refine lv_iload_n hx hb dX1_store_10 rfl (lv_at hl 2 rfl) ?_
  refine lv_iconst (v := 1) hx hb dX1_store_11 (by decide) ?_
  refine lv_iadd hx hb dX1_store_12 ?_
  refine lv_aload_n hx hb dX1_store_13 rfl (lv_at hl 0 rfl) ?_
  refine gf_X1_15 C dX1_store_14 hG 0 rfl rfl ?_
  refine call_X1_27 C dX1_store_17 (c_X7_setCell l E N (o_X7_setCell_0 N f i (h 0)) (i + 1) (h 1) r hN) hl hG [1] (by decide) rfl (ads := [r]) rfl rfl (ws' := [(q, .inr (1, [.int (h 0), .int (h 1), .int (h 2), .int (h 3), .int (h 4), .int mr, .int wt])), (r, .inl (E.2.1.1, N, .inl (o_X7_setCell_0 N (o_X7_setCell_0 N f i (h 0)) (i + 1) (h 1))))]) rfl rfl (rest := []) rfl (Nat.le_of_ble_eq_true rfl) ⟨Nat.le_of_ble_eq_true rfl, Nat.le_of_ble_eq_true rfl⟩ (fun H locs hG => ?_)
  refine lv_aload_n hx hb dX1_store_20 rfl (lv_at hl 1 rfl) ?_
  refine lv_iload_n hx hb dX1_store_21 rfl (lv_at hl 2 rfl) ?_
  refine lv_iconst (v := 2) hx hb dX1_store_22 (by decide) ?_
  refine lv_iadd hx hb dX1_store_23 ?_
  refine lv_aload_n hx hb dX1_store_24 rfl (lv_at hl 0 rfl) ?_
  refine gf_X1_21 C dX1_store_25 hG 0 rfl rfl ?_
  refine call_X1_27 C dX1_store_28 (c_X7_setCell l E N (o_X7_setCell_0 N (o_X7_setCell_0 N f i (h 0)) (i + 1) (h 1)) (i + 2) (h 2) r hN) hl hG [1] (by decide) rfl (ads := [r]) rfl rfl (ws' := [(q, .inr (1, [.int (h 0), .int (h 1), .int (h 2), .int (h 3), .int (h 4), .int mr, .int wt])), (r, .inl (E.2.1.1, N, .inl (o_X7_setCell_0 N (o_X7_setCell_0 N (o_X7_setCell_0 N f i (h 0)) (i + 1) (h 1)) (i + 2) (h 2))))]) rfl rfl (rest := []) rfl (Nat.le_of_ble_eq_true rfl) ⟨Nat.le_of_ble_eq_true rfl, Nat.le_of_ble_eq_true rfl⟩ (fun H locs hG => ?_)
  refine lv_aload_n hx hb dX1_store_31 rfl (lv_at hl 1 rfl) ?_
  refine lv_iload_n hx hb dX1_store_32 rfl (lv_at hl 2 rfl) ?_
  refine lv_iconst (v := 3) hx hb dX1_store_33 (by decide) ?_
  refine lv_iadd hx hb dX1_store_34 ?_
  refine lv_aload_n hx hb dX1_store_35 rfl (lv_at hl 0 rfl) ?_
  refine gf_X1_18 C dX1_store_36 hG 0 rfl rfl ?_
  refine call_X1_27 C dX1_store_39 (c_X7_setCell l E N (o_X7_setCell_0 N (o_X7_setCell_0 N (o_X7_setCell_0 N f i (h 0)) (i + 1) (h 1)) (i + 2) (h 2)) (i + 3) (h 3) r hN) hl hG [1] (by decide) rfl (ads := [r]) rfl rfl (ws' := [(q, .inr (1, [.int (h 0), .int (h 1), .int (h 2), .int (h 3), .int (h 4), .int mr, .int wt])), (r, .inl (E.2.1.1, N, .inl (o_X7_setCell_0 N (o_X7_setCell_0 N (o_X7_setCell_0 N (o_X7_setCell_0 N f i (h 0)) (i + 1) (h 1)) (i + 2) (h 2)) (i + 3) (h 3))))]) rfl rfl (rest := []) rfl (Nat.le_of_ble_eq_true rfl) ⟨Nat.le_of_ble_eq_true rfl, Nat.le_of_ble_eq_true rfl⟩ (fun H locs hG => ?_)
  refine lv_aload_n hx hb dX1_store_42 rfl (lv_at hl 1 rfl) ?_
  refine lv_iload_n hx hb dX1_store_43 rfl (lv_at hl 2 rfl) ?_
  refine lv_iconst (v := 4) hx hb dX1_store_44 (by decide) ?_
  refine lv_iadd hx hb dX1_store_45 ?_
  refine lv_aload_n hx hb dX1_store_46 rfl (lv_at hl 0 rfl) ?_
  refine gf_X1_24 C dX1_store_47 hG 0 rfl rfl ?_
  refine call_X1_27 C dX1_store_50 (c_X7_setCell l E N (o_X7_setCell_0 N (o_X7_setCell_0 N (o_X7_setCell_0 N (o_X7_setCell_0 N f i (h 0)) (i + 1) (h 1)) (i + 2) (h 2)) (i + 3) (h 3)) (i + 4) (h 4) r hN) hl hG [1] (by decide) rfl (ads := [r]) rfl rfl (ws' := [(q, .inr (1, [.int (h 0), .int (h 1), .int (h 2), .int (h 3), .int (h 4), .int mr, .int wt])), (r, .inl (E.2.1.1, N, .inl (o_X7_setCell_0 N (o_X7_setCell_0 N (o_X7_setCell_0 N (o_X7_setCell_0 N (o_X7_setCell_0 N f i (h 0)) (i + 1) (h 1)) (i + 2) (h 2)) (i + 3) (h 3)) (i + 4) (h 4))))]) rfl rfl (rest := []) rfl (Nat.le_of_ble_eq_true rfl) ⟨Nat.le_of_ble_eq_true rfl, Nat.le_of_ble_eq_true rfl⟩ (fun H locs hG => ?_)
  rw [hQ]
  exact z_vret C hr hlk hG dX1_store_53 rfl (by rw [o_X1_store_1])
def o_X1_restore_h (N : Nat) (h : Nat → Int32) (f : Nat → Int32) (i : Int32) : Nat → Int32 := (mkG5 (o_X7_cell_r N f i) (o_X7_cell_r N f (i + 1)) (o_X7_cell_r N f (i + 2)) (o_X7_cell_r N f (i + 3)) (o_X7_cell_r N f (i + 4)))
set_option maxRecDepth 100000 in
set_option maxHeartbeats 4000000 in
theorem c_X1_restore (l : Launch) (E : zE) (N : Nat) (h : Nat → Int32) (f : Nat → Int32) (i : Int32) (mr : Int32) (wt : Int32) (q r : Nat) (hN : N < 2 ^ 31) : HM l E yX1_restore cX1_restore 3 none 1 21 [.ref q, .ref r, .int i] [(q, .inr (1, [.int (h 0), .int (h 1), .int (h 2), .int (h 3), .int (h 4), .int mr, .int wt])), (r, .inl (E.2.1.1, N, .inl f))] none [(q, .inr (1, [.int (o_X1_restore_h N h f i 0), .int (o_X1_restore_h N h f i 1), .int (o_X1_restore_h N h f i 2), .int (o_X1_restore_h N h f i 3), .int (o_X1_restore_h N h f i 4), .int mr, .int wt])), (r, .inl (E.2.1.1, N, .inl f))] := by
  refine HM.of (own := RX1) (plainFor_of_name (by decide)) rfl (Nat.le_of_ble_eq_true rfl) ?_
  intro zp ze zs zm za zb zt zc zA ls H locs zq C hr hlk hG hl hQ
  have hx := C.1.1
  have hb := C.1.2.1
  replace hl : lv_has ls 3 [(0, .ref q), (1, .ref r), (2, .int i)] := hl
  refine lv_aload_n hx hb dX1_restore_0 rfl (lv_at hl 0 rfl) ?_
  refine lv_aload_n hx hb dX1_restore_1 rfl (lv_at hl 1 rfl) ?_
  refine lv_iload_n hx hb dX1_restore_2 rfl (lv_at hl 2 rfl) ?_
  refine call_X1_31 C dX1_restore_3 (c_X7_cell l E N f i r hN) hl hG [1] (by decide) rfl (ads := [r]) rfl rfl (ws' := [(q, .inr (1, [.int (h 0), .int (h 1), .int (h 2), .int (h 3), .int (h 4), .int mr, .int wt])), (r, .inl (E.2.1.1, N, .inl f))]) rfl rfl (rest := [.ref q]) rfl (Nat.le_of_ble_eq_true rfl) ⟨Nat.le_of_ble_eq_true rfl, Nat.le_of_ble_eq_true rfl⟩ (fun H locs hG => ?_)
  refine pf_X1_9 C dX1_restore_6 hG 0 rfl (Nat.le_of_ble_eq_true rfl) (ws' := [(q, .inr (1, [.int (o_X7_cell_r N f i), .int (h 1), .int (h 2), .int (h 3), .int (h 4), .int mr, .int wt])), (r, .inl (E.2.1.1, N, .inl f))]) rfl (fun H locs hG => ?_)
  refine lv_aload_n hx hb dX1_restore_9 rfl (lv_at hl 0 rfl) ?_
  refine lv_aload_n hx hb dX1_restore_10 rfl (lv_at hl 1 rfl) ?_
  refine lv_iload_n hx hb dX1_restore_11 rfl (lv_at hl 2 rfl) ?_
  refine lv_iconst (v := 1) hx hb dX1_restore_12 (by decide) ?_
  refine lv_iadd hx hb dX1_restore_13 ?_
  refine call_X1_31 C dX1_restore_14 (c_X7_cell l E N f (i + 1) r hN) hl hG [1] (by decide) rfl (ads := [r]) rfl rfl (ws' := [(q, .inr (1, [.int (o_X7_cell_r N f i), .int (h 1), .int (h 2), .int (h 3), .int (h 4), .int mr, .int wt])), (r, .inl (E.2.1.1, N, .inl f))]) rfl rfl (rest := [.ref q]) rfl (Nat.le_of_ble_eq_true rfl) ⟨Nat.le_of_ble_eq_true rfl, Nat.le_of_ble_eq_true rfl⟩ (fun H locs hG => ?_)
  refine pf_X1_15 C dX1_restore_17 hG 0 rfl (Nat.le_of_ble_eq_true rfl) (ws' := [(q, .inr (1, [.int (o_X7_cell_r N f i), .int (o_X7_cell_r N f (i + 1)), .int (h 2), .int (h 3), .int (h 4), .int mr, .int wt])), (r, .inl (E.2.1.1, N, .inl f))]) rfl (fun H locs hG => ?_)
  refine lv_aload_n hx hb dX1_restore_20 rfl (lv_at hl 0 rfl) ?_
  refine lv_aload_n hx hb dX1_restore_21 rfl (lv_at hl 1 rfl) ?_
  refine lv_iload_n hx hb dX1_restore_22 rfl (lv_at hl 2 rfl) ?_
  refine lv_iconst (v := 2) hx hb dX1_restore_23 (by decide) ?_
  refine lv_iadd hx hb dX1_restore_24 ?_
  refine call_X1_31 C dX1_restore_25 (c_X7_cell l E N f (i + 2) r hN) hl hG [1] (by decide) rfl (ads := [r]) rfl rfl (ws' := [(q, .inr (1, [.int (o_X7_cell_r N f i), .int (o_X7_cell_r N f (i + 1)), .int (h 2), .int (h 3), .int (h 4), .int mr, .int wt])), (r, .inl (E.2.1.1, N, .inl f))]) rfl rfl (rest := [.ref q]) rfl (Nat.le_of_ble_eq_true rfl) ⟨Nat.le_of_ble_eq_true rfl, Nat.le_of_ble_eq_true rfl⟩ (fun H locs hG => ?_)
  refine pf_X1_21 C dX1_restore_28 hG 0 rfl (Nat.le_of_ble_eq_true rfl) (ws' := [(q, .inr (1, [.int (o_X7_cell_r N f i), .int (o_X7_cell_r N f (i + 1)), .int (o_X7_cell_r N f (i + 2)), .int (h 3), .int (h 4), .int mr, .int wt])), (r, .inl (E.2.1.1, N, .inl f))]) rfl (fun H locs hG => ?_)
  refine lv_aload_n hx hb dX1_restore_31 rfl (lv_at hl 0 rfl) ?_
  refine lv_aload_n hx hb dX1_restore_32 rfl (lv_at hl 1 rfl) ?_
  refine lv_iload_n hx hb dX1_restore_33 rfl (lv_at hl 2 rfl) ?_
  refine lv_iconst (v := 3) hx hb dX1_restore_34 (by decide) ?_
  refine lv_iadd hx hb dX1_restore_35 ?_
  refine call_X1_31 C dX1_restore_36 (c_X7_cell l E N f (i + 3) r hN) hl hG [1] (by decide) rfl (ads := [r]) rfl rfl (ws' := [(q, .inr (1, [.int (o_X7_cell_r N f i), .int (o_X7_cell_r N f (i + 1)), .int (o_X7_cell_r N f (i + 2)), .int (h 3), .int (h 4), .int mr, .int wt])), (r, .inl (E.2.1.1, N, .inl f))]) rfl rfl (rest := [.ref q]) rfl (Nat.le_of_ble_eq_true rfl) ⟨Nat.le_of_ble_eq_true rfl, Nat.le_of_ble_eq_true rfl⟩ (fun H locs hG => ?_)
  refine pf_X1_18 C dX1_restore_39 hG 0 rfl (Nat.le_of_ble_eq_true rfl) (ws' := [(q, .inr (1, [.int (o_X7_cell_r N f i), .int (o_X7_cell_r N f (i + 1)), .int (o_X7_cell_r N f (i + 2)), .int (o_X7_cell_r N f (i + 3)), .int (h 4), .int mr, .int wt])), (r, .inl (E.2.1.1, N, .inl f))]) rfl (fun H locs hG => ?_)
  refine lv_aload_n hx hb dX1_restore_42 rfl (lv_at hl 0 rfl) ?_
  refine lv_aload_n hx hb dX1_restore_43 rfl (lv_at hl 1 rfl) ?_
  refine lv_iload_n hx hb dX1_restore_44 rfl (lv_at hl 2 rfl) ?_
  refine lv_iconst (v := 4) hx hb dX1_restore_45 (by decide) ?_
  refine lv_iadd hx hb dX1_restore_46 ?_
  refine call_X1_31 C dX1_restore_47 (c_X7_cell l E N f (i + 4) r hN) hl hG [1] (by decide) rfl (ads := [r]) rfl rfl (ws' := [(q, .inr (1, [.int (o_X7_cell_r N f i), .int (o_X7_cell_r N f (i + 1)), .int (o_X7_cell_r N f (i + 2)), .int (o_X7_cell_r N f (i + 3)), .int (h 4), .int mr, .int wt])), (r, .inl (E.2.1.1, N, .inl f))]) rfl rfl (rest := [.ref q]) rfl (Nat.le_of_ble_eq_true rfl) ⟨Nat.le_of_ble_eq_true rfl, Nat.le_of_ble_eq_true rfl⟩ (fun H locs hG => ?_)
  refine pf_X1_24 C dX1_restore_50 hG 0 rfl (Nat.le_of_ble_eq_true rfl) (ws' := [(q, .inr (1, [.int (o_X7_cell_r N f i), .int (o_X7_cell_r N f (i + 1)), .int (o_X7_cell_r N f (i + 2)), .int (o_X7_cell_r N f (i + 3)), .int (o_X7_cell_r N f (i + 4)), .int mr, .int wt])), (r, .inl (E.2.1.1, N, .inl f))]) rfl (fun H locs hG => ?_)
  rw [hQ]
  exact z_vret C hr hlk hG dX1_restore_53 rfl (by rw [o_X1_restore_h, mkG5_0, mkG5_1, mkG5_2, mkG5_3, mkG5_4])
def o_X1_shadowLength_r (h : Nat → Int32) (s_ : Int32) : Int32 := (((h 1) * (10 - s_)) / 3)
set_option maxRecDepth 100000 in
set_option maxHeartbeats 4000000 in
theorem c_X1_shadowLength (l : Launch) (E : zE) (h : Nat → Int32) (s_ : Int32) (mr : Int32) (wt : Int32) (q : Nat) : HM l E yX1_shadowLength cX1_shadowLength 2 (some .int) 0 0 [.ref q, .int s_] [(q, .inr (1, [.int (h 0), .int (h 1), .int (h 2), .int (h 3), .int (h 4), .int mr, .int wt]))] (some (.int (o_X1_shadowLength_r h s_))) [(q, .inr (1, [.int (h 0), .int (h 1), .int (h 2), .int (h 3), .int (h 4), .int mr, .int wt]))] := by
  refine HM.of (own := RX1) (plainFor_of_name (by decide)) rfl (Nat.le_of_ble_eq_true rfl) ?_
  intro zp ze zs zm za zb zt zc zA ls H locs zq C hr hlk hG hl hQ
  have hx := C.1.1
  have hb := C.1.2.1
  replace hl : lv_has ls 2 [(0, .ref q), (1, .int s_)] := hl
  refine lv_aload_n hx hb dX1_shadowLength_0 rfl (lv_at hl 0 rfl) ?_
  refine gf_X1_15 C dX1_shadowLength_1 hG 0 rfl rfl ?_
  refine lv_bipush (v := 10) hx hb dX1_shadowLength_4 (by decide) ?_
  refine lv_iload_n hx hb dX1_shadowLength_6 rfl (lv_at hl 1 rfl) ?_
  refine lv_isub hx hb dX1_shadowLength_7 ?_
  refine lv_imul hx hb dX1_shadowLength_8 ?_
  refine lv_iconst (v := 3) hx hb dX1_shadowLength_9 (by decide) ?_
  refine lv_idiv hx hb dX1_shadowLength_10 (by decide) ?_
  rw [hQ]
  exact z_iret C hr hlk hG dX1_shadowLength_11 rfl (by rw [o_X1_shadowLength_r]) rfl
def o_X1_takeDung_0_1 (h : Nat → Int32) : Int32 := (if (h 1) < 3 then (if (0 : Int32) < ((h 1) - 1) then ((h 1) - 1) else 0) else (h 1))
def o_X1_takeDung_0_5 (h : Nat → Int32) (mr : Int32) : Int32 := (if (h 1) < 3 then mr else 2)
set_option maxRecDepth 100000 in
set_option maxHeartbeats 4000000 in
theorem c_X1_takeDung (l : Launch) (E : zE) (h : Nat → Int32) (mr : Int32) (wt : Int32) (q : Nat) : HM l E yX1_takeDung cX1_takeDung 1 none 1 14 [.ref q] [(q, .inr (1, [.int (h 0), .int (h 1), .int (h 2), .int (h 3), .int (h 4), .int mr, .int wt]))] none [(q, .inr (1, [.int (h 0), .int (o_X1_takeDung_0_1 h), .int (h 2), .int (h 3), .int (h 4), .int (o_X1_takeDung_0_5 h mr), .int wt]))] := by
  refine HM.of (own := RX1) (plainFor_of_name (by decide)) rfl (Nat.le_of_ble_eq_true rfl) ?_
  intro zp ze zs zm za zb zt zc zA ls H locs zq C hr hlk hG hl hQ
  have hx := C.1.1
  have hb := C.1.2.1
  replace hl : lv_has ls 1 [(0, .ref q)] := hl
  refine lv_aload_n hx hb dX1_takeDung_0 rfl (lv_at hl 0 rfl) ?_
  refine gf_X1_15 C dX1_takeDung_1 hG 0 rfl rfl ?_
  refine lv_iconst (v := 3) hx hb dX1_takeDung_4 (by decide) ?_
  refine lv_icmp_lt (tgt := 16) hx hb dX1_takeDung_5 (by decide) (fun c_1 => ?_) (fun c_1 => ?_)
  · skip
    refine lv_aload_n hx hb dX1_takeDung_16 rfl (lv_at hl 0 rfl) ?_
    refine lv_iconst (v := 0) hx hb dX1_takeDung_17 (by decide) ?_
    refine lv_aload_n hx hb dX1_takeDung_18 rfl (lv_at hl 0 rfl) ?_
    refine gf_X1_15 C dX1_takeDung_19 hG 0 rfl rfl ?_
    refine lv_iconst (v := 1) hx hb dX1_takeDung_22 (by decide) ?_
    refine lv_isub hx hb dX1_takeDung_23 ?_
    refine z_mmax C (inr19 _ (List.mem_of_getElem? (i := 9) rfl)) dX1_takeDung_24 hl (Nat.le_of_ble_eq_true rfl) (Nat.le_of_ble_eq_true rfl) ?_
    refine pf_X1_15 C dX1_takeDung_27 hG 0 rfl (Nat.le_of_ble_eq_true rfl) (ws' := [(q, .inr (1, [.int (h 0), .int (if (0 : Int32) < ((h 1) - 1) then ((h 1) - 1) else 0), .int (h 2), .int (h 3), .int (h 4), .int mr, .int wt]))]) rfl (fun H locs hG => ?_)
    rw [hQ]
    exact z_vret C hr hlk hG dX1_takeDung_30 rfl (by rw [o_X1_takeDung_0_1, if_pos c_1, o_X1_takeDung_0_5, if_pos c_1])
  · skip
    refine lv_aload_n hx hb dX1_takeDung_8 rfl (lv_at hl 0 rfl) ?_
    refine lv_iconst (v := 2) hx hb dX1_takeDung_9 (by decide) ?_
    refine pf_X1_35 C dX1_takeDung_10 hG 0 rfl (Nat.le_of_ble_eq_true rfl) (ws' := [(q, .inr (1, [.int (h 0), .int (h 1), .int (h 2), .int (h 3), .int (h 4), .int 2, .int wt]))]) rfl (fun H locs hG => ?_)
    refine lv_goto (tgt := 30) hx hb dX1_takeDung_13 (by decide) ?_
    rw [hQ]
    exact z_vret C hr hlk hG dX1_takeDung_30 rfl (by rw [o_X1_takeDung_0_1, if_neg c_1, o_X1_takeDung_0_5, if_neg c_1])
def j_X1_grow_0_0 (h : Nat → Int32) (mo : Int32) (dr : Int32) : Int32 := (if (h 0) = 2 then (if (o_J9_floorMod_7cf53_r mo) ≤ 1 then 1 else (if (o_J9_floorMod_7cf53_r mo) = 11 then 1 else 0)) else 0)
def j_X1_grow_1_0 (h : Nat → Int32) (mo : Int32) (dr : Int32) : Int32 := (if (j_X1_grow_0_0 h mo dr) = 0 then (o_X7_cell_g_r (h 0)) else (-2))
def j_X1_grow_2_0 (h : Nat → Int32) (mo : Int32) (dr : Int32) : Int32 := (if (h 0) = 2 then (if (o_J9_floorMod_7cf53_r mo) ≤ 1 then 1 else (if (o_J9_floorMod_7cf53_r mo) = 11 then 1 else 0)) else 0)
def j_X1_grow_3_0 (h : Nat → Int32) (mo : Int32) (dr : Int32) : Int32 := (if (j_X1_grow_2_0 h mo dr) = 0 then (o_X7_cell_g_r (h 0)) else (-2))
def o_X1_grow_0_1 (h : Nat → Int32) (mo : Int32) (dr : Int32) (mr : Int32) (wt : Int32) : Int32 := (if (o_X7_cell_b_r (h 0)) < (h 1) then (h 1) else (if dr = 0 then (if (0 : Int32) < (if (((h 1) + (j_X1_grow_1_0 h mo dr)) + mr) < (o_X7_cell_b_r (h 0)) then (((h 1) + (j_X1_grow_1_0 h mo dr)) + mr) else (o_X7_cell_b_r (h 0))) then (if (((h 1) + (j_X1_grow_1_0 h mo dr)) + mr) < (o_X7_cell_b_r (h 0)) then (((h 1) + (j_X1_grow_1_0 h mo dr)) + mr) else (o_X7_cell_b_r (h 0))) else 0) else (if wt = 0 then (h 1) else (if (0 : Int32) < (if (((h 1) + (j_X1_grow_3_0 h mo dr)) + mr) < (o_X7_cell_b_r (h 0)) then (((h 1) + (j_X1_grow_3_0 h mo dr)) + mr) else (o_X7_cell_b_r (h 0))) then (if (((h 1) + (j_X1_grow_3_0 h mo dr)) + mr) < (o_X7_cell_b_r (h 0)) then (((h 1) + (j_X1_grow_3_0 h mo dr)) + mr) else (o_X7_cell_b_r (h 0))) else 0))))
set_option maxRecDepth 100000 in
set_option maxHeartbeats 4000000 in
theorem c_X1_grow (l : Launch) (E : zE) (h : Nat → Int32) (mo : Int32) (dr : Int32) (mr : Int32) (wt : Int32) (q : Nat) : HM l E yX1_grow cX1_grow 8 none 1 22 [.ref q, .int mo, .int dr] [(q, .inr (1, [.int (h 0), .int (h 1), .int (h 2), .int (h 3), .int (h 4), .int mr, .int wt]))] none [(q, .inr (1, [.int (h 0), .int (o_X1_grow_0_1 h mo dr mr wt), .int (h 2), .int (h 3), .int (h 4), .int mr, .int wt]))] := by
  refine HM.of (own := RX1) (plainFor_of_name (by decide)) rfl (Nat.le_of_ble_eq_true rfl) ?_
  intro zp ze zs zm za zb zt zc zA ls H locs zq C hr hlk hG hl hQ
  have hx := C.1.1
  have hb := C.1.2.1
  replace hl : lv_has ls 8 [(0, .ref q), (1, .int mo), (2, .int dr)] := hl
  refine z_gets C hG (List.mem_of_getElem? (i := 0) rfl) ⟨rfl, rfl, rfl, rfl, rfl⟩ C.2.2.1.1.2.1 dX1_grow_0 ?_
  refine lv_aload_n hx hb dX1_grow_3 rfl (lv_at hl 0 rfl) ?_
  refine gf_X1_9 C dX1_grow_4 hG 0 rfl rfl ?_
  refine call_X1_31 C dX1_grow_7 (c_X7_cell_b l E (h 0)) hl hG [] (by decide) rfl (ads := []) rfl rfl (ws' := [(q, .inr (1, [.int (h 0), .int (h 1), .int (h 2), .int (h 3), .int (h 4), .int mr, .int wt]))]) rfl rfl (rest := []) rfl (Nat.le_of_ble_eq_true rfl) ⟨Nat.le_of_ble_eq_true rfl, Nat.le_of_ble_eq_true rfl⟩ (fun H locs hG => ?_)
  refine lv_istore_n (lv' := [(3, .int (o_X7_cell_b_r (h 0))), (0, .ref q), (1, .int mo), (2, .int dr)]) hx hb dX1_grow_10 rfl hl (by decide) rfl (fun ls hl => ?_)
  refine lv_aload_n hx hb dX1_grow_11 rfl (lv_at hl 1 rfl) ?_
  refine gf_X1_15 C dX1_grow_12 hG 0 rfl rfl ?_
  refine lv_iload_n hx hb dX1_grow_15 rfl (lv_at hl 0 rfl) ?_
  refine lv_icmp_gt (tgt := 30) hx hb dX1_grow_16 (by decide) (fun c_1 => ?_) (fun c_1 => ?_)
  · skip
    rw [hQ]
    exact z_vret C hr hlk hG dX1_grow_30 rfl (by rw [o_X1_grow_0_1, if_pos c_1])
  · skip
    refine lv_iload_n hx hb dX1_grow_19 rfl (lv_at hl 3 rfl) ?_
    refine lv_if_eq (tgt := 31) hx hb dX1_grow_20 (by decide) (fun c_2 => ?_) (fun c_2 => ?_)
    · skip
      refine lv_iload_n hx hb dX1_grow_31 rfl (lv_at hl 2 rfl) ?_
      refine lv_bipush (v := 12) hx hb dX1_grow_32 (by decide) ?_
      refine call_X1_52 C dX1_grow_34 (c_J9_floorMod_7cf53 l E mo) hl hG [] (by decide) rfl (ads := []) rfl rfl (ws' := [(q, .inr (1, [.int (h 0), .int (h 1), .int (h 2), .int (h 3), .int (h 4), .int mr, .int wt]))]) rfl rfl (rest := []) rfl (Nat.le_of_ble_eq_true rfl) ⟨Nat.le_of_ble_eq_true rfl, Nat.le_of_ble_eq_true rfl⟩ (fun H locs hG => ?_)
      refine lv_istore (lv' := [(4, .int (o_J9_floorMod_7cf53_r mo)), (3, .int (o_X7_cell_b_r (h 0))), (0, .ref q), (1, .int mo), (2, .int dr)]) hx hb dX1_grow_37 hl (by decide) rfl (fun ls hl => ?_)
      refine lv_aload_n hx hb dX1_grow_39 rfl (lv_at hl 2 rfl) ?_
      refine gf_X1_9 C dX1_grow_40 hG 0 rfl rfl ?_
      refine lv_iconst (v := 2) hx hb dX1_grow_43 (by decide) ?_
      have k_0 : ∀ (y0_0 : Int32) (H : Heap) (locs : List Loc) (ls : Array Slot), (j_X1_grow_0_0 h mo dr) = y0_0 → zG E zA zs.heap [(q, .inr (1, [.int (h 0), .int (h 1), .int (h 2), .int (h 3), .int (h 4), .int mr, .int wt]))] H locs → lv_has ls 8 [(4, .int (o_J9_floorMod_7cf53_r mo)), (3, .int (o_X7_cell_b_r (h 0))), (0, .ref q), (1, .int mo), (2, .int dr)] → W zp l ze (zR 1 22) zs zm za zb zt zc H locs 0 0 zq (F0 zm 65 ls [.int y0_0]) := by
        intro y0_0 H locs ls e_y0_0 hG hl
        subst e_y0_0
        refine lv_istore (lv' := [(5, .int (j_X1_grow_0_0 h mo dr)), (4, .int (o_J9_floorMod_7cf53_r mo)), (3, .int (o_X7_cell_b_r (h 0))), (0, .ref q), (1, .int mo), (2, .int dr)]) hx hb dX1_grow_65 hl (by decide) rfl (fun ls hl => ?_)
        refine lv_iload hx hb dX1_grow_67 (lv_at hl 0 rfl) ?_
        have k_1 : ∀ (y1_0 : Int32) (H : Heap) (locs : List Loc) (ls : Array Slot), (j_X1_grow_1_0 h mo dr) = y1_0 → zG E zA zs.heap [(q, .inr (1, [.int (h 0), .int (h 1), .int (h 2), .int (h 3), .int (h 4), .int mr, .int wt]))] H locs → lv_has ls 8 [(5, .int (j_X1_grow_0_0 h mo dr)), (4, .int (o_J9_floorMod_7cf53_r mo)), (3, .int (o_X7_cell_b_r (h 0))), (0, .ref q), (1, .int mo), (2, .int dr)] → W zp l ze (zR 1 22) zs zm za zb zt zc H locs 0 0 zq (F0 zm 87 ls [.int y1_0]) := by
          intro y1_0 H locs ls e_y1_0 hG hl
          subst e_y1_0
          refine lv_istore (lv' := [(6, .int (j_X1_grow_1_0 h mo dr)), (5, .int (j_X1_grow_0_0 h mo dr)), (4, .int (o_J9_floorMod_7cf53_r mo)), (3, .int (o_X7_cell_b_r (h 0))), (0, .ref q), (1, .int mo), (2, .int dr)]) hx hb dX1_grow_87 hl (by decide) rfl (fun ls hl => ?_)
          refine lv_aload_n hx hb dX1_grow_89 rfl (lv_at hl 4 rfl) ?_
          refine gf_X1_15 C dX1_grow_90 hG 0 rfl rfl ?_
          refine lv_iload hx hb dX1_grow_93 (lv_at hl 0 rfl) ?_
          refine lv_iadd hx hb dX1_grow_95 ?_
          refine lv_aload_n hx hb dX1_grow_96 rfl (lv_at hl 4 rfl) ?_
          refine gf_X1_35 C dX1_grow_97 hG 0 rfl rfl ?_
          refine lv_iadd hx hb dX1_grow_100 ?_
          refine lv_istore (lv' := [(7, .int (((h 1) + (j_X1_grow_1_0 h mo dr)) + mr)), (6, .int (j_X1_grow_1_0 h mo dr)), (5, .int (j_X1_grow_0_0 h mo dr)), (4, .int (o_J9_floorMod_7cf53_r mo)), (3, .int (o_X7_cell_b_r (h 0))), (0, .ref q), (1, .int mo), (2, .int dr)]) hx hb dX1_grow_101 hl (by decide) rfl (fun ls hl => ?_)
          refine lv_aload_n hx hb dX1_grow_103 rfl (lv_at hl 5 rfl) ?_
          refine lv_iconst (v := 0) hx hb dX1_grow_104 (by decide) ?_
          refine lv_iload_n hx hb dX1_grow_105 rfl (lv_at hl 4 rfl) ?_
          refine lv_iload hx hb dX1_grow_106 (lv_at hl 0 rfl) ?_
          refine z_mmin C (inr19 _ (List.mem_of_getElem? (i := 15) rfl)) dX1_grow_108 hl (Nat.le_of_ble_eq_true rfl) (Nat.le_of_ble_eq_true rfl) ?_
          refine z_mmax C (inr19 _ (List.mem_of_getElem? (i := 9) rfl)) dX1_grow_111 hl (Nat.le_of_ble_eq_true rfl) (Nat.le_of_ble_eq_true rfl) ?_
          refine pf_X1_15 C dX1_grow_114 hG 0 rfl (Nat.le_of_ble_eq_true rfl) (ws' := [(q, .inr (1, [.int (h 0), .int (if (0 : Int32) < (if (((h 1) + (j_X1_grow_1_0 h mo dr)) + mr) < (o_X7_cell_b_r (h 0)) then (((h 1) + (j_X1_grow_1_0 h mo dr)) + mr) else (o_X7_cell_b_r (h 0))) then (if (((h 1) + (j_X1_grow_1_0 h mo dr)) + mr) < (o_X7_cell_b_r (h 0)) then (((h 1) + (j_X1_grow_1_0 h mo dr)) + mr) else (o_X7_cell_b_r (h 0))) else 0), .int (h 2), .int (h 3), .int (h 4), .int mr, .int wt]))]) rfl (fun H locs hG => ?_)
          rw [hQ]
          exact z_vret C hr hlk hG dX1_grow_117 rfl (by rw [o_X1_grow_0_1, if_neg c_1, if_pos c_2])
        refine lv_if_eq (tgt := 77) hx hb dX1_grow_69 (by decide) (fun c_6 => ?_) (fun c_6 => ?_)
        · skip
          refine z_gets C hG (List.mem_of_getElem? (i := 1) rfl) ⟨rfl, rfl, rfl, rfl, rfl⟩ C.2.2.1.1.1.1 dX1_grow_77 ?_
          refine lv_aload_n hx hb dX1_grow_80 rfl (lv_at hl 3 rfl) ?_
          refine gf_X1_9 C dX1_grow_81 hG 0 rfl rfl ?_
          refine call_X1_31 C dX1_grow_84 (c_X7_cell_g l E (h 0)) hl hG [] (by decide) rfl (ads := []) rfl rfl (ws' := [(q, .inr (1, [.int (h 0), .int (h 1), .int (h 2), .int (h 3), .int (h 4), .int mr, .int wt]))]) rfl rfl (rest := []) rfl (Nat.le_of_ble_eq_true rfl) ⟨Nat.le_of_ble_eq_true rfl, Nat.le_of_ble_eq_true rfl⟩ (fun H locs hG => ?_)
          exact k_1 (o_X7_cell_g_r (h 0)) _ _ _ (by rw [j_X1_grow_1_0, if_pos c_6]) hG (lv_sub hl [0, 1, 2, 3, 4, 5] rfl)
        · skip
          refine lv_bipush (v := (-2)) hx hb dX1_grow_72 (by decide) ?_
          refine lv_goto (tgt := 87) hx hb dX1_grow_74 (by decide) ?_
          exact k_1 (-2) _ _ _ (by rw [j_X1_grow_1_0, if_neg c_6]) hG (lv_sub hl [0, 1, 2, 3, 4, 5] rfl)
      refine lv_icmp_ne (tgt := 64) hx hb dX1_grow_44 (by decide) (fun c_3 => ?_) (fun c_3 => ?_)
      · skip
        refine lv_iconst (v := 0) hx hb dX1_grow_64 (by decide) ?_
        exact k_0 0 _ _ _ (by rw [j_X1_grow_0_0, if_neg c_3]) hG (lv_sub hl [0, 1, 2, 3, 4] rfl)
      · skip
        refine lv_iload hx hb dX1_grow_47 (lv_at hl 0 rfl) ?_
        refine lv_iconst (v := 1) hx hb dX1_grow_49 (by decide) ?_
        refine lv_icmp_le (tgt := 60) hx hb dX1_grow_50 (by decide) (fun c_7 => ?_) (fun c_7 => ?_)
        · skip
          refine lv_iconst (v := 1) hx hb dX1_grow_60 (by decide) ?_
          refine lv_goto (tgt := 65) hx hb dX1_grow_61 (by decide) ?_
          exact k_0 1 _ _ _ (by rw [j_X1_grow_0_0, if_pos c_3, if_pos c_7]) hG (lv_sub hl [0, 1, 2, 3, 4] rfl)
        · skip
          refine lv_iload hx hb dX1_grow_53 (lv_at hl 0 rfl) ?_
          refine lv_bipush (v := 11) hx hb dX1_grow_55 (by decide) ?_
          refine lv_icmp_ne (tgt := 64) hx hb dX1_grow_57 (by decide) (fun c_8 => ?_) (fun c_8 => ?_)
          · skip
            refine lv_iconst (v := 0) hx hb dX1_grow_64 (by decide) ?_
            exact k_0 0 _ _ _ (by rw [j_X1_grow_0_0, if_pos c_3, if_neg c_7, if_neg c_8]) hG (lv_sub hl [0, 1, 2, 3, 4] rfl)
          · skip
            refine lv_iconst (v := 1) hx hb dX1_grow_60 (by decide) ?_
            refine lv_goto (tgt := 65) hx hb dX1_grow_61 (by decide) ?_
            exact k_0 1 _ _ _ (by rw [j_X1_grow_0_0, if_pos c_3, if_neg c_7, if_pos c_8]) hG (lv_sub hl [0, 1, 2, 3, 4] rfl)
    · skip
      refine lv_aload_n hx hb dX1_grow_23 rfl (lv_at hl 1 rfl) ?_
      refine gf_X1_48 C dX1_grow_24 hG 0 rfl rfl ?_
      refine lv_if_ne (tgt := 31) hx hb dX1_grow_27 (by decide) (fun c_9 => ?_) (fun c_9 => ?_)
      · skip
        refine lv_iload_n hx hb dX1_grow_31 rfl (lv_at hl 2 rfl) ?_
        refine lv_bipush (v := 12) hx hb dX1_grow_32 (by decide) ?_
        refine call_X1_52 C dX1_grow_34 (c_J9_floorMod_7cf53 l E mo) hl hG [] (by decide) rfl (ads := []) rfl rfl (ws' := [(q, .inr (1, [.int (h 0), .int (h 1), .int (h 2), .int (h 3), .int (h 4), .int mr, .int wt]))]) rfl rfl (rest := []) rfl (Nat.le_of_ble_eq_true rfl) ⟨Nat.le_of_ble_eq_true rfl, Nat.le_of_ble_eq_true rfl⟩ (fun H locs hG => ?_)
        refine lv_istore (lv' := [(4, .int (o_J9_floorMod_7cf53_r mo)), (3, .int (o_X7_cell_b_r (h 0))), (0, .ref q), (1, .int mo), (2, .int dr)]) hx hb dX1_grow_37 hl (by decide) rfl (fun ls hl => ?_)
        refine lv_aload_n hx hb dX1_grow_39 rfl (lv_at hl 2 rfl) ?_
        refine gf_X1_9 C dX1_grow_40 hG 0 rfl rfl ?_
        refine lv_iconst (v := 2) hx hb dX1_grow_43 (by decide) ?_
        have k_2 : ∀ (y2_0 : Int32) (H : Heap) (locs : List Loc) (ls : Array Slot), (j_X1_grow_2_0 h mo dr) = y2_0 → zG E zA zs.heap [(q, .inr (1, [.int (h 0), .int (h 1), .int (h 2), .int (h 3), .int (h 4), .int mr, .int wt]))] H locs → lv_has ls 8 [(4, .int (o_J9_floorMod_7cf53_r mo)), (3, .int (o_X7_cell_b_r (h 0))), (0, .ref q), (1, .int mo), (2, .int dr)] → W zp l ze (zR 1 22) zs zm za zb zt zc H locs 0 0 zq (F0 zm 65 ls [.int y2_0]) := by
          intro y2_0 H locs ls e_y2_0 hG hl
          subst e_y2_0
          refine lv_istore (lv' := [(5, .int (j_X1_grow_2_0 h mo dr)), (4, .int (o_J9_floorMod_7cf53_r mo)), (3, .int (o_X7_cell_b_r (h 0))), (0, .ref q), (1, .int mo), (2, .int dr)]) hx hb dX1_grow_65 hl (by decide) rfl (fun ls hl => ?_)
          refine lv_iload hx hb dX1_grow_67 (lv_at hl 0 rfl) ?_
          have k_3 : ∀ (y3_0 : Int32) (H : Heap) (locs : List Loc) (ls : Array Slot), (j_X1_grow_3_0 h mo dr) = y3_0 → zG E zA zs.heap [(q, .inr (1, [.int (h 0), .int (h 1), .int (h 2), .int (h 3), .int (h 4), .int mr, .int wt]))] H locs → lv_has ls 8 [(5, .int (j_X1_grow_2_0 h mo dr)), (4, .int (o_J9_floorMod_7cf53_r mo)), (3, .int (o_X7_cell_b_r (h 0))), (0, .ref q), (1, .int mo), (2, .int dr)] → W zp l ze (zR 1 22) zs zm za zb zt zc H locs 0 0 zq (F0 zm 87 ls [.int y3_0]) := by
            intro y3_0 H locs ls e_y3_0 hG hl
            subst e_y3_0
            refine lv_istore (lv' := [(6, .int (j_X1_grow_3_0 h mo dr)), (5, .int (j_X1_grow_2_0 h mo dr)), (4, .int (o_J9_floorMod_7cf53_r mo)), (3, .int (o_X7_cell_b_r (h 0))), (0, .ref q), (1, .int mo), (2, .int dr)]) hx hb dX1_grow_87 hl (by decide) rfl (fun ls hl => ?_)
            refine lv_aload_n hx hb dX1_grow_89 rfl (lv_at hl 4 rfl) ?_
            refine gf_X1_15 C dX1_grow_90 hG 0 rfl rfl ?_
            refine lv_iload hx hb dX1_grow_93 (lv_at hl 0 rfl) ?_
            refine lv_iadd hx hb dX1_grow_95 ?_
            refine lv_aload_n hx hb dX1_grow_96 rfl (lv_at hl 4 rfl) ?_
            refine gf_X1_35 C dX1_grow_97 hG 0 rfl rfl ?_
            refine lv_iadd hx hb dX1_grow_100 ?_
            refine lv_istore (lv' := [(7, .int (((h 1) + (j_X1_grow_3_0 h mo dr)) + mr)), (6, .int (j_X1_grow_3_0 h mo dr)), (5, .int (j_X1_grow_2_0 h mo dr)), (4, .int (o_J9_floorMod_7cf53_r mo)), (3, .int (o_X7_cell_b_r (h 0))), (0, .ref q), (1, .int mo), (2, .int dr)]) hx hb dX1_grow_101 hl (by decide) rfl (fun ls hl => ?_)
            refine lv_aload_n hx hb dX1_grow_103 rfl (lv_at hl 5 rfl) ?_
            refine lv_iconst (v := 0) hx hb dX1_grow_104 (by decide) ?_
            refine lv_iload_n hx hb dX1_grow_105 rfl (lv_at hl 4 rfl) ?_
            refine lv_iload hx hb dX1_grow_106 (lv_at hl 0 rfl) ?_
            refine z_mmin C (inr19 _ (List.mem_of_getElem? (i := 15) rfl)) dX1_grow_108 hl (Nat.le_of_ble_eq_true rfl) (Nat.le_of_ble_eq_true rfl) ?_
            refine z_mmax C (inr19 _ (List.mem_of_getElem? (i := 9) rfl)) dX1_grow_111 hl (Nat.le_of_ble_eq_true rfl) (Nat.le_of_ble_eq_true rfl) ?_
            refine pf_X1_15 C dX1_grow_114 hG 0 rfl (Nat.le_of_ble_eq_true rfl) (ws' := [(q, .inr (1, [.int (h 0), .int (if (0 : Int32) < (if (((h 1) + (j_X1_grow_3_0 h mo dr)) + mr) < (o_X7_cell_b_r (h 0)) then (((h 1) + (j_X1_grow_3_0 h mo dr)) + mr) else (o_X7_cell_b_r (h 0))) then (if (((h 1) + (j_X1_grow_3_0 h mo dr)) + mr) < (o_X7_cell_b_r (h 0)) then (((h 1) + (j_X1_grow_3_0 h mo dr)) + mr) else (o_X7_cell_b_r (h 0))) else 0), .int (h 2), .int (h 3), .int (h 4), .int mr, .int wt]))]) rfl (fun H locs hG => ?_)
            rw [hQ]
            exact z_vret C hr hlk hG dX1_grow_117 rfl (by rw [o_X1_grow_0_1, if_neg c_1, if_neg c_2, if_neg c_9])
          refine lv_if_eq (tgt := 77) hx hb dX1_grow_69 (by decide) (fun c_13 => ?_) (fun c_13 => ?_)
          · skip
            refine z_gets C hG (List.mem_of_getElem? (i := 1) rfl) ⟨rfl, rfl, rfl, rfl, rfl⟩ C.2.2.1.1.1.1 dX1_grow_77 ?_
            refine lv_aload_n hx hb dX1_grow_80 rfl (lv_at hl 3 rfl) ?_
            refine gf_X1_9 C dX1_grow_81 hG 0 rfl rfl ?_
            refine call_X1_31 C dX1_grow_84 (c_X7_cell_g l E (h 0)) hl hG [] (by decide) rfl (ads := []) rfl rfl (ws' := [(q, .inr (1, [.int (h 0), .int (h 1), .int (h 2), .int (h 3), .int (h 4), .int mr, .int wt]))]) rfl rfl (rest := []) rfl (Nat.le_of_ble_eq_true rfl) ⟨Nat.le_of_ble_eq_true rfl, Nat.le_of_ble_eq_true rfl⟩ (fun H locs hG => ?_)
            exact k_3 (o_X7_cell_g_r (h 0)) _ _ _ (by rw [j_X1_grow_3_0, if_pos c_13]) hG (lv_sub hl [0, 1, 2, 3, 4, 5] rfl)
          · skip
            refine lv_bipush (v := (-2)) hx hb dX1_grow_72 (by decide) ?_
            refine lv_goto (tgt := 87) hx hb dX1_grow_74 (by decide) ?_
            exact k_3 (-2) _ _ _ (by rw [j_X1_grow_3_0, if_neg c_13]) hG (lv_sub hl [0, 1, 2, 3, 4, 5] rfl)
        refine lv_icmp_ne (tgt := 64) hx hb dX1_grow_44 (by decide) (fun c_10 => ?_) (fun c_10 => ?_)
        · skip
          refine lv_iconst (v := 0) hx hb dX1_grow_64 (by decide) ?_
          exact k_2 0 _ _ _ (by rw [j_X1_grow_2_0, if_neg c_10]) hG (lv_sub hl [0, 1, 2, 3, 4] rfl)
        · skip
          refine lv_iload hx hb dX1_grow_47 (lv_at hl 0 rfl) ?_
          refine lv_iconst (v := 1) hx hb dX1_grow_49 (by decide) ?_
          refine lv_icmp_le (tgt := 60) hx hb dX1_grow_50 (by decide) (fun c_14 => ?_) (fun c_14 => ?_)
          · skip
            refine lv_iconst (v := 1) hx hb dX1_grow_60 (by decide) ?_
            refine lv_goto (tgt := 65) hx hb dX1_grow_61 (by decide) ?_
            exact k_2 1 _ _ _ (by rw [j_X1_grow_2_0, if_pos c_10, if_pos c_14]) hG (lv_sub hl [0, 1, 2, 3, 4] rfl)
          · skip
            refine lv_iload hx hb dX1_grow_53 (lv_at hl 0 rfl) ?_
            refine lv_bipush (v := 11) hx hb dX1_grow_55 (by decide) ?_
            refine lv_icmp_ne (tgt := 64) hx hb dX1_grow_57 (by decide) (fun c_15 => ?_) (fun c_15 => ?_)
            · skip
              refine lv_iconst (v := 0) hx hb dX1_grow_64 (by decide) ?_
              exact k_2 0 _ _ _ (by rw [j_X1_grow_2_0, if_pos c_10, if_neg c_14, if_neg c_15]) hG (lv_sub hl [0, 1, 2, 3, 4] rfl)
            · skip
              refine lv_iconst (v := 1) hx hb dX1_grow_60 (by decide) ?_
              refine lv_goto (tgt := 65) hx hb dX1_grow_61 (by decide) ?_
              exact k_2 1 _ _ _ (by rw [j_X1_grow_2_0, if_pos c_10, if_neg c_14, if_pos c_15]) hG (lv_sub hl [0, 1, 2, 3, 4] rfl)
      · skip
        rw [hQ]
        exact z_vret C hr hlk hG dX1_grow_30 rfl (by rw [o_X1_grow_0_1, if_neg c_1, if_neg c_2, if_pos c_9])
def o_X6_sunIn_r (sun : Nat → Int32) (dry : Nat → Int32) (len : Int32) (need : Int32) (m_ : Int32) : Int32 := (o_X7_cell_r 12 sun (o_J9_floorMod_7cf53_r m_))
set_option maxRecDepth 100000 in
set_option maxHeartbeats 4000000 in
theorem c_X6_sunIn (l : Launch) (E : zE) (sun : Nat → Int32) (dry : Nat → Int32) (len : Int32) (need : Int32) (m_ : Int32) (qS qs qd : Nat) : HM l E yX6_sunIn cX6_sunIn 2 (some .int) 1 22 [.ref qS, .int m_] [(qS, .inr (6, [.ref qs, .ref qd, .int len, .int need])), (qs, .inl (E.2.1.1, 12, .inl sun)), (qd, .inl (E.2.1.1, 12, .inl dry))] (some (.int (o_X6_sunIn_r sun dry len need m_))) [(qS, .inr (6, [.ref qs, .ref qd, .int len, .int need])), (qs, .inl (E.2.1.1, 12, .inl sun)), (qd, .inl (E.2.1.1, 12, .inl dry))] := by
  refine HM.of (own := RX6) (plainFor_of_name (by decide)) rfl (Nat.le_of_ble_eq_true rfl) ?_
  intro zp ze zs zm za zb zt zc zA ls H locs zq C hr hlk hG hl hQ
  have hx := C.1.1
  have hb := C.1.2.1
  replace hl : lv_has ls 2 [(0, .ref qS), (1, .int m_)] := hl
  refine lv_aload_n hx hb dX6_sunIn_0 rfl (lv_at hl 0 rfl) ?_
  refine gf_X6_9 C dX6_sunIn_1 hG 0 rfl rfl ?_
  refine lv_iload_n hx hb dX6_sunIn_4 rfl (lv_at hl 1 rfl) ?_
  refine lv_bipush (v := 12) hx hb dX6_sunIn_5 (by decide) ?_
  refine call_X6_29 C dX6_sunIn_7 (c_J9_floorMod_7cf53 l E m_) hl hG [] (by decide) rfl (ads := []) rfl rfl (ws' := [(qS, .inr (6, [.ref qs, .ref qd, .int len, .int need])), (qs, .inl (E.2.1.1, 12, .inl sun)), (qd, .inl (E.2.1.1, 12, .inl dry))]) rfl rfl (rest := [.ref qs]) rfl (Nat.le_of_ble_eq_true rfl) ⟨Nat.le_of_ble_eq_true rfl, Nat.le_of_ble_eq_true rfl⟩ (fun H locs hG => ?_)
  refine call_X6_35 C dX6_sunIn_10 (c_X7_cell l E 12 sun (o_J9_floorMod_7cf53_r m_) qs (Nat.le_of_ble_eq_true rfl)) hl hG [1] (by decide) rfl (ads := [qs]) rfl rfl (ws' := [(qS, .inr (6, [.ref qs, .ref qd, .int len, .int need])), (qs, .inl (E.2.1.1, 12, .inl sun)), (qd, .inl (E.2.1.1, 12, .inl dry))]) rfl rfl (rest := []) rfl (Nat.le_of_ble_eq_true rfl) ⟨Nat.le_of_ble_eq_true rfl, Nat.le_of_ble_eq_true rfl⟩ (fun H locs hG => ?_)
  rw [hQ]
  exact z_iret C hr hlk hG dX6_sunIn_13 rfl (by rw [o_X6_sunIn_r]) rfl
def o_X6_isDry_r (sun : Nat → Int32) (dry : Nat → Int32) (len : Int32) (need : Int32) (m_ : Int32) : Int32 := (if (o_X7_cell_r 12 dry (o_J9_floorMod_7cf53_r m_)) = 1 then 1 else 0)
set_option maxRecDepth 100000 in
set_option maxHeartbeats 4000000 in
theorem c_X6_isDry (l : Launch) (E : zE) (sun : Nat → Int32) (dry : Nat → Int32) (len : Int32) (need : Int32) (m_ : Int32) (qS qs qd : Nat) : HM l E yX6_isDry cX6_isDry 2 (some .boolean) 1 22 [.ref qS, .int m_] [(qS, .inr (6, [.ref qs, .ref qd, .int len, .int need])), (qs, .inl (E.2.1.1, 12, .inl sun)), (qd, .inl (E.2.1.1, 12, .inl dry))] (some (.int (o_X6_isDry_r sun dry len need m_))) [(qS, .inr (6, [.ref qs, .ref qd, .int len, .int need])), (qs, .inl (E.2.1.1, 12, .inl sun)), (qd, .inl (E.2.1.1, 12, .inl dry))] := by
  refine HM.of (own := RX6) (plainFor_of_name (by decide)) rfl (Nat.le_of_ble_eq_true rfl) ?_
  intro zp ze zs zm za zb zt zc zA ls H locs zq C hr hlk hG hl hQ
  have hx := C.1.1
  have hb := C.1.2.1
  replace hl : lv_has ls 2 [(0, .ref qS), (1, .int m_)] := hl
  refine lv_aload_n hx hb dX6_isDry_0 rfl (lv_at hl 0 rfl) ?_
  refine gf_X6_15 C dX6_isDry_1 hG 0 rfl rfl ?_
  refine lv_iload_n hx hb dX6_isDry_4 rfl (lv_at hl 1 rfl) ?_
  refine lv_bipush (v := 12) hx hb dX6_isDry_5 (by decide) ?_
  refine call_X6_29 C dX6_isDry_7 (c_J9_floorMod_7cf53 l E m_) hl hG [] (by decide) rfl (ads := []) rfl rfl (ws' := [(qS, .inr (6, [.ref qs, .ref qd, .int len, .int need])), (qs, .inl (E.2.1.1, 12, .inl sun)), (qd, .inl (E.2.1.1, 12, .inl dry))]) rfl rfl (rest := [.ref qd]) rfl (Nat.le_of_ble_eq_true rfl) ⟨Nat.le_of_ble_eq_true rfl, Nat.le_of_ble_eq_true rfl⟩ (fun H locs hG => ?_)
  refine call_X6_35 C dX6_isDry_10 (c_X7_cell l E 12 dry (o_J9_floorMod_7cf53_r m_) qd (Nat.le_of_ble_eq_true rfl)) hl hG [2] (by decide) rfl (ads := [qd]) rfl rfl (ws' := [(qS, .inr (6, [.ref qs, .ref qd, .int len, .int need])), (qs, .inl (E.2.1.1, 12, .inl sun)), (qd, .inl (E.2.1.1, 12, .inl dry))]) rfl rfl (rest := []) rfl (Nat.le_of_ble_eq_true rfl) ⟨Nat.le_of_ble_eq_true rfl, Nat.le_of_ble_eq_true rfl⟩ (fun H locs hG => ?_)
  refine lv_iconst (v := 1) hx hb dX6_isDry_13 (by decide) ?_
  refine lv_icmp_ne (tgt := 21) hx hb dX6_isDry_14 (by decide) (fun c_1 => ?_) (fun c_1 => ?_)
  · skip
    refine lv_iconst (v := 0) hx hb dX6_isDry_21 (by decide) ?_
    rw [hQ]
    exact z_iret C hr hlk hG dX6_isDry_22 rfl (by rw [o_X6_isDry_r, if_neg c_1]) rfl
  · skip
    refine lv_iconst (v := 1) hx hb dX6_isDry_17 (by decide) ?_
    refine lv_goto (tgt := 22) hx hb dX6_isDry_18 (by decide) ?_
    rw [hQ]
    exact z_iret C hr hlk hG dX6_isDry_22 rfl (by rw [o_X6_isDry_r, if_pos c_1]) rfl
theorem o_X6_isDry_b (sun : Nat → Int32) (dry : Nat → Int32) (len : Int32) (need : Int32) (m_ : Int32) : o_X6_isDry_r sun dry len need m_ = 0 ∨ o_X6_isDry_r sun dry len need m_ = 1 := by
  unfold o_X6_isDry_r; (repeat' split) <;> first | exact Or.inl rfl | exact Or.inr rfl
