theorem z_drop_no {k N : Nat} (hk : k < N - 12) (hN : N < 2 ^ 31) : ¬ nI N ≤ nI k + 12 := by
  rw [show (12 : Int32) = nI 12 from rfl, nI_add, nI_leI hN (by omega)]; omega
theorem z_drop_yes {N : Nat} (h : 12 ≤ N) : nI N ≤ nI (N - 12) + 12 := by
  rw [show (12 : Int32) = nI 12 from rfl, nI_add, show N - 12 + 12 = N by omega]; exact Int32.le_refl _
def o_X2_add_0_2 (lt : Nat → Int32) (nu : Nat → Int32) (sz : Int32) (am : Int32) (x : Int32) : Int32 := (sz + 1)
def o_X2_add_1 (lt : Nat → Int32) (nu : Nat → Int32) (sz : Int32) (am : Int32) (x : Int32) : Nat → Int32 := (o_X7_setCell_0 200 lt sz x)
set_option maxRecDepth 100000 in
set_option maxHeartbeats 4000000 in
theorem c_X2_add (l : Launch) (E : zE) (lt : Nat → Int32) (nu : Nat → Int32) (sz : Int32) (am : Int32) (x : Int32) (qP ql qn : Nat) : HM l E yX2_add cX2_add 2 none 1 22 [.ref qP, .int x] [(qP, .inr (2, [.ref ql, .ref qn, .int sz, .int am])), (ql, .inl (E.2.1.1, 200, .inl lt)), (qn, .inl (E.2.1.1, 4, .inl nu))] none [(qP, .inr (2, [.ref ql, .ref qn, .int (o_X2_add_0_2 lt nu sz am x), .int am])), (ql, .inl (E.2.1.1, 200, .inl (o_X2_add_1 lt nu sz am x))), (qn, .inl (E.2.1.1, 4, .inl nu))] := by
  refine HM.of (own := RX2) (plainFor_of_name (by decide)) rfl (Nat.le_of_ble_eq_true rfl) ?_
  intro zp ze zs zm za zb zt zc zA ls H locs zq C hr hlk hG hl hQ
  have hx := C.1.1
  have hb := C.1.2.1
  replace hl : lv_has ls 2 [(0, .ref qP), (1, .int x)] := hl
  refine lv_aload_n hx hb dX2_add_0 rfl (lv_at hl 0 rfl) ?_
  refine gf_X2_9 C dX2_add_1 hG 0 rfl rfl ?_
  refine lv_aload_n hx hb dX2_add_4 rfl (lv_at hl 0 rfl) ?_
  refine gf_X2_18 C dX2_add_5 hG 0 rfl rfl ?_
  refine lv_iload_n hx hb dX2_add_8 rfl (lv_at hl 1 rfl) ?_
  refine call_X2_22 C dX2_add_9 (c_X7_setCell l E 200 lt sz x ql (Nat.le_of_ble_eq_true rfl)) hl hG [1] (by decide) rfl (ads := [ql]) rfl rfl (ws' := [(qP, .inr (2, [.ref ql, .ref qn, .int sz, .int am])), (ql, .inl (E.2.1.1, 200, .inl (o_X7_setCell_0 200 lt sz x))), (qn, .inl (E.2.1.1, 4, .inl nu))]) rfl rfl (rest := []) rfl (Nat.le_of_ble_eq_true rfl) ⟨Nat.le_of_ble_eq_true rfl, Nat.le_of_ble_eq_true rfl⟩ (fun H locs hG => ?_)
  refine lv_aload_n hx hb dX2_add_12 rfl (lv_at hl 0 rfl) ?_
  refine lv_dup hx hb dX2_add_13 rfl ?_
  refine gf_X2_18 C dX2_add_14 hG 0 rfl rfl ?_
  refine lv_iconst (v := 1) hx hb dX2_add_17 (by decide) ?_
  refine lv_iadd hx hb dX2_add_18 ?_
  refine pf_X2_18 C dX2_add_19 hG 0 rfl (Nat.le_of_ble_eq_true rfl) (ws' := [(qP, .inr (2, [.ref ql, .ref qn, .int (sz + 1), .int am])), (ql, .inl (E.2.1.1, 200, .inl (o_X7_setCell_0 200 lt sz x))), (qn, .inl (E.2.1.1, 4, .inl nu))]) rfl (fun H locs hG => ?_)
  rw [hQ]
  exact z_vret C hr hlk hG dX2_add_22 rfl (by rw [o_X2_add_0_2, o_X2_add_1])
def o_X2_letterAt_r (lt : Nat → Int32) (nu : Nat → Int32) (sz : Int32) (am : Int32) (i : Int32) : Int32 := (if i < 0 then (-4) else (if sz ≤ i then (-4) else (o_X7_cell_r 200 lt i)))
set_option maxRecDepth 100000 in
set_option maxHeartbeats 4000000 in
theorem c_X2_letterAt (l : Launch) (E : zE) (lt : Nat → Int32) (nu : Nat → Int32) (sz : Int32) (am : Int32) (i : Int32) (qP ql qn : Nat) : HM l E yX2_letterAt cX2_letterAt 2 (some .int) 1 21 [.ref qP, .int i] [(qP, .inr (2, [.ref ql, .ref qn, .int sz, .int am])), (ql, .inl (E.2.1.1, 200, .inl lt)), (qn, .inl (E.2.1.1, 4, .inl nu))] (some (.int (o_X2_letterAt_r lt nu sz am i))) [(qP, .inr (2, [.ref ql, .ref qn, .int sz, .int am])), (ql, .inl (E.2.1.1, 200, .inl lt)), (qn, .inl (E.2.1.1, 4, .inl nu))] := by
  refine HM.of (own := RX2) (plainFor_of_name (by decide)) rfl (Nat.le_of_ble_eq_true rfl) ?_
  intro zp ze zs zm za zb zt zc zA ls H locs zq C hr hlk hG hl hQ
  have hx := C.1.1
  have hb := C.1.2.1
  replace hl : lv_has ls 2 [(0, .ref qP), (1, .int i)] := hl
  refine lv_iload_n hx hb dX2_letterAt_0 rfl (lv_at hl 1 rfl) ?_
  refine lv_if_lt (tgt := 23) hx hb dX2_letterAt_1 (by decide) (fun c_1 => ?_) (fun c_1 => ?_)
  · skip
    refine lv_bipush (v := (-4)) hx hb dX2_letterAt_23 (by decide) ?_
    rw [hQ]
    exact z_iret C hr hlk hG dX2_letterAt_25 rfl (by rw [o_X2_letterAt_r, if_pos c_1]) rfl
  · skip
    refine lv_iload_n hx hb dX2_letterAt_4 rfl (lv_at hl 1 rfl) ?_
    refine lv_aload_n hx hb dX2_letterAt_5 rfl (lv_at hl 0 rfl) ?_
    refine gf_X2_18 C dX2_letterAt_6 hG 0 rfl rfl ?_
    refine lv_icmp_ge (tgt := 23) hx hb dX2_letterAt_9 (by decide) (fun c_2 => ?_) (fun c_2 => ?_)
    · skip
      refine lv_bipush (v := (-4)) hx hb dX2_letterAt_23 (by decide) ?_
      rw [hQ]
      exact z_iret C hr hlk hG dX2_letterAt_25 rfl (by rw [o_X2_letterAt_r, if_neg c_1, if_pos c_2]) rfl
    · skip
      refine lv_aload_n hx hb dX2_letterAt_12 rfl (lv_at hl 0 rfl) ?_
      refine gf_X2_9 C dX2_letterAt_13 hG 0 rfl rfl ?_
      refine lv_iload_n hx hb dX2_letterAt_16 rfl (lv_at hl 1 rfl) ?_
      refine call_X2_26 C dX2_letterAt_17 (c_X7_cell l E 200 lt i ql (Nat.le_of_ble_eq_true rfl)) hl hG [1] (by decide) rfl (ads := [ql]) rfl rfl (ws' := [(qP, .inr (2, [.ref ql, .ref qn, .int sz, .int am])), (ql, .inl (E.2.1.1, 200, .inl lt)), (qn, .inl (E.2.1.1, 4, .inl nu))]) rfl rfl (rest := []) rfl (Nat.le_of_ble_eq_true rfl) ⟨Nat.le_of_ble_eq_true rfl, Nat.le_of_ble_eq_true rfl⟩ (fun H locs hG => ?_)
      refine lv_goto (tgt := 25) hx hb dX2_letterAt_20 (by decide) ?_
      rw [hQ]
      exact z_iret C hr hlk hG dX2_letterAt_25 rfl (by rw [o_X2_letterAt_r, if_neg c_1, if_neg c_2]) rfl
def o_X2_figureAt_r (lt : Nat → Int32) (nu : Nat → Int32) (sz : Int32) (am : Int32) (i : Int32) : Int32 := (if (o_X7_within_r (o_X2_letterAt_r lt nu sz am i) 48 57) = 0 then (-4) else ((o_X2_letterAt_r lt nu sz am i) - 48))
set_option maxRecDepth 100000 in
set_option maxHeartbeats 4000000 in
theorem c_X2_figureAt (l : Launch) (E : zE) (lt : Nat → Int32) (nu : Nat → Int32) (sz : Int32) (am : Int32) (i : Int32) (qP ql qn : Nat) : HM l E yX2_figureAt cX2_figureAt 3 (some .int) 2 42 [.ref qP, .int i] [(qP, .inr (2, [.ref ql, .ref qn, .int sz, .int am])), (ql, .inl (E.2.1.1, 200, .inl lt)), (qn, .inl (E.2.1.1, 4, .inl nu))] (some (.int (o_X2_figureAt_r lt nu sz am i))) [(qP, .inr (2, [.ref ql, .ref qn, .int sz, .int am])), (ql, .inl (E.2.1.1, 200, .inl lt)), (qn, .inl (E.2.1.1, 4, .inl nu))] := by
  refine HM.of (own := RX2) (plainFor_of_name (by decide)) rfl (Nat.le_of_ble_eq_true rfl) ?_
  intro zp ze zs zm za zb zt zc zA ls H locs zq C hr hlk hG hl hQ
  have hx := C.1.1
  have hb := C.1.2.1
  replace hl : lv_has ls 3 [(0, .ref qP), (1, .int i)] := hl
  refine lv_aload_n hx hb dX2_figureAt_0 rfl (lv_at hl 0 rfl) ?_
  refine lv_iload_n hx hb dX2_figureAt_1 rfl (lv_at hl 1 rfl) ?_
  refine call_X2_30 C dX2_figureAt_2 (c_X2_letterAt l E lt nu sz am i qP ql qn) hl hG 0 rfl [0, 1, 2] (by decide) rfl (ads := [qP, ql, qn]) rfl rfl (ws' := [(qP, .inr (2, [.ref ql, .ref qn, .int sz, .int am])), (ql, .inl (E.2.1.1, 200, .inl lt)), (qn, .inl (E.2.1.1, 4, .inl nu))]) rfl rfl (rest := []) rfl (Nat.le_of_ble_eq_true rfl) ⟨Nat.le_of_ble_eq_true rfl, Nat.le_of_ble_eq_true rfl⟩ (fun H locs hG => ?_)
  refine lv_istore_n (lv' := [(2, .int (o_X2_letterAt_r lt nu sz am i)), (0, .ref qP), (1, .int i)]) hx hb dX2_figureAt_5 rfl hl (by decide) rfl (fun ls hl => ?_)
  refine lv_iload_n hx hb dX2_figureAt_6 rfl (lv_at hl 0 rfl) ?_
  refine lv_bipush (v := 48) hx hb dX2_figureAt_7 (by decide) ?_
  refine lv_bipush (v := 57) hx hb dX2_figureAt_9 (by decide) ?_
  refine call_X2_34 C dX2_figureAt_11 (c_X7_within l E (o_X2_letterAt_r lt nu sz am i) 48 57) hl hG [] (by decide) rfl (ads := []) rfl rfl (ws' := [(qP, .inr (2, [.ref ql, .ref qn, .int sz, .int am])), (ql, .inl (E.2.1.1, 200, .inl lt)), (qn, .inl (E.2.1.1, 4, .inl nu))]) rfl rfl (rest := []) rfl (Nat.le_of_ble_eq_true rfl) ⟨Nat.le_of_ble_eq_true rfl, Nat.le_of_ble_eq_true rfl⟩ (fun H locs hG => ?_)
  refine lv_if_eq (tgt := 24) hx hb dX2_figureAt_14 (by decide) (fun c_1 => ?_) (fun c_1 => ?_)
  · skip
    refine lv_bipush (v := (-4)) hx hb dX2_figureAt_24 (by decide) ?_
    rw [hQ]
    exact z_iret C hr hlk hG dX2_figureAt_26 rfl (by rw [o_X2_figureAt_r, if_pos c_1]) rfl
  · skip
    refine lv_iload_n hx hb dX2_figureAt_17 rfl (lv_at hl 0 rfl) ?_
    refine lv_bipush (v := 48) hx hb dX2_figureAt_18 (by decide) ?_
    refine lv_isub hx hb dX2_figureAt_20 ?_
    refine lv_goto (tgt := 26) hx hb dX2_figureAt_21 (by decide) ?_
    rw [hQ]
    exact z_iret C hr hlk hG dX2_figureAt_26 rfl (by rw [o_X2_figureAt_r, if_neg c_1]) rfl
def o_X2_number_r (lt : Nat → Int32) (nu : Nat → Int32) (sz : Int32) (am : Int32) (i : Int32) (lo : Int32) (hi : Int32) : Int32 := (o_X7_within_r (o_X7_cell_r 4 nu i) lo hi)
set_option maxRecDepth 100000 in
set_option maxHeartbeats 4000000 in
theorem c_X2_number (l : Launch) (E : zE) (lt : Nat → Int32) (nu : Nat → Int32) (sz : Int32) (am : Int32) (i : Int32) (lo : Int32) (hi : Int32) (qP ql qn : Nat) : HM l E yX2_number cX2_number 4 (some .boolean) 1 22 [.ref qP, .int i, .int lo, .int hi] [(qP, .inr (2, [.ref ql, .ref qn, .int sz, .int am])), (ql, .inl (E.2.1.1, 200, .inl lt)), (qn, .inl (E.2.1.1, 4, .inl nu))] (some (.int (o_X2_number_r lt nu sz am i lo hi))) [(qP, .inr (2, [.ref ql, .ref qn, .int sz, .int am])), (ql, .inl (E.2.1.1, 200, .inl lt)), (qn, .inl (E.2.1.1, 4, .inl nu))] := by
  refine HM.of (own := RX2) (plainFor_of_name (by decide)) rfl (Nat.le_of_ble_eq_true rfl) ?_
  intro zp ze zs zm za zb zt zc zA ls H locs zq C hr hlk hG hl hQ
  have hx := C.1.1
  have hb := C.1.2.1
  replace hl : lv_has ls 4 [(0, .ref qP), (1, .int i), (2, .int lo), (3, .int hi)] := hl
  refine lv_aload_n hx hb dX2_number_0 rfl (lv_at hl 0 rfl) ?_
  refine gf_X2_15 C dX2_number_1 hG 0 rfl rfl ?_
  refine lv_iload_n hx hb dX2_number_4 rfl (lv_at hl 1 rfl) ?_
  refine call_X2_26 C dX2_number_5 (c_X7_cell l E 4 nu i qn (Nat.le_of_ble_eq_true rfl)) hl hG [2] (by decide) rfl (ads := [qn]) rfl rfl (ws' := [(qP, .inr (2, [.ref ql, .ref qn, .int sz, .int am])), (ql, .inl (E.2.1.1, 200, .inl lt)), (qn, .inl (E.2.1.1, 4, .inl nu))]) rfl rfl (rest := []) rfl (Nat.le_of_ble_eq_true rfl) ⟨Nat.le_of_ble_eq_true rfl, Nat.le_of_ble_eq_true rfl⟩ (fun H locs hG => ?_)
  refine lv_iload_n hx hb dX2_number_8 rfl (lv_at hl 2 rfl) ?_
  refine lv_iload_n hx hb dX2_number_9 rfl (lv_at hl 3 rfl) ?_
  refine call_X2_34 C dX2_number_10 (c_X7_within l E (o_X7_cell_r 4 nu i) lo hi) hl hG [] (by decide) rfl (ads := []) rfl rfl (ws' := [(qP, .inr (2, [.ref ql, .ref qn, .int sz, .int am])), (ql, .inl (E.2.1.1, 200, .inl lt)), (qn, .inl (E.2.1.1, 4, .inl nu))]) rfl rfl (rest := []) rfl (Nat.le_of_ble_eq_true rfl) ⟨Nat.le_of_ble_eq_true rfl, Nat.le_of_ble_eq_true rfl⟩ (fun H locs hG => ?_)
  rw [hQ]
  exact z_iret C hr hlk hG dX2_number_13 (z_b01 (o_X7_within_b (o_X7_cell_r 4 nu i) lo hi)) (by rw [o_X2_number_r]) rfl
theorem o_X2_number_b (lt : Nat → Int32) (nu : Nat → Int32) (sz : Int32) (am : Int32) (i : Int32) (lo : Int32) (hi : Int32) : o_X2_number_r lt nu sz am i lo hi = 0 ∨ o_X2_number_r lt nu sz am i lo hi = 1 := by
  unfold o_X2_number_r; (repeat' split) <;> first | exact Or.inl rfl | exact Or.inr rfl | exact o_X7_within_b _ _ _
def o_X2_isSo_r (lt : Nat → Int32) (nu : Nat → Int32) (sz : Int32) (am : Int32) (x : Int32) : Int32 := (if x = 100 then (if am = 1 then (if (o_X2_number_r lt nu sz am 0 0 11) = 0 then 0 else 1) else 0) else (if x = 104 then (if am = 4 then (if (o_X2_number_r lt nu sz am 0 0 1) = 0 then 0 else (if (o_X2_number_r lt nu sz am 1 0 4) = 0 then 0 else (if (o_X2_number_r lt nu sz am 2 0 40) = 0 then 0 else 1))) else 0) else (if x = 108 then (if am = 1 then (if (o_X2_number_r lt nu sz am 0 1 40) = 0 then 0 else 1) else 0) else (if x = 114 then (if am = 1 then (if (o_X2_number_r lt nu sz am 0 1 6) = 0 then 0 else 1) else 0) else (if x = 115 then (if am = 2 then (if (o_X2_number_r lt nu sz am 0 0 11) = 0 then 0 else (if (o_X2_number_r lt nu sz am 1 1 9) = 0 then 0 else 1)) else 0) else (if x = 119 then (if am = 1 then 1 else 0) else 0))))))
set_option maxRecDepth 100000 in
set_option maxHeartbeats 4000000 in
theorem c_X2_isSo (l : Launch) (E : zE) (lt : Nat → Int32) (nu : Nat → Int32) (sz : Int32) (am : Int32) (x : Int32) (qP ql qn : Nat) : HM l E yX2_isSo cX2_isSo 2 (some .boolean) 2 45 [.ref qP, .int x] [(qP, .inr (2, [.ref ql, .ref qn, .int sz, .int am])), (ql, .inl (E.2.1.1, 200, .inl lt)), (qn, .inl (E.2.1.1, 4, .inl nu))] (some (.int (o_X2_isSo_r lt nu sz am x))) [(qP, .inr (2, [.ref ql, .ref qn, .int sz, .int am])), (ql, .inl (E.2.1.1, 200, .inl lt)), (qn, .inl (E.2.1.1, 4, .inl nu))] := by
  refine HM.of (own := RX2) (plainFor_of_name (by decide)) rfl (Nat.le_of_ble_eq_true rfl) ?_
  intro zp ze zs zm za zb zt zc zA ls H locs zq C hr hlk hG hl hQ
  have hx := C.1.1
  have hb := C.1.2.1
  replace hl : lv_has ls 2 [(0, .ref qP), (1, .int x)] := hl
  refine lv_iload_n hx hb dX2_isSo_0 rfl (lv_at hl 1 rfl) ?_
  by_cases c_1 : x = 100
  · refine lv_tableIn (off := 215) (tgt := 216) hx hb dX2_isSo_1 (by rw [c_1]; decide) (by rw [c_1]; decide) (by rw [c_1]; decide) (by decide) ?_
    refine lv_aload_n hx hb dX2_isSo_216 rfl (lv_at hl 0 rfl) ?_
    refine gf_X2_41 C dX2_isSo_217 hG 0 rfl rfl ?_
    refine lv_iconst (v := 1) hx hb dX2_isSo_220 (by decide) ?_
    refine lv_icmp_ne (tgt := 239) hx hb dX2_isSo_221 (by decide) (fun c_2 => ?_) (fun c_2 => ?_)
    · skip
      refine lv_iconst (v := 0) hx hb dX2_isSo_239 (by decide) ?_
      rw [hQ]
      exact z_iret C hr hlk hG dX2_isSo_240 rfl (by rw [o_X2_isSo_r, if_pos c_1, if_neg c_2]) rfl
    · skip
      refine lv_aload_n hx hb dX2_isSo_224 rfl (lv_at hl 0 rfl) ?_
      refine lv_iconst (v := 0) hx hb dX2_isSo_225 (by decide) ?_
      refine lv_iconst (v := 0) hx hb dX2_isSo_226 (by decide) ?_
      refine lv_bipush (v := 11) hx hb dX2_isSo_227 (by decide) ?_
      refine call_X2_51 C dX2_isSo_229 (c_X2_number l E lt nu sz am 0 0 11 qP ql qn) hl hG 0 rfl [0, 1, 2] (by decide) rfl (ads := [qP, ql, qn]) rfl rfl (ws' := [(qP, .inr (2, [.ref ql, .ref qn, .int sz, .int am])), (ql, .inl (E.2.1.1, 200, .inl lt)), (qn, .inl (E.2.1.1, 4, .inl nu))]) rfl rfl (rest := []) rfl (Nat.le_of_ble_eq_true rfl) ⟨Nat.le_of_ble_eq_true rfl, Nat.le_of_ble_eq_true rfl⟩ (fun H locs hG => ?_)
      refine lv_if_eq (tgt := 239) hx hb dX2_isSo_232 (by decide) (fun c_3 => ?_) (fun c_3 => ?_)
      · skip
        refine lv_iconst (v := 0) hx hb dX2_isSo_239 (by decide) ?_
        rw [hQ]
        exact z_iret C hr hlk hG dX2_isSo_240 rfl (by rw [o_X2_isSo_r, if_pos c_1, if_pos c_2, if_pos c_3]) rfl
      · skip
        refine lv_iconst (v := 1) hx hb dX2_isSo_235 (by decide) ?_
        refine lv_goto (tgt := 240) hx hb dX2_isSo_236 (by decide) ?_
        rw [hQ]
        exact z_iret C hr hlk hG dX2_isSo_240 rfl (by rw [o_X2_isSo_r, if_pos c_1, if_pos c_2, if_neg c_3]) rfl
  by_cases c_4 : x = 104
  · refine lv_tableIn (off := 120) (tgt := 121) hx hb dX2_isSo_1 (by rw [c_4]; decide) (by rw [c_4]; decide) (by rw [c_4]; decide) (by decide) ?_
    refine lv_aload_n hx hb dX2_isSo_121 rfl (lv_at hl 0 rfl) ?_
    refine gf_X2_41 C dX2_isSo_122 hG 0 rfl rfl ?_
    refine lv_iconst (v := 4) hx hb dX2_isSo_125 (by decide) ?_
    refine lv_icmp_ne (tgt := 164) hx hb dX2_isSo_126 (by decide) (fun c_5 => ?_) (fun c_5 => ?_)
    · skip
      refine lv_iconst (v := 0) hx hb dX2_isSo_164 (by decide) ?_
      rw [hQ]
      exact z_iret C hr hlk hG dX2_isSo_165 rfl (by rw [o_X2_isSo_r, if_neg c_1, if_pos c_4, if_neg c_5]) rfl
    · skip
      refine lv_aload_n hx hb dX2_isSo_129 rfl (lv_at hl 0 rfl) ?_
      refine lv_iconst (v := 0) hx hb dX2_isSo_130 (by decide) ?_
      refine lv_iconst (v := 0) hx hb dX2_isSo_131 (by decide) ?_
      refine lv_iconst (v := 1) hx hb dX2_isSo_132 (by decide) ?_
      refine call_X2_51 C dX2_isSo_133 (c_X2_number l E lt nu sz am 0 0 1 qP ql qn) hl hG 0 rfl [0, 1, 2] (by decide) rfl (ads := [qP, ql, qn]) rfl rfl (ws' := [(qP, .inr (2, [.ref ql, .ref qn, .int sz, .int am])), (ql, .inl (E.2.1.1, 200, .inl lt)), (qn, .inl (E.2.1.1, 4, .inl nu))]) rfl rfl (rest := []) rfl (Nat.le_of_ble_eq_true rfl) ⟨Nat.le_of_ble_eq_true rfl, Nat.le_of_ble_eq_true rfl⟩ (fun H locs hG => ?_)
      refine lv_if_eq (tgt := 164) hx hb dX2_isSo_136 (by decide) (fun c_6 => ?_) (fun c_6 => ?_)
      · skip
        refine lv_iconst (v := 0) hx hb dX2_isSo_164 (by decide) ?_
        rw [hQ]
        exact z_iret C hr hlk hG dX2_isSo_165 rfl (by rw [o_X2_isSo_r, if_neg c_1, if_pos c_4, if_pos c_5, if_pos c_6]) rfl
      · skip
        refine lv_aload_n hx hb dX2_isSo_139 rfl (lv_at hl 0 rfl) ?_
        refine lv_iconst (v := 1) hx hb dX2_isSo_140 (by decide) ?_
        refine lv_iconst (v := 0) hx hb dX2_isSo_141 (by decide) ?_
        refine lv_iconst (v := 4) hx hb dX2_isSo_142 (by decide) ?_
        refine call_X2_51 C dX2_isSo_143 (c_X2_number l E lt nu sz am 1 0 4 qP ql qn) hl hG 0 rfl [0, 1, 2] (by decide) rfl (ads := [qP, ql, qn]) rfl rfl (ws' := [(qP, .inr (2, [.ref ql, .ref qn, .int sz, .int am])), (ql, .inl (E.2.1.1, 200, .inl lt)), (qn, .inl (E.2.1.1, 4, .inl nu))]) rfl rfl (rest := []) rfl (Nat.le_of_ble_eq_true rfl) ⟨Nat.le_of_ble_eq_true rfl, Nat.le_of_ble_eq_true rfl⟩ (fun H locs hG => ?_)
        refine lv_if_eq (tgt := 164) hx hb dX2_isSo_146 (by decide) (fun c_7 => ?_) (fun c_7 => ?_)
        · skip
          refine lv_iconst (v := 0) hx hb dX2_isSo_164 (by decide) ?_
          rw [hQ]
          exact z_iret C hr hlk hG dX2_isSo_165 rfl (by rw [o_X2_isSo_r, if_neg c_1, if_pos c_4, if_pos c_5, if_neg c_6, if_pos c_7]) rfl
        · skip
          refine lv_aload_n hx hb dX2_isSo_149 rfl (lv_at hl 0 rfl) ?_
          refine lv_iconst (v := 2) hx hb dX2_isSo_150 (by decide) ?_
          refine lv_iconst (v := 0) hx hb dX2_isSo_151 (by decide) ?_
          refine lv_bipush (v := 40) hx hb dX2_isSo_152 (by decide) ?_
          refine call_X2_51 C dX2_isSo_154 (c_X2_number l E lt nu sz am 2 0 40 qP ql qn) hl hG 0 rfl [0, 1, 2] (by decide) rfl (ads := [qP, ql, qn]) rfl rfl (ws' := [(qP, .inr (2, [.ref ql, .ref qn, .int sz, .int am])), (ql, .inl (E.2.1.1, 200, .inl lt)), (qn, .inl (E.2.1.1, 4, .inl nu))]) rfl rfl (rest := []) rfl (Nat.le_of_ble_eq_true rfl) ⟨Nat.le_of_ble_eq_true rfl, Nat.le_of_ble_eq_true rfl⟩ (fun H locs hG => ?_)
          refine lv_if_eq (tgt := 164) hx hb dX2_isSo_157 (by decide) (fun c_8 => ?_) (fun c_8 => ?_)
          · skip
            refine lv_iconst (v := 0) hx hb dX2_isSo_164 (by decide) ?_
            rw [hQ]
            exact z_iret C hr hlk hG dX2_isSo_165 rfl (by rw [o_X2_isSo_r, if_neg c_1, if_pos c_4, if_pos c_5, if_neg c_6, if_neg c_7, if_pos c_8]) rfl
          · skip
            refine lv_iconst (v := 1) hx hb dX2_isSo_160 (by decide) ?_
            refine lv_goto (tgt := 165) hx hb dX2_isSo_161 (by decide) ?_
            rw [hQ]
            exact z_iret C hr hlk hG dX2_isSo_165 rfl (by rw [o_X2_isSo_r, if_neg c_1, if_pos c_4, if_pos c_5, if_neg c_6, if_neg c_7, if_neg c_8]) rfl
  by_cases c_9 : x = 108
  · refine lv_tableIn (off := 95) (tgt := 96) hx hb dX2_isSo_1 (by rw [c_9]; decide) (by rw [c_9]; decide) (by rw [c_9]; decide) (by decide) ?_
    refine lv_aload_n hx hb dX2_isSo_96 rfl (lv_at hl 0 rfl) ?_
    refine gf_X2_41 C dX2_isSo_97 hG 0 rfl rfl ?_
    refine lv_iconst (v := 1) hx hb dX2_isSo_100 (by decide) ?_
    refine lv_icmp_ne (tgt := 119) hx hb dX2_isSo_101 (by decide) (fun c_10 => ?_) (fun c_10 => ?_)
    · skip
      refine lv_iconst (v := 0) hx hb dX2_isSo_119 (by decide) ?_
      rw [hQ]
      exact z_iret C hr hlk hG dX2_isSo_120 rfl (by rw [o_X2_isSo_r, if_neg c_1, if_neg c_4, if_pos c_9, if_neg c_10]) rfl
    · skip
      refine lv_aload_n hx hb dX2_isSo_104 rfl (lv_at hl 0 rfl) ?_
      refine lv_iconst (v := 0) hx hb dX2_isSo_105 (by decide) ?_
      refine lv_iconst (v := 1) hx hb dX2_isSo_106 (by decide) ?_
      refine lv_bipush (v := 40) hx hb dX2_isSo_107 (by decide) ?_
      refine call_X2_51 C dX2_isSo_109 (c_X2_number l E lt nu sz am 0 1 40 qP ql qn) hl hG 0 rfl [0, 1, 2] (by decide) rfl (ads := [qP, ql, qn]) rfl rfl (ws' := [(qP, .inr (2, [.ref ql, .ref qn, .int sz, .int am])), (ql, .inl (E.2.1.1, 200, .inl lt)), (qn, .inl (E.2.1.1, 4, .inl nu))]) rfl rfl (rest := []) rfl (Nat.le_of_ble_eq_true rfl) ⟨Nat.le_of_ble_eq_true rfl, Nat.le_of_ble_eq_true rfl⟩ (fun H locs hG => ?_)
      refine lv_if_eq (tgt := 119) hx hb dX2_isSo_112 (by decide) (fun c_11 => ?_) (fun c_11 => ?_)
      · skip
        refine lv_iconst (v := 0) hx hb dX2_isSo_119 (by decide) ?_
        rw [hQ]
        exact z_iret C hr hlk hG dX2_isSo_120 rfl (by rw [o_X2_isSo_r, if_neg c_1, if_neg c_4, if_pos c_9, if_pos c_10, if_pos c_11]) rfl
      · skip
        refine lv_iconst (v := 1) hx hb dX2_isSo_115 (by decide) ?_
        refine lv_goto (tgt := 120) hx hb dX2_isSo_116 (by decide) ?_
        rw [hQ]
        exact z_iret C hr hlk hG dX2_isSo_120 rfl (by rw [o_X2_isSo_r, if_neg c_1, if_neg c_4, if_pos c_9, if_pos c_10, if_neg c_11]) rfl
  by_cases c_12 : x = 114
  · refine lv_tableIn (off := 240) (tgt := 241) hx hb dX2_isSo_1 (by rw [c_12]; decide) (by rw [c_12]; decide) (by rw [c_12]; decide) (by decide) ?_
    refine lv_aload_n hx hb dX2_isSo_241 rfl (lv_at hl 0 rfl) ?_
    refine gf_X2_41 C dX2_isSo_242 hG 0 rfl rfl ?_
    refine lv_iconst (v := 1) hx hb dX2_isSo_245 (by decide) ?_
    refine lv_icmp_ne (tgt := 264) hx hb dX2_isSo_246 (by decide) (fun c_13 => ?_) (fun c_13 => ?_)
    · skip
      refine lv_iconst (v := 0) hx hb dX2_isSo_264 (by decide) ?_
      rw [hQ]
      exact z_iret C hr hlk hG dX2_isSo_265 rfl (by rw [o_X2_isSo_r, if_neg c_1, if_neg c_4, if_neg c_9, if_pos c_12, if_neg c_13]) rfl
    · skip
      refine lv_aload_n hx hb dX2_isSo_249 rfl (lv_at hl 0 rfl) ?_
      refine lv_iconst (v := 0) hx hb dX2_isSo_250 (by decide) ?_
      refine lv_iconst (v := 1) hx hb dX2_isSo_251 (by decide) ?_
      refine lv_bipush (v := 6) hx hb dX2_isSo_252 (by decide) ?_
      refine call_X2_51 C dX2_isSo_254 (c_X2_number l E lt nu sz am 0 1 6 qP ql qn) hl hG 0 rfl [0, 1, 2] (by decide) rfl (ads := [qP, ql, qn]) rfl rfl (ws' := [(qP, .inr (2, [.ref ql, .ref qn, .int sz, .int am])), (ql, .inl (E.2.1.1, 200, .inl lt)), (qn, .inl (E.2.1.1, 4, .inl nu))]) rfl rfl (rest := []) rfl (Nat.le_of_ble_eq_true rfl) ⟨Nat.le_of_ble_eq_true rfl, Nat.le_of_ble_eq_true rfl⟩ (fun H locs hG => ?_)
      refine lv_if_eq (tgt := 264) hx hb dX2_isSo_257 (by decide) (fun c_14 => ?_) (fun c_14 => ?_)
      · skip
        refine lv_iconst (v := 0) hx hb dX2_isSo_264 (by decide) ?_
        rw [hQ]
        exact z_iret C hr hlk hG dX2_isSo_265 rfl (by rw [o_X2_isSo_r, if_neg c_1, if_neg c_4, if_neg c_9, if_pos c_12, if_pos c_13, if_pos c_14]) rfl
      · skip
        refine lv_iconst (v := 1) hx hb dX2_isSo_260 (by decide) ?_
        refine lv_goto (tgt := 265) hx hb dX2_isSo_261 (by decide) ?_
        rw [hQ]
        exact z_iret C hr hlk hG dX2_isSo_265 rfl (by rw [o_X2_isSo_r, if_neg c_1, if_neg c_4, if_neg c_9, if_pos c_12, if_pos c_13, if_neg c_14]) rfl
  by_cases c_15 : x = 115
  · refine lv_tableIn (off := 165) (tgt := 166) hx hb dX2_isSo_1 (by rw [c_15]; decide) (by rw [c_15]; decide) (by rw [c_15]; decide) (by decide) ?_
    refine lv_aload_n hx hb dX2_isSo_166 rfl (lv_at hl 0 rfl) ?_
    refine gf_X2_41 C dX2_isSo_167 hG 0 rfl rfl ?_
    refine lv_iconst (v := 2) hx hb dX2_isSo_170 (by decide) ?_
    refine lv_icmp_ne (tgt := 200) hx hb dX2_isSo_171 (by decide) (fun c_16 => ?_) (fun c_16 => ?_)
    · skip
      refine lv_iconst (v := 0) hx hb dX2_isSo_200 (by decide) ?_
      rw [hQ]
      exact z_iret C hr hlk hG dX2_isSo_201 rfl (by rw [o_X2_isSo_r, if_neg c_1, if_neg c_4, if_neg c_9, if_neg c_12, if_pos c_15, if_neg c_16]) rfl
    · skip
      refine lv_aload_n hx hb dX2_isSo_174 rfl (lv_at hl 0 rfl) ?_
      refine lv_iconst (v := 0) hx hb dX2_isSo_175 (by decide) ?_
      refine lv_iconst (v := 0) hx hb dX2_isSo_176 (by decide) ?_
      refine lv_bipush (v := 11) hx hb dX2_isSo_177 (by decide) ?_
      refine call_X2_51 C dX2_isSo_179 (c_X2_number l E lt nu sz am 0 0 11 qP ql qn) hl hG 0 rfl [0, 1, 2] (by decide) rfl (ads := [qP, ql, qn]) rfl rfl (ws' := [(qP, .inr (2, [.ref ql, .ref qn, .int sz, .int am])), (ql, .inl (E.2.1.1, 200, .inl lt)), (qn, .inl (E.2.1.1, 4, .inl nu))]) rfl rfl (rest := []) rfl (Nat.le_of_ble_eq_true rfl) ⟨Nat.le_of_ble_eq_true rfl, Nat.le_of_ble_eq_true rfl⟩ (fun H locs hG => ?_)
      refine lv_if_eq (tgt := 200) hx hb dX2_isSo_182 (by decide) (fun c_17 => ?_) (fun c_17 => ?_)
      · skip
        refine lv_iconst (v := 0) hx hb dX2_isSo_200 (by decide) ?_
        rw [hQ]
        exact z_iret C hr hlk hG dX2_isSo_201 rfl (by rw [o_X2_isSo_r, if_neg c_1, if_neg c_4, if_neg c_9, if_neg c_12, if_pos c_15, if_pos c_16, if_pos c_17]) rfl
      · skip
        refine lv_aload_n hx hb dX2_isSo_185 rfl (lv_at hl 0 rfl) ?_
        refine lv_iconst (v := 1) hx hb dX2_isSo_186 (by decide) ?_
        refine lv_iconst (v := 1) hx hb dX2_isSo_187 (by decide) ?_
        refine lv_bipush (v := 9) hx hb dX2_isSo_188 (by decide) ?_
        refine call_X2_51 C dX2_isSo_190 (c_X2_number l E lt nu sz am 1 1 9 qP ql qn) hl hG 0 rfl [0, 1, 2] (by decide) rfl (ads := [qP, ql, qn]) rfl rfl (ws' := [(qP, .inr (2, [.ref ql, .ref qn, .int sz, .int am])), (ql, .inl (E.2.1.1, 200, .inl lt)), (qn, .inl (E.2.1.1, 4, .inl nu))]) rfl rfl (rest := []) rfl (Nat.le_of_ble_eq_true rfl) ⟨Nat.le_of_ble_eq_true rfl, Nat.le_of_ble_eq_true rfl⟩ (fun H locs hG => ?_)
        refine lv_if_eq (tgt := 200) hx hb dX2_isSo_193 (by decide) (fun c_18 => ?_) (fun c_18 => ?_)
        · skip
          refine lv_iconst (v := 0) hx hb dX2_isSo_200 (by decide) ?_
          rw [hQ]
          exact z_iret C hr hlk hG dX2_isSo_201 rfl (by rw [o_X2_isSo_r, if_neg c_1, if_neg c_4, if_neg c_9, if_neg c_12, if_pos c_15, if_pos c_16, if_neg c_17, if_pos c_18]) rfl
        · skip
          refine lv_iconst (v := 1) hx hb dX2_isSo_196 (by decide) ?_
          refine lv_goto (tgt := 201) hx hb dX2_isSo_197 (by decide) ?_
          rw [hQ]
          exact z_iret C hr hlk hG dX2_isSo_201 rfl (by rw [o_X2_isSo_r, if_neg c_1, if_neg c_4, if_neg c_9, if_neg c_12, if_pos c_15, if_pos c_16, if_neg c_17, if_neg c_18]) rfl
  by_cases c_19 : x = 119
  · refine lv_tableIn (off := 201) (tgt := 202) hx hb dX2_isSo_1 (by rw [c_19]; decide) (by rw [c_19]; decide) (by rw [c_19]; decide) (by decide) ?_
    refine lv_aload_n hx hb dX2_isSo_202 rfl (lv_at hl 0 rfl) ?_
    refine gf_X2_41 C dX2_isSo_203 hG 0 rfl rfl ?_
    refine lv_iconst (v := 1) hx hb dX2_isSo_206 (by decide) ?_
    refine lv_icmp_ne (tgt := 214) hx hb dX2_isSo_207 (by decide) (fun c_20 => ?_) (fun c_20 => ?_)
    · skip
      refine lv_iconst (v := 0) hx hb dX2_isSo_214 (by decide) ?_
      rw [hQ]
      exact z_iret C hr hlk hG dX2_isSo_215 rfl (by rw [o_X2_isSo_r, if_neg c_1, if_neg c_4, if_neg c_9, if_neg c_12, if_neg c_15, if_pos c_19, if_neg c_20]) rfl
    · skip
      refine lv_iconst (v := 1) hx hb dX2_isSo_210 (by decide) ?_
      refine lv_goto (tgt := 215) hx hb dX2_isSo_211 (by decide) ?_
      rw [hQ]
      exact z_iret C hr hlk hG dX2_isSo_215 rfl (by rw [o_X2_isSo_r, if_neg c_1, if_neg c_4, if_neg c_9, if_neg c_12, if_neg c_15, if_pos c_19, if_pos c_20]) rfl
  refine z_table (tgt := 266) C dX2_isSo_1 [0, 4, 8, 14, 15, 19] (by decide) (fun i hi => by simp only [List.mem_cons, List.not_mem_nil, or_false] at hi; rcases hi with rfl | rfl | rfl | rfl | rfl | rfl <;> first | exact z_tne c_1 (by decide) | exact z_tne c_4 (by decide) | exact z_tne c_9 (by decide) | exact z_tne c_12 (by decide) | exact z_tne c_15 (by decide) | exact z_tne c_19 (by decide)) (by decide) ?_
  refine lv_iconst (v := 0) hx hb dX2_isSo_266 (by decide) ?_
  rw [hQ]
  exact z_iret C hr hlk hG dX2_isSo_267 rfl (by rw [o_X2_isSo_r, if_neg c_1, if_neg c_4, if_neg c_9, if_neg c_12, if_neg c_15, if_neg c_19]) rfl
theorem o_X2_isSo_b (lt : Nat → Int32) (nu : Nat → Int32) (sz : Int32) (am : Int32) (x : Int32) : o_X2_isSo_r lt nu sz am x = 0 ∨ o_X2_isSo_r lt nu sz am x = 1 := by
  unfold o_X2_isSo_r; (repeat' split) <;> first | exact Or.inl rfl | exact Or.inr rfl | exact o_X2_number_b _ _ _ _ _ _ _
def j_X2_readItem_1_0 (lt : Nat → Int32) (nu : Nat → Int32) (sz : Int32) (am : Int32) (fr_ : Int32) (u0_0 : Int32) (u0_1 : Int32) (u0_2 : Nat → Int32) : Int32 := (if (o_X2_figureAt_r lt u0_2 sz u0_1 (u0_0 + 1)) = (-4) then (u0_0 + 1) else ((u0_0 + 1) + 1))
def j_X2_readItem_1_1 (lt : Nat → Int32) (nu : Nat → Int32) (sz : Int32) (am : Int32) (fr_ : Int32) (u0_0 : Int32) (u0_1 : Int32) (u0_2 : Nat → Int32) : Int32 := (if (o_X2_figureAt_r lt u0_2 sz u0_1 (u0_0 + 1)) = (-4) then (o_X2_figureAt_r lt u0_2 sz u0_1 u0_0) else (((o_X2_figureAt_r lt u0_2 sz u0_1 u0_0) * 10) + (o_X2_figureAt_r lt u0_2 sz u0_1 (u0_0 + 1))))
def F_X2_readItem (lt : Nat → Int32) (nu : Nat → Int32) (sz : Int32) (am : Int32) (fr_ : Int32) : Nat → Int32 → Int32 → (Nat → Int32) → Option (Int32 × Int32 × (Nat → Int32))
  | 0, _, _, _ => none
  | (n0 + 1), u0_0, u0_1, u0_2 => (if (4 : Int32) ≤ u0_1 then some ((-4), u0_1, u0_2) else (if (o_X2_figureAt_r lt u0_2 sz u0_1 u0_0) = (-4) then some ((-4), u0_1, u0_2) else (if (o_X2_letterAt_r lt (o_X7_setCell_0 4 u0_2 u0_1 (j_X2_readItem_1_1 lt nu sz am fr_ u0_0 u0_1 u0_2)) sz (u0_1 + 1) (j_X2_readItem_1_0 lt nu sz am fr_ u0_0 u0_1 u0_2)) = 59 then (if (o_X2_isSo_r lt (o_X7_setCell_0 4 u0_2 u0_1 (j_X2_readItem_1_1 lt nu sz am fr_ u0_0 u0_1 u0_2)) sz (u0_1 + 1) (o_X2_letterAt_r lt (o_X7_setCell_0 4 u0_2 u0_1 (j_X2_readItem_1_1 lt nu sz am fr_ u0_0 u0_1 u0_2)) sz (u0_1 + 1) fr_)) = 0 then some ((-4), (u0_1 + 1), (o_X7_setCell_0 4 u0_2 u0_1 (j_X2_readItem_1_1 lt nu sz am fr_ u0_0 u0_1 u0_2))) else some (((j_X2_readItem_1_0 lt nu sz am fr_ u0_0 u0_1 u0_2) + 1), (u0_1 + 1), (o_X7_setCell_0 4 u0_2 u0_1 (j_X2_readItem_1_1 lt nu sz am fr_ u0_0 u0_1 u0_2)))) else (if (o_X2_letterAt_r lt (o_X7_setCell_0 4 u0_2 u0_1 (j_X2_readItem_1_1 lt nu sz am fr_ u0_0 u0_1 u0_2)) sz (u0_1 + 1) (j_X2_readItem_1_0 lt nu sz am fr_ u0_0 u0_1 u0_2)) = 44 then (F_X2_readItem lt nu sz am fr_ n0 ((j_X2_readItem_1_0 lt nu sz am fr_ u0_0 u0_1 u0_2) + 1) (u0_1 + 1) (o_X7_setCell_0 4 u0_2 u0_1 (j_X2_readItem_1_1 lt nu sz am fr_ u0_0 u0_1 u0_2))) else some ((-4), (u0_1 + 1), (o_X7_setCell_0 4 u0_2 u0_1 (j_X2_readItem_1_1 lt nu sz am fr_ u0_0 u0_1 u0_2)))))))
def O_X2_readItem (lt : Nat → Int32) (nu : Nat → Int32) (sz : Int32) (am : Int32) (fr_ : Int32) (fuel : Nat) : Option (Int32 × Int32 × (Nat → Int32)) := (F_X2_readItem lt nu sz am fr_ fuel (fr_ + 1) 0 nu)
set_option maxRecDepth 100000 in
set_option maxHeartbeats 4000000 in
theorem c_X2_readItem (l : Launch) (E : zE) (lt : Nat → Int32) (nu : Nat → Int32) (sz : Int32) (am : Int32) (fr_ : Int32) (fuel : Nat) (rr : Int32) (r0 : Int32) (r1 : Nat → Int32) (qP ql qn : Nat) (hF : O_X2_readItem lt nu sz am fr_ fuel = some (rr, r0, r1)) : HM l E yX2_readItem cX2_readItem 5 (some .int) 3 66 [.ref qP, .int fr_] [(qP, .inr (2, [.ref ql, .ref qn, .int sz, .int am])), (ql, .inl (E.2.1.1, 200, .inl lt)), (qn, .inl (E.2.1.1, 4, .inl nu))] (some (.int rr)) [(qP, .inr (2, [.ref ql, .ref qn, .int sz, .int r0])), (ql, .inl (E.2.1.1, 200, .inl lt)), (qn, .inl (E.2.1.1, 4, .inl r1))] := by
  refine HM.of (own := RX2) (plainFor_of_name (by decide)) rfl (Nat.le_of_ble_eq_true rfl) ?_
  intro zp ze zs zm za zb zt zc zA ls H locs zq C hr hlk hG hl hQ
  have hx := C.1.1
  have hb := C.1.2.1
  replace hl : lv_has ls 5 [(0, .ref qP), (1, .int fr_)] := hl
  refine lv_iload_n hx hb dX2_readItem_0 rfl (lv_at hl 1 rfl) ?_
  refine lv_iconst (v := 1) hx hb dX2_readItem_1 (by decide) ?_
  refine lv_iadd hx hb dX2_readItem_2 ?_
  refine lv_istore_n (lv' := [(2, .int (fr_ + 1)), (0, .ref qP), (1, .int fr_)]) hx hb dX2_readItem_3 rfl hl (by decide) rfl (fun ls hl => ?_)
  refine lv_aload_n hx hb dX2_readItem_4 rfl (lv_at hl 1 rfl) ?_
  refine lv_iconst (v := 0) hx hb dX2_readItem_5 (by decide) ?_
  refine pf_X2_41 C dX2_readItem_6 hG 0 rfl (Nat.le_of_ble_eq_true rfl) (ws' := [(qP, .inr (2, [.ref ql, .ref qn, .int sz, .int 0])), (ql, .inl (E.2.1.1, 200, .inl lt)), (qn, .inl (E.2.1.1, 4, .inl nu))]) rfl (fun H locs hG => ?_)
  rw [O_X2_readItem] at hF
  have kf_0 : ∀ (n0 : Nat) (u0_0 : Int32) (u0_1 : Int32) (u0_2 : Nat → Int32) (H : Heap) (locs : List Loc) (ls : Array Slot), (F_X2_readItem lt nu sz am fr_ n0 u0_0 u0_1 u0_2) = some (rr, r0, r1) → zG E zA zs.heap [(qP, .inr (2, [.ref ql, .ref qn, .int sz, .int u0_1])), (ql, .inl (E.2.1.1, 200, .inl lt)), (qn, .inl (E.2.1.1, 4, .inl u0_2))] H locs → lv_has ls 5 [(2, .int u0_0), (0, .ref qP), (1, .int fr_)] → W zp l ze (zR 3 66) zs zm za zb zt zc H locs 0 0 zq (F0 zm 9 ls []) := by
    clear hF
    intro n0
    induction n0 with
    | zero =>
      intro u0_0 u0_1 u0_2 H locs ls hF hG hl
      rw [F_X2_readItem] at hF
      cases hF
    | succ n0 ih0 =>
      intro u0_0 u0_1 u0_2 H locs ls hF hG hl
      refine lv_aload_n hx hb dX2_readItem_9 rfl (lv_at hl 1 rfl) ?_
      refine gf_X2_41 C dX2_readItem_10 hG 0 rfl rfl ?_
      refine lv_iconst (v := 4) hx hb dX2_readItem_13 (by decide) ?_
      refine lv_icmp_ge (tgt := 130) hx hb dX2_readItem_14 (by decide) (fun c_13 => ?_) (fun c_13 => ?_)
      · skip
        refine lv_bipush (v := (-4)) hx hb dX2_readItem_130 (by decide) ?_
        rw [F_X2_readItem, if_pos c_13] at hF
        cases hF
        rw [hQ]
        exact z_iret C hr hlk hG dX2_readItem_132 rfl rfl rfl
      · skip
        refine lv_aload_n hx hb dX2_readItem_17 rfl (lv_at hl 1 rfl) ?_
        refine lv_iload_n hx hb dX2_readItem_18 rfl (lv_at hl 0 rfl) ?_
        refine call_X2_44 C dX2_readItem_19 (c_X2_figureAt l E lt u0_2 sz u0_1 u0_0 qP ql qn) hl hG 0 rfl [0, 1, 2] (by decide) rfl (ads := [qP, ql, qn]) rfl rfl (ws' := [(qP, .inr (2, [.ref ql, .ref qn, .int sz, .int u0_1])), (ql, .inl (E.2.1.1, 200, .inl lt)), (qn, .inl (E.2.1.1, 4, .inl u0_2))]) rfl rfl (rest := []) rfl (Nat.le_of_ble_eq_true rfl) ⟨Nat.le_of_ble_eq_true rfl, Nat.le_of_ble_eq_true rfl⟩ (fun H locs hG => ?_)
        refine lv_istore_n (lv' := [(3, .int (o_X2_figureAt_r lt u0_2 sz u0_1 u0_0)), (2, .int u0_0), (0, .ref qP), (1, .int fr_)]) hx hb dX2_readItem_22 rfl hl (by decide) rfl (fun ls hl => ?_)
        refine lv_iload_n hx hb dX2_readItem_23 rfl (lv_at hl 0 rfl) ?_
        refine lv_bipush (v := (-4)) hx hb dX2_readItem_24 (by decide) ?_
        refine lv_icmp_ne (tgt := 32) hx hb dX2_readItem_26 (by decide) (fun c_14 => ?_) (fun c_14 => ?_)
        · skip
          refine lv_iinc (v := (u0_0 + 1)) (lv' := [(2, .int (u0_0 + 1)), (3, .int (o_X2_figureAt_r lt u0_2 sz u0_1 u0_0)), (0, .ref qP), (1, .int fr_)]) hx hb dX2_readItem_32 hl (k := 1) rfl rfl (by decide) rfl (fun ls hl => ?_)
          refine lv_aload_n hx hb dX2_readItem_35 rfl (lv_at hl 2 rfl) ?_
          refine lv_iload_n hx hb dX2_readItem_36 rfl (lv_at hl 0 rfl) ?_
          refine call_X2_44 C dX2_readItem_37 (c_X2_figureAt l E lt u0_2 sz u0_1 (u0_0 + 1) qP ql qn) hl hG 0 rfl [0, 1, 2] (by decide) rfl (ads := [qP, ql, qn]) rfl rfl (ws' := [(qP, .inr (2, [.ref ql, .ref qn, .int sz, .int u0_1])), (ql, .inl (E.2.1.1, 200, .inl lt)), (qn, .inl (E.2.1.1, 4, .inl u0_2))]) rfl rfl (rest := []) rfl (Nat.le_of_ble_eq_true rfl) ⟨Nat.le_of_ble_eq_true rfl, Nat.le_of_ble_eq_true rfl⟩ (fun H locs hG => ?_)
          refine lv_bipush (v := (-4)) hx hb dX2_readItem_40 (by decide) ?_
          have k_1 : ∀ (y1_0 : Int32) (y1_1 : Int32) (H : Heap) (locs : List Loc) (ls : Array Slot), (j_X2_readItem_1_0 lt nu sz am fr_ u0_0 u0_1 u0_2) = y1_0 → (j_X2_readItem_1_1 lt nu sz am fr_ u0_0 u0_1 u0_2) = y1_1 → zG E zA zs.heap [(qP, .inr (2, [.ref ql, .ref qn, .int sz, .int u0_1])), (ql, .inl (E.2.1.1, 200, .inl lt)), (qn, .inl (E.2.1.1, 4, .inl u0_2))] H locs → lv_has ls 5 [(2, .int y1_0), (3, .int y1_1), (0, .ref qP), (1, .int fr_)] → W zp l ze (zR 3 66) zs zm za zb zt zc H locs 0 0 zq (F0 zm 59 ls []) := by
            intro y1_0 y1_1 H locs ls e_y1_0 e_y1_1 hG hl
            subst e_y1_0
            subst e_y1_1
            refine lv_aload_n hx hb dX2_readItem_59 rfl (lv_at hl 2 rfl) ?_
            refine gf_X2_15 C dX2_readItem_60 hG 0 rfl rfl ?_
            refine lv_aload_n hx hb dX2_readItem_63 rfl (lv_at hl 2 rfl) ?_
            refine gf_X2_41 C dX2_readItem_64 hG 0 rfl rfl ?_
            refine lv_iload_n hx hb dX2_readItem_67 rfl (lv_at hl 1 rfl) ?_
            refine call_X2_22 C dX2_readItem_68 (c_X7_setCell l E 4 u0_2 u0_1 (j_X2_readItem_1_1 lt nu sz am fr_ u0_0 u0_1 u0_2) qn (Nat.le_of_ble_eq_true rfl)) hl hG [2] (by decide) rfl (ads := [qn]) rfl rfl (ws' := [(qP, .inr (2, [.ref ql, .ref qn, .int sz, .int u0_1])), (ql, .inl (E.2.1.1, 200, .inl lt)), (qn, .inl (E.2.1.1, 4, .inl (o_X7_setCell_0 4 u0_2 u0_1 (j_X2_readItem_1_1 lt nu sz am fr_ u0_0 u0_1 u0_2))))]) rfl rfl (rest := []) rfl (Nat.le_of_ble_eq_true rfl) ⟨Nat.le_of_ble_eq_true rfl, Nat.le_of_ble_eq_true rfl⟩ (fun H locs hG => ?_)
            refine lv_aload_n hx hb dX2_readItem_71 rfl (lv_at hl 2 rfl) ?_
            refine lv_dup hx hb dX2_readItem_72 rfl ?_
            refine gf_X2_41 C dX2_readItem_73 hG 0 rfl rfl ?_
            refine lv_iconst (v := 1) hx hb dX2_readItem_76 (by decide) ?_
            refine lv_iadd hx hb dX2_readItem_77 ?_
            refine pf_X2_41 C dX2_readItem_78 hG 0 rfl (Nat.le_of_ble_eq_true rfl) (ws' := [(qP, .inr (2, [.ref ql, .ref qn, .int sz, .int (u0_1 + 1)])), (ql, .inl (E.2.1.1, 200, .inl lt)), (qn, .inl (E.2.1.1, 4, .inl (o_X7_setCell_0 4 u0_2 u0_1 (j_X2_readItem_1_1 lt nu sz am fr_ u0_0 u0_1 u0_2))))]) rfl (fun H locs hG => ?_)
            refine lv_aload_n hx hb dX2_readItem_81 rfl (lv_at hl 2 rfl) ?_
            refine lv_iload_n hx hb dX2_readItem_82 rfl (lv_at hl 0 rfl) ?_
            refine call_X2_30 C dX2_readItem_83 (c_X2_letterAt l E lt (o_X7_setCell_0 4 u0_2 u0_1 (j_X2_readItem_1_1 lt nu sz am fr_ u0_0 u0_1 u0_2)) sz (u0_1 + 1) (j_X2_readItem_1_0 lt nu sz am fr_ u0_0 u0_1 u0_2) qP ql qn) hl hG 0 rfl [0, 1, 2] (by decide) rfl (ads := [qP, ql, qn]) rfl rfl (ws' := [(qP, .inr (2, [.ref ql, .ref qn, .int sz, .int (u0_1 + 1)])), (ql, .inl (E.2.1.1, 200, .inl lt)), (qn, .inl (E.2.1.1, 4, .inl (o_X7_setCell_0 4 u0_2 u0_1 (j_X2_readItem_1_1 lt nu sz am fr_ u0_0 u0_1 u0_2))))]) rfl rfl (rest := []) rfl (Nat.le_of_ble_eq_true rfl) ⟨Nat.le_of_ble_eq_true rfl, Nat.le_of_ble_eq_true rfl⟩ (fun H locs hG => ?_)
            refine lv_istore (lv' := [(4, .int (o_X2_letterAt_r lt (o_X7_setCell_0 4 u0_2 u0_1 (j_X2_readItem_1_1 lt nu sz am fr_ u0_0 u0_1 u0_2)) sz (u0_1 + 1) (j_X2_readItem_1_0 lt nu sz am fr_ u0_0 u0_1 u0_2))), (2, .int (j_X2_readItem_1_0 lt nu sz am fr_ u0_0 u0_1 u0_2)), (3, .int (j_X2_readItem_1_1 lt nu sz am fr_ u0_0 u0_1 u0_2)), (0, .ref qP), (1, .int fr_)]) hx hb dX2_readItem_86 hl (by decide) rfl (fun ls hl => ?_)
            refine lv_iinc (v := ((j_X2_readItem_1_0 lt nu sz am fr_ u0_0 u0_1 u0_2) + 1)) (lv' := [(2, .int ((j_X2_readItem_1_0 lt nu sz am fr_ u0_0 u0_1 u0_2) + 1)), (4, .int (o_X2_letterAt_r lt (o_X7_setCell_0 4 u0_2 u0_1 (j_X2_readItem_1_1 lt nu sz am fr_ u0_0 u0_1 u0_2)) sz (u0_1 + 1) (j_X2_readItem_1_0 lt nu sz am fr_ u0_0 u0_1 u0_2))), (3, .int (j_X2_readItem_1_1 lt nu sz am fr_ u0_0 u0_1 u0_2)), (0, .ref qP), (1, .int fr_)]) hx hb dX2_readItem_88 hl (k := 1) rfl rfl (by decide) rfl (fun ls hl => ?_)
            refine lv_iload hx hb dX2_readItem_91 (lv_at hl 1 rfl) ?_
            refine lv_bipush (v := 59) hx hb dX2_readItem_93 (by decide) ?_
            refine lv_icmp_ne (tgt := 117) hx hb dX2_readItem_95 (by decide) (fun c_16 => ?_) (fun c_16 => ?_)
            · skip
              refine lv_iload hx hb dX2_readItem_117 (lv_at hl 1 rfl) ?_
              refine lv_bipush (v := 44) hx hb dX2_readItem_119 (by decide) ?_
              refine lv_icmp_eq (tgt := 127) hx hb dX2_readItem_121 (by decide) (fun c_17 => ?_) (fun c_17 => ?_)
              · skip
                refine lv_goto (tgt := 9) hx hb dX2_readItem_127 (by decide) ?_
                rw [F_X2_readItem, if_neg c_13, if_neg c_14, if_neg c_16, if_pos c_17] at hF
                exact ih0 ((j_X2_readItem_1_0 lt nu sz am fr_ u0_0 u0_1 u0_2) + 1) (u0_1 + 1) (o_X7_setCell_0 4 u0_2 u0_1 (j_X2_readItem_1_1 lt nu sz am fr_ u0_0 u0_1 u0_2)) _ _ _ hF hG (lv_sub hl [0, 3, 4] rfl)
              · skip
                refine lv_bipush (v := (-4)) hx hb dX2_readItem_124 (by decide) ?_
                rw [F_X2_readItem, if_neg c_13, if_neg c_14, if_neg c_16, if_neg c_17] at hF
                cases hF
                rw [hQ]
                exact z_iret C hr hlk hG dX2_readItem_126 rfl rfl rfl
            · skip
              refine lv_aload_n hx hb dX2_readItem_98 rfl (lv_at hl 3 rfl) ?_
              refine lv_aload_n hx hb dX2_readItem_99 rfl (lv_at hl 3 rfl) ?_
              refine lv_iload_n hx hb dX2_readItem_100 rfl (lv_at hl 4 rfl) ?_
              refine call_X2_30 C dX2_readItem_101 (c_X2_letterAt l E lt (o_X7_setCell_0 4 u0_2 u0_1 (j_X2_readItem_1_1 lt nu sz am fr_ u0_0 u0_1 u0_2)) sz (u0_1 + 1) fr_ qP ql qn) hl hG 0 rfl [0, 1, 2] (by decide) rfl (ads := [qP, ql, qn]) rfl rfl (ws' := [(qP, .inr (2, [.ref ql, .ref qn, .int sz, .int (u0_1 + 1)])), (ql, .inl (E.2.1.1, 200, .inl lt)), (qn, .inl (E.2.1.1, 4, .inl (o_X7_setCell_0 4 u0_2 u0_1 (j_X2_readItem_1_1 lt nu sz am fr_ u0_0 u0_1 u0_2))))]) rfl rfl (rest := [.ref qP]) rfl (Nat.le_of_ble_eq_true rfl) ⟨Nat.le_of_ble_eq_true rfl, Nat.le_of_ble_eq_true rfl⟩ (fun H locs hG => ?_)
              refine call_X2_47 C dX2_readItem_104 (c_X2_isSo l E lt (o_X7_setCell_0 4 u0_2 u0_1 (j_X2_readItem_1_1 lt nu sz am fr_ u0_0 u0_1 u0_2)) sz (u0_1 + 1) (o_X2_letterAt_r lt (o_X7_setCell_0 4 u0_2 u0_1 (j_X2_readItem_1_1 lt nu sz am fr_ u0_0 u0_1 u0_2)) sz (u0_1 + 1) fr_) qP ql qn) hl hG 0 rfl [0, 1, 2] (by decide) rfl (ads := [qP, ql, qn]) rfl rfl (ws' := [(qP, .inr (2, [.ref ql, .ref qn, .int sz, .int (u0_1 + 1)])), (ql, .inl (E.2.1.1, 200, .inl lt)), (qn, .inl (E.2.1.1, 4, .inl (o_X7_setCell_0 4 u0_2 u0_1 (j_X2_readItem_1_1 lt nu sz am fr_ u0_0 u0_1 u0_2))))]) rfl rfl (rest := []) rfl (Nat.le_of_ble_eq_true rfl) ⟨Nat.le_of_ble_eq_true rfl, Nat.le_of_ble_eq_true rfl⟩ (fun H locs hG => ?_)
              refine lv_if_eq (tgt := 114) hx hb dX2_readItem_107 (by decide) (fun c_18 => ?_) (fun c_18 => ?_)
              · skip
                refine lv_bipush (v := (-4)) hx hb dX2_readItem_114 (by decide) ?_
                rw [F_X2_readItem, if_neg c_13, if_neg c_14, if_pos c_16, if_pos c_18] at hF
                cases hF
                rw [hQ]
                exact z_iret C hr hlk hG dX2_readItem_116 rfl rfl rfl
              · skip
                refine lv_iload_n hx hb dX2_readItem_110 rfl (lv_at hl 0 rfl) ?_
                refine lv_goto (tgt := 116) hx hb dX2_readItem_111 (by decide) ?_
                rw [F_X2_readItem, if_neg c_13, if_neg c_14, if_pos c_16, if_neg c_18] at hF
                cases hF
                rw [hQ]
                exact z_iret C hr hlk hG dX2_readItem_116 rfl rfl rfl
          refine lv_icmp_eq (tgt := 59) hx hb dX2_readItem_42 (by decide) (fun c_15 => ?_) (fun c_15 => ?_)
          · skip
            exact k_1 (u0_0 + 1) (o_X2_figureAt_r lt u0_2 sz u0_1 u0_0) _ _ _ (by rw [j_X2_readItem_1_0, if_pos c_15]) (by rw [j_X2_readItem_1_1, if_pos c_15]) hG (lv_sub hl [0, 1, 2, 3] rfl)
          · skip
            refine lv_iload_n hx hb dX2_readItem_45 rfl (lv_at hl 1 rfl) ?_
            refine lv_bipush (v := 10) hx hb dX2_readItem_46 (by decide) ?_
            refine lv_imul hx hb dX2_readItem_48 ?_
            refine lv_aload_n hx hb dX2_readItem_49 rfl (lv_at hl 2 rfl) ?_
            refine lv_iload_n hx hb dX2_readItem_50 rfl (lv_at hl 0 rfl) ?_
            refine call_X2_44 C dX2_readItem_51 (c_X2_figureAt l E lt u0_2 sz u0_1 (u0_0 + 1) qP ql qn) hl hG 0 rfl [0, 1, 2] (by decide) rfl (ads := [qP, ql, qn]) rfl rfl (ws' := [(qP, .inr (2, [.ref ql, .ref qn, .int sz, .int u0_1])), (ql, .inl (E.2.1.1, 200, .inl lt)), (qn, .inl (E.2.1.1, 4, .inl u0_2))]) rfl rfl (rest := [.int ((o_X2_figureAt_r lt u0_2 sz u0_1 u0_0) * 10)]) rfl (Nat.le_of_ble_eq_true rfl) ⟨Nat.le_of_ble_eq_true rfl, Nat.le_of_ble_eq_true rfl⟩ (fun H locs hG => ?_)
            refine lv_iadd hx hb dX2_readItem_54 ?_
            refine lv_istore_n (lv' := [(3, .int (((o_X2_figureAt_r lt u0_2 sz u0_1 u0_0) * 10) + (o_X2_figureAt_r lt u0_2 sz u0_1 (u0_0 + 1)))), (2, .int (u0_0 + 1)), (0, .ref qP), (1, .int fr_)]) hx hb dX2_readItem_55 rfl hl (by decide) rfl (fun ls hl => ?_)
            refine lv_iinc (v := ((u0_0 + 1) + 1)) (lv' := [(2, .int ((u0_0 + 1) + 1)), (3, .int (((o_X2_figureAt_r lt u0_2 sz u0_1 u0_0) * 10) + (o_X2_figureAt_r lt u0_2 sz u0_1 (u0_0 + 1)))), (0, .ref qP), (1, .int fr_)]) hx hb dX2_readItem_56 hl (k := 1) rfl rfl (by decide) rfl (fun ls hl => ?_)
            exact k_1 ((u0_0 + 1) + 1) (((o_X2_figureAt_r lt u0_2 sz u0_1 u0_0) * 10) + (o_X2_figureAt_r lt u0_2 sz u0_1 (u0_0 + 1))) _ _ _ (by rw [j_X2_readItem_1_0, if_neg c_15]) (by rw [j_X2_readItem_1_1, if_neg c_15]) hG (lv_sub hl [0, 1, 2, 3] rfl)
        · skip
          refine lv_bipush (v := (-4)) hx hb dX2_readItem_29 (by decide) ?_
          rw [F_X2_readItem, if_neg c_13, if_pos c_14] at hF
          cases hF
          rw [hQ]
          exact z_iret C hr hlk hG dX2_readItem_31 rfl rfl rfl
  exact kf_0 fuel (fr_ + 1) 0 nu _ _ _ hF hG (lv_sub hl [0, 1, 2] rfl)
def L_X4_dropOldest_0 (N : Nat) (cf : Nat → Int32) (sl : Int32) (sz : Int32) : Nat → (Nat → Int32)
  | 0 => cf
  | (k0 + 1) => (o_X7_setCell_0 N (L_X4_dropOldest_0 N cf sl sz k0) (nI k0) (o_X7_cell_r N (L_X4_dropOldest_0 N cf sl sz k0) ((nI k0) + 12)))
def o_X4_dropOldest_0_2 (N : Nat) (cf : Nat → Int32) (sl : Int32) (sz : Int32) : Int32 := (sl - 1)
def o_X4_dropOldest_1 (N : Nat) (cf : Nat → Int32) (sl : Int32) (sz : Int32) : Nat → Int32 := (L_X4_dropOldest_0 N cf sl sz (N - 12))
set_option maxRecDepth 100000 in
set_option maxHeartbeats 4000000 in
theorem c_X4_dropOldest (l : Launch) (E : zE) (N : Nat) (cf : Nat → Int32) (sl : Int32) (sz : Int32) (qh qc : Nat) (hN : N < 2 ^ 31) (h12 : 12 ≤ N) : HM l E yX4_dropOldest cX4_dropOldest 2 none 1 22 [.ref qh] [(qh, .inr (4, [.int sl, .ref qc, .int sz])), (qc, .inl (E.2.1.1, N, .inl cf))] none [(qh, .inr (4, [.int sl, .ref qc, .int (o_X4_dropOldest_0_2 N cf sl sz)])), (qc, .inl (E.2.1.1, N, .inl (o_X4_dropOldest_1 N cf sl sz)))] := by
  refine HM.of (own := RX4) (plainFor_of_name (by decide)) rfl (Nat.le_of_ble_eq_true rfl) ?_
  intro zp ze zs zm za zb zt zc zA ls H locs zq C hr hlk hG hl hQ
  have hx := C.1.1
  have hb := C.1.2.1
  replace hl : lv_has ls 2 [(0, .ref qh)] := hl
  refine lv_iconst (v := 0) hx hb dX4_dropOldest_0 (by decide) ?_
  refine lv_istore_n (lv' := [(1, .int 0), (0, .ref qh)]) hx hb dX4_dropOldest_1 rfl hl (by decide) rfl (fun ls hl => ?_)
  have kl_0 : ∀ (j0 k0 : Nat), j0 + k0 = (N - 12) → ∀ (u0_0 : Nat → Int32) (H : Heap) (locs : List Loc) (ls : Array Slot), (L_X4_dropOldest_0 N cf sl sz k0) = u0_0 → zG E zA zs.heap [(qh, .inr (4, [.int sl, .ref qc, .int sz])), (qc, .inl (E.2.1.1, N, .inl u0_0))] H locs → lv_has ls 2 [(1, .int (nI k0)), (0, .ref qh)] → W zp l ze (zR 1 22) zs zm za zb zt zc H locs 0 0 zq (F0 zm 2 ls []) := by
    intro j0
    induction j0 with
    | zero =>
      intro k0 hk0 u0_0 H locs ls e_u0_0 hG hl
      subst e_u0_0
      obtain rfl : k0 = (N - 12) := by omega
      refine lv_iload_n hx hb dX4_dropOldest_2 rfl (lv_at hl 0 rfl) ?_
      refine lv_bipush (v := 12) hx hb dX4_dropOldest_3 (by decide) ?_
      refine lv_iadd hx hb dX4_dropOldest_5 ?_
      refine lv_aload_n hx hb dX4_dropOldest_6 rfl (lv_at hl 1 rfl) ?_
      refine gf_X4_26 C dX4_dropOldest_7 hG 0 rfl rfl ?_
      refine z_alen C dX4_dropOldest_10 hG 1 rfl (v := (nI N)) rfl ?_
      refine lv_icmp_ge (tgt := 39) hx hb dX4_dropOldest_11 (by decide) (fun c_3 => ?_) (fun c_3 => absurd (z_drop_yes h12) c_3)
      refine lv_aload_n hx hb dX4_dropOldest_39 rfl (lv_at hl 1 rfl) ?_
      refine lv_aload_n hx hb dX4_dropOldest_40 rfl (lv_at hl 1 rfl) ?_
      refine gf_X4_18 C dX4_dropOldest_41 hG 0 rfl rfl ?_
      refine lv_iconst (v := 1) hx hb dX4_dropOldest_44 (by decide) ?_
      refine lv_isub hx hb dX4_dropOldest_45 ?_
      refine pf_X4_30 C dX4_dropOldest_46 hG 0 rfl (Nat.le_of_ble_eq_true rfl) (ws' := [(qh, .inr (4, [.int sl, .ref qc, .int (sl - 1)])), (qc, .inl (E.2.1.1, N, .inl (L_X4_dropOldest_0 N cf sl sz (N - 12))))]) rfl (fun H locs hG => ?_)
      rw [hQ]
      exact z_vret C hr hlk hG dX4_dropOldest_49 rfl (by rw [o_X4_dropOldest_0_2, o_X4_dropOldest_1])
    | succ j0 ih0 =>
      intro k0 hk0 u0_0 H locs ls e_u0_0 hG hl
      subst e_u0_0
      have hlt : k0 < (N - 12) := by omega
      refine lv_iload_n hx hb dX4_dropOldest_2 rfl (lv_at hl 0 rfl) ?_
      refine lv_bipush (v := 12) hx hb dX4_dropOldest_3 (by decide) ?_
      refine lv_iadd hx hb dX4_dropOldest_5 ?_
      refine lv_aload_n hx hb dX4_dropOldest_6 rfl (lv_at hl 1 rfl) ?_
      refine gf_X4_26 C dX4_dropOldest_7 hG 0 rfl rfl ?_
      refine z_alen C dX4_dropOldest_10 hG 1 rfl (v := (nI N)) rfl ?_
      refine lv_icmp_ge (tgt := 39) hx hb dX4_dropOldest_11 (by decide) (fun c_4 => absurd c_4 (z_drop_no hlt hN)) (fun c_4 => ?_)
      refine lv_aload_n hx hb dX4_dropOldest_14 rfl (lv_at hl 1 rfl) ?_
      refine gf_X4_26 C dX4_dropOldest_15 hG 0 rfl rfl ?_
      refine lv_iload_n hx hb dX4_dropOldest_18 rfl (lv_at hl 0 rfl) ?_
      refine lv_aload_n hx hb dX4_dropOldest_19 rfl (lv_at hl 1 rfl) ?_
      refine gf_X4_26 C dX4_dropOldest_20 hG 0 rfl rfl ?_
      refine lv_iload_n hx hb dX4_dropOldest_23 rfl (lv_at hl 0 rfl) ?_
      refine lv_bipush (v := 12) hx hb dX4_dropOldest_24 (by decide) ?_
      refine lv_iadd hx hb dX4_dropOldest_26 ?_
      refine call_X4_43 C dX4_dropOldest_27 (c_X7_cell l E N (L_X4_dropOldest_0 N cf sl sz k0) ((nI k0) + 12) qc hN) hl hG [1] (by decide) rfl (ads := [qc]) rfl rfl (ws' := [(qh, .inr (4, [.int sl, .ref qc, .int sz])), (qc, .inl (E.2.1.1, N, .inl (L_X4_dropOldest_0 N cf sl sz k0)))]) rfl rfl (rest := [.int (nI k0), .ref qc]) rfl (Nat.le_of_ble_eq_true rfl) ⟨Nat.le_of_ble_eq_true rfl, Nat.le_of_ble_eq_true rfl⟩ (fun H locs hG => ?_)
      refine call_X4_47 C dX4_dropOldest_30 (c_X7_setCell l E N (L_X4_dropOldest_0 N cf sl sz k0) (nI k0) (o_X7_cell_r N (L_X4_dropOldest_0 N cf sl sz k0) ((nI k0) + 12)) qc hN) hl hG [1] (by decide) rfl (ads := [qc]) rfl rfl (ws' := [(qh, .inr (4, [.int sl, .ref qc, .int sz])), (qc, .inl (E.2.1.1, N, .inl (o_X7_setCell_0 N (L_X4_dropOldest_0 N cf sl sz k0) (nI k0) (o_X7_cell_r N (L_X4_dropOldest_0 N cf sl sz k0) ((nI k0) + 12)))))]) rfl rfl (rest := []) rfl (Nat.le_of_ble_eq_true rfl) ⟨Nat.le_of_ble_eq_true rfl, Nat.le_of_ble_eq_true rfl⟩ (fun H locs hG => ?_)
      refine lv_iinc (v := (nI (k0 + 1))) (lv' := [(1, .int (nI (k0 + 1))), (0, .ref qh)]) hx hb dX4_dropOldest_33 hl (k := 0) rfl (nI_1 _) (by decide) rfl (fun ls hl => ?_)
      refine lv_goto (tgt := 2) hx hb dX4_dropOldest_36 (by decide) ?_
      exact ih0 (k0 + 1) (by omega) (o_X7_setCell_0 N (L_X4_dropOldest_0 N cf sl sz k0) (nI k0) (o_X7_cell_r N (L_X4_dropOldest_0 N cf sl sz k0) ((nI k0) + 12))) _ _ _ (by rw [L_X4_dropOldest_0]) hG (lv_sub hl [0, 1] rfl)
  exact kl_0 (N - 12) 0 (by omega) cf _ _ _ (by rw [L_X4_dropOldest_0]) hG (lv_sub hl [0, 1] rfl)
def j_X4_push_0_0 (N : Nat) (cf : Nat → Int32) (g : Nat → Int32) (sl : Int32) (sz : Int32) : Int32 := (if sz < sl then sz else (o_X4_dropOldest_0_2 N cf sl sz))
def j_X4_push_0_1 (N : Nat) (cf : Nat → Int32) (g : Nat → Int32) (sl : Int32) (sz : Int32) : Nat → Int32 := (if sz < sl then cf else (o_X4_dropOldest_1 N cf sl sz))
def o_X4_push_0_2 (N : Nat) (cf : Nat → Int32) (g : Nat → Int32) (sl : Int32) (sz : Int32) : Int32 := ((j_X4_push_0_0 N cf g sl sz) + 1)
def o_X4_push_1 (N : Nat) (cf : Nat → Int32) (g : Nat → Int32) (sl : Int32) (sz : Int32) : Nat → Int32 := (o_X0_store_3 N g (j_X4_push_0_1 N cf g sl sz) ((j_X4_push_0_0 N cf g sl sz) * 12))
set_option maxRecDepth 100000 in
set_option maxHeartbeats 4000000 in
theorem c_X4_push (l : Launch) (E : zE) (N : Nat) (cf : Nat → Int32) (g : Nat → Int32) (sl : Int32) (sz : Int32) (qh qc a q1 q2 : Nat) (hN : N < 2 ^ 31) (h12 : 12 ≤ N) : HM l E yX4_push cX4_push 2 none 3 66 [.ref qh, .ref a] [(qh, .inr (4, [.int sl, .ref qc, .int sz])), (qc, .inl (E.2.1.1, N, .inl cf)), (a, .inr (0, [.ref q1, .ref q2, .int (g 10), .int (g 11)])), (q1, .inr (1, [.int (g 0), .int (g 1), .int (g 2), .int (g 3), .int (g 4), .int (g 12), .int (g 13)])), (q2, .inr (1, [.int (g 5), .int (g 6), .int (g 7), .int (g 8), .int (g 9), .int (g 14), .int (g 15)]))] none [(qh, .inr (4, [.int sl, .ref qc, .int (o_X4_push_0_2 N cf g sl sz)])), (qc, .inl (E.2.1.1, N, .inl (o_X4_push_1 N cf g sl sz))), (a, .inr (0, [.ref q1, .ref q2, .int (g 10), .int (g 11)])), (q1, .inr (1, [.int (g 0), .int (g 1), .int (g 2), .int (g 3), .int (g 4), .int (g 12), .int (g 13)])), (q2, .inr (1, [.int (g 5), .int (g 6), .int (g 7), .int (g 8), .int (g 9), .int (g 14), .int (g 15)]))] := by
  refine HM.of (own := RX4) (plainFor_of_name (by decide)) rfl (Nat.le_of_ble_eq_true rfl) ?_
  intro zp ze zs zm za zb zt zc zA ls H locs zq C hr hlk hG hl hQ
  have hx := C.1.1
  have hb := C.1.2.1
  replace hl : lv_has ls 2 [(0, .ref qh), (1, .ref a)] := hl
  refine lv_aload_n hx hb dX4_push_0 rfl (lv_at hl 0 rfl) ?_
  refine gf_X4_30 C dX4_push_1 hG 0 rfl rfl ?_
  refine lv_aload_n hx hb dX4_push_4 rfl (lv_at hl 0 rfl) ?_
  refine gf_X4_18 C dX4_push_5 hG 0 rfl rfl ?_
  have k_0 : ∀ (y0_0 : Int32) (y0_1 : Nat → Int32) (H : Heap) (locs : List Loc) (ls : Array Slot), (j_X4_push_0_0 N cf g sl sz) = y0_0 → (j_X4_push_0_1 N cf g sl sz) = y0_1 → zG E zA zs.heap [(qh, .inr (4, [.int sl, .ref qc, .int y0_0])), (qc, .inl (E.2.1.1, N, .inl y0_1)), (a, .inr (0, [.ref q1, .ref q2, .int (g 10), .int (g 11)])), (q1, .inr (1, [.int (g 0), .int (g 1), .int (g 2), .int (g 3), .int (g 4), .int (g 12), .int (g 13)])), (q2, .inr (1, [.int (g 5), .int (g 6), .int (g 7), .int (g 8), .int (g 9), .int (g 14), .int (g 15)]))] H locs → lv_has ls 2 [(0, .ref qh), (1, .ref a)] → W zp l ze (zR 3 66) zs zm za zb zt zc H locs 0 0 zq (F0 zm 15 ls []) := by
    intro y0_0 y0_1 H locs ls e_y0_0 e_y0_1 hG hl
    subst e_y0_0
    subst e_y0_1
    refine lv_aload_n hx hb dX4_push_15 rfl (lv_at hl 1 rfl) ?_
    refine lv_aload_n hx hb dX4_push_16 rfl (lv_at hl 0 rfl) ?_
    refine gf_X4_26 C dX4_push_17 hG 0 rfl rfl ?_
    refine lv_aload_n hx hb dX4_push_20 rfl (lv_at hl 0 rfl) ?_
    refine gf_X4_30 C dX4_push_21 hG 0 rfl rfl ?_
    refine lv_bipush (v := 12) hx hb dX4_push_24 (by decide) ?_
    refine lv_imul hx hb dX4_push_26 ?_
    refine call_X4_36 C dX4_push_27 (c_X0_store l E N g (j_X4_push_0_1 N cf g sl sz) ((j_X4_push_0_0 N cf g sl sz) * 12) a q1 q2 qc hN) hl hG 2 rfl [2, 3, 4, 1] (by decide) rfl (ads := [a, q1, q2, qc]) rfl rfl (ws' := [(qh, .inr (4, [.int sl, .ref qc, .int (j_X4_push_0_0 N cf g sl sz)])), (qc, .inl (E.2.1.1, N, .inl (o_X0_store_3 N g (j_X4_push_0_1 N cf g sl sz) ((j_X4_push_0_0 N cf g sl sz) * 12)))), (a, .inr (0, [.ref q1, .ref q2, .int (g 10), .int (g 11)])), (q1, .inr (1, [.int (g 0), .int (g 1), .int (g 2), .int (g 3), .int (g 4), .int (g 12), .int (g 13)])), (q2, .inr (1, [.int (g 5), .int (g 6), .int (g 7), .int (g 8), .int (g 9), .int (g 14), .int (g 15)]))]) rfl rfl (rest := []) rfl (Nat.le_of_ble_eq_true rfl) ⟨Nat.le_of_ble_eq_true rfl, Nat.le_of_ble_eq_true rfl⟩ (fun H locs hG => ?_)
    refine lv_aload_n hx hb dX4_push_30 rfl (lv_at hl 0 rfl) ?_
    refine lv_dup hx hb dX4_push_31 rfl ?_
    refine gf_X4_30 C dX4_push_32 hG 0 rfl rfl ?_
    refine lv_iconst (v := 1) hx hb dX4_push_35 (by decide) ?_
    refine lv_iadd hx hb dX4_push_36 ?_
    refine pf_X4_30 C dX4_push_37 hG 0 rfl (Nat.le_of_ble_eq_true rfl) (ws' := [(qh, .inr (4, [.int sl, .ref qc, .int ((j_X4_push_0_0 N cf g sl sz) + 1)])), (qc, .inl (E.2.1.1, N, .inl (o_X0_store_3 N g (j_X4_push_0_1 N cf g sl sz) ((j_X4_push_0_0 N cf g sl sz) * 12)))), (a, .inr (0, [.ref q1, .ref q2, .int (g 10), .int (g 11)])), (q1, .inr (1, [.int (g 0), .int (g 1), .int (g 2), .int (g 3), .int (g 4), .int (g 12), .int (g 13)])), (q2, .inr (1, [.int (g 5), .int (g 6), .int (g 7), .int (g 8), .int (g 9), .int (g 14), .int (g 15)]))]) rfl (fun H locs hG => ?_)
    rw [hQ]
    exact z_vret C hr hlk hG dX4_push_40 rfl (by rw [o_X4_push_0_2, o_X4_push_1])
  refine lv_icmp_lt (tgt := 15) hx hb dX4_push_8 (by decide) (fun c_1 => ?_) (fun c_1 => ?_)
  · skip
    exact k_0 sz cf _ _ _ (by rw [j_X4_push_0_0, if_pos c_1]) (by rw [j_X4_push_0_1, if_pos c_1]) hG (lv_sub hl [0, 1] rfl)
  · skip
    refine lv_aload_n hx hb dX4_push_11 rfl (lv_at hl 0 rfl) ?_
    refine call_X4_33 C dX4_push_12 (c_X4_dropOldest l E N cf sl sz qh qc hN h12) hl hG 0 rfl [0, 1] (by decide) rfl (ads := [qh, qc]) rfl rfl (ws' := [(qh, .inr (4, [.int sl, .ref qc, .int (o_X4_dropOldest_0_2 N cf sl sz)])), (qc, .inl (E.2.1.1, N, .inl (o_X4_dropOldest_1 N cf sl sz))), (a, .inr (0, [.ref q1, .ref q2, .int (g 10), .int (g 11)])), (q1, .inr (1, [.int (g 0), .int (g 1), .int (g 2), .int (g 3), .int (g 4), .int (g 12), .int (g 13)])), (q2, .inr (1, [.int (g 5), .int (g 6), .int (g 7), .int (g 8), .int (g 9), .int (g 14), .int (g 15)]))]) rfl rfl (rest := []) rfl (Nat.le_of_ble_eq_true rfl) ⟨Nat.le_of_ble_eq_true rfl, Nat.le_of_ble_eq_true rfl⟩ (fun H locs hG => ?_)
    exact k_0 (o_X4_dropOldest_0_2 N cf sl sz) (o_X4_dropOldest_1 N cf sl sz) _ _ _ (by rw [j_X4_push_0_0, if_neg c_1]) (by rw [j_X4_push_0_1, if_neg c_1]) hG (lv_sub hl [0, 1] rfl)
def o_X4_pop_0_2 (N : Nat) (cf : Nat → Int32) (g : Nat → Int32) (sl : Int32) (sz : Int32) : Int32 := (if sz ≤ 0 then sz else (sz - 1))
def o_X4_pop_g (N : Nat) (cf : Nat → Int32) (g : Nat → Int32) (sl : Int32) (sz : Int32) : Nat → Int32 := (if sz ≤ 0 then g else (o_X0_restore_g N g cf ((sz - 1) * 12)))
set_option maxRecDepth 100000 in
set_option maxHeartbeats 4000000 in
theorem c_X4_pop (l : Launch) (E : zE) (N : Nat) (cf : Nat → Int32) (g : Nat → Int32) (sl : Int32) (sz : Int32) (qh qc a q1 q2 : Nat) (hN : N < 2 ^ 31) (h12 : 12 ≤ N) : HM l E yX4_pop cX4_pop 2 none 3 65 [.ref qh, .ref a] [(qh, .inr (4, [.int sl, .ref qc, .int sz])), (qc, .inl (E.2.1.1, N, .inl cf)), (a, .inr (0, [.ref q1, .ref q2, .int (g 10), .int (g 11)])), (q1, .inr (1, [.int (g 0), .int (g 1), .int (g 2), .int (g 3), .int (g 4), .int (g 12), .int (g 13)])), (q2, .inr (1, [.int (g 5), .int (g 6), .int (g 7), .int (g 8), .int (g 9), .int (g 14), .int (g 15)]))] none [(qh, .inr (4, [.int sl, .ref qc, .int (o_X4_pop_0_2 N cf g sl sz)])), (qc, .inl (E.2.1.1, N, .inl cf)), (a, .inr (0, [.ref q1, .ref q2, .int (o_X4_pop_g N cf g sl sz 10), .int (o_X4_pop_g N cf g sl sz 11)])), (q1, .inr (1, [.int (o_X4_pop_g N cf g sl sz 0), .int (o_X4_pop_g N cf g sl sz 1), .int (o_X4_pop_g N cf g sl sz 2), .int (o_X4_pop_g N cf g sl sz 3), .int (o_X4_pop_g N cf g sl sz 4), .int (o_X4_pop_g N cf g sl sz 12), .int (o_X4_pop_g N cf g sl sz 13)])), (q2, .inr (1, [.int (o_X4_pop_g N cf g sl sz 5), .int (o_X4_pop_g N cf g sl sz 6), .int (o_X4_pop_g N cf g sl sz 7), .int (o_X4_pop_g N cf g sl sz 8), .int (o_X4_pop_g N cf g sl sz 9), .int (o_X4_pop_g N cf g sl sz 14), .int (o_X4_pop_g N cf g sl sz 15)]))] := by
  refine HM.of (own := RX4) (plainFor_of_name (by decide)) rfl (Nat.le_of_ble_eq_true rfl) ?_
  intro zp ze zs zm za zb zt zc zA ls H locs zq C hr hlk hG hl hQ
  have hx := C.1.1
  have hb := C.1.2.1
  replace hl : lv_has ls 2 [(0, .ref qh), (1, .ref a)] := hl
  refine lv_aload_n hx hb dX4_pop_0 rfl (lv_at hl 0 rfl) ?_
  refine gf_X4_30 C dX4_pop_1 hG 0 rfl rfl ?_
  refine lv_if_le (tgt := 32) hx hb dX4_pop_4 (by decide) (fun c_1 => ?_) (fun c_1 => ?_)
  · skip
    rw [hQ]
    exact z_vret C hr hlk hG dX4_pop_32 rfl (by rw [o_X4_pop_0_2, if_pos c_1, o_X4_pop_g, if_pos c_1])
  · skip
    refine lv_aload_n hx hb dX4_pop_7 rfl (lv_at hl 0 rfl) ?_
    refine lv_dup hx hb dX4_pop_8 rfl ?_
    refine gf_X4_30 C dX4_pop_9 hG 0 rfl rfl ?_
    refine lv_iconst (v := 1) hx hb dX4_pop_12 (by decide) ?_
    refine lv_isub hx hb dX4_pop_13 ?_
    refine pf_X4_30 C dX4_pop_14 hG 0 rfl (Nat.le_of_ble_eq_true rfl) (ws' := [(qh, .inr (4, [.int sl, .ref qc, .int (sz - 1)])), (qc, .inl (E.2.1.1, N, .inl cf)), (a, .inr (0, [.ref q1, .ref q2, .int (g 10), .int (g 11)])), (q1, .inr (1, [.int (g 0), .int (g 1), .int (g 2), .int (g 3), .int (g 4), .int (g 12), .int (g 13)])), (q2, .inr (1, [.int (g 5), .int (g 6), .int (g 7), .int (g 8), .int (g 9), .int (g 14), .int (g 15)]))]) rfl (fun H locs hG => ?_)
    refine lv_aload_n hx hb dX4_pop_17 rfl (lv_at hl 1 rfl) ?_
    refine lv_aload_n hx hb dX4_pop_18 rfl (lv_at hl 0 rfl) ?_
    refine gf_X4_26 C dX4_pop_19 hG 0 rfl rfl ?_
    refine lv_aload_n hx hb dX4_pop_22 rfl (lv_at hl 0 rfl) ?_
    refine gf_X4_30 C dX4_pop_23 hG 0 rfl rfl ?_
    refine lv_bipush (v := 12) hx hb dX4_pop_26 (by decide) ?_
    refine lv_imul hx hb dX4_pop_28 ?_
    refine call_X4_40 C dX4_pop_29 (c_X0_restore l E N g cf ((sz - 1) * 12) a q1 q2 qc hN) hl hG 2 rfl [2, 3, 4, 1] (by decide) rfl (ads := [a, q1, q2, qc]) rfl rfl (ws' := [(qh, .inr (4, [.int sl, .ref qc, .int (sz - 1)])), (qc, .inl (E.2.1.1, N, .inl cf)), (a, .inr (0, [.ref q1, .ref q2, .int (o_X0_restore_g N g cf ((sz - 1) * 12) 10), .int (o_X0_restore_g N g cf ((sz - 1) * 12) 11)])), (q1, .inr (1, [.int (o_X0_restore_g N g cf ((sz - 1) * 12) 0), .int (o_X0_restore_g N g cf ((sz - 1) * 12) 1), .int (o_X0_restore_g N g cf ((sz - 1) * 12) 2), .int (o_X0_restore_g N g cf ((sz - 1) * 12) 3), .int (o_X0_restore_g N g cf ((sz - 1) * 12) 4), .int (o_X0_restore_g N g cf ((sz - 1) * 12) 12), .int (o_X0_restore_g N g cf ((sz - 1) * 12) 13)])), (q2, .inr (1, [.int (o_X0_restore_g N g cf ((sz - 1) * 12) 5), .int (o_X0_restore_g N g cf ((sz - 1) * 12) 6), .int (o_X0_restore_g N g cf ((sz - 1) * 12) 7), .int (o_X0_restore_g N g cf ((sz - 1) * 12) 8), .int (o_X0_restore_g N g cf ((sz - 1) * 12) 9), .int (o_X0_restore_g N g cf ((sz - 1) * 12) 14), .int (o_X0_restore_g N g cf ((sz - 1) * 12) 15)]))]) rfl rfl (rest := []) rfl (Nat.le_of_ble_eq_true rfl) ⟨Nat.le_of_ble_eq_true rfl, Nat.le_of_ble_eq_true rfl⟩ (fun H locs hG => ?_)
    rw [hQ]
    exact z_vret C hr hlk hG dX4_pop_32 rfl (by rw [o_X4_pop_0_2, if_neg c_1, o_X4_pop_g, if_neg c_1])
def o_X5_add_0_3 (fs : Nat → Int32) (ft : Nat → Int32) (fh : Nat → Int32) (sz : Int32) (p : Int32) (t : Int32) (h : Int32) : Int32 := (sz + 1)
def o_X5_add_1 (fs : Nat → Int32) (ft : Nat → Int32) (fh : Nat → Int32) (sz : Int32) (p : Int32) (t : Int32) (h : Int32) : Nat → Int32 := (o_X7_setCell_0 6 fs sz p)
def o_X5_add_2 (fs : Nat → Int32) (ft : Nat → Int32) (fh : Nat → Int32) (sz : Int32) (p : Int32) (t : Int32) (h : Int32) : Nat → Int32 := (o_X7_setCell_0 6 ft sz t)
def o_X5_add_3 (fs : Nat → Int32) (ft : Nat → Int32) (fh : Nat → Int32) (sz : Int32) (p : Int32) (t : Int32) (h : Int32) : Nat → Int32 := (o_X7_setCell_0 6 fh sz h)
set_option maxRecDepth 100000 in
set_option maxHeartbeats 4000000 in
theorem c_X5_add (l : Launch) (E : zE) (fs : Nat → Int32) (ft : Nat → Int32) (fh : Nat → Int32) (sz : Int32) (p : Int32) (t : Int32) (h : Int32) (qZ z1 z2 z3 : Nat) : HM l E yX5_add cX5_add 4 none 1 22 [.ref qZ, .int p, .int t, .int h] [(qZ, .inr (5, [.ref z1, .ref z2, .ref z3, .int sz])), (z1, .inl (E.2.1.1, 6, .inl fs)), (z2, .inl (E.2.1.1, 6, .inl ft)), (z3, .inl (E.2.1.1, 6, .inl fh))] none [(qZ, .inr (5, [.ref z1, .ref z2, .ref z3, .int (o_X5_add_0_3 fs ft fh sz p t h)])), (z1, .inl (E.2.1.1, 6, .inl (o_X5_add_1 fs ft fh sz p t h))), (z2, .inl (E.2.1.1, 6, .inl (o_X5_add_2 fs ft fh sz p t h))), (z3, .inl (E.2.1.1, 6, .inl (o_X5_add_3 fs ft fh sz p t h)))] := by
  refine HM.of (own := RX5) (plainFor_of_name (by decide)) rfl (Nat.le_of_ble_eq_true rfl) ?_
  intro zp ze zs zm za zb zt zc zA ls H locs zq C hr hlk hG hl hQ
  have hx := C.1.1
  have hb := C.1.2.1
  replace hl : lv_has ls 4 [(0, .ref qZ), (1, .int p), (2, .int t), (3, .int h)] := hl
  refine lv_aload_n hx hb dX5_add_0 rfl (lv_at hl 0 rfl) ?_
  refine gf_X5_9 C dX5_add_1 hG 0 rfl rfl ?_
  refine lv_aload_n hx hb dX5_add_4 rfl (lv_at hl 0 rfl) ?_
  refine gf_X5_21 C dX5_add_5 hG 0 rfl rfl ?_
  refine lv_iload_n hx hb dX5_add_8 rfl (lv_at hl 1 rfl) ?_
  refine call_X5_25 C dX5_add_9 (c_X7_setCell l E 6 fs sz p z1 (Nat.le_of_ble_eq_true rfl)) hl hG [1] (by decide) rfl (ads := [z1]) rfl rfl (ws' := [(qZ, .inr (5, [.ref z1, .ref z2, .ref z3, .int sz])), (z1, .inl (E.2.1.1, 6, .inl (o_X7_setCell_0 6 fs sz p))), (z2, .inl (E.2.1.1, 6, .inl ft)), (z3, .inl (E.2.1.1, 6, .inl fh))]) rfl rfl (rest := []) rfl (Nat.le_of_ble_eq_true rfl) ⟨Nat.le_of_ble_eq_true rfl, Nat.le_of_ble_eq_true rfl⟩ (fun H locs hG => ?_)
  refine lv_aload_n hx hb dX5_add_12 rfl (lv_at hl 0 rfl) ?_
  refine gf_X5_15 C dX5_add_13 hG 0 rfl rfl ?_
  refine lv_aload_n hx hb dX5_add_16 rfl (lv_at hl 0 rfl) ?_
  refine gf_X5_21 C dX5_add_17 hG 0 rfl rfl ?_
  refine lv_iload_n hx hb dX5_add_20 rfl (lv_at hl 2 rfl) ?_
  refine call_X5_25 C dX5_add_21 (c_X7_setCell l E 6 ft sz t z2 (Nat.le_of_ble_eq_true rfl)) hl hG [2] (by decide) rfl (ads := [z2]) rfl rfl (ws' := [(qZ, .inr (5, [.ref z1, .ref z2, .ref z3, .int sz])), (z1, .inl (E.2.1.1, 6, .inl (o_X7_setCell_0 6 fs sz p))), (z2, .inl (E.2.1.1, 6, .inl (o_X7_setCell_0 6 ft sz t))), (z3, .inl (E.2.1.1, 6, .inl fh))]) rfl rfl (rest := []) rfl (Nat.le_of_ble_eq_true rfl) ⟨Nat.le_of_ble_eq_true rfl, Nat.le_of_ble_eq_true rfl⟩ (fun H locs hG => ?_)
  refine lv_aload_n hx hb dX5_add_24 rfl (lv_at hl 0 rfl) ?_
  refine gf_X5_18 C dX5_add_25 hG 0 rfl rfl ?_
  refine lv_aload_n hx hb dX5_add_28 rfl (lv_at hl 0 rfl) ?_
  refine gf_X5_21 C dX5_add_29 hG 0 rfl rfl ?_
  refine lv_iload_n hx hb dX5_add_32 rfl (lv_at hl 3 rfl) ?_
  refine call_X5_25 C dX5_add_33 (c_X7_setCell l E 6 fh sz h z3 (Nat.le_of_ble_eq_true rfl)) hl hG [3] (by decide) rfl (ads := [z3]) rfl rfl (ws' := [(qZ, .inr (5, [.ref z1, .ref z2, .ref z3, .int sz])), (z1, .inl (E.2.1.1, 6, .inl (o_X7_setCell_0 6 fs sz p))), (z2, .inl (E.2.1.1, 6, .inl (o_X7_setCell_0 6 ft sz t))), (z3, .inl (E.2.1.1, 6, .inl (o_X7_setCell_0 6 fh sz h)))]) rfl rfl (rest := []) rfl (Nat.le_of_ble_eq_true rfl) ⟨Nat.le_of_ble_eq_true rfl, Nat.le_of_ble_eq_true rfl⟩ (fun H locs hG => ?_)
  refine lv_aload_n hx hb dX5_add_36 rfl (lv_at hl 0 rfl) ?_
  refine lv_dup hx hb dX5_add_37 rfl ?_
  refine gf_X5_21 C dX5_add_38 hG 0 rfl rfl ?_
  refine lv_iconst (v := 1) hx hb dX5_add_41 (by decide) ?_
  refine lv_iadd hx hb dX5_add_42 ?_
  refine pf_X5_21 C dX5_add_43 hG 0 rfl (Nat.le_of_ble_eq_true rfl) (ws' := [(qZ, .inr (5, [.ref z1, .ref z2, .ref z3, .int (sz + 1)])), (z1, .inl (E.2.1.1, 6, .inl (o_X7_setCell_0 6 fs sz p))), (z2, .inl (E.2.1.1, 6, .inl (o_X7_setCell_0 6 ft sz t))), (z3, .inl (E.2.1.1, 6, .inl (o_X7_setCell_0 6 fh sz h)))]) rfl (fun H locs hG => ?_)
  rw [hQ]
  exact z_vret C hr hlk hG dX5_add_46 rfl (by rw [o_X5_add_0_3, o_X5_add_1, o_X5_add_2, o_X5_add_3])
def T_X5_agree_0 (fs : Nat → Int32) (ft : Nat → Int32) (fh : Nat → Int32) (g : Nat → Int32) (k : Nat) (t : Int32) : Nat → Nat →  Int32
  | 0, _ => 1
  | (j0 + 1), k0 => (if (o_X7_cell_r 6 ft (nI k0)) = t then (if (o_X7_cell_r 6 fs (nI k0)) = 0 then (if (g 1) = (o_X7_cell_r 6 fh (nI k0)) then (T_X5_agree_0 fs ft fh g k t j0 (k0 + 1) ) else 0) else (if (g 6) = (o_X7_cell_r 6 fh (nI k0)) then (T_X5_agree_0 fs ft fh g k t j0 (k0 + 1) ) else 0)) else (T_X5_agree_0 fs ft fh g k t j0 (k0 + 1) ))
def O_X5_agree (fs : Nat → Int32) (ft : Nat → Int32) (fh : Nat → Int32) (g : Nat → Int32) (k : Nat) (t : Int32) : Int32 := (T_X5_agree_0 fs ft fh g k t k 0)
set_option maxRecDepth 100000 in
set_option maxHeartbeats 4000000 in
theorem c_X5_agree (l : Launch) (E : zE) (fs : Nat → Int32) (ft : Nat → Int32) (fh : Nat → Int32) (g : Nat → Int32) (k : Nat) (t : Int32) (qZ z1 z2 z3 a q1 q2 : Nat) (hk : k < 2 ^ 31) : HM l E yX5_agree cX5_agree 4 (some .boolean) 1 21 [.ref qZ, .int t, .ref a] [(qZ, .inr (5, [.ref z1, .ref z2, .ref z3, .int (nI k)])), (z1, .inl (E.2.1.1, 6, .inl fs)), (z2, .inl (E.2.1.1, 6, .inl ft)), (z3, .inl (E.2.1.1, 6, .inl fh)), (a, .inr (0, [.ref q1, .ref q2, .int (g 10), .int (g 11)])), (q1, .inr (1, [.int (g 0), .int (g 1), .int (g 2), .int (g 3), .int (g 4), .int (g 12), .int (g 13)])), (q2, .inr (1, [.int (g 5), .int (g 6), .int (g 7), .int (g 8), .int (g 9), .int (g 14), .int (g 15)]))] (some (.int (O_X5_agree fs ft fh g k t))) [(qZ, .inr (5, [.ref z1, .ref z2, .ref z3, .int (nI k)])), (z1, .inl (E.2.1.1, 6, .inl fs)), (z2, .inl (E.2.1.1, 6, .inl ft)), (z3, .inl (E.2.1.1, 6, .inl fh)), (a, .inr (0, [.ref q1, .ref q2, .int (g 10), .int (g 11)])), (q1, .inr (1, [.int (g 0), .int (g 1), .int (g 2), .int (g 3), .int (g 4), .int (g 12), .int (g 13)])), (q2, .inr (1, [.int (g 5), .int (g 6), .int (g 7), .int (g 8), .int (g 9), .int (g 14), .int (g 15)]))] := by
  refine HM.of (own := RX5) (plainFor_of_name (by decide)) rfl (Nat.le_of_ble_eq_true rfl) ?_
  intro zp ze zs zm za zb zt zc zA ls H locs zq C hr hlk hG hl hQ
  have hx := C.1.1
  have hb := C.1.2.1
  replace hl : lv_has ls 4 [(0, .ref qZ), (1, .int t), (2, .ref a)] := hl
  generalize hF : O_X5_agree fs ft fh g k t = rr at hQ
  refine lv_iconst (v := 0) hx hb dX5_agree_0 (by decide) ?_
  refine lv_istore_n (lv' := [(3, .int 0), (0, .ref qZ), (1, .int t), (2, .ref a)]) hx hb dX5_agree_1 rfl hl (by decide) rfl (fun ls hl => ?_)
  rw [O_X5_agree] at hF
  have kt_0 : ∀ (j0 k0 : Nat), j0 + k0 = k → ∀ (H : Heap) (locs : List Loc) (ls : Array Slot), (T_X5_agree_0 fs ft fh g k t j0 k0) = rr → zG E zA zs.heap [(qZ, .inr (5, [.ref z1, .ref z2, .ref z3, .int (nI k)])), (z1, .inl (E.2.1.1, 6, .inl fs)), (z2, .inl (E.2.1.1, 6, .inl ft)), (z3, .inl (E.2.1.1, 6, .inl fh)), (a, .inr (0, [.ref q1, .ref q2, .int (g 10), .int (g 11)])), (q1, .inr (1, [.int (g 0), .int (g 1), .int (g 2), .int (g 3), .int (g 4), .int (g 12), .int (g 13)])), (q2, .inr (1, [.int (g 5), .int (g 6), .int (g 7), .int (g 8), .int (g 9), .int (g 14), .int (g 15)]))] H locs → lv_has ls 4 [(3, .int (nI k0)), (0, .ref qZ), (1, .int t), (2, .ref a)] → W zp l ze (zR 1 21) zs zm za zb zt zc H locs 0 0 zq (F0 zm 2 ls []) := by
    clear hF
    intro j0
    induction j0 with
    | zero =>
      intro k0 hk0  H locs ls hF hG hl
      obtain rfl : k = k0 := by omega
      rw [T_X5_agree_0] at hF
      refine lv_iload_n hx hb dX5_agree_2 rfl (lv_at hl 0 rfl) ?_
      refine lv_aload_n hx hb dX5_agree_3 rfl (lv_at hl 1 rfl) ?_
      refine gf_X5_21 C dX5_agree_4 hG 0 rfl rfl ?_
      refine lv_icmp_ge (tgt := 56) hx hb dX5_agree_7 (by decide) (fun c_7 => ?_) (fun c_7 => absurd (z_ge_yes rfl) c_7)
      refine lv_iconst (v := 1) hx hb dX5_agree_56 (by decide) ?_
      cases hF
      rw [hQ]
      exact z_iret C hr hlk hG dX5_agree_57 rfl rfl rfl
    | succ j0 ih0 =>
      intro k0 hk0  H locs ls hF hG hl
      have hlt : k0 < k := by omega
      rw [T_X5_agree_0] at hF
      refine lv_iload_n hx hb dX5_agree_2 rfl (lv_at hl 0 rfl) ?_
      refine lv_aload_n hx hb dX5_agree_3 rfl (lv_at hl 1 rfl) ?_
      refine gf_X5_21 C dX5_agree_4 hG 0 rfl rfl ?_
      refine lv_icmp_ge (tgt := 56) hx hb dX5_agree_7 (by decide) (fun c_8 => absurd c_8 (z_ge_no hlt hk rfl)) (fun c_8 => ?_)
      refine lv_aload_n hx hb dX5_agree_10 rfl (lv_at hl 1 rfl) ?_
      refine gf_X5_15 C dX5_agree_11 hG 0 rfl rfl ?_
      refine lv_iload_n hx hb dX5_agree_14 rfl (lv_at hl 0 rfl) ?_
      refine call_X5_29 C dX5_agree_15 (c_X7_cell l E 6 ft (nI k0) z2 (Nat.le_of_ble_eq_true rfl)) hl hG [2] (by decide) rfl (ads := [z2]) rfl rfl (ws' := [(qZ, .inr (5, [.ref z1, .ref z2, .ref z3, .int (nI k)])), (z1, .inl (E.2.1.1, 6, .inl fs)), (z2, .inl (E.2.1.1, 6, .inl ft)), (z3, .inl (E.2.1.1, 6, .inl fh)), (a, .inr (0, [.ref q1, .ref q2, .int (g 10), .int (g 11)])), (q1, .inr (1, [.int (g 0), .int (g 1), .int (g 2), .int (g 3), .int (g 4), .int (g 12), .int (g 13)])), (q2, .inr (1, [.int (g 5), .int (g 6), .int (g 7), .int (g 8), .int (g 9), .int (g 14), .int (g 15)]))]) rfl rfl (rest := []) rfl (Nat.le_of_ble_eq_true rfl) ⟨Nat.le_of_ble_eq_true rfl, Nat.le_of_ble_eq_true rfl⟩ (fun H locs hG => ?_)
      refine lv_iload_n hx hb dX5_agree_18 rfl (lv_at hl 2 rfl) ?_
      refine lv_icmp_ne (tgt := 50) hx hb dX5_agree_19 (by decide) (fun c_9 => ?_) (fun c_9 => ?_)
      · skip
        refine lv_iinc (v := (nI (k0 + 1))) (lv' := [(3, .int (nI (k0 + 1))), (0, .ref qZ), (1, .int t), (2, .ref a)]) hx hb dX5_agree_50 hl (k := 0) rfl (nI_1 _) (by decide) rfl (fun ls hl => ?_)
        refine lv_goto (tgt := 2) hx hb dX5_agree_53 (by decide) ?_
        rw [if_neg c_9] at hF
        exact ih0 (k0 + 1) (by omega)  _ _ _ hF hG (lv_sub hl [0, 1, 2, 3] rfl)
      · skip
        refine lv_aload_n hx hb dX5_agree_22 rfl (lv_at hl 3 rfl) ?_
        refine lv_aload_n hx hb dX5_agree_23 rfl (lv_at hl 1 rfl) ?_
        refine gf_X5_9 C dX5_agree_24 hG 0 rfl rfl ?_
        refine lv_iload_n hx hb dX5_agree_27 rfl (lv_at hl 0 rfl) ?_
        refine call_X5_29 C dX5_agree_28 (c_X7_cell l E 6 fs (nI k0) z1 (Nat.le_of_ble_eq_true rfl)) hl hG [1] (by decide) rfl (ads := [z1]) rfl rfl (ws' := [(qZ, .inr (5, [.ref z1, .ref z2, .ref z3, .int (nI k)])), (z1, .inl (E.2.1.1, 6, .inl fs)), (z2, .inl (E.2.1.1, 6, .inl ft)), (z3, .inl (E.2.1.1, 6, .inl fh)), (a, .inr (0, [.ref q1, .ref q2, .int (g 10), .int (g 11)])), (q1, .inr (1, [.int (g 0), .int (g 1), .int (g 2), .int (g 3), .int (g 4), .int (g 12), .int (g 13)])), (q2, .inr (1, [.int (g 5), .int (g 6), .int (g 7), .int (g 8), .int (g 9), .int (g 14), .int (g 15)]))]) rfl rfl (rest := [.ref a]) rfl (Nat.le_of_ble_eq_true rfl) ⟨Nat.le_of_ble_eq_true rfl, Nat.le_of_ble_eq_true rfl⟩ (fun H locs hG => ?_)
        by_cases c_10 : (o_X7_cell_r 6 fs (nI k0)) = 0
        · skip
          refine call_X5_33 C dX5_agree_31 (c_X0_of_z l E (g 10) (g 11) (o_X7_cell_r 6 fs (nI k0)) a q1 q2 c_10) hl hG 4 rfl [4] (by decide) rfl (ads := [a]) rfl rfl (ws' := [(qZ, .inr (5, [.ref z1, .ref z2, .ref z3, .int (nI k)])), (z1, .inl (E.2.1.1, 6, .inl fs)), (z2, .inl (E.2.1.1, 6, .inl ft)), (z3, .inl (E.2.1.1, 6, .inl fh)), (a, .inr (0, [.ref q1, .ref q2, .int (g 10), .int (g 11)])), (q1, .inr (1, [.int (g 0), .int (g 1), .int (g 2), .int (g 3), .int (g 4), .int (g 12), .int (g 13)])), (q2, .inr (1, [.int (g 5), .int (g 6), .int (g 7), .int (g 8), .int (g 9), .int (g 14), .int (g 15)]))]) rfl rfl (rest := []) rfl (Nat.le_of_ble_eq_true rfl) ⟨Nat.le_of_ble_eq_true rfl, Nat.le_of_ble_eq_true rfl⟩ (fun H locs hG => ?_)
          refine gf_X5_39 C dX5_agree_34 hG 5 rfl rfl ?_
          refine lv_aload_n hx hb dX5_agree_37 rfl (lv_at hl 1 rfl) ?_
          refine gf_X5_18 C dX5_agree_38 hG 0 rfl rfl ?_
          refine lv_iload_n hx hb dX5_agree_41 rfl (lv_at hl 0 rfl) ?_
          refine call_X5_29 C dX5_agree_42 (c_X7_cell l E 6 fh (nI k0) z3 (Nat.le_of_ble_eq_true rfl)) hl hG [3] (by decide) rfl (ads := [z3]) rfl rfl (ws' := [(qZ, .inr (5, [.ref z1, .ref z2, .ref z3, .int (nI k)])), (z1, .inl (E.2.1.1, 6, .inl fs)), (z2, .inl (E.2.1.1, 6, .inl ft)), (z3, .inl (E.2.1.1, 6, .inl fh)), (a, .inr (0, [.ref q1, .ref q2, .int (g 10), .int (g 11)])), (q1, .inr (1, [.int (g 0), .int (g 1), .int (g 2), .int (g 3), .int (g 4), .int (g 12), .int (g 13)])), (q2, .inr (1, [.int (g 5), .int (g 6), .int (g 7), .int (g 8), .int (g 9), .int (g 14), .int (g 15)]))]) rfl rfl (rest := [.int (g 1)]) rfl (Nat.le_of_ble_eq_true rfl) ⟨Nat.le_of_ble_eq_true rfl, Nat.le_of_ble_eq_true rfl⟩ (fun H locs hG => ?_)
          refine lv_icmp_eq (tgt := 50) hx hb dX5_agree_45 (by decide) (fun c_11 => ?_) (fun c_11 => ?_)
          · skip
            refine lv_iinc (v := (nI (k0 + 1))) (lv' := [(3, .int (nI (k0 + 1))), (0, .ref qZ), (1, .int t), (2, .ref a)]) hx hb dX5_agree_50 hl (k := 0) rfl (nI_1 _) (by decide) rfl (fun ls hl => ?_)
            refine lv_goto (tgt := 2) hx hb dX5_agree_53 (by decide) ?_
            rw [if_pos c_9, if_pos c_10, if_pos c_11] at hF
            exact ih0 (k0 + 1) (by omega)  _ _ _ hF hG (lv_sub hl [0, 1, 2, 3] rfl)
          · skip
            refine lv_iconst (v := 0) hx hb dX5_agree_48 (by decide) ?_
            rw [if_pos c_9, if_pos c_10, if_neg c_11] at hF
            cases hF
            rw [hQ]
            exact z_iret C hr hlk hG dX5_agree_49 rfl rfl rfl
        · skip
          refine call_X5_33 C dX5_agree_31 (c_X0_of_n l E (g 10) (g 11) (o_X7_cell_r 6 fs (nI k0)) a q1 q2 c_10) hl hG 4 rfl [4] (by decide) rfl (ads := [a]) rfl rfl (ws' := [(qZ, .inr (5, [.ref z1, .ref z2, .ref z3, .int (nI k)])), (z1, .inl (E.2.1.1, 6, .inl fs)), (z2, .inl (E.2.1.1, 6, .inl ft)), (z3, .inl (E.2.1.1, 6, .inl fh)), (a, .inr (0, [.ref q1, .ref q2, .int (g 10), .int (g 11)])), (q1, .inr (1, [.int (g 0), .int (g 1), .int (g 2), .int (g 3), .int (g 4), .int (g 12), .int (g 13)])), (q2, .inr (1, [.int (g 5), .int (g 6), .int (g 7), .int (g 8), .int (g 9), .int (g 14), .int (g 15)]))]) rfl rfl (rest := []) rfl (Nat.le_of_ble_eq_true rfl) ⟨Nat.le_of_ble_eq_true rfl, Nat.le_of_ble_eq_true rfl⟩ (fun H locs hG => ?_)
          refine gf_X5_39 C dX5_agree_34 hG 6 rfl rfl ?_
          refine lv_aload_n hx hb dX5_agree_37 rfl (lv_at hl 1 rfl) ?_
          refine gf_X5_18 C dX5_agree_38 hG 0 rfl rfl ?_
          refine lv_iload_n hx hb dX5_agree_41 rfl (lv_at hl 0 rfl) ?_
          refine call_X5_29 C dX5_agree_42 (c_X7_cell l E 6 fh (nI k0) z3 (Nat.le_of_ble_eq_true rfl)) hl hG [3] (by decide) rfl (ads := [z3]) rfl rfl (ws' := [(qZ, .inr (5, [.ref z1, .ref z2, .ref z3, .int (nI k)])), (z1, .inl (E.2.1.1, 6, .inl fs)), (z2, .inl (E.2.1.1, 6, .inl ft)), (z3, .inl (E.2.1.1, 6, .inl fh)), (a, .inr (0, [.ref q1, .ref q2, .int (g 10), .int (g 11)])), (q1, .inr (1, [.int (g 0), .int (g 1), .int (g 2), .int (g 3), .int (g 4), .int (g 12), .int (g 13)])), (q2, .inr (1, [.int (g 5), .int (g 6), .int (g 7), .int (g 8), .int (g 9), .int (g 14), .int (g 15)]))]) rfl rfl (rest := [.int (g 6)]) rfl (Nat.le_of_ble_eq_true rfl) ⟨Nat.le_of_ble_eq_true rfl, Nat.le_of_ble_eq_true rfl⟩ (fun H locs hG => ?_)
          refine lv_icmp_eq (tgt := 50) hx hb dX5_agree_45 (by decide) (fun c_12 => ?_) (fun c_12 => ?_)
          · skip
            refine lv_iinc (v := (nI (k0 + 1))) (lv' := [(3, .int (nI (k0 + 1))), (0, .ref qZ), (1, .int t), (2, .ref a)]) hx hb dX5_agree_50 hl (k := 0) rfl (nI_1 _) (by decide) rfl (fun ls hl => ?_)
            refine lv_goto (tgt := 2) hx hb dX5_agree_53 (by decide) ?_
            rw [if_pos c_9, if_neg c_10, if_pos c_12] at hF
            exact ih0 (k0 + 1) (by omega)  _ _ _ hF hG (lv_sub hl [0, 1, 2, 3] rfl)
          · skip
            refine lv_iconst (v := 0) hx hb dX5_agree_48 (by decide) ?_
            rw [if_pos c_9, if_neg c_10, if_neg c_12] at hF
            cases hF
            rw [hQ]
            exact z_iret C hr hlk hG dX5_agree_49 rfl rfl rfl
  exact kt_0 k 0 (by omega)  _ _ _ hF hG (lv_sub hl [0, 1, 2, 3] rfl)
def o_X3_begin_0_4 (fl : Nat → Int32) (fr : Nat → Int32) (si : Int32) (mo : Int32) (at_ : Int32) (g : Nat → Int32) (p : Int32) (n : Int32) (b_ : Int32) : Int32 := p
def o_X3_begin_0_5 (fl : Nat → Int32) (fr : Nat → Int32) (si : Int32) (mo : Int32) (at_ : Int32) (g : Nat → Int32) (p : Int32) (n : Int32) (b_ : Int32) : Int32 := n
def o_X3_begin_0_6 (fl : Nat → Int32) (fr : Nat → Int32) (si : Int32) (mo : Int32) (at_ : Int32) (g : Nat → Int32) (p : Int32) (n : Int32) (b_ : Int32) : Int32 := b_
def o_X3_begin_1 (fl : Nat → Int32) (fr : Nat → Int32) (si : Int32) (mo : Int32) (at_ : Int32) (g : Nat → Int32) (p : Int32) (n : Int32) (b_ : Int32) : Nat → Int32 := (o_X0_store_3 72 g fl 0)
set_option maxRecDepth 100000 in
set_option maxHeartbeats 4000000 in
theorem c_X3_begin (l : Launch) (E : zE) (fl : Nat → Int32) (fr : Nat → Int32) (si : Int32) (mo : Int32) (at_ : Int32) (g : Nat → Int32) (p : Int32) (n : Int32) (b_ : Int32) (qL qS w lv rw a q1 q2 : Nat) (hb_ : b_ = 0 ∨ b_ = 1) : HM l E yX3_begin cX3_begin 5 none 3 66 [.ref qL, .ref a, .int p, .int n, .int b_] [(qL, .inr (3, [.ref qS, .ref w, .ref lv, .ref rw, .int si, .int mo, .int at_])), (lv, .inl (E.2.1.1, 72, .inl fl)), (rw, .inl (E.2.1.1, 5, .inl fr)), (a, .inr (0, [.ref q1, .ref q2, .int (g 10), .int (g 11)])), (q1, .inr (1, [.int (g 0), .int (g 1), .int (g 2), .int (g 3), .int (g 4), .int (g 12), .int (g 13)])), (q2, .inr (1, [.int (g 5), .int (g 6), .int (g 7), .int (g 8), .int (g 9), .int (g 14), .int (g 15)]))] none [(qL, .inr (3, [.ref qS, .ref w, .ref lv, .ref rw, .int (o_X3_begin_0_4 fl fr si mo at_ g p n b_), .int (o_X3_begin_0_5 fl fr si mo at_ g p n b_), .int (o_X3_begin_0_6 fl fr si mo at_ g p n b_)])), (lv, .inl (E.2.1.1, 72, .inl (o_X3_begin_1 fl fr si mo at_ g p n b_))), (rw, .inl (E.2.1.1, 5, .inl fr)), (a, .inr (0, [.ref q1, .ref q2, .int (g 10), .int (g 11)])), (q1, .inr (1, [.int (g 0), .int (g 1), .int (g 2), .int (g 3), .int (g 4), .int (g 12), .int (g 13)])), (q2, .inr (1, [.int (g 5), .int (g 6), .int (g 7), .int (g 8), .int (g 9), .int (g 14), .int (g 15)]))] := by
  refine HM.of (own := RX3) (plainFor_of_name (by decide)) rfl (Nat.le_of_ble_eq_true rfl) ?_
  intro zp ze zs zm za zb zt zc zA ls H locs zq C hr hlk hG hl hQ
  have hx := C.1.1
  have hb := C.1.2.1
  replace hl : lv_has ls 5 [(0, .ref qL), (1, .ref a), (2, .int p), (3, .int n), (4, .int b_)] := hl
  refine lv_aload_n hx hb dX3_begin_0 rfl (lv_at hl 0 rfl) ?_
  refine lv_iload_n hx hb dX3_begin_1 rfl (lv_at hl 2 rfl) ?_
  refine pf_X3_29 C dX3_begin_2 hG 0 rfl (Nat.le_of_ble_eq_true rfl) (ws' := [(qL, .inr (3, [.ref qS, .ref w, .ref lv, .ref rw, .int p, .int mo, .int at_])), (lv, .inl (E.2.1.1, 72, .inl fl)), (rw, .inl (E.2.1.1, 5, .inl fr)), (a, .inr (0, [.ref q1, .ref q2, .int (g 10), .int (g 11)])), (q1, .inr (1, [.int (g 0), .int (g 1), .int (g 2), .int (g 3), .int (g 4), .int (g 12), .int (g 13)])), (q2, .inr (1, [.int (g 5), .int (g 6), .int (g 7), .int (g 8), .int (g 9), .int (g 14), .int (g 15)]))]) rfl (fun H locs hG => ?_)
  refine lv_aload_n hx hb dX3_begin_5 rfl (lv_at hl 0 rfl) ?_
  refine lv_iload_n hx hb dX3_begin_6 rfl (lv_at hl 3 rfl) ?_
  refine pf_X3_33 C dX3_begin_7 hG 0 rfl (Nat.le_of_ble_eq_true rfl) (ws' := [(qL, .inr (3, [.ref qS, .ref w, .ref lv, .ref rw, .int p, .int n, .int at_])), (lv, .inl (E.2.1.1, 72, .inl fl)), (rw, .inl (E.2.1.1, 5, .inl fr)), (a, .inr (0, [.ref q1, .ref q2, .int (g 10), .int (g 11)])), (q1, .inr (1, [.int (g 0), .int (g 1), .int (g 2), .int (g 3), .int (g 4), .int (g 12), .int (g 13)])), (q2, .inr (1, [.int (g 5), .int (g 6), .int (g 7), .int (g 8), .int (g 9), .int (g 14), .int (g 15)]))]) rfl (fun H locs hG => ?_)
  refine lv_aload_n hx hb dX3_begin_10 rfl (lv_at hl 0 rfl) ?_
  refine lv_iload hx hb dX3_begin_11 (lv_at hl 4 rfl) ?_
  refine pf_X3_36 C dX3_begin_13 hG 0 rfl (Nat.le_of_ble_eq_true rfl) (z_b01 hb_) (z_b01f hb_) (ws' := [(qL, .inr (3, [.ref qS, .ref w, .ref lv, .ref rw, .int p, .int n, .int b_])), (lv, .inl (E.2.1.1, 72, .inl fl)), (rw, .inl (E.2.1.1, 5, .inl fr)), (a, .inr (0, [.ref q1, .ref q2, .int (g 10), .int (g 11)])), (q1, .inr (1, [.int (g 0), .int (g 1), .int (g 2), .int (g 3), .int (g 4), .int (g 12), .int (g 13)])), (q2, .inr (1, [.int (g 5), .int (g 6), .int (g 7), .int (g 8), .int (g 9), .int (g 14), .int (g 15)]))]) rfl (fun H locs hG => ?_)
  refine lv_aload_n hx hb dX3_begin_16 rfl (lv_at hl 1 rfl) ?_
  refine lv_aload_n hx hb dX3_begin_17 rfl (lv_at hl 0 rfl) ?_
  refine gf_X3_18 C dX3_begin_18 hG 0 rfl rfl ?_
  refine lv_iconst (v := 0) hx hb dX3_begin_21 (by decide) ?_
  refine call_X3_40 C dX3_begin_22 (c_X0_store l E 72 g fl 0 a q1 q2 lv (Nat.le_of_ble_eq_true rfl)) hl hG 3 rfl [3, 4, 5, 1] (by decide) rfl (ads := [a, q1, q2, lv]) rfl rfl (ws' := [(qL, .inr (3, [.ref qS, .ref w, .ref lv, .ref rw, .int p, .int n, .int b_])), (lv, .inl (E.2.1.1, 72, .inl (o_X0_store_3 72 g fl 0))), (rw, .inl (E.2.1.1, 5, .inl fr)), (a, .inr (0, [.ref q1, .ref q2, .int (g 10), .int (g 11)])), (q1, .inr (1, [.int (g 0), .int (g 1), .int (g 2), .int (g 3), .int (g 4), .int (g 12), .int (g 13)])), (q2, .inr (1, [.int (g 5), .int (g 6), .int (g 7), .int (g 8), .int (g 9), .int (g 14), .int (g 15)]))]) rfl rfl (rest := []) rfl (Nat.le_of_ble_eq_true rfl) ⟨Nat.le_of_ble_eq_true rfl, Nat.le_of_ble_eq_true rfl⟩ (fun H locs hG => ?_)
  rw [hQ]
  exact z_vret C hr hlk hG dX3_begin_25 rfl (by rw [o_X3_begin_0_4, o_X3_begin_0_5, o_X3_begin_0_6, o_X3_begin_1])
def o_X3_open_wk (fl : Nat → Int32) (fr : Nat → Int32) (si : Int32) (mo : Int32) (at_ : Int32) (wk : Nat → Int32) (dp : Int32) : Nat → Int32 := (o_X0_restore_g 72 wk fl (dp * 12))
set_option maxRecDepth 100000 in
set_option maxHeartbeats 4000000 in
theorem c_X3_open (l : Launch) (E : zE) (fl : Nat → Int32) (fr : Nat → Int32) (si : Int32) (mo : Int32) (at_ : Int32) (wk : Nat → Int32) (dp : Int32) (qL qS w lv rw w1 w2 : Nat) : HM l E yX3_open cX3_open 2 none 3 65 [.ref qL, .int dp] [(qL, .inr (3, [.ref qS, .ref w, .ref lv, .ref rw, .int si, .int mo, .int at_])), (lv, .inl (E.2.1.1, 72, .inl fl)), (rw, .inl (E.2.1.1, 5, .inl fr)), (w, .inr (0, [.ref w1, .ref w2, .int (wk 10), .int (wk 11)])), (w1, .inr (1, [.int (wk 0), .int (wk 1), .int (wk 2), .int (wk 3), .int (wk 4), .int (wk 12), .int (wk 13)])), (w2, .inr (1, [.int (wk 5), .int (wk 6), .int (wk 7), .int (wk 8), .int (wk 9), .int (wk 14), .int (wk 15)]))] none [(qL, .inr (3, [.ref qS, .ref w, .ref lv, .ref rw, .int si, .int mo, .int at_])), (lv, .inl (E.2.1.1, 72, .inl fl)), (rw, .inl (E.2.1.1, 5, .inl fr)), (w, .inr (0, [.ref w1, .ref w2, .int (o_X3_open_wk fl fr si mo at_ wk dp 10), .int (o_X3_open_wk fl fr si mo at_ wk dp 11)])), (w1, .inr (1, [.int (o_X3_open_wk fl fr si mo at_ wk dp 0), .int (o_X3_open_wk fl fr si mo at_ wk dp 1), .int (o_X3_open_wk fl fr si mo at_ wk dp 2), .int (o_X3_open_wk fl fr si mo at_ wk dp 3), .int (o_X3_open_wk fl fr si mo at_ wk dp 4), .int (o_X3_open_wk fl fr si mo at_ wk dp 12), .int (o_X3_open_wk fl fr si mo at_ wk dp 13)])), (w2, .inr (1, [.int (o_X3_open_wk fl fr si mo at_ wk dp 5), .int (o_X3_open_wk fl fr si mo at_ wk dp 6), .int (o_X3_open_wk fl fr si mo at_ wk dp 7), .int (o_X3_open_wk fl fr si mo at_ wk dp 8), .int (o_X3_open_wk fl fr si mo at_ wk dp 9), .int (o_X3_open_wk fl fr si mo at_ wk dp 14), .int (o_X3_open_wk fl fr si mo at_ wk dp 15)]))] := by
  refine HM.of (own := RX3) (plainFor_of_name (by decide)) rfl (Nat.le_of_ble_eq_true rfl) ?_
  intro zp ze zs zm za zb zt zc zA ls H locs zq C hr hlk hG hl hQ
  have hx := C.1.1
  have hb := C.1.2.1
  replace hl : lv_has ls 2 [(0, .ref qL), (1, .int dp)] := hl
  refine lv_aload_n hx hb dX3_open_0 rfl (lv_at hl 0 rfl) ?_
  refine gf_X3_12 C dX3_open_1 hG 0 rfl rfl ?_
  refine lv_aload_n hx hb dX3_open_4 rfl (lv_at hl 0 rfl) ?_
  refine gf_X3_18 C dX3_open_5 hG 0 rfl rfl ?_
  refine lv_iload_n hx hb dX3_open_8 rfl (lv_at hl 1 rfl) ?_
  refine lv_bipush (v := 12) hx hb dX3_open_9 (by decide) ?_
  refine lv_imul hx hb dX3_open_11 ?_
  refine call_X3_44 C dX3_open_12 (c_X0_restore l E 72 wk fl (dp * 12) w w1 w2 lv (Nat.le_of_ble_eq_true rfl)) hl hG 3 rfl [3, 4, 5, 1] (by decide) rfl (ads := [w, w1, w2, lv]) rfl rfl (ws' := [(qL, .inr (3, [.ref qS, .ref w, .ref lv, .ref rw, .int si, .int mo, .int at_])), (lv, .inl (E.2.1.1, 72, .inl fl)), (rw, .inl (E.2.1.1, 5, .inl fr)), (w, .inr (0, [.ref w1, .ref w2, .int (o_X0_restore_g 72 wk fl (dp * 12) 10), .int (o_X0_restore_g 72 wk fl (dp * 12) 11)])), (w1, .inr (1, [.int (o_X0_restore_g 72 wk fl (dp * 12) 0), .int (o_X0_restore_g 72 wk fl (dp * 12) 1), .int (o_X0_restore_g 72 wk fl (dp * 12) 2), .int (o_X0_restore_g 72 wk fl (dp * 12) 3), .int (o_X0_restore_g 72 wk fl (dp * 12) 4), .int (o_X0_restore_g 72 wk fl (dp * 12) 12), .int (o_X0_restore_g 72 wk fl (dp * 12) 13)])), (w2, .inr (1, [.int (o_X0_restore_g 72 wk fl (dp * 12) 5), .int (o_X0_restore_g 72 wk fl (dp * 12) 6), .int (o_X0_restore_g 72 wk fl (dp * 12) 7), .int (o_X0_restore_g 72 wk fl (dp * 12) 8), .int (o_X0_restore_g 72 wk fl (dp * 12) 9), .int (o_X0_restore_g 72 wk fl (dp * 12) 14), .int (o_X0_restore_g 72 wk fl (dp * 12) 15)]))]) rfl rfl (rest := []) rfl (Nat.le_of_ble_eq_true rfl) ⟨Nat.le_of_ble_eq_true rfl, Nat.le_of_ble_eq_true rfl⟩ (fun H locs hG => ?_)
  rw [hQ]
  exact z_vret C hr hlk hG dX3_open_15 rfl (by rw [o_X3_open_wk])
def o_X3_attempt_1 (fl : Nat → Int32) (fr : Nat → Int32) (si : Int32) (mo : Int32) (at_ : Int32) (wk : Nat → Int32) (sun : Nat → Int32) (dry : Nat → Int32) (len : Int32) (need : Int32) (dp : Int32) (da : Int32) (db : Int32) : Nat → Int32 := (o_X0_store_3 72 (o_X0_turnBy_g (o_X3_open_wk fl fr si mo at_ wk dp) sun dry len need da db (o_X6_isDry_r sun dry len need (o_X3_open_wk fl fr si mo at_ wk dp 11))) fl ((dp + 1) * 12))
def o_X3_attempt_wk (fl : Nat → Int32) (fr : Nat → Int32) (si : Int32) (mo : Int32) (at_ : Int32) (wk : Nat → Int32) (sun : Nat → Int32) (dry : Nat → Int32) (len : Int32) (need : Int32) (dp : Int32) (da : Int32) (db : Int32) : Nat → Int32 := (o_X0_turnBy_g (o_X3_open_wk fl fr si mo at_ wk dp) sun dry len need da db (o_X6_isDry_r sun dry len need (o_X3_open_wk fl fr si mo at_ wk dp 11)))
set_option maxRecDepth 100000 in
set_option maxHeartbeats 4000000 in
theorem c_X3_attempt (l : Launch) (E : zE) (fl : Nat → Int32) (fr : Nat → Int32) (si : Int32) (mo : Int32) (at_ : Int32) (wk : Nat → Int32) (sun : Nat → Int32) (dry : Nat → Int32) (len : Int32) (need : Int32) (dp : Int32) (da : Int32) (db : Int32) (qL qS w lv rw w1 w2 qs qd : Nat) : HM l E yX3_attempt cX3_attempt 4 none 4 86 [.ref qL, .int dp, .int da, .int db] [(qL, .inr (3, [.ref qS, .ref w, .ref lv, .ref rw, .int si, .int mo, .int at_])), (lv, .inl (E.2.1.1, 72, .inl fl)), (rw, .inl (E.2.1.1, 5, .inl fr)), (w, .inr (0, [.ref w1, .ref w2, .int (wk 10), .int (wk 11)])), (w1, .inr (1, [.int (wk 0), .int (wk 1), .int (wk 2), .int (wk 3), .int (wk 4), .int (wk 12), .int (wk 13)])), (w2, .inr (1, [.int (wk 5), .int (wk 6), .int (wk 7), .int (wk 8), .int (wk 9), .int (wk 14), .int (wk 15)])), (qS, .inr (6, [.ref qs, .ref qd, .int len, .int need])), (qs, .inl (E.2.1.1, 12, .inl sun)), (qd, .inl (E.2.1.1, 12, .inl dry))] none [(qL, .inr (3, [.ref qS, .ref w, .ref lv, .ref rw, .int si, .int mo, .int at_])), (lv, .inl (E.2.1.1, 72, .inl (o_X3_attempt_1 fl fr si mo at_ wk sun dry len need dp da db))), (rw, .inl (E.2.1.1, 5, .inl fr)), (w, .inr (0, [.ref w1, .ref w2, .int (o_X3_attempt_wk fl fr si mo at_ wk sun dry len need dp da db 10), .int (o_X3_attempt_wk fl fr si mo at_ wk sun dry len need dp da db 11)])), (w1, .inr (1, [.int (o_X3_attempt_wk fl fr si mo at_ wk sun dry len need dp da db 0), .int (o_X3_attempt_wk fl fr si mo at_ wk sun dry len need dp da db 1), .int (o_X3_attempt_wk fl fr si mo at_ wk sun dry len need dp da db 2), .int (o_X3_attempt_wk fl fr si mo at_ wk sun dry len need dp da db 3), .int (o_X3_attempt_wk fl fr si mo at_ wk sun dry len need dp da db 4), .int (o_X3_attempt_wk fl fr si mo at_ wk sun dry len need dp da db 12), .int (o_X3_attempt_wk fl fr si mo at_ wk sun dry len need dp da db 13)])), (w2, .inr (1, [.int (o_X3_attempt_wk fl fr si mo at_ wk sun dry len need dp da db 5), .int (o_X3_attempt_wk fl fr si mo at_ wk sun dry len need dp da db 6), .int (o_X3_attempt_wk fl fr si mo at_ wk sun dry len need dp da db 7), .int (o_X3_attempt_wk fl fr si mo at_ wk sun dry len need dp da db 8), .int (o_X3_attempt_wk fl fr si mo at_ wk sun dry len need dp da db 9), .int (o_X3_attempt_wk fl fr si mo at_ wk sun dry len need dp da db 14), .int (o_X3_attempt_wk fl fr si mo at_ wk sun dry len need dp da db 15)])), (qS, .inr (6, [.ref qs, .ref qd, .int len, .int need])), (qs, .inl (E.2.1.1, 12, .inl sun)), (qd, .inl (E.2.1.1, 12, .inl dry))] := by
  refine HM.of (own := RX3) (plainFor_of_name (by decide)) rfl (Nat.le_of_ble_eq_true rfl) ?_
  intro zp ze zs zm za zb zt zc zA ls H locs zq C hr hlk hG hl hQ
  have hx := C.1.1
  have hb := C.1.2.1
  replace hl : lv_has ls 4 [(0, .ref qL), (1, .int dp), (2, .int da), (3, .int db)] := hl
  refine lv_aload_n hx hb dX3_attempt_0 rfl (lv_at hl 0 rfl) ?_
  refine lv_iload_n hx hb dX3_attempt_1 rfl (lv_at hl 1 rfl) ?_
  refine call_X3_47 C dX3_attempt_2 (c_X3_open l E fl fr si mo at_ wk dp qL qS w lv rw w1 w2) hl hG 0 rfl [0, 1, 2, 3, 4, 5] (by decide) rfl (ads := [qL, lv, rw, w, w1, w2]) rfl rfl (ws' := [(qL, .inr (3, [.ref qS, .ref w, .ref lv, .ref rw, .int si, .int mo, .int at_])), (lv, .inl (E.2.1.1, 72, .inl fl)), (rw, .inl (E.2.1.1, 5, .inl fr)), (w, .inr (0, [.ref w1, .ref w2, .int (o_X3_open_wk fl fr si mo at_ wk dp 10), .int (o_X3_open_wk fl fr si mo at_ wk dp 11)])), (w1, .inr (1, [.int (o_X3_open_wk fl fr si mo at_ wk dp 0), .int (o_X3_open_wk fl fr si mo at_ wk dp 1), .int (o_X3_open_wk fl fr si mo at_ wk dp 2), .int (o_X3_open_wk fl fr si mo at_ wk dp 3), .int (o_X3_open_wk fl fr si mo at_ wk dp 4), .int (o_X3_open_wk fl fr si mo at_ wk dp 12), .int (o_X3_open_wk fl fr si mo at_ wk dp 13)])), (w2, .inr (1, [.int (o_X3_open_wk fl fr si mo at_ wk dp 5), .int (o_X3_open_wk fl fr si mo at_ wk dp 6), .int (o_X3_open_wk fl fr si mo at_ wk dp 7), .int (o_X3_open_wk fl fr si mo at_ wk dp 8), .int (o_X3_open_wk fl fr si mo at_ wk dp 9), .int (o_X3_open_wk fl fr si mo at_ wk dp 14), .int (o_X3_open_wk fl fr si mo at_ wk dp 15)])), (qS, .inr (6, [.ref qs, .ref qd, .int len, .int need])), (qs, .inl (E.2.1.1, 12, .inl sun)), (qd, .inl (E.2.1.1, 12, .inl dry))]) rfl rfl (rest := []) rfl (Nat.le_of_ble_eq_true rfl) ⟨Nat.le_of_ble_eq_true rfl, Nat.le_of_ble_eq_true rfl⟩ (fun H locs hG => ?_)
  refine lv_aload_n hx hb dX3_attempt_5 rfl (lv_at hl 0 rfl) ?_
  refine gf_X3_12 C dX3_attempt_6 hG 0 rfl rfl ?_
  refine lv_aload_n hx hb dX3_attempt_9 rfl (lv_at hl 0 rfl) ?_
  refine gf_X3_25 C dX3_attempt_10 hG 0 rfl rfl ?_
  refine lv_iload_n hx hb dX3_attempt_13 rfl (lv_at hl 2 rfl) ?_
  refine lv_iload_n hx hb dX3_attempt_14 rfl (lv_at hl 3 rfl) ?_
  refine lv_aload_n hx hb dX3_attempt_15 rfl (lv_at hl 0 rfl) ?_
  refine gf_X3_25 C dX3_attempt_16 hG 0 rfl rfl ?_
  refine lv_aload_n hx hb dX3_attempt_19 rfl (lv_at hl 0 rfl) ?_
  refine gf_X3_12 C dX3_attempt_20 hG 0 rfl rfl ?_
  refine gf_X3_51 C dX3_attempt_23 hG 3 rfl rfl ?_
  refine call_X3_52 C dX3_attempt_26 (c_X6_isDry l E sun dry len need (o_X3_open_wk fl fr si mo at_ wk dp 11) qS qs qd) hl hG 6 rfl [6, 7, 8] (by decide) rfl (ads := [qS, qs, qd]) rfl rfl (ws' := [(qL, .inr (3, [.ref qS, .ref w, .ref lv, .ref rw, .int si, .int mo, .int at_])), (lv, .inl (E.2.1.1, 72, .inl fl)), (rw, .inl (E.2.1.1, 5, .inl fr)), (w, .inr (0, [.ref w1, .ref w2, .int (o_X3_open_wk fl fr si mo at_ wk dp 10), .int (o_X3_open_wk fl fr si mo at_ wk dp 11)])), (w1, .inr (1, [.int (o_X3_open_wk fl fr si mo at_ wk dp 0), .int (o_X3_open_wk fl fr si mo at_ wk dp 1), .int (o_X3_open_wk fl fr si mo at_ wk dp 2), .int (o_X3_open_wk fl fr si mo at_ wk dp 3), .int (o_X3_open_wk fl fr si mo at_ wk dp 4), .int (o_X3_open_wk fl fr si mo at_ wk dp 12), .int (o_X3_open_wk fl fr si mo at_ wk dp 13)])), (w2, .inr (1, [.int (o_X3_open_wk fl fr si mo at_ wk dp 5), .int (o_X3_open_wk fl fr si mo at_ wk dp 6), .int (o_X3_open_wk fl fr si mo at_ wk dp 7), .int (o_X3_open_wk fl fr si mo at_ wk dp 8), .int (o_X3_open_wk fl fr si mo at_ wk dp 9), .int (o_X3_open_wk fl fr si mo at_ wk dp 14), .int (o_X3_open_wk fl fr si mo at_ wk dp 15)])), (qS, .inr (6, [.ref qs, .ref qd, .int len, .int need])), (qs, .inl (E.2.1.1, 12, .inl sun)), (qd, .inl (E.2.1.1, 12, .inl dry))]) rfl rfl (rest := [.int db, .int da, .ref qS, .ref w]) rfl (Nat.le_of_ble_eq_true rfl) ⟨Nat.le_of_ble_eq_true rfl, Nat.le_of_ble_eq_true rfl⟩ (fun H locs hG => ?_)
  refine call_X3_58 C dX3_attempt_29 (c_X0_turnBy l E (o_X3_open_wk fl fr si mo at_ wk dp) sun dry len need da db (o_X6_isDry_r sun dry len need (o_X3_open_wk fl fr si mo at_ wk dp 11)) w w1 w2 qS qs qd) hl hG 3 rfl [3, 4, 5, 6, 7, 8] (by decide) rfl (ads := [w, w1, w2, qS, qs, qd]) rfl rfl (ws' := [(qL, .inr (3, [.ref qS, .ref w, .ref lv, .ref rw, .int si, .int mo, .int at_])), (lv, .inl (E.2.1.1, 72, .inl fl)), (rw, .inl (E.2.1.1, 5, .inl fr)), (w, .inr (0, [.ref w1, .ref w2, .int (o_X0_turnBy_g (o_X3_open_wk fl fr si mo at_ wk dp) sun dry len need da db (o_X6_isDry_r sun dry len need (o_X3_open_wk fl fr si mo at_ wk dp 11)) 10), .int (o_X0_turnBy_g (o_X3_open_wk fl fr si mo at_ wk dp) sun dry len need da db (o_X6_isDry_r sun dry len need (o_X3_open_wk fl fr si mo at_ wk dp 11)) 11)])), (w1, .inr (1, [.int (o_X0_turnBy_g (o_X3_open_wk fl fr si mo at_ wk dp) sun dry len need da db (o_X6_isDry_r sun dry len need (o_X3_open_wk fl fr si mo at_ wk dp 11)) 0), .int (o_X0_turnBy_g (o_X3_open_wk fl fr si mo at_ wk dp) sun dry len need da db (o_X6_isDry_r sun dry len need (o_X3_open_wk fl fr si mo at_ wk dp 11)) 1), .int (o_X0_turnBy_g (o_X3_open_wk fl fr si mo at_ wk dp) sun dry len need da db (o_X6_isDry_r sun dry len need (o_X3_open_wk fl fr si mo at_ wk dp 11)) 2), .int (o_X0_turnBy_g (o_X3_open_wk fl fr si mo at_ wk dp) sun dry len need da db (o_X6_isDry_r sun dry len need (o_X3_open_wk fl fr si mo at_ wk dp 11)) 3), .int (o_X0_turnBy_g (o_X3_open_wk fl fr si mo at_ wk dp) sun dry len need da db (o_X6_isDry_r sun dry len need (o_X3_open_wk fl fr si mo at_ wk dp 11)) 4), .int (o_X0_turnBy_g (o_X3_open_wk fl fr si mo at_ wk dp) sun dry len need da db (o_X6_isDry_r sun dry len need (o_X3_open_wk fl fr si mo at_ wk dp 11)) 12), .int (o_X0_turnBy_g (o_X3_open_wk fl fr si mo at_ wk dp) sun dry len need da db (o_X6_isDry_r sun dry len need (o_X3_open_wk fl fr si mo at_ wk dp 11)) 13)])), (w2, .inr (1, [.int (o_X0_turnBy_g (o_X3_open_wk fl fr si mo at_ wk dp) sun dry len need da db (o_X6_isDry_r sun dry len need (o_X3_open_wk fl fr si mo at_ wk dp 11)) 5), .int (o_X0_turnBy_g (o_X3_open_wk fl fr si mo at_ wk dp) sun dry len need da db (o_X6_isDry_r sun dry len need (o_X3_open_wk fl fr si mo at_ wk dp 11)) 6), .int (o_X0_turnBy_g (o_X3_open_wk fl fr si mo at_ wk dp) sun dry len need da db (o_X6_isDry_r sun dry len need (o_X3_open_wk fl fr si mo at_ wk dp 11)) 7), .int (o_X0_turnBy_g (o_X3_open_wk fl fr si mo at_ wk dp) sun dry len need da db (o_X6_isDry_r sun dry len need (o_X3_open_wk fl fr si mo at_ wk dp 11)) 8), .int (o_X0_turnBy_g (o_X3_open_wk fl fr si mo at_ wk dp) sun dry len need da db (o_X6_isDry_r sun dry len need (o_X3_open_wk fl fr si mo at_ wk dp 11)) 9), .int (o_X0_turnBy_g (o_X3_open_wk fl fr si mo at_ wk dp) sun dry len need da db (o_X6_isDry_r sun dry len need (o_X3_open_wk fl fr si mo at_ wk dp 11)) 14), .int (o_X0_turnBy_g (o_X3_open_wk fl fr si mo at_ wk dp) sun dry len need da db (o_X6_isDry_r sun dry len need (o_X3_open_wk fl fr si mo at_ wk dp 11)) 15)])), (qS, .inr (6, [.ref qs, .ref qd, .int len, .int need])), (qs, .inl (E.2.1.1, 12, .inl sun)), (qd, .inl (E.2.1.1, 12, .inl dry))]) rfl rfl (rest := []) rfl (Nat.le_of_ble_eq_true rfl) ⟨Nat.le_of_ble_eq_true rfl, Nat.le_of_ble_eq_true rfl⟩ (fun H locs hG => ?_)
  refine lv_aload_n hx hb dX3_attempt_32 rfl (lv_at hl 0 rfl) ?_
  refine gf_X3_12 C dX3_attempt_33 hG 0 rfl rfl ?_
  refine lv_aload_n hx hb dX3_attempt_36 rfl (lv_at hl 0 rfl) ?_
  refine gf_X3_18 C dX3_attempt_37 hG 0 rfl rfl ?_
  refine lv_iload_n hx hb dX3_attempt_40 rfl (lv_at hl 1 rfl) ?_
  refine lv_iconst (v := 1) hx hb dX3_attempt_41 (by decide) ?_
  refine lv_iadd hx hb dX3_attempt_42 ?_
  refine lv_bipush (v := 12) hx hb dX3_attempt_43 (by decide) ?_
  refine lv_imul hx hb dX3_attempt_45 ?_
  refine call_X3_40 C dX3_attempt_46 (c_X0_store l E 72 (o_X0_turnBy_g (o_X3_open_wk fl fr si mo at_ wk dp) sun dry len need da db (o_X6_isDry_r sun dry len need (o_X3_open_wk fl fr si mo at_ wk dp 11))) fl ((dp + 1) * 12) w w1 w2 lv (Nat.le_of_ble_eq_true rfl)) hl hG 3 rfl [3, 4, 5, 1] (by decide) rfl (ads := [w, w1, w2, lv]) rfl rfl (ws' := [(qL, .inr (3, [.ref qS, .ref w, .ref lv, .ref rw, .int si, .int mo, .int at_])), (lv, .inl (E.2.1.1, 72, .inl (o_X0_store_3 72 (o_X0_turnBy_g (o_X3_open_wk fl fr si mo at_ wk dp) sun dry len need da db (o_X6_isDry_r sun dry len need (o_X3_open_wk fl fr si mo at_ wk dp 11))) fl ((dp + 1) * 12)))), (rw, .inl (E.2.1.1, 5, .inl fr)), (w, .inr (0, [.ref w1, .ref w2, .int (o_X0_turnBy_g (o_X3_open_wk fl fr si mo at_ wk dp) sun dry len need da db (o_X6_isDry_r sun dry len need (o_X3_open_wk fl fr si mo at_ wk dp 11)) 10), .int (o_X0_turnBy_g (o_X3_open_wk fl fr si mo at_ wk dp) sun dry len need da db (o_X6_isDry_r sun dry len need (o_X3_open_wk fl fr si mo at_ wk dp 11)) 11)])), (w1, .inr (1, [.int (o_X0_turnBy_g (o_X3_open_wk fl fr si mo at_ wk dp) sun dry len need da db (o_X6_isDry_r sun dry len need (o_X3_open_wk fl fr si mo at_ wk dp 11)) 0), .int (o_X0_turnBy_g (o_X3_open_wk fl fr si mo at_ wk dp) sun dry len need da db (o_X6_isDry_r sun dry len need (o_X3_open_wk fl fr si mo at_ wk dp 11)) 1), .int (o_X0_turnBy_g (o_X3_open_wk fl fr si mo at_ wk dp) sun dry len need da db (o_X6_isDry_r sun dry len need (o_X3_open_wk fl fr si mo at_ wk dp 11)) 2), .int (o_X0_turnBy_g (o_X3_open_wk fl fr si mo at_ wk dp) sun dry len need da db (o_X6_isDry_r sun dry len need (o_X3_open_wk fl fr si mo at_ wk dp 11)) 3), .int (o_X0_turnBy_g (o_X3_open_wk fl fr si mo at_ wk dp) sun dry len need da db (o_X6_isDry_r sun dry len need (o_X3_open_wk fl fr si mo at_ wk dp 11)) 4), .int (o_X0_turnBy_g (o_X3_open_wk fl fr si mo at_ wk dp) sun dry len need da db (o_X6_isDry_r sun dry len need (o_X3_open_wk fl fr si mo at_ wk dp 11)) 12), .int (o_X0_turnBy_g (o_X3_open_wk fl fr si mo at_ wk dp) sun dry len need da db (o_X6_isDry_r sun dry len need (o_X3_open_wk fl fr si mo at_ wk dp 11)) 13)])), (w2, .inr (1, [.int (o_X0_turnBy_g (o_X3_open_wk fl fr si mo at_ wk dp) sun dry len need da db (o_X6_isDry_r sun dry len need (o_X3_open_wk fl fr si mo at_ wk dp 11)) 5), .int (o_X0_turnBy_g (o_X3_open_wk fl fr si mo at_ wk dp) sun dry len need da db (o_X6_isDry_r sun dry len need (o_X3_open_wk fl fr si mo at_ wk dp 11)) 6), .int (o_X0_turnBy_g (o_X3_open_wk fl fr si mo at_ wk dp) sun dry len need da db (o_X6_isDry_r sun dry len need (o_X3_open_wk fl fr si mo at_ wk dp 11)) 7), .int (o_X0_turnBy_g (o_X3_open_wk fl fr si mo at_ wk dp) sun dry len need da db (o_X6_isDry_r sun dry len need (o_X3_open_wk fl fr si mo at_ wk dp 11)) 8), .int (o_X0_turnBy_g (o_X3_open_wk fl fr si mo at_ wk dp) sun dry len need da db (o_X6_isDry_r sun dry len need (o_X3_open_wk fl fr si mo at_ wk dp 11)) 9), .int (o_X0_turnBy_g (o_X3_open_wk fl fr si mo at_ wk dp) sun dry len need da db (o_X6_isDry_r sun dry len need (o_X3_open_wk fl fr si mo at_ wk dp 11)) 14), .int (o_X0_turnBy_g (o_X3_open_wk fl fr si mo at_ wk dp) sun dry len need da db (o_X6_isDry_r sun dry len need (o_X3_open_wk fl fr si mo at_ wk dp 11)) 15)])), (qS, .inr (6, [.ref qs, .ref qd, .int len, .int need])), (qs, .inl (E.2.1.1, 12, .inl sun)), (qd, .inl (E.2.1.1, 12, .inl dry))]) rfl rfl (rest := []) rfl (Nat.le_of_ble_eq_true rfl) ⟨Nat.le_of_ble_eq_true rfl, Nat.le_of_ble_eq_true rfl⟩ (fun H locs hG => ?_)
  rw [hQ]
  exact z_vret C hr hlk hG dX3_attempt_49 rfl (by rw [o_X3_attempt_1, o_X3_attempt_wk])
def o_X3_isReached_r (fl : Nat → Int32) (fr : Nat → Int32) (si : Int32) (mo : Int32) (at_ : Int32) (wk : Nat → Int32) (sun : Nat → Int32) (dry : Nat → Int32) (len : Int32) (need : Int32) (dp : Int32) : Int32 := (if at_ = 0 then (if (o_X0_loser_r (o_X3_open_wk fl fr si mo at_ wk dp) sun dry len need) = si then 0 else 1) else (if (o_X0_loser_r (o_X3_open_wk fl fr si mo at_ wk dp) sun dry len need) = (1 - si) then 1 else 0))
def o_X3_isReached_wk (fl : Nat → Int32) (fr : Nat → Int32) (si : Int32) (mo : Int32) (at_ : Int32) (wk : Nat → Int32) (sun : Nat → Int32) (dry : Nat → Int32) (len : Int32) (need : Int32) (dp : Int32) : Nat → Int32 := (o_X3_open_wk fl fr si mo at_ wk dp)
set_option maxRecDepth 100000 in
set_option maxHeartbeats 4000000 in
theorem c_X3_isReached (l : Launch) (E : zE) (fl : Nat → Int32) (fr : Nat → Int32) (si : Int32) (mo : Int32) (at_ : Int32) (wk : Nat → Int32) (sun : Nat → Int32) (dry : Nat → Int32) (len : Int32) (need : Int32) (dp : Int32) (qL qS w lv rw w1 w2 qs qd : Nat) : HM l E yX3_isReached cX3_isReached 3 (some .boolean) 4 86 [.ref qL, .int dp] [(qL, .inr (3, [.ref qS, .ref w, .ref lv, .ref rw, .int si, .int mo, .int at_])), (lv, .inl (E.2.1.1, 72, .inl fl)), (rw, .inl (E.2.1.1, 5, .inl fr)), (w, .inr (0, [.ref w1, .ref w2, .int (wk 10), .int (wk 11)])), (w1, .inr (1, [.int (wk 0), .int (wk 1), .int (wk 2), .int (wk 3), .int (wk 4), .int (wk 12), .int (wk 13)])), (w2, .inr (1, [.int (wk 5), .int (wk 6), .int (wk 7), .int (wk 8), .int (wk 9), .int (wk 14), .int (wk 15)])), (qS, .inr (6, [.ref qs, .ref qd, .int len, .int need])), (qs, .inl (E.2.1.1, 12, .inl sun)), (qd, .inl (E.2.1.1, 12, .inl dry))] (some (.int (o_X3_isReached_r fl fr si mo at_ wk sun dry len need dp))) [(qL, .inr (3, [.ref qS, .ref w, .ref lv, .ref rw, .int si, .int mo, .int at_])), (lv, .inl (E.2.1.1, 72, .inl fl)), (rw, .inl (E.2.1.1, 5, .inl fr)), (w, .inr (0, [.ref w1, .ref w2, .int (o_X3_isReached_wk fl fr si mo at_ wk sun dry len need dp 10), .int (o_X3_isReached_wk fl fr si mo at_ wk sun dry len need dp 11)])), (w1, .inr (1, [.int (o_X3_isReached_wk fl fr si mo at_ wk sun dry len need dp 0), .int (o_X3_isReached_wk fl fr si mo at_ wk sun dry len need dp 1), .int (o_X3_isReached_wk fl fr si mo at_ wk sun dry len need dp 2), .int (o_X3_isReached_wk fl fr si mo at_ wk sun dry len need dp 3), .int (o_X3_isReached_wk fl fr si mo at_ wk sun dry len need dp 4), .int (o_X3_isReached_wk fl fr si mo at_ wk sun dry len need dp 12), .int (o_X3_isReached_wk fl fr si mo at_ wk sun dry len need dp 13)])), (w2, .inr (1, [.int (o_X3_isReached_wk fl fr si mo at_ wk sun dry len need dp 5), .int (o_X3_isReached_wk fl fr si mo at_ wk sun dry len need dp 6), .int (o_X3_isReached_wk fl fr si mo at_ wk sun dry len need dp 7), .int (o_X3_isReached_wk fl fr si mo at_ wk sun dry len need dp 8), .int (o_X3_isReached_wk fl fr si mo at_ wk sun dry len need dp 9), .int (o_X3_isReached_wk fl fr si mo at_ wk sun dry len need dp 14), .int (o_X3_isReached_wk fl fr si mo at_ wk sun dry len need dp 15)])), (qS, .inr (6, [.ref qs, .ref qd, .int len, .int need])), (qs, .inl (E.2.1.1, 12, .inl sun)), (qd, .inl (E.2.1.1, 12, .inl dry))] := by
  refine HM.of (own := RX3) (plainFor_of_name (by decide)) rfl (Nat.le_of_ble_eq_true rfl) ?_
  intro zp ze zs zm za zb zt zc zA ls H locs zq C hr hlk hG hl hQ
  have hx := C.1.1
  have hb := C.1.2.1
  replace hl : lv_has ls 3 [(0, .ref qL), (1, .int dp)] := hl
  refine lv_aload_n hx hb dX3_isReached_0 rfl (lv_at hl 0 rfl) ?_
  refine lv_iload_n hx hb dX3_isReached_1 rfl (lv_at hl 1 rfl) ?_
  refine call_X3_47 C dX3_isReached_2 (c_X3_open l E fl fr si mo at_ wk dp qL qS w lv rw w1 w2) hl hG 0 rfl [0, 1, 2, 3, 4, 5] (by decide) rfl (ads := [qL, lv, rw, w, w1, w2]) rfl rfl (ws' := [(qL, .inr (3, [.ref qS, .ref w, .ref lv, .ref rw, .int si, .int mo, .int at_])), (lv, .inl (E.2.1.1, 72, .inl fl)), (rw, .inl (E.2.1.1, 5, .inl fr)), (w, .inr (0, [.ref w1, .ref w2, .int (o_X3_open_wk fl fr si mo at_ wk dp 10), .int (o_X3_open_wk fl fr si mo at_ wk dp 11)])), (w1, .inr (1, [.int (o_X3_open_wk fl fr si mo at_ wk dp 0), .int (o_X3_open_wk fl fr si mo at_ wk dp 1), .int (o_X3_open_wk fl fr si mo at_ wk dp 2), .int (o_X3_open_wk fl fr si mo at_ wk dp 3), .int (o_X3_open_wk fl fr si mo at_ wk dp 4), .int (o_X3_open_wk fl fr si mo at_ wk dp 12), .int (o_X3_open_wk fl fr si mo at_ wk dp 13)])), (w2, .inr (1, [.int (o_X3_open_wk fl fr si mo at_ wk dp 5), .int (o_X3_open_wk fl fr si mo at_ wk dp 6), .int (o_X3_open_wk fl fr si mo at_ wk dp 7), .int (o_X3_open_wk fl fr si mo at_ wk dp 8), .int (o_X3_open_wk fl fr si mo at_ wk dp 9), .int (o_X3_open_wk fl fr si mo at_ wk dp 14), .int (o_X3_open_wk fl fr si mo at_ wk dp 15)])), (qS, .inr (6, [.ref qs, .ref qd, .int len, .int need])), (qs, .inl (E.2.1.1, 12, .inl sun)), (qd, .inl (E.2.1.1, 12, .inl dry))]) rfl rfl (rest := []) rfl (Nat.le_of_ble_eq_true rfl) ⟨Nat.le_of_ble_eq_true rfl, Nat.le_of_ble_eq_true rfl⟩ (fun H locs hG => ?_)
  refine lv_aload_n hx hb dX3_isReached_5 rfl (lv_at hl 0 rfl) ?_
  refine gf_X3_12 C dX3_isReached_6 hG 0 rfl rfl ?_
  refine lv_aload_n hx hb dX3_isReached_9 rfl (lv_at hl 0 rfl) ?_
  refine gf_X3_25 C dX3_isReached_10 hG 0 rfl rfl ?_
  refine call_X3_62 C dX3_isReached_13 (c_X0_loser l E (o_X3_open_wk fl fr si mo at_ wk dp) sun dry len need w w1 w2 qS qs qd) hl hG 3 rfl [3, 4, 5, 6, 7, 8] (by decide) rfl (ads := [w, w1, w2, qS, qs, qd]) rfl rfl (ws' := [(qL, .inr (3, [.ref qS, .ref w, .ref lv, .ref rw, .int si, .int mo, .int at_])), (lv, .inl (E.2.1.1, 72, .inl fl)), (rw, .inl (E.2.1.1, 5, .inl fr)), (w, .inr (0, [.ref w1, .ref w2, .int (o_X3_open_wk fl fr si mo at_ wk dp 10), .int (o_X3_open_wk fl fr si mo at_ wk dp 11)])), (w1, .inr (1, [.int (o_X3_open_wk fl fr si mo at_ wk dp 0), .int (o_X3_open_wk fl fr si mo at_ wk dp 1), .int (o_X3_open_wk fl fr si mo at_ wk dp 2), .int (o_X3_open_wk fl fr si mo at_ wk dp 3), .int (o_X3_open_wk fl fr si mo at_ wk dp 4), .int (o_X3_open_wk fl fr si mo at_ wk dp 12), .int (o_X3_open_wk fl fr si mo at_ wk dp 13)])), (w2, .inr (1, [.int (o_X3_open_wk fl fr si mo at_ wk dp 5), .int (o_X3_open_wk fl fr si mo at_ wk dp 6), .int (o_X3_open_wk fl fr si mo at_ wk dp 7), .int (o_X3_open_wk fl fr si mo at_ wk dp 8), .int (o_X3_open_wk fl fr si mo at_ wk dp 9), .int (o_X3_open_wk fl fr si mo at_ wk dp 14), .int (o_X3_open_wk fl fr si mo at_ wk dp 15)])), (qS, .inr (6, [.ref qs, .ref qd, .int len, .int need])), (qs, .inl (E.2.1.1, 12, .inl sun)), (qd, .inl (E.2.1.1, 12, .inl dry))]) rfl rfl (rest := []) rfl (Nat.le_of_ble_eq_true rfl) ⟨Nat.le_of_ble_eq_true rfl, Nat.le_of_ble_eq_true rfl⟩ (fun H locs hG => ?_)
  refine lv_istore_n (lv' := [(2, .int (o_X0_loser_r (o_X3_open_wk fl fr si mo at_ wk dp) sun dry len need)), (0, .ref qL), (1, .int dp)]) hx hb dX3_isReached_16 rfl hl (by decide) rfl (fun ls hl => ?_)
  refine lv_aload_n hx hb dX3_isReached_17 rfl (lv_at hl 1 rfl) ?_
  refine gf_X3_36 C dX3_isReached_18 hG 0 rfl rfl ?_
  refine lv_if_eq (tgt := 42) hx hb dX3_isReached_21 (by decide) (fun c_1 => ?_) (fun c_1 => ?_)
  · skip
    refine lv_iload_n hx hb dX3_isReached_42 rfl (lv_at hl 0 rfl) ?_
    refine lv_aload_n hx hb dX3_isReached_43 rfl (lv_at hl 1 rfl) ?_
    refine gf_X3_29 C dX3_isReached_44 hG 0 rfl rfl ?_
    refine lv_icmp_eq (tgt := 54) hx hb dX3_isReached_47 (by decide) (fun c_2 => ?_) (fun c_2 => ?_)
    · skip
      refine lv_iconst (v := 0) hx hb dX3_isReached_54 (by decide) ?_
      rw [hQ]
      exact z_iret C hr hlk hG dX3_isReached_55 rfl (by rw [o_X3_isReached_r, if_pos c_1, if_pos c_2]) (by rw [o_X3_isReached_wk])
    · skip
      refine lv_iconst (v := 1) hx hb dX3_isReached_50 (by decide) ?_
      refine lv_goto (tgt := 55) hx hb dX3_isReached_51 (by decide) ?_
      rw [hQ]
      exact z_iret C hr hlk hG dX3_isReached_55 rfl (by rw [o_X3_isReached_r, if_pos c_1, if_neg c_2]) (by rw [o_X3_isReached_wk])
  · skip
    refine lv_iload_n hx hb dX3_isReached_24 rfl (lv_at hl 0 rfl) ?_
    refine lv_iconst (v := 1) hx hb dX3_isReached_25 (by decide) ?_
    refine lv_aload_n hx hb dX3_isReached_26 rfl (lv_at hl 1 rfl) ?_
    refine gf_X3_29 C dX3_isReached_27 hG 0 rfl rfl ?_
    refine lv_isub hx hb dX3_isReached_30 ?_
    refine lv_icmp_ne (tgt := 38) hx hb dX3_isReached_31 (by decide) (fun c_3 => ?_) (fun c_3 => ?_)
    · skip
      refine lv_iconst (v := 0) hx hb dX3_isReached_38 (by decide) ?_
      refine lv_goto (tgt := 55) hx hb dX3_isReached_39 (by decide) ?_
      rw [hQ]
      exact z_iret C hr hlk hG dX3_isReached_55 rfl (by rw [o_X3_isReached_r, if_neg c_1, if_neg c_3]) (by rw [o_X3_isReached_wk])
    · skip
      refine lv_iconst (v := 1) hx hb dX3_isReached_34 (by decide) ?_
      refine lv_goto (tgt := 55) hx hb dX3_isReached_35 (by decide) ?_
      rw [hQ]
      exact z_iret C hr hlk hG dX3_isReached_55 rfl (by rw [o_X3_isReached_r, if_neg c_1, if_pos c_3]) (by rw [o_X3_isReached_wk])
theorem o_X3_isReached_b (fl : Nat → Int32) (fr : Nat → Int32) (si : Int32) (mo : Int32) (at_ : Int32) (wk : Nat → Int32) (sun : Nat → Int32) (dry : Nat → Int32) (len : Int32) (need : Int32) (dp : Int32) : o_X3_isReached_r fl fr si mo at_ wk sun dry len need dp = 0 ∨ o_X3_isReached_r fl fr si mo at_ wk sun dry len need dp = 1 := by
  unfold o_X3_isReached_r; (repeat' split) <;> first | exact Or.inl rfl | exact Or.inr rfl
def o_X3_isOver_r (fl : Nat → Int32) (fr : Nat → Int32) (si : Int32) (mo : Int32) (at_ : Int32) (wk : Nat → Int32) (sun : Nat → Int32) (dry : Nat → Int32) (len : Int32) (need : Int32) (dp : Int32) : Int32 := (if (o_X0_loser_r (o_X3_open_wk fl fr si mo at_ wk dp) sun dry len need) = (-4) then 0 else 1)
def o_X3_isOver_wk (fl : Nat → Int32) (fr : Nat → Int32) (si : Int32) (mo : Int32) (at_ : Int32) (wk : Nat → Int32) (sun : Nat → Int32) (dry : Nat → Int32) (len : Int32) (need : Int32) (dp : Int32) : Nat → Int32 := (o_X3_open_wk fl fr si mo at_ wk dp)
set_option maxRecDepth 100000 in
set_option maxHeartbeats 4000000 in
theorem c_X3_isOver (l : Launch) (E : zE) (fl : Nat → Int32) (fr : Nat → Int32) (si : Int32) (mo : Int32) (at_ : Int32) (wk : Nat → Int32) (sun : Nat → Int32) (dry : Nat → Int32) (len : Int32) (need : Int32) (dp : Int32) (qL qS w lv rw w1 w2 qs qd : Nat) : HM l E yX3_isOver cX3_isOver 2 (some .boolean) 4 86 [.ref qL, .int dp] [(qL, .inr (3, [.ref qS, .ref w, .ref lv, .ref rw, .int si, .int mo, .int at_])), (lv, .inl (E.2.1.1, 72, .inl fl)), (rw, .inl (E.2.1.1, 5, .inl fr)), (w, .inr (0, [.ref w1, .ref w2, .int (wk 10), .int (wk 11)])), (w1, .inr (1, [.int (wk 0), .int (wk 1), .int (wk 2), .int (wk 3), .int (wk 4), .int (wk 12), .int (wk 13)])), (w2, .inr (1, [.int (wk 5), .int (wk 6), .int (wk 7), .int (wk 8), .int (wk 9), .int (wk 14), .int (wk 15)])), (qS, .inr (6, [.ref qs, .ref qd, .int len, .int need])), (qs, .inl (E.2.1.1, 12, .inl sun)), (qd, .inl (E.2.1.1, 12, .inl dry))] (some (.int (o_X3_isOver_r fl fr si mo at_ wk sun dry len need dp))) [(qL, .inr (3, [.ref qS, .ref w, .ref lv, .ref rw, .int si, .int mo, .int at_])), (lv, .inl (E.2.1.1, 72, .inl fl)), (rw, .inl (E.2.1.1, 5, .inl fr)), (w, .inr (0, [.ref w1, .ref w2, .int (o_X3_isOver_wk fl fr si mo at_ wk sun dry len need dp 10), .int (o_X3_isOver_wk fl fr si mo at_ wk sun dry len need dp 11)])), (w1, .inr (1, [.int (o_X3_isOver_wk fl fr si mo at_ wk sun dry len need dp 0), .int (o_X3_isOver_wk fl fr si mo at_ wk sun dry len need dp 1), .int (o_X3_isOver_wk fl fr si mo at_ wk sun dry len need dp 2), .int (o_X3_isOver_wk fl fr si mo at_ wk sun dry len need dp 3), .int (o_X3_isOver_wk fl fr si mo at_ wk sun dry len need dp 4), .int (o_X3_isOver_wk fl fr si mo at_ wk sun dry len need dp 12), .int (o_X3_isOver_wk fl fr si mo at_ wk sun dry len need dp 13)])), (w2, .inr (1, [.int (o_X3_isOver_wk fl fr si mo at_ wk sun dry len need dp 5), .int (o_X3_isOver_wk fl fr si mo at_ wk sun dry len need dp 6), .int (o_X3_isOver_wk fl fr si mo at_ wk sun dry len need dp 7), .int (o_X3_isOver_wk fl fr si mo at_ wk sun dry len need dp 8), .int (o_X3_isOver_wk fl fr si mo at_ wk sun dry len need dp 9), .int (o_X3_isOver_wk fl fr si mo at_ wk sun dry len need dp 14), .int (o_X3_isOver_wk fl fr si mo at_ wk sun dry len need dp 15)])), (qS, .inr (6, [.ref qs, .ref qd, .int len, .int need])), (qs, .inl (E.2.1.1, 12, .inl sun)), (qd, .inl (E.2.1.1, 12, .inl dry))] := by
  refine HM.of (own := RX3) (plainFor_of_name (by decide)) rfl (Nat.le_of_ble_eq_true rfl) ?_
  intro zp ze zs zm za zb zt zc zA ls H locs zq C hr hlk hG hl hQ
  have hx := C.1.1
  have hb := C.1.2.1
  replace hl : lv_has ls 2 [(0, .ref qL), (1, .int dp)] := hl
  refine lv_aload_n hx hb dX3_isOver_0 rfl (lv_at hl 0 rfl) ?_
  refine lv_iload_n hx hb dX3_isOver_1 rfl (lv_at hl 1 rfl) ?_
  refine call_X3_47 C dX3_isOver_2 (c_X3_open l E fl fr si mo at_ wk dp qL qS w lv rw w1 w2) hl hG 0 rfl [0, 1, 2, 3, 4, 5] (by decide) rfl (ads := [qL, lv, rw, w, w1, w2]) rfl rfl (ws' := [(qL, .inr (3, [.ref qS, .ref w, .ref lv, .ref rw, .int si, .int mo, .int at_])), (lv, .inl (E.2.1.1, 72, .inl fl)), (rw, .inl (E.2.1.1, 5, .inl fr)), (w, .inr (0, [.ref w1, .ref w2, .int (o_X3_open_wk fl fr si mo at_ wk dp 10), .int (o_X3_open_wk fl fr si mo at_ wk dp 11)])), (w1, .inr (1, [.int (o_X3_open_wk fl fr si mo at_ wk dp 0), .int (o_X3_open_wk fl fr si mo at_ wk dp 1), .int (o_X3_open_wk fl fr si mo at_ wk dp 2), .int (o_X3_open_wk fl fr si mo at_ wk dp 3), .int (o_X3_open_wk fl fr si mo at_ wk dp 4), .int (o_X3_open_wk fl fr si mo at_ wk dp 12), .int (o_X3_open_wk fl fr si mo at_ wk dp 13)])), (w2, .inr (1, [.int (o_X3_open_wk fl fr si mo at_ wk dp 5), .int (o_X3_open_wk fl fr si mo at_ wk dp 6), .int (o_X3_open_wk fl fr si mo at_ wk dp 7), .int (o_X3_open_wk fl fr si mo at_ wk dp 8), .int (o_X3_open_wk fl fr si mo at_ wk dp 9), .int (o_X3_open_wk fl fr si mo at_ wk dp 14), .int (o_X3_open_wk fl fr si mo at_ wk dp 15)])), (qS, .inr (6, [.ref qs, .ref qd, .int len, .int need])), (qs, .inl (E.2.1.1, 12, .inl sun)), (qd, .inl (E.2.1.1, 12, .inl dry))]) rfl rfl (rest := []) rfl (Nat.le_of_ble_eq_true rfl) ⟨Nat.le_of_ble_eq_true rfl, Nat.le_of_ble_eq_true rfl⟩ (fun H locs hG => ?_)
  refine lv_aload_n hx hb dX3_isOver_5 rfl (lv_at hl 0 rfl) ?_
  refine gf_X3_12 C dX3_isOver_6 hG 0 rfl rfl ?_
  refine lv_aload_n hx hb dX3_isOver_9 rfl (lv_at hl 0 rfl) ?_
  refine gf_X3_25 C dX3_isOver_10 hG 0 rfl rfl ?_
  refine call_X3_62 C dX3_isOver_13 (c_X0_loser l E (o_X3_open_wk fl fr si mo at_ wk dp) sun dry len need w w1 w2 qS qs qd) hl hG 3 rfl [3, 4, 5, 6, 7, 8] (by decide) rfl (ads := [w, w1, w2, qS, qs, qd]) rfl rfl (ws' := [(qL, .inr (3, [.ref qS, .ref w, .ref lv, .ref rw, .int si, .int mo, .int at_])), (lv, .inl (E.2.1.1, 72, .inl fl)), (rw, .inl (E.2.1.1, 5, .inl fr)), (w, .inr (0, [.ref w1, .ref w2, .int (o_X3_open_wk fl fr si mo at_ wk dp 10), .int (o_X3_open_wk fl fr si mo at_ wk dp 11)])), (w1, .inr (1, [.int (o_X3_open_wk fl fr si mo at_ wk dp 0), .int (o_X3_open_wk fl fr si mo at_ wk dp 1), .int (o_X3_open_wk fl fr si mo at_ wk dp 2), .int (o_X3_open_wk fl fr si mo at_ wk dp 3), .int (o_X3_open_wk fl fr si mo at_ wk dp 4), .int (o_X3_open_wk fl fr si mo at_ wk dp 12), .int (o_X3_open_wk fl fr si mo at_ wk dp 13)])), (w2, .inr (1, [.int (o_X3_open_wk fl fr si mo at_ wk dp 5), .int (o_X3_open_wk fl fr si mo at_ wk dp 6), .int (o_X3_open_wk fl fr si mo at_ wk dp 7), .int (o_X3_open_wk fl fr si mo at_ wk dp 8), .int (o_X3_open_wk fl fr si mo at_ wk dp 9), .int (o_X3_open_wk fl fr si mo at_ wk dp 14), .int (o_X3_open_wk fl fr si mo at_ wk dp 15)])), (qS, .inr (6, [.ref qs, .ref qd, .int len, .int need])), (qs, .inl (E.2.1.1, 12, .inl sun)), (qd, .inl (E.2.1.1, 12, .inl dry))]) rfl rfl (rest := []) rfl (Nat.le_of_ble_eq_true rfl) ⟨Nat.le_of_ble_eq_true rfl, Nat.le_of_ble_eq_true rfl⟩ (fun H locs hG => ?_)
  refine lv_bipush (v := (-4)) hx hb dX3_isOver_16 (by decide) ?_
  refine lv_icmp_eq (tgt := 25) hx hb dX3_isOver_18 (by decide) (fun c_1 => ?_) (fun c_1 => ?_)
  · skip
    refine lv_iconst (v := 0) hx hb dX3_isOver_25 (by decide) ?_
    rw [hQ]
    exact z_iret C hr hlk hG dX3_isOver_26 rfl (by rw [o_X3_isOver_r, if_pos c_1]) (by rw [o_X3_isOver_wk])
  · skip
    refine lv_iconst (v := 1) hx hb dX3_isOver_21 (by decide) ?_
    refine lv_goto (tgt := 26) hx hb dX3_isOver_22 (by decide) ?_
    rw [hQ]
    exact z_iret C hr hlk hG dX3_isOver_26 rfl (by rw [o_X3_isOver_r, if_neg c_1]) (by rw [o_X3_isOver_wk])
theorem o_X3_isOver_b (fl : Nat → Int32) (fr : Nat → Int32) (si : Int32) (mo : Int32) (at_ : Int32) (wk : Nat → Int32) (sun : Nat → Int32) (dry : Nat → Int32) (len : Int32) (need : Int32) (dp : Int32) : o_X3_isOver_r fl fr si mo at_ wk sun dry len need dp = 0 ∨ o_X3_isOver_r fl fr si mo at_ wk sun dry len need dp = 1 := by
  unfold o_X3_isOver_r; (repeat' split) <;> first | exact Or.inl rfl | exact Or.inr rfl
def o_X3_leadAt_r (fl : Nat → Int32) (fr : Nat → Int32) (si : Int32) (mo : Int32) (at_ : Int32) (wk : Nat → Int32) (sun : Nat → Int32) (dry : Nat → Int32) (len : Int32) (need : Int32) (dp : Int32) : Int32 := (if (o_X0_loser_r (o_X3_open_wk fl fr si mo at_ wk dp) sun dry len need) = 0 then (((o_X3_open_wk fl fr si mo at_ wk dp 1) - (o_X3_open_wk fl fr si mo at_ wk dp 6)) - 100) else (if (o_X0_loser_r (o_X3_open_wk fl fr si mo at_ wk dp) sun dry len need) = 1 then (((o_X3_open_wk fl fr si mo at_ wk dp 1) - (o_X3_open_wk fl fr si mo at_ wk dp 6)) + 100) else ((o_X3_open_wk fl fr si mo at_ wk dp 1) - (o_X3_open_wk fl fr si mo at_ wk dp 6))))
def o_X3_leadAt_wk (fl : Nat → Int32) (fr : Nat → Int32) (si : Int32) (mo : Int32) (at_ : Int32) (wk : Nat → Int32) (sun : Nat → Int32) (dry : Nat → Int32) (len : Int32) (need : Int32) (dp : Int32) : Nat → Int32 := (o_X3_open_wk fl fr si mo at_ wk dp)
set_option maxRecDepth 100000 in
set_option maxHeartbeats 4000000 in
theorem c_X3_leadAt (l : Launch) (E : zE) (fl : Nat → Int32) (fr : Nat → Int32) (si : Int32) (mo : Int32) (at_ : Int32) (wk : Nat → Int32) (sun : Nat → Int32) (dry : Nat → Int32) (len : Int32) (need : Int32) (dp : Int32) (qL qS w lv rw w1 w2 qs qd : Nat) : HM l E yX3_leadAt cX3_leadAt 4 (some .int) 4 86 [.ref qL, .int dp] [(qL, .inr (3, [.ref qS, .ref w, .ref lv, .ref rw, .int si, .int mo, .int at_])), (lv, .inl (E.2.1.1, 72, .inl fl)), (rw, .inl (E.2.1.1, 5, .inl fr)), (w, .inr (0, [.ref w1, .ref w2, .int (wk 10), .int (wk 11)])), (w1, .inr (1, [.int (wk 0), .int (wk 1), .int (wk 2), .int (wk 3), .int (wk 4), .int (wk 12), .int (wk 13)])), (w2, .inr (1, [.int (wk 5), .int (wk 6), .int (wk 7), .int (wk 8), .int (wk 9), .int (wk 14), .int (wk 15)])), (qS, .inr (6, [.ref qs, .ref qd, .int len, .int need])), (qs, .inl (E.2.1.1, 12, .inl sun)), (qd, .inl (E.2.1.1, 12, .inl dry))] (some (.int (o_X3_leadAt_r fl fr si mo at_ wk sun dry len need dp))) [(qL, .inr (3, [.ref qS, .ref w, .ref lv, .ref rw, .int si, .int mo, .int at_])), (lv, .inl (E.2.1.1, 72, .inl fl)), (rw, .inl (E.2.1.1, 5, .inl fr)), (w, .inr (0, [.ref w1, .ref w2, .int (o_X3_leadAt_wk fl fr si mo at_ wk sun dry len need dp 10), .int (o_X3_leadAt_wk fl fr si mo at_ wk sun dry len need dp 11)])), (w1, .inr (1, [.int (o_X3_leadAt_wk fl fr si mo at_ wk sun dry len need dp 0), .int (o_X3_leadAt_wk fl fr si mo at_ wk sun dry len need dp 1), .int (o_X3_leadAt_wk fl fr si mo at_ wk sun dry len need dp 2), .int (o_X3_leadAt_wk fl fr si mo at_ wk sun dry len need dp 3), .int (o_X3_leadAt_wk fl fr si mo at_ wk sun dry len need dp 4), .int (o_X3_leadAt_wk fl fr si mo at_ wk sun dry len need dp 12), .int (o_X3_leadAt_wk fl fr si mo at_ wk sun dry len need dp 13)])), (w2, .inr (1, [.int (o_X3_leadAt_wk fl fr si mo at_ wk sun dry len need dp 5), .int (o_X3_leadAt_wk fl fr si mo at_ wk sun dry len need dp 6), .int (o_X3_leadAt_wk fl fr si mo at_ wk sun dry len need dp 7), .int (o_X3_leadAt_wk fl fr si mo at_ wk sun dry len need dp 8), .int (o_X3_leadAt_wk fl fr si mo at_ wk sun dry len need dp 9), .int (o_X3_leadAt_wk fl fr si mo at_ wk sun dry len need dp 14), .int (o_X3_leadAt_wk fl fr si mo at_ wk sun dry len need dp 15)])), (qS, .inr (6, [.ref qs, .ref qd, .int len, .int need])), (qs, .inl (E.2.1.1, 12, .inl sun)), (qd, .inl (E.2.1.1, 12, .inl dry))] := by
  refine HM.of (own := RX3) (plainFor_of_name (by decide)) rfl (Nat.le_of_ble_eq_true rfl) ?_
  intro zp ze zs zm za zb zt zc zA ls H locs zq C hr hlk hG hl hQ
  have hx := C.1.1
  have hb := C.1.2.1
  replace hl : lv_has ls 4 [(0, .ref qL), (1, .int dp)] := hl
  refine lv_aload_n hx hb dX3_leadAt_0 rfl (lv_at hl 0 rfl) ?_
  refine lv_iload_n hx hb dX3_leadAt_1 rfl (lv_at hl 1 rfl) ?_
  refine call_X3_47 C dX3_leadAt_2 (c_X3_open l E fl fr si mo at_ wk dp qL qS w lv rw w1 w2) hl hG 0 rfl [0, 1, 2, 3, 4, 5] (by decide) rfl (ads := [qL, lv, rw, w, w1, w2]) rfl rfl (ws' := [(qL, .inr (3, [.ref qS, .ref w, .ref lv, .ref rw, .int si, .int mo, .int at_])), (lv, .inl (E.2.1.1, 72, .inl fl)), (rw, .inl (E.2.1.1, 5, .inl fr)), (w, .inr (0, [.ref w1, .ref w2, .int (o_X3_open_wk fl fr si mo at_ wk dp 10), .int (o_X3_open_wk fl fr si mo at_ wk dp 11)])), (w1, .inr (1, [.int (o_X3_open_wk fl fr si mo at_ wk dp 0), .int (o_X3_open_wk fl fr si mo at_ wk dp 1), .int (o_X3_open_wk fl fr si mo at_ wk dp 2), .int (o_X3_open_wk fl fr si mo at_ wk dp 3), .int (o_X3_open_wk fl fr si mo at_ wk dp 4), .int (o_X3_open_wk fl fr si mo at_ wk dp 12), .int (o_X3_open_wk fl fr si mo at_ wk dp 13)])), (w2, .inr (1, [.int (o_X3_open_wk fl fr si mo at_ wk dp 5), .int (o_X3_open_wk fl fr si mo at_ wk dp 6), .int (o_X3_open_wk fl fr si mo at_ wk dp 7), .int (o_X3_open_wk fl fr si mo at_ wk dp 8), .int (o_X3_open_wk fl fr si mo at_ wk dp 9), .int (o_X3_open_wk fl fr si mo at_ wk dp 14), .int (o_X3_open_wk fl fr si mo at_ wk dp 15)])), (qS, .inr (6, [.ref qs, .ref qd, .int len, .int need])), (qs, .inl (E.2.1.1, 12, .inl sun)), (qd, .inl (E.2.1.1, 12, .inl dry))]) rfl rfl (rest := []) rfl (Nat.le_of_ble_eq_true rfl) ⟨Nat.le_of_ble_eq_true rfl, Nat.le_of_ble_eq_true rfl⟩ (fun H locs hG => ?_)
  refine lv_aload_n hx hb dX3_leadAt_5 rfl (lv_at hl 0 rfl) ?_
  refine gf_X3_12 C dX3_leadAt_6 hG 0 rfl rfl ?_
  refine gf_X3_66 C dX3_leadAt_9 hG 3 rfl rfl ?_
  refine gf_X3_70 C dX3_leadAt_12 hG 4 rfl rfl ?_
  refine lv_aload_n hx hb dX3_leadAt_15 rfl (lv_at hl 0 rfl) ?_
  refine gf_X3_12 C dX3_leadAt_16 hG 0 rfl rfl ?_
  refine gf_X3_75 C dX3_leadAt_19 hG 3 rfl rfl ?_
  refine gf_X3_70 C dX3_leadAt_22 hG 5 rfl rfl ?_
  refine lv_isub hx hb dX3_leadAt_25 ?_
  refine lv_istore_n (lv' := [(2, .int ((o_X3_open_wk fl fr si mo at_ wk dp 1) - (o_X3_open_wk fl fr si mo at_ wk dp 6))), (0, .ref qL), (1, .int dp)]) hx hb dX3_leadAt_26 rfl hl (by decide) rfl (fun ls hl => ?_)
  refine lv_aload_n hx hb dX3_leadAt_27 rfl (lv_at hl 1 rfl) ?_
  refine gf_X3_12 C dX3_leadAt_28 hG 0 rfl rfl ?_
  refine lv_aload_n hx hb dX3_leadAt_31 rfl (lv_at hl 1 rfl) ?_
  refine gf_X3_25 C dX3_leadAt_32 hG 0 rfl rfl ?_
  refine call_X3_62 C dX3_leadAt_35 (c_X0_loser l E (o_X3_open_wk fl fr si mo at_ wk dp) sun dry len need w w1 w2 qS qs qd) hl hG 3 rfl [3, 4, 5, 6, 7, 8] (by decide) rfl (ads := [w, w1, w2, qS, qs, qd]) rfl rfl (ws' := [(qL, .inr (3, [.ref qS, .ref w, .ref lv, .ref rw, .int si, .int mo, .int at_])), (lv, .inl (E.2.1.1, 72, .inl fl)), (rw, .inl (E.2.1.1, 5, .inl fr)), (w, .inr (0, [.ref w1, .ref w2, .int (o_X3_open_wk fl fr si mo at_ wk dp 10), .int (o_X3_open_wk fl fr si mo at_ wk dp 11)])), (w1, .inr (1, [.int (o_X3_open_wk fl fr si mo at_ wk dp 0), .int (o_X3_open_wk fl fr si mo at_ wk dp 1), .int (o_X3_open_wk fl fr si mo at_ wk dp 2), .int (o_X3_open_wk fl fr si mo at_ wk dp 3), .int (o_X3_open_wk fl fr si mo at_ wk dp 4), .int (o_X3_open_wk fl fr si mo at_ wk dp 12), .int (o_X3_open_wk fl fr si mo at_ wk dp 13)])), (w2, .inr (1, [.int (o_X3_open_wk fl fr si mo at_ wk dp 5), .int (o_X3_open_wk fl fr si mo at_ wk dp 6), .int (o_X3_open_wk fl fr si mo at_ wk dp 7), .int (o_X3_open_wk fl fr si mo at_ wk dp 8), .int (o_X3_open_wk fl fr si mo at_ wk dp 9), .int (o_X3_open_wk fl fr si mo at_ wk dp 14), .int (o_X3_open_wk fl fr si mo at_ wk dp 15)])), (qS, .inr (6, [.ref qs, .ref qd, .int len, .int need])), (qs, .inl (E.2.1.1, 12, .inl sun)), (qd, .inl (E.2.1.1, 12, .inl dry))]) rfl rfl (rest := []) rfl (Nat.le_of_ble_eq_true rfl) ⟨Nat.le_of_ble_eq_true rfl, Nat.le_of_ble_eq_true rfl⟩ (fun H locs hG => ?_)
  refine lv_istore_n (lv' := [(3, .int (o_X0_loser_r (o_X3_open_wk fl fr si mo at_ wk dp) sun dry len need)), (2, .int ((o_X3_open_wk fl fr si mo at_ wk dp 1) - (o_X3_open_wk fl fr si mo at_ wk dp 6))), (0, .ref qL), (1, .int dp)]) hx hb dX3_leadAt_38 rfl hl (by decide) rfl (fun ls hl => ?_)
  refine lv_iload_n hx hb dX3_leadAt_39 rfl (lv_at hl 0 rfl) ?_
  refine lv_if_ne (tgt := 48) hx hb dX3_leadAt_40 (by decide) (fun c_1 => ?_) (fun c_1 => ?_)
  · skip
    refine lv_iload_n hx hb dX3_leadAt_48 rfl (lv_at hl 0 rfl) ?_
    refine lv_iconst (v := 1) hx hb dX3_leadAt_49 (by decide) ?_
    refine lv_icmp_ne (tgt := 60) hx hb dX3_leadAt_50 (by decide) (fun c_2 => ?_) (fun c_2 => ?_)
    · skip
      refine lv_iload_n hx hb dX3_leadAt_60 rfl (lv_at hl 1 rfl) ?_
      rw [hQ]
      exact z_iret C hr hlk hG dX3_leadAt_61 rfl (by rw [o_X3_leadAt_r, if_neg c_1, if_neg c_2]) (by rw [o_X3_leadAt_wk])
    · skip
      refine lv_iload_n hx hb dX3_leadAt_53 rfl (lv_at hl 1 rfl) ?_
      refine lv_bipush (v := 100) hx hb dX3_leadAt_54 (by decide) ?_
      refine lv_iadd hx hb dX3_leadAt_56 ?_
      refine lv_goto (tgt := 61) hx hb dX3_leadAt_57 (by decide) ?_
      rw [hQ]
      exact z_iret C hr hlk hG dX3_leadAt_61 rfl (by rw [o_X3_leadAt_r, if_neg c_1, if_pos c_2]) (by rw [o_X3_leadAt_wk])
  · skip
    refine lv_iload_n hx hb dX3_leadAt_43 rfl (lv_at hl 1 rfl) ?_
    refine lv_bipush (v := 100) hx hb dX3_leadAt_44 (by decide) ?_
    refine lv_isub hx hb dX3_leadAt_46 ?_
    rw [hQ]
    exact z_iret C hr hlk hG dX3_leadAt_47 rfl (by rw [o_X3_leadAt_r, if_pos c_1]) (by rw [o_X3_leadAt_wk])
