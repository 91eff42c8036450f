set_option maxRecDepth 100000 in
set_option maxHeartbeats 4000000 in
theorem c_X0_of_z (l : Launch) (E : zE) (w : Int32) (mo : Int32) (p : Int32) (a q1 q2 : Nat) (hp : p = 0) : HM l E yX0_of cX0_of 2 (some (.object "HedgeDuel$Hedge")) 0 0 [.ref a, .int p] [(a, .inr (0, [.ref q1, .ref q2, .int w, .int mo]))] (some (.ref q1)) [(a, .inr (0, [.ref q1, .ref q2, .int w, .int mo]))] := by
  refine HM.of (own := RX0) (plainFor_of_name (by decide)) rfl (Nat.le_of_ble_eq_true rfl) ?_
  intro zp ze zs zm za zb zt zc zA ls H locs zq C hr hlk hG hl hQ
  have hx := C.1.1
  have hb := C.1.2.1
  replace hl : lv_has ls 2 [(0, .ref a), (1, .int p)] := hl
  refine lv_iload_n hx hb dX0_of_0 rfl (lv_at hl 1 rfl) ?_
  refine lv_if_ne (tgt := 11) hx hb dX0_of_1 (by decide) (fun c_1 => absurd hp c_1) (fun c_1 => ?_)
  refine lv_aload_n hx hb dX0_of_4 rfl (lv_at hl 0 rfl) ?_
  refine gf_X0_12 C dX0_of_5 hG 0 rfl rfl ?_
  refine lv_goto (tgt := 15) hx hb dX0_of_8 (by decide) ?_
  rw [hQ]
  exact z_aret C hr (Or.inl ⟨_, rfl⟩) hlk hG dX0_of_15 rfl rfl
set_option maxRecDepth 100000 in
set_option maxHeartbeats 4000000 in
theorem c_X0_of_n (l : Launch) (E : zE) (w : Int32) (mo : Int32) (p : Int32) (a q1 q2 : Nat) (hp : ¬ p = 0) : HM l E yX0_of cX0_of 2 (some (.object "HedgeDuel$Hedge")) 0 0 [.ref a, .int p] [(a, .inr (0, [.ref q1, .ref q2, .int w, .int mo]))] (some (.ref q2)) [(a, .inr (0, [.ref q1, .ref q2, .int w, .int mo]))] := by
  refine HM.of (own := RX0) (plainFor_of_name (by decide)) rfl (Nat.le_of_ble_eq_true rfl) ?_
  intro zp ze zs zm za zb zt zc zA ls H locs zq C hr hlk hG hl hQ
  have hx := C.1.1
  have hb := C.1.2.1
  replace hl : lv_has ls 2 [(0, .ref a), (1, .int p)] := hl
  refine lv_iload_n hx hb dX0_of_0 rfl (lv_at hl 1 rfl) ?_
  refine lv_if_ne (tgt := 11) hx hb dX0_of_1 (by decide) (fun c_1 => ?_) (fun c_1 => absurd c_1 hp)
  refine lv_aload_n hx hb dX0_of_11 rfl (lv_at hl 0 rfl) ?_
  refine gf_X0_18 C dX0_of_12 hG 0 rfl rfl ?_
  rw [hQ]
  exact z_aret C hr (Or.inl ⟨_, rfl⟩) hlk hG dX0_of_15 rfl rfl
def o_X0_clear_g (g : Nat → Int32) : Nat → Int32 := (mixG (mkG12 (o_X1_begin_0_0 g 0 1 20) (o_X1_begin_0_1 g 0 1 20) 0 (o_X1_begin_0_3 g 0 1 20) 0 (o_X1_begin_0_0 (fun k => g (k + 5)) 0 1 20) (o_X1_begin_0_1 (fun k => g (k + 5)) 0 1 20) 0 (o_X1_begin_0_3 (fun k => g (k + 5)) 0 1 20) 0 10 0) g)
set_option maxRecDepth 100000 in
set_option maxHeartbeats 4000000 in
theorem c_X0_clear (l : Launch) (E : zE) (g : Nat → Int32) (a q1 q2 : Nat) : HM l E yX0_clear cX0_clear 1 none 1 23 [.ref a] [(a, .inr (0, [.ref q1, .ref q2, .int (g 10), .int (g 11)])), (q1, .inr (1, [.int (g 0), .int (g 1), .int (g 2), .int (g 3), .int (g 4), .int (g 12), .int (g 13)])), (q2, .inr (1, [.int (g 5), .int (g 6), .int (g 7), .int (g 8), .int (g 9), .int (g 14), .int (g 15)]))] none [(a, .inr (0, [.ref q1, .ref q2, .int (o_X0_clear_g g 10), .int (o_X0_clear_g g 11)])), (q1, .inr (1, [.int (o_X0_clear_g g 0), .int (o_X0_clear_g g 1), .int (o_X0_clear_g g 2), .int (o_X0_clear_g g 3), .int (o_X0_clear_g g 4), .int (o_X0_clear_g g 12), .int (o_X0_clear_g g 13)])), (q2, .inr (1, [.int (o_X0_clear_g g 5), .int (o_X0_clear_g g 6), .int (o_X0_clear_g g 7), .int (o_X0_clear_g g 8), .int (o_X0_clear_g g 9), .int (o_X0_clear_g g 14), .int (o_X0_clear_g g 15)]))] := by
  refine HM.of (own := RX0) (plainFor_of_name (by decide)) rfl (Nat.le_of_ble_eq_true rfl) ?_
  intro zp ze zs zm za zb zt zc zA ls H locs zq C hr hlk hG hl hQ
  have hx := C.1.1
  have hb := C.1.2.1
  replace hl : lv_has ls 1 [(0, .ref a)] := hl
  refine lv_aload_n hx hb dX0_clear_0 rfl (lv_at hl 0 rfl) ?_
  refine gf_X0_12 C dX0_clear_1 hG 0 rfl rfl ?_
  refine lv_iconst (v := 0) hx hb dX0_clear_4 (by decide) ?_
  refine lv_iconst (v := 1) hx hb dX0_clear_5 (by decide) ?_
  refine lv_bipush (v := 20) hx hb dX0_clear_6 (by decide) ?_
  refine call_X0_21 C dX0_clear_8 (c_X1_begin l E g 0 1 20 (g 12) (g 13) q1) hl hG 1 rfl [1] (by decide) rfl (ads := [q1]) rfl rfl (ws' := [(a, .inr (0, [.ref q1, .ref q2, .int (g 10), .int (g 11)])), (q1, .inr (1, [.int (o_X1_begin_0_0 g 0 1 20), .int (o_X1_begin_0_1 g 0 1 20), .int 0, .int (o_X1_begin_0_3 g 0 1 20), .int 0, .int (g 12), .int (g 13)])), (q2, .inr (1, [.int (g 5), .int (g 6), .int (g 7), .int (g 8), .int (g 9), .int (g 14), .int (g 15)]))]) rfl rfl (rest := []) rfl (Nat.le_of_ble_eq_true rfl) ⟨Nat.le_of_ble_eq_true rfl, Nat.le_of_ble_eq_true rfl⟩ (fun H locs hG => ?_)
  refine lv_aload_n hx hb dX0_clear_11 rfl (lv_at hl 0 rfl) ?_
  refine gf_X0_18 C dX0_clear_12 hG 0 rfl rfl ?_
  refine lv_iconst (v := 0) hx hb dX0_clear_15 (by decide) ?_
  refine lv_iconst (v := 1) hx hb dX0_clear_16 (by decide) ?_
  refine lv_bipush (v := 20) hx hb dX0_clear_17 (by decide) ?_
  refine call_X0_21 C dX0_clear_19 (c_X1_begin l E (fun k => g (k + 5)) 0 1 20 (g 14) (g 15) q2) hl hG 2 rfl [2] (by decide) rfl (ads := [q2]) rfl rfl (ws' := [(a, .inr (0, [.ref q1, .ref q2, .int (g 10), .int (g 11)])), (q1, .inr (1, [.int (o_X1_begin_0_0 g 0 1 20), .int (o_X1_begin_0_1 g 0 1 20), .int 0, .int (o_X1_begin_0_3 g 0 1 20), .int 0, .int (g 12), .int (g 13)])), (q2, .inr (1, [.int (o_X1_begin_0_0 (fun k => g (k + 5)) 0 1 20), .int (o_X1_begin_0_1 (fun k => g (k + 5)) 0 1 20), .int 0, .int (o_X1_begin_0_3 (fun k => g (k + 5)) 0 1 20), .int 0, .int (g 14), .int (g 15)]))]) rfl rfl (rest := []) rfl (Nat.le_of_ble_eq_true rfl) ⟨Nat.le_of_ble_eq_true rfl, Nat.le_of_ble_eq_true rfl⟩ (fun H locs hG => ?_)
  refine lv_aload_n hx hb dX0_clear_22 rfl (lv_at hl 0 rfl) ?_
  refine lv_bipush (v := 10) hx hb dX0_clear_23 (by decide) ?_
  refine pf_X0_25 C dX0_clear_25 hG 0 rfl (Nat.le_of_ble_eq_true rfl) (ws' := [(a, .inr (0, [.ref q1, .ref q2, .int 10, .int (g 11)])), (q1, .inr (1, [.int (o_X1_begin_0_0 g 0 1 20), .int (o_X1_begin_0_1 g 0 1 20), .int 0, .int (o_X1_begin_0_3 g 0 1 20), .int 0, .int (g 12), .int (g 13)])), (q2, .inr (1, [.int (o_X1_begin_0_0 (fun k => g (k + 5)) 0 1 20), .int (o_X1_begin_0_1 (fun k => g (k + 5)) 0 1 20), .int 0, .int (o_X1_begin_0_3 (fun k => g (k + 5)) 0 1 20), .int 0, .int (g 14), .int (g 15)]))]) rfl (fun H locs hG => ?_)
  refine lv_aload_n hx hb dX0_clear_28 rfl (lv_at hl 0 rfl) ?_
  refine lv_iconst (v := 0) hx hb dX0_clear_29 (by decide) ?_
  refine pf_X0_29 C dX0_clear_30 hG 0 rfl (Nat.le_of_ble_eq_true rfl) (ws' := [(a, .inr (0, [.ref q1, .ref q2, .int 10, .int 0])), (q1, .inr (1, [.int (o_X1_begin_0_0 g 0 1 20), .int (o_X1_begin_0_1 g 0 1 20), .int 0, .int (o_X1_begin_0_3 g 0 1 20), .int 0, .int (g 12), .int (g 13)])), (q2, .inr (1, [.int (o_X1_begin_0_0 (fun k => g (k + 5)) 0 1 20), .int (o_X1_begin_0_1 (fun k => g (k + 5)) 0 1 20), .int 0, .int (o_X1_begin_0_3 (fun k => g (k + 5)) 0 1 20), .int 0, .int (g 14), .int (g 15)]))]) rfl (fun H locs hG => ?_)
  rw [hQ]
  exact z_vret C hr hlk hG dX0_clear_33 rfl (by rw [o_X0_clear_g, mixG_0, mixG_1, mixG_2, mixG_3, mixG_4, mixG_5, mixG_6, mixG_7, mixG_8, mixG_9, mixG_10, mixG_11, mixG_12, mixG_13, mixG_14, mixG_15, mkG12_0, mkG12_1, mkG12_2, mkG12_3, mkG12_4, mkG12_5, mkG12_6, mkG12_7, mkG12_8, mkG12_9, mkG12_10, mkG12_11])
def o_X0_copy_0_2 (g : Nat → Int32) (o : Nat → Int32) : Int32 := (o 10)
def o_X0_copy_0_3 (g : Nat → Int32) (o : Nat → Int32) : Int32 := (o 11)
def o_X0_copy_1_0 (g : Nat → Int32) (o : Nat → Int32) : Int32 := (o_X1_copy_0_0 g o)
def o_X0_copy_1_1 (g : Nat → Int32) (o : Nat → Int32) : Int32 := (o_X1_copy_0_1 g o)
def o_X0_copy_1_2 (g : Nat → Int32) (o : Nat → Int32) : Int32 := (o_X1_copy_0_2 g o)
def o_X0_copy_1_3 (g : Nat → Int32) (o : Nat → Int32) : Int32 := (o_X1_copy_0_3 g o)
def o_X0_copy_1_4 (g : Nat → Int32) (o : Nat → Int32) : Int32 := (o_X1_copy_0_4 g o)
def o_X0_copy_2_0 (g : Nat → Int32) (o : Nat → Int32) : Int32 := (o_X1_copy_0_0 (fun k => g (k + 5)) (fun k => o (k + 5)))
def o_X0_copy_2_1 (g : Nat → Int32) (o : Nat → Int32) : Int32 := (o_X1_copy_0_1 (fun k => g (k + 5)) (fun k => o (k + 5)))
def o_X0_copy_2_2 (g : Nat → Int32) (o : Nat → Int32) : Int32 := (o_X1_copy_0_2 (fun k => g (k + 5)) (fun k => o (k + 5)))
def o_X0_copy_2_3 (g : Nat → Int32) (o : Nat → Int32) : Int32 := (o_X1_copy_0_3 (fun k => g (k + 5)) (fun k => o (k + 5)))
def o_X0_copy_2_4 (g : Nat → Int32) (o : Nat → Int32) : Int32 := (o_X1_copy_0_4 (fun k => g (k + 5)) (fun k => o (k + 5)))
set_option maxRecDepth 100000 in
set_option maxHeartbeats 4000000 in
theorem c_X0_copy (l : Launch) (E : zE) (g : Nat → Int32) (o : Nat → Int32) (a q1 q2 b r1 r2 : Nat) : HM l E yX0_copy cX0_copy 2 none 1 21 [.ref a, .ref b] [(a, .inr (0, [.ref q1, .ref q2, .int (g 10), .int (g 11)])), (q1, .inr (1, [.int (g 0), .int (g 1), .int (g 2), .int (g 3), .int (g 4), .int (g 12), .int (g 13)])), (q2, .inr (1, [.int (g 5), .int (g 6), .int (g 7), .int (g 8), .int (g 9), .int (g 14), .int (g 15)])), (b, .inr (0, [.ref r1, .ref r2, .int (o 10), .int (o 11)])), (r1, .inr (1, [.int (o 0), .int (o 1), .int (o 2), .int (o 3), .int (o 4), .int (o 12), .int (o 13)])), (r2, .inr (1, [.int (o 5), .int (o 6), .int (o 7), .int (o 8), .int (o 9), .int (o 14), .int (o 15)]))] none [(a, .inr (0, [.ref q1, .ref q2, .int (o_X0_copy_0_2 g o), .int (o_X0_copy_0_3 g o)])), (q1, .inr (1, [.int (o_X0_copy_1_0 g o), .int (o_X0_copy_1_1 g o), .int (o_X0_copy_1_2 g o), .int (o_X0_copy_1_3 g o), .int (o_X0_copy_1_4 g o), .int (g 12), .int (g 13)])), (q2, .inr (1, [.int (o_X0_copy_2_0 g o), .int (o_X0_copy_2_1 g o), .int (o_X0_copy_2_2 g o), .int (o_X0_copy_2_3 g o), .int (o_X0_copy_2_4 g o), .int (g 14), .int (g 15)])), (b, .inr (0, [.ref r1, .ref r2, .int (o 10), .int (o 11)])), (r1, .inr (1, [.int (o 0), .int (o 1), .int (o 2), .int (o 3), .int (o 4), .int (o 12), .int (o 13)])), (r2, .inr (1, [.int (o 5), .int (o 6), .int (o 7), .int (o 8), .int (o 9), .int (o 14), .int (o 15)]))] := by
  refine HM.of (own := RX0) (plainFor_of_name (by decide)) rfl (Nat.le_of_ble_eq_true rfl) ?_
  intro zp ze zs zm za zb zt zc zA ls H locs zq C hr hlk hG hl hQ
  have hx := C.1.1
  have hb := C.1.2.1
  replace hl : lv_has ls 2 [(0, .ref a), (1, .ref b)] := hl
  refine lv_aload_n hx hb dX0_copy_0 rfl (lv_at hl 0 rfl) ?_
  refine gf_X0_12 C dX0_copy_1 hG 0 rfl rfl ?_
  refine lv_aload_n hx hb dX0_copy_4 rfl (lv_at hl 1 rfl) ?_
  refine gf_X0_12 C dX0_copy_5 hG 3 rfl rfl ?_
  refine call_X0_32 C dX0_copy_8 (c_X1_copy l E g o (g 12) (g 13) (o 12) (o 13) q1 r1) hl hG 1 rfl [1, 4] (by decide) rfl (ads := [q1, r1]) rfl rfl (ws' := [(a, .inr (0, [.ref q1, .ref q2, .int (g 10), .int (g 11)])), (q1, .inr (1, [.int (o_X1_copy_0_0 g o), .int (o_X1_copy_0_1 g o), .int (o_X1_copy_0_2 g o), .int (o_X1_copy_0_3 g o), .int (o_X1_copy_0_4 g o), .int (g 12), .int (g 13)])), (q2, .inr (1, [.int (g 5), .int (g 6), .int (g 7), .int (g 8), .int (g 9), .int (g 14), .int (g 15)])), (b, .inr (0, [.ref r1, .ref r2, .int (o 10), .int (o 11)])), (r1, .inr (1, [.int (o 0), .int (o 1), .int (o 2), .int (o 3), .int (o 4), .int (o 12), .int (o 13)])), (r2, .inr (1, [.int (o 5), .int (o 6), .int (o 7), .int (o 8), .int (o 9), .int (o 14), .int (o 15)]))]) rfl rfl (rest := []) rfl (Nat.le_of_ble_eq_true rfl) ⟨Nat.le_of_ble_eq_true rfl, Nat.le_of_ble_eq_true rfl⟩ (fun H locs hG => ?_)
  refine lv_aload_n hx hb dX0_copy_11 rfl (lv_at hl 0 rfl) ?_
  refine gf_X0_18 C dX0_copy_12 hG 0 rfl rfl ?_
  refine lv_aload_n hx hb dX0_copy_15 rfl (lv_at hl 1 rfl) ?_
  refine gf_X0_18 C dX0_copy_16 hG 3 rfl rfl ?_
  refine call_X0_32 C dX0_copy_19 (c_X1_copy l E (fun k => g (k + 5)) (fun k => o (k + 5)) (g 14) (g 15) (o 14) (o 15) q2 r2) hl hG 2 rfl [2, 5] (by decide) rfl (ads := [q2, r2]) rfl rfl (ws' := [(a, .inr (0, [.ref q1, .ref q2, .int (g 10), .int (g 11)])), (q1, .inr (1, [.int (o_X1_copy_0_0 g o), .int (o_X1_copy_0_1 g o), .int (o_X1_copy_0_2 g o), .int (o_X1_copy_0_3 g o), .int (o_X1_copy_0_4 g o), .int (g 12), .int (g 13)])), (q2, .inr (1, [.int (o_X1_copy_0_0 (fun k => g (k + 5)) (fun k => o (k + 5))), .int (o_X1_copy_0_1 (fun k => g (k + 5)) (fun k => o (k + 5))), .int (o_X1_copy_0_2 (fun k => g (k + 5)) (fun k => o (k + 5))), .int (o_X1_copy_0_3 (fun k => g (k + 5)) (fun k => o (k + 5))), .int (o_X1_copy_0_4 (fun k => g (k + 5)) (fun k => o (k + 5))), .int (g 14), .int (g 15)])), (b, .inr (0, [.ref r1, .ref r2, .int (o 10), .int (o 11)])), (r1, .inr (1, [.int (o 0), .int (o 1), .int (o 2), .int (o 3), .int (o 4), .int (o 12), .int (o 13)])), (r2, .inr (1, [.int (o 5), .int (o 6), .int (o 7), .int (o 8), .int (o 9), .int (o 14), .int (o 15)]))]) rfl rfl (rest := []) rfl (Nat.le_of_ble_eq_true rfl) ⟨Nat.le_of_ble_eq_true rfl, Nat.le_of_ble_eq_true rfl⟩ (fun H locs hG => ?_)
  refine lv_aload_n hx hb dX0_copy_22 rfl (lv_at hl 0 rfl) ?_
  refine lv_aload_n hx hb dX0_copy_23 rfl (lv_at hl 1 rfl) ?_
  refine gf_X0_25 C dX0_copy_24 hG 3 rfl rfl ?_
  refine pf_X0_25 C dX0_copy_27 hG 0 rfl (Nat.le_of_ble_eq_true rfl) (ws' := [(a, .inr (0, [.ref q1, .ref q2, .int (o 10), .int (g 11)])), (q1, .inr (1, [.int (o_X1_copy_0_0 g o), .int (o_X1_copy_0_1 g o), .int (o_X1_copy_0_2 g o), .int (o_X1_copy_0_3 g o), .int (o_X1_copy_0_4 g o), .int (g 12), .int (g 13)])), (q2, .inr (1, [.int (o_X1_copy_0_0 (fun k => g (k + 5)) (fun k => o (k + 5))), .int (o_X1_copy_0_1 (fun k => g (k + 5)) (fun k => o (k + 5))), .int (o_X1_copy_0_2 (fun k => g (k + 5)) (fun k => o (k + 5))), .int (o_X1_copy_0_3 (fun k => g (k + 5)) (fun k => o (k + 5))), .int (o_X1_copy_0_4 (fun k => g (k + 5)) (fun k => o (k + 5))), .int (g 14), .int (g 15)])), (b, .inr (0, [.ref r1, .ref r2, .int (o 10), .int (o 11)])), (r1, .inr (1, [.int (o 0), .int (o 1), .int (o 2), .int (o 3), .int (o 4), .int (o 12), .int (o 13)])), (r2, .inr (1, [.int (o 5), .int (o 6), .int (o 7), .int (o 8), .int (o 9), .int (o 14), .int (o 15)]))]) rfl (fun H locs hG => ?_)
  refine lv_aload_n hx hb dX0_copy_30 rfl (lv_at hl 0 rfl) ?_
  refine lv_aload_n hx hb dX0_copy_31 rfl (lv_at hl 1 rfl) ?_
  refine gf_X0_29 C dX0_copy_32 hG 3 rfl rfl ?_
  refine pf_X0_29 C dX0_copy_35 hG 0 rfl (Nat.le_of_ble_eq_true rfl) (ws' := [(a, .inr (0, [.ref q1, .ref q2, .int (o 10), .int (o 11)])), (q1, .inr (1, [.int (o_X1_copy_0_0 g o), .int (o_X1_copy_0_1 g o), .int (o_X1_copy_0_2 g o), .int (o_X1_copy_0_3 g o), .int (o_X1_copy_0_4 g o), .int (g 12), .int (g 13)])), (q2, .inr (1, [.int (o_X1_copy_0_0 (fun k => g (k + 5)) (fun k => o (k + 5))), .int (o_X1_copy_0_1 (fun k => g (k + 5)) (fun k => o (k + 5))), .int (o_X1_copy_0_2 (fun k => g (k + 5)) (fun k => o (k + 5))), .int (o_X1_copy_0_3 (fun k => g (k + 5)) (fun k => o (k + 5))), .int (o_X1_copy_0_4 (fun k => g (k + 5)) (fun k => o (k + 5))), .int (g 14), .int (g 15)])), (b, .inr (0, [.ref r1, .ref r2, .int (o 10), .int (o 11)])), (r1, .inr (1, [.int (o 0), .int (o 1), .int (o 2), .int (o 3), .int (o 4), .int (o 12), .int (o 13)])), (r2, .inr (1, [.int (o 5), .int (o 6), .int (o 7), .int (o 8), .int (o 9), .int (o 14), .int (o 15)]))]) rfl (fun H locs hG => ?_)
  rw [hQ]
  exact z_vret C hr hlk hG dX0_copy_38 rfl (by rw [o_X0_copy_0_2, o_X0_copy_0_3, o_X0_copy_1_0, o_X0_copy_1_1, o_X0_copy_1_2, o_X0_copy_1_3, o_X0_copy_1_4, o_X0_copy_2_0, o_X0_copy_2_1, o_X0_copy_2_2, o_X0_copy_2_3, o_X0_copy_2_4])
def o_X0_store_3 (N : Nat) (g : Nat → Int32) (f : Nat → Int32) (i : Int32) : Nat → Int32 := (o_X7_setCell_0 N (o_X7_setCell_0 N (o_X1_store_1 N (fun k => g (k + 5)) (o_X1_store_1 N g f i) (i + 5)) (i + 10) (g 10)) ((i + 10) + 1) (g 11))
set_option maxRecDepth 100000 in
set_option maxHeartbeats 4000000 in
theorem c_X0_store (l : Launch) (E : zE) (N : Nat) (g : Nat → Int32) (f : Nat → Int32) (i : Int32) (a q1 q2 r : Nat) (hN : N < 2 ^ 31) : HM l E yX0_store cX0_store 3 none 2 44 [.ref a, .ref r, .int i] [(a, .inr (0, [.ref q1, .ref q2, .int (g 10), .int (g 11)])), (q1, .inr (1, [.int (g 0), .int (g 1), .int (g 2), .int (g 3), .int (g 4), .int (g 12), .int (g 13)])), (q2, .inr (1, [.int (g 5), .int (g 6), .int (g 7), .int (g 8), .int (g 9), .int (g 14), .int (g 15)])), (r, .inl (E.2.1.1, N, .inl f))] none [(a, .inr (0, [.ref q1, .ref q2, .int (g 10), .int (g 11)])), (q1, .inr (1, [.int (g 0), .int (g 1), .int (g 2), .int (g 3), .int (g 4), .int (g 12), .int (g 13)])), (q2, .inr (1, [.int (g 5), .int (g 6), .int (g 7), .int (g 8), .int (g 9), .int (g 14), .int (g 15)])), (r, .inl (E.2.1.1, N, .inl (o_X0_store_3 N g f i)))] := by
  refine HM.of (own := RX0) (plainFor_of_name (by decide)) rfl (Nat.le_of_ble_eq_true rfl) ?_
  intro zp ze zs zm za zb zt zc zA ls H locs zq C hr hlk hG hl hQ
  have hx := C.1.1
  have hb := C.1.2.1
  replace hl : lv_has ls 3 [(0, .ref a), (1, .ref r), (2, .int i)] := hl
  refine lv_aload_n hx hb dX0_store_0 rfl (lv_at hl 0 rfl) ?_
  refine gf_X0_12 C dX0_store_1 hG 0 rfl rfl ?_
  refine lv_aload_n hx hb dX0_store_4 rfl (lv_at hl 1 rfl) ?_
  refine lv_iload_n hx hb dX0_store_5 rfl (lv_at hl 2 rfl) ?_
  refine call_X0_36 C dX0_store_6 (c_X1_store l E N g f i (g 12) (g 13) q1 r hN) hl hG 1 rfl [1, 3] (by decide) rfl (ads := [q1, r]) rfl rfl (ws' := [(a, .inr (0, [.ref q1, .ref q2, .int (g 10), .int (g 11)])), (q1, .inr (1, [.int (g 0), .int (g 1), .int (g 2), .int (g 3), .int (g 4), .int (g 12), .int (g 13)])), (q2, .inr (1, [.int (g 5), .int (g 6), .int (g 7), .int (g 8), .int (g 9), .int (g 14), .int (g 15)])), (r, .inl (E.2.1.1, N, .inl (o_X1_store_1 N g f i)))]) rfl rfl (rest := []) rfl (Nat.le_of_ble_eq_true rfl) ⟨Nat.le_of_ble_eq_true rfl, Nat.le_of_ble_eq_true rfl⟩ (fun H locs hG => ?_)
  refine lv_aload_n hx hb dX0_store_9 rfl (lv_at hl 0 rfl) ?_
  refine gf_X0_18 C dX0_store_10 hG 0 rfl rfl ?_
  refine lv_aload_n hx hb dX0_store_13 rfl (lv_at hl 1 rfl) ?_
  refine lv_iload_n hx hb dX0_store_14 rfl (lv_at hl 2 rfl) ?_
  refine lv_iconst (v := 5) hx hb dX0_store_15 (by decide) ?_
  refine lv_iadd hx hb dX0_store_16 ?_
  refine call_X0_36 C dX0_store_17 (c_X1_store l E N (fun k => g (k + 5)) (o_X1_store_1 N g f i) (i + 5) (g 14) (g 15) q2 r hN) hl hG 2 rfl [2, 3] (by decide) rfl (ads := [q2, r]) rfl rfl (ws' := [(a, .inr (0, [.ref q1, .ref q2, .int (g 10), .int (g 11)])), (q1, .inr (1, [.int (g 0), .int (g 1), .int (g 2), .int (g 3), .int (g 4), .int (g 12), .int (g 13)])), (q2, .inr (1, [.int (g 5), .int (g 6), .int (g 7), .int (g 8), .int (g 9), .int (g 14), .int (g 15)])), (r, .inl (E.2.1.1, N, .inl (o_X1_store_1 N (fun k => g (k + 5)) (o_X1_store_1 N g f i) (i + 5))))]) rfl rfl (rest := []) rfl (Nat.le_of_ble_eq_true rfl) ⟨Nat.le_of_ble_eq_true rfl, Nat.le_of_ble_eq_true rfl⟩ (fun H locs hG => ?_)
  refine lv_aload_n hx hb dX0_store_20 rfl (lv_at hl 1 rfl) ?_
  refine lv_iload_n hx hb dX0_store_21 rfl (lv_at hl 2 rfl) ?_
  refine lv_bipush (v := 10) hx hb dX0_store_22 (by decide) ?_
  refine lv_iadd hx hb dX0_store_24 ?_
  refine lv_aload_n hx hb dX0_store_25 rfl (lv_at hl 0 rfl) ?_
  refine gf_X0_25 C dX0_store_26 hG 0 rfl rfl ?_
  refine call_X0_40 C dX0_store_29 (c_X7_setCell l E N (o_X1_store_1 N (fun k => g (k + 5)) (o_X1_store_1 N g f i) (i + 5)) (i + 10) (g 10) r hN) hl hG [3] (by decide) rfl (ads := [r]) rfl rfl (ws' := [(a, .inr (0, [.ref q1, .ref q2, .int (g 10), .int (g 11)])), (q1, .inr (1, [.int (g 0), .int (g 1), .int (g 2), .int (g 3), .int (g 4), .int (g 12), .int (g 13)])), (q2, .inr (1, [.int (g 5), .int (g 6), .int (g 7), .int (g 8), .int (g 9), .int (g 14), .int (g 15)])), (r, .inl (E.2.1.1, N, .inl (o_X7_setCell_0 N (o_X1_store_1 N (fun k => g (k + 5)) (o_X1_store_1 N g f i) (i + 5)) (i + 10) (g 10))))]) rfl rfl (rest := []) rfl (Nat.le_of_ble_eq_true rfl) ⟨Nat.le_of_ble_eq_true rfl, Nat.le_of_ble_eq_true rfl⟩ (fun H locs hG => ?_)
  refine lv_aload_n hx hb dX0_store_32 rfl (lv_at hl 1 rfl) ?_
  refine lv_iload_n hx hb dX0_store_33 rfl (lv_at hl 2 rfl) ?_
  refine lv_bipush (v := 10) hx hb dX0_store_34 (by decide) ?_
  refine lv_iadd hx hb dX0_store_36 ?_
  refine lv_iconst (v := 1) hx hb dX0_store_37 (by decide) ?_
  refine lv_iadd hx hb dX0_store_38 ?_
  refine lv_aload_n hx hb dX0_store_39 rfl (lv_at hl 0 rfl) ?_
  refine gf_X0_29 C dX0_store_40 hG 0 rfl rfl ?_
  refine call_X0_40 C dX0_store_43 (c_X7_setCell l E N (o_X7_setCell_0 N (o_X1_store_1 N (fun k => g (k + 5)) (o_X1_store_1 N g f i) (i + 5)) (i + 10) (g 10)) ((i + 10) + 1) (g 11) r hN) hl hG [3] (by decide) rfl (ads := [r]) rfl rfl (ws' := [(a, .inr (0, [.ref q1, .ref q2, .int (g 10), .int (g 11)])), (q1, .inr (1, [.int (g 0), .int (g 1), .int (g 2), .int (g 3), .int (g 4), .int (g 12), .int (g 13)])), (q2, .inr (1, [.int (g 5), .int (g 6), .int (g 7), .int (g 8), .int (g 9), .int (g 14), .int (g 15)])), (r, .inl (E.2.1.1, N, .inl (o_X7_setCell_0 N (o_X7_setCell_0 N (o_X1_store_1 N (fun k => g (k + 5)) (o_X1_store_1 N g f i) (i + 5)) (i + 10) (g 10)) ((i + 10) + 1) (g 11))))]) rfl rfl (rest := []) rfl (Nat.le_of_ble_eq_true rfl) ⟨Nat.le_of_ble_eq_true rfl, Nat.le_of_ble_eq_true rfl⟩ (fun H locs hG => ?_)
  rw [hQ]
  exact z_vret C hr hlk hG dX0_store_46 rfl (by rw [o_X0_store_3])
def o_X0_restore_g (N : Nat) (g : Nat → Int32) (f : Nat → Int32) (i : Int32) : Nat → Int32 := (mixG (mkG12 (o_X1_restore_h N g f i 0) (o_X1_restore_h N g f i 1) (o_X1_restore_h N g f i 2) (o_X1_restore_h N g f i 3) (o_X1_restore_h N g f i 4) (o_X1_restore_h N (fun k => g (k + 5)) f (i + 5) 0) (o_X1_restore_h N (fun k => g (k + 5)) f (i + 5) 1) (o_X1_restore_h N (fun k => g (k + 5)) f (i + 5) 2) (o_X1_restore_h N (fun k => g (k + 5)) f (i + 5) 3) (o_X1_restore_h N (fun k => g (k + 5)) f (i + 5) 4) (o_X7_cell_r N f (i + 10)) (o_X7_cell_r N f ((i + 10) + 1))) g)
set_option maxRecDepth 100000 in
set_option maxHeartbeats 4000000 in
theorem c_X0_restore (l : Launch) (E : zE) (N : Nat) (g : Nat → Int32) (f : Nat → Int32) (i : Int32) (a q1 q2 r : Nat) (hN : N < 2 ^ 31) : HM l E yX0_restore cX0_restore 3 none 2 43 [.ref a, .ref r, .int i] [(a, .inr (0, [.ref q1, .ref q2, .int (g 10), .int (g 11)])), (q1, .inr (1, [.int (g 0), .int (g 1), .int (g 2), .int (g 3), .int (g 4), .int (g 12), .int (g 13)])), (q2, .inr (1, [.int (g 5), .int (g 6), .int (g 7), .int (g 8), .int (g 9), .int (g 14), .int (g 15)])), (r, .inl (E.2.1.1, N, .inl f))] none [(a, .inr (0, [.ref q1, .ref q2, .int (o_X0_restore_g N g f i 10), .int (o_X0_restore_g N g f i 11)])), (q1, .inr (1, [.int (o_X0_restore_g N g f i 0), .int (o_X0_restore_g N g f i 1), .int (o_X0_restore_g N g f i 2), .int (o_X0_restore_g N g f i 3), .int (o_X0_restore_g N g f i 4), .int (o_X0_restore_g N g f i 12), .int (o_X0_restore_g N g f i 13)])), (q2, .inr (1, [.int (o_X0_restore_g N g f i 5), .int (o_X0_restore_g N g f i 6), .int (o_X0_restore_g N g f i 7), .int (o_X0_restore_g N g f i 8), .int (o_X0_restore_g N g f i 9), .int (o_X0_restore_g N g f i 14), .int (o_X0_restore_g N g f i 15)])), (r, .inl (E.2.1.1, N, .inl f))] := by
  refine HM.of (own := RX0) (plainFor_of_name (by decide)) rfl (Nat.le_of_ble_eq_true rfl) ?_
  intro zp ze zs zm za zb zt zc zA ls H locs zq C hr hlk hG hl hQ
  have hx := C.1.1
  have hb := C.1.2.1
  replace hl : lv_has ls 3 [(0, .ref a), (1, .ref r), (2, .int i)] := hl
  refine lv_aload_n hx hb dX0_restore_0 rfl (lv_at hl 0 rfl) ?_
  refine gf_X0_12 C dX0_restore_1 hG 0 rfl rfl ?_
  refine lv_aload_n hx hb dX0_restore_4 rfl (lv_at hl 1 rfl) ?_
  refine lv_iload_n hx hb dX0_restore_5 rfl (lv_at hl 2 rfl) ?_
  refine call_X0_44 C dX0_restore_6 (c_X1_restore l E N g f i (g 12) (g 13) q1 r hN) hl hG 1 rfl [1, 3] (by decide) rfl (ads := [q1, r]) rfl rfl (ws' := [(a, .inr (0, [.ref q1, .ref q2, .int (g 10), .int (g 11)])), (q1, .inr (1, [.int (o_X1_restore_h N g f i 0), .int (o_X1_restore_h N g f i 1), .int (o_X1_restore_h N g f i 2), .int (o_X1_restore_h N g f i 3), .int (o_X1_restore_h N g f i 4), .int (g 12), .int (g 13)])), (q2, .inr (1, [.int (g 5), .int (g 6), .int (g 7), .int (g 8), .int (g 9), .int (g 14), .int (g 15)])), (r, .inl (E.2.1.1, N, .inl f))]) rfl rfl (rest := []) rfl (Nat.le_of_ble_eq_true rfl) ⟨Nat.le_of_ble_eq_true rfl, Nat.le_of_ble_eq_true rfl⟩ (fun H locs hG => ?_)
  refine lv_aload_n hx hb dX0_restore_9 rfl (lv_at hl 0 rfl) ?_
  refine gf_X0_18 C dX0_restore_10 hG 0 rfl rfl ?_
  refine lv_aload_n hx hb dX0_restore_13 rfl (lv_at hl 1 rfl) ?_
  refine lv_iload_n hx hb dX0_restore_14 rfl (lv_at hl 2 rfl) ?_
  refine lv_iconst (v := 5) hx hb dX0_restore_15 (by decide) ?_
  refine lv_iadd hx hb dX0_restore_16 ?_
  refine call_X0_44 C dX0_restore_17 (c_X1_restore l E N (fun k => g (k + 5)) f (i + 5) (g 14) (g 15) q2 r hN) hl hG 2 rfl [2, 3] (by decide) rfl (ads := [q2, r]) rfl rfl (ws' := [(a, .inr (0, [.ref q1, .ref q2, .int (g 10), .int (g 11)])), (q1, .inr (1, [.int (o_X1_restore_h N g f i 0), .int (o_X1_restore_h N g f i 1), .int (o_X1_restore_h N g f i 2), .int (o_X1_restore_h N g f i 3), .int (o_X1_restore_h N g f i 4), .int (g 12), .int (g 13)])), (q2, .inr (1, [.int (o_X1_restore_h N (fun k => g (k + 5)) f (i + 5) 0), .int (o_X1_restore_h N (fun k => g (k + 5)) f (i + 5) 1), .int (o_X1_restore_h N (fun k => g (k + 5)) f (i + 5) 2), .int (o_X1_restore_h N (fun k => g (k + 5)) f (i + 5) 3), .int (o_X1_restore_h N (fun k => g (k + 5)) f (i + 5) 4), .int (g 14), .int (g 15)])), (r, .inl (E.2.1.1, N, .inl f))]) rfl rfl (rest := []) rfl (Nat.le_of_ble_eq_true rfl) ⟨Nat.le_of_ble_eq_true rfl, Nat.le_of_ble_eq_true rfl⟩ (fun H locs hG => ?_)
  refine lv_aload_n hx hb dX0_restore_20 rfl (lv_at hl 0 rfl) ?_
  refine lv_aload_n hx hb dX0_restore_21 rfl (lv_at hl 1 rfl) ?_
  refine lv_iload_n hx hb dX0_restore_22 rfl (lv_at hl 2 rfl) ?_
  refine lv_bipush (v := 10) hx hb dX0_restore_23 (by decide) ?_
  refine lv_iadd hx hb dX0_restore_25 ?_
  refine call_X0_47 C dX0_restore_26 (c_X7_cell l E N f (i + 10) r hN) hl hG [3] (by decide) rfl (ads := [r]) rfl rfl (ws' := [(a, .inr (0, [.ref q1, .ref q2, .int (g 10), .int (g 11)])), (q1, .inr (1, [.int (o_X1_restore_h N g f i 0), .int (o_X1_restore_h N g f i 1), .int (o_X1_restore_h N g f i 2), .int (o_X1_restore_h N g f i 3), .int (o_X1_restore_h N g f i 4), .int (g 12), .int (g 13)])), (q2, .inr (1, [.int (o_X1_restore_h N (fun k => g (k + 5)) f (i + 5) 0), .int (o_X1_restore_h N (fun k => g (k + 5)) f (i + 5) 1), .int (o_X1_restore_h N (fun k => g (k + 5)) f (i + 5) 2), .int (o_X1_restore_h N (fun k => g (k + 5)) f (i + 5) 3), .int (o_X1_restore_h N (fun k => g (k + 5)) f (i + 5) 4), .int (g 14), .int (g 15)])), (r, .inl (E.2.1.1, N, .inl f))]) rfl rfl (rest := [.ref a]) rfl (Nat.le_of_ble_eq_true rfl) ⟨Nat.le_of_ble_eq_true rfl, Nat.le_of_ble_eq_true rfl⟩ (fun H locs hG => ?_)
  refine pf_X0_25 C dX0_restore_29 hG 0 rfl (Nat.le_of_ble_eq_true rfl) (ws' := [(a, .inr (0, [.ref q1, .ref q2, .int (o_X7_cell_r N f (i + 10)), .int (g 11)])), (q1, .inr (1, [.int (o_X1_restore_h N g f i 0), .int (o_X1_restore_h N g f i 1), .int (o_X1_restore_h N g f i 2), .int (o_X1_restore_h N g f i 3), .int (o_X1_restore_h N g f i 4), .int (g 12), .int (g 13)])), (q2, .inr (1, [.int (o_X1_restore_h N (fun k => g (k + 5)) f (i + 5) 0), .int (o_X1_restore_h N (fun k => g (k + 5)) f (i + 5) 1), .int (o_X1_restore_h N (fun k => g (k + 5)) f (i + 5) 2), .int (o_X1_restore_h N (fun k => g (k + 5)) f (i + 5) 3), .int (o_X1_restore_h N (fun k => g (k + 5)) f (i + 5) 4), .int (g 14), .int (g 15)])), (r, .inl (E.2.1.1, N, .inl f))]) rfl (fun H locs hG => ?_)
  refine lv_aload_n hx hb dX0_restore_32 rfl (lv_at hl 0 rfl) ?_
  refine lv_aload_n hx hb dX0_restore_33 rfl (lv_at hl 1 rfl) ?_
  refine lv_iload_n hx hb dX0_restore_34 rfl (lv_at hl 2 rfl) ?_
  refine lv_bipush (v := 10) hx hb dX0_restore_35 (by decide) ?_
  refine lv_iadd hx hb dX0_restore_37 ?_
  refine lv_iconst (v := 1) hx hb dX0_restore_38 (by decide) ?_
  refine lv_iadd hx hb dX0_restore_39 ?_
  refine call_X0_47 C dX0_restore_40 (c_X7_cell l E N f ((i + 10) + 1) r hN) hl hG [3] (by decide) rfl (ads := [r]) rfl rfl (ws' := [(a, .inr (0, [.ref q1, .ref q2, .int (o_X7_cell_r N f (i + 10)), .int (g 11)])), (q1, .inr (1, [.int (o_X1_restore_h N g f i 0), .int (o_X1_restore_h N g f i 1), .int (o_X1_restore_h N g f i 2), .int (o_X1_restore_h N g f i 3), .int (o_X1_restore_h N g f i 4), .int (g 12), .int (g 13)])), (q2, .inr (1, [.int (o_X1_restore_h N (fun k => g (k + 5)) f (i + 5) 0), .int (o_X1_restore_h N (fun k => g (k + 5)) f (i + 5) 1), .int (o_X1_restore_h N (fun k => g (k + 5)) f (i + 5) 2), .int (o_X1_restore_h N (fun k => g (k + 5)) f (i + 5) 3), .int (o_X1_restore_h N (fun k => g (k + 5)) f (i + 5) 4), .int (g 14), .int (g 15)])), (r, .inl (E.2.1.1, N, .inl f))]) rfl rfl (rest := [.ref a]) rfl (Nat.le_of_ble_eq_true rfl) ⟨Nat.le_of_ble_eq_true rfl, Nat.le_of_ble_eq_true rfl⟩ (fun H locs hG => ?_)
  refine pf_X0_29 C dX0_restore_43 hG 0 rfl (Nat.le_of_ble_eq_true rfl) (ws' := [(a, .inr (0, [.ref q1, .ref q2, .int (o_X7_cell_r N f (i + 10)), .int (o_X7_cell_r N f ((i + 10) + 1))])), (q1, .inr (1, [.int (o_X1_restore_h N g f i 0), .int (o_X1_restore_h N g f i 1), .int (o_X1_restore_h N g f i 2), .int (o_X1_restore_h N g f i 3), .int (o_X1_restore_h N g f i 4), .int (g 12), .int (g 13)])), (q2, .inr (1, [.int (o_X1_restore_h N (fun k => g (k + 5)) f (i + 5) 0), .int (o_X1_restore_h N (fun k => g (k + 5)) f (i + 5) 1), .int (o_X1_restore_h N (fun k => g (k + 5)) f (i + 5) 2), .int (o_X1_restore_h N (fun k => g (k + 5)) f (i + 5) 3), .int (o_X1_restore_h N (fun k => g (k + 5)) f (i + 5) 4), .int (g 14), .int (g 15)])), (r, .inl (E.2.1.1, N, .inl f))]) rfl (fun H locs hG => ?_)
  rw [hQ]
  exact z_vret C hr hlk hG dX0_restore_46 rfl (by rw [o_X0_restore_g, mixG_0, mixG_1, mixG_2, mixG_3, mixG_4, mixG_5, mixG_6, mixG_7, mixG_8, mixG_9, mixG_10, mixG_11, mixG_12, mixG_13, mixG_14, mixG_15, mkG12_0, mkG12_1, mkG12_2, mkG12_3, mkG12_4, mkG12_5, mkG12_6, mkG12_7, mkG12_8, mkG12_9, mkG12_10, mkG12_11])
def o_X0_loser_r (g : Nat → Int32) (sun : Nat → Int32) (dry : Nat → Int32) (len : Int32) (need : Int32) : Int32 := (if (g 4) < need then (if (g 9) < need then (-4) else 1) else 0)
set_option maxRecDepth 100000 in
set_option maxHeartbeats 4000000 in
theorem c_X0_loser (l : Launch) (E : zE) (g : Nat → Int32) (sun : Nat → Int32) (dry : Nat → Int32) (len : Int32) (need : Int32) (a q1 q2 qS qs qd : Nat) : HM l E yX0_loser cX0_loser 2 (some .int) 0 0 [.ref a, .ref qS] [(a, .inr (0, [.ref q1, .ref q2, .int (g 10), .int (g 11)])), (q1, .inr (1, [.int (g 0), .int (g 1), .int (g 2), .int (g 3), .int (g 4), .int (g 12), .int (g 13)])), (q2, .inr (1, [.int (g 5), .int (g 6), .int (g 7), .int (g 8), .int (g 9), .int (g 14), .int (g 15)])), (qS, .inr (6, [.ref qs, .ref qd, .int len, .int need])), (qs, .inl (E.2.1.1, 12, .inl sun)), (qd, .inl (E.2.1.1, 12, .inl dry))] (some (.int (o_X0_loser_r g sun dry len need))) [(a, .inr (0, [.ref q1, .ref q2, .int (g 10), .int (g 11)])), (q1, .inr (1, [.int (g 0), .int (g 1), .int (g 2), .int (g 3), .int (g 4), .int (g 12), .int (g 13)])), (q2, .inr (1, [.int (g 5), .int (g 6), .int (g 7), .int (g 8), .int (g 9), .int (g 14), .int (g 15)])), (qS, .inr (6, [.ref qs, .ref qd, .int len, .int need])), (qs, .inl (E.2.1.1, 12, .inl sun)), (qd, .inl (E.2.1.1, 12, .inl dry))] := by
  refine HM.of (own := RX0) (plainFor_of_name (by decide)) rfl (Nat.le_of_ble_eq_true rfl) ?_
  intro zp ze zs zm za zb zt zc zA ls H locs zq C hr hlk hG hl hQ
  have hx := C.1.1
  have hb := C.1.2.1
  replace hl : lv_has ls 2 [(0, .ref a), (1, .ref qS)] := hl
  refine lv_aload_n hx hb dX0_loser_0 rfl (lv_at hl 0 rfl) ?_
  refine gf_X0_12 C dX0_loser_1 hG 0 rfl rfl ?_
  refine gf_X0_51 C dX0_loser_4 hG 1 rfl rfl ?_
  refine lv_aload_n hx hb dX0_loser_7 rfl (lv_at hl 1 rfl) ?_
  refine gf_X0_54 C dX0_loser_8 hG 3 rfl rfl ?_
  refine lv_icmp_lt (tgt := 16) hx hb dX0_loser_11 (by decide) (fun c_1 => ?_) (fun c_1 => ?_)
  · skip
    refine lv_aload_n hx hb dX0_loser_16 rfl (lv_at hl 0 rfl) ?_
    refine gf_X0_18 C dX0_loser_17 hG 0 rfl rfl ?_
    refine gf_X0_51 C dX0_loser_20 hG 2 rfl rfl ?_
    refine lv_aload_n hx hb dX0_loser_23 rfl (lv_at hl 1 rfl) ?_
    refine gf_X0_54 C dX0_loser_24 hG 3 rfl rfl ?_
    refine lv_icmp_lt (tgt := 34) hx hb dX0_loser_27 (by decide) (fun c_2 => ?_) (fun c_2 => ?_)
    · skip
      refine lv_bipush (v := (-4)) hx hb dX0_loser_34 (by decide) ?_
      rw [hQ]
      exact z_iret C hr hlk hG dX0_loser_36 rfl (by rw [o_X0_loser_r, if_pos c_1, if_pos c_2]) rfl
    · skip
      refine lv_iconst (v := 1) hx hb dX0_loser_30 (by decide) ?_
      refine lv_goto (tgt := 36) hx hb dX0_loser_31 (by decide) ?_
      rw [hQ]
      exact z_iret C hr hlk hG dX0_loser_36 rfl (by rw [o_X0_loser_r, if_pos c_1, if_neg c_2]) rfl
  · skip
    refine lv_iconst (v := 0) hx hb dX0_loser_14 (by decide) ?_
    rw [hQ]
    exact z_iret C hr hlk hG dX0_loser_15 rfl (by rw [o_X0_loser_r, if_neg c_1]) rfl
def o_X0_isShaded_0_r (hA : Nat → Int32) (hB : Nat → Int32) (w : Int32) (mo : Int32) (su : Int32) (le : Int32) : Int32 := (if (hB 1) ≤ (hA 1) then 0 else (if (o_X1_shadowLength_r hB su) < (le - (hB 2)) then 0 else 1))
set_option maxRecDepth 100000 in
set_option maxHeartbeats 4000000 in
theorem c_X0_isShaded_0 (l : Launch) (E : zE) (hA : Nat → Int32) (hB : Nat → Int32) (w : Int32) (mo : Int32) (su : Int32) (le : Int32) (x1 : Int32) (x2 : Int32) (x3 : Int32) (x4 : Int32) (a q1 q2 : Nat) : HM l E yX0_isShaded cX0_isShaded 6 (some .boolean) 1 21 [.ref a, .int 0, .int su, .int le] [(a, .inr (0, [.ref q1, .ref q2, .int w, .int mo])), (q1, .inr (1, [.int (hA 0), .int (hA 1), .int (hA 2), .int (hA 3), .int (hA 4), .int x1, .int x2])), (q2, .inr (1, [.int (hB 0), .int (hB 1), .int (hB 2), .int (hB 3), .int (hB 4), .int x3, .int x4]))] (some (.int (o_X0_isShaded_0_r hA hB w mo su le))) [(a, .inr (0, [.ref q1, .ref q2, .int w, .int mo])), (q1, .inr (1, [.int (hA 0), .int (hA 1), .int (hA 2), .int (hA 3), .int (hA 4), .int x1, .int x2])), (q2, .inr (1, [.int (hB 0), .int (hB 1), .int (hB 2), .int (hB 3), .int (hB 4), .int x3, .int x4]))] := by
  refine HM.of (own := RX0) (plainFor_of_name (by decide)) rfl (Nat.le_of_ble_eq_true rfl) ?_
  intro zp ze zs zm za zb zt zc zA ls H locs zq C hr hlk hG hl hQ
  have hx := C.1.1
  have hb := C.1.2.1
  replace hl : lv_has ls 6 [(0, .ref a), (1, .int 0), (2, .int su), (3, .int le)] := hl
  refine lv_aload_n hx hb dX0_isShaded_0 rfl (lv_at hl 0 rfl) ?_
  refine lv_iload_n hx hb dX0_isShaded_1 rfl (lv_at hl 1 rfl) ?_
  refine call_X0_59 C dX0_isShaded_2 (c_X0_of_z l E w mo 0 a q1 q2 rfl) hl hG 0 rfl [0] (by decide) rfl (ads := [a]) rfl rfl (ws' := [(a, .inr (0, [.ref q1, .ref q2, .int w, .int mo])), (q1, .inr (1, [.int (hA 0), .int (hA 1), .int (hA 2), .int (hA 3), .int (hA 4), .int x1, .int x2])), (q2, .inr (1, [.int (hB 0), .int (hB 1), .int (hB 2), .int (hB 3), .int (hB 4), .int x3, .int x4]))]) rfl rfl (rest := []) rfl (Nat.le_of_ble_eq_true rfl) ⟨Nat.le_of_ble_eq_true rfl, Nat.le_of_ble_eq_true rfl⟩ (fun H locs hG => ?_)
  refine lv_astore (lv' := [(4, .ref q1), (0, .ref a), (1, .int 0), (2, .int su), (3, .int le)]) hx hb dX0_isShaded_5 hl (by decide) rfl (fun ls hl => ?_)
  refine lv_aload_n hx hb dX0_isShaded_7 rfl (lv_at hl 1 rfl) ?_
  refine lv_iconst (v := 1) hx hb dX0_isShaded_8 (by decide) ?_
  refine lv_iload_n hx hb dX0_isShaded_9 rfl (lv_at hl 2 rfl) ?_
  refine lv_isub hx hb dX0_isShaded_10 ?_
  refine z_ti (y := 1) (by decide) ?_
  refine call_X0_59 C dX0_isShaded_11 (c_X0_of_n l E w mo 1 a q1 q2 (by decide)) hl hG 0 rfl [0] (by decide) rfl (ads := [a]) rfl rfl (ws' := [(a, .inr (0, [.ref q1, .ref q2, .int w, .int mo])), (q1, .inr (1, [.int (hA 0), .int (hA 1), .int (hA 2), .int (hA 3), .int (hA 4), .int x1, .int x2])), (q2, .inr (1, [.int (hB 0), .int (hB 1), .int (hB 2), .int (hB 3), .int (hB 4), .int x3, .int x4]))]) rfl rfl (rest := []) rfl (Nat.le_of_ble_eq_true rfl) ⟨Nat.le_of_ble_eq_true rfl, Nat.le_of_ble_eq_true rfl⟩ (fun H locs hG => ?_)
  refine lv_astore (lv' := [(5, .ref q2), (4, .ref q1), (0, .ref a), (1, .int 0), (2, .int su), (3, .int le)]) hx hb dX0_isShaded_14 hl (by decide) rfl (fun ls hl => ?_)
  refine lv_aload hx hb dX0_isShaded_16 (lv_at hl 1 rfl) ?_
  refine gf_X0_63 C dX0_isShaded_18 hG 1 rfl rfl ?_
  refine lv_aload hx hb dX0_isShaded_21 (lv_at hl 0 rfl) ?_
  refine gf_X0_63 C dX0_isShaded_23 hG 2 rfl rfl ?_
  refine lv_icmp_ge (tgt := 49) hx hb dX0_isShaded_26 (by decide) (fun c_1 => ?_) (fun c_1 => ?_)
  · skip
    refine lv_iconst (v := 0) hx hb dX0_isShaded_49 (by decide) ?_
    rw [hQ]
    exact z_iret C hr hlk hG dX0_isShaded_50 rfl (by rw [o_X0_isShaded_0_r, if_pos c_1]) rfl
  · skip
    refine lv_aload hx hb dX0_isShaded_29 (lv_at hl 0 rfl) ?_
    refine lv_iload_n hx hb dX0_isShaded_31 rfl (lv_at hl 4 rfl) ?_
    refine call_X0_66 C dX0_isShaded_32 (c_X1_shadowLength l E hB su x3 x4 q2) hl hG 2 rfl [2] (by decide) rfl (ads := [q2]) rfl rfl (ws' := [(a, .inr (0, [.ref q1, .ref q2, .int w, .int mo])), (q1, .inr (1, [.int (hA 0), .int (hA 1), .int (hA 2), .int (hA 3), .int (hA 4), .int x1, .int x2])), (q2, .inr (1, [.int (hB 0), .int (hB 1), .int (hB 2), .int (hB 3), .int (hB 4), .int x3, .int x4]))]) rfl rfl (rest := []) rfl (Nat.le_of_ble_eq_true rfl) ⟨Nat.le_of_ble_eq_true rfl, Nat.le_of_ble_eq_true rfl⟩ (fun H locs hG => ?_)
    refine lv_iload_n hx hb dX0_isShaded_35 rfl (lv_at hl 5 rfl) ?_
    refine lv_aload hx hb dX0_isShaded_36 (lv_at hl 0 rfl) ?_
    refine gf_X0_70 C dX0_isShaded_38 hG 2 rfl rfl ?_
    refine lv_isub hx hb dX0_isShaded_41 ?_
    refine lv_icmp_lt (tgt := 49) hx hb dX0_isShaded_42 (by decide) (fun c_2 => ?_) (fun c_2 => ?_)
    · skip
      refine lv_iconst (v := 0) hx hb dX0_isShaded_49 (by decide) ?_
      rw [hQ]
      exact z_iret C hr hlk hG dX0_isShaded_50 rfl (by rw [o_X0_isShaded_0_r, if_neg c_1, if_pos c_2]) rfl
    · skip
      refine lv_iconst (v := 1) hx hb dX0_isShaded_45 (by decide) ?_
      refine lv_goto (tgt := 50) hx hb dX0_isShaded_46 (by decide) ?_
      rw [hQ]
      exact z_iret C hr hlk hG dX0_isShaded_50 rfl (by rw [o_X0_isShaded_0_r, if_neg c_1, if_neg c_2]) rfl
theorem o_X0_isShaded_0_b (hA : Nat → Int32) (hB : Nat → Int32) (w : Int32) (mo : Int32) (su : Int32) (le : Int32) : o_X0_isShaded_0_r hA hB w mo su le = 0 ∨ o_X0_isShaded_0_r hA hB w mo su le = 1 := by
  unfold o_X0_isShaded_0_r; (repeat' split) <;> first | exact Or.inl rfl | exact Or.inr rfl
def o_X0_isShaded_1_r (hA : Nat → Int32) (hB : Nat → Int32) (w : Int32) (mo : Int32) (su : Int32) (le : Int32) : Int32 := (if (hA 1) ≤ (hB 1) then 0 else (if (o_X1_shadowLength_r hA su) < (le - (hA 2)) then 0 else 1))
set_option maxRecDepth 100000 in
set_option maxHeartbeats 4000000 in
theorem c_X0_isShaded_1 (l : Launch) (E : zE) (hA : Nat → Int32) (hB : Nat → Int32) (w : Int32) (mo : Int32) (su : Int32) (le : Int32) (x1 : Int32) (x2 : Int32) (x3 : Int32) (x4 : Int32) (a q1 q2 : Nat) : HM l E yX0_isShaded cX0_isShaded 6 (some .boolean) 1 21 [.ref a, .int 1, .int su, .int le] [(a, .inr (0, [.ref q1, .ref q2, .int w, .int mo])), (q1, .inr (1, [.int (hA 0), .int (hA 1), .int (hA 2), .int (hA 3), .int (hA 4), .int x1, .int x2])), (q2, .inr (1, [.int (hB 0), .int (hB 1), .int (hB 2), .int (hB 3), .int (hB 4), .int x3, .int x4]))] (some (.int (o_X0_isShaded_1_r hA hB w mo su le))) [(a, .inr (0, [.ref q1, .ref q2, .int w, .int mo])), (q1, .inr (1, [.int (hA 0), .int (hA 1), .int (hA 2), .int (hA 3), .int (hA 4), .int x1, .int x2])), (q2, .inr (1, [.int (hB 0), .int (hB 1), .int (hB 2), .int (hB 3), .int (hB 4), .int x3, .int x4]))] := by
  refine HM.of (own := RX0) (plainFor_of_name (by decide)) rfl (Nat.le_of_ble_eq_true rfl) ?_
  intro zp ze zs zm za zb zt zc zA ls H locs zq C hr hlk hG hl hQ
  have hx := C.1.1
  have hb := C.1.2.1
  replace hl : lv_has ls 6 [(0, .ref a), (1, .int 1), (2, .int su), (3, .int le)] := hl
  refine lv_aload_n hx hb dX0_isShaded_0 rfl (lv_at hl 0 rfl) ?_
  refine lv_iload_n hx hb dX0_isShaded_1 rfl (lv_at hl 1 rfl) ?_
  refine call_X0_59 C dX0_isShaded_2 (c_X0_of_n l E w mo 1 a q1 q2 (by decide)) hl hG 0 rfl [0] (by decide) rfl (ads := [a]) rfl rfl (ws' := [(a, .inr (0, [.ref q1, .ref q2, .int w, .int mo])), (q1, .inr (1, [.int (hA 0), .int (hA 1), .int (hA 2), .int (hA 3), .int (hA 4), .int x1, .int x2])), (q2, .inr (1, [.int (hB 0), .int (hB 1), .int (hB 2), .int (hB 3), .int (hB 4), .int x3, .int x4]))]) rfl rfl (rest := []) rfl (Nat.le_of_ble_eq_true rfl) ⟨Nat.le_of_ble_eq_true rfl, Nat.le_of_ble_eq_true rfl⟩ (fun H locs hG => ?_)
  refine lv_astore (lv' := [(4, .ref q2), (0, .ref a), (1, .int 1), (2, .int su), (3, .int le)]) hx hb dX0_isShaded_5 hl (by decide) rfl (fun ls hl => ?_)
  refine lv_aload_n hx hb dX0_isShaded_7 rfl (lv_at hl 1 rfl) ?_
  refine lv_iconst (v := 1) hx hb dX0_isShaded_8 (by decide) ?_
  refine lv_iload_n hx hb dX0_isShaded_9 rfl (lv_at hl 2 rfl) ?_
  refine lv_isub hx hb dX0_isShaded_10 ?_
  refine z_ti (y := 0) (by decide) ?_
  refine call_X0_59 C dX0_isShaded_11 (c_X0_of_z l E w mo 0 a q1 q2 rfl) hl hG 0 rfl [0] (by decide) rfl (ads := [a]) rfl rfl (ws' := [(a, .inr (0, [.ref q1, .ref q2, .int w, .int mo])), (q1, .inr (1, [.int (hA 0), .int (hA 1), .int (hA 2), .int (hA 3), .int (hA 4), .int x1, .int x2])), (q2, .inr (1, [.int (hB 0), .int (hB 1), .int (hB 2), .int (hB 3), .int (hB 4), .int x3, .int x4]))]) rfl rfl (rest := []) rfl (Nat.le_of_ble_eq_true rfl) ⟨Nat.le_of_ble_eq_true rfl, Nat.le_of_ble_eq_true rfl⟩ (fun H locs hG => ?_)
  refine lv_astore (lv' := [(5, .ref q1), (4, .ref q2), (0, .ref a), (1, .int 1), (2, .int su), (3, .int le)]) hx hb dX0_isShaded_14 hl (by decide) rfl (fun ls hl => ?_)
  refine lv_aload hx hb dX0_isShaded_16 (lv_at hl 1 rfl) ?_
  refine gf_X0_63 C dX0_isShaded_18 hG 2 rfl rfl ?_
  refine lv_aload hx hb dX0_isShaded_21 (lv_at hl 0 rfl) ?_
  refine gf_X0_63 C dX0_isShaded_23 hG 1 rfl rfl ?_
  refine lv_icmp_ge (tgt := 49) hx hb dX0_isShaded_26 (by decide) (fun c_1 => ?_) (fun c_1 => ?_)
  · skip
    refine lv_iconst (v := 0) hx hb dX0_isShaded_49 (by decide) ?_
    rw [hQ]
    exact z_iret C hr hlk hG dX0_isShaded_50 rfl (by rw [o_X0_isShaded_1_r, if_pos c_1]) rfl
  · skip
    refine lv_aload hx hb dX0_isShaded_29 (lv_at hl 0 rfl) ?_
    refine lv_iload_n hx hb dX0_isShaded_31 rfl (lv_at hl 4 rfl) ?_
    refine call_X0_66 C dX0_isShaded_32 (c_X1_shadowLength l E hA su x1 x2 q1) hl hG 1 rfl [1] (by decide) rfl (ads := [q1]) rfl rfl (ws' := [(a, .inr (0, [.ref q1, .ref q2, .int w, .int mo])), (q1, .inr (1, [.int (hA 0), .int (hA 1), .int (hA 2), .int (hA 3), .int (hA 4), .int x1, .int x2])), (q2, .inr (1, [.int (hB 0), .int (hB 1), .int (hB 2), .int (hB 3), .int (hB 4), .int x3, .int x4]))]) rfl rfl (rest := []) rfl (Nat.le_of_ble_eq_true rfl) ⟨Nat.le_of_ble_eq_true rfl, Nat.le_of_ble_eq_true rfl⟩ (fun H locs hG => ?_)
    refine lv_iload_n hx hb dX0_isShaded_35 rfl (lv_at hl 5 rfl) ?_
    refine lv_aload hx hb dX0_isShaded_36 (lv_at hl 0 rfl) ?_
    refine gf_X0_70 C dX0_isShaded_38 hG 1 rfl rfl ?_
    refine lv_isub hx hb dX0_isShaded_41 ?_
    refine lv_icmp_lt (tgt := 49) hx hb dX0_isShaded_42 (by decide) (fun c_2 => ?_) (fun c_2 => ?_)
    · skip
      refine lv_iconst (v := 0) hx hb dX0_isShaded_49 (by decide) ?_
      rw [hQ]
      exact z_iret C hr hlk hG dX0_isShaded_50 rfl (by rw [o_X0_isShaded_1_r, if_neg c_1, if_pos c_2]) rfl
    · skip
      refine lv_iconst (v := 1) hx hb dX0_isShaded_45 (by decide) ?_
      refine lv_goto (tgt := 50) hx hb dX0_isShaded_46 (by decide) ?_
      rw [hQ]
      exact z_iret C hr hlk hG dX0_isShaded_50 rfl (by rw [o_X0_isShaded_1_r, if_neg c_1, if_neg c_2]) rfl
theorem o_X0_isShaded_1_b (hA : Nat → Int32) (hB : Nat → Int32) (w : Int32) (mo : Int32) (su : Int32) (le : Int32) : o_X0_isShaded_1_r hA hB w mo su le = 0 ∨ o_X0_isShaded_1_r hA hB w mo su le = 1 := by
  unfold o_X0_isShaded_1_r; (repeat' split) <;> first | exact Or.inl rfl | exact Or.inr rfl
def o_X0_tend_0_2 (w : Int32) (mo : Int32) (h : Nat → Int32) (d_ : Int32) : Int32 := (if d_ = 1 then w else (if d_ = 4 then w else (if d_ = 2 then (if (h 3) < 3 then (if d_ = 3 then (if (h 3) < 1 then w else (if w ≤ 0 then w else (w - 1))) else w) else w) else (if d_ = 3 then (if (h 3) < 1 then w else (if w ≤ 0 then w else (w - 1))) else w))))
def o_X0_tend_h (w : Int32) (mo : Int32) (h : Nat → Int32) (d_ : Int32) : Nat → Int32 := (if d_ = 1 then (mkG5 (h 0) (if (0 : Int32) < ((h 1) - 2) then ((h 1) - 2) else 0) (h 2) (h 3) (h 4)) else (if d_ = 4 then (mkG5 (h 0) (h 1) (if ((h 2) + 1) < 3 then ((h 2) + 1) else 3) (h 3) (h 4)) else (if d_ = 2 then (if (h 3) < 3 then (if d_ = 3 then (if (h 3) < 1 then h else (if w ≤ 0 then h else (mkG5 (h 0) (h 1) (h 2) ((h 3) - 1) (h 4)))) else h) else (mkG5 (h 0) (o_X1_takeDung_0_1 (mkG5 (h 0) (h 1) (h 2) ((h 3) - 3) (h 4))) (h 2) ((h 3) - 3) (h 4))) else (if d_ = 3 then (if (h 3) < 1 then h else (if w ≤ 0 then h else (mkG5 (h 0) (h 1) (h 2) ((h 3) - 1) (h 4)))) else h))))
def o_X0_tend_1_5 (w : Int32) (mo : Int32) (h : Nat → Int32) (d_ : Int32) : Int32 := (if d_ = 1 then 0 else (if d_ = 4 then 0 else (if d_ = 2 then (if (h 3) < 3 then (if d_ = 3 then (if (h 3) < 1 then 0 else (if w ≤ 0 then 0 else 1)) else 0) else (o_X1_takeDung_0_5 (mkG5 (h 0) (h 1) (h 2) ((h 3) - 3) (h 4)) 0)) else (if d_ = 3 then (if (h 3) < 1 then 0 else (if w ≤ 0 then 0 else 1)) else 0))))
def o_X0_tend_1_6 (w : Int32) (mo : Int32) (h : Nat → Int32) (d_ : Int32) : Int32 := (if d_ = 1 then 0 else (if d_ = 4 then 0 else (if d_ = 2 then (if (h 3) < 3 then (if d_ = 3 then (if (h 3) < 1 then 0 else (if w ≤ 0 then 0 else 1)) else 0) else 0) else (if d_ = 3 then (if (h 3) < 1 then 0 else (if w ≤ 0 then 0 else 1)) else 0))))
set_option maxRecDepth 100000 in
set_option maxHeartbeats 4000000 in
theorem c_X0_tend (l : Launch) (E : zE) (w : Int32) (mo : Int32) (h : Nat → Int32) (d_ : Int32) (mr : Int32) (wt : Int32) (a q1 q2 q : Nat) : HM l E yX0_tend cX0_tend 3 none 2 34 [.ref a, .ref q, .int d_] [(a, .inr (0, [.ref q1, .ref q2, .int w, .int mo])), (q, .inr (1, [.int (h 0), .int (h 1), .int (h 2), .int (h 3), .int (h 4), .int mr, .int wt]))] none [(a, .inr (0, [.ref q1, .ref q2, .int (o_X0_tend_0_2 w mo h d_), .int mo])), (q, .inr (1, [.int (o_X0_tend_h w mo h d_ 0), .int (o_X0_tend_h w mo h d_ 1), .int (o_X0_tend_h w mo h d_ 2), .int (o_X0_tend_h w mo h d_ 3), .int (o_X0_tend_h w mo h d_ 4), .int (o_X0_tend_1_5 w mo h d_), .int (o_X0_tend_1_6 w mo h d_)]))] := by
  refine HM.of (own := RX0) (plainFor_of_name (by decide)) rfl (Nat.le_of_ble_eq_true rfl) ?_
  intro zp ze zs zm za zb zt zc zA ls H locs zq C hr hlk hG hl hQ
  have hx := C.1.1
  have hb := C.1.2.1
  replace hl : lv_has ls 3 [(0, .ref a), (1, .ref q), (2, .int d_)] := hl
  refine lv_aload_n hx hb dX0_tend_0 rfl (lv_at hl 1 rfl) ?_
  refine lv_iconst (v := 0) hx hb dX0_tend_1 (by decide) ?_
  refine pf_X0_107 C dX0_tend_2 hG 1 rfl (Nat.le_of_ble_eq_true rfl) (ws' := [(a, .inr (0, [.ref q1, .ref q2, .int w, .int mo])), (q, .inr (1, [.int (h 0), .int (h 1), .int (h 2), .int (h 3), .int (h 4), .int 0, .int wt]))]) rfl (fun H locs hG => ?_)
  refine lv_aload_n hx hb dX0_tend_5 rfl (lv_at hl 1 rfl) ?_
  refine lv_iconst (v := 0) hx hb dX0_tend_6 (by decide) ?_
  refine pf_X0_110 C dX0_tend_7 hG 1 rfl (Nat.le_of_ble_eq_true rfl) rfl rfl (ws' := [(a, .inr (0, [.ref q1, .ref q2, .int w, .int mo])), (q, .inr (1, [.int (h 0), .int (h 1), .int (h 2), .int (h 3), .int (h 4), .int 0, .int 0]))]) rfl (fun H locs hG => ?_)
  refine lv_iload_n hx hb dX0_tend_10 rfl (lv_at hl 2 rfl) ?_
  refine lv_iconst (v := 1) hx hb dX0_tend_11 (by decide) ?_
  refine lv_icmp_ne (tgt := 32) hx hb dX0_tend_12 (by decide) (fun c_1 => ?_) (fun c_1 => ?_)
  · skip
    refine lv_iload_n hx hb dX0_tend_32 rfl (lv_at hl 2 rfl) ?_
    refine lv_iconst (v := 4) hx hb dX0_tend_33 (by decide) ?_
    refine lv_icmp_ne (tgt := 54) hx hb dX0_tend_34 (by decide) (fun c_2 => ?_) (fun c_2 => ?_)
    · skip
      refine lv_iload_n hx hb dX0_tend_54 rfl (lv_at hl 2 rfl) ?_
      refine lv_iconst (v := 2) hx hb dX0_tend_55 (by decide) ?_
      refine lv_icmp_ne (tgt := 84) hx hb dX0_tend_56 (by decide) (fun c_3 => ?_) (fun c_3 => ?_)
      · skip
        refine lv_iload_n hx hb dX0_tend_84 rfl (lv_at hl 2 rfl) ?_
        refine lv_iconst (v := 3) hx hb dX0_tend_85 (by decide) ?_
        refine lv_icmp_ne (tgt := 134) hx hb dX0_tend_86 (by decide) (fun c_4 => ?_) (fun c_4 => ?_)
        · skip
          rw [hQ]
          exact z_vret C hr hlk hG dX0_tend_134 rfl (by rw [o_X0_tend_0_2, if_neg c_1, if_neg c_2, if_neg c_3, if_neg c_4, o_X0_tend_h, if_neg c_1, if_neg c_2, if_neg c_3, if_neg c_4, o_X0_tend_1_5, if_neg c_1, if_neg c_2, if_neg c_3, if_neg c_4, o_X0_tend_1_6, if_neg c_1, if_neg c_2, if_neg c_3, if_neg c_4])
        · skip
          refine lv_aload_n hx hb dX0_tend_89 rfl (lv_at hl 1 rfl) ?_
          refine gf_X0_123 C dX0_tend_90 hG 1 rfl rfl ?_
          refine lv_iconst (v := 1) hx hb dX0_tend_93 (by decide) ?_
          refine lv_icmp_lt (tgt := 134) hx hb dX0_tend_94 (by decide) (fun c_5 => ?_) (fun c_5 => ?_)
          · skip
            rw [hQ]
            exact z_vret C hr hlk hG dX0_tend_134 rfl (by rw [o_X0_tend_0_2, if_neg c_1, if_neg c_2, if_neg c_3, if_pos c_4, if_pos c_5, o_X0_tend_h, if_neg c_1, if_neg c_2, if_neg c_3, if_pos c_4, if_pos c_5, o_X0_tend_1_5, if_neg c_1, if_neg c_2, if_neg c_3, if_pos c_4, if_pos c_5, o_X0_tend_1_6, if_neg c_1, if_neg c_2, if_neg c_3, if_pos c_4, if_pos c_5])
          · skip
            refine lv_aload_n hx hb dX0_tend_97 rfl (lv_at hl 0 rfl) ?_
            refine gf_X0_25 C dX0_tend_98 hG 0 rfl rfl ?_
            refine lv_if_le (tgt := 134) hx hb dX0_tend_101 (by decide) (fun c_6 => ?_) (fun c_6 => ?_)
            · skip
              rw [hQ]
              exact z_vret C hr hlk hG dX0_tend_134 rfl (by rw [o_X0_tend_0_2, if_neg c_1, if_neg c_2, if_neg c_3, if_pos c_4, if_neg c_5, if_pos c_6, o_X0_tend_h, if_neg c_1, if_neg c_2, if_neg c_3, if_pos c_4, if_neg c_5, if_pos c_6, o_X0_tend_1_5, if_neg c_1, if_neg c_2, if_neg c_3, if_pos c_4, if_neg c_5, if_pos c_6, o_X0_tend_1_6, if_neg c_1, if_neg c_2, if_neg c_3, if_pos c_4, if_neg c_5, if_pos c_6])
            · skip
              refine lv_aload_n hx hb dX0_tend_104 rfl (lv_at hl 1 rfl) ?_
              refine lv_dup hx hb dX0_tend_105 rfl ?_
              refine gf_X0_123 C dX0_tend_106 hG 1 rfl rfl ?_
              refine lv_iconst (v := 1) hx hb dX0_tend_109 (by decide) ?_
              refine lv_isub hx hb dX0_tend_110 ?_
              refine pf_X0_123 C dX0_tend_111 hG 1 rfl (Nat.le_of_ble_eq_true rfl) (ws' := [(a, .inr (0, [.ref q1, .ref q2, .int w, .int mo])), (q, .inr (1, [.int (h 0), .int (h 1), .int (h 2), .int ((h 3) - 1), .int (h 4), .int 0, .int 0]))]) rfl (fun H locs hG => ?_)
              refine lv_aload_n hx hb dX0_tend_114 rfl (lv_at hl 0 rfl) ?_
              refine lv_dup hx hb dX0_tend_115 rfl ?_
              refine gf_X0_25 C dX0_tend_116 hG 0 rfl rfl ?_
              refine lv_iconst (v := 1) hx hb dX0_tend_119 (by decide) ?_
              refine lv_isub hx hb dX0_tend_120 ?_
              refine pf_X0_25 C dX0_tend_121 hG 0 rfl (Nat.le_of_ble_eq_true rfl) (ws' := [(a, .inr (0, [.ref q1, .ref q2, .int (w - 1), .int mo])), (q, .inr (1, [.int (h 0), .int (h 1), .int (h 2), .int ((h 3) - 1), .int (h 4), .int 0, .int 0]))]) rfl (fun H locs hG => ?_)
              refine lv_aload_n hx hb dX0_tend_124 rfl (lv_at hl 1 rfl) ?_
              refine lv_iconst (v := 1) hx hb dX0_tend_125 (by decide) ?_
              refine pf_X0_107 C dX0_tend_126 hG 1 rfl (Nat.le_of_ble_eq_true rfl) (ws' := [(a, .inr (0, [.ref q1, .ref q2, .int (w - 1), .int mo])), (q, .inr (1, [.int (h 0), .int (h 1), .int (h 2), .int ((h 3) - 1), .int (h 4), .int 1, .int 0]))]) rfl (fun H locs hG => ?_)
              refine lv_aload_n hx hb dX0_tend_129 rfl (lv_at hl 1 rfl) ?_
              refine lv_iconst (v := 1) hx hb dX0_tend_130 (by decide) ?_
              refine pf_X0_110 C dX0_tend_131 hG 1 rfl (Nat.le_of_ble_eq_true rfl) rfl rfl (ws' := [(a, .inr (0, [.ref q1, .ref q2, .int (w - 1), .int mo])), (q, .inr (1, [.int (h 0), .int (h 1), .int (h 2), .int ((h 3) - 1), .int (h 4), .int 1, .int 1]))]) rfl (fun H locs hG => ?_)
              rw [hQ]
              exact z_vret C hr hlk hG dX0_tend_134 rfl (by rw [o_X0_tend_0_2, if_neg c_1, if_neg c_2, if_neg c_3, if_pos c_4, if_neg c_5, if_neg c_6, o_X0_tend_h, if_neg c_1, if_neg c_2, if_neg c_3, if_pos c_4, if_neg c_5, if_neg c_6, mkG5_0, mkG5_1, mkG5_2, mkG5_3, mkG5_4, o_X0_tend_1_5, if_neg c_1, if_neg c_2, if_neg c_3, if_pos c_4, if_neg c_5, if_neg c_6, o_X0_tend_1_6, if_neg c_1, if_neg c_2, if_neg c_3, if_pos c_4, if_neg c_5, if_neg c_6])
      · skip
        refine lv_aload_n hx hb dX0_tend_59 rfl (lv_at hl 1 rfl) ?_
        refine gf_X0_123 C dX0_tend_60 hG 1 rfl rfl ?_
        refine lv_iconst (v := 3) hx hb dX0_tend_63 (by decide) ?_
        refine lv_icmp_lt (tgt := 84) hx hb dX0_tend_64 (by decide) (fun c_7 => ?_) (fun c_7 => ?_)
        · skip
          refine lv_iload_n hx hb dX0_tend_84 rfl (lv_at hl 2 rfl) ?_
          refine lv_iconst (v := 3) hx hb dX0_tend_85 (by decide) ?_
          refine lv_icmp_ne (tgt := 134) hx hb dX0_tend_86 (by decide) (fun c_8 => ?_) (fun c_8 => ?_)
          · skip
            rw [hQ]
            exact z_vret C hr hlk hG dX0_tend_134 rfl (by rw [o_X0_tend_0_2, if_neg c_1, if_neg c_2, if_pos c_3, if_pos c_7, if_neg c_8, o_X0_tend_h, if_neg c_1, if_neg c_2, if_pos c_3, if_pos c_7, if_neg c_8, o_X0_tend_1_5, if_neg c_1, if_neg c_2, if_pos c_3, if_pos c_7, if_neg c_8, o_X0_tend_1_6, if_neg c_1, if_neg c_2, if_pos c_3, if_pos c_7, if_neg c_8])
          · skip
            refine lv_aload_n hx hb dX0_tend_89 rfl (lv_at hl 1 rfl) ?_
            refine gf_X0_123 C dX0_tend_90 hG 1 rfl rfl ?_
            refine lv_iconst (v := 1) hx hb dX0_tend_93 (by decide) ?_
            refine lv_icmp_lt (tgt := 134) hx hb dX0_tend_94 (by decide) (fun c_9 => ?_) (fun c_9 => ?_)
            · skip
              rw [hQ]
              exact z_vret C hr hlk hG dX0_tend_134 rfl (by rw [o_X0_tend_0_2, if_neg c_1, if_neg c_2, if_pos c_3, if_pos c_7, if_pos c_8, if_pos c_9, o_X0_tend_h, if_neg c_1, if_neg c_2, if_pos c_3, if_pos c_7, if_pos c_8, if_pos c_9, o_X0_tend_1_5, if_neg c_1, if_neg c_2, if_pos c_3, if_pos c_7, if_pos c_8, if_pos c_9, o_X0_tend_1_6, if_neg c_1, if_neg c_2, if_pos c_3, if_pos c_7, if_pos c_8, if_pos c_9])
            · skip
              refine lv_aload_n hx hb dX0_tend_97 rfl (lv_at hl 0 rfl) ?_
              refine gf_X0_25 C dX0_tend_98 hG 0 rfl rfl ?_
              refine lv_if_le (tgt := 134) hx hb dX0_tend_101 (by decide) (fun c_10 => ?_) (fun c_10 => ?_)
              · skip
                rw [hQ]
                exact z_vret C hr hlk hG dX0_tend_134 rfl (by rw [o_X0_tend_0_2, if_neg c_1, if_neg c_2, if_pos c_3, if_pos c_7, if_pos c_8, if_neg c_9, if_pos c_10, o_X0_tend_h, if_neg c_1, if_neg c_2, if_pos c_3, if_pos c_7, if_pos c_8, if_neg c_9, if_pos c_10, o_X0_tend_1_5, if_neg c_1, if_neg c_2, if_pos c_3, if_pos c_7, if_pos c_8, if_neg c_9, if_pos c_10, o_X0_tend_1_6, if_neg c_1, if_neg c_2, if_pos c_3, if_pos c_7, if_pos c_8, if_neg c_9, if_pos c_10])
              · skip
                refine lv_aload_n hx hb dX0_tend_104 rfl (lv_at hl 1 rfl) ?_
                refine lv_dup hx hb dX0_tend_105 rfl ?_
                refine gf_X0_123 C dX0_tend_106 hG 1 rfl rfl ?_
                refine lv_iconst (v := 1) hx hb dX0_tend_109 (by decide) ?_
                refine lv_isub hx hb dX0_tend_110 ?_
                refine pf_X0_123 C dX0_tend_111 hG 1 rfl (Nat.le_of_ble_eq_true rfl) (ws' := [(a, .inr (0, [.ref q1, .ref q2, .int w, .int mo])), (q, .inr (1, [.int (h 0), .int (h 1), .int (h 2), .int ((h 3) - 1), .int (h 4), .int 0, .int 0]))]) rfl (fun H locs hG => ?_)
                refine lv_aload_n hx hb dX0_tend_114 rfl (lv_at hl 0 rfl) ?_
                refine lv_dup hx hb dX0_tend_115 rfl ?_
                refine gf_X0_25 C dX0_tend_116 hG 0 rfl rfl ?_
                refine lv_iconst (v := 1) hx hb dX0_tend_119 (by decide) ?_
                refine lv_isub hx hb dX0_tend_120 ?_
                refine pf_X0_25 C dX0_tend_121 hG 0 rfl (Nat.le_of_ble_eq_true rfl) (ws' := [(a, .inr (0, [.ref q1, .ref q2, .int (w - 1), .int mo])), (q, .inr (1, [.int (h 0), .int (h 1), .int (h 2), .int ((h 3) - 1), .int (h 4), .int 0, .int 0]))]) rfl (fun H locs hG => ?_)
                refine lv_aload_n hx hb dX0_tend_124 rfl (lv_at hl 1 rfl) ?_
                refine lv_iconst (v := 1) hx hb dX0_tend_125 (by decide) ?_
                refine pf_X0_107 C dX0_tend_126 hG 1 rfl (Nat.le_of_ble_eq_true rfl) (ws' := [(a, .inr (0, [.ref q1, .ref q2, .int (w - 1), .int mo])), (q, .inr (1, [.int (h 0), .int (h 1), .int (h 2), .int ((h 3) - 1), .int (h 4), .int 1, .int 0]))]) rfl (fun H locs hG => ?_)
                refine lv_aload_n hx hb dX0_tend_129 rfl (lv_at hl 1 rfl) ?_
                refine lv_iconst (v := 1) hx hb dX0_tend_130 (by decide) ?_
                refine pf_X0_110 C dX0_tend_131 hG 1 rfl (Nat.le_of_ble_eq_true rfl) rfl rfl (ws' := [(a, .inr (0, [.ref q1, .ref q2, .int (w - 1), .int mo])), (q, .inr (1, [.int (h 0), .int (h 1), .int (h 2), .int ((h 3) - 1), .int (h 4), .int 1, .int 1]))]) rfl (fun H locs hG => ?_)
                rw [hQ]
                exact z_vret C hr hlk hG dX0_tend_134 rfl (by rw [o_X0_tend_0_2, if_neg c_1, if_neg c_2, if_pos c_3, if_pos c_7, if_pos c_8, if_neg c_9, if_neg c_10, o_X0_tend_h, if_neg c_1, if_neg c_2, if_pos c_3, if_pos c_7, if_pos c_8, if_neg c_9, if_neg c_10, mkG5_0, mkG5_1, mkG5_2, mkG5_3, mkG5_4, o_X0_tend_1_5, if_neg c_1, if_neg c_2, if_pos c_3, if_pos c_7, if_pos c_8, if_neg c_9, if_neg c_10, o_X0_tend_1_6, if_neg c_1, if_neg c_2, if_pos c_3, if_pos c_7, if_pos c_8, if_neg c_9, if_neg c_10])
        · skip
          refine lv_aload_n hx hb dX0_tend_67 rfl (lv_at hl 1 rfl) ?_
          refine lv_dup hx hb dX0_tend_68 rfl ?_
          refine gf_X0_123 C dX0_tend_69 hG 1 rfl rfl ?_
          refine lv_iconst (v := 3) hx hb dX0_tend_72 (by decide) ?_
          refine lv_isub hx hb dX0_tend_73 ?_
          refine pf_X0_123 C dX0_tend_74 hG 1 rfl (Nat.le_of_ble_eq_true rfl) (ws' := [(a, .inr (0, [.ref q1, .ref q2, .int w, .int mo])), (q, .inr (1, [.int (h 0), .int (h 1), .int (h 2), .int ((h 3) - 3), .int (h 4), .int 0, .int 0]))]) rfl (fun H locs hG => ?_)
          refine lv_aload_n hx hb dX0_tend_77 rfl (lv_at hl 1 rfl) ?_
          refine call_X0_126 C dX0_tend_78 (c_X1_takeDung l E (mkG5 (h 0) (h 1) (h 2) ((h 3) - 3) (h 4)) 0 0 q) hl hG 1 rfl [1] (by decide) rfl (ads := [q]) rfl rfl (ws' := [(a, .inr (0, [.ref q1, .ref q2, .int w, .int mo])), (q, .inr (1, [.int (h 0), .int (o_X1_takeDung_0_1 (mkG5 (h 0) (h 1) (h 2) ((h 3) - 3) (h 4))), .int (h 2), .int ((h 3) - 3), .int (h 4), .int (o_X1_takeDung_0_5 (mkG5 (h 0) (h 1) (h 2) ((h 3) - 3) (h 4)) 0), .int 0]))]) rfl rfl (rest := []) rfl (Nat.le_of_ble_eq_true rfl) ⟨Nat.le_of_ble_eq_true rfl, Nat.le_of_ble_eq_true rfl⟩ (fun H locs hG => ?_)
          refine lv_goto (tgt := 134) hx hb dX0_tend_81 (by decide) ?_
          rw [hQ]
          exact z_vret C hr hlk hG dX0_tend_134 rfl (by rw [o_X0_tend_0_2, if_neg c_1, if_neg c_2, if_pos c_3, if_neg c_7, o_X0_tend_h, if_neg c_1, if_neg c_2, if_pos c_3, if_neg c_7, mkG5_0, mkG5_1, mkG5_2, mkG5_3, mkG5_4, o_X0_tend_1_5, if_neg c_1, if_neg c_2, if_pos c_3, if_neg c_7, o_X0_tend_1_6, if_neg c_1, if_neg c_2, if_pos c_3, if_neg c_7])
    · skip
      refine lv_aload_n hx hb dX0_tend_37 rfl (lv_at hl 1 rfl) ?_
      refine lv_iconst (v := 3) hx hb dX0_tend_38 (by decide) ?_
      refine lv_aload_n hx hb dX0_tend_39 rfl (lv_at hl 1 rfl) ?_
      refine gf_X0_70 C dX0_tend_40 hG 1 rfl rfl ?_
      refine lv_iconst (v := 1) hx hb dX0_tend_43 (by decide) ?_
      refine lv_iadd hx hb dX0_tend_44 ?_
      refine z_mmin C (inr19 _ (List.mem_of_getElem? (i := 2) rfl)) dX0_tend_45 hl (Nat.le_of_ble_eq_true rfl) (Nat.le_of_ble_eq_true rfl) ?_
      refine pf_X0_70 C dX0_tend_48 hG 1 rfl (Nat.le_of_ble_eq_true rfl) (ws' := [(a, .inr (0, [.ref q1, .ref q2, .int w, .int mo])), (q, .inr (1, [.int (h 0), .int (h 1), .int (if ((h 2) + 1) < 3 then ((h 2) + 1) else 3), .int (h 3), .int (h 4), .int 0, .int 0]))]) rfl (fun H locs hG => ?_)
      refine lv_goto (tgt := 134) hx hb dX0_tend_51 (by decide) ?_
      rw [hQ]
      exact z_vret C hr hlk hG dX0_tend_134 rfl (by rw [o_X0_tend_0_2, if_neg c_1, if_pos c_2, o_X0_tend_h, if_neg c_1, if_pos c_2, mkG5_0, mkG5_1, mkG5_2, mkG5_3, mkG5_4, o_X0_tend_1_5, if_neg c_1, if_pos c_2, o_X0_tend_1_6, if_neg c_1, if_pos c_2])
  · skip
    refine lv_aload_n hx hb dX0_tend_15 rfl (lv_at hl 1 rfl) ?_
    refine lv_iconst (v := 0) hx hb dX0_tend_16 (by decide) ?_
    refine lv_aload_n hx hb dX0_tend_17 rfl (lv_at hl 1 rfl) ?_
    refine gf_X0_63 C dX0_tend_18 hG 1 rfl rfl ?_
    refine lv_iconst (v := 2) hx hb dX0_tend_21 (by decide) ?_
    refine lv_isub hx hb dX0_tend_22 ?_
    refine z_mmax C (inr19 _ (List.mem_of_getElem? (i := 1) rfl)) dX0_tend_23 hl (Nat.le_of_ble_eq_true rfl) (Nat.le_of_ble_eq_true rfl) ?_
    refine pf_X0_63 C dX0_tend_26 hG 1 rfl (Nat.le_of_ble_eq_true rfl) (ws' := [(a, .inr (0, [.ref q1, .ref q2, .int w, .int mo])), (q, .inr (1, [.int (h 0), .int (if (0 : Int32) < ((h 1) - 2) then ((h 1) - 2) else 0), .int (h 2), .int (h 3), .int (h 4), .int 0, .int 0]))]) rfl (fun H locs hG => ?_)
    refine lv_goto (tgt := 134) hx hb dX0_tend_29 (by decide) ?_
    rw [hQ]
    exact z_vret C hr hlk hG dX0_tend_134 rfl (by rw [o_X0_tend_0_2, if_pos c_1, o_X0_tend_h, if_pos c_1, mkG5_0, mkG5_1, mkG5_2, mkG5_3, mkG5_4, o_X0_tend_1_5, if_pos c_1, o_X0_tend_1_6, if_pos c_1])
def j_X0_turnBy_0_0 (g : Nat → Int32) (sun : Nat → Int32) (dry : Nat → Int32) (len : Int32) (need : Int32) (da : Int32) (db : Int32) (dr : Int32) : Int32 := (if (o_X0_isShaded_0_r (mkG5 (o_X0_tend_h (g 10) (g 11) g da 0) (o_X1_grow_0_1 (o_X0_tend_h (g 10) (g 11) g da) (g 11) dr (o_X0_tend_1_5 (g 10) (g 11) g da) (o_X0_tend_1_6 (g 10) (g 11) g da)) (o_X0_tend_h (g 10) (g 11) g da 2) (o_X0_tend_h (g 10) (g 11) g da 3) (o_X0_tend_h (g 10) (g 11) g da 4)) (mkG5 (o_X0_tend_h (o_X0_tend_0_2 (g 10) (g 11) g da) (g 11) (fun k => g (k + 5)) db 0) (o_X1_grow_0_1 (o_X0_tend_h (o_X0_tend_0_2 (g 10) (g 11) g da) (g 11) (fun k => g (k + 5)) db) (g 11) dr (o_X0_tend_1_5 (o_X0_tend_0_2 (g 10) (g 11) g da) (g 11) (fun k => g (k + 5)) db) (o_X0_tend_1_6 (o_X0_tend_0_2 (g 10) (g 11) g da) (g 11) (fun k => g (k + 5)) db)) (o_X0_tend_h (o_X0_tend_0_2 (g 10) (g 11) g da) (g 11) (fun k => g (k + 5)) db 2) (o_X0_tend_h (o_X0_tend_0_2 (g 10) (g 11) g da) (g 11) (fun k => g (k + 5)) db 3) (o_X0_tend_h (o_X0_tend_0_2 (g 10) (g 11) g da) (g 11) (fun k => g (k + 5)) db 4)) (o_X0_tend_0_2 (o_X0_tend_0_2 (g 10) (g 11) g da) (g 11) (fun k => g (k + 5)) db) (g 11) (o_X6_sunIn_r sun dry len need (g 11)) len) = 0 then 0 else ((o_X0_tend_h (g 10) (g 11) g da 4) + 1))
def j_X0_turnBy_1_0 (g : Nat → Int32) (sun : Nat → Int32) (dry : Nat → Int32) (len : Int32) (need : Int32) (da : Int32) (db : Int32) (dr : Int32) : Int32 := (if (o_X0_isShaded_1_r (mkG5 (o_X0_tend_h (g 10) (g 11) g da 0) (o_X1_grow_0_1 (o_X0_tend_h (g 10) (g 11) g da) (g 11) dr (o_X0_tend_1_5 (g 10) (g 11) g da) (o_X0_tend_1_6 (g 10) (g 11) g da)) (o_X0_tend_h (g 10) (g 11) g da 2) (o_X0_tend_h (g 10) (g 11) g da 3) (j_X0_turnBy_0_0 g sun dry len need da db dr)) (mkG5 (o_X0_tend_h (o_X0_tend_0_2 (g 10) (g 11) g da) (g 11) (fun k => g (k + 5)) db 0) (o_X1_grow_0_1 (o_X0_tend_h (o_X0_tend_0_2 (g 10) (g 11) g da) (g 11) (fun k => g (k + 5)) db) (g 11) dr (o_X0_tend_1_5 (o_X0_tend_0_2 (g 10) (g 11) g da) (g 11) (fun k => g (k + 5)) db) (o_X0_tend_1_6 (o_X0_tend_0_2 (g 10) (g 11) g da) (g 11) (fun k => g (k + 5)) db)) (o_X0_tend_h (o_X0_tend_0_2 (g 10) (g 11) g da) (g 11) (fun k => g (k + 5)) db 2) (o_X0_tend_h (o_X0_tend_0_2 (g 10) (g 11) g da) (g 11) (fun k => g (k + 5)) db 3) (o_X0_tend_h (o_X0_tend_0_2 (g 10) (g 11) g da) (g 11) (fun k => g (k + 5)) db 4)) (o_X0_tend_0_2 (o_X0_tend_0_2 (g 10) (g 11) g da) (g 11) (fun k => g (k + 5)) db) (g 11) (o_X6_sunIn_r sun dry len need (g 11)) len) = 0 then 0 else ((o_X0_tend_h (o_X0_tend_0_2 (g 10) (g 11) g da) (g 11) (fun k => g (k + 5)) db 4) + 1))
def o_X0_turnBy_g (g : Nat → Int32) (sun : Nat → Int32) (dry : Nat → Int32) (len : Int32) (need : Int32) (da : Int32) (db : Int32) (dr : Int32) : Nat → Int32 := (if (o_X0_loser_r g sun dry len need) = (-4) then (mkG16 (o_X0_tend_h (g 10) (g 11) g da 0) (o_X1_grow_0_1 (o_X0_tend_h (g 10) (g 11) g da) (g 11) dr (o_X0_tend_1_5 (g 10) (g 11) g da) (o_X0_tend_1_6 (g 10) (g 11) g da)) (o_X0_tend_h (g 10) (g 11) g da 2) (o_X0_tend_h (g 10) (g 11) g da 3) (j_X0_turnBy_0_0 g sun dry len need da db dr) (o_X0_tend_h (o_X0_tend_0_2 (g 10) (g 11) g da) (g 11) (fun k => g (k + 5)) db 0) (o_X1_grow_0_1 (o_X0_tend_h (o_X0_tend_0_2 (g 10) (g 11) g da) (g 11) (fun k => g (k + 5)) db) (g 11) dr (o_X0_tend_1_5 (o_X0_tend_0_2 (g 10) (g 11) g da) (g 11) (fun k => g (k + 5)) db) (o_X0_tend_1_6 (o_X0_tend_0_2 (g 10) (g 11) g da) (g 11) (fun k => g (k + 5)) db)) (o_X0_tend_h (o_X0_tend_0_2 (g 10) (g 11) g da) (g 11) (fun k => g (k + 5)) db 2) (o_X0_tend_h (o_X0_tend_0_2 (g 10) (g 11) g da) (g 11) (fun k => g (k + 5)) db 3) (j_X0_turnBy_1_0 g sun dry len need da db dr) (o_X0_tend_0_2 (o_X0_tend_0_2 (g 10) (g 11) g da) (g 11) (fun k => g (k + 5)) db) ((g 11) + 1) (o_X0_tend_1_5 (g 10) (g 11) g da) (o_X0_tend_1_6 (g 10) (g 11) g da) (o_X0_tend_1_5 (o_X0_tend_0_2 (g 10) (g 11) g da) (g 11) (fun k => g (k + 5)) db) (o_X0_tend_1_6 (o_X0_tend_0_2 (g 10) (g 11) g da) (g 11) (fun k => g (k + 5)) db)) else g)
set_option maxRecDepth 100000 in
set_option maxHeartbeats 4000000 in
theorem c_X0_turnBy (l : Launch) (E : zE) (g : Nat → Int32) (sun : Nat → Int32) (dry : Nat → Int32) (len : Int32) (need : Int32) (da : Int32) (db : Int32) (dr : Int32) (a q1 q2 qS qs qd : Nat) : HM l E yX0_turnBy cX0_turnBy 6 none 3 56 [.ref a, .ref qS, .int da, .int db, .int dr] [(a, .inr (0, [.ref q1, .ref q2, .int (g 10), .int (g 11)])), (q1, .inr (1, [.int (g 0), .int (g 1), .int (g 2), .int (g 3), .int (g 4), .int (g 12), .int (g 13)])), (q2, .inr (1, [.int (g 5), .int (g 6), .int (g 7), .int (g 8), .int (g 9), .int (g 14), .int (g 15)])), (qS, .inr (6, [.ref qs, .ref qd, .int len, .int need])), (qs, .inl (E.2.1.1, 12, .inl sun)), (qd, .inl (E.2.1.1, 12, .inl dry))] none [(a, .inr (0, [.ref q1, .ref q2, .int (o_X0_turnBy_g g sun dry len need da db dr 10), .int (o_X0_turnBy_g g sun dry len need da db dr 11)])), (q1, .inr (1, [.int (o_X0_turnBy_g g sun dry len need da db dr 0), .int (o_X0_turnBy_g g sun dry len need da db dr 1), .int (o_X0_turnBy_g g sun dry len need da db dr 2), .int (o_X0_turnBy_g g sun dry len need da db dr 3), .int (o_X0_turnBy_g g sun dry len need da db dr 4), .int (o_X0_turnBy_g g sun dry len need da db dr 12), .int (o_X0_turnBy_g g sun dry len need da db dr 13)])), (q2, .inr (1, [.int (o_X0_turnBy_g g sun dry len need da db dr 5), .int (o_X0_turnBy_g g sun dry len need da db dr 6), .int (o_X0_turnBy_g g sun dry len need da db dr 7), .int (o_X0_turnBy_g g sun dry len need da db dr 8), .int (o_X0_turnBy_g g sun dry len need da db dr 9), .int (o_X0_turnBy_g g sun dry len need da db dr 14), .int (o_X0_turnBy_g g sun dry len need da db dr 15)])), (qS, .inr (6, [.ref qs, .ref qd, .int len, .int need])), (qs, .inl (E.2.1.1, 12, .inl sun)), (qd, .inl (E.2.1.1, 12, .inl dry))] := by
  refine HM.of (own := RX0) (plainFor_of_name (by decide)) rfl (Nat.le_of_ble_eq_true rfl) ?_
  intro zp ze zs zm za zb zt zc zA ls H locs zq C hr hlk hG hl hQ
  have hx := C.1.1
  have hb := C.1.2.1
  replace hl : lv_has ls 6 [(0, .ref a), (1, .ref qS), (2, .int da), (3, .int db), (4, .int dr)] := hl
  refine lv_aload_n hx hb dX0_turnBy_0 rfl (lv_at hl 0 rfl) ?_
  refine lv_aload_n hx hb dX0_turnBy_1 rfl (lv_at hl 1 rfl) ?_
  refine call_X0_85 C dX0_turnBy_2 (c_X0_loser l E g sun dry len need a q1 q2 qS qs qd) hl hG 0 rfl [0, 1, 2, 3, 4, 5] (by decide) rfl (ads := [a, q1, q2, qS, qs, qd]) rfl rfl (ws' := [(a, .inr (0, [.ref q1, .ref q2, .int (g 10), .int (g 11)])), (q1, .inr (1, [.int (g 0), .int (g 1), .int (g 2), .int (g 3), .int (g 4), .int (g 12), .int (g 13)])), (q2, .inr (1, [.int (g 5), .int (g 6), .int (g 7), .int (g 8), .int (g 9), .int (g 14), .int (g 15)])), (qS, .inr (6, [.ref qs, .ref qd, .int len, .int need])), (qs, .inl (E.2.1.1, 12, .inl sun)), (qd, .inl (E.2.1.1, 12, .inl dry))]) rfl rfl (rest := []) rfl (Nat.le_of_ble_eq_true rfl) ⟨Nat.le_of_ble_eq_true rfl, Nat.le_of_ble_eq_true rfl⟩ (fun H locs hG => ?_)
  refine lv_bipush (v := (-4)) hx hb dX0_turnBy_5 (by decide) ?_
  refine lv_icmp_eq (tgt := 11) hx hb dX0_turnBy_7 (by decide) (fun c_1 => ?_) (fun c_1 => ?_)
  · skip
    refine lv_aload_n hx hb dX0_turnBy_11 rfl (lv_at hl 0 rfl) ?_
    refine lv_aload_n hx hb dX0_turnBy_12 rfl (lv_at hl 0 rfl) ?_
    refine gf_X0_12 C dX0_turnBy_13 hG 0 rfl rfl ?_
    refine lv_iload_n hx hb dX0_turnBy_16 rfl (lv_at hl 2 rfl) ?_
    refine call_X0_89 C dX0_turnBy_17 (c_X0_tend l E (g 10) (g 11) g da (g 12) (g 13) a q1 q2 q1) hl hG 0 rfl [0, 1] (by decide) rfl (ads := [a, q1]) rfl rfl (ws' := [(a, .inr (0, [.ref q1, .ref q2, .int (o_X0_tend_0_2 (g 10) (g 11) g da), .int (g 11)])), (q1, .inr (1, [.int (o_X0_tend_h (g 10) (g 11) g da 0), .int (o_X0_tend_h (g 10) (g 11) g da 1), .int (o_X0_tend_h (g 10) (g 11) g da 2), .int (o_X0_tend_h (g 10) (g 11) g da 3), .int (o_X0_tend_h (g 10) (g 11) g da 4), .int (o_X0_tend_1_5 (g 10) (g 11) g da), .int (o_X0_tend_1_6 (g 10) (g 11) g da)])), (q2, .inr (1, [.int (g 5), .int (g 6), .int (g 7), .int (g 8), .int (g 9), .int (g 14), .int (g 15)])), (qS, .inr (6, [.ref qs, .ref qd, .int len, .int need])), (qs, .inl (E.2.1.1, 12, .inl sun)), (qd, .inl (E.2.1.1, 12, .inl dry))]) rfl rfl (rest := []) rfl (Nat.le_of_ble_eq_true rfl) ⟨Nat.le_of_ble_eq_true rfl, Nat.le_of_ble_eq_true rfl⟩ (fun H locs hG => ?_)
    refine lv_aload_n hx hb dX0_turnBy_20 rfl (lv_at hl 0 rfl) ?_
    refine lv_aload_n hx hb dX0_turnBy_21 rfl (lv_at hl 0 rfl) ?_
    refine gf_X0_18 C dX0_turnBy_22 hG 0 rfl rfl ?_
    refine lv_iload_n hx hb dX0_turnBy_25 rfl (lv_at hl 3 rfl) ?_
    refine call_X0_89 C dX0_turnBy_26 (c_X0_tend l E (o_X0_tend_0_2 (g 10) (g 11) g da) (g 11) (fun k => g (k + 5)) db (g 14) (g 15) a q1 q2 q2) hl hG 0 rfl [0, 2] (by decide) rfl (ads := [a, q2]) rfl rfl (ws' := [(a, .inr (0, [.ref q1, .ref q2, .int (o_X0_tend_0_2 (o_X0_tend_0_2 (g 10) (g 11) g da) (g 11) (fun k => g (k + 5)) db), .int (g 11)])), (q1, .inr (1, [.int (o_X0_tend_h (g 10) (g 11) g da 0), .int (o_X0_tend_h (g 10) (g 11) g da 1), .int (o_X0_tend_h (g 10) (g 11) g da 2), .int (o_X0_tend_h (g 10) (g 11) g da 3), .int (o_X0_tend_h (g 10) (g 11) g da 4), .int (o_X0_tend_1_5 (g 10) (g 11) g da), .int (o_X0_tend_1_6 (g 10) (g 11) g da)])), (q2, .inr (1, [.int (o_X0_tend_h (o_X0_tend_0_2 (g 10) (g 11) g da) (g 11) (fun k => g (k + 5)) db 0), .int (o_X0_tend_h (o_X0_tend_0_2 (g 10) (g 11) g da) (g 11) (fun k => g (k + 5)) db 1), .int (o_X0_tend_h (o_X0_tend_0_2 (g 10) (g 11) g da) (g 11) (fun k => g (k + 5)) db 2), .int (o_X0_tend_h (o_X0_tend_0_2 (g 10) (g 11) g da) (g 11) (fun k => g (k + 5)) db 3), .int (o_X0_tend_h (o_X0_tend_0_2 (g 10) (g 11) g da) (g 11) (fun k => g (k + 5)) db 4), .int (o_X0_tend_1_5 (o_X0_tend_0_2 (g 10) (g 11) g da) (g 11) (fun k => g (k + 5)) db), .int (o_X0_tend_1_6 (o_X0_tend_0_2 (g 10) (g 11) g da) (g 11) (fun k => g (k + 5)) db)])), (qS, .inr (6, [.ref qs, .ref qd, .int len, .int need])), (qs, .inl (E.2.1.1, 12, .inl sun)), (qd, .inl (E.2.1.1, 12, .inl dry))]) rfl rfl (rest := []) rfl (Nat.le_of_ble_eq_true rfl) ⟨Nat.le_of_ble_eq_true rfl, Nat.le_of_ble_eq_true rfl⟩ (fun H locs hG => ?_)
    refine lv_aload_n hx hb dX0_turnBy_29 rfl (lv_at hl 0 rfl) ?_
    refine gf_X0_12 C dX0_turnBy_30 hG 0 rfl rfl ?_
    refine lv_aload_n hx hb dX0_turnBy_33 rfl (lv_at hl 0 rfl) ?_
    refine gf_X0_29 C dX0_turnBy_34 hG 0 rfl rfl ?_
    refine lv_iload hx hb dX0_turnBy_37 (lv_at hl 4 rfl) ?_
    refine call_X0_93 C dX0_turnBy_39 (c_X1_grow l E (o_X0_tend_h (g 10) (g 11) g da) (g 11) dr (o_X0_tend_1_5 (g 10) (g 11) g da) (o_X0_tend_1_6 (g 10) (g 11) g da) q1) hl hG 1 rfl [1] (by decide) rfl (ads := [q1]) rfl rfl (ws' := [(a, .inr (0, [.ref q1, .ref q2, .int (o_X0_tend_0_2 (o_X0_tend_0_2 (g 10) (g 11) g da) (g 11) (fun k => g (k + 5)) db), .int (g 11)])), (q1, .inr (1, [.int (o_X0_tend_h (g 10) (g 11) g da 0), .int (o_X1_grow_0_1 (o_X0_tend_h (g 10) (g 11) g da) (g 11) dr (o_X0_tend_1_5 (g 10) (g 11) g da) (o_X0_tend_1_6 (g 10) (g 11) g da)), .int (o_X0_tend_h (g 10) (g 11) g da 2), .int (o_X0_tend_h (g 10) (g 11) g da 3), .int (o_X0_tend_h (g 10) (g 11) g da 4), .int (o_X0_tend_1_5 (g 10) (g 11) g da), .int (o_X0_tend_1_6 (g 10) (g 11) g da)])), (q2, .inr (1, [.int (o_X0_tend_h (o_X0_tend_0_2 (g 10) (g 11) g da) (g 11) (fun k => g (k + 5)) db 0), .int (o_X0_tend_h (o_X0_tend_0_2 (g 10) (g 11) g da) (g 11) (fun k => g (k + 5)) db 1), .int (o_X0_tend_h (o_X0_tend_0_2 (g 10) (g 11) g da) (g 11) (fun k => g (k + 5)) db 2), .int (o_X0_tend_h (o_X0_tend_0_2 (g 10) (g 11) g da) (g 11) (fun k => g (k + 5)) db 3), .int (o_X0_tend_h (o_X0_tend_0_2 (g 10) (g 11) g da) (g 11) (fun k => g (k + 5)) db 4), .int (o_X0_tend_1_5 (o_X0_tend_0_2 (g 10) (g 11) g da) (g 11) (fun k => g (k + 5)) db), .int (o_X0_tend_1_6 (o_X0_tend_0_2 (g 10) (g 11) g da) (g 11) (fun k => g (k + 5)) db)])), (qS, .inr (6, [.ref qs, .ref qd, .int len, .int need])), (qs, .inl (E.2.1.1, 12, .inl sun)), (qd, .inl (E.2.1.1, 12, .inl dry))]) rfl rfl (rest := []) rfl (Nat.le_of_ble_eq_true rfl) ⟨Nat.le_of_ble_eq_true rfl, Nat.le_of_ble_eq_true rfl⟩ (fun H locs hG => ?_)
    refine lv_aload_n hx hb dX0_turnBy_42 rfl (lv_at hl 0 rfl) ?_
    refine gf_X0_18 C dX0_turnBy_43 hG 0 rfl rfl ?_
    refine lv_aload_n hx hb dX0_turnBy_46 rfl (lv_at hl 0 rfl) ?_
    refine gf_X0_29 C dX0_turnBy_47 hG 0 rfl rfl ?_
    refine lv_iload hx hb dX0_turnBy_50 (lv_at hl 4 rfl) ?_
    refine call_X0_93 C dX0_turnBy_52 (c_X1_grow l E (o_X0_tend_h (o_X0_tend_0_2 (g 10) (g 11) g da) (g 11) (fun k => g (k + 5)) db) (g 11) dr (o_X0_tend_1_5 (o_X0_tend_0_2 (g 10) (g 11) g da) (g 11) (fun k => g (k + 5)) db) (o_X0_tend_1_6 (o_X0_tend_0_2 (g 10) (g 11) g da) (g 11) (fun k => g (k + 5)) db) q2) hl hG 2 rfl [2] (by decide) rfl (ads := [q2]) rfl rfl (ws' := [(a, .inr (0, [.ref q1, .ref q2, .int (o_X0_tend_0_2 (o_X0_tend_0_2 (g 10) (g 11) g da) (g 11) (fun k => g (k + 5)) db), .int (g 11)])), (q1, .inr (1, [.int (o_X0_tend_h (g 10) (g 11) g da 0), .int (o_X1_grow_0_1 (o_X0_tend_h (g 10) (g 11) g da) (g 11) dr (o_X0_tend_1_5 (g 10) (g 11) g da) (o_X0_tend_1_6 (g 10) (g 11) g da)), .int (o_X0_tend_h (g 10) (g 11) g da 2), .int (o_X0_tend_h (g 10) (g 11) g da 3), .int (o_X0_tend_h (g 10) (g 11) g da 4), .int (o_X0_tend_1_5 (g 10) (g 11) g da), .int (o_X0_tend_1_6 (g 10) (g 11) g da)])), (q2, .inr (1, [.int (o_X0_tend_h (o_X0_tend_0_2 (g 10) (g 11) g da) (g 11) (fun k => g (k + 5)) db 0), .int (o_X1_grow_0_1 (o_X0_tend_h (o_X0_tend_0_2 (g 10) (g 11) g da) (g 11) (fun k => g (k + 5)) db) (g 11) dr (o_X0_tend_1_5 (o_X0_tend_0_2 (g 10) (g 11) g da) (g 11) (fun k => g (k + 5)) db) (o_X0_tend_1_6 (o_X0_tend_0_2 (g 10) (g 11) g da) (g 11) (fun k => g (k + 5)) db)), .int (o_X0_tend_h (o_X0_tend_0_2 (g 10) (g 11) g da) (g 11) (fun k => g (k + 5)) db 2), .int (o_X0_tend_h (o_X0_tend_0_2 (g 10) (g 11) g da) (g 11) (fun k => g (k + 5)) db 3), .int (o_X0_tend_h (o_X0_tend_0_2 (g 10) (g 11) g da) (g 11) (fun k => g (k + 5)) db 4), .int (o_X0_tend_1_5 (o_X0_tend_0_2 (g 10) (g 11) g da) (g 11) (fun k => g (k + 5)) db), .int (o_X0_tend_1_6 (o_X0_tend_0_2 (g 10) (g 11) g da) (g 11) (fun k => g (k + 5)) db)])), (qS, .inr (6, [.ref qs, .ref qd, .int len, .int need])), (qs, .inl (E.2.1.1, 12, .inl sun)), (qd, .inl (E.2.1.1, 12, .inl dry))]) rfl rfl (rest := []) rfl (Nat.le_of_ble_eq_true rfl) ⟨Nat.le_of_ble_eq_true rfl, Nat.le_of_ble_eq_true rfl⟩ (fun H locs hG => ?_)
    refine lv_aload_n hx hb dX0_turnBy_55 rfl (lv_at hl 1 rfl) ?_
    refine lv_aload_n hx hb dX0_turnBy_56 rfl (lv_at hl 0 rfl) ?_
    refine gf_X0_29 C dX0_turnBy_57 hG 0 rfl rfl ?_
    refine call_X0_97 C dX0_turnBy_60 (c_X6_sunIn l E sun dry len need (g 11) qS qs qd) hl hG 3 rfl [3, 4, 5] (by decide) rfl (ads := [qS, qs, qd]) rfl rfl (ws' := [(a, .inr (0, [.ref q1, .ref q2, .int (o_X0_tend_0_2 (o_X0_tend_0_2 (g 10) (g 11) g da) (g 11) (fun k => g (k + 5)) db), .int (g 11)])), (q1, .inr (1, [.int (o_X0_tend_h (g 10) (g 11) g da 0), .int (o_X1_grow_0_1 (o_X0_tend_h (g 10) (g 11) g da) (g 11) dr (o_X0_tend_1_5 (g 10) (g 11) g da) (o_X0_tend_1_6 (g 10) (g 11) g da)), .int (o_X0_tend_h (g 10) (g 11) g da 2), .int (o_X0_tend_h (g 10) (g 11) g da 3), .int (o_X0_tend_h (g 10) (g 11) g da 4), .int (o_X0_tend_1_5 (g 10) (g 11) g da), .int (o_X0_tend_1_6 (g 10) (g 11) g da)])), (q2, .inr (1, [.int (o_X0_tend_h (o_X0_tend_0_2 (g 10) (g 11) g da) (g 11) (fun k => g (k + 5)) db 0), .int (o_X1_grow_0_1 (o_X0_tend_h (o_X0_tend_0_2 (g 10) (g 11) g da) (g 11) (fun k => g (k + 5)) db) (g 11) dr (o_X0_tend_1_5 (o_X0_tend_0_2 (g 10) (g 11) g da) (g 11) (fun k => g (k + 5)) db) (o_X0_tend_1_6 (o_X0_tend_0_2 (g 10) (g 11) g da) (g 11) (fun k => g (k + 5)) db)), .int (o_X0_tend_h (o_X0_tend_0_2 (g 10) (g 11) g da) (g 11) (fun k => g (k + 5)) db 2), .int (o_X0_tend_h (o_X0_tend_0_2 (g 10) (g 11) g da) (g 11) (fun k => g (k + 5)) db 3), .int (o_X0_tend_h (o_X0_tend_0_2 (g 10) (g 11) g da) (g 11) (fun k => g (k + 5)) db 4), .int (o_X0_tend_1_5 (o_X0_tend_0_2 (g 10) (g 11) g da) (g 11) (fun k => g (k + 5)) db), .int (o_X0_tend_1_6 (o_X0_tend_0_2 (g 10) (g 11) g da) (g 11) (fun k => g (k + 5)) db)])), (qS, .inr (6, [.ref qs, .ref qd, .int len, .int need])), (qs, .inl (E.2.1.1, 12, .inl sun)), (qd, .inl (E.2.1.1, 12, .inl dry))]) rfl rfl (rest := []) rfl (Nat.le_of_ble_eq_true rfl) ⟨Nat.le_of_ble_eq_true rfl, Nat.le_of_ble_eq_true rfl⟩ (fun H locs hG => ?_)
    refine lv_istore (lv' := [(5, .int (o_X6_sunIn_r sun dry len need (g 11))), (0, .ref a), (1, .ref qS), (2, .int da), (3, .int db), (4, .int dr)]) hx hb dX0_turnBy_63 hl (by decide) rfl (fun ls hl => ?_)
    refine lv_aload_n hx hb dX0_turnBy_65 rfl (lv_at hl 1 rfl) ?_
    refine gf_X0_12 C dX0_turnBy_66 hG 0 rfl rfl ?_
    refine lv_aload_n hx hb dX0_turnBy_69 rfl (lv_at hl 1 rfl) ?_
    refine lv_iconst (v := 0) hx hb dX0_turnBy_70 (by decide) ?_
    refine lv_iload hx hb dX0_turnBy_71 (lv_at hl 0 rfl) ?_
    refine lv_aload_n hx hb dX0_turnBy_73 rfl (lv_at hl 2 rfl) ?_
    refine gf_X0_100 C dX0_turnBy_74 hG 3 rfl rfl ?_
    refine call_X0_103 C dX0_turnBy_77 (c_X0_isShaded_0 l E (mkG5 (o_X0_tend_h (g 10) (g 11) g da 0) (o_X1_grow_0_1 (o_X0_tend_h (g 10) (g 11) g da) (g 11) dr (o_X0_tend_1_5 (g 10) (g 11) g da) (o_X0_tend_1_6 (g 10) (g 11) g da)) (o_X0_tend_h (g 10) (g 11) g da 2) (o_X0_tend_h (g 10) (g 11) g da 3) (o_X0_tend_h (g 10) (g 11) g da 4)) (mkG5 (o_X0_tend_h (o_X0_tend_0_2 (g 10) (g 11) g da) (g 11) (fun k => g (k + 5)) db 0) (o_X1_grow_0_1 (o_X0_tend_h (o_X0_tend_0_2 (g 10) (g 11) g da) (g 11) (fun k => g (k + 5)) db) (g 11) dr (o_X0_tend_1_5 (o_X0_tend_0_2 (g 10) (g 11) g da) (g 11) (fun k => g (k + 5)) db) (o_X0_tend_1_6 (o_X0_tend_0_2 (g 10) (g 11) g da) (g 11) (fun k => g (k + 5)) db)) (o_X0_tend_h (o_X0_tend_0_2 (g 10) (g 11) g da) (g 11) (fun k => g (k + 5)) db 2) (o_X0_tend_h (o_X0_tend_0_2 (g 10) (g 11) g da) (g 11) (fun k => g (k + 5)) db 3) (o_X0_tend_h (o_X0_tend_0_2 (g 10) (g 11) g da) (g 11) (fun k => g (k + 5)) db 4)) (o_X0_tend_0_2 (o_X0_tend_0_2 (g 10) (g 11) g da) (g 11) (fun k => g (k + 5)) db) (g 11) (o_X6_sunIn_r sun dry len need (g 11)) len (o_X0_tend_1_5 (g 10) (g 11) g da) (o_X0_tend_1_6 (g 10) (g 11) g da) (o_X0_tend_1_5 (o_X0_tend_0_2 (g 10) (g 11) g da) (g 11) (fun k => g (k + 5)) db) (o_X0_tend_1_6 (o_X0_tend_0_2 (g 10) (g 11) g da) (g 11) (fun k => g (k + 5)) db) a q1 q2) hl hG 0 rfl [0, 1, 2] (by decide) rfl (ads := [a, q1, q2]) rfl rfl (ws' := [(a, .inr (0, [.ref q1, .ref q2, .int (o_X0_tend_0_2 (o_X0_tend_0_2 (g 10) (g 11) g da) (g 11) (fun k => g (k + 5)) db), .int (g 11)])), (q1, .inr (1, [.int (o_X0_tend_h (g 10) (g 11) g da 0), .int (o_X1_grow_0_1 (o_X0_tend_h (g 10) (g 11) g da) (g 11) dr (o_X0_tend_1_5 (g 10) (g 11) g da) (o_X0_tend_1_6 (g 10) (g 11) g da)), .int (o_X0_tend_h (g 10) (g 11) g da 2), .int (o_X0_tend_h (g 10) (g 11) g da 3), .int (o_X0_tend_h (g 10) (g 11) g da 4), .int (o_X0_tend_1_5 (g 10) (g 11) g da), .int (o_X0_tend_1_6 (g 10) (g 11) g da)])), (q2, .inr (1, [.int (o_X0_tend_h (o_X0_tend_0_2 (g 10) (g 11) g da) (g 11) (fun k => g (k + 5)) db 0), .int (o_X1_grow_0_1 (o_X0_tend_h (o_X0_tend_0_2 (g 10) (g 11) g da) (g 11) (fun k => g (k + 5)) db) (g 11) dr (o_X0_tend_1_5 (o_X0_tend_0_2 (g 10) (g 11) g da) (g 11) (fun k => g (k + 5)) db) (o_X0_tend_1_6 (o_X0_tend_0_2 (g 10) (g 11) g da) (g 11) (fun k => g (k + 5)) db)), .int (o_X0_tend_h (o_X0_tend_0_2 (g 10) (g 11) g da) (g 11) (fun k => g (k + 5)) db 2), .int (o_X0_tend_h (o_X0_tend_0_2 (g 10) (g 11) g da) (g 11) (fun k => g (k + 5)) db 3), .int (o_X0_tend_h (o_X0_tend_0_2 (g 10) (g 11) g da) (g 11) (fun k => g (k + 5)) db 4), .int (o_X0_tend_1_5 (o_X0_tend_0_2 (g 10) (g 11) g da) (g 11) (fun k => g (k + 5)) db), .int (o_X0_tend_1_6 (o_X0_tend_0_2 (g 10) (g 11) g da) (g 11) (fun k => g (k + 5)) db)])), (qS, .inr (6, [.ref qs, .ref qd, .int len, .int need])), (qs, .inl (E.2.1.1, 12, .inl sun)), (qd, .inl (E.2.1.1, 12, .inl dry))]) rfl rfl (rest := [.ref q1]) rfl (Nat.le_of_ble_eq_true rfl) ⟨Nat.le_of_ble_eq_true rfl, Nat.le_of_ble_eq_true rfl⟩ (fun H locs hG => ?_)
    have k_0 : ∀ (y0_0 : Int32) (H : Heap) (locs : List Loc) (ls : Array Slot), (j_X0_turnBy_0_0 g sun dry len need da db dr) = y0_0 → zG E zA zs.heap [(a, .inr (0, [.ref q1, .ref q2, .int (o_X0_tend_0_2 (o_X0_tend_0_2 (g 10) (g 11) g da) (g 11) (fun k => g (k + 5)) db), .int (g 11)])), (q1, .inr (1, [.int (o_X0_tend_h (g 10) (g 11) g da 0), .int (o_X1_grow_0_1 (o_X0_tend_h (g 10) (g 11) g da) (g 11) dr (o_X0_tend_1_5 (g 10) (g 11) g da) (o_X0_tend_1_6 (g 10) (g 11) g da)), .int (o_X0_tend_h (g 10) (g 11) g da 2), .int (o_X0_tend_h (g 10) (g 11) g da 3), .int (o_X0_tend_h (g 10) (g 11) g da 4), .int (o_X0_tend_1_5 (g 10) (g 11) g da), .int (o_X0_tend_1_6 (g 10) (g 11) g da)])), (q2, .inr (1, [.int (o_X0_tend_h (o_X0_tend_0_2 (g 10) (g 11) g da) (g 11) (fun k => g (k + 5)) db 0), .int (o_X1_grow_0_1 (o_X0_tend_h (o_X0_tend_0_2 (g 10) (g 11) g da) (g 11) (fun k => g (k + 5)) db) (g 11) dr (o_X0_tend_1_5 (o_X0_tend_0_2 (g 10) (g 11) g da) (g 11) (fun k => g (k + 5)) db) (o_X0_tend_1_6 (o_X0_tend_0_2 (g 10) (g 11) g da) (g 11) (fun k => g (k + 5)) db)), .int (o_X0_tend_h (o_X0_tend_0_2 (g 10) (g 11) g da) (g 11) (fun k => g (k + 5)) db 2), .int (o_X0_tend_h (o_X0_tend_0_2 (g 10) (g 11) g da) (g 11) (fun k => g (k + 5)) db 3), .int (o_X0_tend_h (o_X0_tend_0_2 (g 10) (g 11) g da) (g 11) (fun k => g (k + 5)) db 4), .int (o_X0_tend_1_5 (o_X0_tend_0_2 (g 10) (g 11) g da) (g 11) (fun k => g (k + 5)) db), .int (o_X0_tend_1_6 (o_X0_tend_0_2 (g 10) (g 11) g da) (g 11) (fun k => g (k + 5)) db)])), (qS, .inr (6, [.ref qs, .ref qd, .int len, .int need])), (qs, .inl (E.2.1.1, 12, .inl sun)), (qd, .inl (E.2.1.1, 12, .inl dry))] H locs → lv_has ls 6 [(5, .int (o_X6_sunIn_r sun dry len need (g 11))), (0, .ref a), (1, .ref qS), (2, .int da), (3, .int db), (4, .int dr)] → W zp l ze (zR 3 56) zs zm za zb zt zc H locs 0 0 zq (F0 zm 96 ls [.int y0_0, .ref q1]) := by
      intro y0_0 H locs ls e_y0_0 hG hl
      subst e_y0_0
      refine pf_X0_51 C dX0_turnBy_96 hG 1 rfl (Nat.le_of_ble_eq_true rfl) (ws' := [(a, .inr (0, [.ref q1, .ref q2, .int (o_X0_tend_0_2 (o_X0_tend_0_2 (g 10) (g 11) g da) (g 11) (fun k => g (k + 5)) db), .int (g 11)])), (q1, .inr (1, [.int (o_X0_tend_h (g 10) (g 11) g da 0), .int (o_X1_grow_0_1 (o_X0_tend_h (g 10) (g 11) g da) (g 11) dr (o_X0_tend_1_5 (g 10) (g 11) g da) (o_X0_tend_1_6 (g 10) (g 11) g da)), .int (o_X0_tend_h (g 10) (g 11) g da 2), .int (o_X0_tend_h (g 10) (g 11) g da 3), .int (j_X0_turnBy_0_0 g sun dry len need da db dr), .int (o_X0_tend_1_5 (g 10) (g 11) g da), .int (o_X0_tend_1_6 (g 10) (g 11) g da)])), (q2, .inr (1, [.int (o_X0_tend_h (o_X0_tend_0_2 (g 10) (g 11) g da) (g 11) (fun k => g (k + 5)) db 0), .int (o_X1_grow_0_1 (o_X0_tend_h (o_X0_tend_0_2 (g 10) (g 11) g da) (g 11) (fun k => g (k + 5)) db) (g 11) dr (o_X0_tend_1_5 (o_X0_tend_0_2 (g 10) (g 11) g da) (g 11) (fun k => g (k + 5)) db) (o_X0_tend_1_6 (o_X0_tend_0_2 (g 10) (g 11) g da) (g 11) (fun k => g (k + 5)) db)), .int (o_X0_tend_h (o_X0_tend_0_2 (g 10) (g 11) g da) (g 11) (fun k => g (k + 5)) db 2), .int (o_X0_tend_h (o_X0_tend_0_2 (g 10) (g 11) g da) (g 11) (fun k => g (k + 5)) db 3), .int (o_X0_tend_h (o_X0_tend_0_2 (g 10) (g 11) g da) (g 11) (fun k => g (k + 5)) db 4), .int (o_X0_tend_1_5 (o_X0_tend_0_2 (g 10) (g 11) g da) (g 11) (fun k => g (k + 5)) db), .int (o_X0_tend_1_6 (o_X0_tend_0_2 (g 10) (g 11) g da) (g 11) (fun k => g (k + 5)) db)])), (qS, .inr (6, [.ref qs, .ref qd, .int len, .int need])), (qs, .inl (E.2.1.1, 12, .inl sun)), (qd, .inl (E.2.1.1, 12, .inl dry))]) rfl (fun H locs hG => ?_)
      refine lv_aload_n hx hb dX0_turnBy_99 rfl (lv_at hl 1 rfl) ?_
      refine gf_X0_18 C dX0_turnBy_100 hG 0 rfl rfl ?_
      refine lv_aload_n hx hb dX0_turnBy_103 rfl (lv_at hl 1 rfl) ?_
      refine lv_iconst (v := 1) hx hb dX0_turnBy_104 (by decide) ?_
      refine lv_iload hx hb dX0_turnBy_105 (lv_at hl 0 rfl) ?_
      refine lv_aload_n hx hb dX0_turnBy_107 rfl (lv_at hl 2 rfl) ?_
      refine gf_X0_100 C dX0_turnBy_108 hG 3 rfl rfl ?_
      refine call_X0_103 C dX0_turnBy_111 (c_X0_isShaded_1 l E (mkG5 (o_X0_tend_h (g 10) (g 11) g da 0) (o_X1_grow_0_1 (o_X0_tend_h (g 10) (g 11) g da) (g 11) dr (o_X0_tend_1_5 (g 10) (g 11) g da) (o_X0_tend_1_6 (g 10) (g 11) g da)) (o_X0_tend_h (g 10) (g 11) g da 2) (o_X0_tend_h (g 10) (g 11) g da 3) (j_X0_turnBy_0_0 g sun dry len need da db dr)) (mkG5 (o_X0_tend_h (o_X0_tend_0_2 (g 10) (g 11) g da) (g 11) (fun k => g (k + 5)) db 0) (o_X1_grow_0_1 (o_X0_tend_h (o_X0_tend_0_2 (g 10) (g 11) g da) (g 11) (fun k => g (k + 5)) db) (g 11) dr (o_X0_tend_1_5 (o_X0_tend_0_2 (g 10) (g 11) g da) (g 11) (fun k => g (k + 5)) db) (o_X0_tend_1_6 (o_X0_tend_0_2 (g 10) (g 11) g da) (g 11) (fun k => g (k + 5)) db)) (o_X0_tend_h (o_X0_tend_0_2 (g 10) (g 11) g da) (g 11) (fun k => g (k + 5)) db 2) (o_X0_tend_h (o_X0_tend_0_2 (g 10) (g 11) g da) (g 11) (fun k => g (k + 5)) db 3) (o_X0_tend_h (o_X0_tend_0_2 (g 10) (g 11) g da) (g 11) (fun k => g (k + 5)) db 4)) (o_X0_tend_0_2 (o_X0_tend_0_2 (g 10) (g 11) g da) (g 11) (fun k => g (k + 5)) db) (g 11) (o_X6_sunIn_r sun dry len need (g 11)) len (o_X0_tend_1_5 (g 10) (g 11) g da) (o_X0_tend_1_6 (g 10) (g 11) g da) (o_X0_tend_1_5 (o_X0_tend_0_2 (g 10) (g 11) g da) (g 11) (fun k => g (k + 5)) db) (o_X0_tend_1_6 (o_X0_tend_0_2 (g 10) (g 11) g da) (g 11) (fun k => g (k + 5)) db) a q1 q2) hl hG 0 rfl [0, 1, 2] (by decide) rfl (ads := [a, q1, q2]) rfl rfl (ws' := [(a, .inr (0, [.ref q1, .ref q2, .int (o_X0_tend_0_2 (o_X0_tend_0_2 (g 10) (g 11) g da) (g 11) (fun k => g (k + 5)) db), .int (g 11)])), (q1, .inr (1, [.int (o_X0_tend_h (g 10) (g 11) g da 0), .int (o_X1_grow_0_1 (o_X0_tend_h (g 10) (g 11) g da) (g 11) dr (o_X0_tend_1_5 (g 10) (g 11) g da) (o_X0_tend_1_6 (g 10) (g 11) g da)), .int (o_X0_tend_h (g 10) (g 11) g da 2), .int (o_X0_tend_h (g 10) (g 11) g da 3), .int (j_X0_turnBy_0_0 g sun dry len need da db dr), .int (o_X0_tend_1_5 (g 10) (g 11) g da), .int (o_X0_tend_1_6 (g 10) (g 11) g da)])), (q2, .inr (1, [.int (o_X0_tend_h (o_X0_tend_0_2 (g 10) (g 11) g da) (g 11) (fun k => g (k + 5)) db 0), .int (o_X1_grow_0_1 (o_X0_tend_h (o_X0_tend_0_2 (g 10) (g 11) g da) (g 11) (fun k => g (k + 5)) db) (g 11) dr (o_X0_tend_1_5 (o_X0_tend_0_2 (g 10) (g 11) g da) (g 11) (fun k => g (k + 5)) db) (o_X0_tend_1_6 (o_X0_tend_0_2 (g 10) (g 11) g da) (g 11) (fun k => g (k + 5)) db)), .int (o_X0_tend_h (o_X0_tend_0_2 (g 10) (g 11) g da) (g 11) (fun k => g (k + 5)) db 2), .int (o_X0_tend_h (o_X0_tend_0_2 (g 10) (g 11) g da) (g 11) (fun k => g (k + 5)) db 3), .int (o_X0_tend_h (o_X0_tend_0_2 (g 10) (g 11) g da) (g 11) (fun k => g (k + 5)) db 4), .int (o_X0_tend_1_5 (o_X0_tend_0_2 (g 10) (g 11) g da) (g 11) (fun k => g (k + 5)) db), .int (o_X0_tend_1_6 (o_X0_tend_0_2 (g 10) (g 11) g da) (g 11) (fun k => g (k + 5)) db)])), (qS, .inr (6, [.ref qs, .ref qd, .int len, .int need])), (qs, .inl (E.2.1.1, 12, .inl sun)), (qd, .inl (E.2.1.1, 12, .inl dry))]) rfl rfl (rest := [.ref q2]) rfl (Nat.le_of_ble_eq_true rfl) ⟨Nat.le_of_ble_eq_true rfl, Nat.le_of_ble_eq_true rfl⟩ (fun H locs hG => ?_)
      have k_1 : ∀ (y1_0 : Int32) (H : Heap) (locs : List Loc) (ls : Array Slot), (j_X0_turnBy_1_0 g sun dry len need da db dr) = y1_0 → zG E zA zs.heap [(a, .inr (0, [.ref q1, .ref q2, .int (o_X0_tend_0_2 (o_X0_tend_0_2 (g 10) (g 11) g da) (g 11) (fun k => g (k + 5)) db), .int (g 11)])), (q1, .inr (1, [.int (o_X0_tend_h (g 10) (g 11) g da 0), .int (o_X1_grow_0_1 (o_X0_tend_h (g 10) (g 11) g da) (g 11) dr (o_X0_tend_1_5 (g 10) (g 11) g da) (o_X0_tend_1_6 (g 10) (g 11) g da)), .int (o_X0_tend_h (g 10) (g 11) g da 2), .int (o_X0_tend_h (g 10) (g 11) g da 3), .int (j_X0_turnBy_0_0 g sun dry len need da db dr), .int (o_X0_tend_1_5 (g 10) (g 11) g da), .int (o_X0_tend_1_6 (g 10) (g 11) g da)])), (q2, .inr (1, [.int (o_X0_tend_h (o_X0_tend_0_2 (g 10) (g 11) g da) (g 11) (fun k => g (k + 5)) db 0), .int (o_X1_grow_0_1 (o_X0_tend_h (o_X0_tend_0_2 (g 10) (g 11) g da) (g 11) (fun k => g (k + 5)) db) (g 11) dr (o_X0_tend_1_5 (o_X0_tend_0_2 (g 10) (g 11) g da) (g 11) (fun k => g (k + 5)) db) (o_X0_tend_1_6 (o_X0_tend_0_2 (g 10) (g 11) g da) (g 11) (fun k => g (k + 5)) db)), .int (o_X0_tend_h (o_X0_tend_0_2 (g 10) (g 11) g da) (g 11) (fun k => g (k + 5)) db 2), .int (o_X0_tend_h (o_X0_tend_0_2 (g 10) (g 11) g da) (g 11) (fun k => g (k + 5)) db 3), .int (o_X0_tend_h (o_X0_tend_0_2 (g 10) (g 11) g da) (g 11) (fun k => g (k + 5)) db 4), .int (o_X0_tend_1_5 (o_X0_tend_0_2 (g 10) (g 11) g da) (g 11) (fun k => g (k + 5)) db), .int (o_X0_tend_1_6 (o_X0_tend_0_2 (g 10) (g 11) g da) (g 11) (fun k => g (k + 5)) db)])), (qS, .inr (6, [.ref qs, .ref qd, .int len, .int need])), (qs, .inl (E.2.1.1, 12, .inl sun)), (qd, .inl (E.2.1.1, 12, .inl dry))] H locs → lv_has ls 6 [(5, .int (o_X6_sunIn_r sun dry len need (g 11))), (0, .ref a), (1, .ref qS), (2, .int da), (3, .int db), (4, .int dr)] → W zp l ze (zR 3 56) zs zm za zb zt zc H locs 0 0 zq (F0 zm 130 ls [.int y1_0, .ref q2]) := by
        intro y1_0 H locs ls e_y1_0 hG hl
        subst e_y1_0
        refine pf_X0_51 C dX0_turnBy_130 hG 2 rfl (Nat.le_of_ble_eq_true rfl) (ws' := [(a, .inr (0, [.ref q1, .ref q2, .int (o_X0_tend_0_2 (o_X0_tend_0_2 (g 10) (g 11) g da) (g 11) (fun k => g (k + 5)) db), .int (g 11)])), (q1, .inr (1, [.int (o_X0_tend_h (g 10) (g 11) g da 0), .int (o_X1_grow_0_1 (o_X0_tend_h (g 10) (g 11) g da) (g 11) dr (o_X0_tend_1_5 (g 10) (g 11) g da) (o_X0_tend_1_6 (g 10) (g 11) g da)), .int (o_X0_tend_h (g 10) (g 11) g da 2), .int (o_X0_tend_h (g 10) (g 11) g da 3), .int (j_X0_turnBy_0_0 g sun dry len need da db dr), .int (o_X0_tend_1_5 (g 10) (g 11) g da), .int (o_X0_tend_1_6 (g 10) (g 11) g da)])), (q2, .inr (1, [.int (o_X0_tend_h (o_X0_tend_0_2 (g 10) (g 11) g da) (g 11) (fun k => g (k + 5)) db 0), .int (o_X1_grow_0_1 (o_X0_tend_h (o_X0_tend_0_2 (g 10) (g 11) g da) (g 11) (fun k => g (k + 5)) db) (g 11) dr (o_X0_tend_1_5 (o_X0_tend_0_2 (g 10) (g 11) g da) (g 11) (fun k => g (k + 5)) db) (o_X0_tend_1_6 (o_X0_tend_0_2 (g 10) (g 11) g da) (g 11) (fun k => g (k + 5)) db)), .int (o_X0_tend_h (o_X0_tend_0_2 (g 10) (g 11) g da) (g 11) (fun k => g (k + 5)) db 2), .int (o_X0_tend_h (o_X0_tend_0_2 (g 10) (g 11) g da) (g 11) (fun k => g (k + 5)) db 3), .int (j_X0_turnBy_1_0 g sun dry len need da db dr), .int (o_X0_tend_1_5 (o_X0_tend_0_2 (g 10) (g 11) g da) (g 11) (fun k => g (k + 5)) db), .int (o_X0_tend_1_6 (o_X0_tend_0_2 (g 10) (g 11) g da) (g 11) (fun k => g (k + 5)) db)])), (qS, .inr (6, [.ref qs, .ref qd, .int len, .int need])), (qs, .inl (E.2.1.1, 12, .inl sun)), (qd, .inl (E.2.1.1, 12, .inl dry))]) rfl (fun H locs hG => ?_)
        refine lv_aload_n hx hb dX0_turnBy_133 rfl (lv_at hl 1 rfl) ?_
        refine lv_dup hx hb dX0_turnBy_134 rfl ?_
        refine gf_X0_29 C dX0_turnBy_135 hG 0 rfl rfl ?_
        refine lv_iconst (v := 1) hx hb dX0_turnBy_138 (by decide) ?_
        refine lv_iadd hx hb dX0_turnBy_139 ?_
        refine pf_X0_29 C dX0_turnBy_140 hG 0 rfl (Nat.le_of_ble_eq_true rfl) (ws' := [(a, .inr (0, [.ref q1, .ref q2, .int (o_X0_tend_0_2 (o_X0_tend_0_2 (g 10) (g 11) g da) (g 11) (fun k => g (k + 5)) db), .int ((g 11) + 1)])), (q1, .inr (1, [.int (o_X0_tend_h (g 10) (g 11) g da 0), .int (o_X1_grow_0_1 (o_X0_tend_h (g 10) (g 11) g da) (g 11) dr (o_X0_tend_1_5 (g 10) (g 11) g da) (o_X0_tend_1_6 (g 10) (g 11) g da)), .int (o_X0_tend_h (g 10) (g 11) g da 2), .int (o_X0_tend_h (g 10) (g 11) g da 3), .int (j_X0_turnBy_0_0 g sun dry len need da db dr), .int (o_X0_tend_1_5 (g 10) (g 11) g da), .int (o_X0_tend_1_6 (g 10) (g 11) g da)])), (q2, .inr (1, [.int (o_X0_tend_h (o_X0_tend_0_2 (g 10) (g 11) g da) (g 11) (fun k => g (k + 5)) db 0), .int (o_X1_grow_0_1 (o_X0_tend_h (o_X0_tend_0_2 (g 10) (g 11) g da) (g 11) (fun k => g (k + 5)) db) (g 11) dr (o_X0_tend_1_5 (o_X0_tend_0_2 (g 10) (g 11) g da) (g 11) (fun k => g (k + 5)) db) (o_X0_tend_1_6 (o_X0_tend_0_2 (g 10) (g 11) g da) (g 11) (fun k => g (k + 5)) db)), .int (o_X0_tend_h (o_X0_tend_0_2 (g 10) (g 11) g da) (g 11) (fun k => g (k + 5)) db 2), .int (o_X0_tend_h (o_X0_tend_0_2 (g 10) (g 11) g da) (g 11) (fun k => g (k + 5)) db 3), .int (j_X0_turnBy_1_0 g sun dry len need da db dr), .int (o_X0_tend_1_5 (o_X0_tend_0_2 (g 10) (g 11) g da) (g 11) (fun k => g (k + 5)) db), .int (o_X0_tend_1_6 (o_X0_tend_0_2 (g 10) (g 11) g da) (g 11) (fun k => g (k + 5)) db)])), (qS, .inr (6, [.ref qs, .ref qd, .int len, .int need])), (qs, .inl (E.2.1.1, 12, .inl sun)), (qd, .inl (E.2.1.1, 12, .inl dry))]) rfl (fun H locs hG => ?_)
        rw [hQ]
        exact z_vret C hr hlk hG dX0_turnBy_143 rfl (by rw [o_X0_turnBy_g, if_pos c_1, mkG16_0, mkG16_1, mkG16_2, mkG16_3, mkG16_4, mkG16_5, mkG16_6, mkG16_7, mkG16_8, mkG16_9, mkG16_10, mkG16_11, mkG16_12, mkG16_13, mkG16_14, mkG16_15])
      refine lv_if_eq (tgt := 129) hx hb dX0_turnBy_114 (by decide) (fun c_3 => ?_) (fun c_3 => ?_)
      · skip
        refine lv_iconst (v := 0) hx hb dX0_turnBy_129 (by decide) ?_
        exact k_1 0 _ _ _ (by rw [j_X0_turnBy_1_0, if_pos c_3]) hG (lv_sub hl [0, 1, 2, 3, 4, 5] rfl)
      · skip
        refine lv_aload_n hx hb dX0_turnBy_117 rfl (lv_at hl 1 rfl) ?_
        refine gf_X0_18 C dX0_turnBy_118 hG 0 rfl rfl ?_
        refine gf_X0_51 C dX0_turnBy_121 hG 2 rfl rfl ?_
        refine lv_iconst (v := 1) hx hb dX0_turnBy_124 (by decide) ?_
        refine lv_iadd hx hb dX0_turnBy_125 ?_
        refine lv_goto (tgt := 130) hx hb dX0_turnBy_126 (by decide) ?_
        exact k_1 ((o_X0_tend_h (o_X0_tend_0_2 (g 10) (g 11) g da) (g 11) (fun k => g (k + 5)) db 4) + 1) _ _ _ (by rw [j_X0_turnBy_1_0, if_neg c_3]) hG (lv_sub hl [0, 1, 2, 3, 4, 5] rfl)
    refine lv_if_eq (tgt := 95) hx hb dX0_turnBy_80 (by decide) (fun c_2 => ?_) (fun c_2 => ?_)
    · skip
      refine lv_iconst (v := 0) hx hb dX0_turnBy_95 (by decide) ?_
      exact k_0 0 _ _ _ (by rw [j_X0_turnBy_0_0, if_pos c_2]) hG (lv_sub hl [0, 1, 2, 3, 4, 5] rfl)
    · skip
      refine lv_aload_n hx hb dX0_turnBy_83 rfl (lv_at hl 1 rfl) ?_
      refine gf_X0_12 C dX0_turnBy_84 hG 0 rfl rfl ?_
      refine gf_X0_51 C dX0_turnBy_87 hG 1 rfl rfl ?_
      refine lv_iconst (v := 1) hx hb dX0_turnBy_90 (by decide) ?_
      refine lv_iadd hx hb dX0_turnBy_91 ?_
      refine lv_goto (tgt := 96) hx hb dX0_turnBy_92 (by decide) ?_
      exact k_0 ((o_X0_tend_h (g 10) (g 11) g da 4) + 1) _ _ _ (by rw [j_X0_turnBy_0_0, if_neg c_2]) hG (lv_sub hl [0, 1, 2, 3, 4, 5] rfl)
  · skip
    rw [hQ]
    exact z_vret C hr hlk hG dX0_turnBy_10 rfl (by rw [o_X0_turnBy_g, if_neg c_1])
def o_X0_turn_g (g : Nat → Int32) (sun : Nat → Int32) (dry : Nat → Int32) (len : Int32) (need : Int32) (da : Int32) (db : Int32) : Nat → Int32 := (o_X0_turnBy_g g sun dry len need da db (o_X6_isDry_r sun dry len need (g 11)))
set_option maxRecDepth 100000 in
set_option maxHeartbeats 4000000 in
theorem c_X0_turn (l : Launch) (E : zE) (g : Nat → Int32) (sun : Nat → Int32) (dry : Nat → Int32) (len : Int32) (need : Int32) (da : Int32) (db : Int32) (a q1 q2 qS qs qd : Nat) : HM l E yX0_turn cX0_turn 4 none 4 81 [.ref a, .ref qS, .int da, .int db] [(a, .inr (0, [.ref q1, .ref q2, .int (g 10), .int (g 11)])), (q1, .inr (1, [.int (g 0), .int (g 1), .int (g 2), .int (g 3), .int (g 4), .int (g 12), .int (g 13)])), (q2, .inr (1, [.int (g 5), .int (g 6), .int (g 7), .int (g 8), .int (g 9), .int (g 14), .int (g 15)])), (qS, .inr (6, [.ref qs, .ref qd, .int len, .int need])), (qs, .inl (E.2.1.1, 12, .inl sun)), (qd, .inl (E.2.1.1, 12, .inl dry))] none [(a, .inr (0, [.ref q1, .ref q2, .int (o_X0_turn_g g sun dry len need da db 10), .int (o_X0_turn_g g sun dry len need da db 11)])), (q1, .inr (1, [.int (o_X0_turn_g g sun dry len need da db 0), .int (o_X0_turn_g g sun dry len need da db 1), .int (o_X0_turn_g g sun dry len need da db 2), .int (o_X0_turn_g g sun dry len need da db 3), .int (o_X0_turn_g g sun dry len need da db 4), .int (o_X0_turn_g g sun dry len need da db 12), .int (o_X0_turn_g g sun dry len need da db 13)])), (q2, .inr (1, [.int (o_X0_turn_g g sun dry len need da db 5), .int (o_X0_turn_g g sun dry len need da db 6), .int (o_X0_turn_g g sun dry len need da db 7), .int (o_X0_turn_g g sun dry len need da db 8), .int (o_X0_turn_g g sun dry len need da db 9), .int (o_X0_turn_g g sun dry len need da db 14), .int (o_X0_turn_g g sun dry len need da db 15)])), (qS, .inr (6, [.ref qs, .ref qd, .int len, .int need])), (qs, .inl (E.2.1.1, 12, .inl sun)), (qd, .inl (E.2.1.1, 12, .inl dry))] := by
  refine HM.of (own := RX0) (plainFor_of_name (by decide)) rfl (Nat.le_of_ble_eq_true rfl) ?_
  intro zp ze zs zm za zb zt zc zA ls H locs zq C hr hlk hG hl hQ
  have hx := C.1.1
  have hb := C.1.2.1
  replace hl : lv_has ls 4 [(0, .ref a), (1, .ref qS), (2, .int da), (3, .int db)] := hl
  refine lv_aload_n hx hb dX0_turn_0 rfl (lv_at hl 0 rfl) ?_
  refine lv_aload_n hx hb dX0_turn_1 rfl (lv_at hl 1 rfl) ?_
  refine lv_iload_n hx hb dX0_turn_2 rfl (lv_at hl 2 rfl) ?_
  refine lv_iload_n hx hb dX0_turn_3 rfl (lv_at hl 3 rfl) ?_
  refine lv_aload_n hx hb dX0_turn_4 rfl (lv_at hl 1 rfl) ?_
  refine lv_aload_n hx hb dX0_turn_5 rfl (lv_at hl 0 rfl) ?_
  refine gf_X0_29 C dX0_turn_6 hG 0 rfl rfl ?_
  refine call_X0_77 C dX0_turn_9 (c_X6_isDry l E sun dry len need (g 11) qS qs qd) hl hG 3 rfl [3, 4, 5] (by decide) rfl (ads := [qS, qs, qd]) rfl rfl (ws' := [(a, .inr (0, [.ref q1, .ref q2, .int (g 10), .int (g 11)])), (q1, .inr (1, [.int (g 0), .int (g 1), .int (g 2), .int (g 3), .int (g 4), .int (g 12), .int (g 13)])), (q2, .inr (1, [.int (g 5), .int (g 6), .int (g 7), .int (g 8), .int (g 9), .int (g 14), .int (g 15)])), (qS, .inr (6, [.ref qs, .ref qd, .int len, .int need])), (qs, .inl (E.2.1.1, 12, .inl sun)), (qd, .inl (E.2.1.1, 12, .inl dry))]) rfl rfl (rest := [.int db, .int da, .ref qS, .ref a]) rfl (Nat.le_of_ble_eq_true rfl) ⟨Nat.le_of_ble_eq_true rfl, Nat.le_of_ble_eq_true rfl⟩ (fun H locs hG => ?_)
  refine call_X0_81 C dX0_turn_12 (c_X0_turnBy l E g sun dry len need da db (o_X6_isDry_r sun dry len need (g 11)) a q1 q2 qS qs qd) hl hG 0 rfl [0, 1, 2, 3, 4, 5] (by decide) rfl (ads := [a, q1, q2, qS, qs, qd]) rfl rfl (ws' := [(a, .inr (0, [.ref q1, .ref q2, .int (o_X0_turnBy_g g sun dry len need da db (o_X6_isDry_r sun dry len need (g 11)) 10), .int (o_X0_turnBy_g g sun dry len need da db (o_X6_isDry_r sun dry len need (g 11)) 11)])), (q1, .inr (1, [.int (o_X0_turnBy_g g sun dry len need da db (o_X6_isDry_r sun dry len need (g 11)) 0), .int (o_X0_turnBy_g g sun dry len need da db (o_X6_isDry_r sun dry len need (g 11)) 1), .int (o_X0_turnBy_g g sun dry len need da db (o_X6_isDry_r sun dry len need (g 11)) 2), .int (o_X0_turnBy_g g sun dry len need da db (o_X6_isDry_r sun dry len need (g 11)) 3), .int (o_X0_turnBy_g g sun dry len need da db (o_X6_isDry_r sun dry len need (g 11)) 4), .int (o_X0_turnBy_g g sun dry len need da db (o_X6_isDry_r sun dry len need (g 11)) 12), .int (o_X0_turnBy_g g sun dry len need da db (o_X6_isDry_r sun dry len need (g 11)) 13)])), (q2, .inr (1, [.int (o_X0_turnBy_g g sun dry len need da db (o_X6_isDry_r sun dry len need (g 11)) 5), .int (o_X0_turnBy_g g sun dry len need da db (o_X6_isDry_r sun dry len need (g 11)) 6), .int (o_X0_turnBy_g g sun dry len need da db (o_X6_isDry_r sun dry len need (g 11)) 7), .int (o_X0_turnBy_g g sun dry len need da db (o_X6_isDry_r sun dry len need (g 11)) 8), .int (o_X0_turnBy_g g sun dry len need da db (o_X6_isDry_r sun dry len need (g 11)) 9), .int (o_X0_turnBy_g g sun dry len need da db (o_X6_isDry_r sun dry len need (g 11)) 14), .int (o_X0_turnBy_g g sun dry len need da db (o_X6_isDry_r sun dry len need (g 11)) 15)])), (qS, .inr (6, [.ref qs, .ref qd, .int len, .int need])), (qs, .inl (E.2.1.1, 12, .inl sun)), (qd, .inl (E.2.1.1, 12, .inl dry))]) rfl rfl (rest := []) rfl (Nat.le_of_ble_eq_true rfl) ⟨Nat.le_of_ble_eq_true rfl, Nat.le_of_ble_eq_true rfl⟩ (fun H locs hG => ?_)
  rw [hQ]
  exact z_vret C hr hlk hG dX0_turn_15 rfl (by rw [o_X0_turn_g])
def L_X0_idle_0 (g : Nat → Int32) (sun : Nat → Int32) (dry : Nat → Int32) (len : Int32) (need : Int32) (n : Int32) (k : Nat) : Nat → (Nat → Int32)
  | 0 => g
  | (k0 + 1) => (o_X0_turn_g (L_X0_idle_0 g sun dry len need n k k0) sun dry len need 0 0)
def o_X0_idle_g (g : Nat → Int32) (sun : Nat → Int32) (dry : Nat → Int32) (len : Int32) (need : Int32) (n : Int32) (k : Nat) : Nat → Int32 := (L_X0_idle_0 g sun dry len need n k k)
set_option maxRecDepth 100000 in
set_option maxHeartbeats 4000000 in
theorem c_X0_idle (l : Launch) (E : zE) (g : Nat → Int32) (sun : Nat → Int32) (dry : Nat → Int32) (len : Int32) (need : Int32) (n : Int32) (k : Nat) (a q1 q2 qS qs qd : Nat) (hk : k < 2 ^ 31) (hn : n = nI k) : HM l E yX0_idle cX0_idle 4 none 5 104 [.ref a, .ref qS, .int n] [(a, .inr (0, [.ref q1, .ref q2, .int (g 10), .int (g 11)])), (q1, .inr (1, [.int (g 0), .int (g 1), .int (g 2), .int (g 3), .int (g 4), .int (g 12), .int (g 13)])), (q2, .inr (1, [.int (g 5), .int (g 6), .int (g 7), .int (g 8), .int (g 9), .int (g 14), .int (g 15)])), (qS, .inr (6, [.ref qs, .ref qd, .int len, .int need])), (qs, .inl (E.2.1.1, 12, .inl sun)), (qd, .inl (E.2.1.1, 12, .inl dry))] none [(a, .inr (0, [.ref q1, .ref q2, .int (o_X0_idle_g g sun dry len need n k 10), .int (o_X0_idle_g g sun dry len need n k 11)])), (q1, .inr (1, [.int (o_X0_idle_g g sun dry len need n k 0), .int (o_X0_idle_g g sun dry len need n k 1), .int (o_X0_idle_g g sun dry len need n k 2), .int (o_X0_idle_g g sun dry len need n k 3), .int (o_X0_idle_g g sun dry len need n k 4), .int (o_X0_idle_g g sun dry len need n k 12), .int (o_X0_idle_g g sun dry len need n k 13)])), (q2, .inr (1, [.int (o_X0_idle_g g sun dry len need n k 5), .int (o_X0_idle_g g sun dry len need n k 6), .int (o_X0_idle_g g sun dry len need n k 7), .int (o_X0_idle_g g sun dry len need n k 8), .int (o_X0_idle_g g sun dry len need n k 9), .int (o_X0_idle_g g sun dry len need n k 14), .int (o_X0_idle_g g sun dry len need n k 15)])), (qS, .inr (6, [.ref qs, .ref qd, .int len, .int need])), (qs, .inl (E.2.1.1, 12, .inl sun)), (qd, .inl (E.2.1.1, 12, .inl dry))] := by
  refine HM.of (own := RX0) (plainFor_of_name (by decide)) rfl (Nat.le_of_ble_eq_true rfl) ?_
  intro zp ze zs zm za zb zt zc zA ls H locs zq C hr hlk hG hl hQ
  have hx := C.1.1
  have hb := C.1.2.1
  replace hl : lv_has ls 4 [(0, .ref a), (1, .ref qS), (2, .int n)] := hl
  refine lv_iconst (v := 0) hx hb dX0_idle_0 (by decide) ?_
  refine lv_istore_n (lv' := [(3, .int 0), (0, .ref a), (1, .ref qS), (2, .int n)]) hx hb dX0_idle_1 rfl hl (by decide) rfl (fun ls hl => ?_)
  have kl_0 : ∀ (j0 k0 : Nat), j0 + k0 = k → ∀ (u0_0 : Nat → Int32) (H : Heap) (locs : List Loc) (ls : Array Slot), (L_X0_idle_0 g sun dry len need n k k0) = u0_0 → zG E zA zs.heap [(a, .inr (0, [.ref q1, .ref q2, .int (u0_0 10), .int (u0_0 11)])), (q1, .inr (1, [.int (u0_0 0), .int (u0_0 1), .int (u0_0 2), .int (u0_0 3), .int (u0_0 4), .int (u0_0 12), .int (u0_0 13)])), (q2, .inr (1, [.int (u0_0 5), .int (u0_0 6), .int (u0_0 7), .int (u0_0 8), .int (u0_0 9), .int (u0_0 14), .int (u0_0 15)])), (qS, .inr (6, [.ref qs, .ref qd, .int len, .int need])), (qs, .inl (E.2.1.1, 12, .inl sun)), (qd, .inl (E.2.1.1, 12, .inl dry))] H locs → lv_has ls 4 [(3, .int (nI k0)), (0, .ref a), (1, .ref qS), (2, .int n)] → W zp l ze (zR 5 104) zs zm za zb zt zc H locs 0 0 zq (F0 zm 2 ls []) := by
    intro j0
    induction j0 with
    | zero =>
      intro k0 hk0 u0_0 H locs ls e_u0_0 hG hl
      subst e_u0_0
      obtain rfl : k = k0 := by omega
      refine lv_iload_n hx hb dX0_idle_2 rfl (lv_at hl 0 rfl) ?_
      refine lv_iload_n hx hb dX0_idle_3 rfl (lv_at hl 3 rfl) ?_
      refine lv_icmp_ge (tgt := 20) hx hb dX0_idle_4 (by decide) (fun c_3 => ?_) (fun c_3 => absurd (z_ge_yes hn) c_3)
      rw [hQ]
      exact z_vret C hr hlk hG dX0_idle_20 rfl (by rw [o_X0_idle_g])
    | succ j0 ih0 =>
      intro k0 hk0 u0_0 H locs ls e_u0_0 hG hl
      subst e_u0_0
      have hlt : k0 < k := by omega
      refine lv_iload_n hx hb dX0_idle_2 rfl (lv_at hl 0 rfl) ?_
      refine lv_iload_n hx hb dX0_idle_3 rfl (lv_at hl 3 rfl) ?_
      refine lv_icmp_ge (tgt := 20) hx hb dX0_idle_4 (by decide) (fun c_4 => absurd c_4 (z_ge_no hlt hk hn)) (fun c_4 => ?_)
      refine lv_aload_n hx hb dX0_idle_7 rfl (lv_at hl 1 rfl) ?_
      refine lv_aload_n hx hb dX0_idle_8 rfl (lv_at hl 2 rfl) ?_
      refine lv_iconst (v := 0) hx hb dX0_idle_9 (by decide) ?_
      refine lv_iconst (v := 0) hx hb dX0_idle_10 (by decide) ?_
      refine call_X0_73 C dX0_idle_11 (c_X0_turn l E (L_X0_idle_0 g sun dry len need n k k0) sun dry len need 0 0 a q1 q2 qS qs qd) hl hG 0 rfl [0, 1, 2, 3, 4, 5] (by decide) rfl (ads := [a, q1, q2, qS, qs, qd]) rfl rfl (ws' := [(a, .inr (0, [.ref q1, .ref q2, .int (o_X0_turn_g (L_X0_idle_0 g sun dry len need n k k0) sun dry len need 0 0 10), .int (o_X0_turn_g (L_X0_idle_0 g sun dry len need n k k0) sun dry len need 0 0 11)])), (q1, .inr (1, [.int (o_X0_turn_g (L_X0_idle_0 g sun dry len need n k k0) sun dry len need 0 0 0), .int (o_X0_turn_g (L_X0_idle_0 g sun dry len need n k k0) sun dry len need 0 0 1), .int (o_X0_turn_g (L_X0_idle_0 g sun dry len need n k k0) sun dry len need 0 0 2), .int (o_X0_turn_g (L_X0_idle_0 g sun dry len need n k k0) sun dry len need 0 0 3), .int (o_X0_turn_g (L_X0_idle_0 g sun dry len need n k k0) sun dry len need 0 0 4), .int (o_X0_turn_g (L_X0_idle_0 g sun dry len need n k k0) sun dry len need 0 0 12), .int (o_X0_turn_g (L_X0_idle_0 g sun dry len need n k k0) sun dry len need 0 0 13)])), (q2, .inr (1, [.int (o_X0_turn_g (L_X0_idle_0 g sun dry len need n k k0) sun dry len need 0 0 5), .int (o_X0_turn_g (L_X0_idle_0 g sun dry len need n k k0) sun dry len need 0 0 6), .int (o_X0_turn_g (L_X0_idle_0 g sun dry len need n k k0) sun dry len need 0 0 7), .int (o_X0_turn_g (L_X0_idle_0 g sun dry len need n k k0) sun dry len need 0 0 8), .int (o_X0_turn_g (L_X0_idle_0 g sun dry len need n k k0) sun dry len need 0 0 9), .int (o_X0_turn_g (L_X0_idle_0 g sun dry len need n k k0) sun dry len need 0 0 14), .int (o_X0_turn_g (L_X0_idle_0 g sun dry len need n k k0) sun dry len need 0 0 15)])), (qS, .inr (6, [.ref qs, .ref qd, .int len, .int need])), (qs, .inl (E.2.1.1, 12, .inl sun)), (qd, .inl (E.2.1.1, 12, .inl dry))]) rfl rfl (rest := []) rfl (Nat.le_of_ble_eq_true rfl) ⟨Nat.le_of_ble_eq_true rfl, Nat.le_of_ble_eq_true rfl⟩ (fun H locs hG => ?_)
      refine lv_iinc (v := (nI (k0 + 1))) (lv' := [(3, .int (nI (k0 + 1))), (0, .ref a), (1, .ref qS), (2, .int n)]) hx hb dX0_idle_14 hl (k := 0) rfl (nI_1 _) (by decide) rfl (fun ls hl => ?_)
      refine lv_goto (tgt := 2) hx hb dX0_idle_17 (by decide) ?_
      exact ih0 (k0 + 1) (by omega) (o_X0_turn_g (L_X0_idle_0 g sun dry len need n k k0) sun dry len need 0 0) _ _ _ (by rw [L_X0_idle_0]) hG (lv_sub hl [0, 1, 2, 3] rfl)
  exact kl_0 k 0 (by omega) g _ _ _ (by rw [L_X0_idle_0]) hG (lv_sub hl [0, 1, 2, 3] rfl)
def L_X6_clear_0 (sun : Nat → Int32) (dry : Nat → Int32) (len : Int32) (need : Int32) : Nat → (Nat → Int32) × (Nat → Int32)
  | 0 => (sun, dry)
  | (k0 + 1) => ((o_X7_setCell_0 12 ((L_X6_clear_0 sun dry len need k0).1) (nI k0) 5), (o_X7_setCell_0 12 ((L_X6_clear_0 sun dry len need k0).2) (nI k0) 0))
def o_X6_clear_1 (sun : Nat → Int32) (dry : Nat → Int32) (len : Int32) (need : Int32) : Nat → Int32 := ((L_X6_clear_0 sun dry len need 12).1)
def o_X6_clear_2 (sun : Nat → Int32) (dry : Nat → Int32) (len : Int32) (need : Int32) : Nat → Int32 := ((L_X6_clear_0 sun dry len need 12).2)
set_option maxRecDepth 100000 in
set_option maxHeartbeats 4000000 in
theorem c_X6_clear (l : Launch) (E : zE) (sun : Nat → Int32) (dry : Nat → Int32) (len : Int32) (need : Int32) (qS qs qd : Nat) : HM l E yX6_clear cX6_clear 2 none 1 22 [.ref qS] [(qS, .inr (6, [.ref qs, .ref qd, .int len, .int need])), (qs, .inl (E.2.1.1, 12, .inl sun)), (qd, .inl (E.2.1.1, 12, .inl dry))] none [(qS, .inr (6, [.ref qs, .ref qd, .int 12, .int 2])), (qs, .inl (E.2.1.1, 12, .inl (o_X6_clear_1 sun dry len need))), (qd, .inl (E.2.1.1, 12, .inl (o_X6_clear_2 sun dry len need)))] := by
  refine HM.of (own := RX6) (plainFor_of_name (by decide)) rfl (Nat.le_of_ble_eq_true rfl) ?_
  intro zp ze zs zm za zb zt zc zA ls H locs zq C hr hlk hG hl hQ
  have hx := C.1.1
  have hb := C.1.2.1
  replace hl : lv_has ls 2 [(0, .ref qS)] := hl
  refine lv_aload_n hx hb dX6_clear_0 rfl (lv_at hl 0 rfl) ?_
  refine lv_bipush (v := 12) hx hb dX6_clear_1 (by decide) ?_
  refine pf_X6_18 C dX6_clear_3 hG 0 rfl (Nat.le_of_ble_eq_true rfl) (ws' := [(qS, .inr (6, [.ref qs, .ref qd, .int 12, .int need])), (qs, .inl (E.2.1.1, 12, .inl sun)), (qd, .inl (E.2.1.1, 12, .inl dry))]) rfl (fun H locs hG => ?_)
  refine lv_aload_n hx hb dX6_clear_6 rfl (lv_at hl 0 rfl) ?_
  refine lv_iconst (v := 2) hx hb dX6_clear_7 (by decide) ?_
  refine pf_X6_22 C dX6_clear_8 hG 0 rfl (Nat.le_of_ble_eq_true rfl) (ws' := [(qS, .inr (6, [.ref qs, .ref qd, .int 12, .int 2])), (qs, .inl (E.2.1.1, 12, .inl sun)), (qd, .inl (E.2.1.1, 12, .inl dry))]) rfl (fun H locs hG => ?_)
  refine lv_iconst (v := 0) hx hb dX6_clear_11 (by decide) ?_
  refine lv_istore_n (lv' := [(1, .int 0), (0, .ref qS)]) hx hb dX6_clear_12 rfl hl (by decide) rfl (fun ls hl => ?_)
  have kl_0 : ∀ (j0 k0 : Nat), j0 + k0 = 12 → ∀ (u0_0 : Nat → Int32) (u0_1 : Nat → Int32) (H : Heap) (locs : List Loc) (ls : Array Slot), ((L_X6_clear_0 sun dry len need k0).1) = u0_0 → ((L_X6_clear_0 sun dry len need k0).2) = u0_1 → zG E zA zs.heap [(qS, .inr (6, [.ref qs, .ref qd, .int 12, .int 2])), (qs, .inl (E.2.1.1, 12, .inl u0_0)), (qd, .inl (E.2.1.1, 12, .inl u0_1))] H locs → lv_has ls 2 [(1, .int (nI k0)), (0, .ref qS)] → W zp l ze (zR 1 22) zs zm za zb zt zc H locs 0 0 zq (F0 zm 13 ls []) := by
    intro j0
    induction j0 with
    | zero =>
      intro k0 hk0 u0_0 u0_1 H locs ls e_u0_0 e_u0_1 hG hl
      subst e_u0_0
      subst e_u0_1
      obtain rfl : k0 = 12 := by omega
      refine lv_iload_n hx hb dX6_clear_13 rfl (lv_at hl 0 rfl) ?_
      refine lv_bipush (v := 12) hx hb dX6_clear_14 (by decide) ?_
      refine lv_icmp_ge (tgt := 43) hx hb dX6_clear_16 (by decide) (fun c_3 => ?_) (fun c_3 => absurd (z_ge_yes (N := 12) rfl) c_3)
      rw [hQ]
      exact z_vret C hr hlk hG dX6_clear_43 rfl (by rw [o_X6_clear_1, o_X6_clear_2])
    | succ j0 ih0 =>
      intro k0 hk0 u0_0 u0_1 H locs ls e_u0_0 e_u0_1 hG hl
      subst e_u0_0
      subst e_u0_1
      have hlt : k0 < 12 := by omega
      refine lv_iload_n hx hb dX6_clear_13 rfl (lv_at hl 0 rfl) ?_
      refine lv_bipush (v := 12) hx hb dX6_clear_14 (by decide) ?_
      refine lv_icmp_ge (tgt := 43) hx hb dX6_clear_16 (by decide) (fun c_4 => absurd c_4 (z_ge_no (N := 12) hlt (by decide) rfl)) (fun c_4 => ?_)
      refine lv_aload_n hx hb dX6_clear_19 rfl (lv_at hl 1 rfl) ?_
      refine gf_X6_9 C dX6_clear_20 hG 0 rfl rfl ?_
      refine lv_iload_n hx hb dX6_clear_23 rfl (lv_at hl 0 rfl) ?_
      refine lv_iconst (v := 5) hx hb dX6_clear_24 (by decide) ?_
      refine call_X6_25 C dX6_clear_25 (c_X7_setCell l E 12 ((L_X6_clear_0 sun dry len need k0).1) (nI k0) 5 qs (Nat.le_of_ble_eq_true rfl)) hl hG [1] (by decide) rfl (ads := [qs]) rfl rfl (ws' := [(qS, .inr (6, [.ref qs, .ref qd, .int 12, .int 2])), (qs, .inl (E.2.1.1, 12, .inl (o_X7_setCell_0 12 ((L_X6_clear_0 sun dry len need k0).1) (nI k0) 5))), (qd, .inl (E.2.1.1, 12, .inl ((L_X6_clear_0 sun dry len need k0).2)))]) rfl rfl (rest := []) rfl (Nat.le_of_ble_eq_true rfl) ⟨Nat.le_of_ble_eq_true rfl, Nat.le_of_ble_eq_true rfl⟩ (fun H locs hG => ?_)
      refine lv_aload_n hx hb dX6_clear_28 rfl (lv_at hl 1 rfl) ?_
      refine gf_X6_15 C dX6_clear_29 hG 0 rfl rfl ?_
      refine lv_iload_n hx hb dX6_clear_32 rfl (lv_at hl 0 rfl) ?_
      refine lv_iconst (v := 0) hx hb dX6_clear_33 (by decide) ?_
      refine call_X6_25 C dX6_clear_34 (c_X7_setCell l E 12 ((L_X6_clear_0 sun dry len need k0).2) (nI k0) 0 qd (Nat.le_of_ble_eq_true rfl)) hl hG [2] (by decide) rfl (ads := [qd]) rfl rfl (ws' := [(qS, .inr (6, [.ref qs, .ref qd, .int 12, .int 2])), (qs, .inl (E.2.1.1, 12, .inl (o_X7_setCell_0 12 ((L_X6_clear_0 sun dry len need k0).1) (nI k0) 5))), (qd, .inl (E.2.1.1, 12, .inl (o_X7_setCell_0 12 ((L_X6_clear_0 sun dry len need k0).2) (nI k0) 0)))]) rfl rfl (rest := []) rfl (Nat.le_of_ble_eq_true rfl) ⟨Nat.le_of_ble_eq_true rfl, Nat.le_of_ble_eq_true rfl⟩ (fun H locs hG => ?_)
      refine lv_iinc (v := (nI (k0 + 1))) (lv' := [(1, .int (nI (k0 + 1))), (0, .ref qS)]) hx hb dX6_clear_37 hl (k := 0) rfl (nI_1 _) (by decide) rfl (fun ls hl => ?_)
      refine lv_goto (tgt := 13) hx hb dX6_clear_40 (by decide) ?_
      exact ih0 (k0 + 1) (by omega) (o_X7_setCell_0 12 ((L_X6_clear_0 sun dry len need k0).1) (nI k0) 5) (o_X7_setCell_0 12 ((L_X6_clear_0 sun dry len need k0).2) (nI k0) 0) _ _ _ (by rw [L_X6_clear_0]) (by rw [L_X6_clear_0]) hG (lv_sub hl [0, 1] rfl)
  exact kl_0 12 0 (by omega) sun dry _ _ _ (by rw [L_X6_clear_0]) (by rw [L_X6_clear_0]) hG (lv_sub hl [0, 1] rfl)
