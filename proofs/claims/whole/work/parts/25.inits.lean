set_option maxRecDepth 100000 in
set_option maxHeartbeats 4000000 in
theorem c_X1_init (l : Launch) (E : zE) (m : Nat) : HN l E yX1_init cX1_init 1 1 20 0 0 [.ref m] [(m, .inr (1, [.int 0, .int 0, .int 0, .int 0, .int 0, .int 0, .int 0]))] (fun q => [(m, .inr (1, [.int 0, .int 0, .int 0, .int 0, .int 0, .int 0, .int 0]))]) := by
  refine HN.of (own := RX1) (plainFor_of_name (by decide)) rfl rfl (Nat.le_of_ble_eq_true rfl) ?_
  intro zp ze zs zm za zb zt zc zA ls H locs zq C hr hlk hin hG hl hQ
  have hx := C.1.1
  have hb := C.1.2.1
  replace hl : lv_has ls 1 [(0, .ref m)] := hl
  refine lv_aload_n hx hb dX1_init_0 rfl (lv_at hl 0 rfl) ?_
  refine z_obj C hl (inr3 _ (List.mem_of_getElem? (i := 12) rfl)) dX1_init_1 (Nat.le_of_ble_eq_true rfl) (Nat.le_of_ble_eq_true rfl) (Nat.le_of_ble_eq_true rfl) ?_
  rw [hQ]
  exact z_vret2 C hr hlk hG dX1_init_4 (fun i => [].getD i 0) rfl
set_option maxRecDepth 100000 in
set_option maxHeartbeats 4000000 in
theorem c_X2_init (l : Launch) (E : zE) (m : Nat) : HN l E yX2_init cX2_init 1 1 20 2 204 [.ref m] [(m, .inr (2, [.null, .null, .int 0, .int 0]))] (fun q => [(m, .inr (2, [.ref (q 0), .ref (q 1), .int 0, .int 0])), ((q 0), .inl (E.2.1.1, 200, .inl (fun _ => 0))), ((q 1), .inl (E.2.1.1, 4, .inl (fun _ => 0)))]) := by
  refine HN.of (own := RX2) (plainFor_of_name (by decide)) rfl rfl (Nat.le_of_ble_eq_true rfl) ?_
  intro zp ze zs zm za zb zt zc zA ls H locs zq C hr hlk hin hG hl hQ
  have hx := C.1.1
  have hb := C.1.2.1
  replace hl : lv_has ls 1 [(0, .ref m)] := hl
  refine lv_aload_n hx hb dX2_init_0 rfl (lv_at hl 0 rfl) ?_
  refine z_obj C hl (inr2 _ (List.mem_of_getElem? (i := 17) rfl)) dX2_init_1 (Nat.le_of_ble_eq_true rfl) (Nat.le_of_ble_eq_true rfl) (Nat.le_of_ble_eq_true rfl) ?_
  refine lv_aload_n hx hb dX2_init_4 rfl (lv_at hl 0 rfl) ?_
  refine lv_sipush (v := 200) hx hb dX2_init_5 (by decide) ?_
  refine z_newI C hG (N := 200) (by decide) (by decide) (by decide) (Nat.le_of_ble_eq_true rfl) (Nat.le_of_ble_eq_true rfl) dX2_init_8 (fun q8 H hG => ?_)
  have hG : zG E zA zs.heap [(m, .inr (2, [.null, .null, .int 0, .int 0])), (q8, .inl (E.2.1.1, 200, .inl (fun _ => 0)))] H locs := hG
  refine pf_X2_9 C dX2_init_10 hG 0 rfl (Nat.le_of_ble_eq_true rfl) hin (ws' := [(m, .inr (2, [.ref q8, .null, .int 0, .int 0])), (q8, .inl (E.2.1.1, 200, .inl (fun _ => 0)))]) rfl (fun H locs hG => ?_)
  refine lv_aload_n hx hb dX2_init_13 rfl (lv_at hl 0 rfl) ?_
  refine lv_iconst (v := 4) hx hb dX2_init_14 (by decide) ?_
  refine z_newI C hG (N := 4) (by decide) (by decide) (by decide) (Nat.le_of_ble_eq_true rfl) (Nat.le_of_ble_eq_true rfl) dX2_init_15 (fun q15 H hG => ?_)
  have hG : zG E zA zs.heap [(m, .inr (2, [.ref q8, .null, .int 0, .int 0])), (q8, .inl (E.2.1.1, 200, .inl (fun _ => 0))), (q15, .inl (E.2.1.1, 4, .inl (fun _ => 0)))] H locs := hG
  refine pf_X2_15 C dX2_init_17 hG 0 rfl (Nat.le_of_ble_eq_true rfl) hin (ws' := [(m, .inr (2, [.ref q8, .ref q15, .int 0, .int 0])), (q8, .inl (E.2.1.1, 200, .inl (fun _ => 0))), (q15, .inl (E.2.1.1, 4, .inl (fun _ => 0)))]) rfl (fun H locs hG => ?_)
  rw [hQ]
  exact z_vret2 C hr hlk hG dX2_init_20 (fun i => [q8, q15].getD i 0) rfl
set_option maxRecDepth 100000 in
set_option maxHeartbeats 4000000 in
theorem c_X6_init (l : Launch) (E : zE) (m : Nat) : HN l E yX6_init cX6_init 1 1 20 2 24 [.ref m] [(m, .inr (6, [.null, .null, .int 0, .int 0]))] (fun q => [(m, .inr (6, [.ref (q 0), .ref (q 1), .int 0, .int 0])), ((q 0), .inl (E.2.1.1, 12, .inl (fun _ => 0))), ((q 1), .inl (E.2.1.1, 12, .inl (fun _ => 0)))]) := by
  refine HN.of (own := RX6) (plainFor_of_name (by decide)) rfl rfl (Nat.le_of_ble_eq_true rfl) ?_
  intro zp ze zs zm za zb zt zc zA ls H locs zq C hr hlk hin hG hl hQ
  have hx := C.1.1
  have hb := C.1.2.1
  replace hl : lv_has ls 1 [(0, .ref m)] := hl
  refine lv_aload_n hx hb dX6_init_0 rfl (lv_at hl 0 rfl) ?_
  refine z_obj C hl (inr2 _ (List.mem_of_getElem? (i := 23) rfl)) dX6_init_1 (Nat.le_of_ble_eq_true rfl) (Nat.le_of_ble_eq_true rfl) (Nat.le_of_ble_eq_true rfl) ?_
  refine lv_aload_n hx hb dX6_init_4 rfl (lv_at hl 0 rfl) ?_
  refine lv_bipush (v := 12) hx hb dX6_init_5 (by decide) ?_
  refine z_newI C hG (N := 12) (by decide) (by decide) (by decide) (Nat.le_of_ble_eq_true rfl) (Nat.le_of_ble_eq_true rfl) dX6_init_7 (fun q7 H hG => ?_)
  have hG : zG E zA zs.heap [(m, .inr (6, [.null, .null, .int 0, .int 0])), (q7, .inl (E.2.1.1, 12, .inl (fun _ => 0)))] H locs := hG
  refine pf_X6_9 C dX6_init_9 hG 0 rfl (Nat.le_of_ble_eq_true rfl) hin (ws' := [(m, .inr (6, [.ref q7, .null, .int 0, .int 0])), (q7, .inl (E.2.1.1, 12, .inl (fun _ => 0)))]) rfl (fun H locs hG => ?_)
  refine lv_aload_n hx hb dX6_init_12 rfl (lv_at hl 0 rfl) ?_
  refine lv_bipush (v := 12) hx hb dX6_init_13 (by decide) ?_
  refine z_newI C hG (N := 12) (by decide) (by decide) (by decide) (Nat.le_of_ble_eq_true rfl) (Nat.le_of_ble_eq_true rfl) dX6_init_15 (fun q15 H hG => ?_)
  have hG : zG E zA zs.heap [(m, .inr (6, [.ref q7, .null, .int 0, .int 0])), (q7, .inl (E.2.1.1, 12, .inl (fun _ => 0))), (q15, .inl (E.2.1.1, 12, .inl (fun _ => 0)))] H locs := hG
  refine pf_X6_15 C dX6_init_17 hG 0 rfl (Nat.le_of_ble_eq_true rfl) hin (ws' := [(m, .inr (6, [.ref q7, .ref q15, .int 0, .int 0])), (q7, .inl (E.2.1.1, 12, .inl (fun _ => 0))), (q15, .inl (E.2.1.1, 12, .inl (fun _ => 0)))]) rfl (fun H locs hG => ?_)
  rw [hQ]
  exact z_vret2 C hr hlk hG dX6_init_20 (fun i => [q7, q15].getD i 0) rfl
set_option maxRecDepth 100000 in
set_option maxHeartbeats 4000000 in
theorem c_X5_init (l : Launch) (E : zE) (m : Nat) : HN l E yX5_init cX5_init 1 1 20 3 18 [.ref m] [(m, .inr (5, [.null, .null, .null, .int 0]))] (fun q => [(m, .inr (5, [.ref (q 0), .ref (q 1), .ref (q 2), .int 0])), ((q 0), .inl (E.2.1.1, 6, .inl (fun _ => 0))), ((q 1), .inl (E.2.1.1, 6, .inl (fun _ => 0))), ((q 2), .inl (E.2.1.1, 6, .inl (fun _ => 0)))]) := by
  refine HN.of (own := RX5) (plainFor_of_name (by decide)) rfl rfl (Nat.le_of_ble_eq_true rfl) ?_
  intro zp ze zs zm za zb zt zc zA ls H locs zq C hr hlk hin hG hl hQ
  have hx := C.1.1
  have hb := C.1.2.1
  replace hl : lv_has ls 1 [(0, .ref m)] := hl
  refine lv_aload_n hx hb dX5_init_0 rfl (lv_at hl 0 rfl) ?_
  refine z_obj C hl (inr4 _ (List.mem_of_getElem? (i := 4) rfl)) dX5_init_1 (Nat.le_of_ble_eq_true rfl) (Nat.le_of_ble_eq_true rfl) (Nat.le_of_ble_eq_true rfl) ?_
  refine lv_aload_n hx hb dX5_init_4 rfl (lv_at hl 0 rfl) ?_
  refine lv_bipush (v := 6) hx hb dX5_init_5 (by decide) ?_
  refine z_newI C hG (N := 6) (by decide) (by decide) (by decide) (Nat.le_of_ble_eq_true rfl) (Nat.le_of_ble_eq_true rfl) dX5_init_7 (fun q7 H hG => ?_)
  have hG : zG E zA zs.heap [(m, .inr (5, [.null, .null, .null, .int 0])), (q7, .inl (E.2.1.1, 6, .inl (fun _ => 0)))] H locs := hG
  refine pf_X5_9 C dX5_init_9 hG 0 rfl (Nat.le_of_ble_eq_true rfl) hin (ws' := [(m, .inr (5, [.ref q7, .null, .null, .int 0])), (q7, .inl (E.2.1.1, 6, .inl (fun _ => 0)))]) rfl (fun H locs hG => ?_)
  refine lv_aload_n hx hb dX5_init_12 rfl (lv_at hl 0 rfl) ?_
  refine lv_bipush (v := 6) hx hb dX5_init_13 (by decide) ?_
  refine z_newI C hG (N := 6) (by decide) (by decide) (by decide) (Nat.le_of_ble_eq_true rfl) (Nat.le_of_ble_eq_true rfl) dX5_init_15 (fun q15 H hG => ?_)
  have hG : zG E zA zs.heap [(m, .inr (5, [.ref q7, .null, .null, .int 0])), (q7, .inl (E.2.1.1, 6, .inl (fun _ => 0))), (q15, .inl (E.2.1.1, 6, .inl (fun _ => 0)))] H locs := hG
  refine pf_X5_15 C dX5_init_17 hG 0 rfl (Nat.le_of_ble_eq_true rfl) hin (ws' := [(m, .inr (5, [.ref q7, .ref q15, .null, .int 0])), (q7, .inl (E.2.1.1, 6, .inl (fun _ => 0))), (q15, .inl (E.2.1.1, 6, .inl (fun _ => 0)))]) rfl (fun H locs hG => ?_)
  refine lv_aload_n hx hb dX5_init_20 rfl (lv_at hl 0 rfl) ?_
  refine lv_bipush (v := 6) hx hb dX5_init_21 (by decide) ?_
  refine z_newI C hG (N := 6) (by decide) (by decide) (by decide) (Nat.le_of_ble_eq_true rfl) (Nat.le_of_ble_eq_true rfl) dX5_init_23 (fun q23 H hG => ?_)
  have hG : zG E zA zs.heap [(m, .inr (5, [.ref q7, .ref q15, .null, .int 0])), (q7, .inl (E.2.1.1, 6, .inl (fun _ => 0))), (q15, .inl (E.2.1.1, 6, .inl (fun _ => 0))), (q23, .inl (E.2.1.1, 6, .inl (fun _ => 0)))] H locs := hG
  refine pf_X5_18 C dX5_init_25 hG 0 rfl (Nat.le_of_ble_eq_true rfl) hin (ws' := [(m, .inr (5, [.ref q7, .ref q15, .ref q23, .int 0])), (q7, .inl (E.2.1.1, 6, .inl (fun _ => 0))), (q15, .inl (E.2.1.1, 6, .inl (fun _ => 0))), (q23, .inl (E.2.1.1, 6, .inl (fun _ => 0)))]) rfl (fun H locs hG => ?_)
  rw [hQ]
  exact z_vret2 C hr hlk hG dX5_init_28 (fun i => [q7, q15, q23].getD i 0) rfl
set_option maxRecDepth 100000 in
set_option maxHeartbeats 4000000 in
theorem c_X0_init (l : Launch) (E : zE) (m : Nat) : HN l E yX0_init cX0_init 1 2 40 2 14 [.ref m] [(m, .inr (0, [.null, .null, .int 0, .int 0]))] (fun q => [(m, .inr (0, [.ref (q 0), .ref (q 1), .int 0, .int 0])), ((q 0), .inr (1, [.int 0, .int 0, .int 0, .int 0, .int 0, .int 0, .int 0])), ((q 1), .inr (1, [.int 0, .int 0, .int 0, .int 0, .int 0, .int 0, .int 0]))]) := by
  refine HN.of (own := RX0) (plainFor_of_name (by decide)) rfl rfl (Nat.le_of_ble_eq_true rfl) ?_
  intro zp ze zs zm za zb zt zc zA ls H locs zq C hr hlk hin hG hl hQ
  have hx := C.1.1
  have hb := C.1.2.1
  replace hl : lv_has ls 1 [(0, .ref m)] := hl
  refine lv_aload_n hx hb dX0_init_0 rfl (lv_at hl 0 rfl) ?_
  refine z_obj C hl (inr3 _ (List.mem_of_getElem? (i := 4) rfl)) dX0_init_1 (Nat.le_of_ble_eq_true rfl) (Nat.le_of_ble_eq_true rfl) (Nat.le_of_ble_eq_true rfl) ?_
  refine lv_aload_n hx hb dX0_init_4 rfl (lv_at hl 0 rfl) ?_
  refine z_new C hG (Cn := RX1) (T := TX1) (N := 7) (ci := 1) inlX1 tyX1 tyX1_ok rfl (inr3 _ (List.mem_of_getElem? (i := 5) rfl)) (inr3 _ (List.mem_of_getElem? (i := 6) rfl)) (inr3 _ (List.mem_of_getElem? (i := 7) rfl)) (fs := [.int 0, .int 0, .int 0, .int 0, .int 0, .int 0, .int 0]) (by decide +kernel) (Nat.le_of_ble_eq_true rfl) (Nat.le_of_ble_eq_true rfl) dX0_init_5 (fun q5 H hG => ?_)
  have hG : zG E zA zs.heap [(m, .inr (0, [.null, .null, .int 0, .int 0])), (q5, .inr (1, [.int 0, .int 0, .int 0, .int 0, .int 0, .int 0, .int 0]))] H locs := hG
  refine lv_dup hx hb dX0_init_8 rfl ?_
  refine z_callIN (n := 0) C (inr3 _ (List.mem_of_getElem? (i := 11) rfl)) (inr3 _ (List.mem_of_getElem? (i := 7) rfl)) (host := RX7) (List.mem_of_getElem? (i := 3) rfl) (inr3 _ (List.mem_of_getElem? (i := 10) rfl)) rfl ⟨by decide +kernel, by decide +kernel, by decide +kernel⟩ dX0_init_9 (c_X1_init l E q5) hl hG [1] [0] rfl (wr := [(m, .inr (0, [.null, .null, .int 0, .int 0]))]) rfl rfl rfl (by decide) rfl (st0 := [.ref q5, .ref q5, .ref m]) (rest := [.ref q5, .ref m]) rfl (Nat.le_of_ble_eq_true rfl) ⟨Nat.le_of_ble_eq_true rfl, Nat.le_of_ble_eq_true rfl⟩ ⟨Nat.le_of_ble_eq_true rfl, Nat.le_of_ble_eq_true rfl⟩ (fun z9 H locs hG => ?_)
  have hG : zG E zA zs.heap [(m, .inr (0, [.null, .null, .int 0, .int 0])), (q5, .inr (1, [.int 0, .int 0, .int 0, .int 0, .int 0, .int 0, .int 0]))] H locs := hG
  refine pf_X0_12 C dX0_init_12 hG 0 rfl (Nat.le_of_ble_eq_true rfl) hin (ws' := [(m, .inr (0, [.ref q5, .null, .int 0, .int 0])), (q5, .inr (1, [.int 0, .int 0, .int 0, .int 0, .int 0, .int 0, .int 0]))]) rfl (fun H locs hG => ?_)
  refine lv_aload_n hx hb dX0_init_15 rfl (lv_at hl 0 rfl) ?_
  refine z_new C hG (Cn := RX1) (T := TX1) (N := 7) (ci := 1) inlX1 tyX1 tyX1_ok rfl (inr3 _ (List.mem_of_getElem? (i := 5) rfl)) (inr3 _ (List.mem_of_getElem? (i := 6) rfl)) (inr3 _ (List.mem_of_getElem? (i := 7) rfl)) (fs := [.int 0, .int 0, .int 0, .int 0, .int 0, .int 0, .int 0]) (by decide +kernel) (Nat.le_of_ble_eq_true rfl) (Nat.le_of_ble_eq_true rfl) dX0_init_16 (fun q16 H hG => ?_)
  have hG : zG E zA zs.heap [(m, .inr (0, [.ref q5, .null, .int 0, .int 0])), (q5, .inr (1, [.int 0, .int 0, .int 0, .int 0, .int 0, .int 0, .int 0])), (q16, .inr (1, [.int 0, .int 0, .int 0, .int 0, .int 0, .int 0, .int 0]))] H locs := hG
  refine lv_dup hx hb dX0_init_19 rfl ?_
  refine z_callIN (n := 0) C (inr3 _ (List.mem_of_getElem? (i := 11) rfl)) (inr3 _ (List.mem_of_getElem? (i := 7) rfl)) (host := RX7) (List.mem_of_getElem? (i := 3) rfl) (inr3 _ (List.mem_of_getElem? (i := 10) rfl)) rfl ⟨by decide +kernel, by decide +kernel, by decide +kernel⟩ dX0_init_20 (c_X1_init l E q16) hl hG [2] [0, 1] rfl (wr := [(m, .inr (0, [.ref q5, .null, .int 0, .int 0])), (q5, .inr (1, [.int 0, .int 0, .int 0, .int 0, .int 0, .int 0, .int 0]))]) rfl rfl rfl (by decide) rfl (st0 := [.ref q16, .ref q16, .ref m]) (rest := [.ref q16, .ref m]) rfl (Nat.le_of_ble_eq_true rfl) ⟨Nat.le_of_ble_eq_true rfl, Nat.le_of_ble_eq_true rfl⟩ ⟨Nat.le_of_ble_eq_true rfl, Nat.le_of_ble_eq_true rfl⟩ (fun z20 H locs hG => ?_)
  have hG : zG E zA zs.heap [(m, .inr (0, [.ref q5, .null, .int 0, .int 0])), (q5, .inr (1, [.int 0, .int 0, .int 0, .int 0, .int 0, .int 0, .int 0])), (q16, .inr (1, [.int 0, .int 0, .int 0, .int 0, .int 0, .int 0, .int 0]))] H locs := hG
  refine pf_X0_18 C dX0_init_23 hG 0 rfl (Nat.le_of_ble_eq_true rfl) hin (ws' := [(m, .inr (0, [.ref q5, .ref q16, .int 0, .int 0])), (q5, .inr (1, [.int 0, .int 0, .int 0, .int 0, .int 0, .int 0, .int 0])), (q16, .inr (1, [.int 0, .int 0, .int 0, .int 0, .int 0, .int 0, .int 0]))]) rfl (fun H locs hG => ?_)
  rw [hQ]
  exact z_vret2 C hr hlk hG dX0_init_26 (fun i => [q5, q16].getD i 0) rfl
set_option maxRecDepth 100000 in
set_option maxHeartbeats 4000000 in
theorem c_X4_init_8 (l : Launch) (E : zE) (m : Nat) : HN l E yX4_init cX4_init 2 1 30 1 96 [.ref m, .int 8] [(m, .inr (4, [.int 0, .null, .int 0]))] (fun q => [(m, .inr (4, [.int 8, .ref (q 0), .int 0])), ((q 0), .inl (E.2.1.1, 96, .inl (fun _ => 0)))]) := by
  refine HN.of (own := RX4) (plainFor_of_name (by decide)) rfl rfl (Nat.le_of_ble_eq_true rfl) ?_
  intro zp ze zs zm za zb zt zc zA ls H locs zq C hr hlk hin hG hl hQ
  have hx := C.1.1
  have hb := C.1.2.1
  replace hl : lv_has ls 2 [(0, .ref m), (1, .int 8)] := hl
  refine lv_aload_n hx hb dX4_init_0 rfl (lv_at hl 0 rfl) ?_
  refine z_obj C hl (inr3 _ (List.mem_of_getElem? (i := 16) rfl)) dX4_init_1 (Nat.le_of_ble_eq_true rfl) (Nat.le_of_ble_eq_true rfl) (Nat.le_of_ble_eq_true rfl) ?_
  refine lv_aload_n hx hb dX4_init_4 rfl (lv_at hl 0 rfl) ?_
  refine lv_iconst (v := 1) hx hb dX4_init_5 (by decide) ?_
  refine lv_iload_n hx hb dX4_init_6 rfl (lv_at hl 1 rfl) ?_
  refine lv_bipush (v := 8) hx hb dX4_init_7 (by decide) ?_
  refine va_mmin C.1.1 C.1.2.1 (by rw [hl.1]; exact C.1.2.2.1) C.1.2.2.2.1 (C.1.2.2.2.2 _ (inr3 _ (List.mem_of_getElem? (i := 17) rfl))) (C.1.2.2.2.2 _ (inr3 _ (List.mem_of_getElem? (i := 18) rfl))) (C.1.2.2.2.2 _ (inr3 _ (List.mem_of_getElem? (i := 19) rfl))) (C.1.2.2.2.2 _ (inr3 _ (List.mem_of_getElem? (i := 20) rfl))) (Nat.le_of_ble_eq_true rfl) (Nat.le_of_ble_eq_true rfl) (Nat.le_of_ble_eq_true rfl) (Nat.le_of_ble_eq_true rfl) dX4_init_9 ?_
  refine z_ti (y := 8) (by decide) ?_
  refine va_mmax C.1.1 C.1.2.1 (by rw [hl.1]; exact C.1.2.2.1) C.1.2.2.2.1 (C.1.2.2.2.2 _ (inr3 _ (List.mem_of_getElem? (i := 21) rfl))) (C.1.2.2.2.2 _ (inr3 _ (List.mem_of_getElem? (i := 22) rfl))) (C.1.2.2.2.2 _ (inr3 _ (List.mem_of_getElem? (i := 19) rfl))) (C.1.2.2.2.2 _ (inr3 _ (List.mem_of_getElem? (i := 23) rfl))) (Nat.le_of_ble_eq_true rfl) (Nat.le_of_ble_eq_true rfl) (Nat.le_of_ble_eq_true rfl) (Nat.le_of_ble_eq_true rfl) dX4_init_12 ?_
  refine z_ti (y := 8) (by decide) ?_
  refine pf_X4_18 C dX4_init_15 hG 0 rfl (Nat.le_of_ble_eq_true rfl) hin (ws' := [(m, .inr (4, [.int 8, .null, .int 0]))]) rfl (fun H locs hG => ?_)
  refine lv_aload_n hx hb dX4_init_18 rfl (lv_at hl 0 rfl) ?_
  refine lv_aload_n hx hb dX4_init_19 rfl (lv_at hl 0 rfl) ?_
  refine gf_X4_18 C dX4_init_20 hG 0 rfl rfl ?_
  refine lv_bipush (v := 12) hx hb dX4_init_23 (by decide) ?_
  refine lv_imul hx hb dX4_init_25 ?_
  refine z_ti (y := 96) (by decide) ?_
  refine z_newI C hG (N := 96) (by decide) (by decide) (by decide) (Nat.le_of_ble_eq_true rfl) (Nat.le_of_ble_eq_true rfl) dX4_init_26 (fun q26 H hG => ?_)
  have hG : zG E zA zs.heap [(m, .inr (4, [.int 8, .null, .int 0])), (q26, .inl (E.2.1.1, 96, .inl (fun _ => 0)))] H locs := hG
  refine pf_X4_26 C dX4_init_28 hG 0 rfl (Nat.le_of_ble_eq_true rfl) hin (ws' := [(m, .inr (4, [.int 8, .ref q26, .int 0])), (q26, .inl (E.2.1.1, 96, .inl (fun _ => 0)))]) rfl (fun H locs hG => ?_)
  rw [hQ]
  exact z_vret2 C hr hlk hG dX4_init_31 (fun i => [q26].getD i 0) rfl
set_option maxRecDepth 100000 in
set_option maxHeartbeats 4000000 in
theorem c_X4_init_2 (l : Launch) (E : zE) (m : Nat) : HN l E yX4_init cX4_init 2 1 30 1 24 [.ref m, .int 2] [(m, .inr (4, [.int 0, .null, .int 0]))] (fun q => [(m, .inr (4, [.int 2, .ref (q 0), .int 0])), ((q 0), .inl (E.2.1.1, 24, .inl (fun _ => 0)))]) := by
  refine HN.of (own := RX4) (plainFor_of_name (by decide)) rfl rfl (Nat.le_of_ble_eq_true rfl) ?_
  intro zp ze zs zm za zb zt zc zA ls H locs zq C hr hlk hin hG hl hQ
  have hx := C.1.1
  have hb := C.1.2.1
  replace hl : lv_has ls 2 [(0, .ref m), (1, .int 2)] := hl
  refine lv_aload_n hx hb dX4_init_0 rfl (lv_at hl 0 rfl) ?_
  refine z_obj C hl (inr3 _ (List.mem_of_getElem? (i := 16) rfl)) dX4_init_1 (Nat.le_of_ble_eq_true rfl) (Nat.le_of_ble_eq_true rfl) (Nat.le_of_ble_eq_true rfl) ?_
  refine lv_aload_n hx hb dX4_init_4 rfl (lv_at hl 0 rfl) ?_
  refine lv_iconst (v := 1) hx hb dX4_init_5 (by decide) ?_
  refine lv_iload_n hx hb dX4_init_6 rfl (lv_at hl 1 rfl) ?_
  refine lv_bipush (v := 8) hx hb dX4_init_7 (by decide) ?_
  refine va_mmin C.1.1 C.1.2.1 (by rw [hl.1]; exact C.1.2.2.1) C.1.2.2.2.1 (C.1.2.2.2.2 _ (inr3 _ (List.mem_of_getElem? (i := 17) rfl))) (C.1.2.2.2.2 _ (inr3 _ (List.mem_of_getElem? (i := 18) rfl))) (C.1.2.2.2.2 _ (inr3 _ (List.mem_of_getElem? (i := 19) rfl))) (C.1.2.2.2.2 _ (inr3 _ (List.mem_of_getElem? (i := 20) rfl))) (Nat.le_of_ble_eq_true rfl) (Nat.le_of_ble_eq_true rfl) (Nat.le_of_ble_eq_true rfl) (Nat.le_of_ble_eq_true rfl) dX4_init_9 ?_
  refine z_ti (y := 2) (by decide) ?_
  refine va_mmax C.1.1 C.1.2.1 (by rw [hl.1]; exact C.1.2.2.1) C.1.2.2.2.1 (C.1.2.2.2.2 _ (inr3 _ (List.mem_of_getElem? (i := 21) rfl))) (C.1.2.2.2.2 _ (inr3 _ (List.mem_of_getElem? (i := 22) rfl))) (C.1.2.2.2.2 _ (inr3 _ (List.mem_of_getElem? (i := 19) rfl))) (C.1.2.2.2.2 _ (inr3 _ (List.mem_of_getElem? (i := 23) rfl))) (Nat.le_of_ble_eq_true rfl) (Nat.le_of_ble_eq_true rfl) (Nat.le_of_ble_eq_true rfl) (Nat.le_of_ble_eq_true rfl) dX4_init_12 ?_
  refine z_ti (y := 2) (by decide) ?_
  refine pf_X4_18 C dX4_init_15 hG 0 rfl (Nat.le_of_ble_eq_true rfl) hin (ws' := [(m, .inr (4, [.int 2, .null, .int 0]))]) rfl (fun H locs hG => ?_)
  refine lv_aload_n hx hb dX4_init_18 rfl (lv_at hl 0 rfl) ?_
  refine lv_aload_n hx hb dX4_init_19 rfl (lv_at hl 0 rfl) ?_
  refine gf_X4_18 C dX4_init_20 hG 0 rfl rfl ?_
  refine lv_bipush (v := 12) hx hb dX4_init_23 (by decide) ?_
  refine lv_imul hx hb dX4_init_25 ?_
  refine z_ti (y := 24) (by decide) ?_
  refine z_newI C hG (N := 24) (by decide) (by decide) (by decide) (Nat.le_of_ble_eq_true rfl) (Nat.le_of_ble_eq_true rfl) dX4_init_26 (fun q26 H hG => ?_)
  have hG : zG E zA zs.heap [(m, .inr (4, [.int 2, .null, .int 0])), (q26, .inl (E.2.1.1, 24, .inl (fun _ => 0)))] H locs := hG
  refine pf_X4_26 C dX4_init_28 hG 0 rfl (Nat.le_of_ble_eq_true rfl) hin (ws' := [(m, .inr (4, [.int 2, .ref q26, .int 0])), (q26, .inl (E.2.1.1, 24, .inl (fun _ => 0)))]) rfl (fun H locs hG => ?_)
  rw [hQ]
  exact z_vret2 C hr hlk hG dX4_init_31 (fun i => [q26].getD i 0) rfl
set_option maxRecDepth 100000 in
set_option maxHeartbeats 4000000 in
theorem c_X3_init (l : Launch) (E : zE) (m qS : Nat) : HN l E yX3_init cX3_init 2 3 60 5 95 [.ref m, .ref qS] [(m, .inr (3, [.null, .null, .null, .null, .int 0, .int 0, .int 0]))] (fun q => [(m, .inr (3, [.ref qS, .ref (q 0), .ref (q 3), .ref (q 4), .int 0, .int 0, .int 0])), ((q 0), .inr (0, [.ref (q 1), .ref (q 2), .int 0, .int 0])), ((q 1), .inr (1, [.int 0, .int 0, .int 0, .int 0, .int 0, .int 0, .int 0])), ((q 2), .inr (1, [.int 0, .int 0, .int 0, .int 0, .int 0, .int 0, .int 0])), ((q 3), .inl (E.2.1.1, 72, .inl (fun _ => 0))), ((q 4), .inl (E.2.1.1, 5, .inl (fun _ => 0)))]) := by
  refine HN.of (own := RX3) (plainFor_of_name (by decide)) rfl rfl (Nat.le_of_ble_eq_true rfl) ?_
  intro zp ze zs zm za zb zt zc zA ls H locs zq C hr hlk hin hG hl hQ
  have hx := C.1.1
  have hb := C.1.2.1
  replace hl : lv_has ls 2 [(0, .ref m), (1, .ref qS)] := hl
  refine lv_aload_n hx hb dX3_init_0 rfl (lv_at hl 0 rfl) ?_
  refine z_obj C hl (inr4 _ (List.mem_of_getElem? (i := 11) rfl)) dX3_init_1 (Nat.le_of_ble_eq_true rfl) (Nat.le_of_ble_eq_true rfl) (Nat.le_of_ble_eq_true rfl) ?_
  refine lv_aload_n hx hb dX3_init_4 rfl (lv_at hl 0 rfl) ?_
  refine z_new C hG (Cn := RX0) (T := TX0) (N := 4) (ci := 0) inlX0 tyX0 tyX0_ok rfl (inr4 _ (List.mem_of_getElem? (i := 12) rfl)) (inr1 _ (List.mem_of_getElem? (i := 21) rfl)) (inr1 _ (List.mem_of_getElem? (i := 22) rfl)) (fs := [.null, .null, .int 0, .int 0]) (by decide +kernel) (Nat.le_of_ble_eq_true rfl) (Nat.le_of_ble_eq_true rfl) dX3_init_5 (fun q5 H hG => ?_)
  have hG : zG E zA zs.heap [(m, .inr (3, [.null, .null, .null, .null, .int 0, .int 0, .int 0])), (q5, .inr (0, [.null, .null, .int 0, .int 0]))] H locs := hG
  refine lv_dup hx hb dX3_init_8 rfl ?_
  refine z_callIN (n := 0) C (inr3 _ (List.mem_of_getElem? (i := 3) rfl)) (inr1 _ (List.mem_of_getElem? (i := 22) rfl)) (host := RX7) (List.mem_of_getElem? (i := 5) rfl) (inr3 _ (List.mem_of_getElem? (i := 2) rfl)) rfl ⟨by decide +kernel, by decide +kernel, by decide +kernel⟩ dX3_init_9 (c_X0_init l E q5) hl hG [1] [0] rfl (wr := [(m, .inr (3, [.null, .null, .null, .null, .int 0, .int 0, .int 0]))]) rfl rfl rfl (by decide) rfl (st0 := [.ref q5, .ref q5, .ref m]) (rest := [.ref q5, .ref m]) rfl (Nat.le_of_ble_eq_true rfl) ⟨Nat.le_of_ble_eq_true rfl, Nat.le_of_ble_eq_true rfl⟩ ⟨Nat.le_of_ble_eq_true rfl, Nat.le_of_ble_eq_true rfl⟩ (fun z9 H locs hG => ?_)
  have hG : zG E zA zs.heap [(m, .inr (3, [.null, .null, .null, .null, .int 0, .int 0, .int 0])), (q5, .inr (0, [.ref (z9 0), .ref (z9 1), .int 0, .int 0])), ((z9 0), .inr (1, [.int 0, .int 0, .int 0, .int 0, .int 0, .int 0, .int 0])), ((z9 1), .inr (1, [.int 0, .int 0, .int 0, .int 0, .int 0, .int 0, .int 0]))] H locs := hG
  refine pf_X3_12 C dX3_init_12 hG 0 rfl (Nat.le_of_ble_eq_true rfl) hin (ws' := [(m, .inr (3, [.null, .ref q5, .null, .null, .int 0, .int 0, .int 0])), (q5, .inr (0, [.ref (z9 0), .ref (z9 1), .int 0, .int 0])), ((z9 0), .inr (1, [.int 0, .int 0, .int 0, .int 0, .int 0, .int 0, .int 0])), ((z9 1), .inr (1, [.int 0, .int 0, .int 0, .int 0, .int 0, .int 0, .int 0]))]) rfl (fun H locs hG => ?_)
  refine lv_aload_n hx hb dX3_init_15 rfl (lv_at hl 0 rfl) ?_
  refine lv_bipush (v := 72) hx hb dX3_init_16 (by decide) ?_
  refine z_newI C hG (N := 72) (by decide) (by decide) (by decide) (Nat.le_of_ble_eq_true rfl) (Nat.le_of_ble_eq_true rfl) dX3_init_18 (fun q18 H hG => ?_)
  have hG : zG E zA zs.heap [(m, .inr (3, [.null, .ref q5, .null, .null, .int 0, .int 0, .int 0])), (q5, .inr (0, [.ref (z9 0), .ref (z9 1), .int 0, .int 0])), ((z9 0), .inr (1, [.int 0, .int 0, .int 0, .int 0, .int 0, .int 0, .int 0])), ((z9 1), .inr (1, [.int 0, .int 0, .int 0, .int 0, .int 0, .int 0, .int 0])), (q18, .inl (E.2.1.1, 72, .inl (fun _ => 0)))] H locs := hG
  refine pf_X3_18 C dX3_init_20 hG 0 rfl (Nat.le_of_ble_eq_true rfl) hin (ws' := [(m, .inr (3, [.null, .ref q5, .ref q18, .null, .int 0, .int 0, .int 0])), (q5, .inr (0, [.ref (z9 0), .ref (z9 1), .int 0, .int 0])), ((z9 0), .inr (1, [.int 0, .int 0, .int 0, .int 0, .int 0, .int 0, .int 0])), ((z9 1), .inr (1, [.int 0, .int 0, .int 0, .int 0, .int 0, .int 0, .int 0])), (q18, .inl (E.2.1.1, 72, .inl (fun _ => 0)))]) rfl (fun H locs hG => ?_)
  refine lv_aload_n hx hb dX3_init_23 rfl (lv_at hl 0 rfl) ?_
  refine lv_iconst (v := 5) hx hb dX3_init_24 (by decide) ?_
  refine z_newI C hG (N := 5) (by decide) (by decide) (by decide) (Nat.le_of_ble_eq_true rfl) (Nat.le_of_ble_eq_true rfl) dX3_init_25 (fun q25 H hG => ?_)
  have hG : zG E zA zs.heap [(m, .inr (3, [.null, .ref q5, .ref q18, .null, .int 0, .int 0, .int 0])), (q5, .inr (0, [.ref (z9 0), .ref (z9 1), .int 0, .int 0])), ((z9 0), .inr (1, [.int 0, .int 0, .int 0, .int 0, .int 0, .int 0, .int 0])), ((z9 1), .inr (1, [.int 0, .int 0, .int 0, .int 0, .int 0, .int 0, .int 0])), (q18, .inl (E.2.1.1, 72, .inl (fun _ => 0))), (q25, .inl (E.2.1.1, 5, .inl (fun _ => 0)))] H locs := hG
  refine pf_X3_22 C dX3_init_27 hG 0 rfl (Nat.le_of_ble_eq_true rfl) hin (ws' := [(m, .inr (3, [.null, .ref q5, .ref q18, .ref q25, .int 0, .int 0, .int 0])), (q5, .inr (0, [.ref (z9 0), .ref (z9 1), .int 0, .int 0])), ((z9 0), .inr (1, [.int 0, .int 0, .int 0, .int 0, .int 0, .int 0, .int 0])), ((z9 1), .inr (1, [.int 0, .int 0, .int 0, .int 0, .int 0, .int 0, .int 0])), (q18, .inl (E.2.1.1, 72, .inl (fun _ => 0))), (q25, .inl (E.2.1.1, 5, .inl (fun _ => 0)))]) rfl (fun H locs hG => ?_)
  refine lv_aload_n hx hb dX3_init_30 rfl (lv_at hl 0 rfl) ?_
  refine lv_aload_n hx hb dX3_init_31 rfl (lv_at hl 1 rfl) ?_
  refine pf_X3_25 C dX3_init_32 hG 0 rfl (Nat.le_of_ble_eq_true rfl) hin (ws' := [(m, .inr (3, [.ref qS, .ref q5, .ref q18, .ref q25, .int 0, .int 0, .int 0])), (q5, .inr (0, [.ref (z9 0), .ref (z9 1), .int 0, .int 0])), ((z9 0), .inr (1, [.int 0, .int 0, .int 0, .int 0, .int 0, .int 0, .int 0])), ((z9 1), .inr (1, [.int 0, .int 0, .int 0, .int 0, .int 0, .int 0, .int 0])), (q18, .inl (E.2.1.1, 72, .inl (fun _ => 0))), (q25, .inl (E.2.1.1, 5, .inl (fun _ => 0)))]) rfl (fun H locs hG => ?_)
  rw [hQ]
  exact z_vret2 C hr hlk hG dX3_init_35 (fun i => [q5, (z9 0), (z9 1), q18, q25].getD i 0) rfl
