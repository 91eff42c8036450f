set_option maxRecDepth 100000 in
set_option maxHeartbeats 4000000 in
theorem c_X8_init (l : Launch) (E : zE) (m : Nat) : HN l E yX8_init cX8_init 2 1 20 8 404 [.ref m] [(m, .inr (8, [.int 0, .int 0, .null, .int 0, .int 0, .int 0, .null, .int 0, .null, .int 0, .int 0, .int 0, .null, .int 0, .int 0, .int 0, .int 0, .null, .null, .null, .null, .int 0, .int 0]))] (fun q => [(m, .inr (8, [.int 10, .int 2, .ref (q 0), .int 192, .int 0, .int 0, .ref (q 1), .int 0, .ref (q 2), .int 0, .int 0, .int 0, .ref (q 3), .int 0, .int 0, .int 0, .int 0, .ref (q 4), .ref (q 5), .ref (q 6), .ref (q 7), .int 0, .int 0])), ((q 0), .inl (E.2.1.1, 12, .inl (upd (upd (upd (upd (upd (upd (upd (upd (upd (upd (upd (upd (fun _ => 0) 0 2) 1 3) 2 5) 3 5) 4 5) 5 8) 6 9) 7 8) 8 5) 9 5) 10 5) 11 2))), ((q 1), .inl (E.2.1.1, 12, .inl (fun _ => 0))), ((q 2), .inl (E.2.1.1, 156, .inl (upd (upd (upd (upd (upd (upd (upd (fun _ => 0) 1 4) 2 3) 3 5) 6 25) 7 30) 10 9) 12 (-4)))), ((q 3), .inl (E.2.1.2, 200, .inl (fun _ => 0))), ((q 4), .inl (E.2.1.1, 6, .inl (fun _ => 0))), ((q 5), .inl (E.2.1.1, 6, .inl (fun _ => 0))), ((q 6), .inl (E.2.1.1, 6, .inl (fun _ => 0))), ((q 7), .inl (E.2.1.1, 6, .inl (fun _ => 0)))]) := by
  refine HN.of (own := RX8) (plainFor_of_name (by decide)) rfl rfl (Nat.le_of_ble_eq_true rfl) ?_
  intro zp ze zs zm za zb zt zc zA ls H locs zq C hr hlk hin hG hl hQ
  have hx := C.1.1
  have hb := C.1.2.1
  replace hl : lv_has ls 2 [(0, .ref m)] := hl
  refine lv_aload_n hx hb dX8_init_0 rfl (lv_at hl 0 rfl) ?_
  refine z_obj C hl (inr10 _ (List.mem_of_getElem? (i := 0) rfl)) dX8_init_1 (Nat.le_of_ble_eq_true rfl) (Nat.le_of_ble_eq_true rfl) (Nat.le_of_ble_eq_true rfl) ?_
  refine lv_aload_n hx hb dX8_init_4 rfl (lv_at hl 0 rfl) ?_
  refine lv_bipush (v := 12) hx hb dX8_init_5 (by decide) ?_
  refine z_newI C hG (N := 12) (by decide) (by decide) (by decide) (Nat.le_of_ble_eq_true rfl) (Nat.le_of_ble_eq_true rfl) dX8_init_7 (fun q7 H hG => ?_)
  have hG : zG E zA zs.heap [(m, .inr (8, [.int 0, .int 0, .null, .int 0, .int 0, .int 0, .null, .int 0, .null, .int 0, .int 0, .int 0, .null, .int 0, .int 0, .int 0, .int 0, .null, .null, .null, .null, .int 0, .int 0])), (q7, .inl (E.2.1.1, 12, .inl (fun _ => 0)))] H locs := hG
  refine pf_X8_7 C dX8_init_9 hG 0 rfl (Nat.le_of_ble_eq_true rfl) hin (ws' := [(m, .inr (8, [.int 0, .int 0, .ref q7, .int 0, .int 0, .int 0, .null, .int 0, .null, .int 0, .int 0, .int 0, .null, .int 0, .int 0, .int 0, .int 0, .null, .null, .null, .null, .int 0, .int 0])), (q7, .inl (E.2.1.1, 12, .inl (fun _ => 0)))]) rfl (fun H locs hG => ?_)
  refine lv_aload_n hx hb dX8_init_12 rfl (lv_at hl 0 rfl) ?_
  refine lv_bipush (v := 12) hx hb dX8_init_13 (by decide) ?_
  refine z_newI C hG (N := 12) (by decide) (by decide) (by decide) (Nat.le_of_ble_eq_true rfl) (Nat.le_of_ble_eq_true rfl) dX8_init_15 (fun q15 H hG => ?_)
  have hG : zG E zA zs.heap [(m, .inr (8, [.int 0, .int 0, .ref q7, .int 0, .int 0, .int 0, .null, .int 0, .null, .int 0, .int 0, .int 0, .null, .int 0, .int 0, .int 0, .int 0, .null, .null, .null, .null, .int 0, .int 0])), (q7, .inl (E.2.1.1, 12, .inl (fun _ => 0))), (q15, .inl (E.2.1.1, 12, .inl (fun _ => 0)))] H locs := hG
  refine pf_X8_13 C dX8_init_17 hG 0 rfl (Nat.le_of_ble_eq_true rfl) hin (ws' := [(m, .inr (8, [.int 0, .int 0, .ref q7, .int 0, .int 0, .int 0, .ref q15, .int 0, .null, .int 0, .int 0, .int 0, .null, .int 0, .int 0, .int 0, .int 0, .null, .null, .null, .null, .int 0, .int 0])), (q7, .inl (E.2.1.1, 12, .inl (fun _ => 0))), (q15, .inl (E.2.1.1, 12, .inl (fun _ => 0)))]) rfl (fun H locs hG => ?_)
  refine lv_aload_n hx hb dX8_init_20 rfl (lv_at hl 0 rfl) ?_
  refine lv_sipush (v := 156) hx hb dX8_init_21 (by decide) ?_
  refine z_newI C hG (N := 156) (by decide) (by decide) (by decide) (Nat.le_of_ble_eq_true rfl) (Nat.le_of_ble_eq_true rfl) dX8_init_24 (fun q24 H hG => ?_)
  have hG : zG E zA zs.heap [(m, .inr (8, [.int 0, .int 0, .ref q7, .int 0, .int 0, .int 0, .ref q15, .int 0, .null, .int 0, .int 0, .int 0, .null, .int 0, .int 0, .int 0, .int 0, .null, .null, .null, .null, .int 0, .int 0])), (q7, .inl (E.2.1.1, 12, .inl (fun _ => 0))), (q15, .inl (E.2.1.1, 12, .inl (fun _ => 0))), (q24, .inl (E.2.1.1, 156, .inl (fun _ => 0)))] H locs := hG
  refine pf_X8_16 C dX8_init_26 hG 0 rfl (Nat.le_of_ble_eq_true rfl) hin (ws' := [(m, .inr (8, [.int 0, .int 0, .ref q7, .int 0, .int 0, .int 0, .ref q15, .int 0, .ref q24, .int 0, .int 0, .int 0, .null, .int 0, .int 0, .int 0, .int 0, .null, .null, .null, .null, .int 0, .int 0])), (q7, .inl (E.2.1.1, 12, .inl (fun _ => 0))), (q15, .inl (E.2.1.1, 12, .inl (fun _ => 0))), (q24, .inl (E.2.1.1, 156, .inl (fun _ => 0)))]) rfl (fun H locs hG => ?_)
  refine lv_aload_n hx hb dX8_init_29 rfl (lv_at hl 0 rfl) ?_
  refine lv_sipush (v := 200) hx hb dX8_init_30 (by decide) ?_
  refine z_newB C hG (N := 200) (by decide) (by decide) (by decide) (Nat.le_of_ble_eq_true rfl) (Nat.le_of_ble_eq_true rfl) dX8_init_33 (fun q33 H hG => ?_)
  have hG : zG E zA zs.heap [(m, .inr (8, [.int 0, .int 0, .ref q7, .int 0, .int 0, .int 0, .ref q15, .int 0, .ref q24, .int 0, .int 0, .int 0, .null, .int 0, .int 0, .int 0, .int 0, .null, .null, .null, .null, .int 0, .int 0])), (q7, .inl (E.2.1.1, 12, .inl (fun _ => 0))), (q15, .inl (E.2.1.1, 12, .inl (fun _ => 0))), (q24, .inl (E.2.1.1, 156, .inl (fun _ => 0))), (q33, .inl (E.2.1.2, 200, .inl (fun _ => 0)))] H locs := hG
  refine pf_X8_19 C dX8_init_35 hG 0 rfl (Nat.le_of_ble_eq_true rfl) hin (ws' := [(m, .inr (8, [.int 0, .int 0, .ref q7, .int 0, .int 0, .int 0, .ref q15, .int 0, .ref q24, .int 0, .int 0, .int 0, .ref q33, .int 0, .int 0, .int 0, .int 0, .null, .null, .null, .null, .int 0, .int 0])), (q7, .inl (E.2.1.1, 12, .inl (fun _ => 0))), (q15, .inl (E.2.1.1, 12, .inl (fun _ => 0))), (q24, .inl (E.2.1.1, 156, .inl (fun _ => 0))), (q33, .inl (E.2.1.2, 200, .inl (fun _ => 0)))]) rfl (fun H locs hG => ?_)
  refine lv_aload_n hx hb dX8_init_38 rfl (lv_at hl 0 rfl) ?_
  refine lv_bipush (v := 6) hx hb dX8_init_39 (by decide) ?_
  refine z_newI C hG (N := 6) (by decide) (by decide) (by decide) (Nat.le_of_ble_eq_true rfl) (Nat.le_of_ble_eq_true rfl) dX8_init_41 (fun q41 H hG => ?_)
  have hG : zG E zA zs.heap [(m, .inr (8, [.int 0, .int 0, .ref q7, .int 0, .int 0, .int 0, .ref q15, .int 0, .ref q24, .int 0, .int 0, .int 0, .ref q33, .int 0, .int 0, .int 0, .int 0, .null, .null, .null, .null, .int 0, .int 0])), (q7, .inl (E.2.1.1, 12, .inl (fun _ => 0))), (q15, .inl (E.2.1.1, 12, .inl (fun _ => 0))), (q24, .inl (E.2.1.1, 156, .inl (fun _ => 0))), (q33, .inl (E.2.1.2, 200, .inl (fun _ => 0))), (q41, .inl (E.2.1.1, 6, .inl (fun _ => 0)))] H locs := hG
  refine pf_X8_23 C dX8_init_43 hG 0 rfl (Nat.le_of_ble_eq_true rfl) hin (ws' := [(m, .inr (8, [.int 0, .int 0, .ref q7, .int 0, .int 0, .int 0, .ref q15, .int 0, .ref q24, .int 0, .int 0, .int 0, .ref q33, .int 0, .int 0, .int 0, .int 0, .ref q41, .null, .null, .null, .int 0, .int 0])), (q7, .inl (E.2.1.1, 12, .inl (fun _ => 0))), (q15, .inl (E.2.1.1, 12, .inl (fun _ => 0))), (q24, .inl (E.2.1.1, 156, .inl (fun _ => 0))), (q33, .inl (E.2.1.2, 200, .inl (fun _ => 0))), (q41, .inl (E.2.1.1, 6, .inl (fun _ => 0)))]) rfl (fun H locs hG => ?_)
  refine lv_aload_n hx hb dX8_init_46 rfl (lv_at hl 0 rfl) ?_
  refine lv_bipush (v := 6) hx hb dX8_init_47 (by decide) ?_
  refine z_newI C hG (N := 6) (by decide) (by decide) (by decide) (Nat.le_of_ble_eq_true rfl) (Nat.le_of_ble_eq_true rfl) dX8_init_49 (fun q49 H hG => ?_)
  have hG : zG E zA zs.heap [(m, .inr (8, [.int 0, .int 0, .ref q7, .int 0, .int 0, .int 0, .ref q15, .int 0, .ref q24, .int 0, .int 0, .int 0, .ref q33, .int 0, .int 0, .int 0, .int 0, .ref q41, .null, .null, .null, .int 0, .int 0])), (q7, .inl (E.2.1.1, 12, .inl (fun _ => 0))), (q15, .inl (E.2.1.1, 12, .inl (fun _ => 0))), (q24, .inl (E.2.1.1, 156, .inl (fun _ => 0))), (q33, .inl (E.2.1.2, 200, .inl (fun _ => 0))), (q41, .inl (E.2.1.1, 6, .inl (fun _ => 0))), (q49, .inl (E.2.1.1, 6, .inl (fun _ => 0)))] H locs := hG
  refine pf_X8_26 C dX8_init_51 hG 0 rfl (Nat.le_of_ble_eq_true rfl) hin (ws' := [(m, .inr (8, [.int 0, .int 0, .ref q7, .int 0, .int 0, .int 0, .ref q15, .int 0, .ref q24, .int 0, .int 0, .int 0, .ref q33, .int 0, .int 0, .int 0, .int 0, .ref q41, .ref q49, .null, .null, .int 0, .int 0])), (q7, .inl (E.2.1.1, 12, .inl (fun _ => 0))), (q15, .inl (E.2.1.1, 12, .inl (fun _ => 0))), (q24, .inl (E.2.1.1, 156, .inl (fun _ => 0))), (q33, .inl (E.2.1.2, 200, .inl (fun _ => 0))), (q41, .inl (E.2.1.1, 6, .inl (fun _ => 0))), (q49, .inl (E.2.1.1, 6, .inl (fun _ => 0)))]) rfl (fun H locs hG => ?_)
  refine lv_aload_n hx hb dX8_init_54 rfl (lv_at hl 0 rfl) ?_
  refine lv_bipush (v := 6) hx hb dX8_init_55 (by decide) ?_
  refine z_newI C hG (N := 6) (by decide) (by decide) (by decide) (Nat.le_of_ble_eq_true rfl) (Nat.le_of_ble_eq_true rfl) dX8_init_57 (fun q57 H hG => ?_)
  have hG : zG E zA zs.heap [(m, .inr (8, [.int 0, .int 0, .ref q7, .int 0, .int 0, .int 0, .ref q15, .int 0, .ref q24, .int 0, .int 0, .int 0, .ref q33, .int 0, .int 0, .int 0, .int 0, .ref q41, .ref q49, .null, .null, .int 0, .int 0])), (q7, .inl (E.2.1.1, 12, .inl (fun _ => 0))), (q15, .inl (E.2.1.1, 12, .inl (fun _ => 0))), (q24, .inl (E.2.1.1, 156, .inl (fun _ => 0))), (q33, .inl (E.2.1.2, 200, .inl (fun _ => 0))), (q41, .inl (E.2.1.1, 6, .inl (fun _ => 0))), (q49, .inl (E.2.1.1, 6, .inl (fun _ => 0))), (q57, .inl (E.2.1.1, 6, .inl (fun _ => 0)))] H locs := hG
  refine pf_X8_29 C dX8_init_59 hG 0 rfl (Nat.le_of_ble_eq_true rfl) hin (ws' := [(m, .inr (8, [.int 0, .int 0, .ref q7, .int 0, .int 0, .int 0, .ref q15, .int 0, .ref q24, .int 0, .int 0, .int 0, .ref q33, .int 0, .int 0, .int 0, .int 0, .ref q41, .ref q49, .ref q57, .null, .int 0, .int 0])), (q7, .inl (E.2.1.1, 12, .inl (fun _ => 0))), (q15, .inl (E.2.1.1, 12, .inl (fun _ => 0))), (q24, .inl (E.2.1.1, 156, .inl (fun _ => 0))), (q33, .inl (E.2.1.2, 200, .inl (fun _ => 0))), (q41, .inl (E.2.1.1, 6, .inl (fun _ => 0))), (q49, .inl (E.2.1.1, 6, .inl (fun _ => 0))), (q57, .inl (E.2.1.1, 6, .inl (fun _ => 0)))]) rfl (fun H locs hG => ?_)
  refine lv_aload_n hx hb dX8_init_62 rfl (lv_at hl 0 rfl) ?_
  refine lv_bipush (v := 6) hx hb dX8_init_63 (by decide) ?_
  refine z_newI C hG (N := 6) (by decide) (by decide) (by decide) (Nat.le_of_ble_eq_true rfl) (Nat.le_of_ble_eq_true rfl) dX8_init_65 (fun q65 H hG => ?_)
  have hG : zG E zA zs.heap [(m, .inr (8, [.int 0, .int 0, .ref q7, .int 0, .int 0, .int 0, .ref q15, .int 0, .ref q24, .int 0, .int 0, .int 0, .ref q33, .int 0, .int 0, .int 0, .int 0, .ref q41, .ref q49, .ref q57, .null, .int 0, .int 0])), (q7, .inl (E.2.1.1, 12, .inl (fun _ => 0))), (q15, .inl (E.2.1.1, 12, .inl (fun _ => 0))), (q24, .inl (E.2.1.1, 156, .inl (fun _ => 0))), (q33, .inl (E.2.1.2, 200, .inl (fun _ => 0))), (q41, .inl (E.2.1.1, 6, .inl (fun _ => 0))), (q49, .inl (E.2.1.1, 6, .inl (fun _ => 0))), (q57, .inl (E.2.1.1, 6, .inl (fun _ => 0))), (q65, .inl (E.2.1.1, 6, .inl (fun _ => 0)))] H locs := hG
  refine pf_X8_32 C dX8_init_67 hG 0 rfl (Nat.le_of_ble_eq_true rfl) hin (ws' := [(m, .inr (8, [.int 0, .int 0, .ref q7, .int 0, .int 0, .int 0, .ref q15, .int 0, .ref q24, .int 0, .int 0, .int 0, .ref q33, .int 0, .int 0, .int 0, .int 0, .ref q41, .ref q49, .ref q57, .ref q65, .int 0, .int 0])), (q7, .inl (E.2.1.1, 12, .inl (fun _ => 0))), (q15, .inl (E.2.1.1, 12, .inl (fun _ => 0))), (q24, .inl (E.2.1.1, 156, .inl (fun _ => 0))), (q33, .inl (E.2.1.2, 200, .inl (fun _ => 0))), (q41, .inl (E.2.1.1, 6, .inl (fun _ => 0))), (q49, .inl (E.2.1.1, 6, .inl (fun _ => 0))), (q57, .inl (E.2.1.1, 6, .inl (fun _ => 0))), (q65, .inl (E.2.1.1, 6, .inl (fun _ => 0)))]) rfl (fun H locs hG => ?_)
  refine lv_aload_n hx hb dX8_init_70 rfl (lv_at hl 0 rfl) ?_
  refine lv_bipush (v := 10) hx hb dX8_init_71 (by decide) ?_
  refine pf_X8_35 C dX8_init_73 hG 0 rfl (Nat.le_of_ble_eq_true rfl) (ws' := [(m, .inr (8, [.int 10, .int 0, .ref q7, .int 0, .int 0, .int 0, .ref q15, .int 0, .ref q24, .int 0, .int 0, .int 0, .ref q33, .int 0, .int 0, .int 0, .int 0, .ref q41, .ref q49, .ref q57, .ref q65, .int 0, .int 0])), (q7, .inl (E.2.1.1, 12, .inl (fun _ => 0))), (q15, .inl (E.2.1.1, 12, .inl (fun _ => 0))), (q24, .inl (E.2.1.1, 156, .inl (fun _ => 0))), (q33, .inl (E.2.1.2, 200, .inl (fun _ => 0))), (q41, .inl (E.2.1.1, 6, .inl (fun _ => 0))), (q49, .inl (E.2.1.1, 6, .inl (fun _ => 0))), (q57, .inl (E.2.1.1, 6, .inl (fun _ => 0))), (q65, .inl (E.2.1.1, 6, .inl (fun _ => 0)))]) rfl (fun H locs hG => ?_)
  refine lv_aload_n hx hb dX8_init_76 rfl (lv_at hl 0 rfl) ?_
  refine lv_iconst (v := 2) hx hb dX8_init_77 (by decide) ?_
  refine pf_X8_39 C dX8_init_78 hG 0 rfl (Nat.le_of_ble_eq_true rfl) (ws' := [(m, .inr (8, [.int 10, .int 2, .ref q7, .int 0, .int 0, .int 0, .ref q15, .int 0, .ref q24, .int 0, .int 0, .int 0, .ref q33, .int 0, .int 0, .int 0, .int 0, .ref q41, .ref q49, .ref q57, .ref q65, .int 0, .int 0])), (q7, .inl (E.2.1.1, 12, .inl (fun _ => 0))), (q15, .inl (E.2.1.1, 12, .inl (fun _ => 0))), (q24, .inl (E.2.1.1, 156, .inl (fun _ => 0))), (q33, .inl (E.2.1.2, 200, .inl (fun _ => 0))), (q41, .inl (E.2.1.1, 6, .inl (fun _ => 0))), (q49, .inl (E.2.1.1, 6, .inl (fun _ => 0))), (q57, .inl (E.2.1.1, 6, .inl (fun _ => 0))), (q65, .inl (E.2.1.1, 6, .inl (fun _ => 0)))]) rfl (fun H locs hG => ?_)
  refine lv_iconst (v := 0) hx hb dX8_init_81 (by decide) ?_
  refine lv_istore_n (lv' := [(1, .int 0), (0, .ref m)]) hx hb dX8_init_82 rfl hl (by decide) rfl (fun ls hl => ?_)
  refine lv_iload_n hx hb dX8_init_83 rfl (lv_at hl 0 rfl) ?_
  refine lv_bipush (v := 12) hx hb dX8_init_84 (by decide) ?_
  refine lv_icmp_ge (tgt := 152) hx hb dX8_init_86 (by decide) (fun c9 => absurd c9 (by decide)) (fun _ => ?_)
  refine lv_aload_n hx hb dX8_init_89 rfl (lv_at hl 1 rfl) ?_
  refine gf_X8_7 C dX8_init_90 hG 0 rfl rfl ?_
  refine lv_iload_n hx hb dX8_init_93 rfl (lv_at hl 0 rfl) ?_
  refine lv_iload_n hx hb dX8_init_94 rfl (lv_at hl 0 rfl) ?_
  refine lv_if_eq (tgt := 104) hx hb dX8_init_95 (by decide) (fun _ => ?_) (fun c9 => absurd c9 (by decide))
  refine lv_iconst (v := 2) hx hb dX8_init_104 (by decide) ?_
  refine lv_goto (tgt := 145) hx hb dX8_init_105 (by decide) ?_
  refine z_ist C dX8_init_145 hG 1 rfl 0 (by decide) (by decide) (Nat.le_of_ble_eq_true rfl) (ws' := [(m, .inr (8, [.int 10, .int 2, .ref q7, .int 0, .int 0, .int 0, .ref q15, .int 0, .ref q24, .int 0, .int 0, .int 0, .ref q33, .int 0, .int 0, .int 0, .int 0, .ref q41, .ref q49, .ref q57, .ref q65, .int 0, .int 0])), (q7, .inl (E.2.1.1, 12, .inl (upd (fun _ => 0) 0 2))), (q15, .inl (E.2.1.1, 12, .inl (fun _ => 0))), (q24, .inl (E.2.1.1, 156, .inl (fun _ => 0))), (q33, .inl (E.2.1.2, 200, .inl (fun _ => 0))), (q41, .inl (E.2.1.1, 6, .inl (fun _ => 0))), (q49, .inl (E.2.1.1, 6, .inl (fun _ => 0))), (q57, .inl (E.2.1.1, 6, .inl (fun _ => 0))), (q65, .inl (E.2.1.1, 6, .inl (fun _ => 0)))]) rfl (fun H locs hG => ?_)
  refine lv_iinc (v := 1) (lv' := [(1, .int 1), (0, .ref m)]) hx hb dX8_init_146 hl (k := 0) rfl (by decide) (by decide) rfl (fun ls hl => ?_)
  refine lv_goto (tgt := 83) hx hb dX8_init_149 (by decide) ?_
  refine lv_iload_n hx hb dX8_init_83 rfl (lv_at hl 0 rfl) ?_
  refine lv_bipush (v := 12) hx hb dX8_init_84 (by decide) ?_
  refine lv_icmp_ge (tgt := 152) hx hb dX8_init_86 (by decide) (fun c9 => absurd c9 (by decide)) (fun _ => ?_)
  refine lv_aload_n hx hb dX8_init_89 rfl (lv_at hl 1 rfl) ?_
  refine gf_X8_7 C dX8_init_90 hG 0 rfl rfl ?_
  refine lv_iload_n hx hb dX8_init_93 rfl (lv_at hl 0 rfl) ?_
  refine lv_iload_n hx hb dX8_init_94 rfl (lv_at hl 0 rfl) ?_
  refine lv_if_eq (tgt := 104) hx hb dX8_init_95 (by decide) (fun c9 => absurd c9 (by decide)) (fun _ => ?_)
  refine lv_iload_n hx hb dX8_init_98 rfl (lv_at hl 0 rfl) ?_
  refine lv_bipush (v := 11) hx hb dX8_init_99 (by decide) ?_
  refine lv_icmp_ne (tgt := 108) hx hb dX8_init_101 (by decide) (fun _ => ?_) (fun c9 => absurd c9 (by decide))
  refine lv_iload_n hx hb dX8_init_108 rfl (lv_at hl 0 rfl) ?_
  refine lv_iconst (v := 1) hx hb dX8_init_109 (by decide) ?_
  refine lv_icmp_ne (tgt := 117) hx hb dX8_init_110 (by decide) (fun c9 => absurd c9 (by decide)) (fun _ => ?_)
  refine lv_iconst (v := 3) hx hb dX8_init_113 (by decide) ?_
  refine lv_goto (tgt := 145) hx hb dX8_init_114 (by decide) ?_
  refine z_ist C dX8_init_145 hG 1 rfl 1 (by decide) (by decide) (Nat.le_of_ble_eq_true rfl) (ws' := [(m, .inr (8, [.int 10, .int 2, .ref q7, .int 0, .int 0, .int 0, .ref q15, .int 0, .ref q24, .int 0, .int 0, .int 0, .ref q33, .int 0, .int 0, .int 0, .int 0, .ref q41, .ref q49, .ref q57, .ref q65, .int 0, .int 0])), (q7, .inl (E.2.1.1, 12, .inl (upd (upd (fun _ => 0) 0 2) 1 3))), (q15, .inl (E.2.1.1, 12, .inl (fun _ => 0))), (q24, .inl (E.2.1.1, 156, .inl (fun _ => 0))), (q33, .inl (E.2.1.2, 200, .inl (fun _ => 0))), (q41, .inl (E.2.1.1, 6, .inl (fun _ => 0))), (q49, .inl (E.2.1.1, 6, .inl (fun _ => 0))), (q57, .inl (E.2.1.1, 6, .inl (fun _ => 0))), (q65, .inl (E.2.1.1, 6, .inl (fun _ => 0)))]) rfl (fun H locs hG => ?_)
  refine lv_iinc (v := 2) (lv' := [(1, .int 2), (0, .ref m)]) hx hb dX8_init_146 hl (k := 0) rfl (by decide) (by decide) rfl (fun ls hl => ?_)
  refine lv_goto (tgt := 83) hx hb dX8_init_149 (by decide) ?_
  refine lv_iload_n hx hb dX8_init_83 rfl (lv_at hl 0 rfl) ?_
  refine lv_bipush (v := 12) hx hb dX8_init_84 (by decide) ?_
  refine lv_icmp_ge (tgt := 152) hx hb dX8_init_86 (by decide) (fun c9 => absurd c9 (by decide)) (fun _ => ?_)
  refine lv_aload_n hx hb dX8_init_89 rfl (lv_at hl 1 rfl) ?_
  refine gf_X8_7 C dX8_init_90 hG 0 rfl rfl ?_
  refine lv_iload_n hx hb dX8_init_93 rfl (lv_at hl 0 rfl) ?_
  refine lv_iload_n hx hb dX8_init_94 rfl (lv_at hl 0 rfl) ?_
  refine lv_if_eq (tgt := 104) hx hb dX8_init_95 (by decide) (fun c9 => absurd c9 (by decide)) (fun _ => ?_)
  refine lv_iload_n hx hb dX8_init_98 rfl (lv_at hl 0 rfl) ?_
  refine lv_bipush (v := 11) hx hb dX8_init_99 (by decide) ?_
  refine lv_icmp_ne (tgt := 108) hx hb dX8_init_101 (by decide) (fun _ => ?_) (fun c9 => absurd c9 (by decide))
  refine lv_iload_n hx hb dX8_init_108 rfl (lv_at hl 0 rfl) ?_
  refine lv_iconst (v := 1) hx hb dX8_init_109 (by decide) ?_
  refine lv_icmp_ne (tgt := 117) hx hb dX8_init_110 (by decide) (fun _ => ?_) (fun c9 => absurd c9 (by decide))
  refine lv_iload_n hx hb dX8_init_117 rfl (lv_at hl 0 rfl) ?_
  refine lv_iconst (v := 5) hx hb dX8_init_118 (by decide) ?_
  refine lv_icmp_eq (tgt := 128) hx hb dX8_init_119 (by decide) (fun c9 => absurd c9 (by decide)) (fun _ => ?_)
  refine lv_iload_n hx hb dX8_init_122 rfl (lv_at hl 0 rfl) ?_
  refine lv_bipush (v := 7) hx hb dX8_init_123 (by decide) ?_
  refine lv_icmp_ne (tgt := 133) hx hb dX8_init_125 (by decide) (fun _ => ?_) (fun c9 => absurd c9 (by decide))
  refine lv_iload_n hx hb dX8_init_133 rfl (lv_at hl 0 rfl) ?_
  refine lv_bipush (v := 6) hx hb dX8_init_134 (by decide) ?_
  refine lv_icmp_ne (tgt := 144) hx hb dX8_init_136 (by decide) (fun _ => ?_) (fun c9 => absurd c9 (by decide))
  refine lv_iconst (v := 5) hx hb dX8_init_144 (by decide) ?_
  refine z_ist C dX8_init_145 hG 1 rfl 2 (by decide) (by decide) (Nat.le_of_ble_eq_true rfl) (ws' := [(m, .inr (8, [.int 10, .int 2, .ref q7, .int 0, .int 0, .int 0, .ref q15, .int 0, .ref q24, .int 0, .int 0, .int 0, .ref q33, .int 0, .int 0, .int 0, .int 0, .ref q41, .ref q49, .ref q57, .ref q65, .int 0, .int 0])), (q7, .inl (E.2.1.1, 12, .inl (upd (upd (upd (fun _ => 0) 0 2) 1 3) 2 5))), (q15, .inl (E.2.1.1, 12, .inl (fun _ => 0))), (q24, .inl (E.2.1.1, 156, .inl (fun _ => 0))), (q33, .inl (E.2.1.2, 200, .inl (fun _ => 0))), (q41, .inl (E.2.1.1, 6, .inl (fun _ => 0))), (q49, .inl (E.2.1.1, 6, .inl (fun _ => 0))), (q57, .inl (E.2.1.1, 6, .inl (fun _ => 0))), (q65, .inl (E.2.1.1, 6, .inl (fun _ => 0)))]) rfl (fun H locs hG => ?_)
  refine lv_iinc (v := 3) (lv' := [(1, .int 3), (0, .ref m)]) hx hb dX8_init_146 hl (k := 0) rfl (by decide) (by decide) rfl (fun ls hl => ?_)
  refine lv_goto (tgt := 83) hx hb dX8_init_149 (by decide) ?_
  refine lv_iload_n hx hb dX8_init_83 rfl (lv_at hl 0 rfl) ?_
  refine lv_bipush (v := 12) hx hb dX8_init_84 (by decide) ?_
  refine lv_icmp_ge (tgt := 152) hx hb dX8_init_86 (by decide) (fun c9 => absurd c9 (by decide)) (fun _ => ?_)
  refine lv_aload_n hx hb dX8_init_89 rfl (lv_at hl 1 rfl) ?_
  refine gf_X8_7 C dX8_init_90 hG 0 rfl rfl ?_
  refine lv_iload_n hx hb dX8_init_93 rfl (lv_at hl 0 rfl) ?_
  refine lv_iload_n hx hb dX8_init_94 rfl (lv_at hl 0 rfl) ?_
  refine lv_if_eq (tgt := 104) hx hb dX8_init_95 (by decide) (fun c9 => absurd c9 (by decide)) (fun _ => ?_)
  refine lv_iload_n hx hb dX8_init_98 rfl (lv_at hl 0 rfl) ?_
  refine lv_bipush (v := 11) hx hb dX8_init_99 (by decide) ?_
  refine lv_icmp_ne (tgt := 108) hx hb dX8_init_101 (by decide) (fun _ => ?_) (fun c9 => absurd c9 (by decide))
  refine lv_iload_n hx hb dX8_init_108 rfl (lv_at hl 0 rfl) ?_
  refine lv_iconst (v := 1) hx hb dX8_init_109 (by decide) ?_
  refine lv_icmp_ne (tgt := 117) hx hb dX8_init_110 (by decide) (fun _ => ?_) (fun c9 => absurd c9 (by decide))
  refine lv_iload_n hx hb dX8_init_117 rfl (lv_at hl 0 rfl) ?_
  refine lv_iconst (v := 5) hx hb dX8_init_118 (by decide) ?_
  refine lv_icmp_eq (tgt := 128) hx hb dX8_init_119 (by decide) (fun c9 => absurd c9 (by decide)) (fun _ => ?_)
  refine lv_iload_n hx hb dX8_init_122 rfl (lv_at hl 0 rfl) ?_
  refine lv_bipush (v := 7) hx hb dX8_init_123 (by decide) ?_
  refine lv_icmp_ne (tgt := 133) hx hb dX8_init_125 (by decide) (fun _ => ?_) (fun c9 => absurd c9 (by decide))
  refine lv_iload_n hx hb dX8_init_133 rfl (lv_at hl 0 rfl) ?_
  refine lv_bipush (v := 6) hx hb dX8_init_134 (by decide) ?_
  refine lv_icmp_ne (tgt := 144) hx hb dX8_init_136 (by decide) (fun _ => ?_) (fun c9 => absurd c9 (by decide))
  refine lv_iconst (v := 5) hx hb dX8_init_144 (by decide) ?_
  refine z_ist C dX8_init_145 hG 1 rfl 3 (by decide) (by decide) (Nat.le_of_ble_eq_true rfl) (ws' := [(m, .inr (8, [.int 10, .int 2, .ref q7, .int 0, .int 0, .int 0, .ref q15, .int 0, .ref q24, .int 0, .int 0, .int 0, .ref q33, .int 0, .int 0, .int 0, .int 0, .ref q41, .ref q49, .ref q57, .ref q65, .int 0, .int 0])), (q7, .inl (E.2.1.1, 12, .inl (upd (upd (upd (upd (fun _ => 0) 0 2) 1 3) 2 5) 3 5))), (q15, .inl (E.2.1.1, 12, .inl (fun _ => 0))), (q24, .inl (E.2.1.1, 156, .inl (fun _ => 0))), (q33, .inl (E.2.1.2, 200, .inl (fun _ => 0))), (q41, .inl (E.2.1.1, 6, .inl (fun _ => 0))), (q49, .inl (E.2.1.1, 6, .inl (fun _ => 0))), (q57, .inl (E.2.1.1, 6, .inl (fun _ => 0))), (q65, .inl (E.2.1.1, 6, .inl (fun _ => 0)))]) rfl (fun H locs hG => ?_)
  refine lv_iinc (v := 4) (lv' := [(1, .int 4), (0, .ref m)]) hx hb dX8_init_146 hl (k := 0) rfl (by decide) (by decide) rfl (fun ls hl => ?_)
  refine lv_goto (tgt := 83) hx hb dX8_init_149 (by decide) ?_
  refine lv_iload_n hx hb dX8_init_83 rfl (lv_at hl 0 rfl) ?_
  refine lv_bipush (v := 12) hx hb dX8_init_84 (by decide) ?_
  refine lv_icmp_ge (tgt := 152) hx hb dX8_init_86 (by decide) (fun c9 => absurd c9 (by decide)) (fun _ => ?_)
  refine lv_aload_n hx hb dX8_init_89 rfl (lv_at hl 1 rfl) ?_
  refine gf_X8_7 C dX8_init_90 hG 0 rfl rfl ?_
  refine lv_iload_n hx hb dX8_init_93 rfl (lv_at hl 0 rfl) ?_
  refine lv_iload_n hx hb dX8_init_94 rfl (lv_at hl 0 rfl) ?_
  refine lv_if_eq (tgt := 104) hx hb dX8_init_95 (by decide) (fun c9 => absurd c9 (by decide)) (fun _ => ?_)
  refine lv_iload_n hx hb dX8_init_98 rfl (lv_at hl 0 rfl) ?_
  refine lv_bipush (v := 11) hx hb dX8_init_99 (by decide) ?_
  refine lv_icmp_ne (tgt := 108) hx hb dX8_init_101 (by decide) (fun _ => ?_) (fun c9 => absurd c9 (by decide))
  refine lv_iload_n hx hb dX8_init_108 rfl (lv_at hl 0 rfl) ?_
  refine lv_iconst (v := 1) hx hb dX8_init_109 (by decide) ?_
  refine lv_icmp_ne (tgt := 117) hx hb dX8_init_110 (by decide) (fun _ => ?_) (fun c9 => absurd c9 (by decide))
  refine lv_iload_n hx hb dX8_init_117 rfl (lv_at hl 0 rfl) ?_
  refine lv_iconst (v := 5) hx hb dX8_init_118 (by decide) ?_
  refine lv_icmp_eq (tgt := 128) hx hb dX8_init_119 (by decide) (fun c9 => absurd c9 (by decide)) (fun _ => ?_)
  refine lv_iload_n hx hb dX8_init_122 rfl (lv_at hl 0 rfl) ?_
  refine lv_bipush (v := 7) hx hb dX8_init_123 (by decide) ?_
  refine lv_icmp_ne (tgt := 133) hx hb dX8_init_125 (by decide) (fun _ => ?_) (fun c9 => absurd c9 (by decide))
  refine lv_iload_n hx hb dX8_init_133 rfl (lv_at hl 0 rfl) ?_
  refine lv_bipush (v := 6) hx hb dX8_init_134 (by decide) ?_
  refine lv_icmp_ne (tgt := 144) hx hb dX8_init_136 (by decide) (fun _ => ?_) (fun c9 => absurd c9 (by decide))
  refine lv_iconst (v := 5) hx hb dX8_init_144 (by decide) ?_
  refine z_ist C dX8_init_145 hG 1 rfl 4 (by decide) (by decide) (Nat.le_of_ble_eq_true rfl) (ws' := [(m, .inr (8, [.int 10, .int 2, .ref q7, .int 0, .int 0, .int 0, .ref q15, .int 0, .ref q24, .int 0, .int 0, .int 0, .ref q33, .int 0, .int 0, .int 0, .int 0, .ref q41, .ref q49, .ref q57, .ref q65, .int 0, .int 0])), (q7, .inl (E.2.1.1, 12, .inl (upd (upd (upd (upd (upd (fun _ => 0) 0 2) 1 3) 2 5) 3 5) 4 5))), (q15, .inl (E.2.1.1, 12, .inl (fun _ => 0))), (q24, .inl (E.2.1.1, 156, .inl (fun _ => 0))), (q33, .inl (E.2.1.2, 200, .inl (fun _ => 0))), (q41, .inl (E.2.1.1, 6, .inl (fun _ => 0))), (q49, .inl (E.2.1.1, 6, .inl (fun _ => 0))), (q57, .inl (E.2.1.1, 6, .inl (fun _ => 0))), (q65, .inl (E.2.1.1, 6, .inl (fun _ => 0)))]) rfl (fun H locs hG => ?_)
  refine lv_iinc (v := 5) (lv' := [(1, .int 5), (0, .ref m)]) hx hb dX8_init_146 hl (k := 0) rfl (by decide) (by decide) rfl (fun ls hl => ?_)
  refine lv_goto (tgt := 83) hx hb dX8_init_149 (by decide) ?_
  refine lv_iload_n hx hb dX8_init_83 rfl (lv_at hl 0 rfl) ?_
  refine lv_bipush (v := 12) hx hb dX8_init_84 (by decide) ?_
  refine lv_icmp_ge (tgt := 152) hx hb dX8_init_86 (by decide) (fun c9 => absurd c9 (by decide)) (fun _ => ?_)
  refine lv_aload_n hx hb dX8_init_89 rfl (lv_at hl 1 rfl) ?_
  refine gf_X8_7 C dX8_init_90 hG 0 rfl rfl ?_
  refine lv_iload_n hx hb dX8_init_93 rfl (lv_at hl 0 rfl) ?_
  refine lv_iload_n hx hb dX8_init_94 rfl (lv_at hl 0 rfl) ?_
  refine lv_if_eq (tgt := 104) hx hb dX8_init_95 (by decide) (fun c9 => absurd c9 (by decide)) (fun _ => ?_)
  refine lv_iload_n hx hb dX8_init_98 rfl (lv_at hl 0 rfl) ?_
  refine lv_bipush (v := 11) hx hb dX8_init_99 (by decide) ?_
  refine lv_icmp_ne (tgt := 108) hx hb dX8_init_101 (by decide) (fun _ => ?_) (fun c9 => absurd c9 (by decide))
  refine lv_iload_n hx hb dX8_init_108 rfl (lv_at hl 0 rfl) ?_
  refine lv_iconst (v := 1) hx hb dX8_init_109 (by decide) ?_
  refine lv_icmp_ne (tgt := 117) hx hb dX8_init_110 (by decide) (fun _ => ?_) (fun c9 => absurd c9 (by decide))
  refine lv_iload_n hx hb dX8_init_117 rfl (lv_at hl 0 rfl) ?_
  refine lv_iconst (v := 5) hx hb dX8_init_118 (by decide) ?_
  refine lv_icmp_eq (tgt := 128) hx hb dX8_init_119 (by decide) (fun _ => ?_) (fun c9 => absurd c9 (by decide))
  refine lv_bipush (v := 8) hx hb dX8_init_128 (by decide) ?_
  refine lv_goto (tgt := 145) hx hb dX8_init_130 (by decide) ?_
  refine z_ist C dX8_init_145 hG 1 rfl 5 (by decide) (by decide) (Nat.le_of_ble_eq_true rfl) (ws' := [(m, .inr (8, [.int 10, .int 2, .ref q7, .int 0, .int 0, .int 0, .ref q15, .int 0, .ref q24, .int 0, .int 0, .int 0, .ref q33, .int 0, .int 0, .int 0, .int 0, .ref q41, .ref q49, .ref q57, .ref q65, .int 0, .int 0])), (q7, .inl (E.2.1.1, 12, .inl (upd (upd (upd (upd (upd (upd (fun _ => 0) 0 2) 1 3) 2 5) 3 5) 4 5) 5 8))), (q15, .inl (E.2.1.1, 12, .inl (fun _ => 0))), (q24, .inl (E.2.1.1, 156, .inl (fun _ => 0))), (q33, .inl (E.2.1.2, 200, .inl (fun _ => 0))), (q41, .inl (E.2.1.1, 6, .inl (fun _ => 0))), (q49, .inl (E.2.1.1, 6, .inl (fun _ => 0))), (q57, .inl (E.2.1.1, 6, .inl (fun _ => 0))), (q65, .inl (E.2.1.1, 6, .inl (fun _ => 0)))]) rfl (fun H locs hG => ?_)
  refine lv_iinc (v := 6) (lv' := [(1, .int 6), (0, .ref m)]) hx hb dX8_init_146 hl (k := 0) rfl (by decide) (by decide) rfl (fun ls hl => ?_)
  refine lv_goto (tgt := 83) hx hb dX8_init_149 (by decide) ?_
  refine lv_iload_n hx hb dX8_init_83 rfl (lv_at hl 0 rfl) ?_
  refine lv_bipush (v := 12) hx hb dX8_init_84 (by decide) ?_
  refine lv_icmp_ge (tgt := 152) hx hb dX8_init_86 (by decide) (fun c9 => absurd c9 (by decide)) (fun _ => ?_)
  refine lv_aload_n hx hb dX8_init_89 rfl (lv_at hl 1 rfl) ?_
  refine gf_X8_7 C dX8_init_90 hG 0 rfl rfl ?_
  refine lv_iload_n hx hb dX8_init_93 rfl (lv_at hl 0 rfl) ?_
  refine lv_iload_n hx hb dX8_init_94 rfl (lv_at hl 0 rfl) ?_
  refine lv_if_eq (tgt := 104) hx hb dX8_init_95 (by decide) (fun c9 => absurd c9 (by decide)) (fun _ => ?_)
  refine lv_iload_n hx hb dX8_init_98 rfl (lv_at hl 0 rfl) ?_
  refine lv_bipush (v := 11) hx hb dX8_init_99 (by decide) ?_
  refine lv_icmp_ne (tgt := 108) hx hb dX8_init_101 (by decide) (fun _ => ?_) (fun c9 => absurd c9 (by decide))
  refine lv_iload_n hx hb dX8_init_108 rfl (lv_at hl 0 rfl) ?_
  refine lv_iconst (v := 1) hx hb dX8_init_109 (by decide) ?_
  refine lv_icmp_ne (tgt := 117) hx hb dX8_init_110 (by decide) (fun _ => ?_) (fun c9 => absurd c9 (by decide))
  refine lv_iload_n hx hb dX8_init_117 rfl (lv_at hl 0 rfl) ?_
  refine lv_iconst (v := 5) hx hb dX8_init_118 (by decide) ?_
  refine lv_icmp_eq (tgt := 128) hx hb dX8_init_119 (by decide) (fun c9 => absurd c9 (by decide)) (fun _ => ?_)
  refine lv_iload_n hx hb dX8_init_122 rfl (lv_at hl 0 rfl) ?_
  refine lv_bipush (v := 7) hx hb dX8_init_123 (by decide) ?_
  refine lv_icmp_ne (tgt := 133) hx hb dX8_init_125 (by decide) (fun _ => ?_) (fun c9 => absurd c9 (by decide))
  refine lv_iload_n hx hb dX8_init_133 rfl (lv_at hl 0 rfl) ?_
  refine lv_bipush (v := 6) hx hb dX8_init_134 (by decide) ?_
  refine lv_icmp_ne (tgt := 144) hx hb dX8_init_136 (by decide) (fun c9 => absurd c9 (by decide)) (fun _ => ?_)
  refine lv_bipush (v := 9) hx hb dX8_init_139 (by decide) ?_
  refine lv_goto (tgt := 145) hx hb dX8_init_141 (by decide) ?_
  refine z_ist C dX8_init_145 hG 1 rfl 6 (by decide) (by decide) (Nat.le_of_ble_eq_true rfl) (ws' := [(m, .inr (8, [.int 10, .int 2, .ref q7, .int 0, .int 0, .int 0, .ref q15, .int 0, .ref q24, .int 0, .int 0, .int 0, .ref q33, .int 0, .int 0, .int 0, .int 0, .ref q41, .ref q49, .ref q57, .ref q65, .int 0, .int 0])), (q7, .inl (E.2.1.1, 12, .inl (upd (upd (upd (upd (upd (upd (upd (fun _ => 0) 0 2) 1 3) 2 5) 3 5) 4 5) 5 8) 6 9))), (q15, .inl (E.2.1.1, 12, .inl (fun _ => 0))), (q24, .inl (E.2.1.1, 156, .inl (fun _ => 0))), (q33, .inl (E.2.1.2, 200, .inl (fun _ => 0))), (q41, .inl (E.2.1.1, 6, .inl (fun _ => 0))), (q49, .inl (E.2.1.1, 6, .inl (fun _ => 0))), (q57, .inl (E.2.1.1, 6, .inl (fun _ => 0))), (q65, .inl (E.2.1.1, 6, .inl (fun _ => 0)))]) rfl (fun H locs hG => ?_)
  refine lv_iinc (v := 7) (lv' := [(1, .int 7), (0, .ref m)]) hx hb dX8_init_146 hl (k := 0) rfl (by decide) (by decide) rfl (fun ls hl => ?_)
  refine lv_goto (tgt := 83) hx hb dX8_init_149 (by decide) ?_
  refine lv_iload_n hx hb dX8_init_83 rfl (lv_at hl 0 rfl) ?_
  refine lv_bipush (v := 12) hx hb dX8_init_84 (by decide) ?_
  refine lv_icmp_ge (tgt := 152) hx hb dX8_init_86 (by decide) (fun c9 => absurd c9 (by decide)) (fun _ => ?_)
  refine lv_aload_n hx hb dX8_init_89 rfl (lv_at hl 1 rfl) ?_
  refine gf_X8_7 C dX8_init_90 hG 0 rfl rfl ?_
  refine lv_iload_n hx hb dX8_init_93 rfl (lv_at hl 0 rfl) ?_
  refine lv_iload_n hx hb dX8_init_94 rfl (lv_at hl 0 rfl) ?_
  refine lv_if_eq (tgt := 104) hx hb dX8_init_95 (by decide) (fun c9 => absurd c9 (by decide)) (fun _ => ?_)
  refine lv_iload_n hx hb dX8_init_98 rfl (lv_at hl 0 rfl) ?_
  refine lv_bipush (v := 11) hx hb dX8_init_99 (by decide) ?_
  refine lv_icmp_ne (tgt := 108) hx hb dX8_init_101 (by decide) (fun _ => ?_) (fun c9 => absurd c9 (by decide))
  refine lv_iload_n hx hb dX8_init_108 rfl (lv_at hl 0 rfl) ?_
  refine lv_iconst (v := 1) hx hb dX8_init_109 (by decide) ?_
  refine lv_icmp_ne (tgt := 117) hx hb dX8_init_110 (by decide) (fun _ => ?_) (fun c9 => absurd c9 (by decide))
  refine lv_iload_n hx hb dX8_init_117 rfl (lv_at hl 0 rfl) ?_
  refine lv_iconst (v := 5) hx hb dX8_init_118 (by decide) ?_
  refine lv_icmp_eq (tgt := 128) hx hb dX8_init_119 (by decide) (fun c9 => absurd c9 (by decide)) (fun _ => ?_)
  refine lv_iload_n hx hb dX8_init_122 rfl (lv_at hl 0 rfl) ?_
  refine lv_bipush (v := 7) hx hb dX8_init_123 (by decide) ?_
  refine lv_icmp_ne (tgt := 133) hx hb dX8_init_125 (by decide) (fun c9 => absurd c9 (by decide)) (fun _ => ?_)
  refine lv_bipush (v := 8) hx hb dX8_init_128 (by decide) ?_
  refine lv_goto (tgt := 145) hx hb dX8_init_130 (by decide) ?_
  refine z_ist C dX8_init_145 hG 1 rfl 7 (by decide) (by decide) (Nat.le_of_ble_eq_true rfl) (ws' := [(m, .inr (8, [.int 10, .int 2, .ref q7, .int 0, .int 0, .int 0, .ref q15, .int 0, .ref q24, .int 0, .int 0, .int 0, .ref q33, .int 0, .int 0, .int 0, .int 0, .ref q41, .ref q49, .ref q57, .ref q65, .int 0, .int 0])), (q7, .inl (E.2.1.1, 12, .inl (upd (upd (upd (upd (upd (upd (upd (upd (fun _ => 0) 0 2) 1 3) 2 5) 3 5) 4 5) 5 8) 6 9) 7 8))), (q15, .inl (E.2.1.1, 12, .inl (fun _ => 0))), (q24, .inl (E.2.1.1, 156, .inl (fun _ => 0))), (q33, .inl (E.2.1.2, 200, .inl (fun _ => 0))), (q41, .inl (E.2.1.1, 6, .inl (fun _ => 0))), (q49, .inl (E.2.1.1, 6, .inl (fun _ => 0))), (q57, .inl (E.2.1.1, 6, .inl (fun _ => 0))), (q65, .inl (E.2.1.1, 6, .inl (fun _ => 0)))]) rfl (fun H locs hG => ?_)
  refine lv_iinc (v := 8) (lv' := [(1, .int 8), (0, .ref m)]) hx hb dX8_init_146 hl (k := 0) rfl (by decide) (by decide) rfl (fun ls hl => ?_)
  refine lv_goto (tgt := 83) hx hb dX8_init_149 (by decide) ?_
  refine lv_iload_n hx hb dX8_init_83 rfl (lv_at hl 0 rfl) ?_
  refine lv_bipush (v := 12) hx hb dX8_init_84 (by decide) ?_
  refine lv_icmp_ge (tgt := 152) hx hb dX8_init_86 (by decide) (fun c9 => absurd c9 (by decide)) (fun _ => ?_)
  refine lv_aload_n hx hb dX8_init_89 rfl (lv_at hl 1 rfl) ?_
  refine gf_X8_7 C dX8_init_90 hG 0 rfl rfl ?_
  refine lv_iload_n hx hb dX8_init_93 rfl (lv_at hl 0 rfl) ?_
  refine lv_iload_n hx hb dX8_init_94 rfl (lv_at hl 0 rfl) ?_
  refine lv_if_eq (tgt := 104) hx hb dX8_init_95 (by decide) (fun c9 => absurd c9 (by decide)) (fun _ => ?_)
  refine lv_iload_n hx hb dX8_init_98 rfl (lv_at hl 0 rfl) ?_
  refine lv_bipush (v := 11) hx hb dX8_init_99 (by decide) ?_
  refine lv_icmp_ne (tgt := 108) hx hb dX8_init_101 (by decide) (fun _ => ?_) (fun c9 => absurd c9 (by decide))
  refine lv_iload_n hx hb dX8_init_108 rfl (lv_at hl 0 rfl) ?_
  refine lv_iconst (v := 1) hx hb dX8_init_109 (by decide) ?_
  refine lv_icmp_ne (tgt := 117) hx hb dX8_init_110 (by decide) (fun _ => ?_) (fun c9 => absurd c9 (by decide))
  refine lv_iload_n hx hb dX8_init_117 rfl (lv_at hl 0 rfl) ?_
  refine lv_iconst (v := 5) hx hb dX8_init_118 (by decide) ?_
  refine lv_icmp_eq (tgt := 128) hx hb dX8_init_119 (by decide) (fun c9 => absurd c9 (by decide)) (fun _ => ?_)
  refine lv_iload_n hx hb dX8_init_122 rfl (lv_at hl 0 rfl) ?_
  refine lv_bipush (v := 7) hx hb dX8_init_123 (by decide) ?_
  refine lv_icmp_ne (tgt := 133) hx hb dX8_init_125 (by decide) (fun _ => ?_) (fun c9 => absurd c9 (by decide))
  refine lv_iload_n hx hb dX8_init_133 rfl (lv_at hl 0 rfl) ?_
  refine lv_bipush (v := 6) hx hb dX8_init_134 (by decide) ?_
  refine lv_icmp_ne (tgt := 144) hx hb dX8_init_136 (by decide) (fun _ => ?_) (fun c9 => absurd c9 (by decide))
  refine lv_iconst (v := 5) hx hb dX8_init_144 (by decide) ?_
  refine z_ist C dX8_init_145 hG 1 rfl 8 (by decide) (by decide) (Nat.le_of_ble_eq_true rfl) (ws' := [(m, .inr (8, [.int 10, .int 2, .ref q7, .int 0, .int 0, .int 0, .ref q15, .int 0, .ref q24, .int 0, .int 0, .int 0, .ref q33, .int 0, .int 0, .int 0, .int 0, .ref q41, .ref q49, .ref q57, .ref q65, .int 0, .int 0])), (q7, .inl (E.2.1.1, 12, .inl (upd (upd (upd (upd (upd (upd (upd (upd (upd (fun _ => 0) 0 2) 1 3) 2 5) 3 5) 4 5) 5 8) 6 9) 7 8) 8 5))), (q15, .inl (E.2.1.1, 12, .inl (fun _ => 0))), (q24, .inl (E.2.1.1, 156, .inl (fun _ => 0))), (q33, .inl (E.2.1.2, 200, .inl (fun _ => 0))), (q41, .inl (E.2.1.1, 6, .inl (fun _ => 0))), (q49, .inl (E.2.1.1, 6, .inl (fun _ => 0))), (q57, .inl (E.2.1.1, 6, .inl (fun _ => 0))), (q65, .inl (E.2.1.1, 6, .inl (fun _ => 0)))]) rfl (fun H locs hG => ?_)
  refine lv_iinc (v := 9) (lv' := [(1, .int 9), (0, .ref m)]) hx hb dX8_init_146 hl (k := 0) rfl (by decide) (by decide) rfl (fun ls hl => ?_)
  refine lv_goto (tgt := 83) hx hb dX8_init_149 (by decide) ?_
  refine lv_iload_n hx hb dX8_init_83 rfl (lv_at hl 0 rfl) ?_
  refine lv_bipush (v := 12) hx hb dX8_init_84 (by decide) ?_
  refine lv_icmp_ge (tgt := 152) hx hb dX8_init_86 (by decide) (fun c9 => absurd c9 (by decide)) (fun _ => ?_)
  refine lv_aload_n hx hb dX8_init_89 rfl (lv_at hl 1 rfl) ?_
  refine gf_X8_7 C dX8_init_90 hG 0 rfl rfl ?_
  refine lv_iload_n hx hb dX8_init_93 rfl (lv_at hl 0 rfl) ?_
  refine lv_iload_n hx hb dX8_init_94 rfl (lv_at hl 0 rfl) ?_
  refine lv_if_eq (tgt := 104) hx hb dX8_init_95 (by decide) (fun c9 => absurd c9 (by decide)) (fun _ => ?_)
  refine lv_iload_n hx hb dX8_init_98 rfl (lv_at hl 0 rfl) ?_
  refine lv_bipush (v := 11) hx hb dX8_init_99 (by decide) ?_
  refine lv_icmp_ne (tgt := 108) hx hb dX8_init_101 (by decide) (fun _ => ?_) (fun c9 => absurd c9 (by decide))
  refine lv_iload_n hx hb dX8_init_108 rfl (lv_at hl 0 rfl) ?_
  refine lv_iconst (v := 1) hx hb dX8_init_109 (by decide) ?_
  refine lv_icmp_ne (tgt := 117) hx hb dX8_init_110 (by decide) (fun _ => ?_) (fun c9 => absurd c9 (by decide))
  refine lv_iload_n hx hb dX8_init_117 rfl (lv_at hl 0 rfl) ?_
  refine lv_iconst (v := 5) hx hb dX8_init_118 (by decide) ?_
  refine lv_icmp_eq (tgt := 128) hx hb dX8_init_119 (by decide) (fun c9 => absurd c9 (by decide)) (fun _ => ?_)
  refine lv_iload_n hx hb dX8_init_122 rfl (lv_at hl 0 rfl) ?_
  refine lv_bipush (v := 7) hx hb dX8_init_123 (by decide) ?_
  refine lv_icmp_ne (tgt := 133) hx hb dX8_init_125 (by decide) (fun _ => ?_) (fun c9 => absurd c9 (by decide))
  refine lv_iload_n hx hb dX8_init_133 rfl (lv_at hl 0 rfl) ?_
  refine lv_bipush (v := 6) hx hb dX8_init_134 (by decide) ?_
  refine lv_icmp_ne (tgt := 144) hx hb dX8_init_136 (by decide) (fun _ => ?_) (fun c9 => absurd c9 (by decide))
  refine lv_iconst (v := 5) hx hb dX8_init_144 (by decide) ?_
  refine z_ist C dX8_init_145 hG 1 rfl 9 (by decide) (by decide) (Nat.le_of_ble_eq_true rfl) (ws' := [(m, .inr (8, [.int 10, .int 2, .ref q7, .int 0, .int 0, .int 0, .ref q15, .int 0, .ref q24, .int 0, .int 0, .int 0, .ref q33, .int 0, .int 0, .int 0, .int 0, .ref q41, .ref q49, .ref q57, .ref q65, .int 0, .int 0])), (q7, .inl (E.2.1.1, 12, .inl (upd (upd (upd (upd (upd (upd (upd (upd (upd (upd (fun _ => 0) 0 2) 1 3) 2 5) 3 5) 4 5) 5 8) 6 9) 7 8) 8 5) 9 5))), (q15, .inl (E.2.1.1, 12, .inl (fun _ => 0))), (q24, .inl (E.2.1.1, 156, .inl (fun _ => 0))), (q33, .inl (E.2.1.2, 200, .inl (fun _ => 0))), (q41, .inl (E.2.1.1, 6, .inl (fun _ => 0))), (q49, .inl (E.2.1.1, 6, .inl (fun _ => 0))), (q57, .inl (E.2.1.1, 6, .inl (fun _ => 0))), (q65, .inl (E.2.1.1, 6, .inl (fun _ => 0)))]) rfl (fun H locs hG => ?_)
  refine lv_iinc (v := 10) (lv' := [(1, .int 10), (0, .ref m)]) hx hb dX8_init_146 hl (k := 0) rfl (by decide) (by decide) rfl (fun ls hl => ?_)
  refine lv_goto (tgt := 83) hx hb dX8_init_149 (by decide) ?_
  refine lv_iload_n hx hb dX8_init_83 rfl (lv_at hl 0 rfl) ?_
  refine lv_bipush (v := 12) hx hb dX8_init_84 (by decide) ?_
  refine lv_icmp_ge (tgt := 152) hx hb dX8_init_86 (by decide) (fun c9 => absurd c9 (by decide)) (fun _ => ?_)
  refine lv_aload_n hx hb dX8_init_89 rfl (lv_at hl 1 rfl) ?_
  refine gf_X8_7 C dX8_init_90 hG 0 rfl rfl ?_
  refine lv_iload_n hx hb dX8_init_93 rfl (lv_at hl 0 rfl) ?_
  refine lv_iload_n hx hb dX8_init_94 rfl (lv_at hl 0 rfl) ?_
  refine lv_if_eq (tgt := 104) hx hb dX8_init_95 (by decide) (fun c9 => absurd c9 (by decide)) (fun _ => ?_)
  refine lv_iload_n hx hb dX8_init_98 rfl (lv_at hl 0 rfl) ?_
  refine lv_bipush (v := 11) hx hb dX8_init_99 (by decide) ?_
  refine lv_icmp_ne (tgt := 108) hx hb dX8_init_101 (by decide) (fun _ => ?_) (fun c9 => absurd c9 (by decide))
  refine lv_iload_n hx hb dX8_init_108 rfl (lv_at hl 0 rfl) ?_
  refine lv_iconst (v := 1) hx hb dX8_init_109 (by decide) ?_
  refine lv_icmp_ne (tgt := 117) hx hb dX8_init_110 (by decide) (fun _ => ?_) (fun c9 => absurd c9 (by decide))
  refine lv_iload_n hx hb dX8_init_117 rfl (lv_at hl 0 rfl) ?_
  refine lv_iconst (v := 5) hx hb dX8_init_118 (by decide) ?_
  refine lv_icmp_eq (tgt := 128) hx hb dX8_init_119 (by decide) (fun c9 => absurd c9 (by decide)) (fun _ => ?_)
  refine lv_iload_n hx hb dX8_init_122 rfl (lv_at hl 0 rfl) ?_
  refine lv_bipush (v := 7) hx hb dX8_init_123 (by decide) ?_
  refine lv_icmp_ne (tgt := 133) hx hb dX8_init_125 (by decide) (fun _ => ?_) (fun c9 => absurd c9 (by decide))
  refine lv_iload_n hx hb dX8_init_133 rfl (lv_at hl 0 rfl) ?_
  refine lv_bipush (v := 6) hx hb dX8_init_134 (by decide) ?_
  refine lv_icmp_ne (tgt := 144) hx hb dX8_init_136 (by decide) (fun _ => ?_) (fun c9 => absurd c9 (by decide))
  refine lv_iconst (v := 5) hx hb dX8_init_144 (by decide) ?_
  refine z_ist C dX8_init_145 hG 1 rfl 10 (by decide) (by decide) (Nat.le_of_ble_eq_true rfl) (ws' := [(m, .inr (8, [.int 10, .int 2, .ref q7, .int 0, .int 0, .int 0, .ref q15, .int 0, .ref q24, .int 0, .int 0, .int 0, .ref q33, .int 0, .int 0, .int 0, .int 0, .ref q41, .ref q49, .ref q57, .ref q65, .int 0, .int 0])), (q7, .inl (E.2.1.1, 12, .inl (upd (upd (upd (upd (upd (upd (upd (upd (upd (upd (upd (fun _ => 0) 0 2) 1 3) 2 5) 3 5) 4 5) 5 8) 6 9) 7 8) 8 5) 9 5) 10 5))), (q15, .inl (E.2.1.1, 12, .inl (fun _ => 0))), (q24, .inl (E.2.1.1, 156, .inl (fun _ => 0))), (q33, .inl (E.2.1.2, 200, .inl (fun _ => 0))), (q41, .inl (E.2.1.1, 6, .inl (fun _ => 0))), (q49, .inl (E.2.1.1, 6, .inl (fun _ => 0))), (q57, .inl (E.2.1.1, 6, .inl (fun _ => 0))), (q65, .inl (E.2.1.1, 6, .inl (fun _ => 0)))]) rfl (fun H locs hG => ?_)
  refine lv_iinc (v := 11) (lv' := [(1, .int 11), (0, .ref m)]) hx hb dX8_init_146 hl (k := 0) rfl (by decide) (by decide) rfl (fun ls hl => ?_)
  refine lv_goto (tgt := 83) hx hb dX8_init_149 (by decide) ?_
  refine lv_iload_n hx hb dX8_init_83 rfl (lv_at hl 0 rfl) ?_
  refine lv_bipush (v := 12) hx hb dX8_init_84 (by decide) ?_
  refine lv_icmp_ge (tgt := 152) hx hb dX8_init_86 (by decide) (fun c9 => absurd c9 (by decide)) (fun _ => ?_)
  refine lv_aload_n hx hb dX8_init_89 rfl (lv_at hl 1 rfl) ?_
  refine gf_X8_7 C dX8_init_90 hG 0 rfl rfl ?_
  refine lv_iload_n hx hb dX8_init_93 rfl (lv_at hl 0 rfl) ?_
  refine lv_iload_n hx hb dX8_init_94 rfl (lv_at hl 0 rfl) ?_
  refine lv_if_eq (tgt := 104) hx hb dX8_init_95 (by decide) (fun c9 => absurd c9 (by decide)) (fun _ => ?_)
  refine lv_iload_n hx hb dX8_init_98 rfl (lv_at hl 0 rfl) ?_
  refine lv_bipush (v := 11) hx hb dX8_init_99 (by decide) ?_
  refine lv_icmp_ne (tgt := 108) hx hb dX8_init_101 (by decide) (fun c9 => absurd c9 (by decide)) (fun _ => ?_)
  refine lv_iconst (v := 2) hx hb dX8_init_104 (by decide) ?_
  refine lv_goto (tgt := 145) hx hb dX8_init_105 (by decide) ?_
  refine z_ist C dX8_init_145 hG 1 rfl 11 (by decide) (by decide) (Nat.le_of_ble_eq_true rfl) (ws' := [(m, .inr (8, [.int 10, .int 2, .ref q7, .int 0, .int 0, .int 0, .ref q15, .int 0, .ref q24, .int 0, .int 0, .int 0, .ref q33, .int 0, .int 0, .int 0, .int 0, .ref q41, .ref q49, .ref q57, .ref q65, .int 0, .int 0])), (q7, .inl (E.2.1.1, 12, .inl (upd (upd (upd (upd (upd (upd (upd (upd (upd (upd (upd (upd (fun _ => 0) 0 2) 1 3) 2 5) 3 5) 4 5) 5 8) 6 9) 7 8) 8 5) 9 5) 10 5) 11 2))), (q15, .inl (E.2.1.1, 12, .inl (fun _ => 0))), (q24, .inl (E.2.1.1, 156, .inl (fun _ => 0))), (q33, .inl (E.2.1.2, 200, .inl (fun _ => 0))), (q41, .inl (E.2.1.1, 6, .inl (fun _ => 0))), (q49, .inl (E.2.1.1, 6, .inl (fun _ => 0))), (q57, .inl (E.2.1.1, 6, .inl (fun _ => 0))), (q65, .inl (E.2.1.1, 6, .inl (fun _ => 0)))]) rfl (fun H locs hG => ?_)
  refine lv_iinc (v := 12) (lv' := [(1, .int 12), (0, .ref m)]) hx hb dX8_init_146 hl (k := 0) rfl (by decide) (by decide) rfl (fun ls hl => ?_)
  refine lv_goto (tgt := 83) hx hb dX8_init_149 (by decide) ?_
  refine lv_iload_n hx hb dX8_init_83 rfl (lv_at hl 0 rfl) ?_
  refine lv_bipush (v := 12) hx hb dX8_init_84 (by decide) ?_
  refine lv_icmp_ge (tgt := 152) hx hb dX8_init_86 (by decide) (fun _ => ?_) (fun c9 => absurd c9 (by decide))
  refine lv_aload_n hx hb dX8_init_152 rfl (lv_at hl 1 rfl) ?_
  refine lv_sipush (v := 192) hx hb dX8_init_153 (by decide) ?_
  refine pf_X8_42 C dX8_init_156 hG 0 rfl (Nat.le_of_ble_eq_true rfl) (ws' := [(m, .inr (8, [.int 10, .int 2, .ref q7, .int 192, .int 0, .int 0, .ref q15, .int 0, .ref q24, .int 0, .int 0, .int 0, .ref q33, .int 0, .int 0, .int 0, .int 0, .ref q41, .ref q49, .ref q57, .ref q65, .int 0, .int 0])), (q7, .inl (E.2.1.1, 12, .inl (upd (upd (upd (upd (upd (upd (upd (upd (upd (upd (upd (upd (fun _ => 0) 0 2) 1 3) 2 5) 3 5) 4 5) 5 8) 6 9) 7 8) 8 5) 9 5) 10 5) 11 2))), (q15, .inl (E.2.1.1, 12, .inl (fun _ => 0))), (q24, .inl (E.2.1.1, 156, .inl (fun _ => 0))), (q33, .inl (E.2.1.2, 200, .inl (fun _ => 0))), (q41, .inl (E.2.1.1, 6, .inl (fun _ => 0))), (q49, .inl (E.2.1.1, 6, .inl (fun _ => 0))), (q57, .inl (E.2.1.1, 6, .inl (fun _ => 0))), (q65, .inl (E.2.1.1, 6, .inl (fun _ => 0)))]) rfl (fun H locs hG => ?_)
  refine lv_aload_n hx hb dX8_init_159 rfl (lv_at hl 1 rfl) ?_
  refine gf_X8_16 C dX8_init_160 hG 0 rfl rfl ?_
  refine lv_iconst (v := 1) hx hb dX8_init_163 (by decide) ?_
  refine lv_iconst (v := 4) hx hb dX8_init_164 (by decide) ?_
  refine z_ist C dX8_init_165 hG 3 rfl 1 (by decide) (by decide) (Nat.le_of_ble_eq_true rfl) (ws' := [(m, .inr (8, [.int 10, .int 2, .ref q7, .int 192, .int 0, .int 0, .ref q15, .int 0, .ref q24, .int 0, .int 0, .int 0, .ref q33, .int 0, .int 0, .int 0, .int 0, .ref q41, .ref q49, .ref q57, .ref q65, .int 0, .int 0])), (q7, .inl (E.2.1.1, 12, .inl (upd (upd (upd (upd (upd (upd (upd (upd (upd (upd (upd (upd (fun _ => 0) 0 2) 1 3) 2 5) 3 5) 4 5) 5 8) 6 9) 7 8) 8 5) 9 5) 10 5) 11 2))), (q15, .inl (E.2.1.1, 12, .inl (fun _ => 0))), (q24, .inl (E.2.1.1, 156, .inl (upd (fun _ => 0) 1 4))), (q33, .inl (E.2.1.2, 200, .inl (fun _ => 0))), (q41, .inl (E.2.1.1, 6, .inl (fun _ => 0))), (q49, .inl (E.2.1.1, 6, .inl (fun _ => 0))), (q57, .inl (E.2.1.1, 6, .inl (fun _ => 0))), (q65, .inl (E.2.1.1, 6, .inl (fun _ => 0)))]) rfl (fun H locs hG => ?_)
  refine lv_aload_n hx hb dX8_init_166 rfl (lv_at hl 1 rfl) ?_
  refine gf_X8_16 C dX8_init_167 hG 0 rfl rfl ?_
  refine lv_iconst (v := 2) hx hb dX8_init_170 (by decide) ?_
  refine lv_iconst (v := 3) hx hb dX8_init_171 (by decide) ?_
  refine z_ist C dX8_init_172 hG 3 rfl 2 (by decide) (by decide) (Nat.le_of_ble_eq_true rfl) (ws' := [(m, .inr (8, [.int 10, .int 2, .ref q7, .int 192, .int 0, .int 0, .ref q15, .int 0, .ref q24, .int 0, .int 0, .int 0, .ref q33, .int 0, .int 0, .int 0, .int 0, .ref q41, .ref q49, .ref q57, .ref q65, .int 0, .int 0])), (q7, .inl (E.2.1.1, 12, .inl (upd (upd (upd (upd (upd (upd (upd (upd (upd (upd (upd (upd (fun _ => 0) 0 2) 1 3) 2 5) 3 5) 4 5) 5 8) 6 9) 7 8) 8 5) 9 5) 10 5) 11 2))), (q15, .inl (E.2.1.1, 12, .inl (fun _ => 0))), (q24, .inl (E.2.1.1, 156, .inl (upd (upd (fun _ => 0) 1 4) 2 3))), (q33, .inl (E.2.1.2, 200, .inl (fun _ => 0))), (q41, .inl (E.2.1.1, 6, .inl (fun _ => 0))), (q49, .inl (E.2.1.1, 6, .inl (fun _ => 0))), (q57, .inl (E.2.1.1, 6, .inl (fun _ => 0))), (q65, .inl (E.2.1.1, 6, .inl (fun _ => 0)))]) rfl (fun H locs hG => ?_)
  refine lv_aload_n hx hb dX8_init_173 rfl (lv_at hl 1 rfl) ?_
  refine gf_X8_16 C dX8_init_174 hG 0 rfl rfl ?_
  refine lv_iconst (v := 3) hx hb dX8_init_177 (by decide) ?_
  refine lv_iconst (v := 5) hx hb dX8_init_178 (by decide) ?_
  refine z_ist C dX8_init_179 hG 3 rfl 3 (by decide) (by decide) (Nat.le_of_ble_eq_true rfl) (ws' := [(m, .inr (8, [.int 10, .int 2, .ref q7, .int 192, .int 0, .int 0, .ref q15, .int 0, .ref q24, .int 0, .int 0, .int 0, .ref q33, .int 0, .int 0, .int 0, .int 0, .ref q41, .ref q49, .ref q57, .ref q65, .int 0, .int 0])), (q7, .inl (E.2.1.1, 12, .inl (upd (upd (upd (upd (upd (upd (upd (upd (upd (upd (upd (upd (fun _ => 0) 0 2) 1 3) 2 5) 3 5) 4 5) 5 8) 6 9) 7 8) 8 5) 9 5) 10 5) 11 2))), (q15, .inl (E.2.1.1, 12, .inl (fun _ => 0))), (q24, .inl (E.2.1.1, 156, .inl (upd (upd (upd (fun _ => 0) 1 4) 2 3) 3 5))), (q33, .inl (E.2.1.2, 200, .inl (fun _ => 0))), (q41, .inl (E.2.1.1, 6, .inl (fun _ => 0))), (q49, .inl (E.2.1.1, 6, .inl (fun _ => 0))), (q57, .inl (E.2.1.1, 6, .inl (fun _ => 0))), (q65, .inl (E.2.1.1, 6, .inl (fun _ => 0)))]) rfl (fun H locs hG => ?_)
  refine lv_aload_n hx hb dX8_init_180 rfl (lv_at hl 1 rfl) ?_
  refine gf_X8_16 C dX8_init_181 hG 0 rfl rfl ?_
  refine lv_bipush (v := 6) hx hb dX8_init_184 (by decide) ?_
  refine lv_bipush (v := 25) hx hb dX8_init_186 (by decide) ?_
  refine z_ist C dX8_init_188 hG 3 rfl 6 (by decide) (by decide) (Nat.le_of_ble_eq_true rfl) (ws' := [(m, .inr (8, [.int 10, .int 2, .ref q7, .int 192, .int 0, .int 0, .ref q15, .int 0, .ref q24, .int 0, .int 0, .int 0, .ref q33, .int 0, .int 0, .int 0, .int 0, .ref q41, .ref q49, .ref q57, .ref q65, .int 0, .int 0])), (q7, .inl (E.2.1.1, 12, .inl (upd (upd (upd (upd (upd (upd (upd (upd (upd (upd (upd (upd (fun _ => 0) 0 2) 1 3) 2 5) 3 5) 4 5) 5 8) 6 9) 7 8) 8 5) 9 5) 10 5) 11 2))), (q15, .inl (E.2.1.1, 12, .inl (fun _ => 0))), (q24, .inl (E.2.1.1, 156, .inl (upd (upd (upd (upd (fun _ => 0) 1 4) 2 3) 3 5) 6 25))), (q33, .inl (E.2.1.2, 200, .inl (fun _ => 0))), (q41, .inl (E.2.1.1, 6, .inl (fun _ => 0))), (q49, .inl (E.2.1.1, 6, .inl (fun _ => 0))), (q57, .inl (E.2.1.1, 6, .inl (fun _ => 0))), (q65, .inl (E.2.1.1, 6, .inl (fun _ => 0)))]) rfl (fun H locs hG => ?_)
  refine lv_aload_n hx hb dX8_init_189 rfl (lv_at hl 1 rfl) ?_
  refine gf_X8_16 C dX8_init_190 hG 0 rfl rfl ?_
  refine lv_bipush (v := 7) hx hb dX8_init_193 (by decide) ?_
  refine lv_bipush (v := 30) hx hb dX8_init_195 (by decide) ?_
  refine z_ist C dX8_init_197 hG 3 rfl 7 (by decide) (by decide) (Nat.le_of_ble_eq_true rfl) (ws' := [(m, .inr (8, [.int 10, .int 2, .ref q7, .int 192, .int 0, .int 0, .ref q15, .int 0, .ref q24, .int 0, .int 0, .int 0, .ref q33, .int 0, .int 0, .int 0, .int 0, .ref q41, .ref q49, .ref q57, .ref q65, .int 0, .int 0])), (q7, .inl (E.2.1.1, 12, .inl (upd (upd (upd (upd (upd (upd (upd (upd (upd (upd (upd (upd (fun _ => 0) 0 2) 1 3) 2 5) 3 5) 4 5) 5 8) 6 9) 7 8) 8 5) 9 5) 10 5) 11 2))), (q15, .inl (E.2.1.1, 12, .inl (fun _ => 0))), (q24, .inl (E.2.1.1, 156, .inl (upd (upd (upd (upd (upd (fun _ => 0) 1 4) 2 3) 3 5) 6 25) 7 30))), (q33, .inl (E.2.1.2, 200, .inl (fun _ => 0))), (q41, .inl (E.2.1.1, 6, .inl (fun _ => 0))), (q49, .inl (E.2.1.1, 6, .inl (fun _ => 0))), (q57, .inl (E.2.1.1, 6, .inl (fun _ => 0))), (q65, .inl (E.2.1.1, 6, .inl (fun _ => 0)))]) rfl (fun H locs hG => ?_)
  refine lv_aload_n hx hb dX8_init_198 rfl (lv_at hl 1 rfl) ?_
  refine gf_X8_16 C dX8_init_199 hG 0 rfl rfl ?_
  refine lv_bipush (v := 10) hx hb dX8_init_202 (by decide) ?_
  refine lv_bipush (v := 9) hx hb dX8_init_204 (by decide) ?_
  refine z_ist C dX8_init_206 hG 3 rfl 10 (by decide) (by decide) (Nat.le_of_ble_eq_true rfl) (ws' := [(m, .inr (8, [.int 10, .int 2, .ref q7, .int 192, .int 0, .int 0, .ref q15, .int 0, .ref q24, .int 0, .int 0, .int 0, .ref q33, .int 0, .int 0, .int 0, .int 0, .ref q41, .ref q49, .ref q57, .ref q65, .int 0, .int 0])), (q7, .inl (E.2.1.1, 12, .inl (upd (upd (upd (upd (upd (upd (upd (upd (upd (upd (upd (upd (fun _ => 0) 0 2) 1 3) 2 5) 3 5) 4 5) 5 8) 6 9) 7 8) 8 5) 9 5) 10 5) 11 2))), (q15, .inl (E.2.1.1, 12, .inl (fun _ => 0))), (q24, .inl (E.2.1.1, 156, .inl (upd (upd (upd (upd (upd (upd (fun _ => 0) 1 4) 2 3) 3 5) 6 25) 7 30) 10 9))), (q33, .inl (E.2.1.2, 200, .inl (fun _ => 0))), (q41, .inl (E.2.1.1, 6, .inl (fun _ => 0))), (q49, .inl (E.2.1.1, 6, .inl (fun _ => 0))), (q57, .inl (E.2.1.1, 6, .inl (fun _ => 0))), (q65, .inl (E.2.1.1, 6, .inl (fun _ => 0)))]) rfl (fun H locs hG => ?_)
  refine lv_aload_n hx hb dX8_init_207 rfl (lv_at hl 1 rfl) ?_
  refine gf_X8_16 C dX8_init_208 hG 0 rfl rfl ?_
  refine lv_bipush (v := 12) hx hb dX8_init_211 (by decide) ?_
  refine lv_bipush (v := (-4)) hx hb dX8_init_213 (by decide) ?_
  refine z_ist C dX8_init_215 hG 3 rfl 12 (by decide) (by decide) (Nat.le_of_ble_eq_true rfl) (ws' := [(m, .inr (8, [.int 10, .int 2, .ref q7, .int 192, .int 0, .int 0, .ref q15, .int 0, .ref q24, .int 0, .int 0, .int 0, .ref q33, .int 0, .int 0, .int 0, .int 0, .ref q41, .ref q49, .ref q57, .ref q65, .int 0, .int 0])), (q7, .inl (E.2.1.1, 12, .inl (upd (upd (upd (upd (upd (upd (upd (upd (upd (upd (upd (upd (fun _ => 0) 0 2) 1 3) 2 5) 3 5) 4 5) 5 8) 6 9) 7 8) 8 5) 9 5) 10 5) 11 2))), (q15, .inl (E.2.1.1, 12, .inl (fun _ => 0))), (q24, .inl (E.2.1.1, 156, .inl (upd (upd (upd (upd (upd (upd (upd (fun _ => 0) 1 4) 2 3) 3 5) 6 25) 7 30) 10 9) 12 (-4)))), (q33, .inl (E.2.1.2, 200, .inl (fun _ => 0))), (q41, .inl (E.2.1.1, 6, .inl (fun _ => 0))), (q49, .inl (E.2.1.1, 6, .inl (fun _ => 0))), (q57, .inl (E.2.1.1, 6, .inl (fun _ => 0))), (q65, .inl (E.2.1.1, 6, .inl (fun _ => 0)))]) rfl (fun H locs hG => ?_)
  rw [hQ]
  exact z_vret2 C hr hlk hG dX8_init_216 (fun i => [q7, q15, q24, q33, q41, q49, q57, q65].getD i 0) rfl
