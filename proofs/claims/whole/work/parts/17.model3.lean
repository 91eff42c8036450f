theorem cp_154 (sl : Nat → Int32) : cp13 sl 0 143 154 = sl 11 := if_pos (by decide)
theorem z_13 (na : Nat) : nI na * 13 = nI (13 * na) := by rw [show (13 : Int32) = nI 13 from rfl, pk_mul, Nat.mul_comm]
theorem z_actpos {x : Int32} {na : Nat} (h : x = nI na) (hc : ¬ x = 0) : 1 ≤ na := by
  rcases Nat.eq_zero_or_pos na with q | q
  · exact absurd (by rw [h, q]; rfl) hc
  · exact q
theorem z_w2 {x : Int32} (h : ¬ o_X8_in_r x.toInt64 0 2 = 0) (h2 : ¬ x = 2) : vp_in (145 + x) 156 := by
  have h1 := z_in32 h
  have e0 : (0 : Int64).toInt = 0 := by decide
  have e2 : (2 : Int64).toInt = 2 := by decide
  have e := (z_clamp (n := x) (by omega))
  generalize x.toNatClampNeg = k at e
  obtain ⟨rfl, e3⟩ := e
  rw [show (145 : Int32) = nI 145 from rfl, nI_add]
  exact vp_in_nI (by omega) (by decide)
def o_X8_plant_r (v : Nat → Int32) (sl : Nat → Int32) (p : Int32) (kd : Int32) (na : Nat) : Int32 := (if (o_X8_isOne_r p) = 0 then (-1) else (if (o_X8_in_r kd.toInt64 0 4) = 0 then (-1) else (if p = 0 then (if (o_X8_isOver_r v sl) = 0 then (if (5 : Int32) ≤ (sl 6) then ((upd (upd (upd (upd (o_X8_known_1 v sl na) 6 (((o_X8_known_1 v sl na) 6) - 5)) 0 kd) 2 1) 4 0) 6) else (-2)) else (-2)) else (if (o_X8_isOver_r v sl) = 0 then (if (5 : Int32) ≤ (sl 7) then ((upd (upd (upd (upd (o_X8_known_1 v sl na) 7 (((o_X8_known_1 v sl na) 7) - 5)) 1 kd) 3 1) 5 0) 7) else (-2)) else (-2)))))
def o_X8_plant_v (v : Nat → Int32) (sl : Nat → Int32) (p : Int32) (kd : Int32) (na : Nat) : Nat → Int32 := (if (o_X8_isOne_r p) = 0 then v else (if (o_X8_in_r kd.toInt64 0 4) = 0 then v else (if p = 0 then (if (o_X8_isOver_r v sl) = 0 then (if (5 : Int32) ≤ (sl 6) then (o_X8_known_v v sl na) else v) else v) else (if (o_X8_isOver_r v sl) = 0 then (if (5 : Int32) ≤ (sl 7) then (o_X8_known_v v sl na) else v) else v))))
def o_X8_plant_1 (v : Nat → Int32) (sl : Nat → Int32) (p : Int32) (kd : Int32) (na : Nat) : Nat → Int32 := (if (o_X8_isOne_r p) = 0 then sl else (if (o_X8_in_r kd.toInt64 0 4) = 0 then sl else (if p = 0 then (if (o_X8_isOver_r v sl) = 0 then (if (5 : Int32) ≤ (sl 6) then (upd (upd (upd (upd (o_X8_known_1 v sl na) 6 (((o_X8_known_1 v sl na) 6) - 5)) 0 kd) 2 1) 4 0) else sl) else sl) else (if (o_X8_isOver_r v sl) = 0 then (if (5 : Int32) ≤ (sl 7) then (upd (upd (upd (upd (o_X8_known_1 v sl na) 7 (((o_X8_known_1 v sl na) 7) - 5)) 1 kd) 3 1) 5 0) else sl) else sl))))
set_option maxRecDepth 100000 in
set_option maxHeartbeats 4000000 in
theorem c_X8_plant (l : Launch) (E : zE) (v : Nat → Int32) (sl : Nat → Int32) (p : Int32) (kd : Int32) (na : Nat) (m aS aW aL aT a1 a2 a3 aB : Nat) (hna : v 6 = nI na) (hn8 : na ≤ 8) : HM l E yX8_plant cX8_plant 3 (some .int) 2 45 [.ref m, .int p, .int kd] [(m, .inr (8, [.int (v 0), .int (v 1), .ref aS, .int (v 2), .int (v 3), .int (v 4), .ref aW, .int (v 5), .ref aL, .int (v 6), .int (v 7), .int (v 8), .ref aT, .int (v 9), .int (v 10), .int (v 11), .int (v 12), .ref a1, .ref a2, .ref a3, .ref aB, .int (v 13), .int (v 14)])), (aL, .inl (E.2.1.1, 156, .inl sl))] (some (.int (o_X8_plant_r v sl p kd na))) [(m, .inr (8, [.int (o_X8_plant_v v sl p kd na 0), .int (o_X8_plant_v v sl p kd na 1), .ref aS, .int (o_X8_plant_v v sl p kd na 2), .int (o_X8_plant_v v sl p kd na 3), .int (o_X8_plant_v v sl p kd na 4), .ref aW, .int (o_X8_plant_v v sl p kd na 5), .ref aL, .int (o_X8_plant_v v sl p kd na 6), .int (o_X8_plant_v v sl p kd na 7), .int (o_X8_plant_v v sl p kd na 8), .ref aT, .int (o_X8_plant_v v sl p kd na 9), .int (o_X8_plant_v v sl p kd na 10), .int (o_X8_plant_v v sl p kd na 11), .int (o_X8_plant_v v sl p kd na 12), .ref a1, .ref a2, .ref a3, .ref aB, .int (o_X8_plant_v v sl p kd na 13), .int (o_X8_plant_v v sl p kd na 14)])), (aL, .inl (E.2.1.1, 156, .inl (o_X8_plant_1 v sl p kd na)))] := by
  refine HM.of (own := RX8) (plainFor_of_name (by decide)) rfl (Nat.le_of_ble_eq_true rfl) ?_
  intro zp ze zs zm za zb zt zc zA ls H locs zq C hr hlk hG hl hQ
  have hx := C.1.1
  have hb := C.1.2.1
  replace hl : lv_has ls 3 [(0, .ref m), (1, .int p), (2, .int kd)] := hl
  refine lv_iload_n hx hb dX8_plant_0 rfl (lv_at hl 1 rfl) ?_
  refine call_X8_121 C dX8_plant_1 (c_X8_isOne l E p) hl hG [] (by decide) rfl (ads := []) rfl rfl (ws' := [(m, .inr (8, [.int (v 0), .int (v 1), .ref aS, .int (v 2), .int (v 3), .int (v 4), .ref aW, .int (v 5), .ref aL, .int (v 6), .int (v 7), .int (v 8), .ref aT, .int (v 9), .int (v 10), .int (v 11), .int (v 12), .ref a1, .ref a2, .ref a3, .ref aB, .int (v 13), .int (v 14)])), (aL, .inl (E.2.1.1, 156, .inl sl))]) rfl rfl (rest := []) rfl (Nat.le_of_ble_eq_true rfl) ⟨Nat.le_of_ble_eq_true rfl, Nat.le_of_ble_eq_true rfl⟩ (fun H locs hG => ?_)
  refine lv_if_eq (tgt := 19) hx hb dX8_plant_4 (by decide) (fun c_1 => ?_) (fun c_1 => ?_)
  · skip
    refine lv_iconst (v := (-1)) hx hb dX8_plant_19 (by decide) ?_
    rw [hQ]
    exact z_iret C hr hlk hG dX8_plant_20 rfl (by rw [o_X8_plant_r, if_pos c_1]) (by rw [o_X8_plant_v, if_pos c_1, o_X8_plant_1, if_pos c_1])
  · skip
    refine lv_iload_n hx hb dX8_plant_7 rfl (lv_at hl 2 rfl) ?_
    refine lv_i2l (v := kd.toInt64) hx hb dX8_plant_8 rfl ?_
    refine lv_lconst (v := 0) hx hb dX8_plant_9 (by decide) ?_
    refine lv_ldc2 (v := 4) hx hb C.1.2.2.2.1 (C.1.2.2.2.2 _ (inr19 _ (List.mem_of_getElem? (i := 23) rfl))) dX8_plant_10 ?_
    refine call_X8_49 C dX8_plant_13 (c_X8_in l E kd.toInt64 0 4) hl hG [] (by decide) rfl (ads := []) rfl rfl (ws' := [(m, .inr (8, [.int (v 0), .int (v 1), .ref aS, .int (v 2), .int (v 3), .int (v 4), .ref aW, .int (v 5), .ref aL, .int (v 6), .int (v 7), .int (v 8), .ref aT, .int (v 9), .int (v 10), .int (v 11), .int (v 12), .ref a1, .ref a2, .ref a3, .ref aB, .int (v 13), .int (v 14)])), (aL, .inl (E.2.1.1, 156, .inl sl))]) rfl rfl (rest := []) rfl (Nat.le_of_ble_eq_true rfl) ⟨Nat.le_of_ble_eq_true rfl, Nat.le_of_ble_eq_true rfl⟩ (fun H locs hG => ?_)
    refine lv_if_ne (tgt := 21) hx hb dX8_plant_16 (by decide) (fun c_2 => ?_) (fun c_2 => ?_)
    · skip
      rcases (z_one c_1) with rfl | rfl
      · skip
        refine lv_aload_n hx hb dX8_plant_21 rfl (lv_at hl 0 rfl) ?_
        refine call_X8_162 C dX8_plant_22 (c_X8_isOver l E v sl m aS aW aL aT a1 a2 a3 aB) hl hG 0 rfl [0, 1] (by decide) rfl (ads := [m, aL]) rfl rfl (ws' := [(m, .inr (8, [.int (v 0), .int (v 1), .ref aS, .int (v 2), .int (v 3), .int (v 4), .ref aW, .int (v 5), .ref aL, .int (v 6), .int (v 7), .int (v 8), .ref aT, .int (v 9), .int (v 10), .int (v 11), .int (v 12), .ref a1, .ref a2, .ref a3, .ref aB, .int (v 13), .int (v 14)])), (aL, .inl (E.2.1.1, 156, .inl sl))]) rfl rfl (rest := []) rfl (Nat.le_of_ble_eq_true rfl) ⟨Nat.le_of_ble_eq_true rfl, Nat.le_of_ble_eq_true rfl⟩ (fun H locs hG => ?_)
        refine lv_if_ne (tgt := 41) hx hb dX8_plant_25 (by decide) (fun c_3 => ?_) (fun c_3 => ?_)
        · skip
          refine lv_bipush (v := (-2)) hx hb dX8_plant_41 (by decide) ?_
          rw [hQ]
          exact z_iret C hr hlk hG dX8_plant_43 rfl (by rw [o_X8_plant_r, if_neg c_1, if_neg c_2, if_pos rfl, if_neg c_3]) (by rw [o_X8_plant_v, if_neg c_1, if_neg c_2, if_pos rfl, if_neg c_3, o_X8_plant_1, if_neg c_1, if_neg c_2, if_pos rfl, if_neg c_3])
        · skip
          refine lv_aload_n hx hb dX8_plant_28 rfl (lv_at hl 0 rfl) ?_
          refine gf_X8_16 C dX8_plant_29 hG 0 rfl rfl ?_
          refine lv_bipush (v := 6) hx hb dX8_plant_32 (by decide) ?_
          refine lv_iload_n hx hb dX8_plant_34 rfl (lv_at hl 1 rfl) ?_
          refine lv_iadd hx hb dX8_plant_35 ?_
          refine z_ti (y := 6) (by decide) ?_
          refine z_ild C dX8_plant_36 hG 1 rfl 6 (by decide) (Nat.le_of_ble_eq_true rfl) (Nat.le_of_ble_eq_true rfl) ?_
          refine lv_iconst (v := 5) hx hb dX8_plant_37 (by decide) ?_
          refine lv_icmp_ge (tgt := 44) hx hb dX8_plant_38 (by decide) (fun c_4 => ?_) (fun c_4 => ?_)
          · skip
            refine lv_aload_n hx hb dX8_plant_44 rfl (lv_at hl 0 rfl) ?_
            refine call_X8_165 C dX8_plant_45 (c_X8_known l E v sl na m aS aW aL aT a1 a2 a3 aB hna hn8) hl hG 0 rfl [0, 1] (by decide) rfl (ads := [m, aL]) rfl rfl (ws' := [(m, .inr (8, [.int (o_X8_known_v v sl na 0), .int (o_X8_known_v v sl na 1), .ref aS, .int (o_X8_known_v v sl na 2), .int (o_X8_known_v v sl na 3), .int (o_X8_known_v v sl na 4), .ref aW, .int (o_X8_known_v v sl na 5), .ref aL, .int (o_X8_known_v v sl na 6), .int (o_X8_known_v v sl na 7), .int (o_X8_known_v v sl na 8), .ref aT, .int (o_X8_known_v v sl na 9), .int (o_X8_known_v v sl na 10), .int (o_X8_known_v v sl na 11), .int (o_X8_known_v v sl na 12), .ref a1, .ref a2, .ref a3, .ref aB, .int (o_X8_known_v v sl na 13), .int (o_X8_known_v v sl na 14)])), (aL, .inl (E.2.1.1, 156, .inl (o_X8_known_1 v sl na)))]) rfl rfl (rest := []) rfl (Nat.le_of_ble_eq_true rfl) ⟨Nat.le_of_ble_eq_true rfl, Nat.le_of_ble_eq_true rfl⟩ (fun H locs hG => ?_)
            refine lv_aload_n hx hb dX8_plant_48 rfl (lv_at hl 0 rfl) ?_
            refine gf_X8_16 C dX8_plant_49 hG 0 rfl rfl ?_
            refine lv_bipush (v := 6) hx hb dX8_plant_52 (by decide) ?_
            refine lv_iload_n hx hb dX8_plant_54 rfl (lv_at hl 1 rfl) ?_
            refine lv_iadd hx hb dX8_plant_55 ?_
            refine z_ti (y := 6) (by decide) ?_
            refine lv_dup2_11 hx hb dX8_plant_56 rfl rfl ?_
            refine z_ild C dX8_plant_57 hG 1 rfl 6 (by decide) (Nat.le_of_ble_eq_true rfl) (Nat.le_of_ble_eq_true rfl) ?_
            refine lv_iconst (v := 5) hx hb dX8_plant_58 (by decide) ?_
            refine lv_isub hx hb dX8_plant_59 ?_
            refine z_ist C dX8_plant_60 hG 1 rfl 6 (by decide) (Nat.le_of_ble_eq_true rfl) (Nat.le_of_ble_eq_true rfl) (ws' := [(m, .inr (8, [.int (o_X8_known_v v sl na 0), .int (o_X8_known_v v sl na 1), .ref aS, .int (o_X8_known_v v sl na 2), .int (o_X8_known_v v sl na 3), .int (o_X8_known_v v sl na 4), .ref aW, .int (o_X8_known_v v sl na 5), .ref aL, .int (o_X8_known_v v sl na 6), .int (o_X8_known_v v sl na 7), .int (o_X8_known_v v sl na 8), .ref aT, .int (o_X8_known_v v sl na 9), .int (o_X8_known_v v sl na 10), .int (o_X8_known_v v sl na 11), .int (o_X8_known_v v sl na 12), .ref a1, .ref a2, .ref a3, .ref aB, .int (o_X8_known_v v sl na 13), .int (o_X8_known_v v sl na 14)])), (aL, .inl (E.2.1.1, 156, .inl (upd (o_X8_known_1 v sl na) 6 (((o_X8_known_1 v sl na) 6) - 5))))]) rfl (fun H locs hG => ?_)
            refine lv_aload_n hx hb dX8_plant_61 rfl (lv_at hl 0 rfl) ?_
            refine gf_X8_16 C dX8_plant_62 hG 0 rfl rfl ?_
            refine lv_iload_n hx hb dX8_plant_65 rfl (lv_at hl 1 rfl) ?_
            refine lv_iload_n hx hb dX8_plant_66 rfl (lv_at hl 2 rfl) ?_
            refine z_ist C dX8_plant_67 hG 1 rfl 0 (by decide) (Nat.le_of_ble_eq_true rfl) (Nat.le_of_ble_eq_true rfl) (ws' := [(m, .inr (8, [.int (o_X8_known_v v sl na 0), .int (o_X8_known_v v sl na 1), .ref aS, .int (o_X8_known_v v sl na 2), .int (o_X8_known_v v sl na 3), .int (o_X8_known_v v sl na 4), .ref aW, .int (o_X8_known_v v sl na 5), .ref aL, .int (o_X8_known_v v sl na 6), .int (o_X8_known_v v sl na 7), .int (o_X8_known_v v sl na 8), .ref aT, .int (o_X8_known_v v sl na 9), .int (o_X8_known_v v sl na 10), .int (o_X8_known_v v sl na 11), .int (o_X8_known_v v sl na 12), .ref a1, .ref a2, .ref a3, .ref aB, .int (o_X8_known_v v sl na 13), .int (o_X8_known_v v sl na 14)])), (aL, .inl (E.2.1.1, 156, .inl (upd (upd (o_X8_known_1 v sl na) 6 (((o_X8_known_1 v sl na) 6) - 5)) 0 kd)))]) rfl (fun H locs hG => ?_)
            refine lv_aload_n hx hb dX8_plant_68 rfl (lv_at hl 0 rfl) ?_
            refine gf_X8_16 C dX8_plant_69 hG 0 rfl rfl ?_
            refine lv_iconst (v := 2) hx hb dX8_plant_72 (by decide) ?_
            refine lv_iload_n hx hb dX8_plant_73 rfl (lv_at hl 1 rfl) ?_
            refine lv_iadd hx hb dX8_plant_74 ?_
            refine z_ti (y := 2) (by decide) ?_
            refine lv_iconst (v := 1) hx hb dX8_plant_75 (by decide) ?_
            refine z_ist C dX8_plant_76 hG 1 rfl 2 (by decide) (Nat.le_of_ble_eq_true rfl) (Nat.le_of_ble_eq_true rfl) (ws' := [(m, .inr (8, [.int (o_X8_known_v v sl na 0), .int (o_X8_known_v v sl na 1), .ref aS, .int (o_X8_known_v v sl na 2), .int (o_X8_known_v v sl na 3), .int (o_X8_known_v v sl na 4), .ref aW, .int (o_X8_known_v v sl na 5), .ref aL, .int (o_X8_known_v v sl na 6), .int (o_X8_known_v v sl na 7), .int (o_X8_known_v v sl na 8), .ref aT, .int (o_X8_known_v v sl na 9), .int (o_X8_known_v v sl na 10), .int (o_X8_known_v v sl na 11), .int (o_X8_known_v v sl na 12), .ref a1, .ref a2, .ref a3, .ref aB, .int (o_X8_known_v v sl na 13), .int (o_X8_known_v v sl na 14)])), (aL, .inl (E.2.1.1, 156, .inl (upd (upd (upd (o_X8_known_1 v sl na) 6 (((o_X8_known_1 v sl na) 6) - 5)) 0 kd) 2 1)))]) rfl (fun H locs hG => ?_)
            refine lv_aload_n hx hb dX8_plant_77 rfl (lv_at hl 0 rfl) ?_
            refine gf_X8_16 C dX8_plant_78 hG 0 rfl rfl ?_
            refine lv_iconst (v := 4) hx hb dX8_plant_81 (by decide) ?_
            refine lv_iload_n hx hb dX8_plant_82 rfl (lv_at hl 1 rfl) ?_
            refine lv_iadd hx hb dX8_plant_83 ?_
            refine z_ti (y := 4) (by decide) ?_
            refine lv_iconst (v := 0) hx hb dX8_plant_84 (by decide) ?_
            refine z_ist C dX8_plant_85 hG 1 rfl 4 (by decide) (Nat.le_of_ble_eq_true rfl) (Nat.le_of_ble_eq_true rfl) (ws' := [(m, .inr (8, [.int (o_X8_known_v v sl na 0), .int (o_X8_known_v v sl na 1), .ref aS, .int (o_X8_known_v v sl na 2), .int (o_X8_known_v v sl na 3), .int (o_X8_known_v v sl na 4), .ref aW, .int (o_X8_known_v v sl na 5), .ref aL, .int (o_X8_known_v v sl na 6), .int (o_X8_known_v v sl na 7), .int (o_X8_known_v v sl na 8), .ref aT, .int (o_X8_known_v v sl na 9), .int (o_X8_known_v v sl na 10), .int (o_X8_known_v v sl na 11), .int (o_X8_known_v v sl na 12), .ref a1, .ref a2, .ref a3, .ref aB, .int (o_X8_known_v v sl na 13), .int (o_X8_known_v v sl na 14)])), (aL, .inl (E.2.1.1, 156, .inl (upd (upd (upd (upd (o_X8_known_1 v sl na) 6 (((o_X8_known_1 v sl na) 6) - 5)) 0 kd) 2 1) 4 0)))]) rfl (fun H locs hG => ?_)
            refine lv_aload_n hx hb dX8_plant_86 rfl (lv_at hl 0 rfl) ?_
            refine gf_X8_16 C dX8_plant_87 hG 0 rfl rfl ?_
            refine lv_bipush (v := 6) hx hb dX8_plant_90 (by decide) ?_
            refine lv_iload_n hx hb dX8_plant_92 rfl (lv_at hl 1 rfl) ?_
            refine lv_iadd hx hb dX8_plant_93 ?_
            refine z_ti (y := 6) (by decide) ?_
            refine z_ild C dX8_plant_94 hG 1 rfl 6 (by decide) (Nat.le_of_ble_eq_true rfl) (Nat.le_of_ble_eq_true rfl) ?_
            rw [hQ]
            exact z_iret C hr hlk hG dX8_plant_95 rfl (by rw [o_X8_plant_r, if_neg c_1, if_neg c_2, if_pos rfl, if_pos c_3, if_pos c_4]) (by rw [o_X8_plant_v, if_neg c_1, if_neg c_2, if_pos rfl, if_pos c_3, if_pos c_4, o_X8_plant_1, if_neg c_1, if_neg c_2, if_pos rfl, if_pos c_3, if_pos c_4])
          · skip
            refine lv_bipush (v := (-2)) hx hb dX8_plant_41 (by decide) ?_
            rw [hQ]
            exact z_iret C hr hlk hG dX8_plant_43 rfl (by rw [o_X8_plant_r, if_neg c_1, if_neg c_2, if_pos rfl, if_pos c_3, if_neg c_4]) (by rw [o_X8_plant_v, if_neg c_1, if_neg c_2, if_pos rfl, if_pos c_3, if_neg c_4, o_X8_plant_1, if_neg c_1, if_neg c_2, if_pos rfl, if_pos c_3, if_neg c_4])
      · skip
        refine lv_aload_n hx hb dX8_plant_21 rfl (lv_at hl 0 rfl) ?_
        refine call_X8_162 C dX8_plant_22 (c_X8_isOver l E v sl m aS aW aL aT a1 a2 a3 aB) hl hG 0 rfl [0, 1] (by decide) rfl (ads := [m, aL]) rfl rfl (ws' := [(m, .inr (8, [.int (v 0), .int (v 1), .ref aS, .int (v 2), .int (v 3), .int (v 4), .ref aW, .int (v 5), .ref aL, .int (v 6), .int (v 7), .int (v 8), .ref aT, .int (v 9), .int (v 10), .int (v 11), .int (v 12), .ref a1, .ref a2, .ref a3, .ref aB, .int (v 13), .int (v 14)])), (aL, .inl (E.2.1.1, 156, .inl sl))]) rfl rfl (rest := []) rfl (Nat.le_of_ble_eq_true rfl) ⟨Nat.le_of_ble_eq_true rfl, Nat.le_of_ble_eq_true rfl⟩ (fun H locs hG => ?_)
        refine lv_if_ne (tgt := 41) hx hb dX8_plant_25 (by decide) (fun c_5 => ?_) (fun c_5 => ?_)
        · skip
          refine lv_bipush (v := (-2)) hx hb dX8_plant_41 (by decide) ?_
          rw [hQ]
          exact z_iret C hr hlk hG dX8_plant_43 rfl (by rw [o_X8_plant_r, if_neg c_1, if_neg c_2, if_neg (by decide : ¬ (1 : Int32) = 0), if_neg c_5]) (by rw [o_X8_plant_v, if_neg c_1, if_neg c_2, if_neg (by decide : ¬ (1 : Int32) = 0), if_neg c_5, o_X8_plant_1, if_neg c_1, if_neg c_2, if_neg (by decide : ¬ (1 : Int32) = 0), if_neg c_5])
        · skip
          refine lv_aload_n hx hb dX8_plant_28 rfl (lv_at hl 0 rfl) ?_
          refine gf_X8_16 C dX8_plant_29 hG 0 rfl rfl ?_
          refine lv_bipush (v := 6) hx hb dX8_plant_32 (by decide) ?_
          refine lv_iload_n hx hb dX8_plant_34 rfl (lv_at hl 1 rfl) ?_
          refine lv_iadd hx hb dX8_plant_35 ?_
          refine z_ti (y := 7) (by decide) ?_
          refine z_ild C dX8_plant_36 hG 1 rfl 7 (by decide) (Nat.le_of_ble_eq_true rfl) (Nat.le_of_ble_eq_true rfl) ?_
          refine lv_iconst (v := 5) hx hb dX8_plant_37 (by decide) ?_
          refine lv_icmp_ge (tgt := 44) hx hb dX8_plant_38 (by decide) (fun c_6 => ?_) (fun c_6 => ?_)
          · skip
            refine lv_aload_n hx hb dX8_plant_44 rfl (lv_at hl 0 rfl) ?_
            refine call_X8_165 C dX8_plant_45 (c_X8_known l E v sl na m aS aW aL aT a1 a2 a3 aB hna hn8) hl hG 0 rfl [0, 1] (by decide) rfl (ads := [m, aL]) rfl rfl (ws' := [(m, .inr (8, [.int (o_X8_known_v v sl na 0), .int (o_X8_known_v v sl na 1), .ref aS, .int (o_X8_known_v v sl na 2), .int (o_X8_known_v v sl na 3), .int (o_X8_known_v v sl na 4), .ref aW, .int (o_X8_known_v v sl na 5), .ref aL, .int (o_X8_known_v v sl na 6), .int (o_X8_known_v v sl na 7), .int (o_X8_known_v v sl na 8), .ref aT, .int (o_X8_known_v v sl na 9), .int (o_X8_known_v v sl na 10), .int (o_X8_known_v v sl na 11), .int (o_X8_known_v v sl na 12), .ref a1, .ref a2, .ref a3, .ref aB, .int (o_X8_known_v v sl na 13), .int (o_X8_known_v v sl na 14)])), (aL, .inl (E.2.1.1, 156, .inl (o_X8_known_1 v sl na)))]) rfl rfl (rest := []) rfl (Nat.le_of_ble_eq_true rfl) ⟨Nat.le_of_ble_eq_true rfl, Nat.le_of_ble_eq_true rfl⟩ (fun H locs hG => ?_)
            refine lv_aload_n hx hb dX8_plant_48 rfl (lv_at hl 0 rfl) ?_
            refine gf_X8_16 C dX8_plant_49 hG 0 rfl rfl ?_
            refine lv_bipush (v := 6) hx hb dX8_plant_52 (by decide) ?_
            refine lv_iload_n hx hb dX8_plant_54 rfl (lv_at hl 1 rfl) ?_
            refine lv_iadd hx hb dX8_plant_55 ?_
            refine z_ti (y := 7) (by decide) ?_
            refine lv_dup2_11 hx hb dX8_plant_56 rfl rfl ?_
            refine z_ild C dX8_plant_57 hG 1 rfl 7 (by decide) (Nat.le_of_ble_eq_true rfl) (Nat.le_of_ble_eq_true rfl) ?_
            refine lv_iconst (v := 5) hx hb dX8_plant_58 (by decide) ?_
            refine lv_isub hx hb dX8_plant_59 ?_
            refine z_ist C dX8_plant_60 hG 1 rfl 7 (by decide) (Nat.le_of_ble_eq_true rfl) (Nat.le_of_ble_eq_true rfl) (ws' := [(m, .inr (8, [.int (o_X8_known_v v sl na 0), .int (o_X8_known_v v sl na 1), .ref aS, .int (o_X8_known_v v sl na 2), .int (o_X8_known_v v sl na 3), .int (o_X8_known_v v sl na 4), .ref aW, .int (o_X8_known_v v sl na 5), .ref aL, .int (o_X8_known_v v sl na 6), .int (o_X8_known_v v sl na 7), .int (o_X8_known_v v sl na 8), .ref aT, .int (o_X8_known_v v sl na 9), .int (o_X8_known_v v sl na 10), .int (o_X8_known_v v sl na 11), .int (o_X8_known_v v sl na 12), .ref a1, .ref a2, .ref a3, .ref aB, .int (o_X8_known_v v sl na 13), .int (o_X8_known_v v sl na 14)])), (aL, .inl (E.2.1.1, 156, .inl (upd (o_X8_known_1 v sl na) 7 (((o_X8_known_1 v sl na) 7) - 5))))]) rfl (fun H locs hG => ?_)
            refine lv_aload_n hx hb dX8_plant_61 rfl (lv_at hl 0 rfl) ?_
            refine gf_X8_16 C dX8_plant_62 hG 0 rfl rfl ?_
            refine lv_iload_n hx hb dX8_plant_65 rfl (lv_at hl 1 rfl) ?_
            refine lv_iload_n hx hb dX8_plant_66 rfl (lv_at hl 2 rfl) ?_
            refine z_ist C dX8_plant_67 hG 1 rfl 1 (by decide) (Nat.le_of_ble_eq_true rfl) (Nat.le_of_ble_eq_true rfl) (ws' := [(m, .inr (8, [.int (o_X8_known_v v sl na 0), .int (o_X8_known_v v sl na 1), .ref aS, .int (o_X8_known_v v sl na 2), .int (o_X8_known_v v sl na 3), .int (o_X8_known_v v sl na 4), .ref aW, .int (o_X8_known_v v sl na 5), .ref aL, .int (o_X8_known_v v sl na 6), .int (o_X8_known_v v sl na 7), .int (o_X8_known_v v sl na 8), .ref aT, .int (o_X8_known_v v sl na 9), .int (o_X8_known_v v sl na 10), .int (o_X8_known_v v sl na 11), .int (o_X8_known_v v sl na 12), .ref a1, .ref a2, .ref a3, .ref aB, .int (o_X8_known_v v sl na 13), .int (o_X8_known_v v sl na 14)])), (aL, .inl (E.2.1.1, 156, .inl (upd (upd (o_X8_known_1 v sl na) 7 (((o_X8_known_1 v sl na) 7) - 5)) 1 kd)))]) rfl (fun H locs hG => ?_)
            refine lv_aload_n hx hb dX8_plant_68 rfl (lv_at hl 0 rfl) ?_
            refine gf_X8_16 C dX8_plant_69 hG 0 rfl rfl ?_
            refine lv_iconst (v := 2) hx hb dX8_plant_72 (by decide) ?_
            refine lv_iload_n hx hb dX8_plant_73 rfl (lv_at hl 1 rfl) ?_
            refine lv_iadd hx hb dX8_plant_74 ?_
            refine z_ti (y := 3) (by decide) ?_
            refine lv_iconst (v := 1) hx hb dX8_plant_75 (by decide) ?_
            refine z_ist C dX8_plant_76 hG 1 rfl 3 (by decide) (Nat.le_of_ble_eq_true rfl) (Nat.le_of_ble_eq_true rfl) (ws' := [(m, .inr (8, [.int (o_X8_known_v v sl na 0), .int (o_X8_known_v v sl na 1), .ref aS, .int (o_X8_known_v v sl na 2), .int (o_X8_known_v v sl na 3), .int (o_X8_known_v v sl na 4), .ref aW, .int (o_X8_known_v v sl na 5), .ref aL, .int (o_X8_known_v v sl na 6), .int (o_X8_known_v v sl na 7), .int (o_X8_known_v v sl na 8), .ref aT, .int (o_X8_known_v v sl na 9), .int (o_X8_known_v v sl na 10), .int (o_X8_known_v v sl na 11), .int (o_X8_known_v v sl na 12), .ref a1, .ref a2, .ref a3, .ref aB, .int (o_X8_known_v v sl na 13), .int (o_X8_known_v v sl na 14)])), (aL, .inl (E.2.1.1, 156, .inl (upd (upd (upd (o_X8_known_1 v sl na) 7 (((o_X8_known_1 v sl na) 7) - 5)) 1 kd) 3 1)))]) rfl (fun H locs hG => ?_)
            refine lv_aload_n hx hb dX8_plant_77 rfl (lv_at hl 0 rfl) ?_
            refine gf_X8_16 C dX8_plant_78 hG 0 rfl rfl ?_
            refine lv_iconst (v := 4) hx hb dX8_plant_81 (by decide) ?_
            refine lv_iload_n hx hb dX8_plant_82 rfl (lv_at hl 1 rfl) ?_
            refine lv_iadd hx hb dX8_plant_83 ?_
            refine z_ti (y := 5) (by decide) ?_
            refine lv_iconst (v := 0) hx hb dX8_plant_84 (by decide) ?_
            refine z_ist C dX8_plant_85 hG 1 rfl 5 (by decide) (Nat.le_of_ble_eq_true rfl) (Nat.le_of_ble_eq_true rfl) (ws' := [(m, .inr (8, [.int (o_X8_known_v v sl na 0), .int (o_X8_known_v v sl na 1), .ref aS, .int (o_X8_known_v v sl na 2), .int (o_X8_known_v v sl na 3), .int (o_X8_known_v v sl na 4), .ref aW, .int (o_X8_known_v v sl na 5), .ref aL, .int (o_X8_known_v v sl na 6), .int (o_X8_known_v v sl na 7), .int (o_X8_known_v v sl na 8), .ref aT, .int (o_X8_known_v v sl na 9), .int (o_X8_known_v v sl na 10), .int (o_X8_known_v v sl na 11), .int (o_X8_known_v v sl na 12), .ref a1, .ref a2, .ref a3, .ref aB, .int (o_X8_known_v v sl na 13), .int (o_X8_known_v v sl na 14)])), (aL, .inl (E.2.1.1, 156, .inl (upd (upd (upd (upd (o_X8_known_1 v sl na) 7 (((o_X8_known_1 v sl na) 7) - 5)) 1 kd) 3 1) 5 0)))]) rfl (fun H locs hG => ?_)
            refine lv_aload_n hx hb dX8_plant_86 rfl (lv_at hl 0 rfl) ?_
            refine gf_X8_16 C dX8_plant_87 hG 0 rfl rfl ?_
            refine lv_bipush (v := 6) hx hb dX8_plant_90 (by decide) ?_
            refine lv_iload_n hx hb dX8_plant_92 rfl (lv_at hl 1 rfl) ?_
            refine lv_iadd hx hb dX8_plant_93 ?_
            refine z_ti (y := 7) (by decide) ?_
            refine z_ild C dX8_plant_94 hG 1 rfl 7 (by decide) (Nat.le_of_ble_eq_true rfl) (Nat.le_of_ble_eq_true rfl) ?_
            rw [hQ]
            exact z_iret C hr hlk hG dX8_plant_95 rfl (by rw [o_X8_plant_r, if_neg c_1, if_neg c_2, if_neg (by decide : ¬ (1 : Int32) = 0), if_pos c_5, if_pos c_6]) (by rw [o_X8_plant_v, if_neg c_1, if_neg c_2, if_neg (by decide : ¬ (1 : Int32) = 0), if_pos c_5, if_pos c_6, o_X8_plant_1, if_neg c_1, if_neg c_2, if_neg (by decide : ¬ (1 : Int32) = 0), if_pos c_5, if_pos c_6])
          · skip
            refine lv_bipush (v := (-2)) hx hb dX8_plant_41 (by decide) ?_
            rw [hQ]
            exact z_iret C hr hlk hG dX8_plant_43 rfl (by rw [o_X8_plant_r, if_neg c_1, if_neg c_2, if_neg (by decide : ¬ (1 : Int32) = 0), if_pos c_5, if_neg c_6]) (by rw [o_X8_plant_v, if_neg c_1, if_neg c_2, if_neg (by decide : ¬ (1 : Int32) = 0), if_pos c_5, if_neg c_6, o_X8_plant_1, if_neg c_1, if_neg c_2, if_neg (by decide : ¬ (1 : Int32) = 0), if_pos c_5, if_neg c_6])
    · skip
      refine lv_iconst (v := (-1)) hx hb dX8_plant_19 (by decide) ?_
      rw [hQ]
      exact z_iret C hr hlk hG dX8_plant_20 rfl (by rw [o_X8_plant_r, if_neg c_1, if_pos c_2]) (by rw [o_X8_plant_v, if_neg c_1, if_pos c_2, o_X8_plant_1, if_neg c_1, if_pos c_2])
def o_X8_undo_r (v : Nat → Int32) (sl : Nat → Int32) (na : Nat) : Int32 := (if (v 6) = 0 then (-2) else ((v 6) - 1))
def o_X8_undo_v (v : Nat → Int32) (sl : Nat → Int32) (na : Nat) : Nat → Int32 := (if (v 6) = 0 then v else (mkG15 (v 0) (v 1) (v 2) (v 3) (v 4) (v 5) ((v 6) - 1) (v 7) (v 8) (v 9) (v 10) (v 11) (v 12) (v 13) (v 14)))
def o_X8_undo_1 (v : Nat → Int32) (sl : Nat → Int32) (na : Nat) : Nat → Int32 := (if (v 6) = 0 then sl else (cp13 sl (13 * na) 0))
set_option maxRecDepth 100000 in
set_option maxHeartbeats 4000000 in
theorem c_X8_undo (l : Launch) (E : zE) (v : Nat → Int32) (sl : Nat → Int32) (na : Nat) (m aS aW aL aT a1 a2 a3 aB : Nat) (hna : v 6 = nI na) (hn8 : na ≤ 8) : HM l E yX8_undo cX8_undo 1 (some .int) 1 23 [.ref m] [(m, .inr (8, [.int (v 0), .int (v 1), .ref aS, .int (v 2), .int (v 3), .int (v 4), .ref aW, .int (v 5), .ref aL, .int (v 6), .int (v 7), .int (v 8), .ref aT, .int (v 9), .int (v 10), .int (v 11), .int (v 12), .ref a1, .ref a2, .ref a3, .ref aB, .int (v 13), .int (v 14)])), (aL, .inl (E.2.1.1, 156, .inl sl))] (some (.int (o_X8_undo_r v sl na))) [(m, .inr (8, [.int (o_X8_undo_v v sl na 0), .int (o_X8_undo_v v sl na 1), .ref aS, .int (o_X8_undo_v v sl na 2), .int (o_X8_undo_v v sl na 3), .int (o_X8_undo_v v sl na 4), .ref aW, .int (o_X8_undo_v v sl na 5), .ref aL, .int (o_X8_undo_v v sl na 6), .int (o_X8_undo_v v sl na 7), .int (o_X8_undo_v v sl na 8), .ref aT, .int (o_X8_undo_v v sl na 9), .int (o_X8_undo_v v sl na 10), .int (o_X8_undo_v v sl na 11), .int (o_X8_undo_v v sl na 12), .ref a1, .ref a2, .ref a3, .ref aB, .int (o_X8_undo_v v sl na 13), .int (o_X8_undo_v v sl na 14)])), (aL, .inl (E.2.1.1, 156, .inl (o_X8_undo_1 v sl na)))] := by
  refine HM.of (own := RX8) (plainFor_of_name (by decide)) rfl (Nat.le_of_ble_eq_true rfl) ?_
  intro zp ze zs zm za zb zt zc zA ls H locs zq C hr hlk hG hl hQ
  have hx := C.1.1
  have hb := C.1.2.1
  replace hl : lv_has ls 1 [(0, .ref m)] := hl
  refine lv_aload_n hx hb dX8_undo_0 rfl (lv_at hl 0 rfl) ?_
  refine gf_X8_105 C dX8_undo_1 hG 0 rfl rfl ?_
  refine lv_if_ne (tgt := 10) hx hb dX8_undo_4 (by decide) (fun c_1 => ?_) (fun c_1 => ?_)
  · skip
    have hpos : 1 ≤ na := z_actpos hna c_1
    refine lv_aload_n hx hb dX8_undo_10 rfl (lv_at hl 0 rfl) ?_
    refine lv_aload_n hx hb dX8_undo_11 rfl (lv_at hl 0 rfl) ?_
    refine gf_X8_105 C dX8_undo_12 hG 0 rfl rfl ?_
    refine lv_bipush (v := 13) hx hb dX8_undo_15 (by decide) ?_
    refine lv_imul hx hb dX8_undo_17 ?_
    refine z_ti (y := (nI (13 * na))) (by rw [hna]; exact z_13 na) ?_
    refine lv_iconst (v := 0) hx hb dX8_undo_18 (by decide) ?_
    refine call_X8_101 C dX8_undo_19 (c_X8_copies_t l E v sl (13 * na) 0 m aS aW aL aT a1 a2 a3 aB (by omega) (by omega) (by omega)) hl hG 0 rfl [0, 1] (by decide) rfl (ads := [m, aL]) rfl rfl (ws' := [(m, .inr (8, [.int (v 0), .int (v 1), .ref aS, .int (v 2), .int (v 3), .int (v 4), .ref aW, .int (v 5), .ref aL, .int (v 6), .int (v 7), .int (v 8), .ref aT, .int (v 9), .int (v 10), .int (v 11), .int (v 12), .ref a1, .ref a2, .ref a3, .ref aB, .int (v 13), .int (v 14)])), (aL, .inl (E.2.1.1, 156, .inl (cp13 sl (13 * na) 0)))]) rfl rfl (rest := []) rfl (Nat.le_of_ble_eq_true rfl) ⟨Nat.le_of_ble_eq_true rfl, Nat.le_of_ble_eq_true rfl⟩ (fun H locs hG => ?_)
    refine lv_aload_n hx hb dX8_undo_22 rfl (lv_at hl 0 rfl) ?_
    refine lv_dup hx hb dX8_undo_23 rfl ?_
    refine gf_X8_105 C dX8_undo_24 hG 0 rfl rfl ?_
    refine lv_iconst (v := 1) hx hb dX8_undo_27 (by decide) ?_
    refine lv_isub hx hb dX8_undo_28 ?_
    refine pf_X8_105 C dX8_undo_29 hG 0 rfl (Nat.le_of_ble_eq_true rfl) (ws' := [(m, .inr (8, [.int (v 0), .int (v 1), .ref aS, .int (v 2), .int (v 3), .int (v 4), .ref aW, .int (v 5), .ref aL, .int ((v 6) - 1), .int (v 7), .int (v 8), .ref aT, .int (v 9), .int (v 10), .int (v 11), .int (v 12), .ref a1, .ref a2, .ref a3, .ref aB, .int (v 13), .int (v 14)])), (aL, .inl (E.2.1.1, 156, .inl (cp13 sl (13 * na) 0)))]) rfl (fun H locs hG => ?_)
    refine lv_aload_n hx hb dX8_undo_32 rfl (lv_at hl 0 rfl) ?_
    refine gf_X8_105 C dX8_undo_33 hG 0 rfl rfl ?_
    rw [hQ]
    exact z_iret C hr hlk hG dX8_undo_36 rfl (by rw [o_X8_undo_r, if_neg c_1]) (by rw [o_X8_undo_v, if_neg c_1, mkG15_0, mkG15_1, mkG15_2, mkG15_3, mkG15_4, mkG15_5, mkG15_6, mkG15_7, mkG15_8, mkG15_9, mkG15_10, mkG15_11, mkG15_12, mkG15_13, mkG15_14, o_X8_undo_1, if_neg c_1])
  · skip
    refine lv_bipush (v := (-2)) hx hb dX8_undo_7 (by decide) ?_
    rw [hQ]
    exact z_iret C hr hlk hG dX8_undo_9 rfl (by rw [o_X8_undo_r, if_pos c_1]) (by rw [o_X8_undo_v, if_pos c_1, o_X8_undo_1, if_pos c_1])
def L_X8_idles_0 (v : Nat → Int32) (ms : Nat → Int32) (sl : Nat → Int32) (n : Int32) (nn : Nat) : Nat → Int32 × (Nat → Int32)
  | 0 => (0, sl)
  | (k0 + 1) => ((((L_X8_idles_0 v ms sl n nn k0).1) ||| (o_X8_told_143_r v ms ((L_X8_idles_0 v ms sl n nn k0).2) 0 0)), (o_X8_told_143_2 v ms ((L_X8_idles_0 v ms sl n nn k0).2) 0 0))
def o_X8_idles_r (v : Nat → Int32) (ms : Nat → Int32) (sl : Nat → Int32) (n : Int32) (nn : Nat) : Int32 := ((L_X8_idles_0 v ms sl n nn nn).1)
def o_X8_idles_2 (v : Nat → Int32) (ms : Nat → Int32) (sl : Nat → Int32) (n : Int32) (nn : Nat) : Nat → Int32 := ((L_X8_idles_0 v ms sl n nn nn).2)
theorem L_idles (v ms sl : Nat → Int32) (n : Int32) (nn : Nat) (hB : mB 1000000 (sl 154)) : ∀ k : Nat, k ≤ 1000 → mB (1000000 + (k : Int)) ((L_X8_idles_0 v ms sl n nn k).2 154) := by
  intro k
  induction k with
  | zero => intro _; rw [L_X8_idles_0]; simpa using hB
  | succ k ih =>
    intro hk
    rw [L_X8_idles_0]
    exact mB_told_143 (by omega) _ _ _ _ _ (ih (by omega))
set_option maxRecDepth 100000 in
set_option maxHeartbeats 4000000 in
theorem c_X8_idles (l : Launch) (E : zE) (v : Nat → Int32) (ms : Nat → Int32) (sl : Nat → Int32) (n : Int32) (nn : Nat) (m aS aW aL aT a1 a2 a3 aB : Nat) (hB : mB 1000000 (sl 154)) (hnn : nn < 1000) (hn : n = nI nn) : HM l E yX8_idles cX8_idles 4 (some .int) 5 118 [.ref m, .int n] [(m, .inr (8, [.int (v 0), .int (v 1), .ref aS, .int (v 2), .int (v 3), .int (v 4), .ref aW, .int (v 5), .ref aL, .int (v 6), .int (v 7), .int (v 8), .ref aT, .int (v 9), .int (v 10), .int (v 11), .int (v 12), .ref a1, .ref a2, .ref a3, .ref aB, .int (v 13), .int (v 14)])), (aS, .inl (E.2.1.1, 12, .inl ms)), (aL, .inl (E.2.1.1, 156, .inl sl))] (some (.int (o_X8_idles_r v ms sl n nn))) [(m, .inr (8, [.int (v 0), .int (v 1), .ref aS, .int (v 2), .int (v 3), .int (v 4), .ref aW, .int (v 5), .ref aL, .int (v 6), .int (v 7), .int (v 8), .ref aT, .int (v 9), .int (v 10), .int (v 11), .int (v 12), .ref a1, .ref a2, .ref a3, .ref aB, .int (v 13), .int (v 14)])), (aS, .inl (E.2.1.1, 12, .inl ms)), (aL, .inl (E.2.1.1, 156, .inl (o_X8_idles_2 v ms sl n nn)))] := by
  refine HM.of (own := RX8) (plainFor_of_name (by decide)) rfl (Nat.le_of_ble_eq_true rfl) ?_
  intro zp ze zs zm za zb zt zc zA ls H locs zq C hr hlk hG hl hQ
  have hx := C.1.1
  have hb := C.1.2.1
  replace hl : lv_has ls 4 [(0, .ref m), (1, .int n)] := hl
  refine lv_iconst (v := 0) hx hb dX8_idles_0 (by decide) ?_
  refine lv_istore_n (lv' := [(2, .int 0), (0, .ref m), (1, .int n)]) hx hb dX8_idles_1 rfl hl (by decide) rfl (fun ls hl => ?_)
  refine lv_iconst (v := 0) hx hb dX8_idles_2 (by decide) ?_
  refine lv_istore_n (lv' := [(3, .int 0), (2, .int 0), (0, .ref m), (1, .int n)]) hx hb dX8_idles_3 rfl hl (by decide) rfl (fun ls hl => ?_)
  have kl_0 : ∀ (j0 k0 : Nat), j0 + k0 = nn → ∀ (u0_0 : Int32) (u0_1 : Nat → Int32) (H : Heap) (locs : List Loc) (ls : Array Slot), ((L_X8_idles_0 v ms sl n nn k0).1) = u0_0 → ((L_X8_idles_0 v ms sl n nn k0).2) = u0_1 → zG E zA zs.heap [(m, .inr (8, [.int (v 0), .int (v 1), .ref aS, .int (v 2), .int (v 3), .int (v 4), .ref aW, .int (v 5), .ref aL, .int (v 6), .int (v 7), .int (v 8), .ref aT, .int (v 9), .int (v 10), .int (v 11), .int (v 12), .ref a1, .ref a2, .ref a3, .ref aB, .int (v 13), .int (v 14)])), (aS, .inl (E.2.1.1, 12, .inl ms)), (aL, .inl (E.2.1.1, 156, .inl u0_1))] H locs → lv_has ls 4 [(3, .int (nI k0)), (2, .int u0_0), (0, .ref m), (1, .int n)] → W zp l ze (zR 5 118) zs zm za zb zt zc H locs 0 0 zq (F0 zm 4 ls []) := by
    intro j0
    induction j0 with
    | zero =>
      intro k0 hk0 u0_0 u0_1 H locs ls e_u0_0 e_u0_1 hG hl
      subst e_u0_0
      subst e_u0_1
      obtain rfl : nn = k0 := by omega
      refine lv_iload_n hx hb dX8_idles_4 rfl (lv_at hl 0 rfl) ?_
      refine lv_iload_n hx hb dX8_idles_5 rfl (lv_at hl 3 rfl) ?_
      refine lv_icmp_ge (tgt := 27) hx hb dX8_idles_6 (by decide) (fun c_3 => ?_) (fun c_3 => absurd (z_ge_yes hn) c_3)
      refine lv_iload_n hx hb dX8_idles_27 rfl (lv_at hl 1 rfl) ?_
      rw [hQ]
      exact z_iret C hr hlk hG dX8_idles_28 rfl (by rw [o_X8_idles_r]) (by rw [o_X8_idles_2])
    | succ j0 ih0 =>
      intro k0 hk0 u0_0 u0_1 H locs ls e_u0_0 e_u0_1 hG hl
      subst e_u0_0
      subst e_u0_1
      have hlt : k0 < nn := by omega
      refine lv_iload_n hx hb dX8_idles_4 rfl (lv_at hl 0 rfl) ?_
      refine lv_iload_n hx hb dX8_idles_5 rfl (lv_at hl 3 rfl) ?_
      refine lv_icmp_ge (tgt := 27) hx hb dX8_idles_6 (by decide) (fun c_4 => absurd c_4 (z_ge_no hlt (Nat.lt_of_lt_of_le hnn (by decide)) hn)) (fun c_4 => ?_)
      refine lv_iload_n hx hb dX8_idles_9 rfl (lv_at hl 1 rfl) ?_
      refine lv_aload_n hx hb dX8_idles_10 rfl (lv_at hl 2 rfl) ?_
      refine lv_sipush (v := 143) hx hb dX8_idles_11 (by decide) ?_
      refine lv_iconst (v := 0) hx hb dX8_idles_14 (by decide) ?_
      refine lv_iconst (v := 0) hx hb dX8_idles_15 (by decide) ?_
      refine call_X8_168 C dX8_idles_16 (c_X8_told_143 l E v ms ((L_X8_idles_0 v ms sl n nn k0).2) 0 0 m aS aW aL aT a1 a2 a3 aB (L_idles v ms sl n nn hB _ (by omega)).1) hl hG 0 rfl [0, 1, 2] (by decide) rfl (ads := [m, aS, aL]) rfl rfl (ws' := [(m, .inr (8, [.int (v 0), .int (v 1), .ref aS, .int (v 2), .int (v 3), .int (v 4), .ref aW, .int (v 5), .ref aL, .int (v 6), .int (v 7), .int (v 8), .ref aT, .int (v 9), .int (v 10), .int (v 11), .int (v 12), .ref a1, .ref a2, .ref a3, .ref aB, .int (v 13), .int (v 14)])), (aS, .inl (E.2.1.1, 12, .inl ms)), (aL, .inl (E.2.1.1, 156, .inl (o_X8_told_143_2 v ms ((L_X8_idles_0 v ms sl n nn k0).2) 0 0)))]) rfl rfl (rest := [.int ((L_X8_idles_0 v ms sl n nn k0).1)]) rfl (Nat.le_of_ble_eq_true rfl) ⟨Nat.le_of_ble_eq_true rfl, Nat.le_of_ble_eq_true rfl⟩ (fun H locs hG => ?_)
      refine lv_ior hx hb dX8_idles_19 ?_
      refine lv_istore_n (lv' := [(2, .int (((L_X8_idles_0 v ms sl n nn k0).1) ||| (o_X8_told_143_r v ms ((L_X8_idles_0 v ms sl n nn k0).2) 0 0))), (3, .int (nI k0)), (0, .ref m), (1, .int n)]) hx hb dX8_idles_20 rfl hl (by decide) rfl (fun ls hl => ?_)
      refine lv_iinc (v := (nI (k0 + 1))) (lv' := [(3, .int (nI (k0 + 1))), (2, .int (((L_X8_idles_0 v ms sl n nn k0).1) ||| (o_X8_told_143_r v ms ((L_X8_idles_0 v ms sl n nn k0).2) 0 0))), (0, .ref m), (1, .int n)]) hx hb dX8_idles_21 hl (k := 1) rfl (nI_1 _) (by decide) rfl (fun ls hl => ?_)
      refine lv_goto (tgt := 4) hx hb dX8_idles_24 (by decide) ?_
      exact ih0 (k0 + 1) (by omega) (((L_X8_idles_0 v ms sl n nn k0).1) ||| (o_X8_told_143_r v ms ((L_X8_idles_0 v ms sl n nn k0).2) 0 0)) (o_X8_told_143_2 v ms ((L_X8_idles_0 v ms sl n nn k0).2) 0 0) _ _ _ (by rw [L_X8_idles_0]) (by rw [L_X8_idles_0]) hG (lv_sub hl [0, 1, 2, 3] rfl)
  exact kl_0 nn 0 (by omega) 0 sl _ _ _ (by rw [L_X8_idles_0]) (by rw [L_X8_idles_0]) hG (lv_sub hl [0, 1, 2, 3] rfl)
def o_X8_behind_r (v : Nat → Int32) (ms : Nat → Int32) (sl : Nat → Int32) (n : Int32) (what : Int32) : Int32 := (if (o_X8_in_r n.toInt64 0 36) = 0 then (-1) else (if (o_X8_in_r what.toInt64 0 2) = 0 then (-1) else (if (0 : Int32) ≤ (o_X8_idles_r v ms (cp13 sl 0 143) n n.toNatClampNeg) then (if what = 2 then ((o_X8_idles_2 v ms (cp13 sl 0 143) n n.toNatClampNeg) 155) else ((o_X8_idles_2 v ms (cp13 sl 0 143) n n.toNatClampNeg) ((145 + what).toNatClampNeg))) else (-2))))
def o_X8_behind_2 (v : Nat → Int32) (ms : Nat → Int32) (sl : Nat → Int32) (n : Int32) (what : Int32) : Nat → Int32 := (if (o_X8_in_r n.toInt64 0 36) = 0 then sl else (if (o_X8_in_r what.toInt64 0 2) = 0 then sl else (o_X8_idles_2 v ms (cp13 sl 0 143) n n.toNatClampNeg)))
set_option maxRecDepth 100000 in
set_option maxHeartbeats 4000000 in
theorem c_X8_behind (l : Launch) (E : zE) (v : Nat → Int32) (ms : Nat → Int32) (sl : Nat → Int32) (n : Int32) (what : Int32) (m aS aW aL aT a1 a2 a3 aB : Nat) (hB : mB 1000000 (sl 11)) : HM l E yX8_behind cX8_behind 4 (some .int) 6 141 [.ref m, .int n, .int what] [(m, .inr (8, [.int (v 0), .int (v 1), .ref aS, .int (v 2), .int (v 3), .int (v 4), .ref aW, .int (v 5), .ref aL, .int (v 6), .int (v 7), .int (v 8), .ref aT, .int (v 9), .int (v 10), .int (v 11), .int (v 12), .ref a1, .ref a2, .ref a3, .ref aB, .int (v 13), .int (v 14)])), (aS, .inl (E.2.1.1, 12, .inl ms)), (aL, .inl (E.2.1.1, 156, .inl sl))] (some (.int (o_X8_behind_r v ms sl n what))) [(m, .inr (8, [.int (v 0), .int (v 1), .ref aS, .int (v 2), .int (v 3), .int (v 4), .ref aW, .int (v 5), .ref aL, .int (v 6), .int (v 7), .int (v 8), .ref aT, .int (v 9), .int (v 10), .int (v 11), .int (v 12), .ref a1, .ref a2, .ref a3, .ref aB, .int (v 13), .int (v 14)])), (aS, .inl (E.2.1.1, 12, .inl ms)), (aL, .inl (E.2.1.1, 156, .inl (o_X8_behind_2 v ms sl n what)))] := by
  refine HM.of (own := RX8) (plainFor_of_name (by decide)) rfl (Nat.le_of_ble_eq_true rfl) ?_
  intro zp ze zs zm za zb zt zc zA ls H locs zq C hr hlk hG hl hQ
  have hx := C.1.1
  have hb := C.1.2.1
  replace hl : lv_has ls 4 [(0, .ref m), (1, .int n), (2, .int what)] := hl
  refine lv_iload_n hx hb dX8_behind_0 rfl (lv_at hl 1 rfl) ?_
  refine lv_i2l (v := n.toInt64) hx hb dX8_behind_1 rfl ?_
  refine lv_lconst (v := 0) hx hb dX8_behind_2 (by decide) ?_
  refine lv_ldc2 (v := 36) hx hb C.1.2.2.2.1 (C.1.2.2.2.2 _ (inr24 _ (List.mem_of_getElem? (i := 9) rfl))) dX8_behind_3 ?_
  refine call_X8_49 C dX8_behind_6 (c_X8_in l E n.toInt64 0 36) hl hG [] (by decide) rfl (ads := []) rfl rfl (ws' := [(m, .inr (8, [.int (v 0), .int (v 1), .ref aS, .int (v 2), .int (v 3), .int (v 4), .ref aW, .int (v 5), .ref aL, .int (v 6), .int (v 7), .int (v 8), .ref aT, .int (v 9), .int (v 10), .int (v 11), .int (v 12), .ref a1, .ref a2, .ref a3, .ref aB, .int (v 13), .int (v 14)])), (aS, .inl (E.2.1.1, 12, .inl ms)), (aL, .inl (E.2.1.1, 156, .inl sl))]) rfl rfl (rest := []) rfl (Nat.le_of_ble_eq_true rfl) ⟨Nat.le_of_ble_eq_true rfl, Nat.le_of_ble_eq_true rfl⟩ (fun H locs hG => ?_)
  refine lv_if_eq (tgt := 24) hx hb dX8_behind_9 (by decide) (fun c_1 => ?_) (fun c_1 => ?_)
  · skip
    refine lv_iconst (v := (-1)) hx hb dX8_behind_24 (by decide) ?_
    rw [hQ]
    exact z_iret C hr hlk hG dX8_behind_25 rfl (by rw [o_X8_behind_r, if_pos c_1]) (by rw [o_X8_behind_2, if_pos c_1])
  · skip
    refine lv_iload_n hx hb dX8_behind_12 rfl (lv_at hl 2 rfl) ?_
    refine lv_i2l (v := what.toInt64) hx hb dX8_behind_13 rfl ?_
    refine lv_lconst (v := 0) hx hb dX8_behind_14 (by decide) ?_
    refine lv_ldc2 (v := 2) hx hb C.1.2.2.2.1 (C.1.2.2.2.2 _ (inr24 _ (List.mem_of_getElem? (i := 10) rfl))) dX8_behind_15 ?_
    refine call_X8_49 C dX8_behind_18 (c_X8_in l E what.toInt64 0 2) hl hG [] (by decide) rfl (ads := []) rfl rfl (ws' := [(m, .inr (8, [.int (v 0), .int (v 1), .ref aS, .int (v 2), .int (v 3), .int (v 4), .ref aW, .int (v 5), .ref aL, .int (v 6), .int (v 7), .int (v 8), .ref aT, .int (v 9), .int (v 10), .int (v 11), .int (v 12), .ref a1, .ref a2, .ref a3, .ref aB, .int (v 13), .int (v 14)])), (aS, .inl (E.2.1.1, 12, .inl ms)), (aL, .inl (E.2.1.1, 156, .inl sl))]) rfl rfl (rest := []) rfl (Nat.le_of_ble_eq_true rfl) ⟨Nat.le_of_ble_eq_true rfl, Nat.le_of_ble_eq_true rfl⟩ (fun H locs hG => ?_)
    refine lv_if_ne (tgt := 26) hx hb dX8_behind_21 (by decide) (fun c_2 => ?_) (fun c_2 => ?_)
    · skip
      refine lv_aload_n hx hb dX8_behind_26 rfl (lv_at hl 0 rfl) ?_
      refine lv_iconst (v := 0) hx hb dX8_behind_27 (by decide) ?_
      refine lv_sipush (v := 143) hx hb dX8_behind_28 (by decide) ?_
      refine call_X8_101 C dX8_behind_31 (c_X8_copies_t l E v sl 0 143 m aS aW aL aT a1 a2 a3 aB (by omega) (by omega) (by omega)) hl hG 0 rfl [0, 2] (by decide) rfl (ads := [m, aL]) rfl rfl (ws' := [(m, .inr (8, [.int (v 0), .int (v 1), .ref aS, .int (v 2), .int (v 3), .int (v 4), .ref aW, .int (v 5), .ref aL, .int (v 6), .int (v 7), .int (v 8), .ref aT, .int (v 9), .int (v 10), .int (v 11), .int (v 12), .ref a1, .ref a2, .ref a3, .ref aB, .int (v 13), .int (v 14)])), (aS, .inl (E.2.1.1, 12, .inl ms)), (aL, .inl (E.2.1.1, 156, .inl (cp13 sl 0 143)))]) rfl rfl (rest := []) rfl (Nat.le_of_ble_eq_true rfl) ⟨Nat.le_of_ble_eq_true rfl, Nat.le_of_ble_eq_true rfl⟩ (fun H locs hG => ?_)
      refine lv_aload_n hx hb dX8_behind_34 rfl (lv_at hl 0 rfl) ?_
      refine lv_iload_n hx hb dX8_behind_35 rfl (lv_at hl 1 rfl) ?_
      refine call_X8_177 C dX8_behind_36 (c_X8_idles l E v ms (cp13 sl 0 143) n n.toNatClampNeg m aS aW aL aT a1 a2 a3 aB (by rw [cp_154]; exact hB) (by have := z_in3 (c := 36) (by decide) (by decide) c_1; omega) (z_in2 (by decide) c_1)) hl hG 0 rfl [0, 1, 2] (by decide) rfl (ads := [m, aS, aL]) rfl rfl (ws' := [(m, .inr (8, [.int (v 0), .int (v 1), .ref aS, .int (v 2), .int (v 3), .int (v 4), .ref aW, .int (v 5), .ref aL, .int (v 6), .int (v 7), .int (v 8), .ref aT, .int (v 9), .int (v 10), .int (v 11), .int (v 12), .ref a1, .ref a2, .ref a3, .ref aB, .int (v 13), .int (v 14)])), (aS, .inl (E.2.1.1, 12, .inl ms)), (aL, .inl (E.2.1.1, 156, .inl (o_X8_idles_2 v ms (cp13 sl 0 143) n n.toNatClampNeg)))]) rfl rfl (rest := []) rfl (Nat.le_of_ble_eq_true rfl) ⟨Nat.le_of_ble_eq_true rfl, Nat.le_of_ble_eq_true rfl⟩ (fun H locs hG => ?_)
      refine lv_istore_n (lv' := [(3, .int (o_X8_idles_r v ms (cp13 sl 0 143) n n.toNatClampNeg)), (0, .ref m), (1, .int n), (2, .int what)]) hx hb dX8_behind_39 rfl hl (by decide) rfl (fun ls hl => ?_)
      refine lv_iload_n hx hb dX8_behind_40 rfl (lv_at hl 0 rfl) ?_
      refine lv_if_ge (tgt := 49) hx hb dX8_behind_41 (by decide) (fun c_3 => ?_) (fun c_3 => ?_)
      · skip
        refine lv_iload_n hx hb dX8_behind_49 rfl (lv_at hl 3 rfl) ?_
        refine lv_iconst (v := 2) hx hb dX8_behind_50 (by decide) ?_
        refine lv_icmp_ne (tgt := 65) hx hb dX8_behind_51 (by decide) (fun c_4 => ?_) (fun c_4 => ?_)
        · skip
          refine lv_aload_n hx hb dX8_behind_65 rfl (lv_at hl 1 rfl) ?_
          refine gf_X8_16 C dX8_behind_66 hG 0 rfl rfl ?_
          refine lv_sipush (v := 145) hx hb dX8_behind_69 (by decide) ?_
          refine lv_iload_n hx hb dX8_behind_72 rfl (lv_at hl 3 rfl) ?_
          refine lv_iadd hx hb dX8_behind_73 ?_
          refine z_iald C dX8_behind_74 hG 2 rfl (z_w2 c_2 c_4) ?_
          rw [hQ]
          exact z_iret C hr hlk hG dX8_behind_75 rfl (by rw [o_X8_behind_r, if_neg c_1, if_neg c_2, if_pos c_3, if_neg c_4]) (by rw [o_X8_behind_2, if_neg c_1, if_neg c_2])
        · skip
          refine lv_aload_n hx hb dX8_behind_54 rfl (lv_at hl 1 rfl) ?_
          refine gf_X8_16 C dX8_behind_55 hG 0 rfl rfl ?_
          refine lv_sipush (v := 155) hx hb dX8_behind_58 (by decide) ?_
          refine z_ild C dX8_behind_61 hG 2 rfl 155 (by decide) (Nat.le_of_ble_eq_true rfl) (Nat.le_of_ble_eq_true rfl) ?_
          refine lv_goto (tgt := 75) hx hb dX8_behind_62 (by decide) ?_
          rw [hQ]
          exact z_iret C hr hlk hG dX8_behind_75 rfl (by rw [o_X8_behind_r, if_neg c_1, if_neg c_2, if_pos c_3, if_pos c_4]) (by rw [o_X8_behind_2, if_neg c_1, if_neg c_2])
      · skip
        refine lv_bipush (v := (-2)) hx hb dX8_behind_44 (by decide) ?_
        refine lv_goto (tgt := 75) hx hb dX8_behind_46 (by decide) ?_
        rw [hQ]
        exact z_iret C hr hlk hG dX8_behind_75 rfl (by rw [o_X8_behind_r, if_neg c_1, if_neg c_2, if_neg c_3]) (by rw [o_X8_behind_2, if_neg c_1, if_neg c_2])
    · skip
      refine lv_iconst (v := (-1)) hx hb dX8_behind_24 (by decide) ?_
      rw [hQ]
      exact z_iret C hr hlk hG dX8_behind_25 rfl (by rw [o_X8_behind_r, if_neg c_1, if_pos c_2]) (by rw [o_X8_behind_2, if_neg c_1, if_pos c_2])
def L_X8_doneIn_0 (c_ : Int32) (n : Int32) (k_ : Int32) (nn : Nat) (kk : Nat) : Nat → Int32
  | 0 => c_
  | (k0 + 1) => ((L_X8_doneIn_0 c_ n k_ nn kk k0) / 5)
def o_X8_doneIn_r (c_ : Int32) (n : Int32) (k_ : Int32) (nn : Nat) (kk : Nat) : Int32 := ((L_X8_doneIn_0 c_ n k_ nn kk (nn - (kk + 1))) - (L_X8_doneIn_0 c_ n k_ nn kk (nn - (kk + 1))) / 5 * 5)
set_option maxRecDepth 100000 in
set_option maxHeartbeats 4000000 in
theorem c_X8_doneIn (l : Launch) (E : zE) (c_ : Int32) (n : Int32) (k_ : Int32) (nn : Nat) (kk : Nat) (hnn : nn < 1000) (hn : n = nI nn) (hk : k_ = nI kk) (hkk : kk < 1000) : HM l E yX8_doneIn cX8_doneIn 5 (some .int) 0 0 [.int c_, .int n, .int k_] [] (some (.int (o_X8_doneIn_r c_ n k_ nn kk))) [] := by
  refine HM.of (own := RX8) (plainFor_of_name (by decide)) rfl (Nat.le_of_ble_eq_true rfl) ?_
  intro zp ze zs zm za zb zt zc zA ls H locs zq C hr hlk hG hl hQ
  have hx := C.1.1
  have hb := C.1.2.1
  replace hl : lv_has ls 5 [(0, .int c_), (1, .int n), (2, .int k_)] := hl
  refine lv_iload_n hx hb dX8_doneIn_0 rfl (lv_at hl 0 rfl) ?_
  refine lv_istore_n (lv' := [(3, .int c_), (0, .int c_), (1, .int n), (2, .int k_)]) hx hb dX8_doneIn_1 rfl hl (by decide) rfl (fun ls hl => ?_)
  refine lv_iload_n hx hb dX8_doneIn_2 rfl (lv_at hl 3 rfl) ?_
  refine lv_iconst (v := 1) hx hb dX8_doneIn_3 (by decide) ?_
  refine lv_iadd hx hb dX8_doneIn_4 ?_
  refine z_ti (y := (nI (kk + 1))) (by rw [hk]; exact nI_1 kk) ?_
  refine lv_istore (lv' := [(4, .int (nI (kk + 1))), (3, .int c_), (0, .int c_), (1, .int n), (2, .int k_)]) hx hb dX8_doneIn_5 hl (by decide) rfl (fun ls hl => ?_)
  have kl_0 : ∀ (j0 k0 : Nat), j0 + k0 = (nn - (kk + 1)) → ∀ (u0_0 : Int32) (H : Heap) (locs : List Loc) (ls : Array Slot), (L_X8_doneIn_0 c_ n k_ nn kk k0) = u0_0 → zG E zA zs.heap [] H locs → lv_has ls 5 [(4, .int (nI ((kk + 1) + k0))), (3, .int u0_0), (0, .int c_), (1, .int n), (2, .int k_)] → W zp l ze (zR 0 0) zs zm za zb zt zc H locs 0 0 zq (F0 zm 7 ls []) := by
    intro j0
    induction j0 with
    | zero =>
      intro k0 hk0 u0_0 H locs ls e_u0_0 hG hl
      subst e_u0_0
      obtain rfl : k0 = (nn - (kk + 1)) := by omega
      refine lv_iload hx hb dX8_doneIn_7 (lv_at hl 0 rfl) ?_
      refine lv_iload_n hx hb dX8_doneIn_9 rfl (lv_at hl 3 rfl) ?_
      refine lv_icmp_ge (tgt := 23) hx hb dX8_doneIn_10 (by decide) (fun c_3 => ?_) (fun c_3 => absurd (by rw [hn]; exact (nI_leI (by omega) (by omega)).mpr (by omega)) c_3)
      refine lv_iload_n hx hb dX8_doneIn_23 rfl (lv_at hl 1 rfl) ?_
      refine lv_iconst (v := 5) hx hb dX8_doneIn_24 (by decide) ?_
      refine lv_irem hx hb dX8_doneIn_25 (by decide) ?_
      rw [hQ]
      exact z_iret C hr hlk hG dX8_doneIn_26 rfl (by rw [o_X8_doneIn_r]) rfl
    | succ j0 ih0 =>
      intro k0 hk0 u0_0 H locs ls e_u0_0 hG hl
      subst e_u0_0
      have hlt : k0 < (nn - (kk + 1)) := by omega
      refine lv_iload hx hb dX8_doneIn_7 (lv_at hl 0 rfl) ?_
      refine lv_iload_n hx hb dX8_doneIn_9 rfl (lv_at hl 3 rfl) ?_
      refine lv_icmp_ge (tgt := 23) hx hb dX8_doneIn_10 (by decide) (fun c_4 => absurd c_4 (z_ge_no (k := (kk + 1) + k0) (by omega) (by omega) hn)) (fun c_4 => ?_)
      refine lv_iload_n hx hb dX8_doneIn_13 rfl (lv_at hl 1 rfl) ?_
      refine lv_iconst (v := 5) hx hb dX8_doneIn_14 (by decide) ?_
      refine lv_idiv hx hb dX8_doneIn_15 (by decide) ?_
      refine lv_istore_n (lv' := [(3, .int ((L_X8_doneIn_0 c_ n k_ nn kk k0) / 5)), (4, .int (nI ((kk + 1) + k0))), (0, .int c_), (1, .int n), (2, .int k_)]) hx hb dX8_doneIn_16 rfl hl (by decide) rfl (fun ls hl => ?_)
      refine lv_iinc (v := (nI (((kk + 1) + k0) + 1))) (lv' := [(4, .int (nI (((kk + 1) + k0) + 1))), (3, .int ((L_X8_doneIn_0 c_ n k_ nn kk k0) / 5)), (0, .int c_), (1, .int n), (2, .int k_)]) hx hb dX8_doneIn_17 hl (k := 1) rfl (nI_1 _) (by decide) rfl (fun ls hl => ?_)
      refine lv_goto (tgt := 7) hx hb dX8_doneIn_20 (by decide) ?_
      exact ih0 (k0 + 1) (by omega) ((L_X8_doneIn_0 c_ n k_ nn kk k0) / 5) _ _ _ (by rw [L_X8_doneIn_0]) hG (lv_sub hl [0, 1, 2, 3, 4] rfl)
  exact kl_0 (nn - (kk + 1)) 0 (by omega) c_ _ _ _ (by rw [L_X8_doneIn_0]) hG (lv_sub hl [0, 1, 2, 3, 4] rfl)
def L_X8_rowsOf_0 (n : Int32) (nn : Nat) : Nat → Int32
  | 0 => 1
  | (k0 + 1) => ((L_X8_rowsOf_0 n nn k0) * 5)
def o_X8_rowsOf_r (n : Int32) (nn : Nat) : Int32 := (L_X8_rowsOf_0 n nn nn)
set_option maxRecDepth 100000 in
set_option maxHeartbeats 4000000 in
theorem c_X8_rowsOf (l : Launch) (E : zE) (n : Int32) (nn : Nat) (hnn : nn < 1000) (hn : n = nI nn) : HM l E yX8_rowsOf cX8_rowsOf 3 (some .int) 0 0 [.int n] [] (some (.int (o_X8_rowsOf_r n nn))) [] := by
  refine HM.of (own := RX8) (plainFor_of_name (by decide)) rfl (Nat.le_of_ble_eq_true rfl) ?_
  intro zp ze zs zm za zb zt zc zA ls H locs zq C hr hlk hG hl hQ
  have hx := C.1.1
  have hb := C.1.2.1
  replace hl : lv_has ls 3 [(0, .int n)] := hl
  refine lv_iconst (v := 1) hx hb dX8_rowsOf_0 (by decide) ?_
  refine lv_istore_n (lv' := [(1, .int 1), (0, .int n)]) hx hb dX8_rowsOf_1 rfl hl (by decide) rfl (fun ls hl => ?_)
  refine lv_iconst (v := 0) hx hb dX8_rowsOf_2 (by decide) ?_
  refine lv_istore_n (lv' := [(2, .int 0), (1, .int 1), (0, .int n)]) hx hb dX8_rowsOf_3 rfl hl (by decide) rfl (fun ls hl => ?_)
  have kl_0 : ∀ (j0 k0 : Nat), j0 + k0 = nn → ∀ (u0_0 : Int32) (H : Heap) (locs : List Loc) (ls : Array Slot), (L_X8_rowsOf_0 n nn k0) = u0_0 → zG E zA zs.heap [] H locs → lv_has ls 3 [(2, .int (nI k0)), (1, .int u0_0), (0, .int n)] → W zp l ze (zR 0 0) zs zm za zb zt zc H locs 0 0 zq (F0 zm 4 ls []) := by
    intro j0
    induction j0 with
    | zero =>
      intro k0 hk0 u0_0 H locs ls e_u0_0 hG hl
      subst e_u0_0
      obtain rfl : nn = k0 := by omega
      refine lv_iload_n hx hb dX8_rowsOf_4 rfl (lv_at hl 0 rfl) ?_
      refine lv_iload_n hx hb dX8_rowsOf_5 rfl (lv_at hl 2 rfl) ?_
      refine lv_icmp_ge (tgt := 19) hx hb dX8_rowsOf_6 (by decide) (fun c_3 => ?_) (fun c_3 => absurd (z_ge_yes hn) c_3)
      refine lv_iload_n hx hb dX8_rowsOf_19 rfl (lv_at hl 1 rfl) ?_
      rw [hQ]
      exact z_iret C hr hlk hG dX8_rowsOf_20 rfl (by rw [o_X8_rowsOf_r]) rfl
    | succ j0 ih0 =>
      intro k0 hk0 u0_0 H locs ls e_u0_0 hG hl
      subst e_u0_0
      have hlt : k0 < nn := by omega
      refine lv_iload_n hx hb dX8_rowsOf_4 rfl (lv_at hl 0 rfl) ?_
      refine lv_iload_n hx hb dX8_rowsOf_5 rfl (lv_at hl 2 rfl) ?_
      refine lv_icmp_ge (tgt := 19) hx hb dX8_rowsOf_6 (by decide) (fun c_4 => absurd c_4 (z_ge_no hlt (Nat.lt_of_lt_of_le hnn (by decide)) hn)) (fun c_4 => ?_)
      refine lv_iload_n hx hb dX8_rowsOf_9 rfl (lv_at hl 1 rfl) ?_
      refine lv_iconst (v := 5) hx hb dX8_rowsOf_10 (by decide) ?_
      refine lv_imul hx hb dX8_rowsOf_11 ?_
      refine lv_istore_n (lv' := [(1, .int ((L_X8_rowsOf_0 n nn k0) * 5)), (2, .int (nI k0)), (0, .int n)]) hx hb dX8_rowsOf_12 rfl hl (by decide) rfl (fun ls hl => ?_)
      refine lv_iinc (v := (nI (k0 + 1))) (lv' := [(2, .int (nI (k0 + 1))), (1, .int ((L_X8_rowsOf_0 n nn k0) * 5)), (0, .int n)]) hx hb dX8_rowsOf_13 hl (k := 1) rfl (nI_1 _) (by decide) rfl (fun ls hl => ?_)
      refine lv_goto (tgt := 4) hx hb dX8_rowsOf_16 (by decide) ?_
      exact ih0 (k0 + 1) (by omega) ((L_X8_rowsOf_0 n nn k0) * 5) _ _ _ (by rw [L_X8_rowsOf_0]) hG (lv_sub hl [0, 1, 2] rfl)
  exact kl_0 nn 0 (by omega) 1 _ _ _ (by rw [L_X8_rowsOf_0]) hG (lv_sub hl [0, 1, 2] rfl)
theorem L_rowsOf (n : Int32) (nn : Nat) : ∀ k, L_X8_rowsOf_0 n nn k = nI (5 ^ k) := by
  intro k
  induction k with
  | zero => rfl
  | succ k ih => rw [L_X8_rowsOf_0, ih, show (5 : Int32) = nI 5 from rfl, pk_mul, Nat.pow_succ]
theorem rowsOf_eq (n : Int32) (nn : Nat) : o_X8_rowsOf_r n nn = nI (5 ^ nn) := by rw [o_X8_rowsOf_r, L_rowsOf]
theorem c_X8_rowsOf_t (l : Launch) (E : zE) (n : Int32) (nn : Nat) (hnn : nn < 1000) (hn : n = nI nn) : HM l E yX8_rowsOf cX8_rowsOf 3 (some .int) 0 0 [.int n] [] (some (.int (nI (5 ^ nn)))) [] := by
  rw [← rowsOf_eq n nn]; exact c_X8_rowsOf l E n nn hnn hn
def j_X8_rows_1_0 (v : Nat → Int32) (ms : Nat → Int32) (sl : Nat → Int32) (p : Int32) (c_ : Int32) (n : Int32) (ot : Int32) (nn : Nat) (k0 : Nat) (u0_0 : Int32) (u0_1 : Nat → Int32) : Int32 := (if p = 0 then (o_X8_told_143_r v ms u0_1 (o_X8_doneIn_r c_ n (nI k0) nn k0) ot) else (o_X8_told_143_r v ms u0_1 ot (o_X8_doneIn_r c_ n (nI k0) nn k0)))
def j_X8_rows_1_1 (v : Nat → Int32) (ms : Nat → Int32) (sl : Nat → Int32) (p : Int32) (c_ : Int32) (n : Int32) (ot : Int32) (nn : Nat) (k0 : Nat) (u0_0 : Int32) (u0_1 : Nat → Int32) : Nat → Int32 := (if p = 0 then (o_X8_told_143_2 v ms u0_1 (o_X8_doneIn_r c_ n (nI k0) nn k0) ot) else (o_X8_told_143_2 v ms u0_1 ot (o_X8_doneIn_r c_ n (nI k0) nn k0)))
def L_X8_rows_0 (v : Nat → Int32) (ms : Nat → Int32) (sl : Nat → Int32) (p : Int32) (c_ : Int32) (n : Int32) (ot : Int32) (nn : Nat) : Nat → Int32 × (Nat → Int32)
  | 0 => (0, (cp13 sl 0 143))
  | (k0 + 1) => ((((L_X8_rows_0 v ms sl p c_ n ot nn k0).1) ||| (j_X8_rows_1_0 v ms sl p c_ n ot nn k0 ((L_X8_rows_0 v ms sl p c_ n ot nn k0).1) ((L_X8_rows_0 v ms sl p c_ n ot nn k0).2))), (j_X8_rows_1_1 v ms sl p c_ n ot nn k0 ((L_X8_rows_0 v ms sl p c_ n ot nn k0).1) ((L_X8_rows_0 v ms sl p c_ n ot nn k0).2)))
def o_X8_rows_r (v : Nat → Int32) (ms : Nat → Int32) (sl : Nat → Int32) (p : Int32) (c_ : Int32) (n : Int32) (ot : Int32) (nn : Nat) : Int32 := (if (0 : Int32) ≤ ((L_X8_rows_0 v ms sl p c_ n ot nn nn).1) then (((L_X8_rows_0 v ms sl p c_ n ot nn nn).2) 155) else (-2))
def o_X8_rows_2 (v : Nat → Int32) (ms : Nat → Int32) (sl : Nat → Int32) (p : Int32) (c_ : Int32) (n : Int32) (ot : Int32) (nn : Nat) : Nat → Int32 := ((L_X8_rows_0 v ms sl p c_ n ot nn nn).2)
theorem L_rows (v ms sl : Nat → Int32) (p c_ n ot : Int32) (nn : Nat) (hB : mB 1000000 (sl 11)) : ∀ k : Nat, k ≤ 1000 → mB (1000000 + (k : Int)) ((L_X8_rows_0 v ms sl p c_ n ot nn k).2 154) := by
  intro k
  induction k with
  | zero => intro _; rw [L_X8_rows_0]; simpa [cp_154] using hB
  | succ k ih =>
    intro hk
    rw [L_X8_rows_0]
    unfold j_X8_rows_1_1; split
    · exact mB_told_143 (by omega) _ _ _ _ _ (ih (by omega))
    · exact mB_told_143 (by omega) _ _ _ _ _ (ih (by omega))
set_option maxRecDepth 100000 in
set_option maxHeartbeats 4000000 in
theorem c_X8_rows (l : Launch) (E : zE) (v : Nat → Int32) (ms : Nat → Int32) (sl : Nat → Int32) (p : Int32) (c_ : Int32) (n : Int32) (ot : Int32) (nn : Nat) (m aS aW aL aT a1 a2 a3 aB : Nat) (hB : mB 1000000 (sl 11)) (hnn : nn < 1000) (hn : n = nI nn) : HM l E yX8_rows cX8_rows 8 (some .int) 5 118 [.ref m, .int p, .int c_, .int n, .int ot] [(m, .inr (8, [.int (v 0), .int (v 1), .ref aS, .int (v 2), .int (v 3), .int (v 4), .ref aW, .int (v 5), .ref aL, .int (v 6), .int (v 7), .int (v 8), .ref aT, .int (v 9), .int (v 10), .int (v 11), .int (v 12), .ref a1, .ref a2, .ref a3, .ref aB, .int (v 13), .int (v 14)])), (aS, .inl (E.2.1.1, 12, .inl ms)), (aL, .inl (E.2.1.1, 156, .inl sl))] (some (.int (o_X8_rows_r v ms sl p c_ n ot nn))) [(m, .inr (8, [.int (v 0), .int (v 1), .ref aS, .int (v 2), .int (v 3), .int (v 4), .ref aW, .int (v 5), .ref aL, .int (v 6), .int (v 7), .int (v 8), .ref aT, .int (v 9), .int (v 10), .int (v 11), .int (v 12), .ref a1, .ref a2, .ref a3, .ref aB, .int (v 13), .int (v 14)])), (aS, .inl (E.2.1.1, 12, .inl ms)), (aL, .inl (E.2.1.1, 156, .inl (o_X8_rows_2 v ms sl p c_ n ot nn)))] := by
  refine HM.of (own := RX8) (plainFor_of_name (by decide)) rfl (Nat.le_of_ble_eq_true rfl) ?_
  intro zp ze zs zm za zb zt zc zA ls H locs zq C hr hlk hG hl hQ
  have hx := C.1.1
  have hb := C.1.2.1
  replace hl : lv_has ls 8 [(0, .ref m), (1, .int p), (2, .int c_), (3, .int n), (4, .int ot)] := hl
  refine lv_aload_n hx hb dX8_rows_0 rfl (lv_at hl 0 rfl) ?_
  refine lv_iconst (v := 0) hx hb dX8_rows_1 (by decide) ?_
  refine lv_sipush (v := 143) hx hb dX8_rows_2 (by decide) ?_
  refine call_X8_101 C dX8_rows_5 (c_X8_copies_t l E v sl 0 143 m aS aW aL aT a1 a2 a3 aB (by omega) (by omega) (by omega)) hl hG 0 rfl [0, 2] (by decide) rfl (ads := [m, aL]) rfl rfl (ws' := [(m, .inr (8, [.int (v 0), .int (v 1), .ref aS, .int (v 2), .int (v 3), .int (v 4), .ref aW, .int (v 5), .ref aL, .int (v 6), .int (v 7), .int (v 8), .ref aT, .int (v 9), .int (v 10), .int (v 11), .int (v 12), .ref a1, .ref a2, .ref a3, .ref aB, .int (v 13), .int (v 14)])), (aS, .inl (E.2.1.1, 12, .inl ms)), (aL, .inl (E.2.1.1, 156, .inl (cp13 sl 0 143)))]) rfl rfl (rest := []) rfl (Nat.le_of_ble_eq_true rfl) ⟨Nat.le_of_ble_eq_true rfl, Nat.le_of_ble_eq_true rfl⟩ (fun H locs hG => ?_)
  refine lv_iconst (v := 0) hx hb dX8_rows_8 (by decide) ?_
  refine lv_istore (lv' := [(5, .int 0), (0, .ref m), (1, .int p), (2, .int c_), (3, .int n), (4, .int ot)]) hx hb dX8_rows_9 hl (by decide) rfl (fun ls hl => ?_)
  refine lv_iconst (v := 0) hx hb dX8_rows_11 (by decide) ?_
  refine lv_istore (lv' := [(6, .int 0), (5, .int 0), (0, .ref m), (1, .int p), (2, .int c_), (3, .int n), (4, .int ot)]) hx hb dX8_rows_12 hl (by decide) rfl (fun ls hl => ?_)
  have kl_0 : ∀ (j0 k0 : Nat), j0 + k0 = nn → ∀ (u0_0 : Int32) (u0_1 : Nat → Int32) (H : Heap) (locs : List Loc) (ls : Array Slot), ((L_X8_rows_0 v ms sl p c_ n ot nn k0).1) = u0_0 → ((L_X8_rows_0 v ms sl p c_ n ot nn k0).2) = u0_1 → zG E zA zs.heap [(m, .inr (8, [.int (v 0), .int (v 1), .ref aS, .int (v 2), .int (v 3), .int (v 4), .ref aW, .int (v 5), .ref aL, .int (v 6), .int (v 7), .int (v 8), .ref aT, .int (v 9), .int (v 10), .int (v 11), .int (v 12), .ref a1, .ref a2, .ref a3, .ref aB, .int (v 13), .int (v 14)])), (aS, .inl (E.2.1.1, 12, .inl ms)), (aL, .inl (E.2.1.1, 156, .inl u0_1))] H locs → lv_has ls 8 [(6, .int (nI k0)), (5, .int u0_0), (0, .ref m), (1, .int p), (2, .int c_), (3, .int n), (4, .int ot)] → W zp l ze (zR 5 118) zs zm za zb zt zc H locs 0 0 zq (F0 zm 14 ls []) := by
    intro j0
    induction j0 with
    | zero =>
      intro k0 hk0 u0_0 u0_1 H locs ls e_u0_0 e_u0_1 hG hl
      subst e_u0_0
      subst e_u0_1
      obtain rfl : nn = k0 := by omega
      refine lv_iload hx hb dX8_rows_14 (lv_at hl 0 rfl) ?_
      refine lv_iload_n hx hb dX8_rows_16 rfl (lv_at hl 5 rfl) ?_
      refine lv_icmp_ge (tgt := 69) hx hb dX8_rows_17 (by decide) (fun c_5 => ?_) (fun c_5 => absurd (z_ge_yes hn) c_5)
      refine lv_iload hx hb dX8_rows_69 (lv_at hl 1 rfl) ?_
      refine lv_if_ge (tgt := 79) hx hb dX8_rows_71 (by decide) (fun c_6 => ?_) (fun c_6 => ?_)
      · skip
        refine lv_aload_n hx hb dX8_rows_79 rfl (lv_at hl 2 rfl) ?_
        refine gf_X8_16 C dX8_rows_80 hG 0 rfl rfl ?_
        refine lv_sipush (v := 155) hx hb dX8_rows_83 (by decide) ?_
        refine z_ild C dX8_rows_86 hG 2 rfl 155 (by decide) (Nat.le_of_ble_eq_true rfl) (Nat.le_of_ble_eq_true rfl) ?_
        rw [hQ]
        exact z_iret C hr hlk hG dX8_rows_87 rfl (by rw [o_X8_rows_r, if_pos c_6]) (by rw [o_X8_rows_2])
      · skip
        refine lv_bipush (v := (-2)) hx hb dX8_rows_74 (by decide) ?_
        refine lv_goto (tgt := 87) hx hb dX8_rows_76 (by decide) ?_
        rw [hQ]
        exact z_iret C hr hlk hG dX8_rows_87 rfl (by rw [o_X8_rows_r, if_neg c_6]) (by rw [o_X8_rows_2])
    | succ j0 ih0 =>
      intro k0 hk0 u0_0 u0_1 H locs ls e_u0_0 e_u0_1 hG hl
      subst e_u0_0
      subst e_u0_1
      have hlt : k0 < nn := by omega
      refine lv_iload hx hb dX8_rows_14 (lv_at hl 0 rfl) ?_
      refine lv_iload_n hx hb dX8_rows_16 rfl (lv_at hl 5 rfl) ?_
      refine lv_icmp_ge (tgt := 69) hx hb dX8_rows_17 (by decide) (fun c_7 => absurd c_7 (z_ge_no hlt (Nat.lt_of_lt_of_le hnn (by decide)) hn)) (fun c_7 => ?_)
      refine lv_iload_n hx hb dX8_rows_20 rfl (lv_at hl 4 rfl) ?_
      refine lv_iload_n hx hb dX8_rows_21 rfl (lv_at hl 5 rfl) ?_
      refine lv_iload hx hb dX8_rows_22 (lv_at hl 0 rfl) ?_
      refine call_X8_180 C dX8_rows_24 (c_X8_doneIn l E c_ n (nI k0) nn k0 hnn hn rfl (by omega)) hl hG [] (by decide) rfl (ads := []) rfl rfl (ws' := [(m, .inr (8, [.int (v 0), .int (v 1), .ref aS, .int (v 2), .int (v 3), .int (v 4), .ref aW, .int (v 5), .ref aL, .int (v 6), .int (v 7), .int (v 8), .ref aT, .int (v 9), .int (v 10), .int (v 11), .int (v 12), .ref a1, .ref a2, .ref a3, .ref aB, .int (v 13), .int (v 14)])), (aS, .inl (E.2.1.1, 12, .inl ms)), (aL, .inl (E.2.1.1, 156, .inl ((L_X8_rows_0 v ms sl p c_ n ot nn k0).2)))]) rfl rfl (rest := []) rfl (Nat.le_of_ble_eq_true rfl) ⟨Nat.le_of_ble_eq_true rfl, Nat.le_of_ble_eq_true rfl⟩ (fun H locs hG => ?_)
      refine lv_istore (lv' := [(7, .int (o_X8_doneIn_r c_ n (nI k0) nn k0)), (6, .int (nI k0)), (5, .int ((L_X8_rows_0 v ms sl p c_ n ot nn k0).1)), (0, .ref m), (1, .int p), (2, .int c_), (3, .int n), (4, .int ot)]) hx hb dX8_rows_27 hl (by decide) rfl (fun ls hl => ?_)
      refine lv_iload hx hb dX8_rows_29 (lv_at hl 2 rfl) ?_
      refine lv_iload_n hx hb dX8_rows_31 rfl (lv_at hl 4 rfl) ?_
      have k_1 : ∀ (y1_0 : Int32) (y1_1 : Nat → Int32) (H : Heap) (locs : List Loc) (ls : Array Slot), (j_X8_rows_1_0 v ms sl p c_ n ot nn k0 ((L_X8_rows_0 v ms sl p c_ n ot nn k0).1) ((L_X8_rows_0 v ms sl p c_ n ot nn k0).2)) = y1_0 → (j_X8_rows_1_1 v ms sl p c_ n ot nn k0 ((L_X8_rows_0 v ms sl p c_ n ot nn k0).1) ((L_X8_rows_0 v ms sl p c_ n ot nn k0).2)) = y1_1 → zG E zA zs.heap [(m, .inr (8, [.int (v 0), .int (v 1), .ref aS, .int (v 2), .int (v 3), .int (v 4), .ref aW, .int (v 5), .ref aL, .int (v 6), .int (v 7), .int (v 8), .ref aT, .int (v 9), .int (v 10), .int (v 11), .int (v 12), .ref a1, .ref a2, .ref a3, .ref aB, .int (v 13), .int (v 14)])), (aS, .inl (E.2.1.1, 12, .inl ms)), (aL, .inl (E.2.1.1, 156, .inl y1_1))] H locs → lv_has ls 8 [(7, .int (o_X8_doneIn_r c_ n (nI k0) nn k0)), (6, .int (nI k0)), (5, .int ((L_X8_rows_0 v ms sl p c_ n ot nn k0).1)), (0, .ref m), (1, .int p), (2, .int c_), (3, .int n), (4, .int ot)] → W zp l ze (zR 5 118) zs zm za zb zt zc H locs 0 0 zq (F0 zm 60 ls [.int y1_0, .int ((L_X8_rows_0 v ms sl p c_ n ot nn k0).1)]) := by
        intro y1_0 y1_1 H locs ls e_y1_0 e_y1_1 hG hl
        subst e_y1_0
        subst e_y1_1
        refine lv_ior hx hb dX8_rows_60 ?_
        refine lv_istore (lv' := [(5, .int (((L_X8_rows_0 v ms sl p c_ n ot nn k0).1) ||| (j_X8_rows_1_0 v ms sl p c_ n ot nn k0 ((L_X8_rows_0 v ms sl p c_ n ot nn k0).1) ((L_X8_rows_0 v ms sl p c_ n ot nn k0).2)))), (7, .int (o_X8_doneIn_r c_ n (nI k0) nn k0)), (6, .int (nI k0)), (0, .ref m), (1, .int p), (2, .int c_), (3, .int n), (4, .int ot)]) hx hb dX8_rows_61 hl (by decide) rfl (fun ls hl => ?_)
        refine lv_iinc (v := (nI (k0 + 1))) (lv' := [(6, .int (nI (k0 + 1))), (5, .int (((L_X8_rows_0 v ms sl p c_ n ot nn k0).1) ||| (j_X8_rows_1_0 v ms sl p c_ n ot nn k0 ((L_X8_rows_0 v ms sl p c_ n ot nn k0).1) ((L_X8_rows_0 v ms sl p c_ n ot nn k0).2)))), (7, .int (o_X8_doneIn_r c_ n (nI k0) nn k0)), (0, .ref m), (1, .int p), (2, .int c_), (3, .int n), (4, .int ot)]) hx hb dX8_rows_63 hl (k := 2) rfl (nI_1 _) (by decide) rfl (fun ls hl => ?_)
        refine lv_goto (tgt := 14) hx hb dX8_rows_66 (by decide) ?_
        exact ih0 (k0 + 1) (by omega) (((L_X8_rows_0 v ms sl p c_ n ot nn k0).1) ||| (j_X8_rows_1_0 v ms sl p c_ n ot nn k0 ((L_X8_rows_0 v ms sl p c_ n ot nn k0).1) ((L_X8_rows_0 v ms sl p c_ n ot nn k0).2))) (j_X8_rows_1_1 v ms sl p c_ n ot nn k0 ((L_X8_rows_0 v ms sl p c_ n ot nn k0).1) ((L_X8_rows_0 v ms sl p c_ n ot nn k0).2)) _ _ _ (by rw [L_X8_rows_0]) (by rw [L_X8_rows_0]) hG (lv_sub hl [0, 1, 3, 4, 5, 6, 7] rfl)
      refine lv_if_ne (tgt := 49) hx hb dX8_rows_32 (by decide) (fun c_8 => ?_) (fun c_8 => ?_)
      · skip
        refine lv_aload_n hx hb dX8_rows_49 rfl (lv_at hl 3 rfl) ?_
        refine lv_sipush (v := 143) hx hb dX8_rows_50 (by decide) ?_
        refine lv_iload hx hb dX8_rows_53 (lv_at hl 7 rfl) ?_
        refine lv_iload hx hb dX8_rows_55 (lv_at hl 0 rfl) ?_
        refine call_X8_168 C dX8_rows_57 (c_X8_told_143 l E v ms ((L_X8_rows_0 v ms sl p c_ n ot nn k0).2) ot (o_X8_doneIn_r c_ n (nI k0) nn k0) m aS aW aL aT a1 a2 a3 aB (L_rows v ms sl p c_ n ot nn hB _ (by omega)).1) hl hG 0 rfl [0, 1, 2] (by decide) rfl (ads := [m, aS, aL]) rfl rfl (ws' := [(m, .inr (8, [.int (v 0), .int (v 1), .ref aS, .int (v 2), .int (v 3), .int (v 4), .ref aW, .int (v 5), .ref aL, .int (v 6), .int (v 7), .int (v 8), .ref aT, .int (v 9), .int (v 10), .int (v 11), .int (v 12), .ref a1, .ref a2, .ref a3, .ref aB, .int (v 13), .int (v 14)])), (aS, .inl (E.2.1.1, 12, .inl ms)), (aL, .inl (E.2.1.1, 156, .inl (o_X8_told_143_2 v ms ((L_X8_rows_0 v ms sl p c_ n ot nn k0).2) ot (o_X8_doneIn_r c_ n (nI k0) nn k0))))]) rfl rfl (rest := [.int ((L_X8_rows_0 v ms sl p c_ n ot nn k0).1)]) rfl (Nat.le_of_ble_eq_true rfl) ⟨Nat.le_of_ble_eq_true rfl, Nat.le_of_ble_eq_true rfl⟩ (fun H locs hG => ?_)
        exact k_1 (o_X8_told_143_r v ms ((L_X8_rows_0 v ms sl p c_ n ot nn k0).2) ot (o_X8_doneIn_r c_ n (nI k0) nn k0)) (o_X8_told_143_2 v ms ((L_X8_rows_0 v ms sl p c_ n ot nn k0).2) ot (o_X8_doneIn_r c_ n (nI k0) nn k0)) _ _ _ (by rw [j_X8_rows_1_0, if_neg c_8]) (by rw [j_X8_rows_1_1, if_neg c_8]) hG (lv_sub hl [0, 1, 2, 3, 4, 5, 6, 7] rfl)
      · skip
        refine lv_aload_n hx hb dX8_rows_35 rfl (lv_at hl 3 rfl) ?_
        refine lv_sipush (v := 143) hx hb dX8_rows_36 (by decide) ?_
        refine lv_iload hx hb dX8_rows_39 (lv_at hl 0 rfl) ?_
        refine lv_iload hx hb dX8_rows_41 (lv_at hl 7 rfl) ?_
        refine call_X8_168 C dX8_rows_43 (c_X8_told_143 l E v ms ((L_X8_rows_0 v ms sl p c_ n ot nn k0).2) (o_X8_doneIn_r c_ n (nI k0) nn k0) ot m aS aW aL aT a1 a2 a3 aB (L_rows v ms sl p c_ n ot nn hB _ (by omega)).1) hl hG 0 rfl [0, 1, 2] (by decide) rfl (ads := [m, aS, aL]) rfl rfl (ws' := [(m, .inr (8, [.int (v 0), .int (v 1), .ref aS, .int (v 2), .int (v 3), .int (v 4), .ref aW, .int (v 5), .ref aL, .int (v 6), .int (v 7), .int (v 8), .ref aT, .int (v 9), .int (v 10), .int (v 11), .int (v 12), .ref a1, .ref a2, .ref a3, .ref aB, .int (v 13), .int (v 14)])), (aS, .inl (E.2.1.1, 12, .inl ms)), (aL, .inl (E.2.1.1, 156, .inl (o_X8_told_143_2 v ms ((L_X8_rows_0 v ms sl p c_ n ot nn k0).2) (o_X8_doneIn_r c_ n (nI k0) nn k0) ot)))]) rfl rfl (rest := [.int ((L_X8_rows_0 v ms sl p c_ n ot nn k0).1)]) rfl (Nat.le_of_ble_eq_true rfl) ⟨Nat.le_of_ble_eq_true rfl, Nat.le_of_ble_eq_true rfl⟩ (fun H locs hG => ?_)
        refine lv_goto (tgt := 60) hx hb dX8_rows_46 (by decide) ?_
        exact k_1 (o_X8_told_143_r v ms ((L_X8_rows_0 v ms sl p c_ n ot nn k0).2) (o_X8_doneIn_r c_ n (nI k0) nn k0) ot) (o_X8_told_143_2 v ms ((L_X8_rows_0 v ms sl p c_ n ot nn k0).2) (o_X8_doneIn_r c_ n (nI k0) nn k0) ot) _ _ _ (by rw [j_X8_rows_1_0, if_pos c_8]) (by rw [j_X8_rows_1_1, if_pos c_8]) hG (lv_sub hl [0, 1, 2, 3, 4, 5, 6, 7] rfl)
  exact kl_0 nn 0 (by omega) 0 (cp13 sl 0 143) _ _ _ (by rw [L_X8_rows_0]) (by rw [L_X8_rows_0]) hG (lv_sub hl [0, 1, 2, 3, 4, 5, 6] rfl)
