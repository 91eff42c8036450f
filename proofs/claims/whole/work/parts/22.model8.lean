theorem mB_le {A B : Int} {x : Int32} (h : A ≤ B) (hx : mB A x) : mB B x := ⟨hx.1, Int.le_trans hx.2 h⟩
theorem z_le200 {x : Int32} (h : x.toInt ≤ 200) : x ≤ 200 := by
  rw [Int32.le_iff_toInt_le]; exact h
theorem z_at {x : Int32} (h : 0 ≤ x.toInt) (h2 : x < 200) : vp_in x 200 := by
  have e := z_clamp h
  generalize x.toNatClampNeg = k at e
  obtain ⟨rfl, e3⟩ := e
  rw [Int32.lt_iff_toInt_lt, ← e3] at h2
  have h5 : (200 : Int32).toInt = 200 := by decide
  exact vp_in_nI (by omega) (by decide)
def o_X8_next_r (v : Nat → Int32) (tx : Nat → Int32) : Int32 := (if (v 8) ≤ (v 9) then (-1) else (tx ((v 9).toNatClampNeg)))
set_option maxRecDepth 100000 in
set_option maxHeartbeats 4000000 in
theorem c_X8_next (l : Launch) (E : zE) (v : Nat → Int32) (tx : Nat → Int32) (m aS aW aL aT a1 a2 a3 aB : Nat) (hat : 0 ≤ (v 9).toInt) (hlen : (v 8).toInt ≤ 200) : HM l E yX8_next cX8_next 1 (some .int) 0 0 [.ref m] [(m, .inr (8, [.int (v 0), .int (v 1), .ref aS, .int (v 2), .int (v 3), .int (v 4), .ref aW, .int (v 5), .ref aL, .int (v 6), .int (v 7), .int (v 8), .ref aT, .int (v 9), .int (v 10), .int (v 11), .int (v 12), .ref a1, .ref a2, .ref a3, .ref aB, .int (v 13), .int (v 14)])), (aT, .inl (E.2.1.2, 200, .inl tx))] (some (.int (o_X8_next_r v tx))) [(m, .inr (8, [.int (v 0), .int (v 1), .ref aS, .int (v 2), .int (v 3), .int (v 4), .ref aW, .int (v 5), .ref aL, .int (v 6), .int (v 7), .int (v 8), .ref aT, .int (v 9), .int (v 10), .int (v 11), .int (v 12), .ref a1, .ref a2, .ref a3, .ref aB, .int (v 13), .int (v 14)])), (aT, .inl (E.2.1.2, 200, .inl tx))] := by
  refine HM.of (own := RX8) (plainFor_of_name (by decide)) rfl (Nat.le_of_ble_eq_true rfl) ?_
  intro zp ze zs zm za zb zt zc zA ls H locs zq C hr hlk hG hl hQ
  have hx := C.1.1
  have hb := C.1.2.1
  replace hl : lv_has ls 1 [(0, .ref m)] := hl
  refine lv_aload_n hx hb dX8_next_0 rfl (lv_at hl 0 rfl) ?_
  refine gf_X8_56 C dX8_next_1 hG 0 rfl rfl ?_
  refine lv_aload_n hx hb dX8_next_4 rfl (lv_at hl 0 rfl) ?_
  refine gf_X8_53 C dX8_next_5 hG 0 rfl rfl ?_
  refine lv_icmp_ge (tgt := 23) hx hb dX8_next_8 (by decide) (fun c_1 => ?_) (fun c_1 => ?_)
  · skip
    refine lv_iconst (v := (-1)) hx hb dX8_next_23 (by decide) ?_
    rw [hQ]
    exact z_iret C hr hlk hG dX8_next_24 rfl (by rw [o_X8_next_r, if_pos c_1]) rfl
  · skip
    refine lv_aload_n hx hb dX8_next_11 rfl (lv_at hl 0 rfl) ?_
    refine gf_X8_19 C dX8_next_12 hG 0 rfl rfl ?_
    refine lv_aload_n hx hb dX8_next_15 rfl (lv_at hl 0 rfl) ?_
    refine gf_X8_56 C dX8_next_16 hG 0 rfl rfl ?_
    refine z_bald C dX8_next_19 hG 1 rfl (z_at hat (Int32.lt_of_lt_of_le (Int32.not_le.mp c_1) (z_le200 hlen))) ?_
    refine lv_goto (tgt := 24) hx hb dX8_next_20 (by decide) ?_
    rw [hQ]
    exact z_iret C hr hlk hG dX8_next_24 rfl (by rw [o_X8_next_r, if_neg c_1]) rfl
def j_X8_number_0_0 (v : Nat → Int32) (tx : Nat → Int32) (lo : Int32) (hi : Int32) : Int32 := (if (o_X8_in_r ((o_X8_next_r v tx).toInt64) 48 57) = 0 then 0 else (if (o_X8_in_r ((o_X8_next_r (mkG15 (v 0) (v 1) (v 2) (v 3) (v 4) (v 5) (v 6) (v 7) (v 8) ((v 9) + 1) (v 10) (v 11) (v 12) (v 13) (v 14)) tx).toInt64) 48 57) = 0 then 1 else (if (o_X8_in_r ((o_X8_next_r (mkG15 (v 0) (v 1) (v 2) (v 3) (v 4) (v 5) (v 6) (v 7) (v 8) (((v 9) + 1) + 1) (v 10) (v 11) (v 12) (v 13) (v 14)) tx).toInt64) 48 57) = 0 then 2 else 3)))
def j_X8_number_0_1 (v : Nat → Int32) (tx : Nat → Int32) (lo : Int32) (hi : Int32) : Int32 := (if (o_X8_in_r ((o_X8_next_r v tx).toInt64) 48 57) = 0 then 0 else (if (o_X8_in_r ((o_X8_next_r (mkG15 (v 0) (v 1) (v 2) (v 3) (v 4) (v 5) (v 6) (v 7) (v 8) ((v 9) + 1) (v 10) (v 11) (v 12) (v 13) (v 14)) tx).toInt64) 48 57) = 0 then ((0 + (o_X8_next_r v tx)) - 48) else (if (o_X8_in_r ((o_X8_next_r (mkG15 (v 0) (v 1) (v 2) (v 3) (v 4) (v 5) (v 6) (v 7) (v 8) (((v 9) + 1) + 1) (v 10) (v 11) (v 12) (v 13) (v 14)) tx).toInt64) 48 57) = 0 then (((10 * ((0 + (o_X8_next_r v tx)) - 48)) + (o_X8_next_r (mkG15 (v 0) (v 1) (v 2) (v 3) (v 4) (v 5) (v 6) (v 7) (v 8) ((v 9) + 1) (v 10) (v 11) (v 12) (v 13) (v 14)) tx)) - 48) else (((10 * (((10 * ((0 + (o_X8_next_r v tx)) - 48)) + (o_X8_next_r (mkG15 (v 0) (v 1) (v 2) (v 3) (v 4) (v 5) (v 6) (v 7) (v 8) ((v 9) + 1) (v 10) (v 11) (v 12) (v 13) (v 14)) tx)) - 48)) + (o_X8_next_r (mkG15 (v 0) (v 1) (v 2) (v 3) (v 4) (v 5) (v 6) (v 7) (v 8) (((v 9) + 1) + 1) (v 10) (v 11) (v 12) (v 13) (v 14)) tx)) - 48))))
def j_X8_number_0_2 (v : Nat → Int32) (tx : Nat → Int32) (lo : Int32) (hi : Int32) : Int32 := (if (o_X8_in_r ((o_X8_next_r v tx).toInt64) 48 57) = 0 then (v 9) else (if (o_X8_in_r ((o_X8_next_r (mkG15 (v 0) (v 1) (v 2) (v 3) (v 4) (v 5) (v 6) (v 7) (v 8) ((v 9) + 1) (v 10) (v 11) (v 12) (v 13) (v 14)) tx).toInt64) 48 57) = 0 then ((v 9) + 1) else (if (o_X8_in_r ((o_X8_next_r (mkG15 (v 0) (v 1) (v 2) (v 3) (v 4) (v 5) (v 6) (v 7) (v 8) (((v 9) + 1) + 1) (v 10) (v 11) (v 12) (v 13) (v 14)) tx).toInt64) 48 57) = 0 then (((v 9) + 1) + 1) else ((((v 9) + 1) + 1) + 1))))
def j_X8_number_1_0 (v : Nat → Int32) (tx : Nat → Int32) (lo : Int32) (hi : Int32) : Int32 := (if (v 11) = 0 then (if (j_X8_number_0_0 v tx lo hi) = 0 then 1 else (if (2 : Int32) < (j_X8_number_0_0 v tx lo hi) then 1 else (if (o_X8_in_r ((j_X8_number_0_1 v tx lo hi).toInt64) lo.toInt64 hi.toInt64) = 0 then 1 else 0))) else 1)
def o_X8_number_r (v : Nat → Int32) (tx : Nat → Int32) (lo : Int32) (hi : Int32) : Int32 := (if (j_X8_number_1_0 v tx lo hi) = 0 then (j_X8_number_0_1 v tx lo hi) else 0)
def o_X8_number_v (v : Nat → Int32) (tx : Nat → Int32) (lo : Int32) (hi : Int32) : Nat → Int32 := (mkG15 (v 0) (v 1) (v 2) (v 3) (v 4) (v 5) (v 6) (v 7) (v 8) (j_X8_number_0_2 v tx lo hi) (v 10) (j_X8_number_1_0 v tx lo hi) (v 12) (v 13) (v 14))
set_option maxRecDepth 100000 in
set_option maxHeartbeats 4000000 in
theorem c_X8_number (l : Launch) (E : zE) (v : Nat → Int32) (tx : Nat → Int32) (lo : Int32) (hi : Int32) (m aS aW aL aT a1 a2 a3 aB : Nat) (hA : mB 100000 (v 9)) (hlen : (v 8).toInt ≤ 200) : HM l E yX8_number cX8_number 5 (some .int) 1 25 [.ref m, .int lo, .int hi] [(m, .inr (8, [.int (v 0), .int (v 1), .ref aS, .int (v 2), .int (v 3), .int (v 4), .ref aW, .int (v 5), .ref aL, .int (v 6), .int (v 7), .int (v 8), .ref aT, .int (v 9), .int (v 10), .int (v 11), .int (v 12), .ref a1, .ref a2, .ref a3, .ref aB, .int (v 13), .int (v 14)])), (aT, .inl (E.2.1.2, 200, .inl tx))] (some (.int (o_X8_number_r v tx lo hi))) [(m, .inr (8, [.int (o_X8_number_v v tx lo hi 0), .int (o_X8_number_v v tx lo hi 1), .ref aS, .int (o_X8_number_v v tx lo hi 2), .int (o_X8_number_v v tx lo hi 3), .int (o_X8_number_v v tx lo hi 4), .ref aW, .int (o_X8_number_v v tx lo hi 5), .ref aL, .int (o_X8_number_v v tx lo hi 6), .int (o_X8_number_v v tx lo hi 7), .int (o_X8_number_v v tx lo hi 8), .ref aT, .int (o_X8_number_v v tx lo hi 9), .int (o_X8_number_v v tx lo hi 10), .int (o_X8_number_v v tx lo hi 11), .int (o_X8_number_v v tx lo hi 12), .ref a1, .ref a2, .ref a3, .ref aB, .int (o_X8_number_v v tx lo hi 13), .int (o_X8_number_v v tx lo hi 14)])), (aT, .inl (E.2.1.2, 200, .inl tx))] := by
  refine HM.of (own := RX8) (plainFor_of_name (by decide)) rfl (Nat.le_of_ble_eq_true rfl) ?_
  intro zp ze zs zm za zb zt zc zA ls H locs zq C hr hlk hG hl hQ
  have hx := C.1.1
  have hb := C.1.2.1
  replace hl : lv_has ls 5 [(0, .ref m), (1, .int lo), (2, .int hi)] := hl
  refine lv_iconst (v := 0) hx hb dX8_number_0 (by decide) ?_
  refine lv_istore_n (lv' := [(3, .int 0), (0, .ref m), (1, .int lo), (2, .int hi)]) hx hb dX8_number_1 rfl hl (by decide) rfl (fun ls hl => ?_)
  refine lv_iconst (v := 0) hx hb dX8_number_2 (by decide) ?_
  refine lv_istore (lv' := [(4, .int 0), (3, .int 0), (0, .ref m), (1, .int lo), (2, .int hi)]) hx hb dX8_number_3 hl (by decide) rfl (fun ls hl => ?_)
  refine lv_aload_n hx hb dX8_number_5 rfl (lv_at hl 2 rfl) ?_
  refine call_X8_59 C dX8_number_6 (c_X8_next l E v tx m aS aW aL aT a1 a2 a3 aB hA.1 hlen) hl hG 0 rfl [0, 1] (by decide) rfl (ads := [m, aT]) rfl rfl (ws' := [(m, .inr (8, [.int (v 0), .int (v 1), .ref aS, .int (v 2), .int (v 3), .int (v 4), .ref aW, .int (v 5), .ref aL, .int (v 6), .int (v 7), .int (v 8), .ref aT, .int (v 9), .int (v 10), .int (v 11), .int (v 12), .ref a1, .ref a2, .ref a3, .ref aB, .int (v 13), .int (v 14)])), (aT, .inl (E.2.1.2, 200, .inl tx))]) rfl rfl (rest := []) rfl (Nat.le_of_ble_eq_true rfl) ⟨Nat.le_of_ble_eq_true rfl, Nat.le_of_ble_eq_true rfl⟩ (fun H locs hG => ?_)
  refine lv_i2l (v := ((o_X8_next_r v tx).toInt64)) hx hb dX8_number_9 rfl ?_
  refine lv_ldc2 (v := 48) hx hb C.1.2.2.2.1 (C.1.2.2.2.2 _ (inr12 _ (List.mem_of_getElem? (i := 23) rfl))) dX8_number_10 ?_
  refine lv_ldc2 (v := 57) hx hb C.1.2.2.2.1 (C.1.2.2.2.2 _ (inr13 _ (List.mem_of_getElem? (i := 0) rfl))) dX8_number_13 ?_
  refine call_X8_49 C dX8_number_16 (c_X8_in l E ((o_X8_next_r v tx).toInt64) 48 57) hl hG [] (by decide) rfl (ads := []) rfl rfl (ws' := [(m, .inr (8, [.int (v 0), .int (v 1), .ref aS, .int (v 2), .int (v 3), .int (v 4), .ref aW, .int (v 5), .ref aL, .int (v 6), .int (v 7), .int (v 8), .ref aT, .int (v 9), .int (v 10), .int (v 11), .int (v 12), .ref a1, .ref a2, .ref a3, .ref aB, .int (v 13), .int (v 14)])), (aT, .inl (E.2.1.2, 200, .inl tx))]) rfl rfl (rest := []) rfl (Nat.le_of_ble_eq_true rfl) ⟨Nat.le_of_ble_eq_true rfl, Nat.le_of_ble_eq_true rfl⟩ (fun H locs hG => ?_)
  have k_0 : ∀ (y0_0 : Int32) (y0_1 : Int32) (y0_2 : Int32) (H : Heap) (locs : List Loc) (ls : Array Slot), (j_X8_number_0_0 v tx lo hi) = y0_0 → (j_X8_number_0_1 v tx lo hi) = y0_1 → (j_X8_number_0_2 v tx lo hi) = y0_2 → zG E zA zs.heap [(m, .inr (8, [.int (v 0), .int (v 1), .ref aS, .int (v 2), .int (v 3), .int (v 4), .ref aW, .int (v 5), .ref aL, .int (v 6), .int (v 7), .int (v 8), .ref aT, .int y0_2, .int (v 10), .int (v 11), .int (v 12), .ref a1, .ref a2, .ref a3, .ref aB, .int (v 13), .int (v 14)])), (aT, .inl (E.2.1.2, 200, .inl tx))] H locs → lv_has ls 5 [(4, .int y0_0), (3, .int y0_1), (0, .ref m), (1, .int lo), (2, .int hi)] → W zp l ze (zR 1 25) zs zm za zb zt zc H locs 0 0 zq (F0 zm 57 ls []) := by
    intro y0_0 y0_1 y0_2 H locs ls e_y0_0 e_y0_1 e_y0_2 hG hl
    subst e_y0_0
    subst e_y0_1
    subst e_y0_2
    refine lv_aload_n hx hb dX8_number_57 rfl (lv_at hl 2 rfl) ?_
    refine lv_aload_n hx hb dX8_number_58 rfl (lv_at hl 2 rfl) ?_
    refine gf_X8_67 C dX8_number_59 hG 0 rfl rfl ?_
    have k_1 : ∀ (y1_0 : Int32) (H : Heap) (locs : List Loc) (ls : Array Slot), (j_X8_number_1_0 v tx lo hi) = y1_0 → zG E zA zs.heap [(m, .inr (8, [.int (v 0), .int (v 1), .ref aS, .int (v 2), .int (v 3), .int (v 4), .ref aW, .int (v 5), .ref aL, .int (v 6), .int (v 7), .int (v 8), .ref aT, .int (j_X8_number_0_2 v tx lo hi), .int (v 10), .int (v 11), .int (v 12), .ref a1, .ref a2, .ref a3, .ref aB, .int (v 13), .int (v 14)])), (aT, .inl (E.2.1.2, 200, .inl tx))] H locs → lv_has ls 5 [(4, .int (j_X8_number_0_0 v tx lo hi)), (3, .int (j_X8_number_0_1 v tx lo hi)), (0, .ref m), (1, .int lo), (2, .int hi)] → W zp l ze (zR 1 25) zs zm za zb zt zc H locs 0 0 zq (F0 zm 93 ls [.int y1_0, .ref m]) := by
      intro y1_0 H locs ls e_y1_0 hG hl
      subst e_y1_0
      refine pf_X8_67 C dX8_number_93 hG 0 rfl (Nat.le_of_ble_eq_true rfl) (z_b01 (by unfold j_X8_number_1_0; (repeat' split) <;> first | exact Or.inl rfl | exact Or.inr rfl)) (z_b01f (by unfold j_X8_number_1_0; (repeat' split) <;> first | exact Or.inl rfl | exact Or.inr rfl)) (ws' := [(m, .inr (8, [.int (v 0), .int (v 1), .ref aS, .int (v 2), .int (v 3), .int (v 4), .ref aW, .int (v 5), .ref aL, .int (v 6), .int (v 7), .int (v 8), .ref aT, .int (j_X8_number_0_2 v tx lo hi), .int (v 10), .int (j_X8_number_1_0 v tx lo hi), .int (v 12), .ref a1, .ref a2, .ref a3, .ref aB, .int (v 13), .int (v 14)])), (aT, .inl (E.2.1.2, 200, .inl tx))]) rfl (fun H locs hG => ?_)
      refine lv_aload_n hx hb dX8_number_96 rfl (lv_at hl 2 rfl) ?_
      refine gf_X8_67 C dX8_number_97 hG 0 rfl rfl ?_
      refine lv_if_eq (tgt := 107) hx hb dX8_number_100 (by decide) (fun c_13 => ?_) (fun c_13 => ?_)
      · skip
        refine lv_iload_n hx hb dX8_number_107 rfl (lv_at hl 1 rfl) ?_
        rw [hQ]
        exact z_iret C hr hlk hG dX8_number_108 rfl (by rw [o_X8_number_r, if_pos c_13]) (by rw [o_X8_number_v, mkG15_0, mkG15_1, mkG15_2, mkG15_3, mkG15_4, mkG15_5, mkG15_6, mkG15_7, mkG15_8, mkG15_9, mkG15_10, mkG15_11, mkG15_12, mkG15_13, mkG15_14])
      · skip
        refine lv_iconst (v := 0) hx hb dX8_number_103 (by decide) ?_
        refine lv_goto (tgt := 108) hx hb dX8_number_104 (by decide) ?_
        rw [hQ]
        exact z_iret C hr hlk hG dX8_number_108 rfl (by rw [o_X8_number_r, if_neg c_13]) (by rw [o_X8_number_v, mkG15_0, mkG15_1, mkG15_2, mkG15_3, mkG15_4, mkG15_5, mkG15_6, mkG15_7, mkG15_8, mkG15_9, mkG15_10, mkG15_11, mkG15_12, mkG15_13, mkG15_14])
    refine lv_if_ne (tgt := 88) hx hb dX8_number_62 (by decide) (fun c_9 => ?_) (fun c_9 => ?_)
    · skip
      refine lv_iconst (v := 1) hx hb dX8_number_88 (by decide) ?_
      refine lv_goto (tgt := 93) hx hb dX8_number_89 (by decide) ?_
      exact k_1 1 _ _ _ (by rw [j_X8_number_1_0, if_neg c_9]) hG (lv_sub hl [0, 1, 2, 3, 4] rfl)
    · skip
      refine lv_iload hx hb dX8_number_65 (lv_at hl 0 rfl) ?_
      refine lv_if_eq (tgt := 88) hx hb dX8_number_67 (by decide) (fun c_14 => ?_) (fun c_14 => ?_)
      · skip
        refine lv_iconst (v := 1) hx hb dX8_number_88 (by decide) ?_
        refine lv_goto (tgt := 93) hx hb dX8_number_89 (by decide) ?_
        exact k_1 1 _ _ _ (by rw [j_X8_number_1_0, if_pos c_9, if_pos c_14]) hG (lv_sub hl [0, 1, 2, 3, 4] rfl)
      · skip
        refine lv_iload hx hb dX8_number_70 (lv_at hl 0 rfl) ?_
        refine lv_iconst (v := 2) hx hb dX8_number_72 (by decide) ?_
        refine lv_icmp_gt (tgt := 88) hx hb dX8_number_73 (by decide) (fun c_15 => ?_) (fun c_15 => ?_)
        · skip
          refine lv_iconst (v := 1) hx hb dX8_number_88 (by decide) ?_
          refine lv_goto (tgt := 93) hx hb dX8_number_89 (by decide) ?_
          exact k_1 1 _ _ _ (by rw [j_X8_number_1_0, if_pos c_9, if_neg c_14, if_pos c_15]) hG (lv_sub hl [0, 1, 2, 3, 4] rfl)
        · skip
          refine lv_iload_n hx hb dX8_number_76 rfl (lv_at hl 1 rfl) ?_
          refine lv_i2l (v := ((j_X8_number_0_1 v tx lo hi).toInt64)) hx hb dX8_number_77 rfl ?_
          refine lv_iload_n hx hb dX8_number_78 rfl (lv_at hl 3 rfl) ?_
          refine lv_i2l (v := lo.toInt64) hx hb dX8_number_79 rfl ?_
          refine lv_iload_n hx hb dX8_number_80 rfl (lv_at hl 4 rfl) ?_
          refine lv_i2l (v := hi.toInt64) hx hb dX8_number_81 rfl ?_
          refine call_X8_49 C dX8_number_82 (c_X8_in l E ((j_X8_number_0_1 v tx lo hi).toInt64) lo.toInt64 hi.toInt64) hl hG [] (by decide) rfl (ads := []) rfl rfl (ws' := [(m, .inr (8, [.int (v 0), .int (v 1), .ref aS, .int (v 2), .int (v 3), .int (v 4), .ref aW, .int (v 5), .ref aL, .int (v 6), .int (v 7), .int (v 8), .ref aT, .int (j_X8_number_0_2 v tx lo hi), .int (v 10), .int (v 11), .int (v 12), .ref a1, .ref a2, .ref a3, .ref aB, .int (v 13), .int (v 14)])), (aT, .inl (E.2.1.2, 200, .inl tx))]) rfl rfl (rest := [.ref m]) rfl (Nat.le_of_ble_eq_true rfl) ⟨Nat.le_of_ble_eq_true rfl, Nat.le_of_ble_eq_true rfl⟩ (fun H locs hG => ?_)
          refine lv_if_ne (tgt := 92) hx hb dX8_number_85 (by decide) (fun c_16 => ?_) (fun c_16 => ?_)
          · skip
            refine lv_iconst (v := 0) hx hb dX8_number_92 (by decide) ?_
            exact k_1 0 _ _ _ (by rw [j_X8_number_1_0, if_pos c_9, if_neg c_14, if_neg c_15, if_neg c_16]) hG (lv_sub hl [0, 1, 2, 3, 4] rfl)
          · skip
            refine lv_iconst (v := 1) hx hb dX8_number_88 (by decide) ?_
            refine lv_goto (tgt := 93) hx hb dX8_number_89 (by decide) ?_
            exact k_1 1 _ _ _ (by rw [j_X8_number_1_0, if_pos c_9, if_neg c_14, if_neg c_15, if_pos c_16]) hG (lv_sub hl [0, 1, 2, 3, 4] rfl)
  refine lv_if_eq (tgt := 57) hx hb dX8_number_19 (by decide) (fun c_1 => ?_) (fun c_1 => ?_)
  · skip
    exact k_0 0 0 (v 9) _ _ _ (by rw [j_X8_number_0_0, if_pos c_1]) (by rw [j_X8_number_0_1, if_pos c_1]) (by rw [j_X8_number_0_2, if_pos c_1]) hG (lv_sub hl [0, 1, 2, 3, 4] rfl)
  · skip
    refine lv_iload hx hb dX8_number_22 (lv_at hl 0 rfl) ?_
    refine lv_iconst (v := 3) hx hb dX8_number_24 (by decide) ?_
    refine lv_icmp_ge (tgt := 57) hx hb dX8_number_25 (by decide) (fun c_17 => absurd c_17 (by decide)) (fun c_17 => ?_)
    refine lv_bipush (v := 10) hx hb dX8_number_28 (by decide) ?_
    refine lv_iload_n hx hb dX8_number_30 rfl (lv_at hl 1 rfl) ?_
    refine lv_imul hx hb dX8_number_31 ?_
    refine z_ti (y := 0) (by decide) ?_
    refine lv_aload_n hx hb dX8_number_32 rfl (lv_at hl 2 rfl) ?_
    refine call_X8_59 C dX8_number_33 (c_X8_next l E v tx m aS aW aL aT a1 a2 a3 aB hA.1 hlen) hl hG 0 rfl [0, 1] (by decide) rfl (ads := [m, aT]) rfl rfl (ws' := [(m, .inr (8, [.int (v 0), .int (v 1), .ref aS, .int (v 2), .int (v 3), .int (v 4), .ref aW, .int (v 5), .ref aL, .int (v 6), .int (v 7), .int (v 8), .ref aT, .int (v 9), .int (v 10), .int (v 11), .int (v 12), .ref a1, .ref a2, .ref a3, .ref aB, .int (v 13), .int (v 14)])), (aT, .inl (E.2.1.2, 200, .inl tx))]) rfl rfl (rest := [.int 0]) rfl (Nat.le_of_ble_eq_true rfl) ⟨Nat.le_of_ble_eq_true rfl, Nat.le_of_ble_eq_true rfl⟩ (fun H locs hG => ?_)
    refine lv_iadd hx hb dX8_number_36 ?_
    refine lv_bipush (v := 48) hx hb dX8_number_37 (by decide) ?_
    refine lv_isub hx hb dX8_number_39 ?_
    refine lv_istore_n (lv' := [(3, .int ((0 + (o_X8_next_r v tx)) - 48)), (4, .int 0), (0, .ref m), (1, .int lo), (2, .int hi)]) hx hb dX8_number_40 rfl hl (by decide) rfl (fun ls hl => ?_)
    refine lv_iinc (v := 1) (lv' := [(4, .int 1), (3, .int ((0 + (o_X8_next_r v tx)) - 48)), (0, .ref m), (1, .int lo), (2, .int hi)]) hx hb dX8_number_41 hl (k := 1) rfl (by decide) (by decide) rfl (fun ls hl => ?_)
    refine lv_aload_n hx hb dX8_number_44 rfl (lv_at hl 2 rfl) ?_
    refine lv_dup hx hb dX8_number_45 rfl ?_
    refine gf_X8_56 C dX8_number_46 hG 0 rfl rfl ?_
    refine lv_iconst (v := 1) hx hb dX8_number_49 (by decide) ?_
    refine lv_iadd hx hb dX8_number_50 ?_
    refine pf_X8_56 C dX8_number_51 hG 0 rfl (Nat.le_of_ble_eq_true rfl) (ws' := [(m, .inr (8, [.int (v 0), .int (v 1), .ref aS, .int (v 2), .int (v 3), .int (v 4), .ref aW, .int (v 5), .ref aL, .int (v 6), .int (v 7), .int (v 8), .ref aT, .int ((v 9) + 1), .int (v 10), .int (v 11), .int (v 12), .ref a1, .ref a2, .ref a3, .ref aB, .int (v 13), .int (v 14)])), (aT, .inl (E.2.1.2, 200, .inl tx))]) rfl (fun H locs hG => ?_)
    refine lv_goto (tgt := 5) hx hb dX8_number_54 (by decide) ?_
    refine lv_aload_n hx hb dX8_number_5 rfl (lv_at hl 2 rfl) ?_
    refine call_X8_59 C dX8_number_6 (c_X8_next l E (mkG15 (v 0) (v 1) (v 2) (v 3) (v 4) (v 5) (v 6) (v 7) (v 8) ((v 9) + 1) (v 10) (v 11) (v 12) (v 13) (v 14)) tx m aS aW aL aT a1 a2 a3 aB (mB_succ (B := 100000) (by decide) hA).1 hlen) hl hG 0 rfl [0, 1] (by decide) rfl (ads := [m, aT]) rfl rfl (ws' := [(m, .inr (8, [.int (v 0), .int (v 1), .ref aS, .int (v 2), .int (v 3), .int (v 4), .ref aW, .int (v 5), .ref aL, .int (v 6), .int (v 7), .int (v 8), .ref aT, .int ((v 9) + 1), .int (v 10), .int (v 11), .int (v 12), .ref a1, .ref a2, .ref a3, .ref aB, .int (v 13), .int (v 14)])), (aT, .inl (E.2.1.2, 200, .inl tx))]) rfl rfl (rest := []) rfl (Nat.le_of_ble_eq_true rfl) ⟨Nat.le_of_ble_eq_true rfl, Nat.le_of_ble_eq_true rfl⟩ (fun H locs hG => ?_)
    refine lv_i2l (v := ((o_X8_next_r (mkG15 (v 0) (v 1) (v 2) (v 3) (v 4) (v 5) (v 6) (v 7) (v 8) ((v 9) + 1) (v 10) (v 11) (v 12) (v 13) (v 14)) tx).toInt64)) hx hb dX8_number_9 rfl ?_
    refine lv_ldc2 (v := 48) hx hb C.1.2.2.2.1 (C.1.2.2.2.2 _ (inr12 _ (List.mem_of_getElem? (i := 23) rfl))) dX8_number_10 ?_
    refine lv_ldc2 (v := 57) hx hb C.1.2.2.2.1 (C.1.2.2.2.2 _ (inr13 _ (List.mem_of_getElem? (i := 0) rfl))) dX8_number_13 ?_
    refine call_X8_49 C dX8_number_16 (c_X8_in l E ((o_X8_next_r (mkG15 (v 0) (v 1) (v 2) (v 3) (v 4) (v 5) (v 6) (v 7) (v 8) ((v 9) + 1) (v 10) (v 11) (v 12) (v 13) (v 14)) tx).toInt64) 48 57) hl hG [] (by decide) rfl (ads := []) rfl rfl (ws' := [(m, .inr (8, [.int (v 0), .int (v 1), .ref aS, .int (v 2), .int (v 3), .int (v 4), .ref aW, .int (v 5), .ref aL, .int (v 6), .int (v 7), .int (v 8), .ref aT, .int ((v 9) + 1), .int (v 10), .int (v 11), .int (v 12), .ref a1, .ref a2, .ref a3, .ref aB, .int (v 13), .int (v 14)])), (aT, .inl (E.2.1.2, 200, .inl tx))]) rfl rfl (rest := []) rfl (Nat.le_of_ble_eq_true rfl) ⟨Nat.le_of_ble_eq_true rfl, Nat.le_of_ble_eq_true rfl⟩ (fun H locs hG => ?_)
    refine lv_if_eq (tgt := 57) hx hb dX8_number_19 (by decide) (fun c_18 => ?_) (fun c_18 => ?_)
    · skip
      exact k_0 1 ((0 + (o_X8_next_r v tx)) - 48) ((v 9) + 1) _ _ _ (by rw [j_X8_number_0_0, if_neg c_1, if_pos c_18]) (by rw [j_X8_number_0_1, if_neg c_1, if_pos c_18]) (by rw [j_X8_number_0_2, if_neg c_1, if_pos c_18]) hG (lv_sub hl [0, 1, 2, 3, 4] rfl)
    · skip
      refine lv_iload hx hb dX8_number_22 (lv_at hl 0 rfl) ?_
      refine lv_iconst (v := 3) hx hb dX8_number_24 (by decide) ?_
      refine lv_icmp_ge (tgt := 57) hx hb dX8_number_25 (by decide) (fun c_19 => absurd c_19 (by decide)) (fun c_19 => ?_)
      refine lv_bipush (v := 10) hx hb dX8_number_28 (by decide) ?_
      refine lv_iload_n hx hb dX8_number_30 rfl (lv_at hl 1 rfl) ?_
      refine lv_imul hx hb dX8_number_31 ?_
      refine lv_aload_n hx hb dX8_number_32 rfl (lv_at hl 2 rfl) ?_
      refine call_X8_59 C dX8_number_33 (c_X8_next l E (mkG15 (v 0) (v 1) (v 2) (v 3) (v 4) (v 5) (v 6) (v 7) (v 8) ((v 9) + 1) (v 10) (v 11) (v 12) (v 13) (v 14)) tx m aS aW aL aT a1 a2 a3 aB (mB_succ (B := 100000) (by decide) hA).1 hlen) hl hG 0 rfl [0, 1] (by decide) rfl (ads := [m, aT]) rfl rfl (ws' := [(m, .inr (8, [.int (v 0), .int (v 1), .ref aS, .int (v 2), .int (v 3), .int (v 4), .ref aW, .int (v 5), .ref aL, .int (v 6), .int (v 7), .int (v 8), .ref aT, .int ((v 9) + 1), .int (v 10), .int (v 11), .int (v 12), .ref a1, .ref a2, .ref a3, .ref aB, .int (v 13), .int (v 14)])), (aT, .inl (E.2.1.2, 200, .inl tx))]) rfl rfl (rest := [.int (10 * ((0 + (o_X8_next_r v tx)) - 48))]) rfl (Nat.le_of_ble_eq_true rfl) ⟨Nat.le_of_ble_eq_true rfl, Nat.le_of_ble_eq_true rfl⟩ (fun H locs hG => ?_)
      refine lv_iadd hx hb dX8_number_36 ?_
      refine lv_bipush (v := 48) hx hb dX8_number_37 (by decide) ?_
      refine lv_isub hx hb dX8_number_39 ?_
      refine lv_istore_n (lv' := [(3, .int (((10 * ((0 + (o_X8_next_r v tx)) - 48)) + (o_X8_next_r (mkG15 (v 0) (v 1) (v 2) (v 3) (v 4) (v 5) (v 6) (v 7) (v 8) ((v 9) + 1) (v 10) (v 11) (v 12) (v 13) (v 14)) tx)) - 48)), (4, .int 1), (0, .ref m), (1, .int lo), (2, .int hi)]) hx hb dX8_number_40 rfl hl (by decide) rfl (fun ls hl => ?_)
      refine lv_iinc (v := 2) (lv' := [(4, .int 2), (3, .int (((10 * ((0 + (o_X8_next_r v tx)) - 48)) + (o_X8_next_r (mkG15 (v 0) (v 1) (v 2) (v 3) (v 4) (v 5) (v 6) (v 7) (v 8) ((v 9) + 1) (v 10) (v 11) (v 12) (v 13) (v 14)) tx)) - 48)), (0, .ref m), (1, .int lo), (2, .int hi)]) hx hb dX8_number_41 hl (k := 1) rfl (by decide) (by decide) rfl (fun ls hl => ?_)
      refine lv_aload_n hx hb dX8_number_44 rfl (lv_at hl 2 rfl) ?_
      refine lv_dup hx hb dX8_number_45 rfl ?_
      refine gf_X8_56 C dX8_number_46 hG 0 rfl rfl ?_
      refine lv_iconst (v := 1) hx hb dX8_number_49 (by decide) ?_
      refine lv_iadd hx hb dX8_number_50 ?_
      refine pf_X8_56 C dX8_number_51 hG 0 rfl (Nat.le_of_ble_eq_true rfl) (ws' := [(m, .inr (8, [.int (v 0), .int (v 1), .ref aS, .int (v 2), .int (v 3), .int (v 4), .ref aW, .int (v 5), .ref aL, .int (v 6), .int (v 7), .int (v 8), .ref aT, .int (((v 9) + 1) + 1), .int (v 10), .int (v 11), .int (v 12), .ref a1, .ref a2, .ref a3, .ref aB, .int (v 13), .int (v 14)])), (aT, .inl (E.2.1.2, 200, .inl tx))]) rfl (fun H locs hG => ?_)
      refine lv_goto (tgt := 5) hx hb dX8_number_54 (by decide) ?_
      refine lv_aload_n hx hb dX8_number_5 rfl (lv_at hl 2 rfl) ?_
      refine call_X8_59 C dX8_number_6 (c_X8_next l E (mkG15 (v 0) (v 1) (v 2) (v 3) (v 4) (v 5) (v 6) (v 7) (v 8) (((v 9) + 1) + 1) (v 10) (v 11) (v 12) (v 13) (v 14)) tx m aS aW aL aT a1 a2 a3 aB (mB_succ (B := 100000 + 1) (by decide) (mB_succ (B := 100000) (by decide) hA)).1 hlen) hl hG 0 rfl [0, 1] (by decide) rfl (ads := [m, aT]) rfl rfl (ws' := [(m, .inr (8, [.int (v 0), .int (v 1), .ref aS, .int (v 2), .int (v 3), .int (v 4), .ref aW, .int (v 5), .ref aL, .int (v 6), .int (v 7), .int (v 8), .ref aT, .int (((v 9) + 1) + 1), .int (v 10), .int (v 11), .int (v 12), .ref a1, .ref a2, .ref a3, .ref aB, .int (v 13), .int (v 14)])), (aT, .inl (E.2.1.2, 200, .inl tx))]) rfl rfl (rest := []) rfl (Nat.le_of_ble_eq_true rfl) ⟨Nat.le_of_ble_eq_true rfl, Nat.le_of_ble_eq_true rfl⟩ (fun H locs hG => ?_)
      refine lv_i2l (v := ((o_X8_next_r (mkG15 (v 0) (v 1) (v 2) (v 3) (v 4) (v 5) (v 6) (v 7) (v 8) (((v 9) + 1) + 1) (v 10) (v 11) (v 12) (v 13) (v 14)) tx).toInt64)) hx hb dX8_number_9 rfl ?_
      refine lv_ldc2 (v := 48) hx hb C.1.2.2.2.1 (C.1.2.2.2.2 _ (inr12 _ (List.mem_of_getElem? (i := 23) rfl))) dX8_number_10 ?_
      refine lv_ldc2 (v := 57) hx hb C.1.2.2.2.1 (C.1.2.2.2.2 _ (inr13 _ (List.mem_of_getElem? (i := 0) rfl))) dX8_number_13 ?_
      refine call_X8_49 C dX8_number_16 (c_X8_in l E ((o_X8_next_r (mkG15 (v 0) (v 1) (v 2) (v 3) (v 4) (v 5) (v 6) (v 7) (v 8) (((v 9) + 1) + 1) (v 10) (v 11) (v 12) (v 13) (v 14)) tx).toInt64) 48 57) hl hG [] (by decide) rfl (ads := []) rfl rfl (ws' := [(m, .inr (8, [.int (v 0), .int (v 1), .ref aS, .int (v 2), .int (v 3), .int (v 4), .ref aW, .int (v 5), .ref aL, .int (v 6), .int (v 7), .int (v 8), .ref aT, .int (((v 9) + 1) + 1), .int (v 10), .int (v 11), .int (v 12), .ref a1, .ref a2, .ref a3, .ref aB, .int (v 13), .int (v 14)])), (aT, .inl (E.2.1.2, 200, .inl tx))]) rfl rfl (rest := []) rfl (Nat.le_of_ble_eq_true rfl) ⟨Nat.le_of_ble_eq_true rfl, Nat.le_of_ble_eq_true rfl⟩ (fun H locs hG => ?_)
      refine lv_if_eq (tgt := 57) hx hb dX8_number_19 (by decide) (fun c_20 => ?_) (fun c_20 => ?_)
      · skip
        exact k_0 2 (((10 * ((0 + (o_X8_next_r v tx)) - 48)) + (o_X8_next_r (mkG15 (v 0) (v 1) (v 2) (v 3) (v 4) (v 5) (v 6) (v 7) (v 8) ((v 9) + 1) (v 10) (v 11) (v 12) (v 13) (v 14)) tx)) - 48) (((v 9) + 1) + 1) _ _ _ (by rw [j_X8_number_0_0, if_neg c_1, if_neg c_18, if_pos c_20]) (by rw [j_X8_number_0_1, if_neg c_1, if_neg c_18, if_pos c_20]) (by rw [j_X8_number_0_2, if_neg c_1, if_neg c_18, if_pos c_20]) hG (lv_sub hl [0, 1, 2, 3, 4] rfl)
      · skip
        refine lv_iload hx hb dX8_number_22 (lv_at hl 0 rfl) ?_
        refine lv_iconst (v := 3) hx hb dX8_number_24 (by decide) ?_
        refine lv_icmp_ge (tgt := 57) hx hb dX8_number_25 (by decide) (fun c_21 => absurd c_21 (by decide)) (fun c_21 => ?_)
        refine lv_bipush (v := 10) hx hb dX8_number_28 (by decide) ?_
        refine lv_iload_n hx hb dX8_number_30 rfl (lv_at hl 1 rfl) ?_
        refine lv_imul hx hb dX8_number_31 ?_
        refine lv_aload_n hx hb dX8_number_32 rfl (lv_at hl 2 rfl) ?_
        refine call_X8_59 C dX8_number_33 (c_X8_next l E (mkG15 (v 0) (v 1) (v 2) (v 3) (v 4) (v 5) (v 6) (v 7) (v 8) (((v 9) + 1) + 1) (v 10) (v 11) (v 12) (v 13) (v 14)) tx m aS aW aL aT a1 a2 a3 aB (mB_succ (B := 100000 + 1) (by decide) (mB_succ (B := 100000) (by decide) hA)).1 hlen) hl hG 0 rfl [0, 1] (by decide) rfl (ads := [m, aT]) rfl rfl (ws' := [(m, .inr (8, [.int (v 0), .int (v 1), .ref aS, .int (v 2), .int (v 3), .int (v 4), .ref aW, .int (v 5), .ref aL, .int (v 6), .int (v 7), .int (v 8), .ref aT, .int (((v 9) + 1) + 1), .int (v 10), .int (v 11), .int (v 12), .ref a1, .ref a2, .ref a3, .ref aB, .int (v 13), .int (v 14)])), (aT, .inl (E.2.1.2, 200, .inl tx))]) rfl rfl (rest := [.int (10 * (((10 * ((0 + (o_X8_next_r v tx)) - 48)) + (o_X8_next_r (mkG15 (v 0) (v 1) (v 2) (v 3) (v 4) (v 5) (v 6) (v 7) (v 8) ((v 9) + 1) (v 10) (v 11) (v 12) (v 13) (v 14)) tx)) - 48))]) rfl (Nat.le_of_ble_eq_true rfl) ⟨Nat.le_of_ble_eq_true rfl, Nat.le_of_ble_eq_true rfl⟩ (fun H locs hG => ?_)
        refine lv_iadd hx hb dX8_number_36 ?_
        refine lv_bipush (v := 48) hx hb dX8_number_37 (by decide) ?_
        refine lv_isub hx hb dX8_number_39 ?_
        refine lv_istore_n (lv' := [(3, .int (((10 * (((10 * ((0 + (o_X8_next_r v tx)) - 48)) + (o_X8_next_r (mkG15 (v 0) (v 1) (v 2) (v 3) (v 4) (v 5) (v 6) (v 7) (v 8) ((v 9) + 1) (v 10) (v 11) (v 12) (v 13) (v 14)) tx)) - 48)) + (o_X8_next_r (mkG15 (v 0) (v 1) (v 2) (v 3) (v 4) (v 5) (v 6) (v 7) (v 8) (((v 9) + 1) + 1) (v 10) (v 11) (v 12) (v 13) (v 14)) tx)) - 48)), (4, .int 2), (0, .ref m), (1, .int lo), (2, .int hi)]) hx hb dX8_number_40 rfl hl (by decide) rfl (fun ls hl => ?_)
        refine lv_iinc (v := 3) (lv' := [(4, .int 3), (3, .int (((10 * (((10 * ((0 + (o_X8_next_r v tx)) - 48)) + (o_X8_next_r (mkG15 (v 0) (v 1) (v 2) (v 3) (v 4) (v 5) (v 6) (v 7) (v 8) ((v 9) + 1) (v 10) (v 11) (v 12) (v 13) (v 14)) tx)) - 48)) + (o_X8_next_r (mkG15 (v 0) (v 1) (v 2) (v 3) (v 4) (v 5) (v 6) (v 7) (v 8) (((v 9) + 1) + 1) (v 10) (v 11) (v 12) (v 13) (v 14)) tx)) - 48)), (0, .ref m), (1, .int lo), (2, .int hi)]) hx hb dX8_number_41 hl (k := 1) rfl (by decide) (by decide) rfl (fun ls hl => ?_)
        refine lv_aload_n hx hb dX8_number_44 rfl (lv_at hl 2 rfl) ?_
        refine lv_dup hx hb dX8_number_45 rfl ?_
        refine gf_X8_56 C dX8_number_46 hG 0 rfl rfl ?_
        refine lv_iconst (v := 1) hx hb dX8_number_49 (by decide) ?_
        refine lv_iadd hx hb dX8_number_50 ?_
        refine pf_X8_56 C dX8_number_51 hG 0 rfl (Nat.le_of_ble_eq_true rfl) (ws' := [(m, .inr (8, [.int (v 0), .int (v 1), .ref aS, .int (v 2), .int (v 3), .int (v 4), .ref aW, .int (v 5), .ref aL, .int (v 6), .int (v 7), .int (v 8), .ref aT, .int ((((v 9) + 1) + 1) + 1), .int (v 10), .int (v 11), .int (v 12), .ref a1, .ref a2, .ref a3, .ref aB, .int (v 13), .int (v 14)])), (aT, .inl (E.2.1.2, 200, .inl tx))]) rfl (fun H locs hG => ?_)
        refine lv_goto (tgt := 5) hx hb dX8_number_54 (by decide) ?_
        refine lv_aload_n hx hb dX8_number_5 rfl (lv_at hl 2 rfl) ?_
        refine call_X8_59 C dX8_number_6 (c_X8_next l E (mkG15 (v 0) (v 1) (v 2) (v 3) (v 4) (v 5) (v 6) (v 7) (v 8) ((((v 9) + 1) + 1) + 1) (v 10) (v 11) (v 12) (v 13) (v 14)) tx m aS aW aL aT a1 a2 a3 aB (mB_succ (B := 100000 + 1 + 1) (by decide) (mB_succ (B := 100000 + 1) (by decide) (mB_succ (B := 100000) (by decide) hA))).1 hlen) hl hG 0 rfl [0, 1] (by decide) rfl (ads := [m, aT]) rfl rfl (ws' := [(m, .inr (8, [.int (v 0), .int (v 1), .ref aS, .int (v 2), .int (v 3), .int (v 4), .ref aW, .int (v 5), .ref aL, .int (v 6), .int (v 7), .int (v 8), .ref aT, .int ((((v 9) + 1) + 1) + 1), .int (v 10), .int (v 11), .int (v 12), .ref a1, .ref a2, .ref a3, .ref aB, .int (v 13), .int (v 14)])), (aT, .inl (E.2.1.2, 200, .inl tx))]) rfl rfl (rest := []) rfl (Nat.le_of_ble_eq_true rfl) ⟨Nat.le_of_ble_eq_true rfl, Nat.le_of_ble_eq_true rfl⟩ (fun H locs hG => ?_)
        refine lv_i2l (v := ((o_X8_next_r (mkG15 (v 0) (v 1) (v 2) (v 3) (v 4) (v 5) (v 6) (v 7) (v 8) ((((v 9) + 1) + 1) + 1) (v 10) (v 11) (v 12) (v 13) (v 14)) tx).toInt64)) hx hb dX8_number_9 rfl ?_
        refine lv_ldc2 (v := 48) hx hb C.1.2.2.2.1 (C.1.2.2.2.2 _ (inr12 _ (List.mem_of_getElem? (i := 23) rfl))) dX8_number_10 ?_
        refine lv_ldc2 (v := 57) hx hb C.1.2.2.2.1 (C.1.2.2.2.2 _ (inr13 _ (List.mem_of_getElem? (i := 0) rfl))) dX8_number_13 ?_
        refine call_X8_49 C dX8_number_16 (c_X8_in l E ((o_X8_next_r (mkG15 (v 0) (v 1) (v 2) (v 3) (v 4) (v 5) (v 6) (v 7) (v 8) ((((v 9) + 1) + 1) + 1) (v 10) (v 11) (v 12) (v 13) (v 14)) tx).toInt64) 48 57) hl hG [] (by decide) rfl (ads := []) rfl rfl (ws' := [(m, .inr (8, [.int (v 0), .int (v 1), .ref aS, .int (v 2), .int (v 3), .int (v 4), .ref aW, .int (v 5), .ref aL, .int (v 6), .int (v 7), .int (v 8), .ref aT, .int ((((v 9) + 1) + 1) + 1), .int (v 10), .int (v 11), .int (v 12), .ref a1, .ref a2, .ref a3, .ref aB, .int (v 13), .int (v 14)])), (aT, .inl (E.2.1.2, 200, .inl tx))]) rfl rfl (rest := []) rfl (Nat.le_of_ble_eq_true rfl) ⟨Nat.le_of_ble_eq_true rfl, Nat.le_of_ble_eq_true rfl⟩ (fun H locs hG => ?_)
        refine lv_if_eq (tgt := 57) hx hb dX8_number_19 (by decide) (fun c_22 => ?_) (fun c_22 => ?_)
        · skip
          exact k_0 3 (((10 * (((10 * ((0 + (o_X8_next_r v tx)) - 48)) + (o_X8_next_r (mkG15 (v 0) (v 1) (v 2) (v 3) (v 4) (v 5) (v 6) (v 7) (v 8) ((v 9) + 1) (v 10) (v 11) (v 12) (v 13) (v 14)) tx)) - 48)) + (o_X8_next_r (mkG15 (v 0) (v 1) (v 2) (v 3) (v 4) (v 5) (v 6) (v 7) (v 8) (((v 9) + 1) + 1) (v 10) (v 11) (v 12) (v 13) (v 14)) tx)) - 48) ((((v 9) + 1) + 1) + 1) _ _ _ (by rw [j_X8_number_0_0, if_neg c_1, if_neg c_18, if_neg c_20]) (by rw [j_X8_number_0_1, if_neg c_1, if_neg c_18, if_neg c_20]) (by rw [j_X8_number_0_2, if_neg c_1, if_neg c_18, if_neg c_20]) hG (lv_sub hl [0, 1, 2, 3, 4] rfl)
        · skip
          refine lv_iload hx hb dX8_number_22 (lv_at hl 0 rfl) ?_
          refine lv_iconst (v := 3) hx hb dX8_number_24 (by decide) ?_
          refine lv_icmp_ge (tgt := 57) hx hb dX8_number_25 (by decide) (fun c_23 => ?_) (fun c_23 => absurd (by decide) c_23)
          exact k_0 3 (((10 * (((10 * ((0 + (o_X8_next_r v tx)) - 48)) + (o_X8_next_r (mkG15 (v 0) (v 1) (v 2) (v 3) (v 4) (v 5) (v 6) (v 7) (v 8) ((v 9) + 1) (v 10) (v 11) (v 12) (v 13) (v 14)) tx)) - 48)) + (o_X8_next_r (mkG15 (v 0) (v 1) (v 2) (v 3) (v 4) (v 5) (v 6) (v 7) (v 8) (((v 9) + 1) + 1) (v 10) (v 11) (v 12) (v 13) (v 14)) tx)) - 48) ((((v 9) + 1) + 1) + 1) _ _ _ (by rw [j_X8_number_0_0, if_neg c_1, if_neg c_18, if_neg c_20]) (by rw [j_X8_number_0_1, if_neg c_1, if_neg c_18, if_neg c_20]) (by rw [j_X8_number_0_2, if_neg c_1, if_neg c_18, if_neg c_20]) hG (lv_sub hl [0, 1, 2, 3, 4] rfl)
theorem num_at {B : Int} (hB : B < 1000000) (v tx : Nat → Int32) (lo hi : Int32) (h : mB B (v 9)) : mB (B + 3) (o_X8_number_v v tx lo hi 9) := by
  rw [o_X8_number_v, mkG15_9]
  unfold j_X8_number_0_2
  have h1 := mB_succ (by omega) h
  have h2 := mB_succ (by omega) h1
  have h3 := mB_succ (by omega) h2
  (repeat' split)
  · exact mB_le (by omega) h
  · exact mB_le (by omega) h1
  · exact mB_le (by omega) h2
  · exact mB_le (by omega) h3
theorem num_len (v tx : Nat → Int32) (lo hi : Int32) : o_X8_number_v v tx lo hi 8 = v 8 := by rw [o_X8_number_v, mkG15_8]
theorem num_r (v tx : Nat → Int32) (lo hi : Int32) : o_X8_number_r v tx lo hi = 0 ∨ ¬ o_X8_in_r (o_X8_number_r v tx lo hi).toInt64 lo.toInt64 hi.toInt64 = 0 := by
  rw [o_X8_number_r]
  by_cases q : j_X8_number_1_0 v tx lo hi = 0
  · rw [if_pos q]
    right
    intro q2
    unfold j_X8_number_1_0 at q
    rw [if_pos q2] at q
    revert q
    (repeat' split) <;> intro q <;> exact absurd q (by decide)
  · rw [if_neg q]; exact Or.inl rfl
theorem num_ri (v tx : Nat → Int32) (hi : Int32) {c : Nat} (hc : hi.toInt64.toInt = (c : Int)) : 0 ≤ (o_X8_number_r v tx 0 hi).toInt ∧ (o_X8_number_r v tx 0 hi).toInt ≤ c := by
  rcases num_r v tx 0 hi with q | q
  · rw [q]; exact ⟨by decide, by have : (0 : Int32).toInt = 0 := by decide
                                 omega⟩
  · have h := z_in32 q
    have h0 : ((0 : Int32).toInt64).toInt = 0 := by decide
    exact ⟨by omega, by omega⟩
theorem z_hix {r : Int32} (h : 0 ≤ r.toInt ∧ r.toInt ≤ 1) {a : Nat} (ha : a < 150) : vp_in (nI a + r) 156 := by
  have e := z_clamp h.1
  generalize r.toNatClampNeg = k at e
  obtain ⟨rfl, e3⟩ := e
  rw [nI_add]
  exact vp_in_nI (by omega) (by decide)
theorem z_six {r : Int32} (h : 0 ≤ r.toInt ∧ r.toInt ≤ 11) : vp_in r 12 := by
  have e := z_clamp h.1
  generalize r.toNatClampNeg = k at e
  obtain ⟨rfl, e3⟩ := e
  exact vp_in_nI (by omega) (by decide)
def j_X8_more_0_0 (v : Nat → Int32) (tx : Nat → Int32) (lo : Int32) (hi : Int32) : Int32 := (if (v 11) = 0 then (if (o_X8_next_r v tx) = 44 then 0 else 1) else 1)
def o_X8_more_r (v : Nat → Int32) (tx : Nat → Int32) (lo : Int32) (hi : Int32) : Int32 := (if (j_X8_more_0_0 v tx lo hi) = 0 then (o_X8_number_r (mkG15 (v 0) (v 1) (v 2) (v 3) (v 4) (v 5) (v 6) (v 7) (v 8) ((v 9) + 1) (v 10) (j_X8_more_0_0 v tx lo hi) (v 12) (v 13) (v 14)) tx lo hi) else 0)
def o_X8_more_v (v : Nat → Int32) (tx : Nat → Int32) (lo : Int32) (hi : Int32) : Nat → Int32 := (if (j_X8_more_0_0 v tx lo hi) = 0 then (o_X8_number_v (mkG15 (v 0) (v 1) (v 2) (v 3) (v 4) (v 5) (v 6) (v 7) (v 8) ((v 9) + 1) (v 10) (j_X8_more_0_0 v tx lo hi) (v 12) (v 13) (v 14)) tx lo hi) else (mkG15 (v 0) (v 1) (v 2) (v 3) (v 4) (v 5) (v 6) (v 7) (v 8) ((v 9) + 1) (v 10) (j_X8_more_0_0 v tx lo hi) (v 12) (v 13) (v 14)))
set_option maxRecDepth 100000 in
set_option maxHeartbeats 4000000 in
theorem c_X8_more (l : Launch) (E : zE) (v : Nat → Int32) (tx : Nat → Int32) (lo : Int32) (hi : Int32) (m aS aW aL aT a1 a2 a3 aB : Nat) (hA : mB 10000 (v 9)) (hlen : (v 8).toInt ≤ 200) : HM l E yX8_more cX8_more 3 (some .int) 2 49 [.ref m, .int lo, .int hi] [(m, .inr (8, [.int (v 0), .int (v 1), .ref aS, .int (v 2), .int (v 3), .int (v 4), .ref aW, .int (v 5), .ref aL, .int (v 6), .int (v 7), .int (v 8), .ref aT, .int (v 9), .int (v 10), .int (v 11), .int (v 12), .ref a1, .ref a2, .ref a3, .ref aB, .int (v 13), .int (v 14)])), (aT, .inl (E.2.1.2, 200, .inl tx))] (some (.int (o_X8_more_r v tx lo hi))) [(m, .inr (8, [.int (o_X8_more_v v tx lo hi 0), .int (o_X8_more_v v tx lo hi 1), .ref aS, .int (o_X8_more_v v tx lo hi 2), .int (o_X8_more_v v tx lo hi 3), .int (o_X8_more_v v tx lo hi 4), .ref aW, .int (o_X8_more_v v tx lo hi 5), .ref aL, .int (o_X8_more_v v tx lo hi 6), .int (o_X8_more_v v tx lo hi 7), .int (o_X8_more_v v tx lo hi 8), .ref aT, .int (o_X8_more_v v tx lo hi 9), .int (o_X8_more_v v tx lo hi 10), .int (o_X8_more_v v tx lo hi 11), .int (o_X8_more_v v tx lo hi 12), .ref a1, .ref a2, .ref a3, .ref aB, .int (o_X8_more_v v tx lo hi 13), .int (o_X8_more_v v tx lo hi 14)])), (aT, .inl (E.2.1.2, 200, .inl tx))] := by
  refine HM.of (own := RX8) (plainFor_of_name (by decide)) rfl (Nat.le_of_ble_eq_true rfl) ?_
  intro zp ze zs zm za zb zt zc zA ls H locs zq C hr hlk hG hl hQ
  have hx := C.1.1
  have hb := C.1.2.1
  replace hl : lv_has ls 3 [(0, .ref m), (1, .int lo), (2, .int hi)] := hl
  refine lv_aload_n hx hb dX8_more_0 rfl (lv_at hl 0 rfl) ?_
  refine lv_aload_n hx hb dX8_more_1 rfl (lv_at hl 0 rfl) ?_
  refine gf_X8_67 C dX8_more_2 hG 0 rfl rfl ?_
  have k_0 : ∀ (y0_0 : Int32) (H : Heap) (locs : List Loc) (ls : Array Slot), (j_X8_more_0_0 v tx lo hi) = y0_0 → zG E zA zs.heap [(m, .inr (8, [.int (v 0), .int (v 1), .ref aS, .int (v 2), .int (v 3), .int (v 4), .ref aW, .int (v 5), .ref aL, .int (v 6), .int (v 7), .int (v 8), .ref aT, .int (v 9), .int (v 10), .int (v 11), .int (v 12), .ref a1, .ref a2, .ref a3, .ref aB, .int (v 13), .int (v 14)])), (aT, .inl (E.2.1.2, 200, .inl tx))] H locs → lv_has ls 3 [(0, .ref m), (1, .int lo), (2, .int hi)] → W zp l ze (zR 2 49) zs zm za zb zt zc H locs 0 0 zq (F0 zm 22 ls [.int y0_0, .ref m]) := by
    intro y0_0 H locs ls e_y0_0 hG hl
    subst e_y0_0
    refine pf_X8_67 C dX8_more_22 hG 0 rfl (Nat.le_of_ble_eq_true rfl) (z_b01 (by unfold j_X8_more_0_0; (repeat' split) <;> first | exact Or.inl rfl | exact Or.inr rfl)) (z_b01f (by unfold j_X8_more_0_0; (repeat' split) <;> first | exact Or.inl rfl | exact Or.inr rfl)) (ws' := [(m, .inr (8, [.int (v 0), .int (v 1), .ref aS, .int (v 2), .int (v 3), .int (v 4), .ref aW, .int (v 5), .ref aL, .int (v 6), .int (v 7), .int (v 8), .ref aT, .int (v 9), .int (v 10), .int (j_X8_more_0_0 v tx lo hi), .int (v 12), .ref a1, .ref a2, .ref a3, .ref aB, .int (v 13), .int (v 14)])), (aT, .inl (E.2.1.2, 200, .inl tx))]) rfl (fun H locs hG => ?_)
    refine lv_aload_n hx hb dX8_more_25 rfl (lv_at hl 0 rfl) ?_
    refine lv_dup hx hb dX8_more_26 rfl ?_
    refine gf_X8_56 C dX8_more_27 hG 0 rfl rfl ?_
    refine lv_iconst (v := 1) hx hb dX8_more_30 (by decide) ?_
    refine lv_iadd hx hb dX8_more_31 ?_
    refine pf_X8_56 C dX8_more_32 hG 0 rfl (Nat.le_of_ble_eq_true rfl) (ws' := [(m, .inr (8, [.int (v 0), .int (v 1), .ref aS, .int (v 2), .int (v 3), .int (v 4), .ref aW, .int (v 5), .ref aL, .int (v 6), .int (v 7), .int (v 8), .ref aT, .int ((v 9) + 1), .int (v 10), .int (j_X8_more_0_0 v tx lo hi), .int (v 12), .ref a1, .ref a2, .ref a3, .ref aB, .int (v 13), .int (v 14)])), (aT, .inl (E.2.1.2, 200, .inl tx))]) rfl (fun H locs hG => ?_)
    refine lv_aload_n hx hb dX8_more_35 rfl (lv_at hl 0 rfl) ?_
    refine gf_X8_67 C dX8_more_36 hG 0 rfl rfl ?_
    refine lv_if_eq (tgt := 46) hx hb dX8_more_39 (by decide) (fun c_3 => ?_) (fun c_3 => ?_)
    · skip
      refine lv_aload_n hx hb dX8_more_46 rfl (lv_at hl 0 rfl) ?_
      refine lv_iload_n hx hb dX8_more_47 rfl (lv_at hl 1 rfl) ?_
      refine lv_iload_n hx hb dX8_more_48 rfl (lv_at hl 2 rfl) ?_
      refine call_X8_71 C dX8_more_49 (c_X8_number l E (mkG15 (v 0) (v 1) (v 2) (v 3) (v 4) (v 5) (v 6) (v 7) (v 8) ((v 9) + 1) (v 10) (j_X8_more_0_0 v tx lo hi) (v 12) (v 13) (v 14)) tx lo hi m aS aW aL aT a1 a2 a3 aB (mB_le (by decide) (mB_succ (B := 10000) (by decide) hA)) hlen) hl hG 0 rfl [0, 1] (by decide) rfl (ads := [m, aT]) rfl rfl (ws' := [(m, .inr (8, [.int (o_X8_number_v (mkG15 (v 0) (v 1) (v 2) (v 3) (v 4) (v 5) (v 6) (v 7) (v 8) ((v 9) + 1) (v 10) (j_X8_more_0_0 v tx lo hi) (v 12) (v 13) (v 14)) tx lo hi 0), .int (o_X8_number_v (mkG15 (v 0) (v 1) (v 2) (v 3) (v 4) (v 5) (v 6) (v 7) (v 8) ((v 9) + 1) (v 10) (j_X8_more_0_0 v tx lo hi) (v 12) (v 13) (v 14)) tx lo hi 1), .ref aS, .int (o_X8_number_v (mkG15 (v 0) (v 1) (v 2) (v 3) (v 4) (v 5) (v 6) (v 7) (v 8) ((v 9) + 1) (v 10) (j_X8_more_0_0 v tx lo hi) (v 12) (v 13) (v 14)) tx lo hi 2), .int (o_X8_number_v (mkG15 (v 0) (v 1) (v 2) (v 3) (v 4) (v 5) (v 6) (v 7) (v 8) ((v 9) + 1) (v 10) (j_X8_more_0_0 v tx lo hi) (v 12) (v 13) (v 14)) tx lo hi 3), .int (o_X8_number_v (mkG15 (v 0) (v 1) (v 2) (v 3) (v 4) (v 5) (v 6) (v 7) (v 8) ((v 9) + 1) (v 10) (j_X8_more_0_0 v tx lo hi) (v 12) (v 13) (v 14)) tx lo hi 4), .ref aW, .int (o_X8_number_v (mkG15 (v 0) (v 1) (v 2) (v 3) (v 4) (v 5) (v 6) (v 7) (v 8) ((v 9) + 1) (v 10) (j_X8_more_0_0 v tx lo hi) (v 12) (v 13) (v 14)) tx lo hi 5), .ref aL, .int (o_X8_number_v (mkG15 (v 0) (v 1) (v 2) (v 3) (v 4) (v 5) (v 6) (v 7) (v 8) ((v 9) + 1) (v 10) (j_X8_more_0_0 v tx lo hi) (v 12) (v 13) (v 14)) tx lo hi 6), .int (o_X8_number_v (mkG15 (v 0) (v 1) (v 2) (v 3) (v 4) (v 5) (v 6) (v 7) (v 8) ((v 9) + 1) (v 10) (j_X8_more_0_0 v tx lo hi) (v 12) (v 13) (v 14)) tx lo hi 7), .int (o_X8_number_v (mkG15 (v 0) (v 1) (v 2) (v 3) (v 4) (v 5) (v 6) (v 7) (v 8) ((v 9) + 1) (v 10) (j_X8_more_0_0 v tx lo hi) (v 12) (v 13) (v 14)) tx lo hi 8), .ref aT, .int (o_X8_number_v (mkG15 (v 0) (v 1) (v 2) (v 3) (v 4) (v 5) (v 6) (v 7) (v 8) ((v 9) + 1) (v 10) (j_X8_more_0_0 v tx lo hi) (v 12) (v 13) (v 14)) tx lo hi 9), .int (o_X8_number_v (mkG15 (v 0) (v 1) (v 2) (v 3) (v 4) (v 5) (v 6) (v 7) (v 8) ((v 9) + 1) (v 10) (j_X8_more_0_0 v tx lo hi) (v 12) (v 13) (v 14)) tx lo hi 10), .int (o_X8_number_v (mkG15 (v 0) (v 1) (v 2) (v 3) (v 4) (v 5) (v 6) (v 7) (v 8) ((v 9) + 1) (v 10) (j_X8_more_0_0 v tx lo hi) (v 12) (v 13) (v 14)) tx lo hi 11), .int (o_X8_number_v (mkG15 (v 0) (v 1) (v 2) (v 3) (v 4) (v 5) (v 6) (v 7) (v 8) ((v 9) + 1) (v 10) (j_X8_more_0_0 v tx lo hi) (v 12) (v 13) (v 14)) tx lo hi 12), .ref a1, .ref a2, .ref a3, .ref aB, .int (o_X8_number_v (mkG15 (v 0) (v 1) (v 2) (v 3) (v 4) (v 5) (v 6) (v 7) (v 8) ((v 9) + 1) (v 10) (j_X8_more_0_0 v tx lo hi) (v 12) (v 13) (v 14)) tx lo hi 13), .int (o_X8_number_v (mkG15 (v 0) (v 1) (v 2) (v 3) (v 4) (v 5) (v 6) (v 7) (v 8) ((v 9) + 1) (v 10) (j_X8_more_0_0 v tx lo hi) (v 12) (v 13) (v 14)) tx lo hi 14)])), (aT, .inl (E.2.1.2, 200, .inl tx))]) rfl rfl (rest := []) rfl (Nat.le_of_ble_eq_true rfl) ⟨Nat.le_of_ble_eq_true rfl, Nat.le_of_ble_eq_true rfl⟩ (fun H locs hG => ?_)
      rw [hQ]
      exact z_iret C hr hlk hG dX8_more_52 rfl (by rw [o_X8_more_r, if_pos c_3]) (by rw [o_X8_more_v, if_pos c_3])
    · skip
      refine lv_iconst (v := 0) hx hb dX8_more_42 (by decide) ?_
      refine lv_goto (tgt := 52) hx hb dX8_more_43 (by decide) ?_
      rw [hQ]
      exact z_iret C hr hlk hG dX8_more_52 rfl (by rw [o_X8_more_r, if_neg c_3]) (by rw [o_X8_more_v, if_neg c_3, mkG15_0, mkG15_1, mkG15_2, mkG15_3, mkG15_4, mkG15_5, mkG15_6, mkG15_7, mkG15_8, mkG15_9, mkG15_10, mkG15_11, mkG15_12, mkG15_13, mkG15_14])
  refine lv_if_ne (tgt := 17) hx hb dX8_more_5 (by decide) (fun c_1 => ?_) (fun c_1 => ?_)
  · skip
    refine lv_iconst (v := 1) hx hb dX8_more_17 (by decide) ?_
    refine lv_goto (tgt := 22) hx hb dX8_more_18 (by decide) ?_
    exact k_0 1 _ _ _ (by rw [j_X8_more_0_0, if_neg c_1]) hG (lv_sub hl [0, 1, 2] rfl)
  · skip
    refine lv_aload_n hx hb dX8_more_8 rfl (lv_at hl 0 rfl) ?_
    refine call_X8_59 C dX8_more_9 (c_X8_next l E v tx m aS aW aL aT a1 a2 a3 aB hA.1 hlen) hl hG 0 rfl [0, 1] (by decide) rfl (ads := [m, aT]) rfl rfl (ws' := [(m, .inr (8, [.int (v 0), .int (v 1), .ref aS, .int (v 2), .int (v 3), .int (v 4), .ref aW, .int (v 5), .ref aL, .int (v 6), .int (v 7), .int (v 8), .ref aT, .int (v 9), .int (v 10), .int (v 11), .int (v 12), .ref a1, .ref a2, .ref a3, .ref aB, .int (v 13), .int (v 14)])), (aT, .inl (E.2.1.2, 200, .inl tx))]) rfl rfl (rest := [.ref m]) rfl (Nat.le_of_ble_eq_true rfl) ⟨Nat.le_of_ble_eq_true rfl, Nat.le_of_ble_eq_true rfl⟩ (fun H locs hG => ?_)
    refine lv_bipush (v := 44) hx hb dX8_more_12 (by decide) ?_
    refine lv_icmp_eq (tgt := 21) hx hb dX8_more_14 (by decide) (fun c_4 => ?_) (fun c_4 => ?_)
    · skip
      refine lv_iconst (v := 0) hx hb dX8_more_21 (by decide) ?_
      exact k_0 0 _ _ _ (by rw [j_X8_more_0_0, if_pos c_1, if_pos c_4]) hG (lv_sub hl [0, 1, 2] rfl)
    · skip
      refine lv_iconst (v := 1) hx hb dX8_more_17 (by decide) ?_
      refine lv_goto (tgt := 22) hx hb dX8_more_18 (by decide) ?_
      exact k_0 1 _ _ _ (by rw [j_X8_more_0_0, if_pos c_1, if_neg c_4]) hG (lv_sub hl [0, 1, 2] rfl)
theorem more_at {B : Int} (hB : B < 900000) (v tx : Nat → Int32) (lo hi : Int32) (h : mB B (v 9)) : mB (B + 4) (o_X8_more_v v tx lo hi 9) := by
  rw [o_X8_more_v]
  split
  · rw [show B + 4 = B + 1 + 3 from by omega]
    exact num_at (by omega) _ _ _ _ (mB_succ (by omega) h)
  · exact mB_le (by omega) (mB_succ (by omega) h)
theorem more_len (v tx : Nat → Int32) (lo hi : Int32) : o_X8_more_v v tx lo hi 8 = v 8 := by
  rw [o_X8_more_v]
  split
  · rw [num_len, mkG15_8]
  · rw [mkG15_8]
def o_X8_hedgeItem_v (v : Nat → Int32) (sl : Nat → Int32) (tx : Nat → Int32) : Nat → Int32 := (o_X8_more_v (o_X8_more_v (o_X8_more_v (o_X8_number_v v tx 0 1) tx 0 4) tx 0 40) tx 0 99)
def o_X8_hedgeItem_1 (v : Nat → Int32) (sl : Nat → Int32) (tx : Nat → Int32) : Nat → Int32 := (if (o_X8_more_v (o_X8_more_v (o_X8_more_v (o_X8_number_v v tx 0 1) tx 0 4) tx 0 40) tx 0 99 11) = 0 then (upd (upd (upd sl ((143 + (o_X8_number_r v tx 0 1)).toNatClampNeg) (o_X8_more_r (o_X8_number_v v tx 0 1) tx 0 4)) ((145 + (o_X8_number_r v tx 0 1)).toNatClampNeg) (o_X8_more_r (o_X8_more_v (o_X8_number_v v tx 0 1) tx 0 4) tx 0 40)) ((149 + (o_X8_number_r v tx 0 1)).toNatClampNeg) (o_X8_more_r (o_X8_more_v (o_X8_more_v (o_X8_number_v v tx 0 1) tx 0 4) tx 0 40) tx 0 99)) else sl)
set_option maxRecDepth 100000 in
set_option maxHeartbeats 4000000 in
theorem c_X8_hedgeItem (l : Launch) (E : zE) (v : Nat → Int32) (sl : Nat → Int32) (tx : Nat → Int32) (m aS aW aL aT a1 a2 a3 aB : Nat) (hA : mB 1000 (v 9)) (hlen : (v 8).toInt ≤ 200) : HM l E yX8_hedgeItem cX8_hedgeItem 5 none 3 71 [.ref m] [(m, .inr (8, [.int (v 0), .int (v 1), .ref aS, .int (v 2), .int (v 3), .int (v 4), .ref aW, .int (v 5), .ref aL, .int (v 6), .int (v 7), .int (v 8), .ref aT, .int (v 9), .int (v 10), .int (v 11), .int (v 12), .ref a1, .ref a2, .ref a3, .ref aB, .int (v 13), .int (v 14)])), (aL, .inl (E.2.1.1, 156, .inl sl)), (aT, .inl (E.2.1.2, 200, .inl tx))] none [(m, .inr (8, [.int (o_X8_hedgeItem_v v sl tx 0), .int (o_X8_hedgeItem_v v sl tx 1), .ref aS, .int (o_X8_hedgeItem_v v sl tx 2), .int (o_X8_hedgeItem_v v sl tx 3), .int (o_X8_hedgeItem_v v sl tx 4), .ref aW, .int (o_X8_hedgeItem_v v sl tx 5), .ref aL, .int (o_X8_hedgeItem_v v sl tx 6), .int (o_X8_hedgeItem_v v sl tx 7), .int (o_X8_hedgeItem_v v sl tx 8), .ref aT, .int (o_X8_hedgeItem_v v sl tx 9), .int (o_X8_hedgeItem_v v sl tx 10), .int (o_X8_hedgeItem_v v sl tx 11), .int (o_X8_hedgeItem_v v sl tx 12), .ref a1, .ref a2, .ref a3, .ref aB, .int (o_X8_hedgeItem_v v sl tx 13), .int (o_X8_hedgeItem_v v sl tx 14)])), (aL, .inl (E.2.1.1, 156, .inl (o_X8_hedgeItem_1 v sl tx))), (aT, .inl (E.2.1.2, 200, .inl tx))] := by
  refine HM.of (own := RX8) (plainFor_of_name (by decide)) rfl (Nat.le_of_ble_eq_true rfl) ?_
  intro zp ze zs zm za zb zt zc zA ls H locs zq C hr hlk hG hl hQ
  have hx := C.1.1
  have hb := C.1.2.1
  replace hl : lv_has ls 5 [(0, .ref m)] := hl
  refine lv_aload_n hx hb dX8_hedgeItem_0 rfl (lv_at hl 0 rfl) ?_
  refine lv_iconst (v := 0) hx hb dX8_hedgeItem_1 (by decide) ?_
  refine lv_iconst (v := 1) hx hb dX8_hedgeItem_2 (by decide) ?_
  refine call_X8_71 C dX8_hedgeItem_3 (c_X8_number l E v tx 0 1 m aS aW aL aT a1 a2 a3 aB (mB_le (by decide) hA) hlen) hl hG 0 rfl [0, 2] (by decide) rfl (ads := [m, aT]) rfl rfl (ws' := [(m, .inr (8, [.int (o_X8_number_v v tx 0 1 0), .int (o_X8_number_v v tx 0 1 1), .ref aS, .int (o_X8_number_v v tx 0 1 2), .int (o_X8_number_v v tx 0 1 3), .int (o_X8_number_v v tx 0 1 4), .ref aW, .int (o_X8_number_v v tx 0 1 5), .ref aL, .int (o_X8_number_v v tx 0 1 6), .int (o_X8_number_v v tx 0 1 7), .int (o_X8_number_v v tx 0 1 8), .ref aT, .int (o_X8_number_v v tx 0 1 9), .int (o_X8_number_v v tx 0 1 10), .int (o_X8_number_v v tx 0 1 11), .int (o_X8_number_v v tx 0 1 12), .ref a1, .ref a2, .ref a3, .ref aB, .int (o_X8_number_v v tx 0 1 13), .int (o_X8_number_v v tx 0 1 14)])), (aL, .inl (E.2.1.1, 156, .inl sl)), (aT, .inl (E.2.1.2, 200, .inl tx))]) rfl rfl (rest := []) rfl (Nat.le_of_ble_eq_true rfl) ⟨Nat.le_of_ble_eq_true rfl, Nat.le_of_ble_eq_true rfl⟩ (fun H locs hG => ?_)
  refine lv_istore_n (lv' := [(1, .int (o_X8_number_r v tx 0 1)), (0, .ref m)]) hx hb dX8_hedgeItem_6 rfl hl (by decide) rfl (fun ls hl => ?_)
  refine lv_aload_n hx hb dX8_hedgeItem_7 rfl (lv_at hl 1 rfl) ?_
  refine lv_iconst (v := 0) hx hb dX8_hedgeItem_8 (by decide) ?_
  refine lv_iconst (v := 4) hx hb dX8_hedgeItem_9 (by decide) ?_
  refine call_X8_75 C dX8_hedgeItem_10 (c_X8_more l E (o_X8_number_v v tx 0 1) tx 0 4 m aS aW aL aT a1 a2 a3 aB (mB_le (by decide) (num_at (B := 1000) (by decide) _ _ _ _ hA)) (show (o_X8_number_v _ _ _ _ 8).toInt ≤ 200 from (by rw [num_len]; exact hlen))) hl hG 0 rfl [0, 2] (by decide) rfl (ads := [m, aT]) rfl rfl (ws' := [(m, .inr (8, [.int (o_X8_more_v (o_X8_number_v v tx 0 1) tx 0 4 0), .int (o_X8_more_v (o_X8_number_v v tx 0 1) tx 0 4 1), .ref aS, .int (o_X8_more_v (o_X8_number_v v tx 0 1) tx 0 4 2), .int (o_X8_more_v (o_X8_number_v v tx 0 1) tx 0 4 3), .int (o_X8_more_v (o_X8_number_v v tx 0 1) tx 0 4 4), .ref aW, .int (o_X8_more_v (o_X8_number_v v tx 0 1) tx 0 4 5), .ref aL, .int (o_X8_more_v (o_X8_number_v v tx 0 1) tx 0 4 6), .int (o_X8_more_v (o_X8_number_v v tx 0 1) tx 0 4 7), .int (o_X8_more_v (o_X8_number_v v tx 0 1) tx 0 4 8), .ref aT, .int (o_X8_more_v (o_X8_number_v v tx 0 1) tx 0 4 9), .int (o_X8_more_v (o_X8_number_v v tx 0 1) tx 0 4 10), .int (o_X8_more_v (o_X8_number_v v tx 0 1) tx 0 4 11), .int (o_X8_more_v (o_X8_number_v v tx 0 1) tx 0 4 12), .ref a1, .ref a2, .ref a3, .ref aB, .int (o_X8_more_v (o_X8_number_v v tx 0 1) tx 0 4 13), .int (o_X8_more_v (o_X8_number_v v tx 0 1) tx 0 4 14)])), (aL, .inl (E.2.1.1, 156, .inl sl)), (aT, .inl (E.2.1.2, 200, .inl tx))]) rfl rfl (rest := []) rfl (Nat.le_of_ble_eq_true rfl) ⟨Nat.le_of_ble_eq_true rfl, Nat.le_of_ble_eq_true rfl⟩ (fun H locs hG => ?_)
  refine lv_istore_n (lv' := [(2, .int (o_X8_more_r (o_X8_number_v v tx 0 1) tx 0 4)), (1, .int (o_X8_number_r v tx 0 1)), (0, .ref m)]) hx hb dX8_hedgeItem_13 rfl hl (by decide) rfl (fun ls hl => ?_)
  refine lv_aload_n hx hb dX8_hedgeItem_14 rfl (lv_at hl 2 rfl) ?_
  refine lv_iconst (v := 0) hx hb dX8_hedgeItem_15 (by decide) ?_
  refine lv_bipush (v := 40) hx hb dX8_hedgeItem_16 (by decide) ?_
  refine call_X8_75 C dX8_hedgeItem_18 (c_X8_more l E (o_X8_more_v (o_X8_number_v v tx 0 1) tx 0 4) tx 0 40 m aS aW aL aT a1 a2 a3 aB (mB_le (by decide) (more_at (B := 1003) (by decide) _ _ _ _ (num_at (B := 1000) (by decide) _ _ _ _ hA))) (show (o_X8_more_v _ _ _ _ 8).toInt ≤ 200 from (by rw [more_len]; exact (show (o_X8_number_v _ _ _ _ 8).toInt ≤ 200 from (by rw [num_len]; exact hlen))))) hl hG 0 rfl [0, 2] (by decide) rfl (ads := [m, aT]) rfl rfl (ws' := [(m, .inr (8, [.int (o_X8_more_v (o_X8_more_v (o_X8_number_v v tx 0 1) tx 0 4) tx 0 40 0), .int (o_X8_more_v (o_X8_more_v (o_X8_number_v v tx 0 1) tx 0 4) tx 0 40 1), .ref aS, .int (o_X8_more_v (o_X8_more_v (o_X8_number_v v tx 0 1) tx 0 4) tx 0 40 2), .int (o_X8_more_v (o_X8_more_v (o_X8_number_v v tx 0 1) tx 0 4) tx 0 40 3), .int (o_X8_more_v (o_X8_more_v (o_X8_number_v v tx 0 1) tx 0 4) tx 0 40 4), .ref aW, .int (o_X8_more_v (o_X8_more_v (o_X8_number_v v tx 0 1) tx 0 4) tx 0 40 5), .ref aL, .int (o_X8_more_v (o_X8_more_v (o_X8_number_v v tx 0 1) tx 0 4) tx 0 40 6), .int (o_X8_more_v (o_X8_more_v (o_X8_number_v v tx 0 1) tx 0 4) tx 0 40 7), .int (o_X8_more_v (o_X8_more_v (o_X8_number_v v tx 0 1) tx 0 4) tx 0 40 8), .ref aT, .int (o_X8_more_v (o_X8_more_v (o_X8_number_v v tx 0 1) tx 0 4) tx 0 40 9), .int (o_X8_more_v (o_X8_more_v (o_X8_number_v v tx 0 1) tx 0 4) tx 0 40 10), .int (o_X8_more_v (o_X8_more_v (o_X8_number_v v tx 0 1) tx 0 4) tx 0 40 11), .int (o_X8_more_v (o_X8_more_v (o_X8_number_v v tx 0 1) tx 0 4) tx 0 40 12), .ref a1, .ref a2, .ref a3, .ref aB, .int (o_X8_more_v (o_X8_more_v (o_X8_number_v v tx 0 1) tx 0 4) tx 0 40 13), .int (o_X8_more_v (o_X8_more_v (o_X8_number_v v tx 0 1) tx 0 4) tx 0 40 14)])), (aL, .inl (E.2.1.1, 156, .inl sl)), (aT, .inl (E.2.1.2, 200, .inl tx))]) rfl rfl (rest := []) rfl (Nat.le_of_ble_eq_true rfl) ⟨Nat.le_of_ble_eq_true rfl, Nat.le_of_ble_eq_true rfl⟩ (fun H locs hG => ?_)
  refine lv_istore_n (lv' := [(3, .int (o_X8_more_r (o_X8_more_v (o_X8_number_v v tx 0 1) tx 0 4) tx 0 40)), (2, .int (o_X8_more_r (o_X8_number_v v tx 0 1) tx 0 4)), (1, .int (o_X8_number_r v tx 0 1)), (0, .ref m)]) hx hb dX8_hedgeItem_21 rfl hl (by decide) rfl (fun ls hl => ?_)
  refine lv_aload_n hx hb dX8_hedgeItem_22 rfl (lv_at hl 3 rfl) ?_
  refine lv_iconst (v := 0) hx hb dX8_hedgeItem_23 (by decide) ?_
  refine lv_bipush (v := 99) hx hb dX8_hedgeItem_24 (by decide) ?_
  refine call_X8_75 C dX8_hedgeItem_26 (c_X8_more l E (o_X8_more_v (o_X8_more_v (o_X8_number_v v tx 0 1) tx 0 4) tx 0 40) tx 0 99 m aS aW aL aT a1 a2 a3 aB (mB_le (by decide) (more_at (B := 1007) (by decide) _ _ _ _ (more_at (B := 1003) (by decide) _ _ _ _ (num_at (B := 1000) (by decide) _ _ _ _ hA)))) (show (o_X8_more_v _ _ _ _ 8).toInt ≤ 200 from (by rw [more_len]; exact (show (o_X8_more_v _ _ _ _ 8).toInt ≤ 200 from (by rw [more_len]; exact (show (o_X8_number_v _ _ _ _ 8).toInt ≤ 200 from (by rw [num_len]; exact hlen))))))) hl hG 0 rfl [0, 2] (by decide) rfl (ads := [m, aT]) rfl rfl (ws' := [(m, .inr (8, [.int (o_X8_more_v (o_X8_more_v (o_X8_more_v (o_X8_number_v v tx 0 1) tx 0 4) tx 0 40) tx 0 99 0), .int (o_X8_more_v (o_X8_more_v (o_X8_more_v (o_X8_number_v v tx 0 1) tx 0 4) tx 0 40) tx 0 99 1), .ref aS, .int (o_X8_more_v (o_X8_more_v (o_X8_more_v (o_X8_number_v v tx 0 1) tx 0 4) tx 0 40) tx 0 99 2), .int (o_X8_more_v (o_X8_more_v (o_X8_more_v (o_X8_number_v v tx 0 1) tx 0 4) tx 0 40) tx 0 99 3), .int (o_X8_more_v (o_X8_more_v (o_X8_more_v (o_X8_number_v v tx 0 1) tx 0 4) tx 0 40) tx 0 99 4), .ref aW, .int (o_X8_more_v (o_X8_more_v (o_X8_more_v (o_X8_number_v v tx 0 1) tx 0 4) tx 0 40) tx 0 99 5), .ref aL, .int (o_X8_more_v (o_X8_more_v (o_X8_more_v (o_X8_number_v v tx 0 1) tx 0 4) tx 0 40) tx 0 99 6), .int (o_X8_more_v (o_X8_more_v (o_X8_more_v (o_X8_number_v v tx 0 1) tx 0 4) tx 0 40) tx 0 99 7), .int (o_X8_more_v (o_X8_more_v (o_X8_more_v (o_X8_number_v v tx 0 1) tx 0 4) tx 0 40) tx 0 99 8), .ref aT, .int (o_X8_more_v (o_X8_more_v (o_X8_more_v (o_X8_number_v v tx 0 1) tx 0 4) tx 0 40) tx 0 99 9), .int (o_X8_more_v (o_X8_more_v (o_X8_more_v (o_X8_number_v v tx 0 1) tx 0 4) tx 0 40) tx 0 99 10), .int (o_X8_more_v (o_X8_more_v (o_X8_more_v (o_X8_number_v v tx 0 1) tx 0 4) tx 0 40) tx 0 99 11), .int (o_X8_more_v (o_X8_more_v (o_X8_more_v (o_X8_number_v v tx 0 1) tx 0 4) tx 0 40) tx 0 99 12), .ref a1, .ref a2, .ref a3, .ref aB, .int (o_X8_more_v (o_X8_more_v (o_X8_more_v (o_X8_number_v v tx 0 1) tx 0 4) tx 0 40) tx 0 99 13), .int (o_X8_more_v (o_X8_more_v (o_X8_more_v (o_X8_number_v v tx 0 1) tx 0 4) tx 0 40) tx 0 99 14)])), (aL, .inl (E.2.1.1, 156, .inl sl)), (aT, .inl (E.2.1.2, 200, .inl tx))]) rfl rfl (rest := []) rfl (Nat.le_of_ble_eq_true rfl) ⟨Nat.le_of_ble_eq_true rfl, Nat.le_of_ble_eq_true rfl⟩ (fun H locs hG => ?_)
  refine lv_istore (lv' := [(4, .int (o_X8_more_r (o_X8_more_v (o_X8_more_v (o_X8_number_v v tx 0 1) tx 0 4) tx 0 40) tx 0 99)), (3, .int (o_X8_more_r (o_X8_more_v (o_X8_number_v v tx 0 1) tx 0 4) tx 0 40)), (2, .int (o_X8_more_r (o_X8_number_v v tx 0 1) tx 0 4)), (1, .int (o_X8_number_r v tx 0 1)), (0, .ref m)]) hx hb dX8_hedgeItem_29 hl (by decide) rfl (fun ls hl => ?_)
  refine lv_aload_n hx hb dX8_hedgeItem_31 rfl (lv_at hl 4 rfl) ?_
  refine gf_X8_67 C dX8_hedgeItem_32 hG 0 rfl rfl ?_
  refine lv_if_ne (tgt := 72) hx hb dX8_hedgeItem_35 (by decide) (fun c_1 => ?_) (fun c_1 => ?_)
  · skip
    rw [hQ]
    exact z_vret C hr hlk hG dX8_hedgeItem_72 rfl (by rw [o_X8_hedgeItem_v, o_X8_hedgeItem_1, if_neg c_1])
  · skip
    refine lv_aload_n hx hb dX8_hedgeItem_38 rfl (lv_at hl 4 rfl) ?_
    refine gf_X8_16 C dX8_hedgeItem_39 hG 0 rfl rfl ?_
    refine lv_sipush (v := 143) hx hb dX8_hedgeItem_42 (by decide) ?_
    refine lv_iload_n hx hb dX8_hedgeItem_45 rfl (lv_at hl 3 rfl) ?_
    refine lv_iadd hx hb dX8_hedgeItem_46 ?_
    refine lv_iload_n hx hb dX8_hedgeItem_47 rfl (lv_at hl 2 rfl) ?_
    refine z_iast C dX8_hedgeItem_48 hG 1 rfl (z_hix (a := 143) (num_ri v tx 1 (c := 1) (by decide)) (by decide)) (ws' := [(m, .inr (8, [.int (o_X8_more_v (o_X8_more_v (o_X8_more_v (o_X8_number_v v tx 0 1) tx 0 4) tx 0 40) tx 0 99 0), .int (o_X8_more_v (o_X8_more_v (o_X8_more_v (o_X8_number_v v tx 0 1) tx 0 4) tx 0 40) tx 0 99 1), .ref aS, .int (o_X8_more_v (o_X8_more_v (o_X8_more_v (o_X8_number_v v tx 0 1) tx 0 4) tx 0 40) tx 0 99 2), .int (o_X8_more_v (o_X8_more_v (o_X8_more_v (o_X8_number_v v tx 0 1) tx 0 4) tx 0 40) tx 0 99 3), .int (o_X8_more_v (o_X8_more_v (o_X8_more_v (o_X8_number_v v tx 0 1) tx 0 4) tx 0 40) tx 0 99 4), .ref aW, .int (o_X8_more_v (o_X8_more_v (o_X8_more_v (o_X8_number_v v tx 0 1) tx 0 4) tx 0 40) tx 0 99 5), .ref aL, .int (o_X8_more_v (o_X8_more_v (o_X8_more_v (o_X8_number_v v tx 0 1) tx 0 4) tx 0 40) tx 0 99 6), .int (o_X8_more_v (o_X8_more_v (o_X8_more_v (o_X8_number_v v tx 0 1) tx 0 4) tx 0 40) tx 0 99 7), .int (o_X8_more_v (o_X8_more_v (o_X8_more_v (o_X8_number_v v tx 0 1) tx 0 4) tx 0 40) tx 0 99 8), .ref aT, .int (o_X8_more_v (o_X8_more_v (o_X8_more_v (o_X8_number_v v tx 0 1) tx 0 4) tx 0 40) tx 0 99 9), .int (o_X8_more_v (o_X8_more_v (o_X8_more_v (o_X8_number_v v tx 0 1) tx 0 4) tx 0 40) tx 0 99 10), .int (o_X8_more_v (o_X8_more_v (o_X8_more_v (o_X8_number_v v tx 0 1) tx 0 4) tx 0 40) tx 0 99 11), .int (o_X8_more_v (o_X8_more_v (o_X8_more_v (o_X8_number_v v tx 0 1) tx 0 4) tx 0 40) tx 0 99 12), .ref a1, .ref a2, .ref a3, .ref aB, .int (o_X8_more_v (o_X8_more_v (o_X8_more_v (o_X8_number_v v tx 0 1) tx 0 4) tx 0 40) tx 0 99 13), .int (o_X8_more_v (o_X8_more_v (o_X8_more_v (o_X8_number_v v tx 0 1) tx 0 4) tx 0 40) tx 0 99 14)])), (aL, .inl (E.2.1.1, 156, .inl (upd sl ((143 + (o_X8_number_r v tx 0 1)).toNatClampNeg) (o_X8_more_r (o_X8_number_v v tx 0 1) tx 0 4)))), (aT, .inl (E.2.1.2, 200, .inl tx))]) rfl (fun H locs hG => ?_)
    refine lv_aload_n hx hb dX8_hedgeItem_49 rfl (lv_at hl 4 rfl) ?_
    refine gf_X8_16 C dX8_hedgeItem_50 hG 0 rfl rfl ?_
    refine lv_sipush (v := 145) hx hb dX8_hedgeItem_53 (by decide) ?_
    refine lv_iload_n hx hb dX8_hedgeItem_56 rfl (lv_at hl 3 rfl) ?_
    refine lv_iadd hx hb dX8_hedgeItem_57 ?_
    refine lv_iload_n hx hb dX8_hedgeItem_58 rfl (lv_at hl 1 rfl) ?_
    refine z_iast C dX8_hedgeItem_59 hG 1 rfl (z_hix (a := 145) (num_ri v tx 1 (c := 1) (by decide)) (by decide)) (ws' := [(m, .inr (8, [.int (o_X8_more_v (o_X8_more_v (o_X8_more_v (o_X8_number_v v tx 0 1) tx 0 4) tx 0 40) tx 0 99 0), .int (o_X8_more_v (o_X8_more_v (o_X8_more_v (o_X8_number_v v tx 0 1) tx 0 4) tx 0 40) tx 0 99 1), .ref aS, .int (o_X8_more_v (o_X8_more_v (o_X8_more_v (o_X8_number_v v tx 0 1) tx 0 4) tx 0 40) tx 0 99 2), .int (o_X8_more_v (o_X8_more_v (o_X8_more_v (o_X8_number_v v tx 0 1) tx 0 4) tx 0 40) tx 0 99 3), .int (o_X8_more_v (o_X8_more_v (o_X8_more_v (o_X8_number_v v tx 0 1) tx 0 4) tx 0 40) tx 0 99 4), .ref aW, .int (o_X8_more_v (o_X8_more_v (o_X8_more_v (o_X8_number_v v tx 0 1) tx 0 4) tx 0 40) tx 0 99 5), .ref aL, .int (o_X8_more_v (o_X8_more_v (o_X8_more_v (o_X8_number_v v tx 0 1) tx 0 4) tx 0 40) tx 0 99 6), .int (o_X8_more_v (o_X8_more_v (o_X8_more_v (o_X8_number_v v tx 0 1) tx 0 4) tx 0 40) tx 0 99 7), .int (o_X8_more_v (o_X8_more_v (o_X8_more_v (o_X8_number_v v tx 0 1) tx 0 4) tx 0 40) tx 0 99 8), .ref aT, .int (o_X8_more_v (o_X8_more_v (o_X8_more_v (o_X8_number_v v tx 0 1) tx 0 4) tx 0 40) tx 0 99 9), .int (o_X8_more_v (o_X8_more_v (o_X8_more_v (o_X8_number_v v tx 0 1) tx 0 4) tx 0 40) tx 0 99 10), .int (o_X8_more_v (o_X8_more_v (o_X8_more_v (o_X8_number_v v tx 0 1) tx 0 4) tx 0 40) tx 0 99 11), .int (o_X8_more_v (o_X8_more_v (o_X8_more_v (o_X8_number_v v tx 0 1) tx 0 4) tx 0 40) tx 0 99 12), .ref a1, .ref a2, .ref a3, .ref aB, .int (o_X8_more_v (o_X8_more_v (o_X8_more_v (o_X8_number_v v tx 0 1) tx 0 4) tx 0 40) tx 0 99 13), .int (o_X8_more_v (o_X8_more_v (o_X8_more_v (o_X8_number_v v tx 0 1) tx 0 4) tx 0 40) tx 0 99 14)])), (aL, .inl (E.2.1.1, 156, .inl (upd (upd sl ((143 + (o_X8_number_r v tx 0 1)).toNatClampNeg) (o_X8_more_r (o_X8_number_v v tx 0 1) tx 0 4)) ((145 + (o_X8_number_r v tx 0 1)).toNatClampNeg) (o_X8_more_r (o_X8_more_v (o_X8_number_v v tx 0 1) tx 0 4) tx 0 40)))), (aT, .inl (E.2.1.2, 200, .inl tx))]) rfl (fun H locs hG => ?_)
    refine lv_aload_n hx hb dX8_hedgeItem_60 rfl (lv_at hl 4 rfl) ?_
    refine gf_X8_16 C dX8_hedgeItem_61 hG 0 rfl rfl ?_
    refine lv_sipush (v := 149) hx hb dX8_hedgeItem_64 (by decide) ?_
    refine lv_iload_n hx hb dX8_hedgeItem_67 rfl (lv_at hl 3 rfl) ?_
    refine lv_iadd hx hb dX8_hedgeItem_68 ?_
    refine lv_iload hx hb dX8_hedgeItem_69 (lv_at hl 0 rfl) ?_
    refine z_iast C dX8_hedgeItem_71 hG 1 rfl (z_hix (a := 149) (num_ri v tx 1 (c := 1) (by decide)) (by decide)) (ws' := [(m, .inr (8, [.int (o_X8_more_v (o_X8_more_v (o_X8_more_v (o_X8_number_v v tx 0 1) tx 0 4) tx 0 40) tx 0 99 0), .int (o_X8_more_v (o_X8_more_v (o_X8_more_v (o_X8_number_v v tx 0 1) tx 0 4) tx 0 40) tx 0 99 1), .ref aS, .int (o_X8_more_v (o_X8_more_v (o_X8_more_v (o_X8_number_v v tx 0 1) tx 0 4) tx 0 40) tx 0 99 2), .int (o_X8_more_v (o_X8_more_v (o_X8_more_v (o_X8_number_v v tx 0 1) tx 0 4) tx 0 40) tx 0 99 3), .int (o_X8_more_v (o_X8_more_v (o_X8_more_v (o_X8_number_v v tx 0 1) tx 0 4) tx 0 40) tx 0 99 4), .ref aW, .int (o_X8_more_v (o_X8_more_v (o_X8_more_v (o_X8_number_v v tx 0 1) tx 0 4) tx 0 40) tx 0 99 5), .ref aL, .int (o_X8_more_v (o_X8_more_v (o_X8_more_v (o_X8_number_v v tx 0 1) tx 0 4) tx 0 40) tx 0 99 6), .int (o_X8_more_v (o_X8_more_v (o_X8_more_v (o_X8_number_v v tx 0 1) tx 0 4) tx 0 40) tx 0 99 7), .int (o_X8_more_v (o_X8_more_v (o_X8_more_v (o_X8_number_v v tx 0 1) tx 0 4) tx 0 40) tx 0 99 8), .ref aT, .int (o_X8_more_v (o_X8_more_v (o_X8_more_v (o_X8_number_v v tx 0 1) tx 0 4) tx 0 40) tx 0 99 9), .int (o_X8_more_v (o_X8_more_v (o_X8_more_v (o_X8_number_v v tx 0 1) tx 0 4) tx 0 40) tx 0 99 10), .int (o_X8_more_v (o_X8_more_v (o_X8_more_v (o_X8_number_v v tx 0 1) tx 0 4) tx 0 40) tx 0 99 11), .int (o_X8_more_v (o_X8_more_v (o_X8_more_v (o_X8_number_v v tx 0 1) tx 0 4) tx 0 40) tx 0 99 12), .ref a1, .ref a2, .ref a3, .ref aB, .int (o_X8_more_v (o_X8_more_v (o_X8_more_v (o_X8_number_v v tx 0 1) tx 0 4) tx 0 40) tx 0 99 13), .int (o_X8_more_v (o_X8_more_v (o_X8_more_v (o_X8_number_v v tx 0 1) tx 0 4) tx 0 40) tx 0 99 14)])), (aL, .inl (E.2.1.1, 156, .inl (upd (upd (upd sl ((143 + (o_X8_number_r v tx 0 1)).toNatClampNeg) (o_X8_more_r (o_X8_number_v v tx 0 1) tx 0 4)) ((145 + (o_X8_number_r v tx 0 1)).toNatClampNeg) (o_X8_more_r (o_X8_more_v (o_X8_number_v v tx 0 1) tx 0 4) tx 0 40)) ((149 + (o_X8_number_r v tx 0 1)).toNatClampNeg) (o_X8_more_r (o_X8_more_v (o_X8_more_v (o_X8_number_v v tx 0 1) tx 0 4) tx 0 40) tx 0 99)))), (aT, .inl (E.2.1.2, 200, .inl tx))]) rfl (fun H locs hG => ?_)
    rw [hQ]
    exact z_vret C hr hlk hG dX8_hedgeItem_72 rfl (by rw [o_X8_hedgeItem_v, o_X8_hedgeItem_1, if_pos c_1])
def j_X8_item_0_0 (v : Nat → Int32) (mw : Nat → Int32) (sl : Nat → Int32) (tx : Nat → Int32) (ch : Int32) : Int32 := (if (o_X8_number_v v tx 0 11 11) = 0 then (1 <<< ((o_X8_number_r v tx 0 11) &&& 31)) else 0)
def j_X8_item_1_0 (v : Nat → Int32) (mw : Nat → Int32) (sl : Nat → Int32) (tx : Nat → Int32) (ch : Int32) : Int32 := (if (o_X8_more_v (o_X8_number_v v tx 0 11) tx 1 9 11) = 0 then (o_X8_more_r (o_X8_number_v v tx 0 11) tx 1 9) else 5)
def o_X8_item_v (v : Nat → Int32) (mw : Nat → Int32) (sl : Nat → Int32) (tx : Nat → Int32) (ch : Int32) : Nat → Int32 := (if ch = 108 then (mkG15 (o_X8_number_v v tx 1 40 0) (o_X8_number_v v tx 1 40 1) (o_X8_number_v v tx 1 40 2) (o_X8_number_r v tx 1 40) (o_X8_number_v v tx 1 40 4) (o_X8_number_v v tx 1 40 5) (o_X8_number_v v tx 1 40 6) (o_X8_number_v v tx 1 40 7) (o_X8_number_v v tx 1 40 8) (o_X8_number_v v tx 1 40 9) (o_X8_number_v v tx 1 40 10) (o_X8_number_v v tx 1 40 11) (o_X8_number_v v tx 1 40 12) (o_X8_number_v v tx 1 40 13) (o_X8_number_v v tx 1 40 14)) else (if ch = 104 then (o_X8_hedgeItem_v v sl tx) else (if ch = 115 then (o_X8_more_v (o_X8_number_v v tx 0 11) tx 1 9) else (if ch = 119 then (o_X8_number_v v tx 0 99) else (if ch = 100 then (mkG15 (o_X8_number_v v tx 0 11 0) (o_X8_number_v v tx 0 11 1) (o_X8_number_v v tx 0 11 2) (o_X8_number_v v tx 0 11 3) (o_X8_number_v v tx 0 11 4) ((o_X8_number_v v tx 0 11 5) ||| (j_X8_item_0_0 v mw sl tx ch)) (o_X8_number_v v tx 0 11 6) (o_X8_number_v v tx 0 11 7) (o_X8_number_v v tx 0 11 8) (o_X8_number_v v tx 0 11 9) (o_X8_number_v v tx 0 11 10) (o_X8_number_v v tx 0 11 11) (o_X8_number_v v tx 0 11 12) (o_X8_number_v v tx 0 11 13) (o_X8_number_v v tx 0 11 14)) else (if ch = 114 then (mkG15 (o_X8_number_v v tx 1 6 0) (o_X8_number_v v tx 1 6 1) (o_X8_number_v v tx 1 6 2) (o_X8_number_v v tx 1 6 3) (o_X8_number_r v tx 1 6) (o_X8_number_v v tx 1 6 5) (o_X8_number_v v tx 1 6 6) (o_X8_number_v v tx 1 6 7) (o_X8_number_v v tx 1 6 8) (o_X8_number_v v tx 1 6 9) (o_X8_number_v v tx 1 6 10) (o_X8_number_v v tx 1 6 11) (o_X8_number_v v tx 1 6 12) (o_X8_number_v v tx 1 6 13) (o_X8_number_v v tx 1 6 14)) else (mkG15 (v 0) (v 1) (v 2) (v 3) (v 4) (v 5) (v 6) (v 7) (v 8) (v 9) (v 10) 1 (v 12) (v 13) (v 14))))))))
def o_X8_item_1 (v : Nat → Int32) (mw : Nat → Int32) (sl : Nat → Int32) (tx : Nat → Int32) (ch : Int32) : Nat → Int32 := (if ch = 108 then mw else (if ch = 104 then mw else (if ch = 115 then (upd mw ((o_X8_number_r v tx 0 11).toNatClampNeg) (j_X8_item_1_0 v mw sl tx ch)) else mw)))
def o_X8_item_2 (v : Nat → Int32) (mw : Nat → Int32) (sl : Nat → Int32) (tx : Nat → Int32) (ch : Int32) : Nat → Int32 := (if ch = 108 then sl else (if ch = 104 then (o_X8_hedgeItem_1 v sl tx) else (if ch = 115 then sl else (if ch = 119 then (upd sl 153 (o_X8_number_r v tx 0 99)) else sl))))
set_option maxRecDepth 100000 in
set_option maxHeartbeats 4000000 in
theorem c_X8_item (l : Launch) (E : zE) (v : Nat → Int32) (mw : Nat → Int32) (sl : Nat → Int32) (tx : Nat → Int32) (ch : Int32) (m aS aW aL aT a1 a2 a3 aB : Nat) (hA : mB 1000 (v 9)) (hlen : (v 8).toInt ≤ 200) : HM l E yX8_item cX8_item 4 none 4 95 [.ref m, .int ch] [(m, .inr (8, [.int (v 0), .int (v 1), .ref aS, .int (v 2), .int (v 3), .int (v 4), .ref aW, .int (v 5), .ref aL, .int (v 6), .int (v 7), .int (v 8), .ref aT, .int (v 9), .int (v 10), .int (v 11), .int (v 12), .ref a1, .ref a2, .ref a3, .ref aB, .int (v 13), .int (v 14)])), (aW, .inl (E.2.1.1, 12, .inl mw)), (aL, .inl (E.2.1.1, 156, .inl sl)), (aT, .inl (E.2.1.2, 200, .inl tx))] none [(m, .inr (8, [.int (o_X8_item_v v mw sl tx ch 0), .int (o_X8_item_v v mw sl tx ch 1), .ref aS, .int (o_X8_item_v v mw sl tx ch 2), .int (o_X8_item_v v mw sl tx ch 3), .int (o_X8_item_v v mw sl tx ch 4), .ref aW, .int (o_X8_item_v v mw sl tx ch 5), .ref aL, .int (o_X8_item_v v mw sl tx ch 6), .int (o_X8_item_v v mw sl tx ch 7), .int (o_X8_item_v v mw sl tx ch 8), .ref aT, .int (o_X8_item_v v mw sl tx ch 9), .int (o_X8_item_v v mw sl tx ch 10), .int (o_X8_item_v v mw sl tx ch 11), .int (o_X8_item_v v mw sl tx ch 12), .ref a1, .ref a2, .ref a3, .ref aB, .int (o_X8_item_v v mw sl tx ch 13), .int (o_X8_item_v v mw sl tx ch 14)])), (aW, .inl (E.2.1.1, 12, .inl (o_X8_item_1 v mw sl tx ch))), (aL, .inl (E.2.1.1, 156, .inl (o_X8_item_2 v mw sl tx ch))), (aT, .inl (E.2.1.2, 200, .inl tx))] := by
  refine HM.of (own := RX8) (plainFor_of_name (by decide)) rfl (Nat.le_of_ble_eq_true rfl) ?_
  intro zp ze zs zm za zb zt zc zA ls H locs zq C hr hlk hG hl hQ
  have hx := C.1.1
  have hb := C.1.2.1
  replace hl : lv_has ls 4 [(0, .ref m), (1, .int ch)] := hl
  refine lv_iload_n hx hb dX8_item_0 rfl (lv_at hl 1 rfl) ?_
  refine lv_bipush (v := 108) hx hb dX8_item_1 (by decide) ?_
  refine lv_icmp_ne (tgt := 20) hx hb dX8_item_3 (by decide) (fun c_1 => ?_) (fun c_1 => ?_)
  · skip
    refine lv_iload_n hx hb dX8_item_20 rfl (lv_at hl 1 rfl) ?_
    refine lv_bipush (v := 104) hx hb dX8_item_21 (by decide) ?_
    refine lv_icmp_ne (tgt := 33) hx hb dX8_item_23 (by decide) (fun c_2 => ?_) (fun c_2 => ?_)
    · skip
      refine lv_iload_n hx hb dX8_item_33 rfl (lv_at hl 1 rfl) ?_
      refine lv_bipush (v := 115) hx hb dX8_item_34 (by decide) ?_
      refine lv_icmp_ne (tgt := 76) hx hb dX8_item_36 (by decide) (fun c_3 => ?_) (fun c_3 => ?_)
      · skip
        refine lv_iload_n hx hb dX8_item_76 rfl (lv_at hl 1 rfl) ?_
        refine lv_bipush (v := 119) hx hb dX8_item_77 (by decide) ?_
        refine lv_icmp_ne (tgt := 100) hx hb dX8_item_79 (by decide) (fun c_4 => ?_) (fun c_4 => ?_)
        · skip
          refine lv_iload_n hx hb dX8_item_100 rfl (lv_at hl 1 rfl) ?_
          refine lv_bipush (v := 100) hx hb dX8_item_101 (by decide) ?_
          refine lv_icmp_ne (tgt := 140) hx hb dX8_item_103 (by decide) (fun c_5 => ?_) (fun c_5 => ?_)
          · skip
            refine lv_iload_n hx hb dX8_item_140 rfl (lv_at hl 1 rfl) ?_
            refine lv_bipush (v := 114) hx hb dX8_item_141 (by decide) ?_
            refine lv_icmp_ne (tgt := 160) hx hb dX8_item_143 (by decide) (fun c_6 => ?_) (fun c_6 => ?_)
            · skip
              refine lv_aload_n hx hb dX8_item_160 rfl (lv_at hl 0 rfl) ?_
              refine lv_iconst (v := 1) hx hb dX8_item_161 (by decide) ?_
              refine pf_X8_67 C dX8_item_162 hG 0 rfl (Nat.le_of_ble_eq_true rfl) rfl rfl (ws' := [(m, .inr (8, [.int (v 0), .int (v 1), .ref aS, .int (v 2), .int (v 3), .int (v 4), .ref aW, .int (v 5), .ref aL, .int (v 6), .int (v 7), .int (v 8), .ref aT, .int (v 9), .int (v 10), .int 1, .int (v 12), .ref a1, .ref a2, .ref a3, .ref aB, .int (v 13), .int (v 14)])), (aW, .inl (E.2.1.1, 12, .inl mw)), (aL, .inl (E.2.1.1, 156, .inl sl)), (aT, .inl (E.2.1.2, 200, .inl tx))]) rfl (fun H locs hG => ?_)
              rw [hQ]
              exact z_vret C hr hlk hG dX8_item_165 rfl (by rw [o_X8_item_v, if_neg c_1, if_neg c_2, if_neg c_3, if_neg c_4, if_neg c_5, if_neg c_6, mkG15_0, mkG15_1, mkG15_2, mkG15_3, mkG15_4, mkG15_5, mkG15_6, mkG15_7, mkG15_8, mkG15_9, mkG15_10, mkG15_11, mkG15_12, mkG15_13, mkG15_14, o_X8_item_1, if_neg c_1, if_neg c_2, if_neg c_3, o_X8_item_2, if_neg c_1, if_neg c_2, if_neg c_3, if_neg c_4])
            · skip
              refine lv_aload_n hx hb dX8_item_146 rfl (lv_at hl 0 rfl) ?_
              refine lv_aload_n hx hb dX8_item_147 rfl (lv_at hl 0 rfl) ?_
              refine lv_iconst (v := 1) hx hb dX8_item_148 (by decide) ?_
              refine lv_bipush (v := 6) hx hb dX8_item_149 (by decide) ?_
              refine call_X8_71 C dX8_item_151 (c_X8_number l E v tx 1 6 m aS aW aL aT a1 a2 a3 aB (mB_le (by decide) hA) hlen) hl hG 0 rfl [0, 3] (by decide) rfl (ads := [m, aT]) rfl rfl (ws' := [(m, .inr (8, [.int (o_X8_number_v v tx 1 6 0), .int (o_X8_number_v v tx 1 6 1), .ref aS, .int (o_X8_number_v v tx 1 6 2), .int (o_X8_number_v v tx 1 6 3), .int (o_X8_number_v v tx 1 6 4), .ref aW, .int (o_X8_number_v v tx 1 6 5), .ref aL, .int (o_X8_number_v v tx 1 6 6), .int (o_X8_number_v v tx 1 6 7), .int (o_X8_number_v v tx 1 6 8), .ref aT, .int (o_X8_number_v v tx 1 6 9), .int (o_X8_number_v v tx 1 6 10), .int (o_X8_number_v v tx 1 6 11), .int (o_X8_number_v v tx 1 6 12), .ref a1, .ref a2, .ref a3, .ref aB, .int (o_X8_number_v v tx 1 6 13), .int (o_X8_number_v v tx 1 6 14)])), (aW, .inl (E.2.1.1, 12, .inl mw)), (aL, .inl (E.2.1.1, 156, .inl sl)), (aT, .inl (E.2.1.2, 200, .inl tx))]) rfl rfl (rest := [.ref m]) rfl (Nat.le_of_ble_eq_true rfl) ⟨Nat.le_of_ble_eq_true rfl, Nat.le_of_ble_eq_true rfl⟩ (fun H locs hG => ?_)
              refine pf_X8_87 C dX8_item_154 hG 0 rfl (Nat.le_of_ble_eq_true rfl) (ws' := [(m, .inr (8, [.int (o_X8_number_v v tx 1 6 0), .int (o_X8_number_v v tx 1 6 1), .ref aS, .int (o_X8_number_v v tx 1 6 2), .int (o_X8_number_v v tx 1 6 3), .int (o_X8_number_r v tx 1 6), .ref aW, .int (o_X8_number_v v tx 1 6 5), .ref aL, .int (o_X8_number_v v tx 1 6 6), .int (o_X8_number_v v tx 1 6 7), .int (o_X8_number_v v tx 1 6 8), .ref aT, .int (o_X8_number_v v tx 1 6 9), .int (o_X8_number_v v tx 1 6 10), .int (o_X8_number_v v tx 1 6 11), .int (o_X8_number_v v tx 1 6 12), .ref a1, .ref a2, .ref a3, .ref aB, .int (o_X8_number_v v tx 1 6 13), .int (o_X8_number_v v tx 1 6 14)])), (aW, .inl (E.2.1.1, 12, .inl mw)), (aL, .inl (E.2.1.1, 156, .inl sl)), (aT, .inl (E.2.1.2, 200, .inl tx))]) rfl (fun H locs hG => ?_)
              refine lv_goto (tgt := 165) hx hb dX8_item_157 (by decide) ?_
              rw [hQ]
              exact z_vret C hr hlk hG dX8_item_165 rfl (by rw [o_X8_item_v, if_neg c_1, if_neg c_2, if_neg c_3, if_neg c_4, if_neg c_5, if_pos c_6, mkG15_0, mkG15_1, mkG15_2, mkG15_3, mkG15_4, mkG15_5, mkG15_6, mkG15_7, mkG15_8, mkG15_9, mkG15_10, mkG15_11, mkG15_12, mkG15_13, mkG15_14, o_X8_item_1, if_neg c_1, if_neg c_2, if_neg c_3, o_X8_item_2, if_neg c_1, if_neg c_2, if_neg c_3, if_neg c_4])
          · skip
            refine lv_aload_n hx hb dX8_item_106 rfl (lv_at hl 0 rfl) ?_
            refine lv_iconst (v := 0) hx hb dX8_item_107 (by decide) ?_
            refine lv_bipush (v := 11) hx hb dX8_item_108 (by decide) ?_
            refine call_X8_71 C dX8_item_110 (c_X8_number l E v tx 0 11 m aS aW aL aT a1 a2 a3 aB (mB_le (by decide) hA) hlen) hl hG 0 rfl [0, 3] (by decide) rfl (ads := [m, aT]) rfl rfl (ws' := [(m, .inr (8, [.int (o_X8_number_v v tx 0 11 0), .int (o_X8_number_v v tx 0 11 1), .ref aS, .int (o_X8_number_v v tx 0 11 2), .int (o_X8_number_v v tx 0 11 3), .int (o_X8_number_v v tx 0 11 4), .ref aW, .int (o_X8_number_v v tx 0 11 5), .ref aL, .int (o_X8_number_v v tx 0 11 6), .int (o_X8_number_v v tx 0 11 7), .int (o_X8_number_v v tx 0 11 8), .ref aT, .int (o_X8_number_v v tx 0 11 9), .int (o_X8_number_v v tx 0 11 10), .int (o_X8_number_v v tx 0 11 11), .int (o_X8_number_v v tx 0 11 12), .ref a1, .ref a2, .ref a3, .ref aB, .int (o_X8_number_v v tx 0 11 13), .int (o_X8_number_v v tx 0 11 14)])), (aW, .inl (E.2.1.1, 12, .inl mw)), (aL, .inl (E.2.1.1, 156, .inl sl)), (aT, .inl (E.2.1.2, 200, .inl tx))]) rfl rfl (rest := []) rfl (Nat.le_of_ble_eq_true rfl) ⟨Nat.le_of_ble_eq_true rfl, Nat.le_of_ble_eq_true rfl⟩ (fun H locs hG => ?_)
            refine lv_istore_n (lv' := [(2, .int (o_X8_number_r v tx 0 11)), (0, .ref m), (1, .int ch)]) hx hb dX8_item_113 rfl hl (by decide) rfl (fun ls hl => ?_)
            refine lv_aload_n hx hb dX8_item_114 rfl (lv_at hl 1 rfl) ?_
            refine lv_dup hx hb dX8_item_115 rfl ?_
            refine gf_X8_84 C dX8_item_116 hG 0 rfl rfl ?_
            refine lv_aload_n hx hb dX8_item_119 rfl (lv_at hl 1 rfl) ?_
            refine gf_X8_67 C dX8_item_120 hG 0 rfl rfl ?_
            have k_0 : ∀ (y0_0 : Int32) (H : Heap) (locs : List Loc) (ls : Array Slot), (j_X8_item_0_0 v mw sl tx ch) = y0_0 → zG E zA zs.heap [(m, .inr (8, [.int (o_X8_number_v v tx 0 11 0), .int (o_X8_number_v v tx 0 11 1), .ref aS, .int (o_X8_number_v v tx 0 11 2), .int (o_X8_number_v v tx 0 11 3), .int (o_X8_number_v v tx 0 11 4), .ref aW, .int (o_X8_number_v v tx 0 11 5), .ref aL, .int (o_X8_number_v v tx 0 11 6), .int (o_X8_number_v v tx 0 11 7), .int (o_X8_number_v v tx 0 11 8), .ref aT, .int (o_X8_number_v v tx 0 11 9), .int (o_X8_number_v v tx 0 11 10), .int (o_X8_number_v v tx 0 11 11), .int (o_X8_number_v v tx 0 11 12), .ref a1, .ref a2, .ref a3, .ref aB, .int (o_X8_number_v v tx 0 11 13), .int (o_X8_number_v v tx 0 11 14)])), (aW, .inl (E.2.1.1, 12, .inl mw)), (aL, .inl (E.2.1.1, 156, .inl sl)), (aT, .inl (E.2.1.2, 200, .inl tx))] H locs → lv_has ls 4 [(2, .int (o_X8_number_r v tx 0 11)), (0, .ref m), (1, .int ch)] → W zp l ze (zR 4 95) zs zm za zb zt zc H locs 0 0 zq (F0 zm 133 ls [.int y0_0, .int (o_X8_number_v v tx 0 11 5), .ref m]) := by
              intro y0_0 H locs ls e_y0_0 hG hl
              subst e_y0_0
              refine lv_ior hx hb dX8_item_133 ?_
              refine pf_X8_84 C dX8_item_134 hG 0 rfl (Nat.le_of_ble_eq_true rfl) (ws' := [(m, .inr (8, [.int (o_X8_number_v v tx 0 11 0), .int (o_X8_number_v v tx 0 11 1), .ref aS, .int (o_X8_number_v v tx 0 11 2), .int (o_X8_number_v v tx 0 11 3), .int (o_X8_number_v v tx 0 11 4), .ref aW, .int ((o_X8_number_v v tx 0 11 5) ||| (j_X8_item_0_0 v mw sl tx ch)), .ref aL, .int (o_X8_number_v v tx 0 11 6), .int (o_X8_number_v v tx 0 11 7), .int (o_X8_number_v v tx 0 11 8), .ref aT, .int (o_X8_number_v v tx 0 11 9), .int (o_X8_number_v v tx 0 11 10), .int (o_X8_number_v v tx 0 11 11), .int (o_X8_number_v v tx 0 11 12), .ref a1, .ref a2, .ref a3, .ref aB, .int (o_X8_number_v v tx 0 11 13), .int (o_X8_number_v v tx 0 11 14)])), (aW, .inl (E.2.1.1, 12, .inl mw)), (aL, .inl (E.2.1.1, 156, .inl sl)), (aT, .inl (E.2.1.2, 200, .inl tx))]) rfl (fun H locs hG => ?_)
              refine lv_goto (tgt := 165) hx hb dX8_item_137 (by decide) ?_
              rw [hQ]
              exact z_vret C hr hlk hG dX8_item_165 rfl (by rw [o_X8_item_v, if_neg c_1, if_neg c_2, if_neg c_3, if_neg c_4, if_pos c_5, mkG15_0, mkG15_1, mkG15_2, mkG15_3, mkG15_4, mkG15_5, mkG15_6, mkG15_7, mkG15_8, mkG15_9, mkG15_10, mkG15_11, mkG15_12, mkG15_13, mkG15_14, o_X8_item_1, if_neg c_1, if_neg c_2, if_neg c_3, o_X8_item_2, if_neg c_1, if_neg c_2, if_neg c_3, if_neg c_4])
            refine lv_if_eq (tgt := 130) hx hb dX8_item_123 (by decide) (fun c_7 => ?_) (fun c_7 => ?_)
            · skip
              refine lv_iconst (v := 1) hx hb dX8_item_130 (by decide) ?_
              refine lv_iload_n hx hb dX8_item_131 rfl (lv_at hl 0 rfl) ?_
              refine lv_ishl hx hb dX8_item_132 ?_
              exact k_0 (1 <<< ((o_X8_number_r v tx 0 11) &&& 31)) _ _ _ (by rw [j_X8_item_0_0, if_pos c_7]) hG (lv_sub hl [0, 1, 2] rfl)
            · skip
              refine lv_iconst (v := 0) hx hb dX8_item_126 (by decide) ?_
              refine lv_goto (tgt := 133) hx hb dX8_item_127 (by decide) ?_
              exact k_0 0 _ _ _ (by rw [j_X8_item_0_0, if_neg c_7]) hG (lv_sub hl [0, 1, 2] rfl)
        · skip
          refine lv_aload_n hx hb dX8_item_82 rfl (lv_at hl 0 rfl) ?_
          refine gf_X8_16 C dX8_item_83 hG 0 rfl rfl ?_
          refine lv_sipush (v := 153) hx hb dX8_item_86 (by decide) ?_
          refine lv_aload_n hx hb dX8_item_89 rfl (lv_at hl 0 rfl) ?_
          refine lv_iconst (v := 0) hx hb dX8_item_90 (by decide) ?_
          refine lv_bipush (v := 99) hx hb dX8_item_91 (by decide) ?_
          refine call_X8_71 C dX8_item_93 (c_X8_number l E v tx 0 99 m aS aW aL aT a1 a2 a3 aB (mB_le (by decide) hA) hlen) hl hG 0 rfl [0, 3] (by decide) rfl (ads := [m, aT]) rfl rfl (ws' := [(m, .inr (8, [.int (o_X8_number_v v tx 0 99 0), .int (o_X8_number_v v tx 0 99 1), .ref aS, .int (o_X8_number_v v tx 0 99 2), .int (o_X8_number_v v tx 0 99 3), .int (o_X8_number_v v tx 0 99 4), .ref aW, .int (o_X8_number_v v tx 0 99 5), .ref aL, .int (o_X8_number_v v tx 0 99 6), .int (o_X8_number_v v tx 0 99 7), .int (o_X8_number_v v tx 0 99 8), .ref aT, .int (o_X8_number_v v tx 0 99 9), .int (o_X8_number_v v tx 0 99 10), .int (o_X8_number_v v tx 0 99 11), .int (o_X8_number_v v tx 0 99 12), .ref a1, .ref a2, .ref a3, .ref aB, .int (o_X8_number_v v tx 0 99 13), .int (o_X8_number_v v tx 0 99 14)])), (aW, .inl (E.2.1.1, 12, .inl mw)), (aL, .inl (E.2.1.1, 156, .inl sl)), (aT, .inl (E.2.1.2, 200, .inl tx))]) rfl rfl (rest := [.int 153, .ref aL]) rfl (Nat.le_of_ble_eq_true rfl) ⟨Nat.le_of_ble_eq_true rfl, Nat.le_of_ble_eq_true rfl⟩ (fun H locs hG => ?_)
          refine z_ist C dX8_item_96 hG 2 rfl 153 (by decide) (Nat.le_of_ble_eq_true rfl) (Nat.le_of_ble_eq_true rfl) (ws' := [(m, .inr (8, [.int (o_X8_number_v v tx 0 99 0), .int (o_X8_number_v v tx 0 99 1), .ref aS, .int (o_X8_number_v v tx 0 99 2), .int (o_X8_number_v v tx 0 99 3), .int (o_X8_number_v v tx 0 99 4), .ref aW, .int (o_X8_number_v v tx 0 99 5), .ref aL, .int (o_X8_number_v v tx 0 99 6), .int (o_X8_number_v v tx 0 99 7), .int (o_X8_number_v v tx 0 99 8), .ref aT, .int (o_X8_number_v v tx 0 99 9), .int (o_X8_number_v v tx 0 99 10), .int (o_X8_number_v v tx 0 99 11), .int (o_X8_number_v v tx 0 99 12), .ref a1, .ref a2, .ref a3, .ref aB, .int (o_X8_number_v v tx 0 99 13), .int (o_X8_number_v v tx 0 99 14)])), (aW, .inl (E.2.1.1, 12, .inl mw)), (aL, .inl (E.2.1.1, 156, .inl (upd sl 153 (o_X8_number_r v tx 0 99)))), (aT, .inl (E.2.1.2, 200, .inl tx))]) rfl (fun H locs hG => ?_)
          refine lv_goto (tgt := 165) hx hb dX8_item_97 (by decide) ?_
          rw [hQ]
          exact z_vret C hr hlk hG dX8_item_165 rfl (by rw [o_X8_item_v, if_neg c_1, if_neg c_2, if_neg c_3, if_pos c_4, o_X8_item_1, if_neg c_1, if_neg c_2, if_neg c_3, o_X8_item_2, if_neg c_1, if_neg c_2, if_neg c_3, if_pos c_4])
      · skip
        refine lv_aload_n hx hb dX8_item_39 rfl (lv_at hl 0 rfl) ?_
        refine lv_iconst (v := 0) hx hb dX8_item_40 (by decide) ?_
        refine lv_bipush (v := 11) hx hb dX8_item_41 (by decide) ?_
        refine call_X8_71 C dX8_item_43 (c_X8_number l E v tx 0 11 m aS aW aL aT a1 a2 a3 aB (mB_le (by decide) hA) hlen) hl hG 0 rfl [0, 3] (by decide) rfl (ads := [m, aT]) rfl rfl (ws' := [(m, .inr (8, [.int (o_X8_number_v v tx 0 11 0), .int (o_X8_number_v v tx 0 11 1), .ref aS, .int (o_X8_number_v v tx 0 11 2), .int (o_X8_number_v v tx 0 11 3), .int (o_X8_number_v v tx 0 11 4), .ref aW, .int (o_X8_number_v v tx 0 11 5), .ref aL, .int (o_X8_number_v v tx 0 11 6), .int (o_X8_number_v v tx 0 11 7), .int (o_X8_number_v v tx 0 11 8), .ref aT, .int (o_X8_number_v v tx 0 11 9), .int (o_X8_number_v v tx 0 11 10), .int (o_X8_number_v v tx 0 11 11), .int (o_X8_number_v v tx 0 11 12), .ref a1, .ref a2, .ref a3, .ref aB, .int (o_X8_number_v v tx 0 11 13), .int (o_X8_number_v v tx 0 11 14)])), (aW, .inl (E.2.1.1, 12, .inl mw)), (aL, .inl (E.2.1.1, 156, .inl sl)), (aT, .inl (E.2.1.2, 200, .inl tx))]) rfl rfl (rest := []) rfl (Nat.le_of_ble_eq_true rfl) ⟨Nat.le_of_ble_eq_true rfl, Nat.le_of_ble_eq_true rfl⟩ (fun H locs hG => ?_)
        refine lv_istore_n (lv' := [(2, .int (o_X8_number_r v tx 0 11)), (0, .ref m), (1, .int ch)]) hx hb dX8_item_46 rfl hl (by decide) rfl (fun ls hl => ?_)
        refine lv_aload_n hx hb dX8_item_47 rfl (lv_at hl 1 rfl) ?_
        refine lv_iconst (v := 1) hx hb dX8_item_48 (by decide) ?_
        refine lv_bipush (v := 9) hx hb dX8_item_49 (by decide) ?_
        refine call_X8_75 C dX8_item_51 (c_X8_more l E (o_X8_number_v v tx 0 11) tx 1 9 m aS aW aL aT a1 a2 a3 aB (mB_le (by decide) (num_at (B := 1000) (by decide) _ _ _ _ hA)) (show (o_X8_number_v _ _ _ _ 8).toInt ≤ 200 from (by rw [num_len]; exact hlen))) hl hG 0 rfl [0, 3] (by decide) rfl (ads := [m, aT]) rfl rfl (ws' := [(m, .inr (8, [.int (o_X8_more_v (o_X8_number_v v tx 0 11) tx 1 9 0), .int (o_X8_more_v (o_X8_number_v v tx 0 11) tx 1 9 1), .ref aS, .int (o_X8_more_v (o_X8_number_v v tx 0 11) tx 1 9 2), .int (o_X8_more_v (o_X8_number_v v tx 0 11) tx 1 9 3), .int (o_X8_more_v (o_X8_number_v v tx 0 11) tx 1 9 4), .ref aW, .int (o_X8_more_v (o_X8_number_v v tx 0 11) tx 1 9 5), .ref aL, .int (o_X8_more_v (o_X8_number_v v tx 0 11) tx 1 9 6), .int (o_X8_more_v (o_X8_number_v v tx 0 11) tx 1 9 7), .int (o_X8_more_v (o_X8_number_v v tx 0 11) tx 1 9 8), .ref aT, .int (o_X8_more_v (o_X8_number_v v tx 0 11) tx 1 9 9), .int (o_X8_more_v (o_X8_number_v v tx 0 11) tx 1 9 10), .int (o_X8_more_v (o_X8_number_v v tx 0 11) tx 1 9 11), .int (o_X8_more_v (o_X8_number_v v tx 0 11) tx 1 9 12), .ref a1, .ref a2, .ref a3, .ref aB, .int (o_X8_more_v (o_X8_number_v v tx 0 11) tx 1 9 13), .int (o_X8_more_v (o_X8_number_v v tx 0 11) tx 1 9 14)])), (aW, .inl (E.2.1.1, 12, .inl mw)), (aL, .inl (E.2.1.1, 156, .inl sl)), (aT, .inl (E.2.1.2, 200, .inl tx))]) rfl rfl (rest := []) rfl (Nat.le_of_ble_eq_true rfl) ⟨Nat.le_of_ble_eq_true rfl, Nat.le_of_ble_eq_true rfl⟩ (fun H locs hG => ?_)
        refine lv_istore_n (lv' := [(3, .int (o_X8_more_r (o_X8_number_v v tx 0 11) tx 1 9)), (2, .int (o_X8_number_r v tx 0 11)), (0, .ref m), (1, .int ch)]) hx hb dX8_item_54 rfl hl (by decide) rfl (fun ls hl => ?_)
        refine lv_aload_n hx hb dX8_item_55 rfl (lv_at hl 2 rfl) ?_
        refine gf_X8_13 C dX8_item_56 hG 0 rfl rfl ?_
        refine lv_iload_n hx hb dX8_item_59 rfl (lv_at hl 1 rfl) ?_
        refine lv_aload_n hx hb dX8_item_60 rfl (lv_at hl 2 rfl) ?_
        refine gf_X8_67 C dX8_item_61 hG 0 rfl rfl ?_
        have k_1 : ∀ (y1_0 : Int32) (H : Heap) (locs : List Loc) (ls : Array Slot), (j_X8_item_1_0 v mw sl tx ch) = y1_0 → zG E zA zs.heap [(m, .inr (8, [.int (o_X8_more_v (o_X8_number_v v tx 0 11) tx 1 9 0), .int (o_X8_more_v (o_X8_number_v v tx 0 11) tx 1 9 1), .ref aS, .int (o_X8_more_v (o_X8_number_v v tx 0 11) tx 1 9 2), .int (o_X8_more_v (o_X8_number_v v tx 0 11) tx 1 9 3), .int (o_X8_more_v (o_X8_number_v v tx 0 11) tx 1 9 4), .ref aW, .int (o_X8_more_v (o_X8_number_v v tx 0 11) tx 1 9 5), .ref aL, .int (o_X8_more_v (o_X8_number_v v tx 0 11) tx 1 9 6), .int (o_X8_more_v (o_X8_number_v v tx 0 11) tx 1 9 7), .int (o_X8_more_v (o_X8_number_v v tx 0 11) tx 1 9 8), .ref aT, .int (o_X8_more_v (o_X8_number_v v tx 0 11) tx 1 9 9), .int (o_X8_more_v (o_X8_number_v v tx 0 11) tx 1 9 10), .int (o_X8_more_v (o_X8_number_v v tx 0 11) tx 1 9 11), .int (o_X8_more_v (o_X8_number_v v tx 0 11) tx 1 9 12), .ref a1, .ref a2, .ref a3, .ref aB, .int (o_X8_more_v (o_X8_number_v v tx 0 11) tx 1 9 13), .int (o_X8_more_v (o_X8_number_v v tx 0 11) tx 1 9 14)])), (aW, .inl (E.2.1.1, 12, .inl mw)), (aL, .inl (E.2.1.1, 156, .inl sl)), (aT, .inl (E.2.1.2, 200, .inl tx))] H locs → lv_has ls 4 [(3, .int (o_X8_more_r (o_X8_number_v v tx 0 11) tx 1 9)), (2, .int (o_X8_number_r v tx 0 11)), (0, .ref m), (1, .int ch)] → W zp l ze (zR 4 95) zs zm za zb zt zc H locs 0 0 zq (F0 zm 72 ls [.int y1_0, .int (o_X8_number_r v tx 0 11), .ref aW]) := by
          intro y1_0 H locs ls e_y1_0 hG hl
          subst e_y1_0
          refine z_iast C dX8_item_72 hG 1 rfl (z_six (num_ri v tx 11 (c := 11) (by decide))) (ws' := [(m, .inr (8, [.int (o_X8_more_v (o_X8_number_v v tx 0 11) tx 1 9 0), .int (o_X8_more_v (o_X8_number_v v tx 0 11) tx 1 9 1), .ref aS, .int (o_X8_more_v (o_X8_number_v v tx 0 11) tx 1 9 2), .int (o_X8_more_v (o_X8_number_v v tx 0 11) tx 1 9 3), .int (o_X8_more_v (o_X8_number_v v tx 0 11) tx 1 9 4), .ref aW, .int (o_X8_more_v (o_X8_number_v v tx 0 11) tx 1 9 5), .ref aL, .int (o_X8_more_v (o_X8_number_v v tx 0 11) tx 1 9 6), .int (o_X8_more_v (o_X8_number_v v tx 0 11) tx 1 9 7), .int (o_X8_more_v (o_X8_number_v v tx 0 11) tx 1 9 8), .ref aT, .int (o_X8_more_v (o_X8_number_v v tx 0 11) tx 1 9 9), .int (o_X8_more_v (o_X8_number_v v tx 0 11) tx 1 9 10), .int (o_X8_more_v (o_X8_number_v v tx 0 11) tx 1 9 11), .int (o_X8_more_v (o_X8_number_v v tx 0 11) tx 1 9 12), .ref a1, .ref a2, .ref a3, .ref aB, .int (o_X8_more_v (o_X8_number_v v tx 0 11) tx 1 9 13), .int (o_X8_more_v (o_X8_number_v v tx 0 11) tx 1 9 14)])), (aW, .inl (E.2.1.1, 12, .inl (upd mw ((o_X8_number_r v tx 0 11).toNatClampNeg) (j_X8_item_1_0 v mw sl tx ch)))), (aL, .inl (E.2.1.1, 156, .inl sl)), (aT, .inl (E.2.1.2, 200, .inl tx))]) rfl (fun H locs hG => ?_)
          refine lv_goto (tgt := 165) hx hb dX8_item_73 (by decide) ?_
          rw [hQ]
          exact z_vret C hr hlk hG dX8_item_165 rfl (by rw [o_X8_item_v, if_neg c_1, if_neg c_2, if_pos c_3, o_X8_item_1, if_neg c_1, if_neg c_2, if_pos c_3, o_X8_item_2, if_neg c_1, if_neg c_2, if_pos c_3])
        refine lv_if_eq (tgt := 71) hx hb dX8_item_64 (by decide) (fun c_8 => ?_) (fun c_8 => ?_)
        · skip
          refine lv_iload_n hx hb dX8_item_71 rfl (lv_at hl 0 rfl) ?_
          exact k_1 (o_X8_more_r (o_X8_number_v v tx 0 11) tx 1 9) _ _ _ (by rw [j_X8_item_1_0, if_pos c_8]) hG (lv_sub hl [0, 1, 2, 3] rfl)
        · skip
          refine lv_iconst (v := 5) hx hb dX8_item_67 (by decide) ?_
          refine lv_goto (tgt := 72) hx hb dX8_item_68 (by decide) ?_
          exact k_1 5 _ _ _ (by rw [j_X8_item_1_0, if_neg c_8]) hG (lv_sub hl [0, 1, 2, 3] rfl)
    · skip
      refine lv_aload_n hx hb dX8_item_26 rfl (lv_at hl 0 rfl) ?_
      refine call_X8_81 C dX8_item_27 (c_X8_hedgeItem l E v sl tx m aS aW aL aT a1 a2 a3 aB (mB_le (by decide) hA) hlen) hl hG 0 rfl [0, 2, 3] (by decide) rfl (ads := [m, aL, aT]) rfl rfl (ws' := [(m, .inr (8, [.int (o_X8_hedgeItem_v v sl tx 0), .int (o_X8_hedgeItem_v v sl tx 1), .ref aS, .int (o_X8_hedgeItem_v v sl tx 2), .int (o_X8_hedgeItem_v v sl tx 3), .int (o_X8_hedgeItem_v v sl tx 4), .ref aW, .int (o_X8_hedgeItem_v v sl tx 5), .ref aL, .int (o_X8_hedgeItem_v v sl tx 6), .int (o_X8_hedgeItem_v v sl tx 7), .int (o_X8_hedgeItem_v v sl tx 8), .ref aT, .int (o_X8_hedgeItem_v v sl tx 9), .int (o_X8_hedgeItem_v v sl tx 10), .int (o_X8_hedgeItem_v v sl tx 11), .int (o_X8_hedgeItem_v v sl tx 12), .ref a1, .ref a2, .ref a3, .ref aB, .int (o_X8_hedgeItem_v v sl tx 13), .int (o_X8_hedgeItem_v v sl tx 14)])), (aW, .inl (E.2.1.1, 12, .inl mw)), (aL, .inl (E.2.1.1, 156, .inl (o_X8_hedgeItem_1 v sl tx))), (aT, .inl (E.2.1.2, 200, .inl tx))]) rfl rfl (rest := []) rfl (Nat.le_of_ble_eq_true rfl) ⟨Nat.le_of_ble_eq_true rfl, Nat.le_of_ble_eq_true rfl⟩ (fun H locs hG => ?_)
      refine lv_goto (tgt := 165) hx hb dX8_item_30 (by decide) ?_
      rw [hQ]
      exact z_vret C hr hlk hG dX8_item_165 rfl (by rw [o_X8_item_v, if_neg c_1, if_pos c_2, o_X8_item_1, if_neg c_1, if_pos c_2, o_X8_item_2, if_neg c_1, if_pos c_2])
  · skip
    refine lv_aload_n hx hb dX8_item_6 rfl (lv_at hl 0 rfl) ?_
    refine lv_aload_n hx hb dX8_item_7 rfl (lv_at hl 0 rfl) ?_
    refine lv_iconst (v := 1) hx hb dX8_item_8 (by decide) ?_
    refine lv_bipush (v := 40) hx hb dX8_item_9 (by decide) ?_
    refine call_X8_71 C dX8_item_11 (c_X8_number l E v tx 1 40 m aS aW aL aT a1 a2 a3 aB (mB_le (by decide) hA) hlen) hl hG 0 rfl [0, 3] (by decide) rfl (ads := [m, aT]) rfl rfl (ws' := [(m, .inr (8, [.int (o_X8_number_v v tx 1 40 0), .int (o_X8_number_v v tx 1 40 1), .ref aS, .int (o_X8_number_v v tx 1 40 2), .int (o_X8_number_v v tx 1 40 3), .int (o_X8_number_v v tx 1 40 4), .ref aW, .int (o_X8_number_v v tx 1 40 5), .ref aL, .int (o_X8_number_v v tx 1 40 6), .int (o_X8_number_v v tx 1 40 7), .int (o_X8_number_v v tx 1 40 8), .ref aT, .int (o_X8_number_v v tx 1 40 9), .int (o_X8_number_v v tx 1 40 10), .int (o_X8_number_v v tx 1 40 11), .int (o_X8_number_v v tx 1 40 12), .ref a1, .ref a2, .ref a3, .ref aB, .int (o_X8_number_v v tx 1 40 13), .int (o_X8_number_v v tx 1 40 14)])), (aW, .inl (E.2.1.1, 12, .inl mw)), (aL, .inl (E.2.1.1, 156, .inl sl)), (aT, .inl (E.2.1.2, 200, .inl tx))]) rfl rfl (rest := [.ref m]) rfl (Nat.le_of_ble_eq_true rfl) ⟨Nat.le_of_ble_eq_true rfl, Nat.le_of_ble_eq_true rfl⟩ (fun H locs hG => ?_)
    refine pf_X8_78 C dX8_item_14 hG 0 rfl (Nat.le_of_ble_eq_true rfl) (ws' := [(m, .inr (8, [.int (o_X8_number_v v tx 1 40 0), .int (o_X8_number_v v tx 1 40 1), .ref aS, .int (o_X8_number_v v tx 1 40 2), .int (o_X8_number_r v tx 1 40), .int (o_X8_number_v v tx 1 40 4), .ref aW, .int (o_X8_number_v v tx 1 40 5), .ref aL, .int (o_X8_number_v v tx 1 40 6), .int (o_X8_number_v v tx 1 40 7), .int (o_X8_number_v v tx 1 40 8), .ref aT, .int (o_X8_number_v v tx 1 40 9), .int (o_X8_number_v v tx 1 40 10), .int (o_X8_number_v v tx 1 40 11), .int (o_X8_number_v v tx 1 40 12), .ref a1, .ref a2, .ref a3, .ref aB, .int (o_X8_number_v v tx 1 40 13), .int (o_X8_number_v v tx 1 40 14)])), (aW, .inl (E.2.1.1, 12, .inl mw)), (aL, .inl (E.2.1.1, 156, .inl sl)), (aT, .inl (E.2.1.2, 200, .inl tx))]) rfl (fun H locs hG => ?_)
    refine lv_goto (tgt := 165) hx hb dX8_item_17 (by decide) ?_
    rw [hQ]
    exact z_vret C hr hlk hG dX8_item_165 rfl (by rw [o_X8_item_v, if_pos c_1, mkG15_0, mkG15_1, mkG15_2, mkG15_3, mkG15_4, mkG15_5, mkG15_6, mkG15_7, mkG15_8, mkG15_9, mkG15_10, mkG15_11, mkG15_12, mkG15_13, mkG15_14, o_X8_item_1, if_pos c_1, o_X8_item_2, if_pos c_1])
