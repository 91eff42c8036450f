theorem z_who {x : Int32} (h : x = 0 ∨ x = 1) : vp_in (145 + x) 156 := by
  rcases h with rfl | rfl
  · exact vp_in_nI (n := 145) (by decide) (by decide)
  · exact vp_in_nI (n := 146) (by decide) (by decide)
def j_X8_kind_1_0 (v : Nat → Int32) (ms : Nat → Int32) (sl : Nat → Int32) (p : Int32) (n : Int32) (what : Int32) (k0 : Nat) (u0_0 : Int32) (u0_1 : Nat → Int32) (u0_2 : Nat → Int32) : Int32 := (if (0 : Int32) ≤ (o_X8_idles_r u0_1 ms (upd (cp13 u0_2 0 143) 143 (nI k0)) n n.toNatClampNeg) then ((o_X8_idles_2 u0_1 ms (upd (cp13 u0_2 0 143) 143 (nI k0)) n n.toNatClampNeg) 145) else 0)
def j_X8_kind_2_0 (v : Nat → Int32) (ms : Nat → Int32) (sl : Nat → Int32) (p : Int32) (n : Int32) (what : Int32) (k0 : Nat) (u0_0 : Int32) (u0_1 : Nat → Int32) (u0_2 : Nat → Int32) : Int32 := (if (j_X8_kind_1_0 v ms sl 0 n what k0 u0_0 u0_1 u0_2) ≤ u0_0 then (u0_1 14) else (nI k0))
def L_X8_kind_0 (v : Nat → Int32) (ms : Nat → Int32) (sl : Nat → Int32) (p : Int32) (n : Int32) (what : Int32) : Nat → Int32 × (Nat → Int32) × (Nat → Int32)
  | 0 => ((-1), (mkG15 (v 0) (v 1) (v 2) (v 3) (v 4) (v 5) (v 6) (v 7) (v 8) (v 9) (v 10) (v 11) (v 12) (v 13) 0), sl)
  | (k0 + 1) => ((o_X8_larger_r ((L_X8_kind_0 v ms sl p n what k0).1) (j_X8_kind_1_0 v ms sl 0 n what k0 ((L_X8_kind_0 v ms sl p n what k0).1) ((L_X8_kind_0 v ms sl p n what k0).2.1) ((L_X8_kind_0 v ms sl p n what k0).2.2))), (mkG15 (((L_X8_kind_0 v ms sl p n what k0).2.1) 0) (((L_X8_kind_0 v ms sl p n what k0).2.1) 1) (((L_X8_kind_0 v ms sl p n what k0).2.1) 2) (((L_X8_kind_0 v ms sl p n what k0).2.1) 3) (((L_X8_kind_0 v ms sl p n what k0).2.1) 4) (((L_X8_kind_0 v ms sl p n what k0).2.1) 5) (((L_X8_kind_0 v ms sl p n what k0).2.1) 6) (((L_X8_kind_0 v ms sl p n what k0).2.1) 7) (((L_X8_kind_0 v ms sl p n what k0).2.1) 8) (((L_X8_kind_0 v ms sl p n what k0).2.1) 9) (((L_X8_kind_0 v ms sl p n what k0).2.1) 10) (((L_X8_kind_0 v ms sl p n what k0).2.1) 11) (((L_X8_kind_0 v ms sl p n what k0).2.1) 12) (((L_X8_kind_0 v ms sl p n what k0).2.1) 13) (j_X8_kind_2_0 v ms sl 0 n what k0 ((L_X8_kind_0 v ms sl p n what k0).1) ((L_X8_kind_0 v ms sl p n what k0).2.1) ((L_X8_kind_0 v ms sl p n what k0).2.2))), (o_X8_idles_2 ((L_X8_kind_0 v ms sl p n what k0).2.1) ms (upd (cp13 ((L_X8_kind_0 v ms sl p n what k0).2.2) 0 143) 143 (nI k0)) n n.toNatClampNeg))
def j_X8_kind_4_0 (v : Nat → Int32) (ms : Nat → Int32) (sl : Nat → Int32) (p : Int32) (n : Int32) (what : Int32) (k3 : Nat) (u3_0 : Int32) (u3_1 : Nat → Int32) (u3_2 : Nat → Int32) : Int32 := (if (0 : Int32) ≤ (o_X8_idles_r u3_1 ms (upd (cp13 u3_2 0 143) 144 (nI k3)) n n.toNatClampNeg) then ((o_X8_idles_2 u3_1 ms (upd (cp13 u3_2 0 143) 144 (nI k3)) n n.toNatClampNeg) 146) else 0)
def j_X8_kind_5_0 (v : Nat → Int32) (ms : Nat → Int32) (sl : Nat → Int32) (p : Int32) (n : Int32) (what : Int32) (k3 : Nat) (u3_0 : Int32) (u3_1 : Nat → Int32) (u3_2 : Nat → Int32) : Int32 := (if (j_X8_kind_4_0 v ms sl 1 n what k3 u3_0 u3_1 u3_2) ≤ u3_0 then (u3_1 14) else (nI k3))
def L_X8_kind_3 (v : Nat → Int32) (ms : Nat → Int32) (sl : Nat → Int32) (p : Int32) (n : Int32) (what : Int32) : Nat → Int32 × (Nat → Int32) × (Nat → Int32)
  | 0 => ((-1), (mkG15 (v 0) (v 1) (v 2) (v 3) (v 4) (v 5) (v 6) (v 7) (v 8) (v 9) (v 10) (v 11) (v 12) (v 13) 0), sl)
  | (k3 + 1) => ((o_X8_larger_r ((L_X8_kind_3 v ms sl p n what k3).1) (j_X8_kind_4_0 v ms sl 1 n what k3 ((L_X8_kind_3 v ms sl p n what k3).1) ((L_X8_kind_3 v ms sl p n what k3).2.1) ((L_X8_kind_3 v ms sl p n what k3).2.2))), (mkG15 (((L_X8_kind_3 v ms sl p n what k3).2.1) 0) (((L_X8_kind_3 v ms sl p n what k3).2.1) 1) (((L_X8_kind_3 v ms sl p n what k3).2.1) 2) (((L_X8_kind_3 v ms sl p n what k3).2.1) 3) (((L_X8_kind_3 v ms sl p n what k3).2.1) 4) (((L_X8_kind_3 v ms sl p n what k3).2.1) 5) (((L_X8_kind_3 v ms sl p n what k3).2.1) 6) (((L_X8_kind_3 v ms sl p n what k3).2.1) 7) (((L_X8_kind_3 v ms sl p n what k3).2.1) 8) (((L_X8_kind_3 v ms sl p n what k3).2.1) 9) (((L_X8_kind_3 v ms sl p n what k3).2.1) 10) (((L_X8_kind_3 v ms sl p n what k3).2.1) 11) (((L_X8_kind_3 v ms sl p n what k3).2.1) 12) (((L_X8_kind_3 v ms sl p n what k3).2.1) 13) (j_X8_kind_5_0 v ms sl 1 n what k3 ((L_X8_kind_3 v ms sl p n what k3).1) ((L_X8_kind_3 v ms sl p n what k3).2.1) ((L_X8_kind_3 v ms sl p n what k3).2.2))), (o_X8_idles_2 ((L_X8_kind_3 v ms sl p n what k3).2.1) ms (upd (cp13 ((L_X8_kind_3 v ms sl p n what k3).2.2) 0 143) 144 (nI k3)) n n.toNatClampNeg))
def o_X8_kind_r (v : Nat → Int32) (ms : Nat → Int32) (sl : Nat → Int32) (p : Int32) (n : Int32) (what : Int32) : Int32 := (if (o_X8_isOne_r p) = 0 then (-1) else (if (o_X8_in_r n.toInt64 1 24) = 0 then (-1) else (if (o_X8_in_r what.toInt64 0 1) = 0 then (-1) else (if p = 0 then (if (o_X8_isOver_r v sl) = 0 then (if what = 0 then (((L_X8_kind_0 v ms sl 0 n what 5).2.1) 14) else ((L_X8_kind_0 v ms sl 0 n what 5).1)) else (-2)) else (if (o_X8_isOver_r v sl) = 0 then (if what = 0 then (((L_X8_kind_3 v ms sl 1 n what 5).2.1) 14) else ((L_X8_kind_3 v ms sl 1 n what 5).1)) else (-2))))))
def o_X8_kind_v (v : Nat → Int32) (ms : Nat → Int32) (sl : Nat → Int32) (p : Int32) (n : Int32) (what : Int32) : Nat → Int32 := (if (o_X8_isOne_r p) = 0 then v else (if (o_X8_in_r n.toInt64 1 24) = 0 then v else (if (o_X8_in_r what.toInt64 0 1) = 0 then v else (if p = 0 then (if (o_X8_isOver_r v sl) = 0 then ((L_X8_kind_0 v ms sl 0 n what 5).2.1) else v) else (if (o_X8_isOver_r v sl) = 0 then ((L_X8_kind_3 v ms sl 1 n what 5).2.1) else v)))))
def o_X8_kind_2 (v : Nat → Int32) (ms : Nat → Int32) (sl : Nat → Int32) (p : Int32) (n : Int32) (what : Int32) : Nat → Int32 := (if (o_X8_isOne_r p) = 0 then sl else (if (o_X8_in_r n.toInt64 1 24) = 0 then sl else (if (o_X8_in_r what.toInt64 0 1) = 0 then sl else (if p = 0 then (if (o_X8_isOver_r v sl) = 0 then ((L_X8_kind_0 v ms sl 0 n what 5).2.2) else sl) else (if (o_X8_isOver_r v sl) = 0 then ((L_X8_kind_3 v ms sl 1 n what 5).2.2) else sl)))))
theorem L_X8_kind_0_low (v ms sl : Nat → Int32) (p n what : Int32) : ∀ k, (L_X8_kind_0 v ms sl p n what k).2.2 11 = sl 11 := by
  intro k
  induction k with
  | zero => rfl
  | succ k ih =>
    rw [L_X8_kind_0]
    exact ((low_idles _ _ _ _ _ (by decide)).trans ((pk_un (by decide)).trans (low_cp _ (by decide)))).trans ih
theorem L_X8_kind_3_low (v ms sl : Nat → Int32) (p n what : Int32) : ∀ k, (L_X8_kind_3 v ms sl p n what k).2.2 11 = sl 11 := by
  intro k
  induction k with
  | zero => rfl
  | succ k ih =>
    rw [L_X8_kind_3]
    exact ((low_idles _ _ _ _ _ (by decide)).trans ((pk_un (by decide)).trans (low_cp _ (by decide)))).trans ih
set_option maxRecDepth 100000 in
set_option maxHeartbeats 4000000 in
theorem c_X8_kind (l : Launch) (E : zE) (v : Nat → Int32) (ms : Nat → Int32) (sl : Nat → Int32) (p : Int32) (n : Int32) (what : Int32) (m aS aW aL aT a1 a2 a3 aB : Nat) (hB : mB 1000000 (sl 11)) : HM l E yX8_kind cX8_kind 8 (some .int) 6 141 [.ref m, .int p, .int n, .int what] [(m, .inr (8, [.int (v 0), .int (v 1), .ref aS, .int (v 2), .int (v 3), .int (v 4), .ref aW, .int (v 5), .ref aL, .int (v 6), .int (v 7), .int (v 8), .ref aT, .int (v 9), .int (v 10), .int (v 11), .int (v 12), .ref a1, .ref a2, .ref a3, .ref aB, .int (v 13), .int (v 14)])), (aS, .inl (E.2.1.1, 12, .inl ms)), (aL, .inl (E.2.1.1, 156, .inl sl))] (some (.int (o_X8_kind_r v ms sl p n what))) [(m, .inr (8, [.int (o_X8_kind_v v ms sl p n what 0), .int (o_X8_kind_v v ms sl p n what 1), .ref aS, .int (o_X8_kind_v v ms sl p n what 2), .int (o_X8_kind_v v ms sl p n what 3), .int (o_X8_kind_v v ms sl p n what 4), .ref aW, .int (o_X8_kind_v v ms sl p n what 5), .ref aL, .int (o_X8_kind_v v ms sl p n what 6), .int (o_X8_kind_v v ms sl p n what 7), .int (o_X8_kind_v v ms sl p n what 8), .ref aT, .int (o_X8_kind_v v ms sl p n what 9), .int (o_X8_kind_v v ms sl p n what 10), .int (o_X8_kind_v v ms sl p n what 11), .int (o_X8_kind_v v ms sl p n what 12), .ref a1, .ref a2, .ref a3, .ref aB, .int (o_X8_kind_v v ms sl p n what 13), .int (o_X8_kind_v v ms sl p n what 14)])), (aS, .inl (E.2.1.1, 12, .inl ms)), (aL, .inl (E.2.1.1, 156, .inl (o_X8_kind_2 v ms sl p n what)))] := by
  refine HM.of (own := RX8) (plainFor_of_name (by decide)) rfl (Nat.le_of_ble_eq_true rfl) ?_
  intro zp ze zs zm za zb zt zc zA ls H locs zq C hr hlk hG hl hQ
  have hx := C.1.1
  have hb := C.1.2.1
  replace hl : lv_has ls 8 [(0, .ref m), (1, .int p), (2, .int n), (3, .int what)] := hl
  refine lv_iload_n hx hb dX8_kind_0 rfl (lv_at hl 1 rfl) ?_
  refine call_X8_121 C dX8_kind_1 (c_X8_isOne l E p) hl hG [] (by decide) rfl (ads := []) rfl rfl (ws' := [(m, .inr (8, [.int (v 0), .int (v 1), .ref aS, .int (v 2), .int (v 3), .int (v 4), .ref aW, .int (v 5), .ref aL, .int (v 6), .int (v 7), .int (v 8), .ref aT, .int (v 9), .int (v 10), .int (v 11), .int (v 12), .ref a1, .ref a2, .ref a3, .ref aB, .int (v 13), .int (v 14)])), (aS, .inl (E.2.1.1, 12, .inl ms)), (aL, .inl (E.2.1.1, 156, .inl sl))]) rfl rfl (rest := []) rfl (Nat.le_of_ble_eq_true rfl) ⟨Nat.le_of_ble_eq_true rfl, Nat.le_of_ble_eq_true rfl⟩ (fun H locs hG => ?_)
  refine lv_if_eq (tgt := 29) hx hb dX8_kind_4 (by decide) (fun c_1 => ?_) (fun c_1 => ?_)
  · skip
    refine lv_iconst (v := (-1)) hx hb dX8_kind_29 (by decide) ?_
    rw [hQ]
    exact z_iret C hr hlk hG dX8_kind_30 rfl (by rw [o_X8_kind_r, if_pos c_1]) (by rw [o_X8_kind_v, if_pos c_1, o_X8_kind_2, if_pos c_1])
  · skip
    refine lv_iload_n hx hb dX8_kind_7 rfl (lv_at hl 2 rfl) ?_
    refine lv_i2l (v := n.toInt64) hx hb dX8_kind_8 rfl ?_
    refine lv_lconst (v := 1) hx hb dX8_kind_9 (by decide) ?_
    refine lv_ldc2 (v := 24) hx hb C.1.2.2.2.1 (C.1.2.2.2.2 _ (inr22 _ (List.mem_of_getElem? (i := 5) rfl))) dX8_kind_10 ?_
    refine call_X8_49 C dX8_kind_13 (c_X8_in l E n.toInt64 1 24) hl hG [] (by decide) rfl (ads := []) rfl rfl (ws' := [(m, .inr (8, [.int (v 0), .int (v 1), .ref aS, .int (v 2), .int (v 3), .int (v 4), .ref aW, .int (v 5), .ref aL, .int (v 6), .int (v 7), .int (v 8), .ref aT, .int (v 9), .int (v 10), .int (v 11), .int (v 12), .ref a1, .ref a2, .ref a3, .ref aB, .int (v 13), .int (v 14)])), (aS, .inl (E.2.1.1, 12, .inl ms)), (aL, .inl (E.2.1.1, 156, .inl sl))]) rfl rfl (rest := []) rfl (Nat.le_of_ble_eq_true rfl) ⟨Nat.le_of_ble_eq_true rfl, Nat.le_of_ble_eq_true rfl⟩ (fun H locs hG => ?_)
    refine lv_if_eq (tgt := 29) hx hb dX8_kind_16 (by decide) (fun c_2 => ?_) (fun c_2 => ?_)
    · skip
      refine lv_iconst (v := (-1)) hx hb dX8_kind_29 (by decide) ?_
      rw [hQ]
      exact z_iret C hr hlk hG dX8_kind_30 rfl (by rw [o_X8_kind_r, if_neg c_1, if_pos c_2]) (by rw [o_X8_kind_v, if_neg c_1, if_pos c_2, o_X8_kind_2, if_neg c_1, if_pos c_2])
    · skip
      refine lv_iload_n hx hb dX8_kind_19 rfl (lv_at hl 3 rfl) ?_
      refine lv_i2l (v := what.toInt64) hx hb dX8_kind_20 rfl ?_
      refine lv_lconst (v := 0) hx hb dX8_kind_21 (by decide) ?_
      refine lv_lconst (v := 1) hx hb dX8_kind_22 (by decide) ?_
      refine call_X8_49 C dX8_kind_23 (c_X8_in l E what.toInt64 0 1) hl hG [] (by decide) rfl (ads := []) rfl rfl (ws' := [(m, .inr (8, [.int (v 0), .int (v 1), .ref aS, .int (v 2), .int (v 3), .int (v 4), .ref aW, .int (v 5), .ref aL, .int (v 6), .int (v 7), .int (v 8), .ref aT, .int (v 9), .int (v 10), .int (v 11), .int (v 12), .ref a1, .ref a2, .ref a3, .ref aB, .int (v 13), .int (v 14)])), (aS, .inl (E.2.1.1, 12, .inl ms)), (aL, .inl (E.2.1.1, 156, .inl sl))]) rfl rfl (rest := []) rfl (Nat.le_of_ble_eq_true rfl) ⟨Nat.le_of_ble_eq_true rfl, Nat.le_of_ble_eq_true rfl⟩ (fun H locs hG => ?_)
      refine lv_if_ne (tgt := 31) hx hb dX8_kind_26 (by decide) (fun c_3 => ?_) (fun c_3 => ?_)
      · skip
        rcases (z_one c_1) with rfl | rfl
        · skip
          refine lv_aload_n hx hb dX8_kind_31 rfl (lv_at hl 0 rfl) ?_
          refine call_X8_162 C dX8_kind_32 (c_X8_isOver l E v sl m aS aW aL aT a1 a2 a3 aB) hl hG 0 rfl [0, 2] (by decide) rfl (ads := [m, aL]) rfl rfl (ws' := [(m, .inr (8, [.int (v 0), .int (v 1), .ref aS, .int (v 2), .int (v 3), .int (v 4), .ref aW, .int (v 5), .ref aL, .int (v 6), .int (v 7), .int (v 8), .ref aT, .int (v 9), .int (v 10), .int (v 11), .int (v 12), .ref a1, .ref a2, .ref a3, .ref aB, .int (v 13), .int (v 14)])), (aS, .inl (E.2.1.1, 12, .inl ms)), (aL, .inl (E.2.1.1, 156, .inl sl))]) rfl rfl (rest := []) rfl (Nat.le_of_ble_eq_true rfl) ⟨Nat.le_of_ble_eq_true rfl, Nat.le_of_ble_eq_true rfl⟩ (fun H locs hG => ?_)
          refine lv_if_eq (tgt := 41) hx hb dX8_kind_35 (by decide) (fun c_4 => ?_) (fun c_4 => ?_)
          · skip
            refine lv_aload_n hx hb dX8_kind_41 rfl (lv_at hl 0 rfl) ?_
            refine lv_iconst (v := 0) hx hb dX8_kind_42 (by decide) ?_
            refine pf_X8_203 C dX8_kind_43 hG 0 rfl (Nat.le_of_ble_eq_true rfl) (ws' := [(m, .inr (8, [.int (v 0), .int (v 1), .ref aS, .int (v 2), .int (v 3), .int (v 4), .ref aW, .int (v 5), .ref aL, .int (v 6), .int (v 7), .int (v 8), .ref aT, .int (v 9), .int (v 10), .int (v 11), .int (v 12), .ref a1, .ref a2, .ref a3, .ref aB, .int (v 13), .int 0])), (aS, .inl (E.2.1.1, 12, .inl ms)), (aL, .inl (E.2.1.1, 156, .inl sl))]) rfl (fun H locs hG => ?_)
            refine lv_iconst (v := (-1)) hx hb dX8_kind_46 (by decide) ?_
            refine lv_istore (lv' := [(4, .int (-1)), (0, .ref m), (1, .int 0), (2, .int n), (3, .int what)]) hx hb dX8_kind_47 hl (by decide) rfl (fun ls hl => ?_)
            refine lv_iconst (v := 0) hx hb dX8_kind_49 (by decide) ?_
            refine lv_istore (lv' := [(5, .int 0), (4, .int (-1)), (0, .ref m), (1, .int 0), (2, .int n), (3, .int what)]) hx hb dX8_kind_50 hl (by decide) rfl (fun ls hl => ?_)
            have kl_0 : ∀ (j0 k0 : Nat), j0 + k0 = 5 → ∀ (u0_0 : Int32) (u0_1 : Nat → Int32) (u0_2 : Nat → Int32) (H : Heap) (locs : List Loc) (ls : Array Slot), ((L_X8_kind_0 v ms sl 0 n what k0).1) = u0_0 → ((L_X8_kind_0 v ms sl 0 n what k0).2.1) = u0_1 → ((L_X8_kind_0 v ms sl 0 n what k0).2.2) = u0_2 → zG E zA zs.heap [(m, .inr (8, [.int (u0_1 0), .int (u0_1 1), .ref aS, .int (u0_1 2), .int (u0_1 3), .int (u0_1 4), .ref aW, .int (u0_1 5), .ref aL, .int (u0_1 6), .int (u0_1 7), .int (u0_1 8), .ref aT, .int (u0_1 9), .int (u0_1 10), .int (u0_1 11), .int (u0_1 12), .ref a1, .ref a2, .ref a3, .ref aB, .int (u0_1 13), .int (u0_1 14)])), (aS, .inl (E.2.1.1, 12, .inl ms)), (aL, .inl (E.2.1.1, 156, .inl u0_2))] H locs → lv_has ls 8 [(5, .int (nI k0)), (4, .int u0_0), (0, .ref m), (1, .int 0), (2, .int n), (3, .int what)] → W zp l ze (zR 6 141) zs zm za zb zt zc H locs 0 0 zq (F0 zm 52 ls []) := by
              intro j0
              induction j0 with
              | zero =>
                intro k0 hk0 u0_0 u0_1 u0_2 H locs ls e_u0_0 e_u0_1 e_u0_2 hG hl
                subst e_u0_0
                subst e_u0_1
                subst e_u0_2
                obtain rfl : k0 = 5 := by omega
                refine lv_iload hx hb dX8_kind_52 (lv_at hl 0 rfl) ?_
                refine lv_iconst (v := 5) hx hb dX8_kind_54 (by decide) ?_
                refine lv_icmp_ge (tgt := 141) hx hb dX8_kind_55 (by decide) (fun c_11 => ?_) (fun c_11 => absurd (z_ge_yes (N := 5) rfl) c_11)
                refine lv_iload_n hx hb dX8_kind_141 rfl (lv_at hl 5 rfl) ?_
                refine lv_if_ne (tgt := 152) hx hb dX8_kind_142 (by decide) (fun c_12 => ?_) (fun c_12 => ?_)
                · skip
                  refine lv_iload hx hb dX8_kind_152 (lv_at hl 1 rfl) ?_
                  rw [hQ]
                  exact z_iret C hr hlk hG dX8_kind_154 rfl (by rw [o_X8_kind_r, if_neg c_1, if_neg c_2, if_neg c_3, if_pos rfl, if_pos c_4, if_neg c_12]) (by rw [o_X8_kind_v, if_neg c_1, if_neg c_2, if_neg c_3, if_pos rfl, if_pos c_4, o_X8_kind_2, if_neg c_1, if_neg c_2, if_neg c_3, if_pos rfl, if_pos c_4])
                · skip
                  refine lv_aload_n hx hb dX8_kind_145 rfl (lv_at hl 2 rfl) ?_
                  refine gf_X8_203 C dX8_kind_146 hG 0 rfl rfl ?_
                  refine lv_goto (tgt := 154) hx hb dX8_kind_149 (by decide) ?_
                  rw [hQ]
                  exact z_iret C hr hlk hG dX8_kind_154 rfl (by rw [o_X8_kind_r, if_neg c_1, if_neg c_2, if_neg c_3, if_pos rfl, if_pos c_4, if_pos c_12]) (by rw [o_X8_kind_v, if_neg c_1, if_neg c_2, if_neg c_3, if_pos rfl, if_pos c_4, o_X8_kind_2, if_neg c_1, if_neg c_2, if_neg c_3, if_pos rfl, if_pos c_4])
              | succ j0 ih0 =>
                intro k0 hk0 u0_0 u0_1 u0_2 H locs ls e_u0_0 e_u0_1 e_u0_2 hG hl
                subst e_u0_0
                subst e_u0_1
                subst e_u0_2
                have hlt : k0 < 5 := by omega
                refine lv_iload hx hb dX8_kind_52 (lv_at hl 0 rfl) ?_
                refine lv_iconst (v := 5) hx hb dX8_kind_54 (by decide) ?_
                refine lv_icmp_ge (tgt := 141) hx hb dX8_kind_55 (by decide) (fun c_13 => absurd c_13 (z_ge_no (N := 5) hlt (by decide) rfl)) (fun c_13 => ?_)
                refine lv_aload_n hx hb dX8_kind_58 rfl (lv_at hl 2 rfl) ?_
                refine lv_iconst (v := 0) hx hb dX8_kind_59 (by decide) ?_
                refine lv_sipush (v := 143) hx hb dX8_kind_60 (by decide) ?_
                refine call_X8_101 C dX8_kind_63 (c_X8_copies_t l E ((L_X8_kind_0 v ms sl 0 n what k0).2.1) ((L_X8_kind_0 v ms sl 0 n what k0).2.2) 0 143 m aS aW aL aT a1 a2 a3 aB (by omega) (by omega) (by omega)) hl hG 0 rfl [0, 2] (by decide) rfl (ads := [m, aL]) rfl rfl (ws' := [(m, .inr (8, [.int (((L_X8_kind_0 v ms sl 0 n what k0).2.1) 0), .int (((L_X8_kind_0 v ms sl 0 n what k0).2.1) 1), .ref aS, .int (((L_X8_kind_0 v ms sl 0 n what k0).2.1) 2), .int (((L_X8_kind_0 v ms sl 0 n what k0).2.1) 3), .int (((L_X8_kind_0 v ms sl 0 n what k0).2.1) 4), .ref aW, .int (((L_X8_kind_0 v ms sl 0 n what k0).2.1) 5), .ref aL, .int (((L_X8_kind_0 v ms sl 0 n what k0).2.1) 6), .int (((L_X8_kind_0 v ms sl 0 n what k0).2.1) 7), .int (((L_X8_kind_0 v ms sl 0 n what k0).2.1) 8), .ref aT, .int (((L_X8_kind_0 v ms sl 0 n what k0).2.1) 9), .int (((L_X8_kind_0 v ms sl 0 n what k0).2.1) 10), .int (((L_X8_kind_0 v ms sl 0 n what k0).2.1) 11), .int (((L_X8_kind_0 v ms sl 0 n what k0).2.1) 12), .ref a1, .ref a2, .ref a3, .ref aB, .int (((L_X8_kind_0 v ms sl 0 n what k0).2.1) 13), .int (((L_X8_kind_0 v ms sl 0 n what k0).2.1) 14)])), (aS, .inl (E.2.1.1, 12, .inl ms)), (aL, .inl (E.2.1.1, 156, .inl (cp13 ((L_X8_kind_0 v ms sl 0 n what k0).2.2) 0 143)))]) rfl rfl (rest := []) rfl (Nat.le_of_ble_eq_true rfl) ⟨Nat.le_of_ble_eq_true rfl, Nat.le_of_ble_eq_true rfl⟩ (fun H locs hG => ?_)
                refine lv_aload_n hx hb dX8_kind_66 rfl (lv_at hl 2 rfl) ?_
                refine gf_X8_16 C dX8_kind_67 hG 0 rfl rfl ?_
                refine lv_sipush (v := 143) hx hb dX8_kind_70 (by decide) ?_
                refine lv_iload_n hx hb dX8_kind_73 rfl (lv_at hl 3 rfl) ?_
                refine lv_iadd hx hb dX8_kind_74 ?_
                refine z_ti (y := 143) (by decide) ?_
                refine lv_iload hx hb dX8_kind_75 (lv_at hl 0 rfl) ?_
                refine z_ist C dX8_kind_77 hG 2 rfl 143 (by decide) (Nat.le_of_ble_eq_true rfl) (Nat.le_of_ble_eq_true rfl) (ws' := [(m, .inr (8, [.int (((L_X8_kind_0 v ms sl 0 n what k0).2.1) 0), .int (((L_X8_kind_0 v ms sl 0 n what k0).2.1) 1), .ref aS, .int (((L_X8_kind_0 v ms sl 0 n what k0).2.1) 2), .int (((L_X8_kind_0 v ms sl 0 n what k0).2.1) 3), .int (((L_X8_kind_0 v ms sl 0 n what k0).2.1) 4), .ref aW, .int (((L_X8_kind_0 v ms sl 0 n what k0).2.1) 5), .ref aL, .int (((L_X8_kind_0 v ms sl 0 n what k0).2.1) 6), .int (((L_X8_kind_0 v ms sl 0 n what k0).2.1) 7), .int (((L_X8_kind_0 v ms sl 0 n what k0).2.1) 8), .ref aT, .int (((L_X8_kind_0 v ms sl 0 n what k0).2.1) 9), .int (((L_X8_kind_0 v ms sl 0 n what k0).2.1) 10), .int (((L_X8_kind_0 v ms sl 0 n what k0).2.1) 11), .int (((L_X8_kind_0 v ms sl 0 n what k0).2.1) 12), .ref a1, .ref a2, .ref a3, .ref aB, .int (((L_X8_kind_0 v ms sl 0 n what k0).2.1) 13), .int (((L_X8_kind_0 v ms sl 0 n what k0).2.1) 14)])), (aS, .inl (E.2.1.1, 12, .inl ms)), (aL, .inl (E.2.1.1, 156, .inl (upd (cp13 ((L_X8_kind_0 v ms sl 0 n what k0).2.2) 0 143) 143 (nI k0))))]) rfl (fun H locs hG => ?_)
                refine lv_aload_n hx hb dX8_kind_78 rfl (lv_at hl 2 rfl) ?_
                refine lv_iload_n hx hb dX8_kind_79 rfl (lv_at hl 4 rfl) ?_
                refine call_X8_177 C dX8_kind_80 (c_X8_idles l E ((L_X8_kind_0 v ms sl 0 n what k0).2.1) ms (upd (cp13 ((L_X8_kind_0 v ms sl 0 n what k0).2.2) 0 143) 143 (nI k0)) n n.toNatClampNeg m aS aW aL aT a1 a2 a3 aB (by rw [pk_un (by decide), cp_154, L_X8_kind_0_low]; exact hB) (by have := z_in3 (c := 24) (by decide) (by decide) c_2; omega) (z_in2 (by decide) c_2)) hl hG 0 rfl [0, 1, 2] (by decide) rfl (ads := [m, aS, aL]) rfl rfl (ws' := [(m, .inr (8, [.int (((L_X8_kind_0 v ms sl 0 n what k0).2.1) 0), .int (((L_X8_kind_0 v ms sl 0 n what k0).2.1) 1), .ref aS, .int (((L_X8_kind_0 v ms sl 0 n what k0).2.1) 2), .int (((L_X8_kind_0 v ms sl 0 n what k0).2.1) 3), .int (((L_X8_kind_0 v ms sl 0 n what k0).2.1) 4), .ref aW, .int (((L_X8_kind_0 v ms sl 0 n what k0).2.1) 5), .ref aL, .int (((L_X8_kind_0 v ms sl 0 n what k0).2.1) 6), .int (((L_X8_kind_0 v ms sl 0 n what k0).2.1) 7), .int (((L_X8_kind_0 v ms sl 0 n what k0).2.1) 8), .ref aT, .int (((L_X8_kind_0 v ms sl 0 n what k0).2.1) 9), .int (((L_X8_kind_0 v ms sl 0 n what k0).2.1) 10), .int (((L_X8_kind_0 v ms sl 0 n what k0).2.1) 11), .int (((L_X8_kind_0 v ms sl 0 n what k0).2.1) 12), .ref a1, .ref a2, .ref a3, .ref aB, .int (((L_X8_kind_0 v ms sl 0 n what k0).2.1) 13), .int (((L_X8_kind_0 v ms sl 0 n what k0).2.1) 14)])), (aS, .inl (E.2.1.1, 12, .inl ms)), (aL, .inl (E.2.1.1, 156, .inl (o_X8_idles_2 ((L_X8_kind_0 v ms sl 0 n what k0).2.1) ms (upd (cp13 ((L_X8_kind_0 v ms sl 0 n what k0).2.2) 0 143) 143 (nI k0)) n n.toNatClampNeg)))]) rfl rfl (rest := []) rfl (Nat.le_of_ble_eq_true rfl) ⟨Nat.le_of_ble_eq_true rfl, Nat.le_of_ble_eq_true rfl⟩ (fun H locs hG => ?_)
                refine lv_istore (lv' := [(6, .int (o_X8_idles_r ((L_X8_kind_0 v ms sl 0 n what k0).2.1) ms (upd (cp13 ((L_X8_kind_0 v ms sl 0 n what k0).2.2) 0 143) 143 (nI k0)) n n.toNatClampNeg)), (5, .int (nI k0)), (4, .int ((L_X8_kind_0 v ms sl 0 n what k0).1)), (0, .ref m), (1, .int 0), (2, .int n), (3, .int what)]) hx hb dX8_kind_83 hl (by decide) rfl (fun ls hl => ?_)
                refine lv_iload hx hb dX8_kind_85 (lv_at hl 0 rfl) ?_
                have k_1 : ∀ (y1_0 : Int32) (H : Heap) (locs : List Loc) (ls : Array Slot), (j_X8_kind_1_0 v ms sl 0 n what k0 ((L_X8_kind_0 v ms sl 0 n what k0).1) ((L_X8_kind_0 v ms sl 0 n what k0).2.1) ((L_X8_kind_0 v ms sl 0 n what k0).2.2)) = y1_0 → zG E zA zs.heap [(m, .inr (8, [.int (((L_X8_kind_0 v ms sl 0 n what k0).2.1) 0), .int (((L_X8_kind_0 v ms sl 0 n what k0).2.1) 1), .ref aS, .int (((L_X8_kind_0 v ms sl 0 n what k0).2.1) 2), .int (((L_X8_kind_0 v ms sl 0 n what k0).2.1) 3), .int (((L_X8_kind_0 v ms sl 0 n what k0).2.1) 4), .ref aW, .int (((L_X8_kind_0 v ms sl 0 n what k0).2.1) 5), .ref aL, .int (((L_X8_kind_0 v ms sl 0 n what k0).2.1) 6), .int (((L_X8_kind_0 v ms sl 0 n what k0).2.1) 7), .int (((L_X8_kind_0 v ms sl 0 n what k0).2.1) 8), .ref aT, .int (((L_X8_kind_0 v ms sl 0 n what k0).2.1) 9), .int (((L_X8_kind_0 v ms sl 0 n what k0).2.1) 10), .int (((L_X8_kind_0 v ms sl 0 n what k0).2.1) 11), .int (((L_X8_kind_0 v ms sl 0 n what k0).2.1) 12), .ref a1, .ref a2, .ref a3, .ref aB, .int (((L_X8_kind_0 v ms sl 0 n what k0).2.1) 13), .int (((L_X8_kind_0 v ms sl 0 n what k0).2.1) 14)])), (aS, .inl (E.2.1.1, 12, .inl ms)), (aL, .inl (E.2.1.1, 156, .inl (o_X8_idles_2 ((L_X8_kind_0 v ms sl 0 n what k0).2.1) ms (upd (cp13 ((L_X8_kind_0 v ms sl 0 n what k0).2.2) 0 143) 143 (nI k0)) n n.toNatClampNeg)))] H locs → lv_has ls 8 [(6, .int (o_X8_idles_r ((L_X8_kind_0 v ms sl 0 n what k0).2.1) ms (upd (cp13 ((L_X8_kind_0 v ms sl 0 n what k0).2.2) 0 143) 143 (nI k0)) n n.toNatClampNeg)), (5, .int (nI k0)), (4, .int ((L_X8_kind_0 v ms sl 0 n what k0).1)), (0, .ref m), (1, .int 0), (2, .int n), (3, .int what)] → W zp l ze (zR 6 141) zs zm za zb zt zc H locs 0 0 zq (F0 zm 104 ls [.int y1_0]) := by
                  intro y1_0 H locs ls e_y1_0 hG hl
                  subst e_y1_0
                  refine lv_istore (lv' := [(7, .int (j_X8_kind_1_0 v ms sl 0 n what k0 ((L_X8_kind_0 v ms sl 0 n what k0).1) ((L_X8_kind_0 v ms sl 0 n what k0).2.1) ((L_X8_kind_0 v ms sl 0 n what k0).2.2))), (6, .int (o_X8_idles_r ((L_X8_kind_0 v ms sl 0 n what k0).2.1) ms (upd (cp13 ((L_X8_kind_0 v ms sl 0 n what k0).2.2) 0 143) 143 (nI k0)) n n.toNatClampNeg)), (5, .int (nI k0)), (4, .int ((L_X8_kind_0 v ms sl 0 n what k0).1)), (0, .ref m), (1, .int 0), (2, .int n), (3, .int what)]) hx hb dX8_kind_104 hl (by decide) rfl (fun ls hl => ?_)
                  refine lv_aload_n hx hb dX8_kind_106 rfl (lv_at hl 4 rfl) ?_
                  refine lv_iload hx hb dX8_kind_107 (lv_at hl 0 rfl) ?_
                  refine lv_iload hx hb dX8_kind_109 (lv_at hl 3 rfl) ?_
                  have k_2 : ∀ (y2_0 : Int32) (H : Heap) (locs : List Loc) (ls : Array Slot), (j_X8_kind_2_0 v ms sl 0 n what k0 ((L_X8_kind_0 v ms sl 0 n what k0).1) ((L_X8_kind_0 v ms sl 0 n what k0).2.1) ((L_X8_kind_0 v ms sl 0 n what k0).2.2)) = y2_0 → zG E zA zs.heap [(m, .inr (8, [.int (((L_X8_kind_0 v ms sl 0 n what k0).2.1) 0), .int (((L_X8_kind_0 v ms sl 0 n what k0).2.1) 1), .ref aS, .int (((L_X8_kind_0 v ms sl 0 n what k0).2.1) 2), .int (((L_X8_kind_0 v ms sl 0 n what k0).2.1) 3), .int (((L_X8_kind_0 v ms sl 0 n what k0).2.1) 4), .ref aW, .int (((L_X8_kind_0 v ms sl 0 n what k0).2.1) 5), .ref aL, .int (((L_X8_kind_0 v ms sl 0 n what k0).2.1) 6), .int (((L_X8_kind_0 v ms sl 0 n what k0).2.1) 7), .int (((L_X8_kind_0 v ms sl 0 n what k0).2.1) 8), .ref aT, .int (((L_X8_kind_0 v ms sl 0 n what k0).2.1) 9), .int (((L_X8_kind_0 v ms sl 0 n what k0).2.1) 10), .int (((L_X8_kind_0 v ms sl 0 n what k0).2.1) 11), .int (((L_X8_kind_0 v ms sl 0 n what k0).2.1) 12), .ref a1, .ref a2, .ref a3, .ref aB, .int (((L_X8_kind_0 v ms sl 0 n what k0).2.1) 13), .int (((L_X8_kind_0 v ms sl 0 n what k0).2.1) 14)])), (aS, .inl (E.2.1.1, 12, .inl ms)), (aL, .inl (E.2.1.1, 156, .inl (o_X8_idles_2 ((L_X8_kind_0 v ms sl 0 n what k0).2.1) ms (upd (cp13 ((L_X8_kind_0 v ms sl 0 n what k0).2.2) 0 143) 143 (nI k0)) n n.toNatClampNeg)))] H locs → lv_has ls 8 [(7, .int (j_X8_kind_1_0 v ms sl 0 n what k0 ((L_X8_kind_0 v ms sl 0 n what k0).1) ((L_X8_kind_0 v ms sl 0 n what k0).2.1) ((L_X8_kind_0 v ms sl 0 n what k0).2.2))), (6, .int (o_X8_idles_r ((L_X8_kind_0 v ms sl 0 n what k0).2.1) ms (upd (cp13 ((L_X8_kind_0 v ms sl 0 n what k0).2.2) 0 143) 143 (nI k0)) n n.toNatClampNeg)), (5, .int (nI k0)), (4, .int ((L_X8_kind_0 v ms sl 0 n what k0).1)), (0, .ref m), (1, .int 0), (2, .int n), (3, .int what)] → W zp l ze (zR 6 141) zs zm za zb zt zc H locs 0 0 zq (F0 zm 123 ls [.int y2_0, .ref m]) := by
                    intro y2_0 H locs ls e_y2_0 hG hl
                    subst e_y2_0
                    refine pf_X8_203 C dX8_kind_123 hG 0 rfl (Nat.le_of_ble_eq_true rfl) (ws' := [(m, .inr (8, [.int (((L_X8_kind_0 v ms sl 0 n what k0).2.1) 0), .int (((L_X8_kind_0 v ms sl 0 n what k0).2.1) 1), .ref aS, .int (((L_X8_kind_0 v ms sl 0 n what k0).2.1) 2), .int (((L_X8_kind_0 v ms sl 0 n what k0).2.1) 3), .int (((L_X8_kind_0 v ms sl 0 n what k0).2.1) 4), .ref aW, .int (((L_X8_kind_0 v ms sl 0 n what k0).2.1) 5), .ref aL, .int (((L_X8_kind_0 v ms sl 0 n what k0).2.1) 6), .int (((L_X8_kind_0 v ms sl 0 n what k0).2.1) 7), .int (((L_X8_kind_0 v ms sl 0 n what k0).2.1) 8), .ref aT, .int (((L_X8_kind_0 v ms sl 0 n what k0).2.1) 9), .int (((L_X8_kind_0 v ms sl 0 n what k0).2.1) 10), .int (((L_X8_kind_0 v ms sl 0 n what k0).2.1) 11), .int (((L_X8_kind_0 v ms sl 0 n what k0).2.1) 12), .ref a1, .ref a2, .ref a3, .ref aB, .int (((L_X8_kind_0 v ms sl 0 n what k0).2.1) 13), .int (j_X8_kind_2_0 v ms sl 0 n what k0 ((L_X8_kind_0 v ms sl 0 n what k0).1) ((L_X8_kind_0 v ms sl 0 n what k0).2.1) ((L_X8_kind_0 v ms sl 0 n what k0).2.2))])), (aS, .inl (E.2.1.1, 12, .inl ms)), (aL, .inl (E.2.1.1, 156, .inl (o_X8_idles_2 ((L_X8_kind_0 v ms sl 0 n what k0).2.1) ms (upd (cp13 ((L_X8_kind_0 v ms sl 0 n what k0).2.2) 0 143) 143 (nI k0)) n n.toNatClampNeg)))]) rfl (fun H locs hG => ?_)
                    refine lv_iload hx hb dX8_kind_126 (lv_at hl 3 rfl) ?_
                    refine lv_iload hx hb dX8_kind_128 (lv_at hl 0 rfl) ?_
                    refine call_X8_133 C dX8_kind_130 (c_X8_larger l E ((L_X8_kind_0 v ms sl 0 n what k0).1) (j_X8_kind_1_0 v ms sl 0 n what k0 ((L_X8_kind_0 v ms sl 0 n what k0).1) ((L_X8_kind_0 v ms sl 0 n what k0).2.1) ((L_X8_kind_0 v ms sl 0 n what k0).2.2))) hl hG [] (by decide) rfl (ads := []) rfl rfl (ws' := [(m, .inr (8, [.int (((L_X8_kind_0 v ms sl 0 n what k0).2.1) 0), .int (((L_X8_kind_0 v ms sl 0 n what k0).2.1) 1), .ref aS, .int (((L_X8_kind_0 v ms sl 0 n what k0).2.1) 2), .int (((L_X8_kind_0 v ms sl 0 n what k0).2.1) 3), .int (((L_X8_kind_0 v ms sl 0 n what k0).2.1) 4), .ref aW, .int (((L_X8_kind_0 v ms sl 0 n what k0).2.1) 5), .ref aL, .int (((L_X8_kind_0 v ms sl 0 n what k0).2.1) 6), .int (((L_X8_kind_0 v ms sl 0 n what k0).2.1) 7), .int (((L_X8_kind_0 v ms sl 0 n what k0).2.1) 8), .ref aT, .int (((L_X8_kind_0 v ms sl 0 n what k0).2.1) 9), .int (((L_X8_kind_0 v ms sl 0 n what k0).2.1) 10), .int (((L_X8_kind_0 v ms sl 0 n what k0).2.1) 11), .int (((L_X8_kind_0 v ms sl 0 n what k0).2.1) 12), .ref a1, .ref a2, .ref a3, .ref aB, .int (((L_X8_kind_0 v ms sl 0 n what k0).2.1) 13), .int (j_X8_kind_2_0 v ms sl 0 n what k0 ((L_X8_kind_0 v ms sl 0 n what k0).1) ((L_X8_kind_0 v ms sl 0 n what k0).2.1) ((L_X8_kind_0 v ms sl 0 n what k0).2.2))])), (aS, .inl (E.2.1.1, 12, .inl ms)), (aL, .inl (E.2.1.1, 156, .inl (o_X8_idles_2 ((L_X8_kind_0 v ms sl 0 n what k0).2.1) ms (upd (cp13 ((L_X8_kind_0 v ms sl 0 n what k0).2.2) 0 143) 143 (nI k0)) n n.toNatClampNeg)))]) rfl rfl (rest := []) rfl (Nat.le_of_ble_eq_true rfl) ⟨Nat.le_of_ble_eq_true rfl, Nat.le_of_ble_eq_true rfl⟩ (fun H locs hG => ?_)
                    refine lv_istore (lv' := [(4, .int (o_X8_larger_r ((L_X8_kind_0 v ms sl 0 n what k0).1) (j_X8_kind_1_0 v ms sl 0 n what k0 ((L_X8_kind_0 v ms sl 0 n what k0).1) ((L_X8_kind_0 v ms sl 0 n what k0).2.1) ((L_X8_kind_0 v ms sl 0 n what k0).2.2)))), (7, .int (j_X8_kind_1_0 v ms sl 0 n what k0 ((L_X8_kind_0 v ms sl 0 n what k0).1) ((L_X8_kind_0 v ms sl 0 n what k0).2.1) ((L_X8_kind_0 v ms sl 0 n what k0).2.2))), (6, .int (o_X8_idles_r ((L_X8_kind_0 v ms sl 0 n what k0).2.1) ms (upd (cp13 ((L_X8_kind_0 v ms sl 0 n what k0).2.2) 0 143) 143 (nI k0)) n n.toNatClampNeg)), (5, .int (nI k0)), (0, .ref m), (1, .int 0), (2, .int n), (3, .int what)]) hx hb dX8_kind_133 hl (by decide) rfl (fun ls hl => ?_)
                    refine lv_iinc (v := (nI (k0 + 1))) (lv' := [(5, .int (nI (k0 + 1))), (4, .int (o_X8_larger_r ((L_X8_kind_0 v ms sl 0 n what k0).1) (j_X8_kind_1_0 v ms sl 0 n what k0 ((L_X8_kind_0 v ms sl 0 n what k0).1) ((L_X8_kind_0 v ms sl 0 n what k0).2.1) ((L_X8_kind_0 v ms sl 0 n what k0).2.2)))), (7, .int (j_X8_kind_1_0 v ms sl 0 n what k0 ((L_X8_kind_0 v ms sl 0 n what k0).1) ((L_X8_kind_0 v ms sl 0 n what k0).2.1) ((L_X8_kind_0 v ms sl 0 n what k0).2.2))), (6, .int (o_X8_idles_r ((L_X8_kind_0 v ms sl 0 n what k0).2.1) ms (upd (cp13 ((L_X8_kind_0 v ms sl 0 n what k0).2.2) 0 143) 143 (nI k0)) n n.toNatClampNeg)), (0, .ref m), (1, .int 0), (2, .int n), (3, .int what)]) hx hb dX8_kind_135 hl (k := 3) rfl (nI_1 _) (by decide) rfl (fun ls hl => ?_)
                    refine lv_goto (tgt := 52) hx hb dX8_kind_138 (by decide) ?_
                    exact ih0 (k0 + 1) (by omega) (o_X8_larger_r ((L_X8_kind_0 v ms sl 0 n what k0).1) (j_X8_kind_1_0 v ms sl 0 n what k0 ((L_X8_kind_0 v ms sl 0 n what k0).1) ((L_X8_kind_0 v ms sl 0 n what k0).2.1) ((L_X8_kind_0 v ms sl 0 n what k0).2.2))) (mkG15 (((L_X8_kind_0 v ms sl 0 n what k0).2.1) 0) (((L_X8_kind_0 v ms sl 0 n what k0).2.1) 1) (((L_X8_kind_0 v ms sl 0 n what k0).2.1) 2) (((L_X8_kind_0 v ms sl 0 n what k0).2.1) 3) (((L_X8_kind_0 v ms sl 0 n what k0).2.1) 4) (((L_X8_kind_0 v ms sl 0 n what k0).2.1) 5) (((L_X8_kind_0 v ms sl 0 n what k0).2.1) 6) (((L_X8_kind_0 v ms sl 0 n what k0).2.1) 7) (((L_X8_kind_0 v ms sl 0 n what k0).2.1) 8) (((L_X8_kind_0 v ms sl 0 n what k0).2.1) 9) (((L_X8_kind_0 v ms sl 0 n what k0).2.1) 10) (((L_X8_kind_0 v ms sl 0 n what k0).2.1) 11) (((L_X8_kind_0 v ms sl 0 n what k0).2.1) 12) (((L_X8_kind_0 v ms sl 0 n what k0).2.1) 13) (j_X8_kind_2_0 v ms sl 0 n what k0 ((L_X8_kind_0 v ms sl 0 n what k0).1) ((L_X8_kind_0 v ms sl 0 n what k0).2.1) ((L_X8_kind_0 v ms sl 0 n what k0).2.2))) (o_X8_idles_2 ((L_X8_kind_0 v ms sl 0 n what k0).2.1) ms (upd (cp13 ((L_X8_kind_0 v ms sl 0 n what k0).2.2) 0 143) 143 (nI k0)) n n.toNatClampNeg) _ _ _ (by rw [L_X8_kind_0]) (by rw [L_X8_kind_0]) (by rw [L_X8_kind_0]) hG (lv_sub hl [0, 1, 4, 5, 6, 7] rfl)
                  refine lv_icmp_le (tgt := 119) hx hb dX8_kind_111 (by decide) (fun c_15 => ?_) (fun c_15 => ?_)
                  · skip
                    refine lv_aload_n hx hb dX8_kind_119 rfl (lv_at hl 4 rfl) ?_
                    refine gf_X8_203 C dX8_kind_120 hG 0 rfl rfl ?_
                    exact k_2 (((L_X8_kind_0 v ms sl 0 n what k0).2.1) 14) _ _ _ (by rw [j_X8_kind_2_0, if_pos c_15]) hG (lv_sub hl [0, 1, 2, 3, 4, 5, 6, 7] rfl)
                  · skip
                    refine lv_iload hx hb dX8_kind_114 (lv_at hl 2 rfl) ?_
                    refine lv_goto (tgt := 123) hx hb dX8_kind_116 (by decide) ?_
                    exact k_2 (nI k0) _ _ _ (by rw [j_X8_kind_2_0, if_neg c_15]) hG (lv_sub hl [0, 1, 2, 3, 4, 5, 6, 7] rfl)
                refine lv_if_ge (tgt := 94) hx hb dX8_kind_87 (by decide) (fun c_14 => ?_) (fun c_14 => ?_)
                · skip
                  refine lv_aload_n hx hb dX8_kind_94 rfl (lv_at hl 3 rfl) ?_
                  refine gf_X8_16 C dX8_kind_95 hG 0 rfl rfl ?_
                  refine lv_sipush (v := 145) hx hb dX8_kind_98 (by decide) ?_
                  refine lv_iload_n hx hb dX8_kind_101 rfl (lv_at hl 4 rfl) ?_
                  refine lv_iadd hx hb dX8_kind_102 ?_
                  refine z_ti (y := 145) (by decide) ?_
                  refine z_ild C dX8_kind_103 hG 2 rfl 145 (by decide) (Nat.le_of_ble_eq_true rfl) (Nat.le_of_ble_eq_true rfl) ?_
                  exact k_1 ((o_X8_idles_2 ((L_X8_kind_0 v ms sl 0 n what k0).2.1) ms (upd (cp13 ((L_X8_kind_0 v ms sl 0 n what k0).2.2) 0 143) 143 (nI k0)) n n.toNatClampNeg) 145) _ _ _ (by rw [j_X8_kind_1_0, if_pos c_14]) hG (lv_sub hl [0, 1, 2, 3, 4, 5, 6] rfl)
                · skip
                  refine lv_iconst (v := 0) hx hb dX8_kind_90 (by decide) ?_
                  refine lv_goto (tgt := 104) hx hb dX8_kind_91 (by decide) ?_
                  exact k_1 0 _ _ _ (by rw [j_X8_kind_1_0, if_neg c_14]) hG (lv_sub hl [0, 1, 2, 3, 4, 5, 6] rfl)
            exact kl_0 5 0 (by omega) (-1) (mkG15 (v 0) (v 1) (v 2) (v 3) (v 4) (v 5) (v 6) (v 7) (v 8) (v 9) (v 10) (v 11) (v 12) (v 13) 0) sl _ _ _ (by rw [L_X8_kind_0]) (by rw [L_X8_kind_0]) (by rw [L_X8_kind_0]) hG (lv_sub hl [0, 1, 2, 3, 4, 5] rfl)
          · skip
            refine lv_bipush (v := (-2)) hx hb dX8_kind_38 (by decide) ?_
            rw [hQ]
            exact z_iret C hr hlk hG dX8_kind_40 rfl (by rw [o_X8_kind_r, if_neg c_1, if_neg c_2, if_neg c_3, if_pos rfl, if_neg c_4]) (by rw [o_X8_kind_v, if_neg c_1, if_neg c_2, if_neg c_3, if_pos rfl, if_neg c_4, o_X8_kind_2, if_neg c_1, if_neg c_2, if_neg c_3, if_pos rfl, if_neg c_4])
        · skip
          refine lv_aload_n hx hb dX8_kind_31 rfl (lv_at hl 0 rfl) ?_
          refine call_X8_162 C dX8_kind_32 (c_X8_isOver l E v sl m aS aW aL aT a1 a2 a3 aB) hl hG 0 rfl [0, 2] (by decide) rfl (ads := [m, aL]) rfl rfl (ws' := [(m, .inr (8, [.int (v 0), .int (v 1), .ref aS, .int (v 2), .int (v 3), .int (v 4), .ref aW, .int (v 5), .ref aL, .int (v 6), .int (v 7), .int (v 8), .ref aT, .int (v 9), .int (v 10), .int (v 11), .int (v 12), .ref a1, .ref a2, .ref a3, .ref aB, .int (v 13), .int (v 14)])), (aS, .inl (E.2.1.1, 12, .inl ms)), (aL, .inl (E.2.1.1, 156, .inl sl))]) rfl rfl (rest := []) rfl (Nat.le_of_ble_eq_true rfl) ⟨Nat.le_of_ble_eq_true rfl, Nat.le_of_ble_eq_true rfl⟩ (fun H locs hG => ?_)
          refine lv_if_eq (tgt := 41) hx hb dX8_kind_35 (by decide) (fun c_16 => ?_) (fun c_16 => ?_)
          · skip
            refine lv_aload_n hx hb dX8_kind_41 rfl (lv_at hl 0 rfl) ?_
            refine lv_iconst (v := 0) hx hb dX8_kind_42 (by decide) ?_
            refine pf_X8_203 C dX8_kind_43 hG 0 rfl (Nat.le_of_ble_eq_true rfl) (ws' := [(m, .inr (8, [.int (v 0), .int (v 1), .ref aS, .int (v 2), .int (v 3), .int (v 4), .ref aW, .int (v 5), .ref aL, .int (v 6), .int (v 7), .int (v 8), .ref aT, .int (v 9), .int (v 10), .int (v 11), .int (v 12), .ref a1, .ref a2, .ref a3, .ref aB, .int (v 13), .int 0])), (aS, .inl (E.2.1.1, 12, .inl ms)), (aL, .inl (E.2.1.1, 156, .inl sl))]) rfl (fun H locs hG => ?_)
            refine lv_iconst (v := (-1)) hx hb dX8_kind_46 (by decide) ?_
            refine lv_istore (lv' := [(4, .int (-1)), (0, .ref m), (1, .int 1), (2, .int n), (3, .int what)]) hx hb dX8_kind_47 hl (by decide) rfl (fun ls hl => ?_)
            refine lv_iconst (v := 0) hx hb dX8_kind_49 (by decide) ?_
            refine lv_istore (lv' := [(5, .int 0), (4, .int (-1)), (0, .ref m), (1, .int 1), (2, .int n), (3, .int what)]) hx hb dX8_kind_50 hl (by decide) rfl (fun ls hl => ?_)
            have kl_3 : ∀ (j3 k3 : Nat), j3 + k3 = 5 → ∀ (u3_0 : Int32) (u3_1 : Nat → Int32) (u3_2 : Nat → Int32) (H : Heap) (locs : List Loc) (ls : Array Slot), ((L_X8_kind_3 v ms sl 1 n what k3).1) = u3_0 → ((L_X8_kind_3 v ms sl 1 n what k3).2.1) = u3_1 → ((L_X8_kind_3 v ms sl 1 n what k3).2.2) = u3_2 → zG E zA zs.heap [(m, .inr (8, [.int (u3_1 0), .int (u3_1 1), .ref aS, .int (u3_1 2), .int (u3_1 3), .int (u3_1 4), .ref aW, .int (u3_1 5), .ref aL, .int (u3_1 6), .int (u3_1 7), .int (u3_1 8), .ref aT, .int (u3_1 9), .int (u3_1 10), .int (u3_1 11), .int (u3_1 12), .ref a1, .ref a2, .ref a3, .ref aB, .int (u3_1 13), .int (u3_1 14)])), (aS, .inl (E.2.1.1, 12, .inl ms)), (aL, .inl (E.2.1.1, 156, .inl u3_2))] H locs → lv_has ls 8 [(5, .int (nI k3)), (4, .int u3_0), (0, .ref m), (1, .int 1), (2, .int n), (3, .int what)] → W zp l ze (zR 6 141) zs zm za zb zt zc H locs 0 0 zq (F0 zm 52 ls []) := by
              intro j3
              induction j3 with
              | zero =>
                intro k3 hk3 u3_0 u3_1 u3_2 H locs ls e_u3_0 e_u3_1 e_u3_2 hG hl
                subst e_u3_0
                subst e_u3_1
                subst e_u3_2
                obtain rfl : k3 = 5 := by omega
                refine lv_iload hx hb dX8_kind_52 (lv_at hl 0 rfl) ?_
                refine lv_iconst (v := 5) hx hb dX8_kind_54 (by decide) ?_
                refine lv_icmp_ge (tgt := 141) hx hb dX8_kind_55 (by decide) (fun c_23 => ?_) (fun c_23 => absurd (z_ge_yes (N := 5) rfl) c_23)
                refine lv_iload_n hx hb dX8_kind_141 rfl (lv_at hl 5 rfl) ?_
                refine lv_if_ne (tgt := 152) hx hb dX8_kind_142 (by decide) (fun c_24 => ?_) (fun c_24 => ?_)
                · skip
                  refine lv_iload hx hb dX8_kind_152 (lv_at hl 1 rfl) ?_
                  rw [hQ]
                  exact z_iret C hr hlk hG dX8_kind_154 rfl (by rw [o_X8_kind_r, if_neg c_1, if_neg c_2, if_neg c_3, if_neg (by decide : ¬ (1 : Int32) = 0), if_pos c_16, if_neg c_24]) (by rw [o_X8_kind_v, if_neg c_1, if_neg c_2, if_neg c_3, if_neg (by decide : ¬ (1 : Int32) = 0), if_pos c_16, o_X8_kind_2, if_neg c_1, if_neg c_2, if_neg c_3, if_neg (by decide : ¬ (1 : Int32) = 0), if_pos c_16])
                · skip
                  refine lv_aload_n hx hb dX8_kind_145 rfl (lv_at hl 2 rfl) ?_
                  refine gf_X8_203 C dX8_kind_146 hG 0 rfl rfl ?_
                  refine lv_goto (tgt := 154) hx hb dX8_kind_149 (by decide) ?_
                  rw [hQ]
                  exact z_iret C hr hlk hG dX8_kind_154 rfl (by rw [o_X8_kind_r, if_neg c_1, if_neg c_2, if_neg c_3, if_neg (by decide : ¬ (1 : Int32) = 0), if_pos c_16, if_pos c_24]) (by rw [o_X8_kind_v, if_neg c_1, if_neg c_2, if_neg c_3, if_neg (by decide : ¬ (1 : Int32) = 0), if_pos c_16, o_X8_kind_2, if_neg c_1, if_neg c_2, if_neg c_3, if_neg (by decide : ¬ (1 : Int32) = 0), if_pos c_16])
              | succ j3 ih3 =>
                intro k3 hk3 u3_0 u3_1 u3_2 H locs ls e_u3_0 e_u3_1 e_u3_2 hG hl
                subst e_u3_0
                subst e_u3_1
                subst e_u3_2
                have hlt : k3 < 5 := by omega
                refine lv_iload hx hb dX8_kind_52 (lv_at hl 0 rfl) ?_
                refine lv_iconst (v := 5) hx hb dX8_kind_54 (by decide) ?_
                refine lv_icmp_ge (tgt := 141) hx hb dX8_kind_55 (by decide) (fun c_25 => absurd c_25 (z_ge_no (N := 5) hlt (by decide) rfl)) (fun c_25 => ?_)
                refine lv_aload_n hx hb dX8_kind_58 rfl (lv_at hl 2 rfl) ?_
                refine lv_iconst (v := 0) hx hb dX8_kind_59 (by decide) ?_
                refine lv_sipush (v := 143) hx hb dX8_kind_60 (by decide) ?_
                refine call_X8_101 C dX8_kind_63 (c_X8_copies_t l E ((L_X8_kind_3 v ms sl 1 n what k3).2.1) ((L_X8_kind_3 v ms sl 1 n what k3).2.2) 0 143 m aS aW aL aT a1 a2 a3 aB (by omega) (by omega) (by omega)) hl hG 0 rfl [0, 2] (by decide) rfl (ads := [m, aL]) rfl rfl (ws' := [(m, .inr (8, [.int (((L_X8_kind_3 v ms sl 1 n what k3).2.1) 0), .int (((L_X8_kind_3 v ms sl 1 n what k3).2.1) 1), .ref aS, .int (((L_X8_kind_3 v ms sl 1 n what k3).2.1) 2), .int (((L_X8_kind_3 v ms sl 1 n what k3).2.1) 3), .int (((L_X8_kind_3 v ms sl 1 n what k3).2.1) 4), .ref aW, .int (((L_X8_kind_3 v ms sl 1 n what k3).2.1) 5), .ref aL, .int (((L_X8_kind_3 v ms sl 1 n what k3).2.1) 6), .int (((L_X8_kind_3 v ms sl 1 n what k3).2.1) 7), .int (((L_X8_kind_3 v ms sl 1 n what k3).2.1) 8), .ref aT, .int (((L_X8_kind_3 v ms sl 1 n what k3).2.1) 9), .int (((L_X8_kind_3 v ms sl 1 n what k3).2.1) 10), .int (((L_X8_kind_3 v ms sl 1 n what k3).2.1) 11), .int (((L_X8_kind_3 v ms sl 1 n what k3).2.1) 12), .ref a1, .ref a2, .ref a3, .ref aB, .int (((L_X8_kind_3 v ms sl 1 n what k3).2.1) 13), .int (((L_X8_kind_3 v ms sl 1 n what k3).2.1) 14)])), (aS, .inl (E.2.1.1, 12, .inl ms)), (aL, .inl (E.2.1.1, 156, .inl (cp13 ((L_X8_kind_3 v ms sl 1 n what k3).2.2) 0 143)))]) rfl rfl (rest := []) rfl (Nat.le_of_ble_eq_true rfl) ⟨Nat.le_of_ble_eq_true rfl, Nat.le_of_ble_eq_true rfl⟩ (fun H locs hG => ?_)
                refine lv_aload_n hx hb dX8_kind_66 rfl (lv_at hl 2 rfl) ?_
                refine gf_X8_16 C dX8_kind_67 hG 0 rfl rfl ?_
                refine lv_sipush (v := 143) hx hb dX8_kind_70 (by decide) ?_
                refine lv_iload_n hx hb dX8_kind_73 rfl (lv_at hl 3 rfl) ?_
                refine lv_iadd hx hb dX8_kind_74 ?_
                refine z_ti (y := 144) (by decide) ?_
                refine lv_iload hx hb dX8_kind_75 (lv_at hl 0 rfl) ?_
                refine z_ist C dX8_kind_77 hG 2 rfl 144 (by decide) (Nat.le_of_ble_eq_true rfl) (Nat.le_of_ble_eq_true rfl) (ws' := [(m, .inr (8, [.int (((L_X8_kind_3 v ms sl 1 n what k3).2.1) 0), .int (((L_X8_kind_3 v ms sl 1 n what k3).2.1) 1), .ref aS, .int (((L_X8_kind_3 v ms sl 1 n what k3).2.1) 2), .int (((L_X8_kind_3 v ms sl 1 n what k3).2.1) 3), .int (((L_X8_kind_3 v ms sl 1 n what k3).2.1) 4), .ref aW, .int (((L_X8_kind_3 v ms sl 1 n what k3).2.1) 5), .ref aL, .int (((L_X8_kind_3 v ms sl 1 n what k3).2.1) 6), .int (((L_X8_kind_3 v ms sl 1 n what k3).2.1) 7), .int (((L_X8_kind_3 v ms sl 1 n what k3).2.1) 8), .ref aT, .int (((L_X8_kind_3 v ms sl 1 n what k3).2.1) 9), .int (((L_X8_kind_3 v ms sl 1 n what k3).2.1) 10), .int (((L_X8_kind_3 v ms sl 1 n what k3).2.1) 11), .int (((L_X8_kind_3 v ms sl 1 n what k3).2.1) 12), .ref a1, .ref a2, .ref a3, .ref aB, .int (((L_X8_kind_3 v ms sl 1 n what k3).2.1) 13), .int (((L_X8_kind_3 v ms sl 1 n what k3).2.1) 14)])), (aS, .inl (E.2.1.1, 12, .inl ms)), (aL, .inl (E.2.1.1, 156, .inl (upd (cp13 ((L_X8_kind_3 v ms sl 1 n what k3).2.2) 0 143) 144 (nI k3))))]) rfl (fun H locs hG => ?_)
                refine lv_aload_n hx hb dX8_kind_78 rfl (lv_at hl 2 rfl) ?_
                refine lv_iload_n hx hb dX8_kind_79 rfl (lv_at hl 4 rfl) ?_
                refine call_X8_177 C dX8_kind_80 (c_X8_idles l E ((L_X8_kind_3 v ms sl 1 n what k3).2.1) ms (upd (cp13 ((L_X8_kind_3 v ms sl 1 n what k3).2.2) 0 143) 144 (nI k3)) n n.toNatClampNeg m aS aW aL aT a1 a2 a3 aB (by rw [pk_un (by decide), cp_154, L_X8_kind_3_low]; exact hB) (by have := z_in3 (c := 24) (by decide) (by decide) c_2; omega) (z_in2 (by decide) c_2)) hl hG 0 rfl [0, 1, 2] (by decide) rfl (ads := [m, aS, aL]) rfl rfl (ws' := [(m, .inr (8, [.int (((L_X8_kind_3 v ms sl 1 n what k3).2.1) 0), .int (((L_X8_kind_3 v ms sl 1 n what k3).2.1) 1), .ref aS, .int (((L_X8_kind_3 v ms sl 1 n what k3).2.1) 2), .int (((L_X8_kind_3 v ms sl 1 n what k3).2.1) 3), .int (((L_X8_kind_3 v ms sl 1 n what k3).2.1) 4), .ref aW, .int (((L_X8_kind_3 v ms sl 1 n what k3).2.1) 5), .ref aL, .int (((L_X8_kind_3 v ms sl 1 n what k3).2.1) 6), .int (((L_X8_kind_3 v ms sl 1 n what k3).2.1) 7), .int (((L_X8_kind_3 v ms sl 1 n what k3).2.1) 8), .ref aT, .int (((L_X8_kind_3 v ms sl 1 n what k3).2.1) 9), .int (((L_X8_kind_3 v ms sl 1 n what k3).2.1) 10), .int (((L_X8_kind_3 v ms sl 1 n what k3).2.1) 11), .int (((L_X8_kind_3 v ms sl 1 n what k3).2.1) 12), .ref a1, .ref a2, .ref a3, .ref aB, .int (((L_X8_kind_3 v ms sl 1 n what k3).2.1) 13), .int (((L_X8_kind_3 v ms sl 1 n what k3).2.1) 14)])), (aS, .inl (E.2.1.1, 12, .inl ms)), (aL, .inl (E.2.1.1, 156, .inl (o_X8_idles_2 ((L_X8_kind_3 v ms sl 1 n what k3).2.1) ms (upd (cp13 ((L_X8_kind_3 v ms sl 1 n what k3).2.2) 0 143) 144 (nI k3)) n n.toNatClampNeg)))]) rfl rfl (rest := []) rfl (Nat.le_of_ble_eq_true rfl) ⟨Nat.le_of_ble_eq_true rfl, Nat.le_of_ble_eq_true rfl⟩ (fun H locs hG => ?_)
                refine lv_istore (lv' := [(6, .int (o_X8_idles_r ((L_X8_kind_3 v ms sl 1 n what k3).2.1) ms (upd (cp13 ((L_X8_kind_3 v ms sl 1 n what k3).2.2) 0 143) 144 (nI k3)) n n.toNatClampNeg)), (5, .int (nI k3)), (4, .int ((L_X8_kind_3 v ms sl 1 n what k3).1)), (0, .ref m), (1, .int 1), (2, .int n), (3, .int what)]) hx hb dX8_kind_83 hl (by decide) rfl (fun ls hl => ?_)
                refine lv_iload hx hb dX8_kind_85 (lv_at hl 0 rfl) ?_
                have k_4 : ∀ (y4_0 : Int32) (H : Heap) (locs : List Loc) (ls : Array Slot), (j_X8_kind_4_0 v ms sl 1 n what k3 ((L_X8_kind_3 v ms sl 1 n what k3).1) ((L_X8_kind_3 v ms sl 1 n what k3).2.1) ((L_X8_kind_3 v ms sl 1 n what k3).2.2)) = y4_0 → zG E zA zs.heap [(m, .inr (8, [.int (((L_X8_kind_3 v ms sl 1 n what k3).2.1) 0), .int (((L_X8_kind_3 v ms sl 1 n what k3).2.1) 1), .ref aS, .int (((L_X8_kind_3 v ms sl 1 n what k3).2.1) 2), .int (((L_X8_kind_3 v ms sl 1 n what k3).2.1) 3), .int (((L_X8_kind_3 v ms sl 1 n what k3).2.1) 4), .ref aW, .int (((L_X8_kind_3 v ms sl 1 n what k3).2.1) 5), .ref aL, .int (((L_X8_kind_3 v ms sl 1 n what k3).2.1) 6), .int (((L_X8_kind_3 v ms sl 1 n what k3).2.1) 7), .int (((L_X8_kind_3 v ms sl 1 n what k3).2.1) 8), .ref aT, .int (((L_X8_kind_3 v ms sl 1 n what k3).2.1) 9), .int (((L_X8_kind_3 v ms sl 1 n what k3).2.1) 10), .int (((L_X8_kind_3 v ms sl 1 n what k3).2.1) 11), .int (((L_X8_kind_3 v ms sl 1 n what k3).2.1) 12), .ref a1, .ref a2, .ref a3, .ref aB, .int (((L_X8_kind_3 v ms sl 1 n what k3).2.1) 13), .int (((L_X8_kind_3 v ms sl 1 n what k3).2.1) 14)])), (aS, .inl (E.2.1.1, 12, .inl ms)), (aL, .inl (E.2.1.1, 156, .inl (o_X8_idles_2 ((L_X8_kind_3 v ms sl 1 n what k3).2.1) ms (upd (cp13 ((L_X8_kind_3 v ms sl 1 n what k3).2.2) 0 143) 144 (nI k3)) n n.toNatClampNeg)))] H locs → lv_has ls 8 [(6, .int (o_X8_idles_r ((L_X8_kind_3 v ms sl 1 n what k3).2.1) ms (upd (cp13 ((L_X8_kind_3 v ms sl 1 n what k3).2.2) 0 143) 144 (nI k3)) n n.toNatClampNeg)), (5, .int (nI k3)), (4, .int ((L_X8_kind_3 v ms sl 1 n what k3).1)), (0, .ref m), (1, .int 1), (2, .int n), (3, .int what)] → W zp l ze (zR 6 141) zs zm za zb zt zc H locs 0 0 zq (F0 zm 104 ls [.int y4_0]) := by
                  intro y4_0 H locs ls e_y4_0 hG hl
                  subst e_y4_0
                  refine lv_istore (lv' := [(7, .int (j_X8_kind_4_0 v ms sl 1 n what k3 ((L_X8_kind_3 v ms sl 1 n what k3).1) ((L_X8_kind_3 v ms sl 1 n what k3).2.1) ((L_X8_kind_3 v ms sl 1 n what k3).2.2))), (6, .int (o_X8_idles_r ((L_X8_kind_3 v ms sl 1 n what k3).2.1) ms (upd (cp13 ((L_X8_kind_3 v ms sl 1 n what k3).2.2) 0 143) 144 (nI k3)) n n.toNatClampNeg)), (5, .int (nI k3)), (4, .int ((L_X8_kind_3 v ms sl 1 n what k3).1)), (0, .ref m), (1, .int 1), (2, .int n), (3, .int what)]) hx hb dX8_kind_104 hl (by decide) rfl (fun ls hl => ?_)
                  refine lv_aload_n hx hb dX8_kind_106 rfl (lv_at hl 4 rfl) ?_
                  refine lv_iload hx hb dX8_kind_107 (lv_at hl 0 rfl) ?_
                  refine lv_iload hx hb dX8_kind_109 (lv_at hl 3 rfl) ?_
                  have k_5 : ∀ (y5_0 : Int32) (H : Heap) (locs : List Loc) (ls : Array Slot), (j_X8_kind_5_0 v ms sl 1 n what k3 ((L_X8_kind_3 v ms sl 1 n what k3).1) ((L_X8_kind_3 v ms sl 1 n what k3).2.1) ((L_X8_kind_3 v ms sl 1 n what k3).2.2)) = y5_0 → zG E zA zs.heap [(m, .inr (8, [.int (((L_X8_kind_3 v ms sl 1 n what k3).2.1) 0), .int (((L_X8_kind_3 v ms sl 1 n what k3).2.1) 1), .ref aS, .int (((L_X8_kind_3 v ms sl 1 n what k3).2.1) 2), .int (((L_X8_kind_3 v ms sl 1 n what k3).2.1) 3), .int (((L_X8_kind_3 v ms sl 1 n what k3).2.1) 4), .ref aW, .int (((L_X8_kind_3 v ms sl 1 n what k3).2.1) 5), .ref aL, .int (((L_X8_kind_3 v ms sl 1 n what k3).2.1) 6), .int (((L_X8_kind_3 v ms sl 1 n what k3).2.1) 7), .int (((L_X8_kind_3 v ms sl 1 n what k3).2.1) 8), .ref aT, .int (((L_X8_kind_3 v ms sl 1 n what k3).2.1) 9), .int (((L_X8_kind_3 v ms sl 1 n what k3).2.1) 10), .int (((L_X8_kind_3 v ms sl 1 n what k3).2.1) 11), .int (((L_X8_kind_3 v ms sl 1 n what k3).2.1) 12), .ref a1, .ref a2, .ref a3, .ref aB, .int (((L_X8_kind_3 v ms sl 1 n what k3).2.1) 13), .int (((L_X8_kind_3 v ms sl 1 n what k3).2.1) 14)])), (aS, .inl (E.2.1.1, 12, .inl ms)), (aL, .inl (E.2.1.1, 156, .inl (o_X8_idles_2 ((L_X8_kind_3 v ms sl 1 n what k3).2.1) ms (upd (cp13 ((L_X8_kind_3 v ms sl 1 n what k3).2.2) 0 143) 144 (nI k3)) n n.toNatClampNeg)))] H locs → lv_has ls 8 [(7, .int (j_X8_kind_4_0 v ms sl 1 n what k3 ((L_X8_kind_3 v ms sl 1 n what k3).1) ((L_X8_kind_3 v ms sl 1 n what k3).2.1) ((L_X8_kind_3 v ms sl 1 n what k3).2.2))), (6, .int (o_X8_idles_r ((L_X8_kind_3 v ms sl 1 n what k3).2.1) ms (upd (cp13 ((L_X8_kind_3 v ms sl 1 n what k3).2.2) 0 143) 144 (nI k3)) n n.toNatClampNeg)), (5, .int (nI k3)), (4, .int ((L_X8_kind_3 v ms sl 1 n what k3).1)), (0, .ref m), (1, .int 1), (2, .int n), (3, .int what)] → W zp l ze (zR 6 141) zs zm za zb zt zc H locs 0 0 zq (F0 zm 123 ls [.int y5_0, .ref m]) := by
                    intro y5_0 H locs ls e_y5_0 hG hl
                    subst e_y5_0
                    refine pf_X8_203 C dX8_kind_123 hG 0 rfl (Nat.le_of_ble_eq_true rfl) (ws' := [(m, .inr (8, [.int (((L_X8_kind_3 v ms sl 1 n what k3).2.1) 0), .int (((L_X8_kind_3 v ms sl 1 n what k3).2.1) 1), .ref aS, .int (((L_X8_kind_3 v ms sl 1 n what k3).2.1) 2), .int (((L_X8_kind_3 v ms sl 1 n what k3).2.1) 3), .int (((L_X8_kind_3 v ms sl 1 n what k3).2.1) 4), .ref aW, .int (((L_X8_kind_3 v ms sl 1 n what k3).2.1) 5), .ref aL, .int (((L_X8_kind_3 v ms sl 1 n what k3).2.1) 6), .int (((L_X8_kind_3 v ms sl 1 n what k3).2.1) 7), .int (((L_X8_kind_3 v ms sl 1 n what k3).2.1) 8), .ref aT, .int (((L_X8_kind_3 v ms sl 1 n what k3).2.1) 9), .int (((L_X8_kind_3 v ms sl 1 n what k3).2.1) 10), .int (((L_X8_kind_3 v ms sl 1 n what k3).2.1) 11), .int (((L_X8_kind_3 v ms sl 1 n what k3).2.1) 12), .ref a1, .ref a2, .ref a3, .ref aB, .int (((L_X8_kind_3 v ms sl 1 n what k3).2.1) 13), .int (j_X8_kind_5_0 v ms sl 1 n what k3 ((L_X8_kind_3 v ms sl 1 n what k3).1) ((L_X8_kind_3 v ms sl 1 n what k3).2.1) ((L_X8_kind_3 v ms sl 1 n what k3).2.2))])), (aS, .inl (E.2.1.1, 12, .inl ms)), (aL, .inl (E.2.1.1, 156, .inl (o_X8_idles_2 ((L_X8_kind_3 v ms sl 1 n what k3).2.1) ms (upd (cp13 ((L_X8_kind_3 v ms sl 1 n what k3).2.2) 0 143) 144 (nI k3)) n n.toNatClampNeg)))]) rfl (fun H locs hG => ?_)
                    refine lv_iload hx hb dX8_kind_126 (lv_at hl 3 rfl) ?_
                    refine lv_iload hx hb dX8_kind_128 (lv_at hl 0 rfl) ?_
                    refine call_X8_133 C dX8_kind_130 (c_X8_larger l E ((L_X8_kind_3 v ms sl 1 n what k3).1) (j_X8_kind_4_0 v ms sl 1 n what k3 ((L_X8_kind_3 v ms sl 1 n what k3).1) ((L_X8_kind_3 v ms sl 1 n what k3).2.1) ((L_X8_kind_3 v ms sl 1 n what k3).2.2))) hl hG [] (by decide) rfl (ads := []) rfl rfl (ws' := [(m, .inr (8, [.int (((L_X8_kind_3 v ms sl 1 n what k3).2.1) 0), .int (((L_X8_kind_3 v ms sl 1 n what k3).2.1) 1), .ref aS, .int (((L_X8_kind_3 v ms sl 1 n what k3).2.1) 2), .int (((L_X8_kind_3 v ms sl 1 n what k3).2.1) 3), .int (((L_X8_kind_3 v ms sl 1 n what k3).2.1) 4), .ref aW, .int (((L_X8_kind_3 v ms sl 1 n what k3).2.1) 5), .ref aL, .int (((L_X8_kind_3 v ms sl 1 n what k3).2.1) 6), .int (((L_X8_kind_3 v ms sl 1 n what k3).2.1) 7), .int (((L_X8_kind_3 v ms sl 1 n what k3).2.1) 8), .ref aT, .int (((L_X8_kind_3 v ms sl 1 n what k3).2.1) 9), .int (((L_X8_kind_3 v ms sl 1 n what k3).2.1) 10), .int (((L_X8_kind_3 v ms sl 1 n what k3).2.1) 11), .int (((L_X8_kind_3 v ms sl 1 n what k3).2.1) 12), .ref a1, .ref a2, .ref a3, .ref aB, .int (((L_X8_kind_3 v ms sl 1 n what k3).2.1) 13), .int (j_X8_kind_5_0 v ms sl 1 n what k3 ((L_X8_kind_3 v ms sl 1 n what k3).1) ((L_X8_kind_3 v ms sl 1 n what k3).2.1) ((L_X8_kind_3 v ms sl 1 n what k3).2.2))])), (aS, .inl (E.2.1.1, 12, .inl ms)), (aL, .inl (E.2.1.1, 156, .inl (o_X8_idles_2 ((L_X8_kind_3 v ms sl 1 n what k3).2.1) ms (upd (cp13 ((L_X8_kind_3 v ms sl 1 n what k3).2.2) 0 143) 144 (nI k3)) n n.toNatClampNeg)))]) rfl rfl (rest := []) rfl (Nat.le_of_ble_eq_true rfl) ⟨Nat.le_of_ble_eq_true rfl, Nat.le_of_ble_eq_true rfl⟩ (fun H locs hG => ?_)
                    refine lv_istore (lv' := [(4, .int (o_X8_larger_r ((L_X8_kind_3 v ms sl 1 n what k3).1) (j_X8_kind_4_0 v ms sl 1 n what k3 ((L_X8_kind_3 v ms sl 1 n what k3).1) ((L_X8_kind_3 v ms sl 1 n what k3).2.1) ((L_X8_kind_3 v ms sl 1 n what k3).2.2)))), (7, .int (j_X8_kind_4_0 v ms sl 1 n what k3 ((L_X8_kind_3 v ms sl 1 n what k3).1) ((L_X8_kind_3 v ms sl 1 n what k3).2.1) ((L_X8_kind_3 v ms sl 1 n what k3).2.2))), (6, .int (o_X8_idles_r ((L_X8_kind_3 v ms sl 1 n what k3).2.1) ms (upd (cp13 ((L_X8_kind_3 v ms sl 1 n what k3).2.2) 0 143) 144 (nI k3)) n n.toNatClampNeg)), (5, .int (nI k3)), (0, .ref m), (1, .int 1), (2, .int n), (3, .int what)]) hx hb dX8_kind_133 hl (by decide) rfl (fun ls hl => ?_)
                    refine lv_iinc (v := (nI (k3 + 1))) (lv' := [(5, .int (nI (k3 + 1))), (4, .int (o_X8_larger_r ((L_X8_kind_3 v ms sl 1 n what k3).1) (j_X8_kind_4_0 v ms sl 1 n what k3 ((L_X8_kind_3 v ms sl 1 n what k3).1) ((L_X8_kind_3 v ms sl 1 n what k3).2.1) ((L_X8_kind_3 v ms sl 1 n what k3).2.2)))), (7, .int (j_X8_kind_4_0 v ms sl 1 n what k3 ((L_X8_kind_3 v ms sl 1 n what k3).1) ((L_X8_kind_3 v ms sl 1 n what k3).2.1) ((L_X8_kind_3 v ms sl 1 n what k3).2.2))), (6, .int (o_X8_idles_r ((L_X8_kind_3 v ms sl 1 n what k3).2.1) ms (upd (cp13 ((L_X8_kind_3 v ms sl 1 n what k3).2.2) 0 143) 144 (nI k3)) n n.toNatClampNeg)), (0, .ref m), (1, .int 1), (2, .int n), (3, .int what)]) hx hb dX8_kind_135 hl (k := 3) rfl (nI_1 _) (by decide) rfl (fun ls hl => ?_)
                    refine lv_goto (tgt := 52) hx hb dX8_kind_138 (by decide) ?_
                    exact ih3 (k3 + 1) (by omega) (o_X8_larger_r ((L_X8_kind_3 v ms sl 1 n what k3).1) (j_X8_kind_4_0 v ms sl 1 n what k3 ((L_X8_kind_3 v ms sl 1 n what k3).1) ((L_X8_kind_3 v ms sl 1 n what k3).2.1) ((L_X8_kind_3 v ms sl 1 n what k3).2.2))) (mkG15 (((L_X8_kind_3 v ms sl 1 n what k3).2.1) 0) (((L_X8_kind_3 v ms sl 1 n what k3).2.1) 1) (((L_X8_kind_3 v ms sl 1 n what k3).2.1) 2) (((L_X8_kind_3 v ms sl 1 n what k3).2.1) 3) (((L_X8_kind_3 v ms sl 1 n what k3).2.1) 4) (((L_X8_kind_3 v ms sl 1 n what k3).2.1) 5) (((L_X8_kind_3 v ms sl 1 n what k3).2.1) 6) (((L_X8_kind_3 v ms sl 1 n what k3).2.1) 7) (((L_X8_kind_3 v ms sl 1 n what k3).2.1) 8) (((L_X8_kind_3 v ms sl 1 n what k3).2.1) 9) (((L_X8_kind_3 v ms sl 1 n what k3).2.1) 10) (((L_X8_kind_3 v ms sl 1 n what k3).2.1) 11) (((L_X8_kind_3 v ms sl 1 n what k3).2.1) 12) (((L_X8_kind_3 v ms sl 1 n what k3).2.1) 13) (j_X8_kind_5_0 v ms sl 1 n what k3 ((L_X8_kind_3 v ms sl 1 n what k3).1) ((L_X8_kind_3 v ms sl 1 n what k3).2.1) ((L_X8_kind_3 v ms sl 1 n what k3).2.2))) (o_X8_idles_2 ((L_X8_kind_3 v ms sl 1 n what k3).2.1) ms (upd (cp13 ((L_X8_kind_3 v ms sl 1 n what k3).2.2) 0 143) 144 (nI k3)) n n.toNatClampNeg) _ _ _ (by rw [L_X8_kind_3]) (by rw [L_X8_kind_3]) (by rw [L_X8_kind_3]) hG (lv_sub hl [0, 1, 4, 5, 6, 7] rfl)
                  refine lv_icmp_le (tgt := 119) hx hb dX8_kind_111 (by decide) (fun c_27 => ?_) (fun c_27 => ?_)
                  · skip
                    refine lv_aload_n hx hb dX8_kind_119 rfl (lv_at hl 4 rfl) ?_
                    refine gf_X8_203 C dX8_kind_120 hG 0 rfl rfl ?_
                    exact k_5 (((L_X8_kind_3 v ms sl 1 n what k3).2.1) 14) _ _ _ (by rw [j_X8_kind_5_0, if_pos c_27]) hG (lv_sub hl [0, 1, 2, 3, 4, 5, 6, 7] rfl)
                  · skip
                    refine lv_iload hx hb dX8_kind_114 (lv_at hl 2 rfl) ?_
                    refine lv_goto (tgt := 123) hx hb dX8_kind_116 (by decide) ?_
                    exact k_5 (nI k3) _ _ _ (by rw [j_X8_kind_5_0, if_neg c_27]) hG (lv_sub hl [0, 1, 2, 3, 4, 5, 6, 7] rfl)
                refine lv_if_ge (tgt := 94) hx hb dX8_kind_87 (by decide) (fun c_26 => ?_) (fun c_26 => ?_)
                · skip
                  refine lv_aload_n hx hb dX8_kind_94 rfl (lv_at hl 3 rfl) ?_
                  refine gf_X8_16 C dX8_kind_95 hG 0 rfl rfl ?_
                  refine lv_sipush (v := 145) hx hb dX8_kind_98 (by decide) ?_
                  refine lv_iload_n hx hb dX8_kind_101 rfl (lv_at hl 4 rfl) ?_
                  refine lv_iadd hx hb dX8_kind_102 ?_
                  refine z_ti (y := 146) (by decide) ?_
                  refine z_ild C dX8_kind_103 hG 2 rfl 146 (by decide) (Nat.le_of_ble_eq_true rfl) (Nat.le_of_ble_eq_true rfl) ?_
                  exact k_4 ((o_X8_idles_2 ((L_X8_kind_3 v ms sl 1 n what k3).2.1) ms (upd (cp13 ((L_X8_kind_3 v ms sl 1 n what k3).2.2) 0 143) 144 (nI k3)) n n.toNatClampNeg) 146) _ _ _ (by rw [j_X8_kind_4_0, if_pos c_26]) hG (lv_sub hl [0, 1, 2, 3, 4, 5, 6] rfl)
                · skip
                  refine lv_iconst (v := 0) hx hb dX8_kind_90 (by decide) ?_
                  refine lv_goto (tgt := 104) hx hb dX8_kind_91 (by decide) ?_
                  exact k_4 0 _ _ _ (by rw [j_X8_kind_4_0, if_neg c_26]) hG (lv_sub hl [0, 1, 2, 3, 4, 5, 6] rfl)
            exact kl_3 5 0 (by omega) (-1) (mkG15 (v 0) (v 1) (v 2) (v 3) (v 4) (v 5) (v 6) (v 7) (v 8) (v 9) (v 10) (v 11) (v 12) (v 13) 0) sl _ _ _ (by rw [L_X8_kind_3]) (by rw [L_X8_kind_3]) (by rw [L_X8_kind_3]) hG (lv_sub hl [0, 1, 2, 3, 4, 5] rfl)
          · skip
            refine lv_bipush (v := (-2)) hx hb dX8_kind_38 (by decide) ?_
            rw [hQ]
            exact z_iret C hr hlk hG dX8_kind_40 rfl (by rw [o_X8_kind_r, if_neg c_1, if_neg c_2, if_neg c_3, if_neg (by decide : ¬ (1 : Int32) = 0), if_neg c_16]) (by rw [o_X8_kind_v, if_neg c_1, if_neg c_2, if_neg c_3, if_neg (by decide : ¬ (1 : Int32) = 0), if_neg c_16, o_X8_kind_2, if_neg c_1, if_neg c_2, if_neg c_3, if_neg (by decide : ¬ (1 : Int32) = 0), if_neg c_16])
      · skip
        refine lv_iconst (v := (-1)) hx hb dX8_kind_29 (by decide) ?_
        rw [hQ]
        exact z_iret C hr hlk hG dX8_kind_30 rfl (by rw [o_X8_kind_r, if_neg c_1, if_neg c_2, if_pos c_3]) (by rw [o_X8_kind_v, if_neg c_1, if_neg c_2, if_pos c_3, o_X8_kind_2, if_neg c_1, if_neg c_2, if_pos c_3])
def j_X8_isSo_1_0 (v : Nat → Int32) (ms : Nat → Int32) (sl : Nat → Int32) (f1 : Nat → Int32) (f2 : Nat → Int32) (f3 : Nat → Int32) (a_ : Int32) (b_ : Int32) (ns : Nat) (k0 : Nat) (u0_0 : Int32) (u0_1 : Nat → Int32) : Int32 := (if (nI (k0 + 1)) = 1 then (o_X8_told_143_r v ms u0_1 a_ b_) else (o_X8_told_143_r v ms u0_1 0 0))
def j_X8_isSo_1_1 (v : Nat → Int32) (ms : Nat → Int32) (sl : Nat → Int32) (f1 : Nat → Int32) (f2 : Nat → Int32) (f3 : Nat → Int32) (a_ : Int32) (b_ : Int32) (ns : Nat) (k0 : Nat) (u0_0 : Int32) (u0_1 : Nat → Int32) : Nat → Int32 := (if (nI (k0 + 1)) = 1 then (o_X8_told_143_2 v ms u0_1 a_ b_) else (o_X8_told_143_2 v ms u0_1 0 0))
def j_X8_isSo_3_0 (v : Nat → Int32) (ms : Nat → Int32) (sl : Nat → Int32) (f1 : Nat → Int32) (f2 : Nat → Int32) (f3 : Nat → Int32) (a_ : Int32) (b_ : Int32) (ns : Nat) (k0 : Nat) (u0_0 : Int32) (u0_1 : Nat → Int32) (k2 : Nat) (u2_0 : Int32) : Int32 := (if u2_0 = 0 then 0 else (if (j_X8_isSo_1_0 v ms sl f1 f2 f3 a_ b_ ns k0 u0_0 u0_1) < 0 then 0 else (if (f2 k2) = (nI (k0 + 1)) then (if ((j_X8_isSo_1_1 v ms sl f1 f2 f3 a_ b_ ns k0 u0_0 u0_1) ((145 + (f1 k2)).toNatClampNeg)) = (f3 k2) then 1 else 0) else 1)))
def L_X8_isSo_2 (v : Nat → Int32) (ms : Nat → Int32) (sl : Nat → Int32) (f1 : Nat → Int32) (f2 : Nat → Int32) (f3 : Nat → Int32) (a_ : Int32) (b_ : Int32) (ns : Nat) (k0 : Nat) (u0_0 : Int32) (u0_1 : Nat → Int32) : Nat → Int32
  | 0 => u0_0
  | (k2 + 1) => (j_X8_isSo_3_0 v ms sl f1 f2 f3 a_ b_ ns k0 u0_0 u0_1 k2 (L_X8_isSo_2 v ms sl f1 f2 f3 a_ b_ ns k0 u0_0 u0_1 k2))
def L_X8_isSo_0 (v : Nat → Int32) (ms : Nat → Int32) (sl : Nat → Int32) (f1 : Nat → Int32) (f2 : Nat → Int32) (f3 : Nat → Int32) (a_ : Int32) (b_ : Int32) (ns : Nat) : Nat → Int32 × (Nat → Int32)
  | 0 => (1, sl)
  | (k0 + 1) => ((L_X8_isSo_2 v ms sl f1 f2 f3 a_ b_ ns k0 ((L_X8_isSo_0 v ms sl f1 f2 f3 a_ b_ ns k0).1) ((L_X8_isSo_0 v ms sl f1 f2 f3 a_ b_ ns k0).2) ns), (j_X8_isSo_1_1 v ms sl f1 f2 f3 a_ b_ ns k0 ((L_X8_isSo_0 v ms sl f1 f2 f3 a_ b_ ns k0).1) ((L_X8_isSo_0 v ms sl f1 f2 f3 a_ b_ ns k0).2)))
def o_X8_isSo_r (v : Nat → Int32) (ms : Nat → Int32) (sl : Nat → Int32) (f1 : Nat → Int32) (f2 : Nat → Int32) (f3 : Nat → Int32) (a_ : Int32) (b_ : Int32) (ns : Nat) : Int32 := ((L_X8_isSo_0 v ms sl f1 f2 f3 a_ b_ ns 24).1)
def o_X8_isSo_2 (v : Nat → Int32) (ms : Nat → Int32) (sl : Nat → Int32) (f1 : Nat → Int32) (f2 : Nat → Int32) (f3 : Nat → Int32) (a_ : Int32) (b_ : Int32) (ns : Nat) : Nat → Int32 := ((L_X8_isSo_0 v ms sl f1 f2 f3 a_ b_ ns 24).2)
theorem so_inner (v : Nat → Int32) (ms : Nat → Int32) (sl : Nat → Int32) (f1 : Nat → Int32) (f2 : Nat → Int32) (f3 : Nat → Int32) (a_ : Int32) (b_ : Int32) (ns : Nat) (k0 : Nat) (u0_0 : Int32) (u0_1 : Nat → Int32) (h : u0_0 = 0 ∨ u0_0 = 1) : ∀ k, L_X8_isSo_2 v ms sl f1 f2 f3 a_ b_ ns k0 u0_0 u0_1 k = 0 ∨ L_X8_isSo_2 v ms sl f1 f2 f3 a_ b_ ns k0 u0_0 u0_1 k = 1 := by
  intro k
  induction k with
  | zero => exact h
  | succ k ih => rw [L_X8_isSo_2]; unfold j_X8_isSo_3_0; (repeat' split) <;> first | exact Or.inl rfl | exact Or.inr rfl
theorem so_jlow (v ms sl f1 f2 f3 : Nat → Int32) (a_ b_ : Int32) (ns : Nat) (k : Nat) (x : Int32) (y : Nat → Int32) {j : Nat} (h : j < 143) : j_X8_isSo_1_1 v ms sl f1 f2 f3 a_ b_ ns k x y j = y j := by
  unfold j_X8_isSo_1_1
  split
  · exact low_told_143 _ _ _ _ _ h
  · exact low_told_143 _ _ _ _ _ h
theorem so_jmB (v ms sl f1 f2 f3 : Nat → Int32) (a_ b_ : Int32) (ns : Nat) (k : Nat) (x : Int32) (y : Nat → Int32) {b : Int} (hb : b < 2000000000) (h : mB b (y 154)) : mB (b + 1) (j_X8_isSo_1_1 v ms sl f1 f2 f3 a_ b_ ns k x y 154) := by
  unfold j_X8_isSo_1_1
  split
  · exact mB_told_143 hb _ _ _ _ _ h
  · exact mB_told_143 hb _ _ _ _ _ h
theorem so_mB (v ms sl f1 f2 f3 : Nat → Int32) (a_ b_ : Int32) (ns : Nat) (hB : mB 1000000 (sl 154)) : ∀ k : Nat, k ≤ 1000 → mB (1000000 + (k : Int)) ((L_X8_isSo_0 v ms sl f1 f2 f3 a_ b_ ns k).2 154) := by
  intro k
  induction k with
  | zero => intro _; exact (by simpa using hB : mB (1000000 + ((0 : Nat) : Int)) (sl 154))
  | succ k ih =>
    intro hk
    have := so_jmB v ms sl f1 f2 f3 a_ b_ ns k (L_X8_isSo_0 v ms sl f1 f2 f3 a_ b_ ns k).1 (L_X8_isSo_0 v ms sl f1 f2 f3 a_ b_ ns k).2 (by omega) (ih (by omega))
    rw [L_X8_isSo_0]
    rw [show ((1000000 : Int) + ((k + 1 : Nat) : Int)) = 1000000 + (k : Int) + 1 from by omega]
    exact this
theorem so_low (v ms sl f1 f2 f3 : Nat → Int32) (a_ b_ : Int32) (ns : Nat) {j : Nat} (h : j < 143) : ∀ k, (L_X8_isSo_0 v ms sl f1 f2 f3 a_ b_ ns k).2 j = sl j := by
  intro k
  induction k with
  | zero => rfl
  | succ k ih =>
    rw [L_X8_isSo_0]
    exact (so_jlow v ms sl f1 f2 f3 a_ b_ ns k (L_X8_isSo_0 v ms sl f1 f2 f3 a_ b_ ns k).1 (L_X8_isSo_0 v ms sl f1 f2 f3 a_ b_ ns k).2 h).trans ih
theorem so_01 (v ms sl f1 f2 f3 : Nat → Int32) (a_ b_ : Int32) (ns : Nat) : ∀ k, (L_X8_isSo_0 v ms sl f1 f2 f3 a_ b_ ns k).1 = 0 ∨ (L_X8_isSo_0 v ms sl f1 f2 f3 a_ b_ ns k).1 = 1 := by
  intro k
  induction k with
  | zero => exact Or.inr rfl
  | succ k ih => rw [L_X8_isSo_0]; exact so_inner _ _ _ _ _ _ _ _ _ _ _ _ ih _
set_option maxRecDepth 100000 in
set_option maxHeartbeats 4000000 in
theorem c_X8_isSo (l : Launch) (E : zE) (v : Nat → Int32) (ms : Nat → Int32) (sl : Nat → Int32) (f1 : Nat → Int32) (f2 : Nat → Int32) (f3 : Nat → Int32) (a_ : Int32) (b_ : Int32) (ns : Nat) (m aS aW aL aT a1 a2 a3 aB : Nat) (hB : mB 1000000 (sl 154)) (hz : v 12 = nI ns) (hz6 : ns ≤ 6) (hw : ∀ j, j < ns → f1 j = 0 ∨ f1 j = 1) : HM l E yX8_isSo cX8_isSo 7 (some .boolean) 5 118 [.ref m, .int a_, .int b_] [(m, .inr (8, [.int (v 0), .int (v 1), .ref aS, .int (v 2), .int (v 3), .int (v 4), .ref aW, .int (v 5), .ref aL, .int (v 6), .int (v 7), .int (v 8), .ref aT, .int (v 9), .int (v 10), .int (v 11), .int (v 12), .ref a1, .ref a2, .ref a3, .ref aB, .int (v 13), .int (v 14)])), (aS, .inl (E.2.1.1, 12, .inl ms)), (aL, .inl (E.2.1.1, 156, .inl sl)), (a1, .inl (E.2.1.1, 6, .inl f1)), (a2, .inl (E.2.1.1, 6, .inl f2)), (a3, .inl (E.2.1.1, 6, .inl f3))] (some (.int (o_X8_isSo_r v ms sl f1 f2 f3 a_ b_ ns))) [(m, .inr (8, [.int (v 0), .int (v 1), .ref aS, .int (v 2), .int (v 3), .int (v 4), .ref aW, .int (v 5), .ref aL, .int (v 6), .int (v 7), .int (v 8), .ref aT, .int (v 9), .int (v 10), .int (v 11), .int (v 12), .ref a1, .ref a2, .ref a3, .ref aB, .int (v 13), .int (v 14)])), (aS, .inl (E.2.1.1, 12, .inl ms)), (aL, .inl (E.2.1.1, 156, .inl (o_X8_isSo_2 v ms sl f1 f2 f3 a_ b_ ns))), (a1, .inl (E.2.1.1, 6, .inl f1)), (a2, .inl (E.2.1.1, 6, .inl f2)), (a3, .inl (E.2.1.1, 6, .inl f3))] := by
  refine HM.of (own := RX8) (plainFor_of_name (by decide)) rfl (Nat.le_of_ble_eq_true rfl) ?_
  intro zp ze zs zm za zb zt zc zA ls H locs zq C hr hlk hG hl hQ
  have hx := C.1.1
  have hb := C.1.2.1
  replace hl : lv_has ls 7 [(0, .ref m), (1, .int a_), (2, .int b_)] := hl
  refine lv_iconst (v := 1) hx hb dX8_isSo_0 (by decide) ?_
  refine lv_istore_n (lv' := [(3, .int 1), (0, .ref m), (1, .int a_), (2, .int b_)]) hx hb dX8_isSo_1 rfl hl (by decide) rfl (fun ls hl => ?_)
  refine lv_iconst (v := 1) hx hb dX8_isSo_2 (by decide) ?_
  refine lv_istore (lv' := [(4, .int 1), (3, .int 1), (0, .ref m), (1, .int a_), (2, .int b_)]) hx hb dX8_isSo_3 hl (by decide) rfl (fun ls hl => ?_)
  have kl_0 : ∀ (j0 k0 : Nat), j0 + k0 = 24 → ∀ (u0_0 : Int32) (u0_1 : Nat → Int32) (H : Heap) (locs : List Loc) (ls : Array Slot), ((L_X8_isSo_0 v ms sl f1 f2 f3 a_ b_ ns k0).1) = u0_0 → ((L_X8_isSo_0 v ms sl f1 f2 f3 a_ b_ ns k0).2) = u0_1 → zG E zA zs.heap [(m, .inr (8, [.int (v 0), .int (v 1), .ref aS, .int (v 2), .int (v 3), .int (v 4), .ref aW, .int (v 5), .ref aL, .int (v 6), .int (v 7), .int (v 8), .ref aT, .int (v 9), .int (v 10), .int (v 11), .int (v 12), .ref a1, .ref a2, .ref a3, .ref aB, .int (v 13), .int (v 14)])), (aS, .inl (E.2.1.1, 12, .inl ms)), (aL, .inl (E.2.1.1, 156, .inl u0_1)), (a1, .inl (E.2.1.1, 6, .inl f1)), (a2, .inl (E.2.1.1, 6, .inl f2)), (a3, .inl (E.2.1.1, 6, .inl f3))] H locs → lv_has ls 7 [(4, .int (nI (k0 + 1))), (3, .int u0_0), (0, .ref m), (1, .int a_), (2, .int b_)] → W zp l ze (zR 5 118) zs zm za zb zt zc H locs 0 0 zq (F0 zm 5 ls []) := by
    intro j0
    induction j0 with
    | zero =>
      intro k0 hk0 u0_0 u0_1 H locs ls e_u0_0 e_u0_1 hG hl
      subst e_u0_0
      subst e_u0_1
      obtain rfl : k0 = 24 := by omega
      refine lv_iload hx hb dX8_isSo_5 (lv_at hl 0 rfl) ?_
      refine lv_bipush (v := 24) hx hb dX8_isSo_7 (by decide) ?_
      refine lv_icmp_gt (tgt := 118) hx hb dX8_isSo_9 (by decide) (fun c_27 => ?_) (fun c_27 => absurd (z_gt_yes (N := 24) (by decide) (by decide) rfl) c_27)
      refine lv_iload_n hx hb dX8_isSo_118 rfl (lv_at hl 1 rfl) ?_
      rw [hQ]
      exact z_iret C hr hlk hG dX8_isSo_119 (z_b01 (so_01 v ms sl f1 f2 f3 a_ b_ ns 24)) (by rw [o_X8_isSo_r]) (by rw [o_X8_isSo_2])
    | succ j0 ih0 =>
      intro k0 hk0 u0_0 u0_1 H locs ls e_u0_0 e_u0_1 hG hl
      subst e_u0_0
      subst e_u0_1
      have hlt : k0 < 24 := by omega
      refine lv_iload hx hb dX8_isSo_5 (lv_at hl 0 rfl) ?_
      refine lv_bipush (v := 24) hx hb dX8_isSo_7 (by decide) ?_
      refine lv_icmp_gt (tgt := 118) hx hb dX8_isSo_9 (by decide) (fun c_28 => absurd c_28 (z_gt_no (N := 24) hlt (by decide) rfl)) (fun c_28 => ?_)
      refine lv_iload hx hb dX8_isSo_12 (lv_at hl 0 rfl) ?_
      refine lv_iconst (v := 1) hx hb dX8_isSo_14 (by decide) ?_
      have k_1 : ∀ (y1_0 : Int32) (y1_1 : Nat → Int32) (H : Heap) (locs : List Loc) (ls : Array Slot), (j_X8_isSo_1_0 v ms sl f1 f2 f3 a_ b_ ns k0 ((L_X8_isSo_0 v ms sl f1 f2 f3 a_ b_ ns k0).1) ((L_X8_isSo_0 v ms sl f1 f2 f3 a_ b_ ns k0).2)) = y1_0 → (j_X8_isSo_1_1 v ms sl f1 f2 f3 a_ b_ ns k0 ((L_X8_isSo_0 v ms sl f1 f2 f3 a_ b_ ns k0).1) ((L_X8_isSo_0 v ms sl f1 f2 f3 a_ b_ ns k0).2)) = y1_1 → zG E zA zs.heap [(m, .inr (8, [.int (v 0), .int (v 1), .ref aS, .int (v 2), .int (v 3), .int (v 4), .ref aW, .int (v 5), .ref aL, .int (v 6), .int (v 7), .int (v 8), .ref aT, .int (v 9), .int (v 10), .int (v 11), .int (v 12), .ref a1, .ref a2, .ref a3, .ref aB, .int (v 13), .int (v 14)])), (aS, .inl (E.2.1.1, 12, .inl ms)), (aL, .inl (E.2.1.1, 156, .inl y1_1)), (a1, .inl (E.2.1.1, 6, .inl f1)), (a2, .inl (E.2.1.1, 6, .inl f2)), (a3, .inl (E.2.1.1, 6, .inl f3))] H locs → lv_has ls 7 [(4, .int (nI (k0 + 1))), (3, .int ((L_X8_isSo_0 v ms sl f1 f2 f3 a_ b_ ns k0).1)), (0, .ref m), (1, .int a_), (2, .int b_)] → W zp l ze (zR 5 118) zs zm za zb zt zc H locs 0 0 zq (F0 zm 39 ls [.int y1_0]) := by
        intro y1_0 y1_1 H locs ls e_y1_0 e_y1_1 hG hl
        subst e_y1_0
        subst e_y1_1
        refine lv_istore (lv' := [(5, .int (j_X8_isSo_1_0 v ms sl f1 f2 f3 a_ b_ ns k0 ((L_X8_isSo_0 v ms sl f1 f2 f3 a_ b_ ns k0).1) ((L_X8_isSo_0 v ms sl f1 f2 f3 a_ b_ ns k0).2))), (4, .int (nI (k0 + 1))), (3, .int ((L_X8_isSo_0 v ms sl f1 f2 f3 a_ b_ ns k0).1)), (0, .ref m), (1, .int a_), (2, .int b_)]) hx hb dX8_isSo_39 hl (by decide) rfl (fun ls hl => ?_)
        refine lv_iconst (v := 0) hx hb dX8_isSo_41 (by decide) ?_
        refine lv_istore (lv' := [(6, .int 0), (5, .int (j_X8_isSo_1_0 v ms sl f1 f2 f3 a_ b_ ns k0 ((L_X8_isSo_0 v ms sl f1 f2 f3 a_ b_ ns k0).1) ((L_X8_isSo_0 v ms sl f1 f2 f3 a_ b_ ns k0).2))), (4, .int (nI (k0 + 1))), (3, .int ((L_X8_isSo_0 v ms sl f1 f2 f3 a_ b_ ns k0).1)), (0, .ref m), (1, .int a_), (2, .int b_)]) hx hb dX8_isSo_42 hl (by decide) rfl (fun ls hl => ?_)
        have kl_2 : ∀ (j2 k2 : Nat), j2 + k2 = ns → ∀ (u2_0 : Int32) (H : Heap) (locs : List Loc) (ls : Array Slot), (L_X8_isSo_2 v ms sl f1 f2 f3 a_ b_ ns k0 ((L_X8_isSo_0 v ms sl f1 f2 f3 a_ b_ ns k0).1) ((L_X8_isSo_0 v ms sl f1 f2 f3 a_ b_ ns k0).2) k2) = u2_0 → zG E zA zs.heap [(m, .inr (8, [.int (v 0), .int (v 1), .ref aS, .int (v 2), .int (v 3), .int (v 4), .ref aW, .int (v 5), .ref aL, .int (v 6), .int (v 7), .int (v 8), .ref aT, .int (v 9), .int (v 10), .int (v 11), .int (v 12), .ref a1, .ref a2, .ref a3, .ref aB, .int (v 13), .int (v 14)])), (aS, .inl (E.2.1.1, 12, .inl ms)), (aL, .inl (E.2.1.1, 156, .inl (j_X8_isSo_1_1 v ms sl f1 f2 f3 a_ b_ ns k0 ((L_X8_isSo_0 v ms sl f1 f2 f3 a_ b_ ns k0).1) ((L_X8_isSo_0 v ms sl f1 f2 f3 a_ b_ ns k0).2)))), (a1, .inl (E.2.1.1, 6, .inl f1)), (a2, .inl (E.2.1.1, 6, .inl f2)), (a3, .inl (E.2.1.1, 6, .inl f3))] H locs → lv_has ls 7 [(6, .int (nI k2)), (5, .int (j_X8_isSo_1_0 v ms sl f1 f2 f3 a_ b_ ns k0 ((L_X8_isSo_0 v ms sl f1 f2 f3 a_ b_ ns k0).1) ((L_X8_isSo_0 v ms sl f1 f2 f3 a_ b_ ns k0).2))), (4, .int (nI (k0 + 1))), (3, .int u2_0), (0, .ref m), (1, .int a_), (2, .int b_)] → W zp l ze (zR 5 118) zs zm za zb zt zc H locs 0 0 zq (F0 zm 44 ls []) := by
          intro j2
          induction j2 with
          | zero =>
            intro k2 hk2 u2_0 H locs ls e_u2_0 hG hl
            subst e_u2_0
            obtain rfl : ns = k2 := by omega
            refine lv_iload hx hb dX8_isSo_44 (lv_at hl 0 rfl) ?_
            refine lv_aload_n hx hb dX8_isSo_46 rfl (lv_at hl 4 rfl) ?_
            refine gf_X8_111 C dX8_isSo_47 hG 0 rfl rfl ?_
            refine lv_icmp_ge (tgt := 112) hx hb dX8_isSo_50 (by decide) (fun c_40 => ?_) (fun c_40 => absurd (z_ge_yes hz) c_40)
            refine lv_iinc (v := (nI ((k0 + 1) + 1))) (lv' := [(4, .int (nI ((k0 + 1) + 1))), (6, .int (nI ns)), (5, .int (j_X8_isSo_1_0 v ms sl f1 f2 f3 a_ b_ ns k0 ((L_X8_isSo_0 v ms sl f1 f2 f3 a_ b_ ns k0).1) ((L_X8_isSo_0 v ms sl f1 f2 f3 a_ b_ ns k0).2))), (3, .int (L_X8_isSo_2 v ms sl f1 f2 f3 a_ b_ ns k0 ((L_X8_isSo_0 v ms sl f1 f2 f3 a_ b_ ns k0).1) ((L_X8_isSo_0 v ms sl f1 f2 f3 a_ b_ ns k0).2) ns)), (0, .ref m), (1, .int a_), (2, .int b_)]) hx hb dX8_isSo_112 hl (k := 2) rfl (nI_1 _) (by decide) rfl (fun ls hl => ?_)
            refine lv_goto (tgt := 5) hx hb dX8_isSo_115 (by decide) ?_
            exact ih0 (k0 + 1) (by omega) (L_X8_isSo_2 v ms sl f1 f2 f3 a_ b_ ns k0 ((L_X8_isSo_0 v ms sl f1 f2 f3 a_ b_ ns k0).1) ((L_X8_isSo_0 v ms sl f1 f2 f3 a_ b_ ns k0).2) ns) (j_X8_isSo_1_1 v ms sl f1 f2 f3 a_ b_ ns k0 ((L_X8_isSo_0 v ms sl f1 f2 f3 a_ b_ ns k0).1) ((L_X8_isSo_0 v ms sl f1 f2 f3 a_ b_ ns k0).2)) _ _ _ (by rw [L_X8_isSo_0]) (by rw [L_X8_isSo_0]) hG (lv_sub hl [0, 3, 4, 5, 6] rfl)
          | succ j2 ih2 =>
            intro k2 hk2 u2_0 H locs ls e_u2_0 hG hl
            subst e_u2_0
            have hlt : k2 < ns := by omega
            refine lv_iload hx hb dX8_isSo_44 (lv_at hl 0 rfl) ?_
            refine lv_aload_n hx hb dX8_isSo_46 rfl (lv_at hl 4 rfl) ?_
            refine gf_X8_111 C dX8_isSo_47 hG 0 rfl rfl ?_
            refine lv_icmp_ge (tgt := 112) hx hb dX8_isSo_50 (by decide) (fun c_41 => absurd c_41 (z_ge_no hlt (by omega) hz)) (fun c_41 => ?_)
            refine lv_iload_n hx hb dX8_isSo_53 rfl (lv_at hl 3 rfl) ?_
            have k_3 : ∀ (y3_0 : Int32) (H : Heap) (locs : List Loc) (ls : Array Slot), (j_X8_isSo_3_0 v ms sl f1 f2 f3 a_ b_ ns k0 ((L_X8_isSo_0 v ms sl f1 f2 f3 a_ b_ ns k0).1) ((L_X8_isSo_0 v ms sl f1 f2 f3 a_ b_ ns k0).2) k2 (L_X8_isSo_2 v ms sl f1 f2 f3 a_ b_ ns k0 ((L_X8_isSo_0 v ms sl f1 f2 f3 a_ b_ ns k0).1) ((L_X8_isSo_0 v ms sl f1 f2 f3 a_ b_ ns k0).2) k2)) = y3_0 → zG E zA zs.heap [(m, .inr (8, [.int (v 0), .int (v 1), .ref aS, .int (v 2), .int (v 3), .int (v 4), .ref aW, .int (v 5), .ref aL, .int (v 6), .int (v 7), .int (v 8), .ref aT, .int (v 9), .int (v 10), .int (v 11), .int (v 12), .ref a1, .ref a2, .ref a3, .ref aB, .int (v 13), .int (v 14)])), (aS, .inl (E.2.1.1, 12, .inl ms)), (aL, .inl (E.2.1.1, 156, .inl (j_X8_isSo_1_1 v ms sl f1 f2 f3 a_ b_ ns k0 ((L_X8_isSo_0 v ms sl f1 f2 f3 a_ b_ ns k0).1) ((L_X8_isSo_0 v ms sl f1 f2 f3 a_ b_ ns k0).2)))), (a1, .inl (E.2.1.1, 6, .inl f1)), (a2, .inl (E.2.1.1, 6, .inl f2)), (a3, .inl (E.2.1.1, 6, .inl f3))] H locs → lv_has ls 7 [(6, .int (nI k2)), (5, .int (j_X8_isSo_1_0 v ms sl f1 f2 f3 a_ b_ ns k0 ((L_X8_isSo_0 v ms sl f1 f2 f3 a_ b_ ns k0).1) ((L_X8_isSo_0 v ms sl f1 f2 f3 a_ b_ ns k0).2))), (4, .int (nI (k0 + 1))), (3, .int (L_X8_isSo_2 v ms sl f1 f2 f3 a_ b_ ns k0 ((L_X8_isSo_0 v ms sl f1 f2 f3 a_ b_ ns k0).1) ((L_X8_isSo_0 v ms sl f1 f2 f3 a_ b_ ns k0).2) k2)), (0, .ref m), (1, .int a_), (2, .int b_)] → W zp l ze (zR 5 118) zs zm za zb zt zc H locs 0 0 zq (F0 zm 105 ls [.int y3_0]) := by
              intro y3_0 H locs ls e_y3_0 hG hl
              subst e_y3_0
              refine lv_istore_n (lv' := [(3, .int (j_X8_isSo_3_0 v ms sl f1 f2 f3 a_ b_ ns k0 ((L_X8_isSo_0 v ms sl f1 f2 f3 a_ b_ ns k0).1) ((L_X8_isSo_0 v ms sl f1 f2 f3 a_ b_ ns k0).2) k2 (L_X8_isSo_2 v ms sl f1 f2 f3 a_ b_ ns k0 ((L_X8_isSo_0 v ms sl f1 f2 f3 a_ b_ ns k0).1) ((L_X8_isSo_0 v ms sl f1 f2 f3 a_ b_ ns k0).2) k2))), (6, .int (nI k2)), (5, .int (j_X8_isSo_1_0 v ms sl f1 f2 f3 a_ b_ ns k0 ((L_X8_isSo_0 v ms sl f1 f2 f3 a_ b_ ns k0).1) ((L_X8_isSo_0 v ms sl f1 f2 f3 a_ b_ ns k0).2))), (4, .int (nI (k0 + 1))), (0, .ref m), (1, .int a_), (2, .int b_)]) hx hb dX8_isSo_105 rfl hl (by decide) rfl (fun ls hl => ?_)
              refine lv_iinc (v := (nI (k2 + 1))) (lv' := [(6, .int (nI (k2 + 1))), (3, .int (j_X8_isSo_3_0 v ms sl f1 f2 f3 a_ b_ ns k0 ((L_X8_isSo_0 v ms sl f1 f2 f3 a_ b_ ns k0).1) ((L_X8_isSo_0 v ms sl f1 f2 f3 a_ b_ ns k0).2) k2 (L_X8_isSo_2 v ms sl f1 f2 f3 a_ b_ ns k0 ((L_X8_isSo_0 v ms sl f1 f2 f3 a_ b_ ns k0).1) ((L_X8_isSo_0 v ms sl f1 f2 f3 a_ b_ ns k0).2) k2))), (5, .int (j_X8_isSo_1_0 v ms sl f1 f2 f3 a_ b_ ns k0 ((L_X8_isSo_0 v ms sl f1 f2 f3 a_ b_ ns k0).1) ((L_X8_isSo_0 v ms sl f1 f2 f3 a_ b_ ns k0).2))), (4, .int (nI (k0 + 1))), (0, .ref m), (1, .int a_), (2, .int b_)]) hx hb dX8_isSo_106 hl (k := 1) rfl (nI_1 _) (by decide) rfl (fun ls hl => ?_)
              refine lv_goto (tgt := 44) hx hb dX8_isSo_109 (by decide) ?_
              exact ih2 (k2 + 1) (by omega) (j_X8_isSo_3_0 v ms sl f1 f2 f3 a_ b_ ns k0 ((L_X8_isSo_0 v ms sl f1 f2 f3 a_ b_ ns k0).1) ((L_X8_isSo_0 v ms sl f1 f2 f3 a_ b_ ns k0).2) k2 (L_X8_isSo_2 v ms sl f1 f2 f3 a_ b_ ns k0 ((L_X8_isSo_0 v ms sl f1 f2 f3 a_ b_ ns k0).1) ((L_X8_isSo_0 v ms sl f1 f2 f3 a_ b_ ns k0).2) k2)) _ _ _ (by rw [L_X8_isSo_2]) hG (lv_sub hl [0, 2, 3, 1, 4, 5, 6] rfl)
            refine lv_if_eq (tgt := 104) hx hb dX8_isSo_54 (by decide) (fun c_42 => ?_) (fun c_42 => ?_)
            · skip
              refine lv_iconst (v := 0) hx hb dX8_isSo_104 (by decide) ?_
              exact k_3 0 _ _ _ (by rw [j_X8_isSo_3_0, if_pos c_42]) hG (lv_sub hl [0, 1, 2, 3, 4, 5, 6] rfl)
            · skip
              refine lv_iload hx hb dX8_isSo_57 (lv_at hl 1 rfl) ?_
              refine lv_if_lt (tgt := 104) hx hb dX8_isSo_59 (by decide) (fun c_46 => ?_) (fun c_46 => ?_)
              · skip
                refine lv_iconst (v := 0) hx hb dX8_isSo_104 (by decide) ?_
                exact k_3 0 _ _ _ (by rw [j_X8_isSo_3_0, if_neg c_42, if_pos c_46]) hG (lv_sub hl [0, 1, 2, 3, 4, 5, 6] rfl)
              · skip
                refine lv_aload_n hx hb dX8_isSo_62 rfl (lv_at hl 4 rfl) ?_
                refine gf_X8_26 C dX8_isSo_63 hG 0 rfl rfl ?_
                refine lv_iload hx hb dX8_isSo_66 (lv_at hl 0 rfl) ?_
                refine z_ild C dX8_isSo_68 hG 4 rfl k2 rfl (by omega) (Nat.le_of_ble_eq_true rfl) ?_
                refine lv_iload hx hb dX8_isSo_69 (lv_at hl 2 rfl) ?_
                refine lv_icmp_ne (tgt := 100) hx hb dX8_isSo_71 (by decide) (fun c_47 => ?_) (fun c_47 => ?_)
                · skip
                  refine lv_iconst (v := 1) hx hb dX8_isSo_100 (by decide) ?_
                  refine lv_goto (tgt := 105) hx hb dX8_isSo_101 (by decide) ?_
                  exact k_3 1 _ _ _ (by rw [j_X8_isSo_3_0, if_neg c_42, if_neg c_46, if_neg c_47]) hG (lv_sub hl [0, 1, 2, 3, 4, 5, 6] rfl)
                · skip
                  refine lv_aload_n hx hb dX8_isSo_74 rfl (lv_at hl 4 rfl) ?_
                  refine gf_X8_16 C dX8_isSo_75 hG 0 rfl rfl ?_
                  refine lv_sipush (v := 145) hx hb dX8_isSo_78 (by decide) ?_
                  refine lv_aload_n hx hb dX8_isSo_81 rfl (lv_at hl 4 rfl) ?_
                  refine gf_X8_23 C dX8_isSo_82 hG 0 rfl rfl ?_
                  refine lv_iload hx hb dX8_isSo_85 (lv_at hl 0 rfl) ?_
                  refine z_ild C dX8_isSo_87 hG 3 rfl k2 rfl (by omega) (Nat.le_of_ble_eq_true rfl) ?_
                  refine lv_iadd hx hb dX8_isSo_88 ?_
                  refine z_iald C dX8_isSo_89 hG 2 rfl (z_who (hw _ hlt)) ?_
                  refine lv_aload_n hx hb dX8_isSo_90 rfl (lv_at hl 4 rfl) ?_
                  refine gf_X8_29 C dX8_isSo_91 hG 0 rfl rfl ?_
                  refine lv_iload hx hb dX8_isSo_94 (lv_at hl 0 rfl) ?_
                  refine z_ild C dX8_isSo_96 hG 5 rfl k2 rfl (by omega) (Nat.le_of_ble_eq_true rfl) ?_
                  refine lv_icmp_ne (tgt := 104) hx hb dX8_isSo_97 (by decide) (fun c_48 => ?_) (fun c_48 => ?_)
                  · skip
                    refine lv_iconst (v := 0) hx hb dX8_isSo_104 (by decide) ?_
                    exact k_3 0 _ _ _ (by rw [j_X8_isSo_3_0, if_neg c_42, if_neg c_46, if_pos c_47, if_neg c_48]) hG (lv_sub hl [0, 1, 2, 3, 4, 5, 6] rfl)
                  · skip
                    refine lv_iconst (v := 1) hx hb dX8_isSo_100 (by decide) ?_
                    refine lv_goto (tgt := 105) hx hb dX8_isSo_101 (by decide) ?_
                    exact k_3 1 _ _ _ (by rw [j_X8_isSo_3_0, if_neg c_42, if_neg c_46, if_pos c_47, if_pos c_48]) hG (lv_sub hl [0, 1, 2, 3, 4, 5, 6] rfl)
        exact kl_2 ns 0 (by omega) ((L_X8_isSo_0 v ms sl f1 f2 f3 a_ b_ ns k0).1) _ _ _ (by rw [L_X8_isSo_2]) hG (lv_sub hl [0, 1, 2, 3, 4, 5, 6] rfl)
      refine lv_icmp_ne (tgt := 30) hx hb dX8_isSo_15 (by decide) (fun c_29 => ?_) (fun c_29 => ?_)
      · skip
        refine lv_aload_n hx hb dX8_isSo_30 rfl (lv_at hl 2 rfl) ?_
        refine lv_sipush (v := 143) hx hb dX8_isSo_31 (by decide) ?_
        refine lv_iconst (v := 0) hx hb dX8_isSo_34 (by decide) ?_
        refine lv_iconst (v := 0) hx hb dX8_isSo_35 (by decide) ?_
        refine call_X8_168 C dX8_isSo_36 (c_X8_told_143 l E v ms ((L_X8_isSo_0 v ms sl f1 f2 f3 a_ b_ ns k0).2) 0 0 m aS aW aL aT a1 a2 a3 aB (so_mB v ms sl f1 f2 f3 a_ b_ ns hB _ (by omega)).1) hl hG 0 rfl [0, 1, 2] (by decide) rfl (ads := [m, aS, aL]) rfl rfl (ws' := [(m, .inr (8, [.int (v 0), .int (v 1), .ref aS, .int (v 2), .int (v 3), .int (v 4), .ref aW, .int (v 5), .ref aL, .int (v 6), .int (v 7), .int (v 8), .ref aT, .int (v 9), .int (v 10), .int (v 11), .int (v 12), .ref a1, .ref a2, .ref a3, .ref aB, .int (v 13), .int (v 14)])), (aS, .inl (E.2.1.1, 12, .inl ms)), (aL, .inl (E.2.1.1, 156, .inl (o_X8_told_143_2 v ms ((L_X8_isSo_0 v ms sl f1 f2 f3 a_ b_ ns k0).2) 0 0))), (a1, .inl (E.2.1.1, 6, .inl f1)), (a2, .inl (E.2.1.1, 6, .inl f2)), (a3, .inl (E.2.1.1, 6, .inl f3))]) rfl rfl (rest := []) rfl (Nat.le_of_ble_eq_true rfl) ⟨Nat.le_of_ble_eq_true rfl, Nat.le_of_ble_eq_true rfl⟩ (fun H locs hG => ?_)
        exact k_1 (o_X8_told_143_r v ms ((L_X8_isSo_0 v ms sl f1 f2 f3 a_ b_ ns k0).2) 0 0) (o_X8_told_143_2 v ms ((L_X8_isSo_0 v ms sl f1 f2 f3 a_ b_ ns k0).2) 0 0) _ _ _ (by rw [j_X8_isSo_1_0, if_neg c_29]) (by rw [j_X8_isSo_1_1, if_neg c_29]) hG (lv_sub hl [0, 1, 2, 3, 4] rfl)
      · skip
        refine lv_aload_n hx hb dX8_isSo_18 rfl (lv_at hl 2 rfl) ?_
        refine lv_sipush (v := 143) hx hb dX8_isSo_19 (by decide) ?_
        refine lv_iload_n hx hb dX8_isSo_22 rfl (lv_at hl 3 rfl) ?_
        refine lv_iload_n hx hb dX8_isSo_23 rfl (lv_at hl 4 rfl) ?_
        refine call_X8_168 C dX8_isSo_24 (c_X8_told_143 l E v ms ((L_X8_isSo_0 v ms sl f1 f2 f3 a_ b_ ns k0).2) a_ b_ m aS aW aL aT a1 a2 a3 aB (so_mB v ms sl f1 f2 f3 a_ b_ ns hB _ (by omega)).1) hl hG 0 rfl [0, 1, 2] (by decide) rfl (ads := [m, aS, aL]) rfl rfl (ws' := [(m, .inr (8, [.int (v 0), .int (v 1), .ref aS, .int (v 2), .int (v 3), .int (v 4), .ref aW, .int (v 5), .ref aL, .int (v 6), .int (v 7), .int (v 8), .ref aT, .int (v 9), .int (v 10), .int (v 11), .int (v 12), .ref a1, .ref a2, .ref a3, .ref aB, .int (v 13), .int (v 14)])), (aS, .inl (E.2.1.1, 12, .inl ms)), (aL, .inl (E.2.1.1, 156, .inl (o_X8_told_143_2 v ms ((L_X8_isSo_0 v ms sl f1 f2 f3 a_ b_ ns k0).2) a_ b_))), (a1, .inl (E.2.1.1, 6, .inl f1)), (a2, .inl (E.2.1.1, 6, .inl f2)), (a3, .inl (E.2.1.1, 6, .inl f3))]) rfl rfl (rest := []) rfl (Nat.le_of_ble_eq_true rfl) ⟨Nat.le_of_ble_eq_true rfl, Nat.le_of_ble_eq_true rfl⟩ (fun H locs hG => ?_)
        refine lv_goto (tgt := 39) hx hb dX8_isSo_27 (by decide) ?_
        exact k_1 (o_X8_told_143_r v ms ((L_X8_isSo_0 v ms sl f1 f2 f3 a_ b_ ns k0).2) a_ b_) (o_X8_told_143_2 v ms ((L_X8_isSo_0 v ms sl f1 f2 f3 a_ b_ ns k0).2) a_ b_) _ _ _ (by rw [j_X8_isSo_1_0, if_pos c_29]) (by rw [j_X8_isSo_1_1, if_pos c_29]) hG (lv_sub hl [0, 1, 2, 3, 4] rfl)
  exact kl_0 24 0 (by omega) 1 sl _ _ _ (by rw [L_X8_isSo_0]) (by rw [L_X8_isSo_0]) hG (lv_sub hl [0, 1, 2, 3, 4] rfl)
theorem o_X8_isSo_b (v : Nat → Int32) (ms : Nat → Int32) (sl : Nat → Int32) (f1 : Nat → Int32) (f2 : Nat → Int32) (f3 : Nat → Int32) (a_ : Int32) (b_ : Int32) (ns : Nat) : o_X8_isSo_r v ms sl f1 f2 f3 a_ b_ ns = 0 ∨ o_X8_isSo_r v ms sl f1 f2 f3 a_ b_ ns = 1 := by
  unfold o_X8_isSo_r; exact so_01 v ms sl f1 f2 f3 a_ b_ ns 24
theorem low_isSo (v ms sl f1 f2 f3 : Nat → Int32) (a_ b_ : Int32) (ns : Nat) {j : Nat} (h : j < 143) : o_X8_isSo_2 v ms sl f1 f2 f3 a_ b_ ns j = sl j := by
  rw [o_X8_isSo_2, so_low _ _ _ _ _ _ _ _ _ h]
def j_X8_did_1_0 (v : Nat → Int32) (ms : Nat → Int32) (sl : Nat → Int32) (f1 : Nat → Int32) (f2 : Nat → Int32) (f3 : Nat → Int32) (p : Int32) (ns : Nat) (k0 : Nat) (u0_0 : Int32) (u0_1 : Nat → Int32) : Int32 := (if (o_X8_isSo_r v ms (cp13 u0_1 0 143) f1 f2 f3 (nI k0) 0 ns) = 0 then 0 else (1 <<< ((nI k0) &&& 31)))
def L_X8_did_0 (v : Nat → Int32) (ms : Nat → Int32) (sl : Nat → Int32) (f1 : Nat → Int32) (f2 : Nat → Int32) (f3 : Nat → Int32) (p : Int32) (ns : Nat) : Nat → Int32 × (Nat → Int32)
  | 0 => (0, sl)
  | (k0 + 1) => ((((L_X8_did_0 v ms sl f1 f2 f3 p ns k0).1) ||| (j_X8_did_1_0 v ms sl f1 f2 f3 0 ns k0 ((L_X8_did_0 v ms sl f1 f2 f3 p ns k0).1) ((L_X8_did_0 v ms sl f1 f2 f3 p ns k0).2))), (o_X8_isSo_2 v ms (cp13 ((L_X8_did_0 v ms sl f1 f2 f3 p ns k0).2) 0 143) f1 f2 f3 (nI k0) 0 ns))
def j_X8_did_3_0 (v : Nat → Int32) (ms : Nat → Int32) (sl : Nat → Int32) (f1 : Nat → Int32) (f2 : Nat → Int32) (f3 : Nat → Int32) (p : Int32) (ns : Nat) (k2 : Nat) (u2_0 : Int32) (u2_1 : Nat → Int32) : Int32 := (if (o_X8_isSo_r v ms (cp13 u2_1 0 143) f1 f2 f3 0 (nI k2) ns) = 0 then 0 else (1 <<< ((nI k2) &&& 31)))
def L_X8_did_2 (v : Nat → Int32) (ms : Nat → Int32) (sl : Nat → Int32) (f1 : Nat → Int32) (f2 : Nat → Int32) (f3 : Nat → Int32) (p : Int32) (ns : Nat) : Nat → Int32 × (Nat → Int32)
  | 0 => (0, sl)
  | (k2 + 1) => ((((L_X8_did_2 v ms sl f1 f2 f3 p ns k2).1) ||| (j_X8_did_3_0 v ms sl f1 f2 f3 1 ns k2 ((L_X8_did_2 v ms sl f1 f2 f3 p ns k2).1) ((L_X8_did_2 v ms sl f1 f2 f3 p ns k2).2))), (o_X8_isSo_2 v ms (cp13 ((L_X8_did_2 v ms sl f1 f2 f3 p ns k2).2) 0 143) f1 f2 f3 0 (nI k2) ns))
def o_X8_did_r (v : Nat → Int32) (ms : Nat → Int32) (sl : Nat → Int32) (f1 : Nat → Int32) (f2 : Nat → Int32) (f3 : Nat → Int32) (p : Int32) (ns : Nat) : Int32 := (if (o_X8_isOne_r p) = 0 then (-1) else (if p = 0 then (if (o_X8_isOver_r v sl) = 0 then ((L_X8_did_0 v ms sl f1 f2 f3 0 ns 5).1) else (-2)) else (if (o_X8_isOver_r v sl) = 0 then ((L_X8_did_2 v ms sl f1 f2 f3 1 ns 5).1) else (-2))))
def o_X8_did_2 (v : Nat → Int32) (ms : Nat → Int32) (sl : Nat → Int32) (f1 : Nat → Int32) (f2 : Nat → Int32) (f3 : Nat → Int32) (p : Int32) (ns : Nat) : Nat → Int32 := (if (o_X8_isOne_r p) = 0 then sl else (if p = 0 then (if (o_X8_isOver_r v sl) = 0 then ((L_X8_did_0 v ms sl f1 f2 f3 0 ns 5).2) else sl) else (if (o_X8_isOver_r v sl) = 0 then ((L_X8_did_2 v ms sl f1 f2 f3 1 ns 5).2) else sl)))
theorem L_X8_did_0_low (v ms sl f1 f2 f3 : Nat → Int32) (p : Int32) (ns : Nat) : ∀ k, (L_X8_did_0 v ms sl f1 f2 f3 p ns k).2 11 = sl 11 := by
  intro k
  induction k with
  | zero => rfl
  | succ k ih =>
    rw [L_X8_did_0]
    dsimp only
    rw [low_isSo _ _ _ _ _ _ _ _ _ (j := 11) (by decide), low_cp _ (j := 11) (by decide)]
    exact ih
theorem L_X8_did_2_low (v ms sl f1 f2 f3 : Nat → Int32) (p : Int32) (ns : Nat) : ∀ k, (L_X8_did_2 v ms sl f1 f2 f3 p ns k).2 11 = sl 11 := by
  intro k
  induction k with
  | zero => rfl
  | succ k ih =>
    rw [L_X8_did_2]
    dsimp only
    rw [low_isSo _ _ _ _ _ _ _ _ _ (j := 11) (by decide), low_cp _ (j := 11) (by decide)]
    exact ih
set_option maxRecDepth 100000 in
set_option maxHeartbeats 4000000 in
theorem c_X8_did (l : Launch) (E : zE) (v : Nat → Int32) (ms : Nat → Int32) (sl : Nat → Int32) (f1 : Nat → Int32) (f2 : Nat → Int32) (f3 : Nat → Int32) (p : Int32) (ns : Nat) (m aS aW aL aT a1 a2 a3 aB : Nat) (hB : mB 1000000 (sl 11)) (hz : v 12 = nI ns) (hz6 : ns ≤ 6) (hw : ∀ j, j < ns → f1 j = 0 ∨ f1 j = 1) : HM l E yX8_did cX8_did 4 (some .int) 6 144 [.ref m, .int p] [(m, .inr (8, [.int (v 0), .int (v 1), .ref aS, .int (v 2), .int (v 3), .int (v 4), .ref aW, .int (v 5), .ref aL, .int (v 6), .int (v 7), .int (v 8), .ref aT, .int (v 9), .int (v 10), .int (v 11), .int (v 12), .ref a1, .ref a2, .ref a3, .ref aB, .int (v 13), .int (v 14)])), (aS, .inl (E.2.1.1, 12, .inl ms)), (aL, .inl (E.2.1.1, 156, .inl sl)), (a1, .inl (E.2.1.1, 6, .inl f1)), (a2, .inl (E.2.1.1, 6, .inl f2)), (a3, .inl (E.2.1.1, 6, .inl f3))] (some (.int (o_X8_did_r v ms sl f1 f2 f3 p ns))) [(m, .inr (8, [.int (v 0), .int (v 1), .ref aS, .int (v 2), .int (v 3), .int (v 4), .ref aW, .int (v 5), .ref aL, .int (v 6), .int (v 7), .int (v 8), .ref aT, .int (v 9), .int (v 10), .int (v 11), .int (v 12), .ref a1, .ref a2, .ref a3, .ref aB, .int (v 13), .int (v 14)])), (aS, .inl (E.2.1.1, 12, .inl ms)), (aL, .inl (E.2.1.1, 156, .inl (o_X8_did_2 v ms sl f1 f2 f3 p ns))), (a1, .inl (E.2.1.1, 6, .inl f1)), (a2, .inl (E.2.1.1, 6, .inl f2)), (a3, .inl (E.2.1.1, 6, .inl f3))] := by
  refine HM.of (own := RX8) (plainFor_of_name (by decide)) rfl (Nat.le_of_ble_eq_true rfl) ?_
  intro zp ze zs zm za zb zt zc zA ls H locs zq C hr hlk hG hl hQ
  have hx := C.1.1
  have hb := C.1.2.1
  replace hl : lv_has ls 4 [(0, .ref m), (1, .int p)] := hl
  refine lv_iload_n hx hb dX8_did_0 rfl (lv_at hl 1 rfl) ?_
  refine call_X8_121 C dX8_did_1 (c_X8_isOne l E p) hl hG [] (by decide) rfl (ads := []) rfl rfl (ws' := [(m, .inr (8, [.int (v 0), .int (v 1), .ref aS, .int (v 2), .int (v 3), .int (v 4), .ref aW, .int (v 5), .ref aL, .int (v 6), .int (v 7), .int (v 8), .ref aT, .int (v 9), .int (v 10), .int (v 11), .int (v 12), .ref a1, .ref a2, .ref a3, .ref aB, .int (v 13), .int (v 14)])), (aS, .inl (E.2.1.1, 12, .inl ms)), (aL, .inl (E.2.1.1, 156, .inl sl)), (a1, .inl (E.2.1.1, 6, .inl f1)), (a2, .inl (E.2.1.1, 6, .inl f2)), (a3, .inl (E.2.1.1, 6, .inl f3))]) rfl rfl (rest := []) rfl (Nat.le_of_ble_eq_true rfl) ⟨Nat.le_of_ble_eq_true rfl, Nat.le_of_ble_eq_true rfl⟩ (fun H locs hG => ?_)
  refine lv_if_ne (tgt := 9) hx hb dX8_did_4 (by decide) (fun c_1 => ?_) (fun c_1 => ?_)
  · skip
    rcases (z_one c_1) with rfl | rfl
    · skip
      refine lv_aload_n hx hb dX8_did_9 rfl (lv_at hl 0 rfl) ?_
      refine call_X8_162 C dX8_did_10 (c_X8_isOver l E v sl m aS aW aL aT a1 a2 a3 aB) hl hG 0 rfl [0, 2] (by decide) rfl (ads := [m, aL]) rfl rfl (ws' := [(m, .inr (8, [.int (v 0), .int (v 1), .ref aS, .int (v 2), .int (v 3), .int (v 4), .ref aW, .int (v 5), .ref aL, .int (v 6), .int (v 7), .int (v 8), .ref aT, .int (v 9), .int (v 10), .int (v 11), .int (v 12), .ref a1, .ref a2, .ref a3, .ref aB, .int (v 13), .int (v 14)])), (aS, .inl (E.2.1.1, 12, .inl ms)), (aL, .inl (E.2.1.1, 156, .inl sl)), (a1, .inl (E.2.1.1, 6, .inl f1)), (a2, .inl (E.2.1.1, 6, .inl f2)), (a3, .inl (E.2.1.1, 6, .inl f3))]) rfl rfl (rest := []) rfl (Nat.le_of_ble_eq_true rfl) ⟨Nat.le_of_ble_eq_true rfl, Nat.le_of_ble_eq_true rfl⟩ (fun H locs hG => ?_)
      refine lv_if_eq (tgt := 19) hx hb dX8_did_13 (by decide) (fun c_2 => ?_) (fun c_2 => ?_)
      · skip
        refine lv_iconst (v := 0) hx hb dX8_did_19 (by decide) ?_
        refine lv_istore_n (lv' := [(2, .int 0), (0, .ref m), (1, .int 0)]) hx hb dX8_did_20 rfl hl (by decide) rfl (fun ls hl => ?_)
        refine lv_iconst (v := 0) hx hb dX8_did_21 (by decide) ?_
        refine lv_istore_n (lv' := [(3, .int 0), (2, .int 0), (0, .ref m), (1, .int 0)]) hx hb dX8_did_22 rfl hl (by decide) rfl (fun ls hl => ?_)
        have kl_0 : ∀ (j0 k0 : Nat), j0 + k0 = 5 → ∀ (u0_0 : Int32) (u0_1 : Nat → Int32) (H : Heap) (locs : List Loc) (ls : Array Slot), ((L_X8_did_0 v ms sl f1 f2 f3 0 ns k0).1) = u0_0 → ((L_X8_did_0 v ms sl f1 f2 f3 0 ns k0).2) = u0_1 → zG E zA zs.heap [(m, .inr (8, [.int (v 0), .int (v 1), .ref aS, .int (v 2), .int (v 3), .int (v 4), .ref aW, .int (v 5), .ref aL, .int (v 6), .int (v 7), .int (v 8), .ref aT, .int (v 9), .int (v 10), .int (v 11), .int (v 12), .ref a1, .ref a2, .ref a3, .ref aB, .int (v 13), .int (v 14)])), (aS, .inl (E.2.1.1, 12, .inl ms)), (aL, .inl (E.2.1.1, 156, .inl u0_1)), (a1, .inl (E.2.1.1, 6, .inl f1)), (a2, .inl (E.2.1.1, 6, .inl f2)), (a3, .inl (E.2.1.1, 6, .inl f3))] H locs → lv_has ls 4 [(3, .int (nI k0)), (2, .int u0_0), (0, .ref m), (1, .int 0)] → W zp l ze (zR 6 144) zs zm za zb zt zc H locs 0 0 zq (F0 zm 23 ls []) := by
          intro j0
          induction j0 with
          | zero =>
            intro k0 hk0 u0_0 u0_1 H locs ls e_u0_0 e_u0_1 hG hl
            subst e_u0_0
            subst e_u0_1
            obtain rfl : k0 = 5 := by omega
            refine lv_iload_n hx hb dX8_did_23 rfl (lv_at hl 0 rfl) ?_
            refine lv_iconst (v := 5) hx hb dX8_did_24 (by decide) ?_
            refine lv_icmp_ge (tgt := 77) hx hb dX8_did_25 (by decide) (fun c_11 => ?_) (fun c_11 => absurd (z_ge_yes (N := 5) rfl) c_11)
            refine lv_iload_n hx hb dX8_did_77 rfl (lv_at hl 1 rfl) ?_
            rw [hQ]
            exact z_iret C hr hlk hG dX8_did_78 rfl (by rw [o_X8_did_r, if_neg c_1, if_pos rfl, if_pos c_2]) (by rw [o_X8_did_2, if_neg c_1, if_pos rfl, if_pos c_2])
          | succ j0 ih0 =>
            intro k0 hk0 u0_0 u0_1 H locs ls e_u0_0 e_u0_1 hG hl
            subst e_u0_0
            subst e_u0_1
            have hlt : k0 < 5 := by omega
            refine lv_iload_n hx hb dX8_did_23 rfl (lv_at hl 0 rfl) ?_
            refine lv_iconst (v := 5) hx hb dX8_did_24 (by decide) ?_
            refine lv_icmp_ge (tgt := 77) hx hb dX8_did_25 (by decide) (fun c_12 => absurd c_12 (z_ge_no (N := 5) hlt (by decide) rfl)) (fun c_12 => ?_)
            refine lv_aload_n hx hb dX8_did_28 rfl (lv_at hl 2 rfl) ?_
            refine lv_iconst (v := 0) hx hb dX8_did_29 (by decide) ?_
            refine lv_sipush (v := 143) hx hb dX8_did_30 (by decide) ?_
            refine call_X8_101 C dX8_did_33 (c_X8_copies_t l E v ((L_X8_did_0 v ms sl f1 f2 f3 0 ns k0).2) 0 143 m aS aW aL aT a1 a2 a3 aB (by omega) (by omega) (by omega)) hl hG 0 rfl [0, 2] (by decide) rfl (ads := [m, aL]) rfl rfl (ws' := [(m, .inr (8, [.int (v 0), .int (v 1), .ref aS, .int (v 2), .int (v 3), .int (v 4), .ref aW, .int (v 5), .ref aL, .int (v 6), .int (v 7), .int (v 8), .ref aT, .int (v 9), .int (v 10), .int (v 11), .int (v 12), .ref a1, .ref a2, .ref a3, .ref aB, .int (v 13), .int (v 14)])), (aS, .inl (E.2.1.1, 12, .inl ms)), (aL, .inl (E.2.1.1, 156, .inl (cp13 ((L_X8_did_0 v ms sl f1 f2 f3 0 ns k0).2) 0 143))), (a1, .inl (E.2.1.1, 6, .inl f1)), (a2, .inl (E.2.1.1, 6, .inl f2)), (a3, .inl (E.2.1.1, 6, .inl f3))]) rfl rfl (rest := []) rfl (Nat.le_of_ble_eq_true rfl) ⟨Nat.le_of_ble_eq_true rfl, Nat.le_of_ble_eq_true rfl⟩ (fun H locs hG => ?_)
            refine lv_iload_n hx hb dX8_did_36 rfl (lv_at hl 1 rfl) ?_
            refine lv_aload_n hx hb dX8_did_37 rfl (lv_at hl 2 rfl) ?_
            refine lv_iload_n hx hb dX8_did_38 rfl (lv_at hl 3 rfl) ?_
            refine lv_if_ne (tgt := 46) hx hb dX8_did_39 (by decide) (fun c_13 => absurd (by decide) c_13) (fun c_13 => ?_)
            refine lv_iload_n hx hb dX8_did_42 rfl (lv_at hl 0 rfl) ?_
            refine lv_goto (tgt := 47) hx hb dX8_did_43 (by decide) ?_
            refine lv_iload_n hx hb dX8_did_47 rfl (lv_at hl 3 rfl) ?_
            refine lv_if_ne (tgt := 55) hx hb dX8_did_48 (by decide) (fun c_14 => absurd (by decide) c_14) (fun c_14 => ?_)
            refine lv_iconst (v := 0) hx hb dX8_did_51 (by decide) ?_
            refine lv_goto (tgt := 56) hx hb dX8_did_52 (by decide) ?_
            refine call_X8_208 C dX8_did_56 (c_X8_isSo l E v ms (cp13 ((L_X8_did_0 v ms sl f1 f2 f3 0 ns k0).2) 0 143) f1 f2 f3 (nI k0) 0 ns m aS aW aL aT a1 a2 a3 aB (by rw [cp_154, L_X8_did_0_low]; exact hB) hz hz6 hw) hl hG 0 rfl [0, 1, 2, 3, 4, 5] (by decide) rfl (ads := [m, aS, aL, a1, a2, a3]) rfl rfl (ws' := [(m, .inr (8, [.int (v 0), .int (v 1), .ref aS, .int (v 2), .int (v 3), .int (v 4), .ref aW, .int (v 5), .ref aL, .int (v 6), .int (v 7), .int (v 8), .ref aT, .int (v 9), .int (v 10), .int (v 11), .int (v 12), .ref a1, .ref a2, .ref a3, .ref aB, .int (v 13), .int (v 14)])), (aS, .inl (E.2.1.1, 12, .inl ms)), (aL, .inl (E.2.1.1, 156, .inl (o_X8_isSo_2 v ms (cp13 ((L_X8_did_0 v ms sl f1 f2 f3 0 ns k0).2) 0 143) f1 f2 f3 (nI k0) 0 ns))), (a1, .inl (E.2.1.1, 6, .inl f1)), (a2, .inl (E.2.1.1, 6, .inl f2)), (a3, .inl (E.2.1.1, 6, .inl f3))]) rfl rfl (rest := [.int ((L_X8_did_0 v ms sl f1 f2 f3 0 ns k0).1)]) rfl (Nat.le_of_ble_eq_true rfl) ⟨Nat.le_of_ble_eq_true rfl, Nat.le_of_ble_eq_true rfl⟩ (fun H locs hG => ?_)
            have k_1 : ∀ (y1_0 : Int32) (H : Heap) (locs : List Loc) (ls : Array Slot), (j_X8_did_1_0 v ms sl f1 f2 f3 0 ns k0 ((L_X8_did_0 v ms sl f1 f2 f3 0 ns k0).1) ((L_X8_did_0 v ms sl f1 f2 f3 0 ns k0).2)) = y1_0 → zG E zA zs.heap [(m, .inr (8, [.int (v 0), .int (v 1), .ref aS, .int (v 2), .int (v 3), .int (v 4), .ref aW, .int (v 5), .ref aL, .int (v 6), .int (v 7), .int (v 8), .ref aT, .int (v 9), .int (v 10), .int (v 11), .int (v 12), .ref a1, .ref a2, .ref a3, .ref aB, .int (v 13), .int (v 14)])), (aS, .inl (E.2.1.1, 12, .inl ms)), (aL, .inl (E.2.1.1, 156, .inl (o_X8_isSo_2 v ms (cp13 ((L_X8_did_0 v ms sl f1 f2 f3 0 ns k0).2) 0 143) f1 f2 f3 (nI k0) 0 ns))), (a1, .inl (E.2.1.1, 6, .inl f1)), (a2, .inl (E.2.1.1, 6, .inl f2)), (a3, .inl (E.2.1.1, 6, .inl f3))] H locs → lv_has ls 4 [(3, .int (nI k0)), (2, .int ((L_X8_did_0 v ms sl f1 f2 f3 0 ns k0).1)), (0, .ref m), (1, .int 0)] → W zp l ze (zR 6 144) zs zm za zb zt zc H locs 0 0 zq (F0 zm 69 ls [.int y1_0, .int ((L_X8_did_0 v ms sl f1 f2 f3 0 ns k0).1)]) := by
              intro y1_0 H locs ls e_y1_0 hG hl
              subst e_y1_0
              refine lv_ior hx hb dX8_did_69 ?_
              refine lv_istore_n (lv' := [(2, .int (((L_X8_did_0 v ms sl f1 f2 f3 0 ns k0).1) ||| (j_X8_did_1_0 v ms sl f1 f2 f3 0 ns k0 ((L_X8_did_0 v ms sl f1 f2 f3 0 ns k0).1) ((L_X8_did_0 v ms sl f1 f2 f3 0 ns k0).2)))), (3, .int (nI k0)), (0, .ref m), (1, .int 0)]) hx hb dX8_did_70 rfl hl (by decide) rfl (fun ls hl => ?_)
              refine lv_iinc (v := (nI (k0 + 1))) (lv' := [(3, .int (nI (k0 + 1))), (2, .int (((L_X8_did_0 v ms sl f1 f2 f3 0 ns k0).1) ||| (j_X8_did_1_0 v ms sl f1 f2 f3 0 ns k0 ((L_X8_did_0 v ms sl f1 f2 f3 0 ns k0).1) ((L_X8_did_0 v ms sl f1 f2 f3 0 ns k0).2)))), (0, .ref m), (1, .int 0)]) hx hb dX8_did_71 hl (k := 1) rfl (nI_1 _) (by decide) rfl (fun ls hl => ?_)
              refine lv_goto (tgt := 23) hx hb dX8_did_74 (by decide) ?_
              exact ih0 (k0 + 1) (by omega) (((L_X8_did_0 v ms sl f1 f2 f3 0 ns k0).1) ||| (j_X8_did_1_0 v ms sl f1 f2 f3 0 ns k0 ((L_X8_did_0 v ms sl f1 f2 f3 0 ns k0).1) ((L_X8_did_0 v ms sl f1 f2 f3 0 ns k0).2))) (o_X8_isSo_2 v ms (cp13 ((L_X8_did_0 v ms sl f1 f2 f3 0 ns k0).2) 0 143) f1 f2 f3 (nI k0) 0 ns) _ _ _ (by rw [L_X8_did_0]) (by rw [L_X8_did_0]) hG (lv_sub hl [0, 1, 2, 3] rfl)
            refine lv_if_eq (tgt := 68) hx hb dX8_did_59 (by decide) (fun c_15 => ?_) (fun c_15 => ?_)
            · skip
              refine lv_iconst (v := 0) hx hb dX8_did_68 (by decide) ?_
              exact k_1 0 _ _ _ (by rw [j_X8_did_1_0, if_pos c_15]) hG (lv_sub hl [0, 1, 2, 3] rfl)
            · skip
              refine lv_iconst (v := 1) hx hb dX8_did_62 (by decide) ?_
              refine lv_iload_n hx hb dX8_did_63 rfl (lv_at hl 0 rfl) ?_
              refine lv_ishl hx hb dX8_did_64 ?_
              refine lv_goto (tgt := 69) hx hb dX8_did_65 (by decide) ?_
              exact k_1 (1 <<< ((nI k0) &&& 31)) _ _ _ (by rw [j_X8_did_1_0, if_neg c_15]) hG (lv_sub hl [0, 1, 2, 3] rfl)
        exact kl_0 5 0 (by omega) 0 sl _ _ _ (by rw [L_X8_did_0]) (by rw [L_X8_did_0]) hG (lv_sub hl [0, 1, 2, 3] rfl)
      · skip
        refine lv_bipush (v := (-2)) hx hb dX8_did_16 (by decide) ?_
        rw [hQ]
        exact z_iret C hr hlk hG dX8_did_18 rfl (by rw [o_X8_did_r, if_neg c_1, if_pos rfl, if_neg c_2]) (by rw [o_X8_did_2, if_neg c_1, if_pos rfl, if_neg c_2])
    · skip
      refine lv_aload_n hx hb dX8_did_9 rfl (lv_at hl 0 rfl) ?_
      refine call_X8_162 C dX8_did_10 (c_X8_isOver l E v sl m aS aW aL aT a1 a2 a3 aB) hl hG 0 rfl [0, 2] (by decide) rfl (ads := [m, aL]) rfl rfl (ws' := [(m, .inr (8, [.int (v 0), .int (v 1), .ref aS, .int (v 2), .int (v 3), .int (v 4), .ref aW, .int (v 5), .ref aL, .int (v 6), .int (v 7), .int (v 8), .ref aT, .int (v 9), .int (v 10), .int (v 11), .int (v 12), .ref a1, .ref a2, .ref a3, .ref aB, .int (v 13), .int (v 14)])), (aS, .inl (E.2.1.1, 12, .inl ms)), (aL, .inl (E.2.1.1, 156, .inl sl)), (a1, .inl (E.2.1.1, 6, .inl f1)), (a2, .inl (E.2.1.1, 6, .inl f2)), (a3, .inl (E.2.1.1, 6, .inl f3))]) rfl rfl (rest := []) rfl (Nat.le_of_ble_eq_true rfl) ⟨Nat.le_of_ble_eq_true rfl, Nat.le_of_ble_eq_true rfl⟩ (fun H locs hG => ?_)
      refine lv_if_eq (tgt := 19) hx hb dX8_did_13 (by decide) (fun c_16 => ?_) (fun c_16 => ?_)
      · skip
        refine lv_iconst (v := 0) hx hb dX8_did_19 (by decide) ?_
        refine lv_istore_n (lv' := [(2, .int 0), (0, .ref m), (1, .int 1)]) hx hb dX8_did_20 rfl hl (by decide) rfl (fun ls hl => ?_)
        refine lv_iconst (v := 0) hx hb dX8_did_21 (by decide) ?_
        refine lv_istore_n (lv' := [(3, .int 0), (2, .int 0), (0, .ref m), (1, .int 1)]) hx hb dX8_did_22 rfl hl (by decide) rfl (fun ls hl => ?_)
        have kl_2 : ∀ (j2 k2 : Nat), j2 + k2 = 5 → ∀ (u2_0 : Int32) (u2_1 : Nat → Int32) (H : Heap) (locs : List Loc) (ls : Array Slot), ((L_X8_did_2 v ms sl f1 f2 f3 1 ns k2).1) = u2_0 → ((L_X8_did_2 v ms sl f1 f2 f3 1 ns k2).2) = u2_1 → zG E zA zs.heap [(m, .inr (8, [.int (v 0), .int (v 1), .ref aS, .int (v 2), .int (v 3), .int (v 4), .ref aW, .int (v 5), .ref aL, .int (v 6), .int (v 7), .int (v 8), .ref aT, .int (v 9), .int (v 10), .int (v 11), .int (v 12), .ref a1, .ref a2, .ref a3, .ref aB, .int (v 13), .int (v 14)])), (aS, .inl (E.2.1.1, 12, .inl ms)), (aL, .inl (E.2.1.1, 156, .inl u2_1)), (a1, .inl (E.2.1.1, 6, .inl f1)), (a2, .inl (E.2.1.1, 6, .inl f2)), (a3, .inl (E.2.1.1, 6, .inl f3))] H locs → lv_has ls 4 [(3, .int (nI k2)), (2, .int u2_0), (0, .ref m), (1, .int 1)] → W zp l ze (zR 6 144) zs zm za zb zt zc H locs 0 0 zq (F0 zm 23 ls []) := by
          intro j2
          induction j2 with
          | zero =>
            intro k2 hk2 u2_0 u2_1 H locs ls e_u2_0 e_u2_1 hG hl
            subst e_u2_0
            subst e_u2_1
            obtain rfl : k2 = 5 := by omega
            refine lv_iload_n hx hb dX8_did_23 rfl (lv_at hl 0 rfl) ?_
            refine lv_iconst (v := 5) hx hb dX8_did_24 (by decide) ?_
            refine lv_icmp_ge (tgt := 77) hx hb dX8_did_25 (by decide) (fun c_25 => ?_) (fun c_25 => absurd (z_ge_yes (N := 5) rfl) c_25)
            refine lv_iload_n hx hb dX8_did_77 rfl (lv_at hl 1 rfl) ?_
            rw [hQ]
            exact z_iret C hr hlk hG dX8_did_78 rfl (by rw [o_X8_did_r, if_neg c_1, if_neg (by decide : ¬ (1 : Int32) = 0), if_pos c_16]) (by rw [o_X8_did_2, if_neg c_1, if_neg (by decide : ¬ (1 : Int32) = 0), if_pos c_16])
          | succ j2 ih2 =>
            intro k2 hk2 u2_0 u2_1 H locs ls e_u2_0 e_u2_1 hG hl
            subst e_u2_0
            subst e_u2_1
            have hlt : k2 < 5 := by omega
            refine lv_iload_n hx hb dX8_did_23 rfl (lv_at hl 0 rfl) ?_
            refine lv_iconst (v := 5) hx hb dX8_did_24 (by decide) ?_
            refine lv_icmp_ge (tgt := 77) hx hb dX8_did_25 (by decide) (fun c_26 => absurd c_26 (z_ge_no (N := 5) hlt (by decide) rfl)) (fun c_26 => ?_)
            refine lv_aload_n hx hb dX8_did_28 rfl (lv_at hl 2 rfl) ?_
            refine lv_iconst (v := 0) hx hb dX8_did_29 (by decide) ?_
            refine lv_sipush (v := 143) hx hb dX8_did_30 (by decide) ?_
            refine call_X8_101 C dX8_did_33 (c_X8_copies_t l E v ((L_X8_did_2 v ms sl f1 f2 f3 1 ns k2).2) 0 143 m aS aW aL aT a1 a2 a3 aB (by omega) (by omega) (by omega)) hl hG 0 rfl [0, 2] (by decide) rfl (ads := [m, aL]) rfl rfl (ws' := [(m, .inr (8, [.int (v 0), .int (v 1), .ref aS, .int (v 2), .int (v 3), .int (v 4), .ref aW, .int (v 5), .ref aL, .int (v 6), .int (v 7), .int (v 8), .ref aT, .int (v 9), .int (v 10), .int (v 11), .int (v 12), .ref a1, .ref a2, .ref a3, .ref aB, .int (v 13), .int (v 14)])), (aS, .inl (E.2.1.1, 12, .inl ms)), (aL, .inl (E.2.1.1, 156, .inl (cp13 ((L_X8_did_2 v ms sl f1 f2 f3 1 ns k2).2) 0 143))), (a1, .inl (E.2.1.1, 6, .inl f1)), (a2, .inl (E.2.1.1, 6, .inl f2)), (a3, .inl (E.2.1.1, 6, .inl f3))]) rfl rfl (rest := []) rfl (Nat.le_of_ble_eq_true rfl) ⟨Nat.le_of_ble_eq_true rfl, Nat.le_of_ble_eq_true rfl⟩ (fun H locs hG => ?_)
            refine lv_iload_n hx hb dX8_did_36 rfl (lv_at hl 1 rfl) ?_
            refine lv_aload_n hx hb dX8_did_37 rfl (lv_at hl 2 rfl) ?_
            refine lv_iload_n hx hb dX8_did_38 rfl (lv_at hl 3 rfl) ?_
            refine lv_if_ne (tgt := 46) hx hb dX8_did_39 (by decide) (fun c_27 => ?_) (fun c_27 => absurd c_27 (by decide))
            refine lv_iconst (v := 0) hx hb dX8_did_46 (by decide) ?_
            refine lv_iload_n hx hb dX8_did_47 rfl (lv_at hl 3 rfl) ?_
            refine lv_if_ne (tgt := 55) hx hb dX8_did_48 (by decide) (fun c_28 => ?_) (fun c_28 => absurd c_28 (by decide))
            refine lv_iload_n hx hb dX8_did_55 rfl (lv_at hl 0 rfl) ?_
            refine call_X8_208 C dX8_did_56 (c_X8_isSo l E v ms (cp13 ((L_X8_did_2 v ms sl f1 f2 f3 1 ns k2).2) 0 143) f1 f2 f3 0 (nI k2) ns m aS aW aL aT a1 a2 a3 aB (by rw [cp_154, L_X8_did_2_low]; exact hB) hz hz6 hw) hl hG 0 rfl [0, 1, 2, 3, 4, 5] (by decide) rfl (ads := [m, aS, aL, a1, a2, a3]) rfl rfl (ws' := [(m, .inr (8, [.int (v 0), .int (v 1), .ref aS, .int (v 2), .int (v 3), .int (v 4), .ref aW, .int (v 5), .ref aL, .int (v 6), .int (v 7), .int (v 8), .ref aT, .int (v 9), .int (v 10), .int (v 11), .int (v 12), .ref a1, .ref a2, .ref a3, .ref aB, .int (v 13), .int (v 14)])), (aS, .inl (E.2.1.1, 12, .inl ms)), (aL, .inl (E.2.1.1, 156, .inl (o_X8_isSo_2 v ms (cp13 ((L_X8_did_2 v ms sl f1 f2 f3 1 ns k2).2) 0 143) f1 f2 f3 0 (nI k2) ns))), (a1, .inl (E.2.1.1, 6, .inl f1)), (a2, .inl (E.2.1.1, 6, .inl f2)), (a3, .inl (E.2.1.1, 6, .inl f3))]) rfl rfl (rest := [.int ((L_X8_did_2 v ms sl f1 f2 f3 1 ns k2).1)]) rfl (Nat.le_of_ble_eq_true rfl) ⟨Nat.le_of_ble_eq_true rfl, Nat.le_of_ble_eq_true rfl⟩ (fun H locs hG => ?_)
            have k_3 : ∀ (y3_0 : Int32) (H : Heap) (locs : List Loc) (ls : Array Slot), (j_X8_did_3_0 v ms sl f1 f2 f3 1 ns k2 ((L_X8_did_2 v ms sl f1 f2 f3 1 ns k2).1) ((L_X8_did_2 v ms sl f1 f2 f3 1 ns k2).2)) = y3_0 → zG E zA zs.heap [(m, .inr (8, [.int (v 0), .int (v 1), .ref aS, .int (v 2), .int (v 3), .int (v 4), .ref aW, .int (v 5), .ref aL, .int (v 6), .int (v 7), .int (v 8), .ref aT, .int (v 9), .int (v 10), .int (v 11), .int (v 12), .ref a1, .ref a2, .ref a3, .ref aB, .int (v 13), .int (v 14)])), (aS, .inl (E.2.1.1, 12, .inl ms)), (aL, .inl (E.2.1.1, 156, .inl (o_X8_isSo_2 v ms (cp13 ((L_X8_did_2 v ms sl f1 f2 f3 1 ns k2).2) 0 143) f1 f2 f3 0 (nI k2) ns))), (a1, .inl (E.2.1.1, 6, .inl f1)), (a2, .inl (E.2.1.1, 6, .inl f2)), (a3, .inl (E.2.1.1, 6, .inl f3))] H locs → lv_has ls 4 [(3, .int (nI k2)), (2, .int ((L_X8_did_2 v ms sl f1 f2 f3 1 ns k2).1)), (0, .ref m), (1, .int 1)] → W zp l ze (zR 6 144) zs zm za zb zt zc H locs 0 0 zq (F0 zm 69 ls [.int y3_0, .int ((L_X8_did_2 v ms sl f1 f2 f3 1 ns k2).1)]) := by
              intro y3_0 H locs ls e_y3_0 hG hl
              subst e_y3_0
              refine lv_ior hx hb dX8_did_69 ?_
              refine lv_istore_n (lv' := [(2, .int (((L_X8_did_2 v ms sl f1 f2 f3 1 ns k2).1) ||| (j_X8_did_3_0 v ms sl f1 f2 f3 1 ns k2 ((L_X8_did_2 v ms sl f1 f2 f3 1 ns k2).1) ((L_X8_did_2 v ms sl f1 f2 f3 1 ns k2).2)))), (3, .int (nI k2)), (0, .ref m), (1, .int 1)]) hx hb dX8_did_70 rfl hl (by decide) rfl (fun ls hl => ?_)
              refine lv_iinc (v := (nI (k2 + 1))) (lv' := [(3, .int (nI (k2 + 1))), (2, .int (((L_X8_did_2 v ms sl f1 f2 f3 1 ns k2).1) ||| (j_X8_did_3_0 v ms sl f1 f2 f3 1 ns k2 ((L_X8_did_2 v ms sl f1 f2 f3 1 ns k2).1) ((L_X8_did_2 v ms sl f1 f2 f3 1 ns k2).2)))), (0, .ref m), (1, .int 1)]) hx hb dX8_did_71 hl (k := 1) rfl (nI_1 _) (by decide) rfl (fun ls hl => ?_)
              refine lv_goto (tgt := 23) hx hb dX8_did_74 (by decide) ?_
              exact ih2 (k2 + 1) (by omega) (((L_X8_did_2 v ms sl f1 f2 f3 1 ns k2).1) ||| (j_X8_did_3_0 v ms sl f1 f2 f3 1 ns k2 ((L_X8_did_2 v ms sl f1 f2 f3 1 ns k2).1) ((L_X8_did_2 v ms sl f1 f2 f3 1 ns k2).2))) (o_X8_isSo_2 v ms (cp13 ((L_X8_did_2 v ms sl f1 f2 f3 1 ns k2).2) 0 143) f1 f2 f3 0 (nI k2) ns) _ _ _ (by rw [L_X8_did_2]) (by rw [L_X8_did_2]) hG (lv_sub hl [0, 1, 2, 3] rfl)
            refine lv_if_eq (tgt := 68) hx hb dX8_did_59 (by decide) (fun c_29 => ?_) (fun c_29 => ?_)
            · skip
              refine lv_iconst (v := 0) hx hb dX8_did_68 (by decide) ?_
              exact k_3 0 _ _ _ (by rw [j_X8_did_3_0, if_pos c_29]) hG (lv_sub hl [0, 1, 2, 3] rfl)
            · skip
              refine lv_iconst (v := 1) hx hb dX8_did_62 (by decide) ?_
              refine lv_iload_n hx hb dX8_did_63 rfl (lv_at hl 0 rfl) ?_
              refine lv_ishl hx hb dX8_did_64 ?_
              refine lv_goto (tgt := 69) hx hb dX8_did_65 (by decide) ?_
              exact k_3 (1 <<< ((nI k2) &&& 31)) _ _ _ (by rw [j_X8_did_3_0, if_neg c_29]) hG (lv_sub hl [0, 1, 2, 3] rfl)
        exact kl_2 5 0 (by omega) 0 sl _ _ _ (by rw [L_X8_did_2]) (by rw [L_X8_did_2]) hG (lv_sub hl [0, 1, 2, 3] rfl)
      · skip
        refine lv_bipush (v := (-2)) hx hb dX8_did_16 (by decide) ?_
        rw [hQ]
        exact z_iret C hr hlk hG dX8_did_18 rfl (by rw [o_X8_did_r, if_neg c_1, if_neg (by decide : ¬ (1 : Int32) = 0), if_neg c_16]) (by rw [o_X8_did_2, if_neg c_1, if_neg (by decide : ¬ (1 : Int32) = 0), if_neg c_16])
  · skip
    refine lv_iconst (v := (-1)) hx hb dX8_did_7 (by decide) ?_
    rw [hQ]
    exact z_iret C hr hlk hG dX8_did_8 rfl (by rw [o_X8_did_r, if_pos c_1]) (by rw [o_X8_did_2, if_pos c_1])
def j_X8_was_1_0 (v : Nat → Int32) (ms : Nat → Int32) (sl : Nat → Int32) (f1 : Nat → Int32) (f2 : Nat → Int32) (f3 : Nat → Int32) (p : Int32) (ns : Nat) (k0 : Nat) (u0_0 : Int32) (u0_1 : Nat → Int32) : Int32 := (if (o_X8_isSo_r v ms (upd (cp13 u0_1 0 143) 143 (nI k0)) f1 f2 f3 0 0 ns) = 0 then 0 else (1 <<< ((nI k0) &&& 31)))
def L_X8_was_0 (v : Nat → Int32) (ms : Nat → Int32) (sl : Nat → Int32) (f1 : Nat → Int32) (f2 : Nat → Int32) (f3 : Nat → Int32) (p : Int32) (ns : Nat) : Nat → Int32 × (Nat → Int32)
  | 0 => (0, sl)
  | (k0 + 1) => ((((L_X8_was_0 v ms sl f1 f2 f3 p ns k0).1) ||| (j_X8_was_1_0 v ms sl f1 f2 f3 0 ns k0 ((L_X8_was_0 v ms sl f1 f2 f3 p ns k0).1) ((L_X8_was_0 v ms sl f1 f2 f3 p ns k0).2))), (o_X8_isSo_2 v ms (upd (cp13 ((L_X8_was_0 v ms sl f1 f2 f3 p ns k0).2) 0 143) 143 (nI k0)) f1 f2 f3 0 0 ns))
def j_X8_was_3_0 (v : Nat → Int32) (ms : Nat → Int32) (sl : Nat → Int32) (f1 : Nat → Int32) (f2 : Nat → Int32) (f3 : Nat → Int32) (p : Int32) (ns : Nat) (k2 : Nat) (u2_0 : Int32) (u2_1 : Nat → Int32) : Int32 := (if (o_X8_isSo_r v ms (upd (cp13 u2_1 0 143) 144 (nI k2)) f1 f2 f3 0 0 ns) = 0 then 0 else (1 <<< ((nI k2) &&& 31)))
def L_X8_was_2 (v : Nat → Int32) (ms : Nat → Int32) (sl : Nat → Int32) (f1 : Nat → Int32) (f2 : Nat → Int32) (f3 : Nat → Int32) (p : Int32) (ns : Nat) : Nat → Int32 × (Nat → Int32)
  | 0 => (0, sl)
  | (k2 + 1) => ((((L_X8_was_2 v ms sl f1 f2 f3 p ns k2).1) ||| (j_X8_was_3_0 v ms sl f1 f2 f3 1 ns k2 ((L_X8_was_2 v ms sl f1 f2 f3 p ns k2).1) ((L_X8_was_2 v ms sl f1 f2 f3 p ns k2).2))), (o_X8_isSo_2 v ms (upd (cp13 ((L_X8_was_2 v ms sl f1 f2 f3 p ns k2).2) 0 143) 144 (nI k2)) f1 f2 f3 0 0 ns))
def o_X8_was_r (v : Nat → Int32) (ms : Nat → Int32) (sl : Nat → Int32) (f1 : Nat → Int32) (f2 : Nat → Int32) (f3 : Nat → Int32) (p : Int32) (ns : Nat) : Int32 := (if (o_X8_isOne_r p) = 0 then (-1) else (if p = 0 then (if (o_X8_isOver_r v sl) = 0 then ((L_X8_was_0 v ms sl f1 f2 f3 0 ns 5).1) else (-2)) else (if (o_X8_isOver_r v sl) = 0 then ((L_X8_was_2 v ms sl f1 f2 f3 1 ns 5).1) else (-2))))
def o_X8_was_2 (v : Nat → Int32) (ms : Nat → Int32) (sl : Nat → Int32) (f1 : Nat → Int32) (f2 : Nat → Int32) (f3 : Nat → Int32) (p : Int32) (ns : Nat) : Nat → Int32 := (if (o_X8_isOne_r p) = 0 then sl else (if p = 0 then (if (o_X8_isOver_r v sl) = 0 then ((L_X8_was_0 v ms sl f1 f2 f3 0 ns 5).2) else sl) else (if (o_X8_isOver_r v sl) = 0 then ((L_X8_was_2 v ms sl f1 f2 f3 1 ns 5).2) else sl)))
theorem L_X8_was_0_low (v ms sl f1 f2 f3 : Nat → Int32) (p : Int32) (ns : Nat) : ∀ k, (L_X8_was_0 v ms sl f1 f2 f3 p ns k).2 11 = sl 11 := by
  intro k
  induction k with
  | zero => rfl
  | succ k ih =>
    rw [L_X8_was_0]
    dsimp only
    rw [low_isSo _ _ _ _ _ _ _ _ _ (j := 11) (by decide), pk_un (by decide), low_cp _ (j := 11) (by decide)]
    exact ih
theorem L_X8_was_2_low (v ms sl f1 f2 f3 : Nat → Int32) (p : Int32) (ns : Nat) : ∀ k, (L_X8_was_2 v ms sl f1 f2 f3 p ns k).2 11 = sl 11 := by
  intro k
  induction k with
  | zero => rfl
  | succ k ih =>
    rw [L_X8_was_2]
    dsimp only
    rw [low_isSo _ _ _ _ _ _ _ _ _ (j := 11) (by decide), pk_un (by decide), low_cp _ (j := 11) (by decide)]
    exact ih
set_option maxRecDepth 100000 in
set_option maxHeartbeats 4000000 in
theorem c_X8_was (l : Launch) (E : zE) (v : Nat → Int32) (ms : Nat → Int32) (sl : Nat → Int32) (f1 : Nat → Int32) (f2 : Nat → Int32) (f3 : Nat → Int32) (p : Int32) (ns : Nat) (m aS aW aL aT a1 a2 a3 aB : Nat) (hB : mB 1000000 (sl 11)) (hz : v 12 = nI ns) (hz6 : ns ≤ 6) (hw : ∀ j, j < ns → f1 j = 0 ∨ f1 j = 1) : HM l E yX8_was cX8_was 4 (some .int) 6 144 [.ref m, .int p] [(m, .inr (8, [.int (v 0), .int (v 1), .ref aS, .int (v 2), .int (v 3), .int (v 4), .ref aW, .int (v 5), .ref aL, .int (v 6), .int (v 7), .int (v 8), .ref aT, .int (v 9), .int (v 10), .int (v 11), .int (v 12), .ref a1, .ref a2, .ref a3, .ref aB, .int (v 13), .int (v 14)])), (aS, .inl (E.2.1.1, 12, .inl ms)), (aL, .inl (E.2.1.1, 156, .inl sl)), (a1, .inl (E.2.1.1, 6, .inl f1)), (a2, .inl (E.2.1.1, 6, .inl f2)), (a3, .inl (E.2.1.1, 6, .inl f3))] (some (.int (o_X8_was_r v ms sl f1 f2 f3 p ns))) [(m, .inr (8, [.int (v 0), .int (v 1), .ref aS, .int (v 2), .int (v 3), .int (v 4), .ref aW, .int (v 5), .ref aL, .int (v 6), .int (v 7), .int (v 8), .ref aT, .int (v 9), .int (v 10), .int (v 11), .int (v 12), .ref a1, .ref a2, .ref a3, .ref aB, .int (v 13), .int (v 14)])), (aS, .inl (E.2.1.1, 12, .inl ms)), (aL, .inl (E.2.1.1, 156, .inl (o_X8_was_2 v ms sl f1 f2 f3 p ns))), (a1, .inl (E.2.1.1, 6, .inl f1)), (a2, .inl (E.2.1.1, 6, .inl f2)), (a3, .inl (E.2.1.1, 6, .inl f3))] := by
  refine HM.of (own := RX8) (plainFor_of_name (by decide)) rfl (Nat.le_of_ble_eq_true rfl) ?_
  intro zp ze zs zm za zb zt zc zA ls H locs zq C hr hlk hG hl hQ
  have hx := C.1.1
  have hb := C.1.2.1
  replace hl : lv_has ls 4 [(0, .ref m), (1, .int p)] := hl
  refine lv_iload_n hx hb dX8_was_0 rfl (lv_at hl 1 rfl) ?_
  refine call_X8_121 C dX8_was_1 (c_X8_isOne l E p) hl hG [] (by decide) rfl (ads := []) rfl rfl (ws' := [(m, .inr (8, [.int (v 0), .int (v 1), .ref aS, .int (v 2), .int (v 3), .int (v 4), .ref aW, .int (v 5), .ref aL, .int (v 6), .int (v 7), .int (v 8), .ref aT, .int (v 9), .int (v 10), .int (v 11), .int (v 12), .ref a1, .ref a2, .ref a3, .ref aB, .int (v 13), .int (v 14)])), (aS, .inl (E.2.1.1, 12, .inl ms)), (aL, .inl (E.2.1.1, 156, .inl sl)), (a1, .inl (E.2.1.1, 6, .inl f1)), (a2, .inl (E.2.1.1, 6, .inl f2)), (a3, .inl (E.2.1.1, 6, .inl f3))]) rfl rfl (rest := []) rfl (Nat.le_of_ble_eq_true rfl) ⟨Nat.le_of_ble_eq_true rfl, Nat.le_of_ble_eq_true rfl⟩ (fun H locs hG => ?_)
  refine lv_if_ne (tgt := 9) hx hb dX8_was_4 (by decide) (fun c_1 => ?_) (fun c_1 => ?_)
  · skip
    rcases (z_one c_1) with rfl | rfl
    · skip
      refine lv_aload_n hx hb dX8_was_9 rfl (lv_at hl 0 rfl) ?_
      refine call_X8_162 C dX8_was_10 (c_X8_isOver l E v sl m aS aW aL aT a1 a2 a3 aB) hl hG 0 rfl [0, 2] (by decide) rfl (ads := [m, aL]) rfl rfl (ws' := [(m, .inr (8, [.int (v 0), .int (v 1), .ref aS, .int (v 2), .int (v 3), .int (v 4), .ref aW, .int (v 5), .ref aL, .int (v 6), .int (v 7), .int (v 8), .ref aT, .int (v 9), .int (v 10), .int (v 11), .int (v 12), .ref a1, .ref a2, .ref a3, .ref aB, .int (v 13), .int (v 14)])), (aS, .inl (E.2.1.1, 12, .inl ms)), (aL, .inl (E.2.1.1, 156, .inl sl)), (a1, .inl (E.2.1.1, 6, .inl f1)), (a2, .inl (E.2.1.1, 6, .inl f2)), (a3, .inl (E.2.1.1, 6, .inl f3))]) rfl rfl (rest := []) rfl (Nat.le_of_ble_eq_true rfl) ⟨Nat.le_of_ble_eq_true rfl, Nat.le_of_ble_eq_true rfl⟩ (fun H locs hG => ?_)
      refine lv_if_eq (tgt := 19) hx hb dX8_was_13 (by decide) (fun c_2 => ?_) (fun c_2 => ?_)
      · skip
        refine lv_iconst (v := 0) hx hb dX8_was_19 (by decide) ?_
        refine lv_istore_n (lv' := [(2, .int 0), (0, .ref m), (1, .int 0)]) hx hb dX8_was_20 rfl hl (by decide) rfl (fun ls hl => ?_)
        refine lv_iconst (v := 0) hx hb dX8_was_21 (by decide) ?_
        refine lv_istore_n (lv' := [(3, .int 0), (2, .int 0), (0, .ref m), (1, .int 0)]) hx hb dX8_was_22 rfl hl (by decide) rfl (fun ls hl => ?_)
        have kl_0 : ∀ (j0 k0 : Nat), j0 + k0 = 5 → ∀ (u0_0 : Int32) (u0_1 : Nat → Int32) (H : Heap) (locs : List Loc) (ls : Array Slot), ((L_X8_was_0 v ms sl f1 f2 f3 0 ns k0).1) = u0_0 → ((L_X8_was_0 v ms sl f1 f2 f3 0 ns k0).2) = u0_1 → zG E zA zs.heap [(m, .inr (8, [.int (v 0), .int (v 1), .ref aS, .int (v 2), .int (v 3), .int (v 4), .ref aW, .int (v 5), .ref aL, .int (v 6), .int (v 7), .int (v 8), .ref aT, .int (v 9), .int (v 10), .int (v 11), .int (v 12), .ref a1, .ref a2, .ref a3, .ref aB, .int (v 13), .int (v 14)])), (aS, .inl (E.2.1.1, 12, .inl ms)), (aL, .inl (E.2.1.1, 156, .inl u0_1)), (a1, .inl (E.2.1.1, 6, .inl f1)), (a2, .inl (E.2.1.1, 6, .inl f2)), (a3, .inl (E.2.1.1, 6, .inl f3))] H locs → lv_has ls 4 [(3, .int (nI k0)), (2, .int u0_0), (0, .ref m), (1, .int 0)] → W zp l ze (zR 6 144) zs zm za zb zt zc H locs 0 0 zq (F0 zm 23 ls []) := by
          intro j0
          induction j0 with
          | zero =>
            intro k0 hk0 u0_0 u0_1 H locs ls e_u0_0 e_u0_1 hG hl
            subst e_u0_0
            subst e_u0_1
            obtain rfl : k0 = 5 := by omega
            refine lv_iload_n hx hb dX8_was_23 rfl (lv_at hl 0 rfl) ?_
            refine lv_iconst (v := 5) hx hb dX8_was_24 (by decide) ?_
            refine lv_icmp_ge (tgt := 72) hx hb dX8_was_25 (by decide) (fun c_7 => ?_) (fun c_7 => absurd (z_ge_yes (N := 5) rfl) c_7)
            refine lv_iload_n hx hb dX8_was_72 rfl (lv_at hl 1 rfl) ?_
            rw [hQ]
            exact z_iret C hr hlk hG dX8_was_73 rfl (by rw [o_X8_was_r, if_neg c_1, if_pos rfl, if_pos c_2]) (by rw [o_X8_was_2, if_neg c_1, if_pos rfl, if_pos c_2])
          | succ j0 ih0 =>
            intro k0 hk0 u0_0 u0_1 H locs ls e_u0_0 e_u0_1 hG hl
            subst e_u0_0
            subst e_u0_1
            have hlt : k0 < 5 := by omega
            refine lv_iload_n hx hb dX8_was_23 rfl (lv_at hl 0 rfl) ?_
            refine lv_iconst (v := 5) hx hb dX8_was_24 (by decide) ?_
            refine lv_icmp_ge (tgt := 72) hx hb dX8_was_25 (by decide) (fun c_8 => absurd c_8 (z_ge_no (N := 5) hlt (by decide) rfl)) (fun c_8 => ?_)
            refine lv_aload_n hx hb dX8_was_28 rfl (lv_at hl 2 rfl) ?_
            refine lv_iconst (v := 0) hx hb dX8_was_29 (by decide) ?_
            refine lv_sipush (v := 143) hx hb dX8_was_30 (by decide) ?_
            refine call_X8_101 C dX8_was_33 (c_X8_copies_t l E v ((L_X8_was_0 v ms sl f1 f2 f3 0 ns k0).2) 0 143 m aS aW aL aT a1 a2 a3 aB (by omega) (by omega) (by omega)) hl hG 0 rfl [0, 2] (by decide) rfl (ads := [m, aL]) rfl rfl (ws' := [(m, .inr (8, [.int (v 0), .int (v 1), .ref aS, .int (v 2), .int (v 3), .int (v 4), .ref aW, .int (v 5), .ref aL, .int (v 6), .int (v 7), .int (v 8), .ref aT, .int (v 9), .int (v 10), .int (v 11), .int (v 12), .ref a1, .ref a2, .ref a3, .ref aB, .int (v 13), .int (v 14)])), (aS, .inl (E.2.1.1, 12, .inl ms)), (aL, .inl (E.2.1.1, 156, .inl (cp13 ((L_X8_was_0 v ms sl f1 f2 f3 0 ns k0).2) 0 143))), (a1, .inl (E.2.1.1, 6, .inl f1)), (a2, .inl (E.2.1.1, 6, .inl f2)), (a3, .inl (E.2.1.1, 6, .inl f3))]) rfl rfl (rest := []) rfl (Nat.le_of_ble_eq_true rfl) ⟨Nat.le_of_ble_eq_true rfl, Nat.le_of_ble_eq_true rfl⟩ (fun H locs hG => ?_)
            refine lv_aload_n hx hb dX8_was_36 rfl (lv_at hl 2 rfl) ?_
            refine gf_X8_16 C dX8_was_37 hG 0 rfl rfl ?_
            refine lv_sipush (v := 143) hx hb dX8_was_40 (by decide) ?_
            refine lv_iload_n hx hb dX8_was_43 rfl (lv_at hl 3 rfl) ?_
            refine lv_iadd hx hb dX8_was_44 ?_
            refine z_ti (y := 143) (by decide) ?_
            refine lv_iload_n hx hb dX8_was_45 rfl (lv_at hl 0 rfl) ?_
            refine z_ist C dX8_was_46 hG 2 rfl 143 (by decide) (Nat.le_of_ble_eq_true rfl) (Nat.le_of_ble_eq_true rfl) (ws' := [(m, .inr (8, [.int (v 0), .int (v 1), .ref aS, .int (v 2), .int (v 3), .int (v 4), .ref aW, .int (v 5), .ref aL, .int (v 6), .int (v 7), .int (v 8), .ref aT, .int (v 9), .int (v 10), .int (v 11), .int (v 12), .ref a1, .ref a2, .ref a3, .ref aB, .int (v 13), .int (v 14)])), (aS, .inl (E.2.1.1, 12, .inl ms)), (aL, .inl (E.2.1.1, 156, .inl (upd (cp13 ((L_X8_was_0 v ms sl f1 f2 f3 0 ns k0).2) 0 143) 143 (nI k0)))), (a1, .inl (E.2.1.1, 6, .inl f1)), (a2, .inl (E.2.1.1, 6, .inl f2)), (a3, .inl (E.2.1.1, 6, .inl f3))]) rfl (fun H locs hG => ?_)
            refine lv_iload_n hx hb dX8_was_47 rfl (lv_at hl 1 rfl) ?_
            refine lv_aload_n hx hb dX8_was_48 rfl (lv_at hl 2 rfl) ?_
            refine lv_iconst (v := 0) hx hb dX8_was_49 (by decide) ?_
            refine lv_iconst (v := 0) hx hb dX8_was_50 (by decide) ?_
            refine call_X8_208 C dX8_was_51 (c_X8_isSo l E v ms (upd (cp13 ((L_X8_was_0 v ms sl f1 f2 f3 0 ns k0).2) 0 143) 143 (nI k0)) f1 f2 f3 0 0 ns m aS aW aL aT a1 a2 a3 aB (by rw [pk_un (by decide), cp_154, L_X8_was_0_low]; exact hB) hz hz6 hw) hl hG 0 rfl [0, 1, 2, 3, 4, 5] (by decide) rfl (ads := [m, aS, aL, a1, a2, a3]) rfl rfl (ws' := [(m, .inr (8, [.int (v 0), .int (v 1), .ref aS, .int (v 2), .int (v 3), .int (v 4), .ref aW, .int (v 5), .ref aL, .int (v 6), .int (v 7), .int (v 8), .ref aT, .int (v 9), .int (v 10), .int (v 11), .int (v 12), .ref a1, .ref a2, .ref a3, .ref aB, .int (v 13), .int (v 14)])), (aS, .inl (E.2.1.1, 12, .inl ms)), (aL, .inl (E.2.1.1, 156, .inl (o_X8_isSo_2 v ms (upd (cp13 ((L_X8_was_0 v ms sl f1 f2 f3 0 ns k0).2) 0 143) 143 (nI k0)) f1 f2 f3 0 0 ns))), (a1, .inl (E.2.1.1, 6, .inl f1)), (a2, .inl (E.2.1.1, 6, .inl f2)), (a3, .inl (E.2.1.1, 6, .inl f3))]) rfl rfl (rest := [.int ((L_X8_was_0 v ms sl f1 f2 f3 0 ns k0).1)]) rfl (Nat.le_of_ble_eq_true rfl) ⟨Nat.le_of_ble_eq_true rfl, Nat.le_of_ble_eq_true rfl⟩ (fun H locs hG => ?_)
            have k_1 : ∀ (y1_0 : Int32) (H : Heap) (locs : List Loc) (ls : Array Slot), (j_X8_was_1_0 v ms sl f1 f2 f3 0 ns k0 ((L_X8_was_0 v ms sl f1 f2 f3 0 ns k0).1) ((L_X8_was_0 v ms sl f1 f2 f3 0 ns k0).2)) = y1_0 → zG E zA zs.heap [(m, .inr (8, [.int (v 0), .int (v 1), .ref aS, .int (v 2), .int (v 3), .int (v 4), .ref aW, .int (v 5), .ref aL, .int (v 6), .int (v 7), .int (v 8), .ref aT, .int (v 9), .int (v 10), .int (v 11), .int (v 12), .ref a1, .ref a2, .ref a3, .ref aB, .int (v 13), .int (v 14)])), (aS, .inl (E.2.1.1, 12, .inl ms)), (aL, .inl (E.2.1.1, 156, .inl (o_X8_isSo_2 v ms (upd (cp13 ((L_X8_was_0 v ms sl f1 f2 f3 0 ns k0).2) 0 143) 143 (nI k0)) f1 f2 f3 0 0 ns))), (a1, .inl (E.2.1.1, 6, .inl f1)), (a2, .inl (E.2.1.1, 6, .inl f2)), (a3, .inl (E.2.1.1, 6, .inl f3))] H locs → lv_has ls 4 [(3, .int (nI k0)), (2, .int ((L_X8_was_0 v ms sl f1 f2 f3 0 ns k0).1)), (0, .ref m), (1, .int 0)] → W zp l ze (zR 6 144) zs zm za zb zt zc H locs 0 0 zq (F0 zm 64 ls [.int y1_0, .int ((L_X8_was_0 v ms sl f1 f2 f3 0 ns k0).1)]) := by
              intro y1_0 H locs ls e_y1_0 hG hl
              subst e_y1_0
              refine lv_ior hx hb dX8_was_64 ?_
              refine lv_istore_n (lv' := [(2, .int (((L_X8_was_0 v ms sl f1 f2 f3 0 ns k0).1) ||| (j_X8_was_1_0 v ms sl f1 f2 f3 0 ns k0 ((L_X8_was_0 v ms sl f1 f2 f3 0 ns k0).1) ((L_X8_was_0 v ms sl f1 f2 f3 0 ns k0).2)))), (3, .int (nI k0)), (0, .ref m), (1, .int 0)]) hx hb dX8_was_65 rfl hl (by decide) rfl (fun ls hl => ?_)
              refine lv_iinc (v := (nI (k0 + 1))) (lv' := [(3, .int (nI (k0 + 1))), (2, .int (((L_X8_was_0 v ms sl f1 f2 f3 0 ns k0).1) ||| (j_X8_was_1_0 v ms sl f1 f2 f3 0 ns k0 ((L_X8_was_0 v ms sl f1 f2 f3 0 ns k0).1) ((L_X8_was_0 v ms sl f1 f2 f3 0 ns k0).2)))), (0, .ref m), (1, .int 0)]) hx hb dX8_was_66 hl (k := 1) rfl (nI_1 _) (by decide) rfl (fun ls hl => ?_)
              refine lv_goto (tgt := 23) hx hb dX8_was_69 (by decide) ?_
              exact ih0 (k0 + 1) (by omega) (((L_X8_was_0 v ms sl f1 f2 f3 0 ns k0).1) ||| (j_X8_was_1_0 v ms sl f1 f2 f3 0 ns k0 ((L_X8_was_0 v ms sl f1 f2 f3 0 ns k0).1) ((L_X8_was_0 v ms sl f1 f2 f3 0 ns k0).2))) (o_X8_isSo_2 v ms (upd (cp13 ((L_X8_was_0 v ms sl f1 f2 f3 0 ns k0).2) 0 143) 143 (nI k0)) f1 f2 f3 0 0 ns) _ _ _ (by rw [L_X8_was_0]) (by rw [L_X8_was_0]) hG (lv_sub hl [0, 1, 2, 3] rfl)
            refine lv_if_eq (tgt := 63) hx hb dX8_was_54 (by decide) (fun c_9 => ?_) (fun c_9 => ?_)
            · skip
              refine lv_iconst (v := 0) hx hb dX8_was_63 (by decide) ?_
              exact k_1 0 _ _ _ (by rw [j_X8_was_1_0, if_pos c_9]) hG (lv_sub hl [0, 1, 2, 3] rfl)
            · skip
              refine lv_iconst (v := 1) hx hb dX8_was_57 (by decide) ?_
              refine lv_iload_n hx hb dX8_was_58 rfl (lv_at hl 0 rfl) ?_
              refine lv_ishl hx hb dX8_was_59 ?_
              refine lv_goto (tgt := 64) hx hb dX8_was_60 (by decide) ?_
              exact k_1 (1 <<< ((nI k0) &&& 31)) _ _ _ (by rw [j_X8_was_1_0, if_neg c_9]) hG (lv_sub hl [0, 1, 2, 3] rfl)
        exact kl_0 5 0 (by omega) 0 sl _ _ _ (by rw [L_X8_was_0]) (by rw [L_X8_was_0]) hG (lv_sub hl [0, 1, 2, 3] rfl)
      · skip
        refine lv_bipush (v := (-2)) hx hb dX8_was_16 (by decide) ?_
        rw [hQ]
        exact z_iret C hr hlk hG dX8_was_18 rfl (by rw [o_X8_was_r, if_neg c_1, if_pos rfl, if_neg c_2]) (by rw [o_X8_was_2, if_neg c_1, if_pos rfl, if_neg c_2])
    · skip
      refine lv_aload_n hx hb dX8_was_9 rfl (lv_at hl 0 rfl) ?_
      refine call_X8_162 C dX8_was_10 (c_X8_isOver l E v sl m aS aW aL aT a1 a2 a3 aB) hl hG 0 rfl [0, 2] (by decide) rfl (ads := [m, aL]) rfl rfl (ws' := [(m, .inr (8, [.int (v 0), .int (v 1), .ref aS, .int (v 2), .int (v 3), .int (v 4), .ref aW, .int (v 5), .ref aL, .int (v 6), .int (v 7), .int (v 8), .ref aT, .int (v 9), .int (v 10), .int (v 11), .int (v 12), .ref a1, .ref a2, .ref a3, .ref aB, .int (v 13), .int (v 14)])), (aS, .inl (E.2.1.1, 12, .inl ms)), (aL, .inl (E.2.1.1, 156, .inl sl)), (a1, .inl (E.2.1.1, 6, .inl f1)), (a2, .inl (E.2.1.1, 6, .inl f2)), (a3, .inl (E.2.1.1, 6, .inl f3))]) rfl rfl (rest := []) rfl (Nat.le_of_ble_eq_true rfl) ⟨Nat.le_of_ble_eq_true rfl, Nat.le_of_ble_eq_true rfl⟩ (fun H locs hG => ?_)
      refine lv_if_eq (tgt := 19) hx hb dX8_was_13 (by decide) (fun c_10 => ?_) (fun c_10 => ?_)
      · skip
        refine lv_iconst (v := 0) hx hb dX8_was_19 (by decide) ?_
        refine lv_istore_n (lv' := [(2, .int 0), (0, .ref m), (1, .int 1)]) hx hb dX8_was_20 rfl hl (by decide) rfl (fun ls hl => ?_)
        refine lv_iconst (v := 0) hx hb dX8_was_21 (by decide) ?_
        refine lv_istore_n (lv' := [(3, .int 0), (2, .int 0), (0, .ref m), (1, .int 1)]) hx hb dX8_was_22 rfl hl (by decide) rfl (fun ls hl => ?_)
        have kl_2 : ∀ (j2 k2 : Nat), j2 + k2 = 5 → ∀ (u2_0 : Int32) (u2_1 : Nat → Int32) (H : Heap) (locs : List Loc) (ls : Array Slot), ((L_X8_was_2 v ms sl f1 f2 f3 1 ns k2).1) = u2_0 → ((L_X8_was_2 v ms sl f1 f2 f3 1 ns k2).2) = u2_1 → zG E zA zs.heap [(m, .inr (8, [.int (v 0), .int (v 1), .ref aS, .int (v 2), .int (v 3), .int (v 4), .ref aW, .int (v 5), .ref aL, .int (v 6), .int (v 7), .int (v 8), .ref aT, .int (v 9), .int (v 10), .int (v 11), .int (v 12), .ref a1, .ref a2, .ref a3, .ref aB, .int (v 13), .int (v 14)])), (aS, .inl (E.2.1.1, 12, .inl ms)), (aL, .inl (E.2.1.1, 156, .inl u2_1)), (a1, .inl (E.2.1.1, 6, .inl f1)), (a2, .inl (E.2.1.1, 6, .inl f2)), (a3, .inl (E.2.1.1, 6, .inl f3))] H locs → lv_has ls 4 [(3, .int (nI k2)), (2, .int u2_0), (0, .ref m), (1, .int 1)] → W zp l ze (zR 6 144) zs zm za zb zt zc H locs 0 0 zq (F0 zm 23 ls []) := by
          intro j2
          induction j2 with
          | zero =>
            intro k2 hk2 u2_0 u2_1 H locs ls e_u2_0 e_u2_1 hG hl
            subst e_u2_0
            subst e_u2_1
            obtain rfl : k2 = 5 := by omega
            refine lv_iload_n hx hb dX8_was_23 rfl (lv_at hl 0 rfl) ?_
            refine lv_iconst (v := 5) hx hb dX8_was_24 (by decide) ?_
            refine lv_icmp_ge (tgt := 72) hx hb dX8_was_25 (by decide) (fun c_15 => ?_) (fun c_15 => absurd (z_ge_yes (N := 5) rfl) c_15)
            refine lv_iload_n hx hb dX8_was_72 rfl (lv_at hl 1 rfl) ?_
            rw [hQ]
            exact z_iret C hr hlk hG dX8_was_73 rfl (by rw [o_X8_was_r, if_neg c_1, if_neg (by decide : ¬ (1 : Int32) = 0), if_pos c_10]) (by rw [o_X8_was_2, if_neg c_1, if_neg (by decide : ¬ (1 : Int32) = 0), if_pos c_10])
          | succ j2 ih2 =>
            intro k2 hk2 u2_0 u2_1 H locs ls e_u2_0 e_u2_1 hG hl
            subst e_u2_0
            subst e_u2_1
            have hlt : k2 < 5 := by omega
            refine lv_iload_n hx hb dX8_was_23 rfl (lv_at hl 0 rfl) ?_
            refine lv_iconst (v := 5) hx hb dX8_was_24 (by decide) ?_
            refine lv_icmp_ge (tgt := 72) hx hb dX8_was_25 (by decide) (fun c_16 => absurd c_16 (z_ge_no (N := 5) hlt (by decide) rfl)) (fun c_16 => ?_)
            refine lv_aload_n hx hb dX8_was_28 rfl (lv_at hl 2 rfl) ?_
            refine lv_iconst (v := 0) hx hb dX8_was_29 (by decide) ?_
            refine lv_sipush (v := 143) hx hb dX8_was_30 (by decide) ?_
            refine call_X8_101 C dX8_was_33 (c_X8_copies_t l E v ((L_X8_was_2 v ms sl f1 f2 f3 1 ns k2).2) 0 143 m aS aW aL aT a1 a2 a3 aB (by omega) (by omega) (by omega)) hl hG 0 rfl [0, 2] (by decide) rfl (ads := [m, aL]) rfl rfl (ws' := [(m, .inr (8, [.int (v 0), .int (v 1), .ref aS, .int (v 2), .int (v 3), .int (v 4), .ref aW, .int (v 5), .ref aL, .int (v 6), .int (v 7), .int (v 8), .ref aT, .int (v 9), .int (v 10), .int (v 11), .int (v 12), .ref a1, .ref a2, .ref a3, .ref aB, .int (v 13), .int (v 14)])), (aS, .inl (E.2.1.1, 12, .inl ms)), (aL, .inl (E.2.1.1, 156, .inl (cp13 ((L_X8_was_2 v ms sl f1 f2 f3 1 ns k2).2) 0 143))), (a1, .inl (E.2.1.1, 6, .inl f1)), (a2, .inl (E.2.1.1, 6, .inl f2)), (a3, .inl (E.2.1.1, 6, .inl f3))]) rfl rfl (rest := []) rfl (Nat.le_of_ble_eq_true rfl) ⟨Nat.le_of_ble_eq_true rfl, Nat.le_of_ble_eq_true rfl⟩ (fun H locs hG => ?_)
            refine lv_aload_n hx hb dX8_was_36 rfl (lv_at hl 2 rfl) ?_
            refine gf_X8_16 C dX8_was_37 hG 0 rfl rfl ?_
            refine lv_sipush (v := 143) hx hb dX8_was_40 (by decide) ?_
            refine lv_iload_n hx hb dX8_was_43 rfl (lv_at hl 3 rfl) ?_
            refine lv_iadd hx hb dX8_was_44 ?_
            refine z_ti (y := 144) (by decide) ?_
            refine lv_iload_n hx hb dX8_was_45 rfl (lv_at hl 0 rfl) ?_
            refine z_ist C dX8_was_46 hG 2 rfl 144 (by decide) (Nat.le_of_ble_eq_true rfl) (Nat.le_of_ble_eq_true rfl) (ws' := [(m, .inr (8, [.int (v 0), .int (v 1), .ref aS, .int (v 2), .int (v 3), .int (v 4), .ref aW, .int (v 5), .ref aL, .int (v 6), .int (v 7), .int (v 8), .ref aT, .int (v 9), .int (v 10), .int (v 11), .int (v 12), .ref a1, .ref a2, .ref a3, .ref aB, .int (v 13), .int (v 14)])), (aS, .inl (E.2.1.1, 12, .inl ms)), (aL, .inl (E.2.1.1, 156, .inl (upd (cp13 ((L_X8_was_2 v ms sl f1 f2 f3 1 ns k2).2) 0 143) 144 (nI k2)))), (a1, .inl (E.2.1.1, 6, .inl f1)), (a2, .inl (E.2.1.1, 6, .inl f2)), (a3, .inl (E.2.1.1, 6, .inl f3))]) rfl (fun H locs hG => ?_)
            refine lv_iload_n hx hb dX8_was_47 rfl (lv_at hl 1 rfl) ?_
            refine lv_aload_n hx hb dX8_was_48 rfl (lv_at hl 2 rfl) ?_
            refine lv_iconst (v := 0) hx hb dX8_was_49 (by decide) ?_
            refine lv_iconst (v := 0) hx hb dX8_was_50 (by decide) ?_
            refine call_X8_208 C dX8_was_51 (c_X8_isSo l E v ms (upd (cp13 ((L_X8_was_2 v ms sl f1 f2 f3 1 ns k2).2) 0 143) 144 (nI k2)) f1 f2 f3 0 0 ns m aS aW aL aT a1 a2 a3 aB (by rw [pk_un (by decide), cp_154, L_X8_was_2_low]; exact hB) hz hz6 hw) hl hG 0 rfl [0, 1, 2, 3, 4, 5] (by decide) rfl (ads := [m, aS, aL, a1, a2, a3]) rfl rfl (ws' := [(m, .inr (8, [.int (v 0), .int (v 1), .ref aS, .int (v 2), .int (v 3), .int (v 4), .ref aW, .int (v 5), .ref aL, .int (v 6), .int (v 7), .int (v 8), .ref aT, .int (v 9), .int (v 10), .int (v 11), .int (v 12), .ref a1, .ref a2, .ref a3, .ref aB, .int (v 13), .int (v 14)])), (aS, .inl (E.2.1.1, 12, .inl ms)), (aL, .inl (E.2.1.1, 156, .inl (o_X8_isSo_2 v ms (upd (cp13 ((L_X8_was_2 v ms sl f1 f2 f3 1 ns k2).2) 0 143) 144 (nI k2)) f1 f2 f3 0 0 ns))), (a1, .inl (E.2.1.1, 6, .inl f1)), (a2, .inl (E.2.1.1, 6, .inl f2)), (a3, .inl (E.2.1.1, 6, .inl f3))]) rfl rfl (rest := [.int ((L_X8_was_2 v ms sl f1 f2 f3 1 ns k2).1)]) rfl (Nat.le_of_ble_eq_true rfl) ⟨Nat.le_of_ble_eq_true rfl, Nat.le_of_ble_eq_true rfl⟩ (fun H locs hG => ?_)
            have k_3 : ∀ (y3_0 : Int32) (H : Heap) (locs : List Loc) (ls : Array Slot), (j_X8_was_3_0 v ms sl f1 f2 f3 1 ns k2 ((L_X8_was_2 v ms sl f1 f2 f3 1 ns k2).1) ((L_X8_was_2 v ms sl f1 f2 f3 1 ns k2).2)) = y3_0 → zG E zA zs.heap [(m, .inr (8, [.int (v 0), .int (v 1), .ref aS, .int (v 2), .int (v 3), .int (v 4), .ref aW, .int (v 5), .ref aL, .int (v 6), .int (v 7), .int (v 8), .ref aT, .int (v 9), .int (v 10), .int (v 11), .int (v 12), .ref a1, .ref a2, .ref a3, .ref aB, .int (v 13), .int (v 14)])), (aS, .inl (E.2.1.1, 12, .inl ms)), (aL, .inl (E.2.1.1, 156, .inl (o_X8_isSo_2 v ms (upd (cp13 ((L_X8_was_2 v ms sl f1 f2 f3 1 ns k2).2) 0 143) 144 (nI k2)) f1 f2 f3 0 0 ns))), (a1, .inl (E.2.1.1, 6, .inl f1)), (a2, .inl (E.2.1.1, 6, .inl f2)), (a3, .inl (E.2.1.1, 6, .inl f3))] H locs → lv_has ls 4 [(3, .int (nI k2)), (2, .int ((L_X8_was_2 v ms sl f1 f2 f3 1 ns k2).1)), (0, .ref m), (1, .int 1)] → W zp l ze (zR 6 144) zs zm za zb zt zc H locs 0 0 zq (F0 zm 64 ls [.int y3_0, .int ((L_X8_was_2 v ms sl f1 f2 f3 1 ns k2).1)]) := by
              intro y3_0 H locs ls e_y3_0 hG hl
              subst e_y3_0
              refine lv_ior hx hb dX8_was_64 ?_
              refine lv_istore_n (lv' := [(2, .int (((L_X8_was_2 v ms sl f1 f2 f3 1 ns k2).1) ||| (j_X8_was_3_0 v ms sl f1 f2 f3 1 ns k2 ((L_X8_was_2 v ms sl f1 f2 f3 1 ns k2).1) ((L_X8_was_2 v ms sl f1 f2 f3 1 ns k2).2)))), (3, .int (nI k2)), (0, .ref m), (1, .int 1)]) hx hb dX8_was_65 rfl hl (by decide) rfl (fun ls hl => ?_)
              refine lv_iinc (v := (nI (k2 + 1))) (lv' := [(3, .int (nI (k2 + 1))), (2, .int (((L_X8_was_2 v ms sl f1 f2 f3 1 ns k2).1) ||| (j_X8_was_3_0 v ms sl f1 f2 f3 1 ns k2 ((L_X8_was_2 v ms sl f1 f2 f3 1 ns k2).1) ((L_X8_was_2 v ms sl f1 f2 f3 1 ns k2).2)))), (0, .ref m), (1, .int 1)]) hx hb dX8_was_66 hl (k := 1) rfl (nI_1 _) (by decide) rfl (fun ls hl => ?_)
              refine lv_goto (tgt := 23) hx hb dX8_was_69 (by decide) ?_
              exact ih2 (k2 + 1) (by omega) (((L_X8_was_2 v ms sl f1 f2 f3 1 ns k2).1) ||| (j_X8_was_3_0 v ms sl f1 f2 f3 1 ns k2 ((L_X8_was_2 v ms sl f1 f2 f3 1 ns k2).1) ((L_X8_was_2 v ms sl f1 f2 f3 1 ns k2).2))) (o_X8_isSo_2 v ms (upd (cp13 ((L_X8_was_2 v ms sl f1 f2 f3 1 ns k2).2) 0 143) 144 (nI k2)) f1 f2 f3 0 0 ns) _ _ _ (by rw [L_X8_was_2]) (by rw [L_X8_was_2]) hG (lv_sub hl [0, 1, 2, 3] rfl)
            refine lv_if_eq (tgt := 63) hx hb dX8_was_54 (by decide) (fun c_17 => ?_) (fun c_17 => ?_)
            · skip
              refine lv_iconst (v := 0) hx hb dX8_was_63 (by decide) ?_
              exact k_3 0 _ _ _ (by rw [j_X8_was_3_0, if_pos c_17]) hG (lv_sub hl [0, 1, 2, 3] rfl)
            · skip
              refine lv_iconst (v := 1) hx hb dX8_was_57 (by decide) ?_
              refine lv_iload_n hx hb dX8_was_58 rfl (lv_at hl 0 rfl) ?_
              refine lv_ishl hx hb dX8_was_59 ?_
              refine lv_goto (tgt := 64) hx hb dX8_was_60 (by decide) ?_
              exact k_3 (1 <<< ((nI k2) &&& 31)) _ _ _ (by rw [j_X8_was_3_0, if_neg c_17]) hG (lv_sub hl [0, 1, 2, 3] rfl)
        exact kl_2 5 0 (by omega) 0 sl _ _ _ (by rw [L_X8_was_2]) (by rw [L_X8_was_2]) hG (lv_sub hl [0, 1, 2, 3] rfl)
      · skip
        refine lv_bipush (v := (-2)) hx hb dX8_was_16 (by decide) ?_
        rw [hQ]
        exact z_iret C hr hlk hG dX8_was_18 rfl (by rw [o_X8_was_r, if_neg c_1, if_neg (by decide : ¬ (1 : Int32) = 0), if_neg c_10]) (by rw [o_X8_was_2, if_neg c_1, if_neg (by decide : ¬ (1 : Int32) = 0), if_neg c_10])
  · skip
    refine lv_iconst (v := (-1)) hx hb dX8_was_7 (by decide) ?_
    rw [hQ]
    exact z_iret C hr hlk hG dX8_was_8 rfl (by rw [o_X8_was_r, if_pos c_1]) (by rw [o_X8_was_2, if_pos c_1])
