def mB (B : Int) (x : Int32) : Prop := 0 ≤ x.toInt ∧ x.toInt ≤ B
theorem mB_keep {B : Int} {x : Int32} (h : mB B x) : mB (B + 1) x := ⟨h.1, by have := h.2; omega⟩
theorem z_inc {x : Int32} (h0 : 0 ≤ x.toInt) (h : x.toInt < 2147483647) : (x + 1).toInt = x.toInt + 1 := by
  have e := (z_clamp h0).1
  have e2 := (z_clamp h0).2
  generalize x.toNatClampNeg = k at e e2
  subst e
  rw [nI_1, nI_toInt (by omega)]
  omega
theorem mB_succ {B : Int} (hB : B < 2000000000) {x : Int32} (h : mB B x) : mB (B + 1) (x + 1) := by
  have := h.1
  have := h.2
  refine ⟨?_, ?_⟩ <;> rw [z_inc h.1 (by omega)] <;> omega
def zkn (na : Nat) : Nat := if na = 8 then 8 else na + 1
theorem zkn_ge (na : Nat) : 1 ≤ zkn na := by unfold zkn; split <;> omega
theorem zkn_le {na : Nat} (h : na ≤ 8) : zkn na ≤ 8 := by unfold zkn; split <;> omega
theorem z_known {x : Int32} {na : Nat} (h : x = nI na) (h8 : na ≤ 8) : ((if x = 8 then 7 else x) + 1) * 13 = nI (13 * zkn na) := by
  subst h
  have key : ∀ n, n ≤ 8 → ((if nI n = 8 then 7 else nI n) + 1) * 13 = nI (13 * zkn n) := by decide +kernel
  exact key na h8
theorem z_in {v lo hi : Int64} (h : ¬ o_X8_in_r v lo hi = 0) : lo.toInt ≤ v.toInt ∧ v.toInt ≤ hi.toInt := by
  unfold o_X8_in_r at h
  split at h
  · exact absurd rfl h
  · rename_i h1
    split at h
    · exact absurd rfl h
    · rename_i h2
      constructor
      · unfold lg_cmp at h1
        split at h1
        · rename_i q; exact Int.le_of_lt (Int64.lt_iff_toInt_lt.mp q)
        · split at h1
          · rename_i q; rw [q]; exact Int.le_refl _
          · exact absurd (by decide) h1
      · unfold lg_cmp at h2
        split at h2
        · exact absurd (by decide) h2
        · rename_i q; exact Int.not_lt.mp (fun z => q (Int64.lt_iff_toInt_lt.mpr z))
theorem z_in32 {x : Int32} {lo hi : Int64} (h : ¬ o_X8_in_r x.toInt64 lo hi = 0) : lo.toInt ≤ x.toInt ∧ x.toInt ≤ hi.toInt := by
  have h1 := z_in h
  rw [Int32.toInt_toInt64] at h1
  exact h1
theorem z_one {p : Int32} (h : ¬ o_X8_isOne_r p = 0) : p = 0 ∨ p = 1 := by
  have h1 := z_in32 (x := p) (lo := 0) (hi := 1) h
  have e0 : (0 : Int64).toInt = 0 := by decide
  have e1 : (1 : Int64).toInt = 1 := by decide
  rcases (show p.toInt = 0 ∨ p.toInt = 1 by omega) with q | q
  · exact Or.inl (Int32.toInt_inj.mp (q.trans (by decide)))
  · exact Or.inr (Int32.toInt_inj.mp (q.trans (by decide)))
theorem z_in0 {x : Int32} {a b : Int64} (ha : 0 ≤ a.toInt) (h : ¬ o_X8_in_r x.toInt64 a b = 0) : 0 ≤ x.toInt := Int.le_trans ha (z_in32 h).1
theorem z_in1 {x : Int32} {a b : Int64} (ha : 0 ≤ a.toInt) (h : ¬ o_X8_in_r x.toInt64 a b = 0) : x.toNatClampNeg < 2 ^ 31 := by
  have h0 := z_in0 ha h
  have h1 := (z_clamp h0).2
  have h2 : x.toInt < 2 ^ 31 := Int32.toInt_lt x
  omega
theorem z_in2 {x : Int32} {a b : Int64} (ha : 0 ≤ a.toInt) (h : ¬ o_X8_in_r x.toInt64 a b = 0) : x = nI x.toNatClampNeg := (z_clamp (z_in0 ha h)).1
theorem z_in3 {x : Int32} {a b : Int64} {c : Nat} (ha : 0 ≤ a.toInt) (hc : b.toInt = (c : Int)) (h : ¬ o_X8_in_r x.toInt64 a b = 0) : x.toNatClampNeg ≤ c := by
  have h1 := (z_clamp (z_in0 ha h)).2
  have h2 := (z_in32 h).2
  omega
theorem z_lt200 {x : Int32} {n : Nat} (h : x = nI n) (h2 : n ≤ 200) (hc : ¬ x = 200) : n < 200 := by
  rcases Nat.lt_or_ge n 200 with q | q
  · exact q
  · exact absurd (by rw [h, show n = 200 by omega]; rfl) hc
theorem gn_goes_0 (v ms sl : Nat → Int32) (da db dr : Int32) : o_X8_goes_0_2 v ms sl da db dr 11 = if sl 12 < 0 then sl 11 + 1 else sl 11 := by
  rw [o_X8_goes_0_2]
  by_cases h : sl 12 < 0
  · rw [if_pos h, if_pos h]
    simp only [upd, if_pos]
    simp [gn_does_0_0, gn_rises_0_0, gn_does_0_1, gn_rises_0_1, gn_does_143_0, gn_rises_143_0, gn_does_143_1, gn_rises_143_1]
  · rw [if_neg h, if_neg h]
theorem mB_told_0 {B : Int} (hB2 : B < 2000000000) (v ms sl : Nat → Int32) (da db : Int32) (h : mB B (sl 11)) : mB (B + 1) (o_X8_told_0_2 v ms sl da db 11) := by
  rw [o_X8_told_0_2, gn_goes_0]
  split
  · exact mB_succ hB2 h
  · exact mB_keep h
theorem mB_goes_0 {B : Int} (hB2 : B < 2000000000) (v ms sl : Nat → Int32) (da db dr : Int32) (h : mB B (sl 11)) : mB (B + 1) (o_X8_goes_0_2 v ms sl da db dr 11) := by
  rw [gn_goes_0]
  split
  · exact mB_succ hB2 h
  · exact mB_keep h
theorem gn_goes_143 (v ms sl : Nat → Int32) (da db dr : Int32) : o_X8_goes_143_2 v ms sl da db dr 154 = if sl 155 < 0 then sl 154 + 1 else sl 154 := by
  rw [o_X8_goes_143_2]
  by_cases h : sl 155 < 0
  · rw [if_pos h, if_pos h]
    simp only [upd, if_pos]
    simp [gn_does_0_0, gn_rises_0_0, gn_does_0_1, gn_rises_0_1, gn_does_143_0, gn_rises_143_0, gn_does_143_1, gn_rises_143_1]
  · rw [if_neg h, if_neg h]
theorem mB_told_143 {B : Int} (hB2 : B < 2000000000) (v ms sl : Nat → Int32) (da db : Int32) (h : mB B (sl 154)) : mB (B + 1) (o_X8_told_143_2 v ms sl da db 154) := by
  rw [o_X8_told_143_2, gn_goes_143]
  split
  · exact mB_succ hB2 h
  · exact mB_keep h
theorem mB_goes_143 {B : Int} (hB2 : B < 2000000000) (v ms sl : Nat → Int32) (da db dr : Int32) (h : mB B (sl 154)) : mB (B + 1) (o_X8_goes_143_2 v ms sl da db dr 154) := by
  rw [gn_goes_143]
  split
  · exact mB_succ hB2 h
  · exact mB_keep h
def L_X8_known_0 (v : Nat → Int32) (sl : Nat → Int32) (na : Nat) : Nat → (Nat → Int32)
  | 0 => sl
  | (k0 + 1) => (upd (L_X8_known_0 v sl na k0) (13 + k0) ((L_X8_known_0 v sl na k0) (13 + k0 + 13)))
def j_X8_known_1_0 (v : Nat → Int32) (sl : Nat → Int32) (na : Nat) : Int32 := (if (v 6) = 8 then 7 else (v 6))
def j_X8_known_1_1 (v : Nat → Int32) (sl : Nat → Int32) (na : Nat) : Nat → Int32 := (if (v 6) = 8 then (L_X8_known_0 v sl na 91) else sl)
def o_X8_known_v (v : Nat → Int32) (sl : Nat → Int32) (na : Nat) : Nat → Int32 := (mkG15 (v 0) (v 1) (v 2) (v 3) (v 4) (v 5) ((j_X8_known_1_0 v sl na) + 1) (v 7) (v 8) (v 9) (v 10) (v 11) (v 12) (v 13) (v 14))
def o_X8_known_1 (v : Nat → Int32) (sl : Nat → Int32) (na : Nat) : Nat → Int32 := (cp13 (j_X8_known_1_1 v sl na) 0 (13 * zkn na))
set_option maxRecDepth 100000 in
set_option maxHeartbeats 4000000 in
theorem c_X8_known (l : Launch) (E : zE) (v : Nat → Int32) (sl : Nat → Int32) (na : Nat) (m aS aW aL aT a1 a2 a3 aB : Nat) (hna : v 6 = nI na) (hn8 : na ≤ 8) : HM l E yX8_known cX8_known 2 none 1 23 [.ref m] [(m, .inr (8, [.int (v 0), .int (v 1), .ref aS, .int (v 2), .int (v 3), .int (v 4), .ref aW, .int (v 5), .ref aL, .int (v 6), .int (v 7), .int (v 8), .ref aT, .int (v 9), .int (v 10), .int (v 11), .int (v 12), .ref a1, .ref a2, .ref a3, .ref aB, .int (v 13), .int (v 14)])), (aL, .inl (E.2.1.1, 156, .inl sl))] none [(m, .inr (8, [.int (o_X8_known_v v sl na 0), .int (o_X8_known_v v sl na 1), .ref aS, .int (o_X8_known_v v sl na 2), .int (o_X8_known_v v sl na 3), .int (o_X8_known_v v sl na 4), .ref aW, .int (o_X8_known_v v sl na 5), .ref aL, .int (o_X8_known_v v sl na 6), .int (o_X8_known_v v sl na 7), .int (o_X8_known_v v sl na 8), .ref aT, .int (o_X8_known_v v sl na 9), .int (o_X8_known_v v sl na 10), .int (o_X8_known_v v sl na 11), .int (o_X8_known_v v sl na 12), .ref a1, .ref a2, .ref a3, .ref aB, .int (o_X8_known_v v sl na 13), .int (o_X8_known_v v sl na 14)])), (aL, .inl (E.2.1.1, 156, .inl (o_X8_known_1 v sl na)))] := by
  refine HM.of (own := RX8) (plainFor_of_name (by decide)) rfl (Nat.le_of_ble_eq_true rfl) ?_
  intro zp ze zs zm za zb zt zc zA ls H locs zq C hr hlk hG hl hQ
  have hx := C.1.1
  have hb := C.1.2.1
  replace hl : lv_has ls 2 [(0, .ref m)] := hl
  refine lv_aload_n hx hb dX8_known_0 rfl (lv_at hl 0 rfl) ?_
  refine gf_X8_105 C dX8_known_1 hG 0 rfl rfl ?_
  refine lv_bipush (v := 8) hx hb dX8_known_4 (by decide) ?_
  have k_1 : ∀ (y1_0 : Int32) (y1_1 : Nat → Int32) (H : Heap) (locs : List Loc) (ls : Array Slot), (j_X8_known_1_0 v sl na) = y1_0 → (j_X8_known_1_1 v sl na) = y1_1 → zG E zA zs.heap [(m, .inr (8, [.int (v 0), .int (v 1), .ref aS, .int (v 2), .int (v 3), .int (v 4), .ref aW, .int (v 5), .ref aL, .int y1_0, .int (v 7), .int (v 8), .ref aT, .int (v 9), .int (v 10), .int (v 11), .int (v 12), .ref a1, .ref a2, .ref a3, .ref aB, .int (v 13), .int (v 14)])), (aL, .inl (E.2.1.1, 156, .inl y1_1))] H locs → lv_has ls 2 [(0, .ref m)] → W zp l ze (zR 1 23) zs zm za zb zt zc H locs 0 0 zq (F0 zm 45 ls []) := by
    intro y1_0 y1_1 H locs ls e_y1_0 e_y1_1 hG hl
    subst e_y1_0
    subst e_y1_1
    refine lv_aload_n hx hb dX8_known_45 rfl (lv_at hl 0 rfl) ?_
    refine lv_dup hx hb dX8_known_46 rfl ?_
    refine gf_X8_105 C dX8_known_47 hG 0 rfl rfl ?_
    refine lv_iconst (v := 1) hx hb dX8_known_50 (by decide) ?_
    refine lv_iadd hx hb dX8_known_51 ?_
    refine pf_X8_105 C dX8_known_52 hG 0 rfl (Nat.le_of_ble_eq_true rfl) (ws' := [(m, .inr (8, [.int (v 0), .int (v 1), .ref aS, .int (v 2), .int (v 3), .int (v 4), .ref aW, .int (v 5), .ref aL, .int ((j_X8_known_1_0 v sl na) + 1), .int (v 7), .int (v 8), .ref aT, .int (v 9), .int (v 10), .int (v 11), .int (v 12), .ref a1, .ref a2, .ref a3, .ref aB, .int (v 13), .int (v 14)])), (aL, .inl (E.2.1.1, 156, .inl (j_X8_known_1_1 v sl na)))]) rfl (fun H locs hG => ?_)
    refine lv_aload_n hx hb dX8_known_55 rfl (lv_at hl 0 rfl) ?_
    refine lv_iconst (v := 0) hx hb dX8_known_56 (by decide) ?_
    refine lv_aload_n hx hb dX8_known_57 rfl (lv_at hl 0 rfl) ?_
    refine gf_X8_105 C dX8_known_58 hG 0 rfl rfl ?_
    refine lv_bipush (v := 13) hx hb dX8_known_61 (by decide) ?_
    refine lv_imul hx hb dX8_known_63 ?_
    refine z_ti (y := (nI (13 * zkn na))) (by rw [j_X8_known_1_0]; exact z_known hna hn8) ?_
    refine call_X8_101 C dX8_known_64 (c_X8_copies_t l E (mkG15 (v 0) (v 1) (v 2) (v 3) (v 4) (v 5) ((j_X8_known_1_0 v sl na) + 1) (v 7) (v 8) (v 9) (v 10) (v 11) (v 12) (v 13) (v 14)) (j_X8_known_1_1 v sl na) 0 (13 * zkn na) m aS aW aL aT a1 a2 a3 aB (by omega) (by have := zkn_le hn8; omega) (by have := zkn_ge na; omega)) hl hG 0 rfl [0, 1] (by decide) rfl (ads := [m, aL]) rfl rfl (ws' := [(m, .inr (8, [.int (v 0), .int (v 1), .ref aS, .int (v 2), .int (v 3), .int (v 4), .ref aW, .int (v 5), .ref aL, .int ((j_X8_known_1_0 v sl na) + 1), .int (v 7), .int (v 8), .ref aT, .int (v 9), .int (v 10), .int (v 11), .int (v 12), .ref a1, .ref a2, .ref a3, .ref aB, .int (v 13), .int (v 14)])), (aL, .inl (E.2.1.1, 156, .inl (cp13 (j_X8_known_1_1 v sl na) 0 (13 * zkn na))))]) rfl rfl (rest := []) rfl (Nat.le_of_ble_eq_true rfl) ⟨Nat.le_of_ble_eq_true rfl, Nat.le_of_ble_eq_true rfl⟩ (fun H locs hG => ?_)
    rw [hQ]
    exact z_vret C hr hlk hG dX8_known_67 rfl (by rw [o_X8_known_v, mkG15_0, mkG15_1, mkG15_2, mkG15_3, mkG15_4, mkG15_5, mkG15_6, mkG15_7, mkG15_8, mkG15_9, mkG15_10, mkG15_11, mkG15_12, mkG15_13, mkG15_14, o_X8_known_1])
  refine lv_icmp_ne (tgt := 45) hx hb dX8_known_6 (by decide) (fun c_1 => ?_) (fun c_1 => ?_)
  · skip
    exact k_1 (v 6) sl _ _ _ (by rw [j_X8_known_1_0, if_neg c_1]) (by rw [j_X8_known_1_1, if_neg c_1]) hG (lv_sub hl [0] rfl)
  · skip
    refine lv_bipush (v := 13) hx hb dX8_known_9 (by decide) ?_
    refine lv_istore_n (lv' := [(1, .int 13), (0, .ref m)]) hx hb dX8_known_11 rfl hl (by decide) rfl (fun ls hl => ?_)
    have kl_0 : ∀ (j0 k0 : Nat), j0 + k0 = 91 → ∀ (u0_0 : Nat → Int32) (H : Heap) (locs : List Loc) (ls : Array Slot), (L_X8_known_0 v sl na k0) = u0_0 → zG E zA zs.heap [(m, .inr (8, [.int (v 0), .int (v 1), .ref aS, .int (v 2), .int (v 3), .int (v 4), .ref aW, .int (v 5), .ref aL, .int (v 6), .int (v 7), .int (v 8), .ref aT, .int (v 9), .int (v 10), .int (v 11), .int (v 12), .ref a1, .ref a2, .ref a3, .ref aB, .int (v 13), .int (v 14)])), (aL, .inl (E.2.1.1, 156, .inl u0_0))] H locs → lv_has ls 2 [(1, .int (nI (13 + k0))), (0, .ref m)] → W zp l ze (zR 1 23) zs zm za zb zt zc H locs 0 0 zq (F0 zm 12 ls []) := by
      intro j0
      induction j0 with
      | zero =>
        intro k0 hk0 u0_0 H locs ls e_u0_0 hG hl
        subst e_u0_0
        obtain rfl : k0 = 91 := by omega
        refine lv_iload_n hx hb dX8_known_12 rfl (lv_at hl 0 rfl) ?_
        refine lv_bipush (v := 104) hx hb dX8_known_13 (by decide) ?_
        refine lv_icmp_ge (tgt := 39) hx hb dX8_known_15 (by decide) (fun c_7 => ?_) (fun c_7 => absurd (z_ge_yes (N := 104) rfl) c_7)
        refine lv_aload_n hx hb dX8_known_39 rfl (lv_at hl 1 rfl) ?_
        refine lv_bipush (v := 7) hx hb dX8_known_40 (by decide) ?_
        refine pf_X8_105 C dX8_known_42 hG 0 rfl (Nat.le_of_ble_eq_true rfl) (ws' := [(m, .inr (8, [.int (v 0), .int (v 1), .ref aS, .int (v 2), .int (v 3), .int (v 4), .ref aW, .int (v 5), .ref aL, .int 7, .int (v 7), .int (v 8), .ref aT, .int (v 9), .int (v 10), .int (v 11), .int (v 12), .ref a1, .ref a2, .ref a3, .ref aB, .int (v 13), .int (v 14)])), (aL, .inl (E.2.1.1, 156, .inl (L_X8_known_0 v sl na 91)))]) rfl (fun H locs hG => ?_)
        exact k_1 7 (L_X8_known_0 v sl na 91) _ _ _ (by rw [j_X8_known_1_0, if_pos c_1]) (by rw [j_X8_known_1_1, if_pos c_1]) hG (lv_sub hl [1] rfl)
      | succ j0 ih0 =>
        intro k0 hk0 u0_0 H locs ls e_u0_0 hG hl
        subst e_u0_0
        have hlt : k0 < 91 := by omega
        refine lv_iload_n hx hb dX8_known_12 rfl (lv_at hl 0 rfl) ?_
        refine lv_bipush (v := 104) hx hb dX8_known_13 (by decide) ?_
        refine lv_icmp_ge (tgt := 39) hx hb dX8_known_15 (by decide) (fun c_8 => absurd c_8 (z_ge_no (N := 104) (k := 13 + k0) (by omega) (by decide) rfl)) (fun c_8 => ?_)
        refine lv_aload_n hx hb dX8_known_18 rfl (lv_at hl 1 rfl) ?_
        refine gf_X8_16 C dX8_known_19 hG 0 rfl rfl ?_
        refine lv_iload_n hx hb dX8_known_22 rfl (lv_at hl 0 rfl) ?_
        refine lv_aload_n hx hb dX8_known_23 rfl (lv_at hl 1 rfl) ?_
        refine gf_X8_16 C dX8_known_24 hG 0 rfl rfl ?_
        refine lv_iload_n hx hb dX8_known_27 rfl (lv_at hl 0 rfl) ?_
        refine lv_bipush (v := 13) hx hb dX8_known_28 (by decide) ?_
        refine lv_iadd hx hb dX8_known_30 ?_
        refine z_ild C dX8_known_31 hG 1 rfl (13 + k0 + 13) (by rw [show (13 : Int32) = nI 13 from rfl, nI_add]) (by omega) (Nat.le_of_ble_eq_true rfl) ?_
        refine z_ist C dX8_known_32 hG 1 rfl (13 + k0) rfl (by omega) (Nat.le_of_ble_eq_true rfl) (ws' := [(m, .inr (8, [.int (v 0), .int (v 1), .ref aS, .int (v 2), .int (v 3), .int (v 4), .ref aW, .int (v 5), .ref aL, .int (v 6), .int (v 7), .int (v 8), .ref aT, .int (v 9), .int (v 10), .int (v 11), .int (v 12), .ref a1, .ref a2, .ref a3, .ref aB, .int (v 13), .int (v 14)])), (aL, .inl (E.2.1.1, 156, .inl (upd (L_X8_known_0 v sl na k0) (13 + k0) ((L_X8_known_0 v sl na k0) (13 + k0 + 13)))))]) rfl (fun H locs hG => ?_)
        refine lv_iinc (v := (nI ((13 + k0) + 1))) (lv' := [(1, .int (nI ((13 + k0) + 1))), (0, .ref m)]) hx hb dX8_known_33 hl (k := 0) rfl (nI_1 _) (by decide) rfl (fun ls hl => ?_)
        refine lv_goto (tgt := 12) hx hb dX8_known_36 (by decide) ?_
        exact ih0 (k0 + 1) (by omega) (upd (L_X8_known_0 v sl na k0) (13 + k0) ((L_X8_known_0 v sl na k0) (13 + k0 + 13))) _ _ _ (by rw [L_X8_known_0]) hG (lv_sub hl [0, 1] rfl)
    exact kl_0 91 0 (by omega) sl _ _ _ (by rw [L_X8_known_0]) hG (lv_sub hl [0, 1] rfl)
theorem L_known (v sl : Nat → Int32) (na : Nat) : ∀ k, ∀ j, j < 13 → L_X8_known_0 v sl na k j = sl j := by
  intro k
  induction k with
  | zero => intro j hj; rfl
  | succ k ih => intro j hj; rw [L_X8_known_0]; unfold upd; rw [if_neg (by omega)]; exact ih j hj
theorem gn_known (v sl : Nat → Int32) (na : Nat) : o_X8_known_1 v sl na 11 = sl 11 := by
  rw [o_X8_known_1]
  unfold cp13
  rw [if_neg (by have := zkn_ge na; omega)]
  unfold j_X8_known_1_1
  split
  · exact L_known v sl na _ _ (by decide)
  · rfl
def o_X8_isOver_r (v : Nat → Int32) (sl : Nat → Int32) : Int32 := (if (sl 12) < 0 then 0 else 1)
set_option maxRecDepth 100000 in
set_option maxHeartbeats 4000000 in
theorem c_X8_isOver (l : Launch) (E : zE) (v : Nat → Int32) (sl : Nat → Int32) (m aS aW aL aT a1 a2 a3 aB : Nat) : HM l E yX8_isOver cX8_isOver 1 (some .boolean) 0 0 [.ref m] [(m, .inr (8, [.int (v 0), .int (v 1), .ref aS, .int (v 2), .int (v 3), .int (v 4), .ref aW, .int (v 5), .ref aL, .int (v 6), .int (v 7), .int (v 8), .ref aT, .int (v 9), .int (v 10), .int (v 11), .int (v 12), .ref a1, .ref a2, .ref a3, .ref aB, .int (v 13), .int (v 14)])), (aL, .inl (E.2.1.1, 156, .inl sl))] (some (.int (o_X8_isOver_r v sl))) [(m, .inr (8, [.int (v 0), .int (v 1), .ref aS, .int (v 2), .int (v 3), .int (v 4), .ref aW, .int (v 5), .ref aL, .int (v 6), .int (v 7), .int (v 8), .ref aT, .int (v 9), .int (v 10), .int (v 11), .int (v 12), .ref a1, .ref a2, .ref a3, .ref aB, .int (v 13), .int (v 14)])), (aL, .inl (E.2.1.1, 156, .inl sl))] := by
  refine HM.of (own := RX8) (plainFor_of_name (by decide)) rfl (Nat.le_of_ble_eq_true rfl) ?_
  intro zp ze zs zm za zb zt zc zA ls H locs zq C hr hlk hG hl hQ
  have hx := C.1.1
  have hb := C.1.2.1
  replace hl : lv_has ls 1 [(0, .ref m)] := hl
  refine lv_aload_n hx hb dX8_isOver_0 rfl (lv_at hl 0 rfl) ?_
  refine gf_X8_16 C dX8_isOver_1 hG 0 rfl rfl ?_
  refine lv_bipush (v := 12) hx hb dX8_isOver_4 (by decide) ?_
  refine z_ild C dX8_isOver_6 hG 1 rfl 12 (by decide) (Nat.le_of_ble_eq_true rfl) (Nat.le_of_ble_eq_true rfl) ?_
  refine lv_if_lt (tgt := 14) hx hb dX8_isOver_7 (by decide) (fun c_1 => ?_) (fun c_1 => ?_)
  · skip
    refine lv_iconst (v := 0) hx hb dX8_isOver_14 (by decide) ?_
    rw [hQ]
    exact z_iret C hr hlk hG dX8_isOver_15 rfl (by rw [o_X8_isOver_r, if_pos c_1]) rfl
  · skip
    refine lv_iconst (v := 1) hx hb dX8_isOver_10 (by decide) ?_
    refine lv_goto (tgt := 15) hx hb dX8_isOver_11 (by decide) ?_
    rw [hQ]
    exact z_iret C hr hlk hG dX8_isOver_15 rfl (by rw [o_X8_isOver_r, if_neg c_1]) rfl
theorem o_X8_isOver_b (v : Nat → Int32) (sl : Nat → Int32) : o_X8_isOver_r v sl = 0 ∨ o_X8_isOver_r v sl = 1 := by
  unfold o_X8_isOver_r; (repeat' split) <;> first | exact Or.inl rfl | exact Or.inr rfl
def o_X8_write_r (v : Nat → Int32) (tx : Nat → Int32) (x_ : Int32) (ml : Nat) : Int32 := (if (o_X8_in_r x_.toInt64 32 126) = 0 then (-1) else (if (v 8) = 200 then (-3) else ((v 8) + 1)))
def o_X8_write_v (v : Nat → Int32) (tx : Nat → Int32) (x_ : Int32) (ml : Nat) : Nat → Int32 := (if (o_X8_in_r x_.toInt64 32 126) = 0 then v else (if (v 8) = 200 then v else (mkG15 (v 0) (v 1) (v 2) (v 3) (v 4) (v 5) (v 6) (v 7) ((v 8) + 1) (v 9) (v 10) (v 11) (v 12) (v 13) (v 14))))
def o_X8_write_1 (v : Nat → Int32) (tx : Nat → Int32) (x_ : Int32) (ml : Nat) : Nat → Int32 := (if (o_X8_in_r x_.toInt64 32 126) = 0 then tx else (if (v 8) = 200 then tx else (upd tx ml (vp_nar .byte (x_.toInt8.toInt32)))))
set_option maxRecDepth 100000 in
set_option maxHeartbeats 4000000 in
theorem c_X8_write (l : Launch) (E : zE) (v : Nat → Int32) (tx : Nat → Int32) (x_ : Int32) (ml : Nat) (m aS aW aL aT a1 a2 a3 aB : Nat) (hml : v 8 = nI ml) (hm2 : ml ≤ 200) : HM l E yX8_write cX8_write 2 (some .int) 1 25 [.ref m, .int x_] [(m, .inr (8, [.int (v 0), .int (v 1), .ref aS, .int (v 2), .int (v 3), .int (v 4), .ref aW, .int (v 5), .ref aL, .int (v 6), .int (v 7), .int (v 8), .ref aT, .int (v 9), .int (v 10), .int (v 11), .int (v 12), .ref a1, .ref a2, .ref a3, .ref aB, .int (v 13), .int (v 14)])), (aT, .inl (E.2.1.2, 200, .inl tx))] (some (.int (o_X8_write_r v tx x_ ml))) [(m, .inr (8, [.int (o_X8_write_v v tx x_ ml 0), .int (o_X8_write_v v tx x_ ml 1), .ref aS, .int (o_X8_write_v v tx x_ ml 2), .int (o_X8_write_v v tx x_ ml 3), .int (o_X8_write_v v tx x_ ml 4), .ref aW, .int (o_X8_write_v v tx x_ ml 5), .ref aL, .int (o_X8_write_v v tx x_ ml 6), .int (o_X8_write_v v tx x_ ml 7), .int (o_X8_write_v v tx x_ ml 8), .ref aT, .int (o_X8_write_v v tx x_ ml 9), .int (o_X8_write_v v tx x_ ml 10), .int (o_X8_write_v v tx x_ ml 11), .int (o_X8_write_v v tx x_ ml 12), .ref a1, .ref a2, .ref a3, .ref aB, .int (o_X8_write_v v tx x_ ml 13), .int (o_X8_write_v v tx x_ ml 14)])), (aT, .inl (E.2.1.2, 200, .inl (o_X8_write_1 v tx x_ ml)))] := by
  refine HM.of (own := RX8) (plainFor_of_name (by decide)) rfl (Nat.le_of_ble_eq_true rfl) ?_
  intro zp ze zs zm za zb zt zc zA ls H locs zq C hr hlk hG hl hQ
  have hx := C.1.1
  have hb := C.1.2.1
  replace hl : lv_has ls 2 [(0, .ref m), (1, .int x_)] := hl
  refine lv_iload_n hx hb dX8_write_0 rfl (lv_at hl 1 rfl) ?_
  refine lv_i2l (v := x_.toInt64) hx hb dX8_write_1 rfl ?_
  refine lv_ldc2 (v := 32) hx hb C.1.2.2.2.1 (C.1.2.2.2.2 _ (inr10 _ (List.mem_of_getElem? (i := 22) rfl))) dX8_write_2 ?_
  refine lv_ldc2 (v := 126) hx hb C.1.2.2.2.1 (C.1.2.2.2.2 _ (inr10 _ (List.mem_of_getElem? (i := 23) rfl))) dX8_write_5 ?_
  refine call_X8_49 C dX8_write_8 (c_X8_in l E x_.toInt64 32 126) hl hG [] (by decide) rfl (ads := []) rfl rfl (ws' := [(m, .inr (8, [.int (v 0), .int (v 1), .ref aS, .int (v 2), .int (v 3), .int (v 4), .ref aW, .int (v 5), .ref aL, .int (v 6), .int (v 7), .int (v 8), .ref aT, .int (v 9), .int (v 10), .int (v 11), .int (v 12), .ref a1, .ref a2, .ref a3, .ref aB, .int (v 13), .int (v 14)])), (aT, .inl (E.2.1.2, 200, .inl tx))]) rfl rfl (rest := []) rfl (Nat.le_of_ble_eq_true rfl) ⟨Nat.le_of_ble_eq_true rfl, Nat.le_of_ble_eq_true rfl⟩ (fun H locs hG => ?_)
  refine lv_if_ne (tgt := 16) hx hb dX8_write_11 (by decide) (fun c_1 => ?_) (fun c_1 => ?_)
  · skip
    refine lv_aload_n hx hb dX8_write_16 rfl (lv_at hl 0 rfl) ?_
    refine gf_X8_53 C dX8_write_17 hG 0 rfl rfl ?_
    refine lv_sipush (v := 200) hx hb dX8_write_20 (by decide) ?_
    refine lv_icmp_ne (tgt := 29) hx hb dX8_write_23 (by decide) (fun c_2 => ?_) (fun c_2 => ?_)
    · skip
      refine lv_aload_n hx hb dX8_write_29 rfl (lv_at hl 0 rfl) ?_
      refine gf_X8_19 C dX8_write_30 hG 0 rfl rfl ?_
      refine lv_aload_n hx hb dX8_write_33 rfl (lv_at hl 0 rfl) ?_
      refine gf_X8_53 C dX8_write_34 hG 0 rfl rfl ?_
      refine lv_iload_n hx hb dX8_write_37 rfl (lv_at hl 1 rfl) ?_
      refine lv_i2b (v := (x_.toInt8.toInt32)) hx hb dX8_write_38 rfl ?_
      refine z_bst C dX8_write_39 hG 1 rfl ml hml (z_lt200 hml hm2 c_2) (Nat.le_of_ble_eq_true rfl) (ws' := [(m, .inr (8, [.int (v 0), .int (v 1), .ref aS, .int (v 2), .int (v 3), .int (v 4), .ref aW, .int (v 5), .ref aL, .int (v 6), .int (v 7), .int (v 8), .ref aT, .int (v 9), .int (v 10), .int (v 11), .int (v 12), .ref a1, .ref a2, .ref a3, .ref aB, .int (v 13), .int (v 14)])), (aT, .inl (E.2.1.2, 200, .inl (upd tx ml (vp_nar .byte (x_.toInt8.toInt32)))))]) rfl (fun H locs hG => ?_)
      refine lv_aload_n hx hb dX8_write_40 rfl (lv_at hl 0 rfl) ?_
      refine lv_dup hx hb dX8_write_41 rfl ?_
      refine gf_X8_53 C dX8_write_42 hG 0 rfl rfl ?_
      refine lv_iconst (v := 1) hx hb dX8_write_45 (by decide) ?_
      refine lv_iadd hx hb dX8_write_46 ?_
      refine pf_X8_53 C dX8_write_47 hG 0 rfl (Nat.le_of_ble_eq_true rfl) (ws' := [(m, .inr (8, [.int (v 0), .int (v 1), .ref aS, .int (v 2), .int (v 3), .int (v 4), .ref aW, .int (v 5), .ref aL, .int (v 6), .int (v 7), .int ((v 8) + 1), .ref aT, .int (v 9), .int (v 10), .int (v 11), .int (v 12), .ref a1, .ref a2, .ref a3, .ref aB, .int (v 13), .int (v 14)])), (aT, .inl (E.2.1.2, 200, .inl (upd tx ml (vp_nar .byte (x_.toInt8.toInt32)))))]) rfl (fun H locs hG => ?_)
      refine lv_aload_n hx hb dX8_write_50 rfl (lv_at hl 0 rfl) ?_
      refine gf_X8_53 C dX8_write_51 hG 0 rfl rfl ?_
      rw [hQ]
      exact z_iret C hr hlk hG dX8_write_54 rfl (by rw [o_X8_write_r, if_neg c_1, if_neg c_2]) (by rw [o_X8_write_v, if_neg c_1, if_neg c_2, mkG15_0, mkG15_1, mkG15_2, mkG15_3, mkG15_4, mkG15_5, mkG15_6, mkG15_7, mkG15_8, mkG15_9, mkG15_10, mkG15_11, mkG15_12, mkG15_13, mkG15_14, o_X8_write_1, if_neg c_1, if_neg c_2])
    · skip
      refine lv_bipush (v := (-3)) hx hb dX8_write_26 (by decide) ?_
      rw [hQ]
      exact z_iret C hr hlk hG dX8_write_28 rfl (by rw [o_X8_write_r, if_neg c_1, if_pos c_2]) (by rw [o_X8_write_v, if_neg c_1, if_pos c_2, o_X8_write_1, if_neg c_1, if_pos c_2])
  · skip
    refine lv_iconst (v := (-1)) hx hb dX8_write_14 (by decide) ?_
    rw [hQ]
    exact z_iret C hr hlk hG dX8_write_15 rfl (by rw [o_X8_write_r, if_pos c_1]) (by rw [o_X8_write_v, if_pos c_1, o_X8_write_1, if_pos c_1])
def o_X8_wipe_r (v : Nat → Int32) : Int32 := (v 8)
def o_X8_wipe_v (v : Nat → Int32) : Nat → Int32 := (mkG15 (v 0) (v 1) (v 2) (v 3) (v 4) (v 5) (v 6) (v 7) 0 (v 9) (v 10) (v 11) (v 12) (v 13) (v 14))
set_option maxRecDepth 100000 in
set_option maxHeartbeats 4000000 in
theorem c_X8_wipe (l : Launch) (E : zE) (v : Nat → Int32) (m aS aW aL aT a1 a2 a3 aB : Nat) : HM l E yX8_wipe cX8_wipe 2 (some .int) 0 0 [.ref m] [(m, .inr (8, [.int (v 0), .int (v 1), .ref aS, .int (v 2), .int (v 3), .int (v 4), .ref aW, .int (v 5), .ref aL, .int (v 6), .int (v 7), .int (v 8), .ref aT, .int (v 9), .int (v 10), .int (v 11), .int (v 12), .ref a1, .ref a2, .ref a3, .ref aB, .int (v 13), .int (v 14)]))] (some (.int (o_X8_wipe_r v))) [(m, .inr (8, [.int (o_X8_wipe_v v 0), .int (o_X8_wipe_v v 1), .ref aS, .int (o_X8_wipe_v v 2), .int (o_X8_wipe_v v 3), .int (o_X8_wipe_v v 4), .ref aW, .int (o_X8_wipe_v v 5), .ref aL, .int (o_X8_wipe_v v 6), .int (o_X8_wipe_v v 7), .int (o_X8_wipe_v v 8), .ref aT, .int (o_X8_wipe_v v 9), .int (o_X8_wipe_v v 10), .int (o_X8_wipe_v v 11), .int (o_X8_wipe_v v 12), .ref a1, .ref a2, .ref a3, .ref aB, .int (o_X8_wipe_v v 13), .int (o_X8_wipe_v v 14)]))] := by
  refine HM.of (own := RX8) (plainFor_of_name (by decide)) rfl (Nat.le_of_ble_eq_true rfl) ?_
  intro zp ze zs zm za zb zt zc zA ls H locs zq C hr hlk hG hl hQ
  have hx := C.1.1
  have hb := C.1.2.1
  replace hl : lv_has ls 2 [(0, .ref m)] := hl
  refine lv_aload_n hx hb dX8_wipe_0 rfl (lv_at hl 0 rfl) ?_
  refine gf_X8_53 C dX8_wipe_1 hG 0 rfl rfl ?_
  refine lv_istore_n (lv' := [(1, .int (v 8)), (0, .ref m)]) hx hb dX8_wipe_4 rfl hl (by decide) rfl (fun ls hl => ?_)
  refine lv_aload_n hx hb dX8_wipe_5 rfl (lv_at hl 1 rfl) ?_
  refine lv_iconst (v := 0) hx hb dX8_wipe_6 (by decide) ?_
  refine pf_X8_53 C dX8_wipe_7 hG 0 rfl (Nat.le_of_ble_eq_true rfl) (ws' := [(m, .inr (8, [.int (v 0), .int (v 1), .ref aS, .int (v 2), .int (v 3), .int (v 4), .ref aW, .int (v 5), .ref aL, .int (v 6), .int (v 7), .int 0, .ref aT, .int (v 9), .int (v 10), .int (v 11), .int (v 12), .ref a1, .ref a2, .ref a3, .ref aB, .int (v 13), .int (v 14)]))]) rfl (fun H locs hG => ?_)
  refine lv_iload_n hx hb dX8_wipe_10 rfl (lv_at hl 0 rfl) ?_
  rw [hQ]
  exact z_iret C hr hlk hG dX8_wipe_11 rfl (by rw [o_X8_wipe_r]) (by rw [o_X8_wipe_v, mkG15_0, mkG15_1, mkG15_2, mkG15_3, mkG15_4, mkG15_5, mkG15_6, mkG15_7, mkG15_8, mkG15_9, mkG15_10, mkG15_11, mkG15_12, mkG15_13, mkG15_14])
def o_X8_hedge_r (v : Nat → Int32) (ms : Nat → Int32) (sl : Nat → Int32) (p : Int32) (what : Int32) : Int32 := (if (o_X8_isOne_r p) = 0 then (-1) else (if (o_X8_in_r what.toInt64 0 7) = 0 then (-1) else (if p = 0 then (if what = 0 then (sl 0) else (if what = 1 then (sl 2) else (if what = 2 then (sl 4) else (if what = 3 then (sl 6) else (if what = 4 then (o_X8_shadow_0_0_r v ms sl) else (if what = 5 then (if (o_X8_isShaded_0_0_r v ms sl) = 0 then 0 else 1) else (if what = 6 then (sl 8) else (if (sl 12) = 0 then 1 else 0)))))))) else (if what = 0 then (sl 1) else (if what = 1 then (sl 3) else (if what = 2 then (sl 5) else (if what = 3 then (sl 7) else (if what = 4 then (o_X8_shadow_0_1_r v ms sl) else (if what = 5 then (if (o_X8_isShaded_0_1_r v ms sl) = 0 then 0 else 1) else (if what = 6 then (sl 9) else (if (sl 12) = 1 then 1 else 0)))))))))))
set_option maxRecDepth 100000 in
set_option maxHeartbeats 4000000 in
theorem c_X8_hedge (l : Launch) (E : zE) (v : Nat → Int32) (ms : Nat → Int32) (sl : Nat → Int32) (p : Int32) (what : Int32) (m aS aW aL aT a1 a2 a3 aB : Nat) (hM : 0 ≤ (sl 11).toInt) : HM l E yX8_hedge cX8_hedge 3 (some .int) 3 66 [.ref m, .int p, .int what] [(m, .inr (8, [.int (v 0), .int (v 1), .ref aS, .int (v 2), .int (v 3), .int (v 4), .ref aW, .int (v 5), .ref aL, .int (v 6), .int (v 7), .int (v 8), .ref aT, .int (v 9), .int (v 10), .int (v 11), .int (v 12), .ref a1, .ref a2, .ref a3, .ref aB, .int (v 13), .int (v 14)])), (aS, .inl (E.2.1.1, 12, .inl ms)), (aL, .inl (E.2.1.1, 156, .inl sl))] (some (.int (o_X8_hedge_r v ms sl p what))) [(m, .inr (8, [.int (v 0), .int (v 1), .ref aS, .int (v 2), .int (v 3), .int (v 4), .ref aW, .int (v 5), .ref aL, .int (v 6), .int (v 7), .int (v 8), .ref aT, .int (v 9), .int (v 10), .int (v 11), .int (v 12), .ref a1, .ref a2, .ref a3, .ref aB, .int (v 13), .int (v 14)])), (aS, .inl (E.2.1.1, 12, .inl ms)), (aL, .inl (E.2.1.1, 156, .inl sl))] := by
  refine HM.of (own := RX8) (plainFor_of_name (by decide)) rfl (Nat.le_of_ble_eq_true rfl) ?_
  intro zp ze zs zm za zb zt zc zA ls H locs zq C hr hlk hG hl hQ
  have hx := C.1.1
  have hb := C.1.2.1
  replace hl : lv_has ls 3 [(0, .ref m), (1, .int p), (2, .int what)] := hl
  refine lv_iload_n hx hb dX8_hedge_0 rfl (lv_at hl 1 rfl) ?_
  refine call_X8_121 C dX8_hedge_1 (c_X8_isOne l E p) hl hG [] (by decide) rfl (ads := []) rfl rfl (ws' := [(m, .inr (8, [.int (v 0), .int (v 1), .ref aS, .int (v 2), .int (v 3), .int (v 4), .ref aW, .int (v 5), .ref aL, .int (v 6), .int (v 7), .int (v 8), .ref aT, .int (v 9), .int (v 10), .int (v 11), .int (v 12), .ref a1, .ref a2, .ref a3, .ref aB, .int (v 13), .int (v 14)])), (aS, .inl (E.2.1.1, 12, .inl ms)), (aL, .inl (E.2.1.1, 156, .inl sl))]) rfl rfl (rest := []) rfl (Nat.le_of_ble_eq_true rfl) ⟨Nat.le_of_ble_eq_true rfl, Nat.le_of_ble_eq_true rfl⟩ (fun H locs hG => ?_)
  refine lv_if_eq (tgt := 19) hx hb dX8_hedge_4 (by decide) (fun c_1 => ?_) (fun c_1 => ?_)
  · skip
    refine lv_iconst (v := (-1)) hx hb dX8_hedge_19 (by decide) ?_
    rw [hQ]
    exact z_iret C hr hlk hG dX8_hedge_20 rfl (by rw [o_X8_hedge_r, if_pos c_1]) rfl
  · skip
    refine lv_iload_n hx hb dX8_hedge_7 rfl (lv_at hl 2 rfl) ?_
    refine lv_i2l (v := what.toInt64) hx hb dX8_hedge_8 rfl ?_
    refine lv_lconst (v := 0) hx hb dX8_hedge_9 (by decide) ?_
    refine lv_ldc2 (v := 7) hx hb C.1.2.2.2.1 (C.1.2.2.2.2 _ (inr15 _ (List.mem_of_getElem? (i := 15) rfl))) dX8_hedge_10 ?_
    refine call_X8_49 C dX8_hedge_13 (c_X8_in l E what.toInt64 0 7) hl hG [] (by decide) rfl (ads := []) rfl rfl (ws' := [(m, .inr (8, [.int (v 0), .int (v 1), .ref aS, .int (v 2), .int (v 3), .int (v 4), .ref aW, .int (v 5), .ref aL, .int (v 6), .int (v 7), .int (v 8), .ref aT, .int (v 9), .int (v 10), .int (v 11), .int (v 12), .ref a1, .ref a2, .ref a3, .ref aB, .int (v 13), .int (v 14)])), (aS, .inl (E.2.1.1, 12, .inl ms)), (aL, .inl (E.2.1.1, 156, .inl sl))]) rfl rfl (rest := []) rfl (Nat.le_of_ble_eq_true rfl) ⟨Nat.le_of_ble_eq_true rfl, Nat.le_of_ble_eq_true rfl⟩ (fun H locs hG => ?_)
    refine lv_if_ne (tgt := 21) hx hb dX8_hedge_16 (by decide) (fun c_2 => ?_) (fun c_2 => ?_)
    · skip
      rcases (z_one c_1) with rfl | rfl
      · skip
        refine lv_iload_n hx hb dX8_hedge_21 rfl (lv_at hl 2 rfl) ?_
        refine lv_if_ne (tgt := 34) hx hb dX8_hedge_22 (by decide) (fun c_3 => ?_) (fun c_3 => ?_)
        · skip
          refine lv_iload_n hx hb dX8_hedge_34 rfl (lv_at hl 2 rfl) ?_
          refine lv_iconst (v := 1) hx hb dX8_hedge_35 (by decide) ?_
          refine lv_icmp_ne (tgt := 50) hx hb dX8_hedge_36 (by decide) (fun c_4 => ?_) (fun c_4 => ?_)
          · skip
            refine lv_iload_n hx hb dX8_hedge_50 rfl (lv_at hl 2 rfl) ?_
            refine lv_iconst (v := 2) hx hb dX8_hedge_51 (by decide) ?_
            refine lv_icmp_ne (tgt := 66) hx hb dX8_hedge_52 (by decide) (fun c_5 => ?_) (fun c_5 => ?_)
            · skip
              refine lv_iload_n hx hb dX8_hedge_66 rfl (lv_at hl 2 rfl) ?_
              refine lv_iconst (v := 3) hx hb dX8_hedge_67 (by decide) ?_
              refine lv_icmp_ne (tgt := 83) hx hb dX8_hedge_68 (by decide) (fun c_6 => ?_) (fun c_6 => ?_)
              · skip
                refine lv_iload_n hx hb dX8_hedge_83 rfl (lv_at hl 2 rfl) ?_
                refine lv_iconst (v := 4) hx hb dX8_hedge_84 (by decide) ?_
                refine lv_icmp_ne (tgt := 97) hx hb dX8_hedge_85 (by decide) (fun c_7 => ?_) (fun c_7 => ?_)
                · skip
                  refine lv_iload_n hx hb dX8_hedge_97 rfl (lv_at hl 2 rfl) ?_
                  refine lv_iconst (v := 5) hx hb dX8_hedge_98 (by decide) ?_
                  refine lv_icmp_ne (tgt := 119) hx hb dX8_hedge_99 (by decide) (fun c_8 => ?_) (fun c_8 => ?_)
                  · skip
                    refine lv_iload_n hx hb dX8_hedge_119 rfl (lv_at hl 2 rfl) ?_
                    refine lv_bipush (v := 6) hx hb dX8_hedge_120 (by decide) ?_
                    refine lv_icmp_ne (tgt := 137) hx hb dX8_hedge_122 (by decide) (fun c_9 => ?_) (fun c_9 => ?_)
                    · skip
                      refine lv_aload_n hx hb dX8_hedge_137 rfl (lv_at hl 0 rfl) ?_
                      refine gf_X8_16 C dX8_hedge_138 hG 0 rfl rfl ?_
                      refine lv_bipush (v := 12) hx hb dX8_hedge_141 (by decide) ?_
                      refine z_ild C dX8_hedge_143 hG 2 rfl 12 (by decide) (Nat.le_of_ble_eq_true rfl) (Nat.le_of_ble_eq_true rfl) ?_
                      refine lv_iload_n hx hb dX8_hedge_144 rfl (lv_at hl 1 rfl) ?_
                      refine lv_icmp_ne (tgt := 152) hx hb dX8_hedge_145 (by decide) (fun c_10 => ?_) (fun c_10 => ?_)
                      · skip
                        refine lv_iconst (v := 0) hx hb dX8_hedge_152 (by decide) ?_
                        rw [hQ]
                        exact z_iret C hr hlk hG dX8_hedge_153 rfl (by rw [o_X8_hedge_r, if_neg c_1, if_neg c_2, if_pos rfl, if_neg c_3, if_neg c_4, if_neg c_5, if_neg c_6, if_neg c_7, if_neg c_8, if_neg c_9, if_neg c_10]) rfl
                      · skip
                        refine lv_iconst (v := 1) hx hb dX8_hedge_148 (by decide) ?_
                        refine lv_goto (tgt := 153) hx hb dX8_hedge_149 (by decide) ?_
                        rw [hQ]
                        exact z_iret C hr hlk hG dX8_hedge_153 rfl (by rw [o_X8_hedge_r, if_neg c_1, if_neg c_2, if_pos rfl, if_neg c_3, if_neg c_4, if_neg c_5, if_neg c_6, if_neg c_7, if_neg c_8, if_neg c_9, if_pos c_10]) rfl
                    · skip
                      refine lv_aload_n hx hb dX8_hedge_125 rfl (lv_at hl 0 rfl) ?_
                      refine gf_X8_16 C dX8_hedge_126 hG 0 rfl rfl ?_
                      refine lv_bipush (v := 8) hx hb dX8_hedge_129 (by decide) ?_
                      refine lv_iload_n hx hb dX8_hedge_131 rfl (lv_at hl 1 rfl) ?_
                      refine lv_iadd hx hb dX8_hedge_132 ?_
                      refine z_ti (y := 8) (by decide) ?_
                      refine z_ild C dX8_hedge_133 hG 2 rfl 8 (by decide) (Nat.le_of_ble_eq_true rfl) (Nat.le_of_ble_eq_true rfl) ?_
                      refine lv_goto (tgt := 153) hx hb dX8_hedge_134 (by decide) ?_
                      rw [hQ]
                      exact z_iret C hr hlk hG dX8_hedge_153 rfl (by rw [o_X8_hedge_r, if_neg c_1, if_neg c_2, if_pos rfl, if_neg c_3, if_neg c_4, if_neg c_5, if_neg c_6, if_neg c_7, if_neg c_8, if_pos c_9]) rfl
                  · skip
                    refine lv_aload_n hx hb dX8_hedge_102 rfl (lv_at hl 0 rfl) ?_
                    refine lv_iconst (v := 0) hx hb dX8_hedge_103 (by decide) ?_
                    refine lv_iload_n hx hb dX8_hedge_104 rfl (lv_at hl 1 rfl) ?_
                    refine call_X8_127 C dX8_hedge_105 (c_X8_isShaded_0_0 l E v ms sl m aS aW aL aT a1 a2 a3 aB (by first | exact hM | (simpa [upd, gn_does_0_0, gn_rises_0_0, gn_does_0_1, gn_rises_0_1, gn_does_143_0, gn_rises_143_0, gn_does_143_1, gn_rises_143_1, gn_known] using hM))) hl hG 0 rfl [0, 1, 2] (by decide) rfl (ads := [m, aS, aL]) rfl rfl (ws' := [(m, .inr (8, [.int (v 0), .int (v 1), .ref aS, .int (v 2), .int (v 3), .int (v 4), .ref aW, .int (v 5), .ref aL, .int (v 6), .int (v 7), .int (v 8), .ref aT, .int (v 9), .int (v 10), .int (v 11), .int (v 12), .ref a1, .ref a2, .ref a3, .ref aB, .int (v 13), .int (v 14)])), (aS, .inl (E.2.1.1, 12, .inl ms)), (aL, .inl (E.2.1.1, 156, .inl sl))]) rfl rfl (rest := []) rfl (Nat.le_of_ble_eq_true rfl) ⟨Nat.le_of_ble_eq_true rfl, Nat.le_of_ble_eq_true rfl⟩ (fun H locs hG => ?_)
                    refine lv_if_eq (tgt := 115) hx hb dX8_hedge_108 (by decide) (fun c_11 => ?_) (fun c_11 => ?_)
                    · skip
                      refine lv_iconst (v := 0) hx hb dX8_hedge_115 (by decide) ?_
                      refine lv_goto (tgt := 153) hx hb dX8_hedge_116 (by decide) ?_
                      rw [hQ]
                      exact z_iret C hr hlk hG dX8_hedge_153 rfl (by rw [o_X8_hedge_r, if_neg c_1, if_neg c_2, if_pos rfl, if_neg c_3, if_neg c_4, if_neg c_5, if_neg c_6, if_neg c_7, if_pos c_8, if_pos c_11]) rfl
                    · skip
                      refine lv_iconst (v := 1) hx hb dX8_hedge_111 (by decide) ?_
                      refine lv_goto (tgt := 153) hx hb dX8_hedge_112 (by decide) ?_
                      rw [hQ]
                      exact z_iret C hr hlk hG dX8_hedge_153 rfl (by rw [o_X8_hedge_r, if_neg c_1, if_neg c_2, if_pos rfl, if_neg c_3, if_neg c_4, if_neg c_5, if_neg c_6, if_neg c_7, if_pos c_8, if_neg c_11]) rfl
                · skip
                  refine lv_aload_n hx hb dX8_hedge_88 rfl (lv_at hl 0 rfl) ?_
                  refine lv_iconst (v := 0) hx hb dX8_hedge_89 (by decide) ?_
                  refine lv_iload_n hx hb dX8_hedge_90 rfl (lv_at hl 1 rfl) ?_
                  refine call_X8_118 C dX8_hedge_91 (c_X8_shadow_0_0 l E v ms sl m aS aW aL aT a1 a2 a3 aB (by first | exact hM | (simpa [upd, gn_does_0_0, gn_rises_0_0, gn_does_0_1, gn_rises_0_1, gn_does_143_0, gn_rises_143_0, gn_does_143_1, gn_rises_143_1, gn_known] using hM))) hl hG 0 rfl [0, 1, 2] (by decide) rfl (ads := [m, aS, aL]) rfl rfl (ws' := [(m, .inr (8, [.int (v 0), .int (v 1), .ref aS, .int (v 2), .int (v 3), .int (v 4), .ref aW, .int (v 5), .ref aL, .int (v 6), .int (v 7), .int (v 8), .ref aT, .int (v 9), .int (v 10), .int (v 11), .int (v 12), .ref a1, .ref a2, .ref a3, .ref aB, .int (v 13), .int (v 14)])), (aS, .inl (E.2.1.1, 12, .inl ms)), (aL, .inl (E.2.1.1, 156, .inl sl))]) rfl rfl (rest := []) rfl (Nat.le_of_ble_eq_true rfl) ⟨Nat.le_of_ble_eq_true rfl, Nat.le_of_ble_eq_true rfl⟩ (fun H locs hG => ?_)
                  refine lv_goto (tgt := 153) hx hb dX8_hedge_94 (by decide) ?_
                  rw [hQ]
                  exact z_iret C hr hlk hG dX8_hedge_153 rfl (by rw [o_X8_hedge_r, if_neg c_1, if_neg c_2, if_pos rfl, if_neg c_3, if_neg c_4, if_neg c_5, if_neg c_6, if_pos c_7]) rfl
              · skip
                refine lv_aload_n hx hb dX8_hedge_71 rfl (lv_at hl 0 rfl) ?_
                refine gf_X8_16 C dX8_hedge_72 hG 0 rfl rfl ?_
                refine lv_bipush (v := 6) hx hb dX8_hedge_75 (by decide) ?_
                refine lv_iload_n hx hb dX8_hedge_77 rfl (lv_at hl 1 rfl) ?_
                refine lv_iadd hx hb dX8_hedge_78 ?_
                refine z_ti (y := 6) (by decide) ?_
                refine z_ild C dX8_hedge_79 hG 2 rfl 6 (by decide) (Nat.le_of_ble_eq_true rfl) (Nat.le_of_ble_eq_true rfl) ?_
                refine lv_goto (tgt := 153) hx hb dX8_hedge_80 (by decide) ?_
                rw [hQ]
                exact z_iret C hr hlk hG dX8_hedge_153 rfl (by rw [o_X8_hedge_r, if_neg c_1, if_neg c_2, if_pos rfl, if_neg c_3, if_neg c_4, if_neg c_5, if_pos c_6]) rfl
            · skip
              refine lv_aload_n hx hb dX8_hedge_55 rfl (lv_at hl 0 rfl) ?_
              refine gf_X8_16 C dX8_hedge_56 hG 0 rfl rfl ?_
              refine lv_iconst (v := 4) hx hb dX8_hedge_59 (by decide) ?_
              refine lv_iload_n hx hb dX8_hedge_60 rfl (lv_at hl 1 rfl) ?_
              refine lv_iadd hx hb dX8_hedge_61 ?_
              refine z_ti (y := 4) (by decide) ?_
              refine z_ild C dX8_hedge_62 hG 2 rfl 4 (by decide) (Nat.le_of_ble_eq_true rfl) (Nat.le_of_ble_eq_true rfl) ?_
              refine lv_goto (tgt := 153) hx hb dX8_hedge_63 (by decide) ?_
              rw [hQ]
              exact z_iret C hr hlk hG dX8_hedge_153 rfl (by rw [o_X8_hedge_r, if_neg c_1, if_neg c_2, if_pos rfl, if_neg c_3, if_neg c_4, if_pos c_5]) rfl
          · skip
            refine lv_aload_n hx hb dX8_hedge_39 rfl (lv_at hl 0 rfl) ?_
            refine gf_X8_16 C dX8_hedge_40 hG 0 rfl rfl ?_
            refine lv_iconst (v := 2) hx hb dX8_hedge_43 (by decide) ?_
            refine lv_iload_n hx hb dX8_hedge_44 rfl (lv_at hl 1 rfl) ?_
            refine lv_iadd hx hb dX8_hedge_45 ?_
            refine z_ti (y := 2) (by decide) ?_
            refine z_ild C dX8_hedge_46 hG 2 rfl 2 (by decide) (Nat.le_of_ble_eq_true rfl) (Nat.le_of_ble_eq_true rfl) ?_
            refine lv_goto (tgt := 153) hx hb dX8_hedge_47 (by decide) ?_
            rw [hQ]
            exact z_iret C hr hlk hG dX8_hedge_153 rfl (by rw [o_X8_hedge_r, if_neg c_1, if_neg c_2, if_pos rfl, if_neg c_3, if_pos c_4]) rfl
        · skip
          refine lv_aload_n hx hb dX8_hedge_25 rfl (lv_at hl 0 rfl) ?_
          refine gf_X8_16 C dX8_hedge_26 hG 0 rfl rfl ?_
          refine lv_iload_n hx hb dX8_hedge_29 rfl (lv_at hl 1 rfl) ?_
          refine z_ild C dX8_hedge_30 hG 2 rfl 0 (by decide) (Nat.le_of_ble_eq_true rfl) (Nat.le_of_ble_eq_true rfl) ?_
          refine lv_goto (tgt := 153) hx hb dX8_hedge_31 (by decide) ?_
          rw [hQ]
          exact z_iret C hr hlk hG dX8_hedge_153 rfl (by rw [o_X8_hedge_r, if_neg c_1, if_neg c_2, if_pos rfl, if_pos c_3]) rfl
      · skip
        refine lv_iload_n hx hb dX8_hedge_21 rfl (lv_at hl 2 rfl) ?_
        refine lv_if_ne (tgt := 34) hx hb dX8_hedge_22 (by decide) (fun c_12 => ?_) (fun c_12 => ?_)
        · skip
          refine lv_iload_n hx hb dX8_hedge_34 rfl (lv_at hl 2 rfl) ?_
          refine lv_iconst (v := 1) hx hb dX8_hedge_35 (by decide) ?_
          refine lv_icmp_ne (tgt := 50) hx hb dX8_hedge_36 (by decide) (fun c_13 => ?_) (fun c_13 => ?_)
          · skip
            refine lv_iload_n hx hb dX8_hedge_50 rfl (lv_at hl 2 rfl) ?_
            refine lv_iconst (v := 2) hx hb dX8_hedge_51 (by decide) ?_
            refine lv_icmp_ne (tgt := 66) hx hb dX8_hedge_52 (by decide) (fun c_14 => ?_) (fun c_14 => ?_)
            · skip
              refine lv_iload_n hx hb dX8_hedge_66 rfl (lv_at hl 2 rfl) ?_
              refine lv_iconst (v := 3) hx hb dX8_hedge_67 (by decide) ?_
              refine lv_icmp_ne (tgt := 83) hx hb dX8_hedge_68 (by decide) (fun c_15 => ?_) (fun c_15 => ?_)
              · skip
                refine lv_iload_n hx hb dX8_hedge_83 rfl (lv_at hl 2 rfl) ?_
                refine lv_iconst (v := 4) hx hb dX8_hedge_84 (by decide) ?_
                refine lv_icmp_ne (tgt := 97) hx hb dX8_hedge_85 (by decide) (fun c_16 => ?_) (fun c_16 => ?_)
                · skip
                  refine lv_iload_n hx hb dX8_hedge_97 rfl (lv_at hl 2 rfl) ?_
                  refine lv_iconst (v := 5) hx hb dX8_hedge_98 (by decide) ?_
                  refine lv_icmp_ne (tgt := 119) hx hb dX8_hedge_99 (by decide) (fun c_17 => ?_) (fun c_17 => ?_)
                  · skip
                    refine lv_iload_n hx hb dX8_hedge_119 rfl (lv_at hl 2 rfl) ?_
                    refine lv_bipush (v := 6) hx hb dX8_hedge_120 (by decide) ?_
                    refine lv_icmp_ne (tgt := 137) hx hb dX8_hedge_122 (by decide) (fun c_18 => ?_) (fun c_18 => ?_)
                    · skip
                      refine lv_aload_n hx hb dX8_hedge_137 rfl (lv_at hl 0 rfl) ?_
                      refine gf_X8_16 C dX8_hedge_138 hG 0 rfl rfl ?_
                      refine lv_bipush (v := 12) hx hb dX8_hedge_141 (by decide) ?_
                      refine z_ild C dX8_hedge_143 hG 2 rfl 12 (by decide) (Nat.le_of_ble_eq_true rfl) (Nat.le_of_ble_eq_true rfl) ?_
                      refine lv_iload_n hx hb dX8_hedge_144 rfl (lv_at hl 1 rfl) ?_
                      refine lv_icmp_ne (tgt := 152) hx hb dX8_hedge_145 (by decide) (fun c_19 => ?_) (fun c_19 => ?_)
                      · skip
                        refine lv_iconst (v := 0) hx hb dX8_hedge_152 (by decide) ?_
                        rw [hQ]
                        exact z_iret C hr hlk hG dX8_hedge_153 rfl (by rw [o_X8_hedge_r, if_neg c_1, if_neg c_2, if_neg (by decide : ¬ (1 : Int32) = 0), if_neg c_12, if_neg c_13, if_neg c_14, if_neg c_15, if_neg c_16, if_neg c_17, if_neg c_18, if_neg c_19]) rfl
                      · skip
                        refine lv_iconst (v := 1) hx hb dX8_hedge_148 (by decide) ?_
                        refine lv_goto (tgt := 153) hx hb dX8_hedge_149 (by decide) ?_
                        rw [hQ]
                        exact z_iret C hr hlk hG dX8_hedge_153 rfl (by rw [o_X8_hedge_r, if_neg c_1, if_neg c_2, if_neg (by decide : ¬ (1 : Int32) = 0), if_neg c_12, if_neg c_13, if_neg c_14, if_neg c_15, if_neg c_16, if_neg c_17, if_neg c_18, if_pos c_19]) rfl
                    · skip
                      refine lv_aload_n hx hb dX8_hedge_125 rfl (lv_at hl 0 rfl) ?_
                      refine gf_X8_16 C dX8_hedge_126 hG 0 rfl rfl ?_
                      refine lv_bipush (v := 8) hx hb dX8_hedge_129 (by decide) ?_
                      refine lv_iload_n hx hb dX8_hedge_131 rfl (lv_at hl 1 rfl) ?_
                      refine lv_iadd hx hb dX8_hedge_132 ?_
                      refine z_ti (y := 9) (by decide) ?_
                      refine z_ild C dX8_hedge_133 hG 2 rfl 9 (by decide) (Nat.le_of_ble_eq_true rfl) (Nat.le_of_ble_eq_true rfl) ?_
                      refine lv_goto (tgt := 153) hx hb dX8_hedge_134 (by decide) ?_
                      rw [hQ]
                      exact z_iret C hr hlk hG dX8_hedge_153 rfl (by rw [o_X8_hedge_r, if_neg c_1, if_neg c_2, if_neg (by decide : ¬ (1 : Int32) = 0), if_neg c_12, if_neg c_13, if_neg c_14, if_neg c_15, if_neg c_16, if_neg c_17, if_pos c_18]) rfl
                  · skip
                    refine lv_aload_n hx hb dX8_hedge_102 rfl (lv_at hl 0 rfl) ?_
                    refine lv_iconst (v := 0) hx hb dX8_hedge_103 (by decide) ?_
                    refine lv_iload_n hx hb dX8_hedge_104 rfl (lv_at hl 1 rfl) ?_
                    refine call_X8_127 C dX8_hedge_105 (c_X8_isShaded_0_1 l E v ms sl m aS aW aL aT a1 a2 a3 aB (by first | exact hM | (simpa [upd, gn_does_0_0, gn_rises_0_0, gn_does_0_1, gn_rises_0_1, gn_does_143_0, gn_rises_143_0, gn_does_143_1, gn_rises_143_1, gn_known] using hM))) hl hG 0 rfl [0, 1, 2] (by decide) rfl (ads := [m, aS, aL]) rfl rfl (ws' := [(m, .inr (8, [.int (v 0), .int (v 1), .ref aS, .int (v 2), .int (v 3), .int (v 4), .ref aW, .int (v 5), .ref aL, .int (v 6), .int (v 7), .int (v 8), .ref aT, .int (v 9), .int (v 10), .int (v 11), .int (v 12), .ref a1, .ref a2, .ref a3, .ref aB, .int (v 13), .int (v 14)])), (aS, .inl (E.2.1.1, 12, .inl ms)), (aL, .inl (E.2.1.1, 156, .inl sl))]) rfl rfl (rest := []) rfl (Nat.le_of_ble_eq_true rfl) ⟨Nat.le_of_ble_eq_true rfl, Nat.le_of_ble_eq_true rfl⟩ (fun H locs hG => ?_)
                    refine lv_if_eq (tgt := 115) hx hb dX8_hedge_108 (by decide) (fun c_20 => ?_) (fun c_20 => ?_)
                    · skip
                      refine lv_iconst (v := 0) hx hb dX8_hedge_115 (by decide) ?_
                      refine lv_goto (tgt := 153) hx hb dX8_hedge_116 (by decide) ?_
                      rw [hQ]
                      exact z_iret C hr hlk hG dX8_hedge_153 rfl (by rw [o_X8_hedge_r, if_neg c_1, if_neg c_2, if_neg (by decide : ¬ (1 : Int32) = 0), if_neg c_12, if_neg c_13, if_neg c_14, if_neg c_15, if_neg c_16, if_pos c_17, if_pos c_20]) rfl
                    · skip
                      refine lv_iconst (v := 1) hx hb dX8_hedge_111 (by decide) ?_
                      refine lv_goto (tgt := 153) hx hb dX8_hedge_112 (by decide) ?_
                      rw [hQ]
                      exact z_iret C hr hlk hG dX8_hedge_153 rfl (by rw [o_X8_hedge_r, if_neg c_1, if_neg c_2, if_neg (by decide : ¬ (1 : Int32) = 0), if_neg c_12, if_neg c_13, if_neg c_14, if_neg c_15, if_neg c_16, if_pos c_17, if_neg c_20]) rfl
                · skip
                  refine lv_aload_n hx hb dX8_hedge_88 rfl (lv_at hl 0 rfl) ?_
                  refine lv_iconst (v := 0) hx hb dX8_hedge_89 (by decide) ?_
                  refine lv_iload_n hx hb dX8_hedge_90 rfl (lv_at hl 1 rfl) ?_
                  refine call_X8_118 C dX8_hedge_91 (c_X8_shadow_0_1 l E v ms sl m aS aW aL aT a1 a2 a3 aB (by first | exact hM | (simpa [upd, gn_does_0_0, gn_rises_0_0, gn_does_0_1, gn_rises_0_1, gn_does_143_0, gn_rises_143_0, gn_does_143_1, gn_rises_143_1, gn_known] using hM))) hl hG 0 rfl [0, 1, 2] (by decide) rfl (ads := [m, aS, aL]) rfl rfl (ws' := [(m, .inr (8, [.int (v 0), .int (v 1), .ref aS, .int (v 2), .int (v 3), .int (v 4), .ref aW, .int (v 5), .ref aL, .int (v 6), .int (v 7), .int (v 8), .ref aT, .int (v 9), .int (v 10), .int (v 11), .int (v 12), .ref a1, .ref a2, .ref a3, .ref aB, .int (v 13), .int (v 14)])), (aS, .inl (E.2.1.1, 12, .inl ms)), (aL, .inl (E.2.1.1, 156, .inl sl))]) rfl rfl (rest := []) rfl (Nat.le_of_ble_eq_true rfl) ⟨Nat.le_of_ble_eq_true rfl, Nat.le_of_ble_eq_true rfl⟩ (fun H locs hG => ?_)
                  refine lv_goto (tgt := 153) hx hb dX8_hedge_94 (by decide) ?_
                  rw [hQ]
                  exact z_iret C hr hlk hG dX8_hedge_153 rfl (by rw [o_X8_hedge_r, if_neg c_1, if_neg c_2, if_neg (by decide : ¬ (1 : Int32) = 0), if_neg c_12, if_neg c_13, if_neg c_14, if_neg c_15, if_pos c_16]) rfl
              · skip
                refine lv_aload_n hx hb dX8_hedge_71 rfl (lv_at hl 0 rfl) ?_
                refine gf_X8_16 C dX8_hedge_72 hG 0 rfl rfl ?_
                refine lv_bipush (v := 6) hx hb dX8_hedge_75 (by decide) ?_
                refine lv_iload_n hx hb dX8_hedge_77 rfl (lv_at hl 1 rfl) ?_
                refine lv_iadd hx hb dX8_hedge_78 ?_
                refine z_ti (y := 7) (by decide) ?_
                refine z_ild C dX8_hedge_79 hG 2 rfl 7 (by decide) (Nat.le_of_ble_eq_true rfl) (Nat.le_of_ble_eq_true rfl) ?_
                refine lv_goto (tgt := 153) hx hb dX8_hedge_80 (by decide) ?_
                rw [hQ]
                exact z_iret C hr hlk hG dX8_hedge_153 rfl (by rw [o_X8_hedge_r, if_neg c_1, if_neg c_2, if_neg (by decide : ¬ (1 : Int32) = 0), if_neg c_12, if_neg c_13, if_neg c_14, if_pos c_15]) rfl
            · skip
              refine lv_aload_n hx hb dX8_hedge_55 rfl (lv_at hl 0 rfl) ?_
              refine gf_X8_16 C dX8_hedge_56 hG 0 rfl rfl ?_
              refine lv_iconst (v := 4) hx hb dX8_hedge_59 (by decide) ?_
              refine lv_iload_n hx hb dX8_hedge_60 rfl (lv_at hl 1 rfl) ?_
              refine lv_iadd hx hb dX8_hedge_61 ?_
              refine z_ti (y := 5) (by decide) ?_
              refine z_ild C dX8_hedge_62 hG 2 rfl 5 (by decide) (Nat.le_of_ble_eq_true rfl) (Nat.le_of_ble_eq_true rfl) ?_
              refine lv_goto (tgt := 153) hx hb dX8_hedge_63 (by decide) ?_
              rw [hQ]
              exact z_iret C hr hlk hG dX8_hedge_153 rfl (by rw [o_X8_hedge_r, if_neg c_1, if_neg c_2, if_neg (by decide : ¬ (1 : Int32) = 0), if_neg c_12, if_neg c_13, if_pos c_14]) rfl
          · skip
            refine lv_aload_n hx hb dX8_hedge_39 rfl (lv_at hl 0 rfl) ?_
            refine gf_X8_16 C dX8_hedge_40 hG 0 rfl rfl ?_
            refine lv_iconst (v := 2) hx hb dX8_hedge_43 (by decide) ?_
            refine lv_iload_n hx hb dX8_hedge_44 rfl (lv_at hl 1 rfl) ?_
            refine lv_iadd hx hb dX8_hedge_45 ?_
            refine z_ti (y := 3) (by decide) ?_
            refine z_ild C dX8_hedge_46 hG 2 rfl 3 (by decide) (Nat.le_of_ble_eq_true rfl) (Nat.le_of_ble_eq_true rfl) ?_
            refine lv_goto (tgt := 153) hx hb dX8_hedge_47 (by decide) ?_
            rw [hQ]
            exact z_iret C hr hlk hG dX8_hedge_153 rfl (by rw [o_X8_hedge_r, if_neg c_1, if_neg c_2, if_neg (by decide : ¬ (1 : Int32) = 0), if_neg c_12, if_pos c_13]) rfl
        · skip
          refine lv_aload_n hx hb dX8_hedge_25 rfl (lv_at hl 0 rfl) ?_
          refine gf_X8_16 C dX8_hedge_26 hG 0 rfl rfl ?_
          refine lv_iload_n hx hb dX8_hedge_29 rfl (lv_at hl 1 rfl) ?_
          refine z_ild C dX8_hedge_30 hG 2 rfl 1 (by decide) (Nat.le_of_ble_eq_true rfl) (Nat.le_of_ble_eq_true rfl) ?_
          refine lv_goto (tgt := 153) hx hb dX8_hedge_31 (by decide) ?_
          rw [hQ]
          exact z_iret C hr hlk hG dX8_hedge_153 rfl (by rw [o_X8_hedge_r, if_neg c_1, if_neg c_2, if_neg (by decide : ¬ (1 : Int32) = 0), if_pos c_12]) rfl
    · skip
      refine lv_iconst (v := (-1)) hx hb dX8_hedge_19 (by decide) ?_
      rw [hQ]
      exact z_iret C hr hlk hG dX8_hedge_20 rfl (by rw [o_X8_hedge_r, if_neg c_1, if_pos c_2]) rfl
def o_X8_month_r (v : Nat → Int32) (ms : Nat → Int32) (m_ : Int32) (what : Int32) : Int32 := (if (o_X8_in_r m_.toInt64 0 99) = 0 then (-1) else (if (o_X8_in_r what.toInt64 0 1) = 0 then (-1) else (if what = 0 then (ms ((m_ - m_ / 12 * 12).toNatClampNeg)) else (((v 2) >>> ((m_ - m_ / 12 * 12) &&& 31)) &&& 1))))
set_option maxRecDepth 100000 in
set_option maxHeartbeats 4000000 in
theorem c_X8_month (l : Launch) (E : zE) (v : Nat → Int32) (ms : Nat → Int32) (m_ : Int32) (what : Int32) (m aS aW aL aT a1 a2 a3 aB : Nat) : HM l E yX8_month cX8_month 3 (some .int) 1 25 [.ref m, .int m_, .int what] [(m, .inr (8, [.int (v 0), .int (v 1), .ref aS, .int (v 2), .int (v 3), .int (v 4), .ref aW, .int (v 5), .ref aL, .int (v 6), .int (v 7), .int (v 8), .ref aT, .int (v 9), .int (v 10), .int (v 11), .int (v 12), .ref a1, .ref a2, .ref a3, .ref aB, .int (v 13), .int (v 14)])), (aS, .inl (E.2.1.1, 12, .inl ms))] (some (.int (o_X8_month_r v ms m_ what))) [(m, .inr (8, [.int (v 0), .int (v 1), .ref aS, .int (v 2), .int (v 3), .int (v 4), .ref aW, .int (v 5), .ref aL, .int (v 6), .int (v 7), .int (v 8), .ref aT, .int (v 9), .int (v 10), .int (v 11), .int (v 12), .ref a1, .ref a2, .ref a3, .ref aB, .int (v 13), .int (v 14)])), (aS, .inl (E.2.1.1, 12, .inl ms))] := by
  refine HM.of (own := RX8) (plainFor_of_name (by decide)) rfl (Nat.le_of_ble_eq_true rfl) ?_
  intro zp ze zs zm za zb zt zc zA ls H locs zq C hr hlk hG hl hQ
  have hx := C.1.1
  have hb := C.1.2.1
  replace hl : lv_has ls 3 [(0, .ref m), (1, .int m_), (2, .int what)] := hl
  refine lv_iload_n hx hb dX8_month_0 rfl (lv_at hl 1 rfl) ?_
  refine lv_i2l (v := m_.toInt64) hx hb dX8_month_1 rfl ?_
  refine lv_lconst (v := 0) hx hb dX8_month_2 (by decide) ?_
  refine lv_ldc2 (v := 99) hx hb C.1.2.2.2.1 (C.1.2.2.2.2 _ (inr16 _ (List.mem_of_getElem? (i := 19) rfl))) dX8_month_3 ?_
  refine call_X8_49 C dX8_month_6 (c_X8_in l E m_.toInt64 0 99) hl hG [] (by decide) rfl (ads := []) rfl rfl (ws' := [(m, .inr (8, [.int (v 0), .int (v 1), .ref aS, .int (v 2), .int (v 3), .int (v 4), .ref aW, .int (v 5), .ref aL, .int (v 6), .int (v 7), .int (v 8), .ref aT, .int (v 9), .int (v 10), .int (v 11), .int (v 12), .ref a1, .ref a2, .ref a3, .ref aB, .int (v 13), .int (v 14)])), (aS, .inl (E.2.1.1, 12, .inl ms))]) rfl rfl (rest := []) rfl (Nat.le_of_ble_eq_true rfl) ⟨Nat.le_of_ble_eq_true rfl, Nat.le_of_ble_eq_true rfl⟩ (fun H locs hG => ?_)
  refine lv_if_eq (tgt := 22) hx hb dX8_month_9 (by decide) (fun c_1 => ?_) (fun c_1 => ?_)
  · skip
    refine lv_iconst (v := (-1)) hx hb dX8_month_22 (by decide) ?_
    rw [hQ]
    exact z_iret C hr hlk hG dX8_month_23 rfl (by rw [o_X8_month_r, if_pos c_1]) rfl
  · skip
    refine lv_iload_n hx hb dX8_month_12 rfl (lv_at hl 2 rfl) ?_
    refine lv_i2l (v := what.toInt64) hx hb dX8_month_13 rfl ?_
    refine lv_lconst (v := 0) hx hb dX8_month_14 (by decide) ?_
    refine lv_lconst (v := 1) hx hb dX8_month_15 (by decide) ?_
    refine call_X8_49 C dX8_month_16 (c_X8_in l E what.toInt64 0 1) hl hG [] (by decide) rfl (ads := []) rfl rfl (ws' := [(m, .inr (8, [.int (v 0), .int (v 1), .ref aS, .int (v 2), .int (v 3), .int (v 4), .ref aW, .int (v 5), .ref aL, .int (v 6), .int (v 7), .int (v 8), .ref aT, .int (v 9), .int (v 10), .int (v 11), .int (v 12), .ref a1, .ref a2, .ref a3, .ref aB, .int (v 13), .int (v 14)])), (aS, .inl (E.2.1.1, 12, .inl ms))]) rfl rfl (rest := []) rfl (Nat.le_of_ble_eq_true rfl) ⟨Nat.le_of_ble_eq_true rfl, Nat.le_of_ble_eq_true rfl⟩ (fun H locs hG => ?_)
    refine lv_if_ne (tgt := 24) hx hb dX8_month_19 (by decide) (fun c_2 => ?_) (fun c_2 => ?_)
    · skip
      refine lv_iload_n hx hb dX8_month_24 rfl (lv_at hl 2 rfl) ?_
      refine lv_if_ne (tgt := 40) hx hb dX8_month_25 (by decide) (fun c_3 => ?_) (fun c_3 => ?_)
      · skip
        refine lv_aload_n hx hb dX8_month_40 rfl (lv_at hl 0 rfl) ?_
        refine gf_X8_42 C dX8_month_41 hG 0 rfl rfl ?_
        refine lv_iload_n hx hb dX8_month_44 rfl (lv_at hl 1 rfl) ?_
        refine lv_bipush (v := 12) hx hb dX8_month_45 (by decide) ?_
        refine lv_irem hx hb dX8_month_47 (by decide) ?_
        refine lv_ishr hx hb dX8_month_48 ?_
        refine lv_iconst (v := 1) hx hb dX8_month_49 (by decide) ?_
        refine lv_iand hx hb dX8_month_50 ?_
        rw [hQ]
        exact z_iret C hr hlk hG dX8_month_51 rfl (by rw [o_X8_month_r, if_neg c_1, if_neg c_2, if_neg c_3]) rfl
      · skip
        refine lv_aload_n hx hb dX8_month_28 rfl (lv_at hl 0 rfl) ?_
        refine gf_X8_7 C dX8_month_29 hG 0 rfl rfl ?_
        refine lv_iload_n hx hb dX8_month_32 rfl (lv_at hl 1 rfl) ?_
        refine lv_bipush (v := 12) hx hb dX8_month_33 (by decide) ?_
        refine lv_irem hx hb dX8_month_35 (by decide) ?_
        refine z_iald C dX8_month_36 hG 1 rfl (z_rem (z_in0 (by decide) c_1)) ?_
        refine lv_goto (tgt := 51) hx hb dX8_month_37 (by decide) ?_
        rw [hQ]
        exact z_iret C hr hlk hG dX8_month_51 rfl (by rw [o_X8_month_r, if_neg c_1, if_neg c_2, if_pos c_3]) rfl
    · skip
      refine lv_iconst (v := (-1)) hx hb dX8_month_22 (by decide) ?_
      rw [hQ]
      exact z_iret C hr hlk hG dX8_month_23 rfl (by rw [o_X8_month_r, if_neg c_1, if_pos c_2]) rfl
def o_X8_act_r (v : Nat → Int32) (ms : Nat → Int32) (sl : Nat → Int32) (da : Int32) (db : Int32) (na : Nat) : Int32 := (if (o_X8_in_r da.toInt64 0 4) = 0 then (-1) else (if (o_X8_in_r db.toInt64 0 4) = 0 then (-1) else (if (o_X8_isOver_r v sl) = 0 then (o_X8_told_0_r (o_X8_known_v v sl na) ms (o_X8_known_1 v sl na) da db) else (-2))))
def o_X8_act_v (v : Nat → Int32) (ms : Nat → Int32) (sl : Nat → Int32) (da : Int32) (db : Int32) (na : Nat) : Nat → Int32 := (if (o_X8_in_r da.toInt64 0 4) = 0 then v else (if (o_X8_in_r db.toInt64 0 4) = 0 then v else (if (o_X8_isOver_r v sl) = 0 then (o_X8_known_v v sl na) else v)))
def o_X8_act_2 (v : Nat → Int32) (ms : Nat → Int32) (sl : Nat → Int32) (da : Int32) (db : Int32) (na : Nat) : Nat → Int32 := (if (o_X8_in_r da.toInt64 0 4) = 0 then sl else (if (o_X8_in_r db.toInt64 0 4) = 0 then sl else (if (o_X8_isOver_r v sl) = 0 then (o_X8_told_0_2 (o_X8_known_v v sl na) ms (o_X8_known_1 v sl na) da db) else sl)))
set_option maxRecDepth 100000 in
set_option maxHeartbeats 4000000 in
theorem c_X8_act (l : Launch) (E : zE) (v : Nat → Int32) (ms : Nat → Int32) (sl : Nat → Int32) (da : Int32) (db : Int32) (na : Nat) (m aS aW aL aT a1 a2 a3 aB : Nat) (hM : 0 ≤ (sl 11).toInt) (hna : v 6 = nI na) (hn8 : na ≤ 8) : HM l E yX8_act cX8_act 3 (some .int) 5 118 [.ref m, .int da, .int db] [(m, .inr (8, [.int (v 0), .int (v 1), .ref aS, .int (v 2), .int (v 3), .int (v 4), .ref aW, .int (v 5), .ref aL, .int (v 6), .int (v 7), .int (v 8), .ref aT, .int (v 9), .int (v 10), .int (v 11), .int (v 12), .ref a1, .ref a2, .ref a3, .ref aB, .int (v 13), .int (v 14)])), (aS, .inl (E.2.1.1, 12, .inl ms)), (aL, .inl (E.2.1.1, 156, .inl sl))] (some (.int (o_X8_act_r v ms sl da db na))) [(m, .inr (8, [.int (o_X8_act_v v ms sl da db na 0), .int (o_X8_act_v v ms sl da db na 1), .ref aS, .int (o_X8_act_v v ms sl da db na 2), .int (o_X8_act_v v ms sl da db na 3), .int (o_X8_act_v v ms sl da db na 4), .ref aW, .int (o_X8_act_v v ms sl da db na 5), .ref aL, .int (o_X8_act_v v ms sl da db na 6), .int (o_X8_act_v v ms sl da db na 7), .int (o_X8_act_v v ms sl da db na 8), .ref aT, .int (o_X8_act_v v ms sl da db na 9), .int (o_X8_act_v v ms sl da db na 10), .int (o_X8_act_v v ms sl da db na 11), .int (o_X8_act_v v ms sl da db na 12), .ref a1, .ref a2, .ref a3, .ref aB, .int (o_X8_act_v v ms sl da db na 13), .int (o_X8_act_v v ms sl da db na 14)])), (aS, .inl (E.2.1.1, 12, .inl ms)), (aL, .inl (E.2.1.1, 156, .inl (o_X8_act_2 v ms sl da db na)))] := by
  refine HM.of (own := RX8) (plainFor_of_name (by decide)) rfl (Nat.le_of_ble_eq_true rfl) ?_
  intro zp ze zs zm za zb zt zc zA ls H locs zq C hr hlk hG hl hQ
  have hx := C.1.1
  have hb := C.1.2.1
  replace hl : lv_has ls 3 [(0, .ref m), (1, .int da), (2, .int db)] := hl
  refine lv_iload_n hx hb dX8_act_0 rfl (lv_at hl 1 rfl) ?_
  refine lv_i2l (v := da.toInt64) hx hb dX8_act_1 rfl ?_
  refine lv_lconst (v := 0) hx hb dX8_act_2 (by decide) ?_
  refine lv_ldc2 (v := 4) hx hb C.1.2.2.2.1 (C.1.2.2.2.2 _ (inr19 _ (List.mem_of_getElem? (i := 23) rfl))) dX8_act_3 ?_
  refine call_X8_49 C dX8_act_6 (c_X8_in l E da.toInt64 0 4) hl hG [] (by decide) rfl (ads := []) rfl rfl (ws' := [(m, .inr (8, [.int (v 0), .int (v 1), .ref aS, .int (v 2), .int (v 3), .int (v 4), .ref aW, .int (v 5), .ref aL, .int (v 6), .int (v 7), .int (v 8), .ref aT, .int (v 9), .int (v 10), .int (v 11), .int (v 12), .ref a1, .ref a2, .ref a3, .ref aB, .int (v 13), .int (v 14)])), (aS, .inl (E.2.1.1, 12, .inl ms)), (aL, .inl (E.2.1.1, 156, .inl sl))]) rfl rfl (rest := []) rfl (Nat.le_of_ble_eq_true rfl) ⟨Nat.le_of_ble_eq_true rfl, Nat.le_of_ble_eq_true rfl⟩ (fun H locs hG => ?_)
  refine lv_if_eq (tgt := 24) hx hb dX8_act_9 (by decide) (fun c_1 => ?_) (fun c_1 => ?_)
  · skip
    refine lv_iconst (v := (-1)) hx hb dX8_act_24 (by decide) ?_
    rw [hQ]
    exact z_iret C hr hlk hG dX8_act_25 rfl (by rw [o_X8_act_r, if_pos c_1]) (by rw [o_X8_act_v, if_pos c_1, o_X8_act_2, if_pos c_1])
  · skip
    refine lv_iload_n hx hb dX8_act_12 rfl (lv_at hl 2 rfl) ?_
    refine lv_i2l (v := db.toInt64) hx hb dX8_act_13 rfl ?_
    refine lv_lconst (v := 0) hx hb dX8_act_14 (by decide) ?_
    refine lv_ldc2 (v := 4) hx hb C.1.2.2.2.1 (C.1.2.2.2.2 _ (inr19 _ (List.mem_of_getElem? (i := 23) rfl))) dX8_act_15 ?_
    refine call_X8_49 C dX8_act_18 (c_X8_in l E db.toInt64 0 4) hl hG [] (by decide) rfl (ads := []) rfl rfl (ws' := [(m, .inr (8, [.int (v 0), .int (v 1), .ref aS, .int (v 2), .int (v 3), .int (v 4), .ref aW, .int (v 5), .ref aL, .int (v 6), .int (v 7), .int (v 8), .ref aT, .int (v 9), .int (v 10), .int (v 11), .int (v 12), .ref a1, .ref a2, .ref a3, .ref aB, .int (v 13), .int (v 14)])), (aS, .inl (E.2.1.1, 12, .inl ms)), (aL, .inl (E.2.1.1, 156, .inl sl))]) rfl rfl (rest := []) rfl (Nat.le_of_ble_eq_true rfl) ⟨Nat.le_of_ble_eq_true rfl, Nat.le_of_ble_eq_true rfl⟩ (fun H locs hG => ?_)
    refine lv_if_ne (tgt := 26) hx hb dX8_act_21 (by decide) (fun c_2 => ?_) (fun c_2 => ?_)
    · skip
      refine lv_aload_n hx hb dX8_act_26 rfl (lv_at hl 0 rfl) ?_
      refine call_X8_162 C dX8_act_27 (c_X8_isOver l E v sl m aS aW aL aT a1 a2 a3 aB) hl hG 0 rfl [0, 2] (by decide) rfl (ads := [m, aL]) rfl rfl (ws' := [(m, .inr (8, [.int (v 0), .int (v 1), .ref aS, .int (v 2), .int (v 3), .int (v 4), .ref aW, .int (v 5), .ref aL, .int (v 6), .int (v 7), .int (v 8), .ref aT, .int (v 9), .int (v 10), .int (v 11), .int (v 12), .ref a1, .ref a2, .ref a3, .ref aB, .int (v 13), .int (v 14)])), (aS, .inl (E.2.1.1, 12, .inl ms)), (aL, .inl (E.2.1.1, 156, .inl sl))]) rfl rfl (rest := []) rfl (Nat.le_of_ble_eq_true rfl) ⟨Nat.le_of_ble_eq_true rfl, Nat.le_of_ble_eq_true rfl⟩ (fun H locs hG => ?_)
      refine lv_if_eq (tgt := 36) hx hb dX8_act_30 (by decide) (fun c_3 => ?_) (fun c_3 => ?_)
      · skip
        refine lv_aload_n hx hb dX8_act_36 rfl (lv_at hl 0 rfl) ?_
        refine call_X8_165 C dX8_act_37 (c_X8_known l E v sl na m aS aW aL aT a1 a2 a3 aB hna hn8) hl hG 0 rfl [0, 2] (by decide) rfl (ads := [m, aL]) rfl rfl (ws' := [(m, .inr (8, [.int (o_X8_known_v v sl na 0), .int (o_X8_known_v v sl na 1), .ref aS, .int (o_X8_known_v v sl na 2), .int (o_X8_known_v v sl na 3), .int (o_X8_known_v v sl na 4), .ref aW, .int (o_X8_known_v v sl na 5), .ref aL, .int (o_X8_known_v v sl na 6), .int (o_X8_known_v v sl na 7), .int (o_X8_known_v v sl na 8), .ref aT, .int (o_X8_known_v v sl na 9), .int (o_X8_known_v v sl na 10), .int (o_X8_known_v v sl na 11), .int (o_X8_known_v v sl na 12), .ref a1, .ref a2, .ref a3, .ref aB, .int (o_X8_known_v v sl na 13), .int (o_X8_known_v v sl na 14)])), (aS, .inl (E.2.1.1, 12, .inl ms)), (aL, .inl (E.2.1.1, 156, .inl (o_X8_known_1 v sl na)))]) rfl rfl (rest := []) rfl (Nat.le_of_ble_eq_true rfl) ⟨Nat.le_of_ble_eq_true rfl, Nat.le_of_ble_eq_true rfl⟩ (fun H locs hG => ?_)
        refine lv_aload_n hx hb dX8_act_40 rfl (lv_at hl 0 rfl) ?_
        refine lv_iconst (v := 0) hx hb dX8_act_41 (by decide) ?_
        refine lv_iload_n hx hb dX8_act_42 rfl (lv_at hl 1 rfl) ?_
        refine lv_iload_n hx hb dX8_act_43 rfl (lv_at hl 2 rfl) ?_
        refine call_X8_168 C dX8_act_44 (c_X8_told_0 l E (o_X8_known_v v sl na) ms (o_X8_known_1 v sl na) da db m aS aW aL aT a1 a2 a3 aB (by first | exact hM | (simpa [upd, gn_does_0_0, gn_rises_0_0, gn_does_0_1, gn_rises_0_1, gn_does_143_0, gn_rises_143_0, gn_does_143_1, gn_rises_143_1, gn_known] using hM))) hl hG 0 rfl [0, 1, 2] (by decide) rfl (ads := [m, aS, aL]) rfl rfl (ws' := [(m, .inr (8, [.int (o_X8_known_v v sl na 0), .int (o_X8_known_v v sl na 1), .ref aS, .int (o_X8_known_v v sl na 2), .int (o_X8_known_v v sl na 3), .int (o_X8_known_v v sl na 4), .ref aW, .int (o_X8_known_v v sl na 5), .ref aL, .int (o_X8_known_v v sl na 6), .int (o_X8_known_v v sl na 7), .int (o_X8_known_v v sl na 8), .ref aT, .int (o_X8_known_v v sl na 9), .int (o_X8_known_v v sl na 10), .int (o_X8_known_v v sl na 11), .int (o_X8_known_v v sl na 12), .ref a1, .ref a2, .ref a3, .ref aB, .int (o_X8_known_v v sl na 13), .int (o_X8_known_v v sl na 14)])), (aS, .inl (E.2.1.1, 12, .inl ms)), (aL, .inl (E.2.1.1, 156, .inl (o_X8_told_0_2 (o_X8_known_v v sl na) ms (o_X8_known_1 v sl na) da db)))]) rfl rfl (rest := []) rfl (Nat.le_of_ble_eq_true rfl) ⟨Nat.le_of_ble_eq_true rfl, Nat.le_of_ble_eq_true rfl⟩ (fun H locs hG => ?_)
        rw [hQ]
        exact z_iret C hr hlk hG dX8_act_47 rfl (by rw [o_X8_act_r, if_neg c_1, if_neg c_2, if_pos c_3]) (by rw [o_X8_act_v, if_neg c_1, if_neg c_2, if_pos c_3, o_X8_act_2, if_neg c_1, if_neg c_2, if_pos c_3])
      · skip
        refine lv_bipush (v := (-2)) hx hb dX8_act_33 (by decide) ?_
        rw [hQ]
        exact z_iret C hr hlk hG dX8_act_35 rfl (by rw [o_X8_act_r, if_neg c_1, if_neg c_2, if_neg c_3]) (by rw [o_X8_act_v, if_neg c_1, if_neg c_2, if_neg c_3, o_X8_act_2, if_neg c_1, if_neg c_2, if_neg c_3])
    · skip
      refine lv_iconst (v := (-1)) hx hb dX8_act_24 (by decide) ?_
      rw [hQ]
      exact z_iret C hr hlk hG dX8_act_25 rfl (by rw [o_X8_act_r, if_neg c_1, if_pos c_2]) (by rw [o_X8_act_v, if_neg c_1, if_pos c_2, o_X8_act_2, if_neg c_1, if_pos c_2])
def L_X8_pass_0 (v : Nat → Int32) (ms : Nat → Int32) (sl : Nat → Int32) (n : Int32) (na : Nat) : Nat → Int32 × (Nat → Int32)
  | 0 => (0, (o_X8_known_1 v sl na))
  | (k0 + 1) => ((((L_X8_pass_0 v ms sl n na k0).1) ||| (o_X8_told_0_r (o_X8_known_v v sl na) ms ((L_X8_pass_0 v ms sl n na k0).2) 0 0)), (o_X8_told_0_2 (o_X8_known_v v sl na) ms ((L_X8_pass_0 v ms sl n na k0).2) 0 0))
def o_X8_pass_r (v : Nat → Int32) (ms : Nat → Int32) (sl : Nat → Int32) (n : Int32) (na : Nat) : Int32 := (if (o_X8_in_r n.toInt64 1 24) = 0 then (-1) else (if (o_X8_isOver_r v sl) = 0 then (if (0 : Int32) ≤ ((L_X8_pass_0 v ms sl n na n.toNatClampNeg).1) then (((L_X8_pass_0 v ms sl n na n.toNatClampNeg).2) 11) else (-2)) else (-2)))
def o_X8_pass_v (v : Nat → Int32) (ms : Nat → Int32) (sl : Nat → Int32) (n : Int32) (na : Nat) : Nat → Int32 := (if (o_X8_in_r n.toInt64 1 24) = 0 then v else (if (o_X8_isOver_r v sl) = 0 then (o_X8_known_v v sl na) else v))
def o_X8_pass_2 (v : Nat → Int32) (ms : Nat → Int32) (sl : Nat → Int32) (n : Int32) (na : Nat) : Nat → Int32 := (if (o_X8_in_r n.toInt64 1 24) = 0 then sl else (if (o_X8_isOver_r v sl) = 0 then ((L_X8_pass_0 v ms sl n na n.toNatClampNeg).2) else sl))
theorem L_pass (v ms sl : Nat → Int32) (n : Int32) (na : Nat) (hB : mB 1000000 (sl 11)) : ∀ k : Nat, k ≤ 1000 → mB (1000000 + (k : Int)) ((L_X8_pass_0 v ms sl n na k).2 11) := by
  intro k
  induction k with
  | zero => intro _; rw [L_X8_pass_0]; simpa [gn_known] using hB
  | succ k ih =>
    intro hk
    rw [L_X8_pass_0]
    exact mB_told_0 (by omega) _ _ _ _ _ (ih (by omega))
set_option maxRecDepth 100000 in
set_option maxHeartbeats 4000000 in
theorem c_X8_pass (l : Launch) (E : zE) (v : Nat → Int32) (ms : Nat → Int32) (sl : Nat → Int32) (n : Int32) (na : Nat) (m aS aW aL aT a1 a2 a3 aB : Nat) (hB : mB 1000000 (sl 11)) (hna : v 6 = nI na) (hn8 : na ≤ 8) : HM l E yX8_pass cX8_pass 4 (some .int) 5 118 [.ref m, .int n] [(m, .inr (8, [.int (v 0), .int (v 1), .ref aS, .int (v 2), .int (v 3), .int (v 4), .ref aW, .int (v 5), .ref aL, .int (v 6), .int (v 7), .int (v 8), .ref aT, .int (v 9), .int (v 10), .int (v 11), .int (v 12), .ref a1, .ref a2, .ref a3, .ref aB, .int (v 13), .int (v 14)])), (aS, .inl (E.2.1.1, 12, .inl ms)), (aL, .inl (E.2.1.1, 156, .inl sl))] (some (.int (o_X8_pass_r v ms sl n na))) [(m, .inr (8, [.int (o_X8_pass_v v ms sl n na 0), .int (o_X8_pass_v v ms sl n na 1), .ref aS, .int (o_X8_pass_v v ms sl n na 2), .int (o_X8_pass_v v ms sl n na 3), .int (o_X8_pass_v v ms sl n na 4), .ref aW, .int (o_X8_pass_v v ms sl n na 5), .ref aL, .int (o_X8_pass_v v ms sl n na 6), .int (o_X8_pass_v v ms sl n na 7), .int (o_X8_pass_v v ms sl n na 8), .ref aT, .int (o_X8_pass_v v ms sl n na 9), .int (o_X8_pass_v v ms sl n na 10), .int (o_X8_pass_v v ms sl n na 11), .int (o_X8_pass_v v ms sl n na 12), .ref a1, .ref a2, .ref a3, .ref aB, .int (o_X8_pass_v v ms sl n na 13), .int (o_X8_pass_v v ms sl n na 14)])), (aS, .inl (E.2.1.1, 12, .inl ms)), (aL, .inl (E.2.1.1, 156, .inl (o_X8_pass_2 v ms sl n na)))] := by
  refine HM.of (own := RX8) (plainFor_of_name (by decide)) rfl (Nat.le_of_ble_eq_true rfl) ?_
  intro zp ze zs zm za zb zt zc zA ls H locs zq C hr hlk hG hl hQ
  have hx := C.1.1
  have hb := C.1.2.1
  replace hl : lv_has ls 4 [(0, .ref m), (1, .int n)] := hl
  refine lv_iload_n hx hb dX8_pass_0 rfl (lv_at hl 1 rfl) ?_
  refine lv_i2l (v := n.toInt64) hx hb dX8_pass_1 rfl ?_
  refine lv_lconst (v := 1) hx hb dX8_pass_2 (by decide) ?_
  refine lv_ldc2 (v := 24) hx hb C.1.2.2.2.1 (C.1.2.2.2.2 _ (inr22 _ (List.mem_of_getElem? (i := 5) rfl))) dX8_pass_3 ?_
  refine call_X8_49 C dX8_pass_6 (c_X8_in l E n.toInt64 1 24) hl hG [] (by decide) rfl (ads := []) rfl rfl (ws' := [(m, .inr (8, [.int (v 0), .int (v 1), .ref aS, .int (v 2), .int (v 3), .int (v 4), .ref aW, .int (v 5), .ref aL, .int (v 6), .int (v 7), .int (v 8), .ref aT, .int (v 9), .int (v 10), .int (v 11), .int (v 12), .ref a1, .ref a2, .ref a3, .ref aB, .int (v 13), .int (v 14)])), (aS, .inl (E.2.1.1, 12, .inl ms)), (aL, .inl (E.2.1.1, 156, .inl sl))]) rfl rfl (rest := []) rfl (Nat.le_of_ble_eq_true rfl) ⟨Nat.le_of_ble_eq_true rfl, Nat.le_of_ble_eq_true rfl⟩ (fun H locs hG => ?_)
  refine lv_if_ne (tgt := 14) hx hb dX8_pass_9 (by decide) (fun c_1 => ?_) (fun c_1 => ?_)
  · skip
    refine lv_aload_n hx hb dX8_pass_14 rfl (lv_at hl 0 rfl) ?_
    refine call_X8_162 C dX8_pass_15 (c_X8_isOver l E v sl m aS aW aL aT a1 a2 a3 aB) hl hG 0 rfl [0, 2] (by decide) rfl (ads := [m, aL]) rfl rfl (ws' := [(m, .inr (8, [.int (v 0), .int (v 1), .ref aS, .int (v 2), .int (v 3), .int (v 4), .ref aW, .int (v 5), .ref aL, .int (v 6), .int (v 7), .int (v 8), .ref aT, .int (v 9), .int (v 10), .int (v 11), .int (v 12), .ref a1, .ref a2, .ref a3, .ref aB, .int (v 13), .int (v 14)])), (aS, .inl (E.2.1.1, 12, .inl ms)), (aL, .inl (E.2.1.1, 156, .inl sl))]) rfl rfl (rest := []) rfl (Nat.le_of_ble_eq_true rfl) ⟨Nat.le_of_ble_eq_true rfl, Nat.le_of_ble_eq_true rfl⟩ (fun H locs hG => ?_)
    refine lv_if_eq (tgt := 24) hx hb dX8_pass_18 (by decide) (fun c_2 => ?_) (fun c_2 => ?_)
    · skip
      refine lv_aload_n hx hb dX8_pass_24 rfl (lv_at hl 0 rfl) ?_
      refine call_X8_165 C dX8_pass_25 (c_X8_known l E v sl na m aS aW aL aT a1 a2 a3 aB hna hn8) hl hG 0 rfl [0, 2] (by decide) rfl (ads := [m, aL]) rfl rfl (ws' := [(m, .inr (8, [.int (o_X8_known_v v sl na 0), .int (o_X8_known_v v sl na 1), .ref aS, .int (o_X8_known_v v sl na 2), .int (o_X8_known_v v sl na 3), .int (o_X8_known_v v sl na 4), .ref aW, .int (o_X8_known_v v sl na 5), .ref aL, .int (o_X8_known_v v sl na 6), .int (o_X8_known_v v sl na 7), .int (o_X8_known_v v sl na 8), .ref aT, .int (o_X8_known_v v sl na 9), .int (o_X8_known_v v sl na 10), .int (o_X8_known_v v sl na 11), .int (o_X8_known_v v sl na 12), .ref a1, .ref a2, .ref a3, .ref aB, .int (o_X8_known_v v sl na 13), .int (o_X8_known_v v sl na 14)])), (aS, .inl (E.2.1.1, 12, .inl ms)), (aL, .inl (E.2.1.1, 156, .inl (o_X8_known_1 v sl na)))]) rfl rfl (rest := []) rfl (Nat.le_of_ble_eq_true rfl) ⟨Nat.le_of_ble_eq_true rfl, Nat.le_of_ble_eq_true rfl⟩ (fun H locs hG => ?_)
      refine lv_iconst (v := 0) hx hb dX8_pass_28 (by decide) ?_
      refine lv_istore_n (lv' := [(2, .int 0), (0, .ref m), (1, .int n)]) hx hb dX8_pass_29 rfl hl (by decide) rfl (fun ls hl => ?_)
      refine lv_iconst (v := 0) hx hb dX8_pass_30 (by decide) ?_
      refine lv_istore_n (lv' := [(3, .int 0), (2, .int 0), (0, .ref m), (1, .int n)]) hx hb dX8_pass_31 rfl hl (by decide) rfl (fun ls hl => ?_)
      have kl_0 : ∀ (j0 k0 : Nat), j0 + k0 = n.toNatClampNeg → ∀ (u0_0 : Int32) (u0_1 : Nat → Int32) (H : Heap) (locs : List Loc) (ls : Array Slot), ((L_X8_pass_0 v ms sl n na k0).1) = u0_0 → ((L_X8_pass_0 v ms sl n na k0).2) = u0_1 → zG E zA zs.heap [(m, .inr (8, [.int (o_X8_known_v v sl na 0), .int (o_X8_known_v v sl na 1), .ref aS, .int (o_X8_known_v v sl na 2), .int (o_X8_known_v v sl na 3), .int (o_X8_known_v v sl na 4), .ref aW, .int (o_X8_known_v v sl na 5), .ref aL, .int (o_X8_known_v v sl na 6), .int (o_X8_known_v v sl na 7), .int (o_X8_known_v v sl na 8), .ref aT, .int (o_X8_known_v v sl na 9), .int (o_X8_known_v v sl na 10), .int (o_X8_known_v v sl na 11), .int (o_X8_known_v v sl na 12), .ref a1, .ref a2, .ref a3, .ref aB, .int (o_X8_known_v v sl na 13), .int (o_X8_known_v v sl na 14)])), (aS, .inl (E.2.1.1, 12, .inl ms)), (aL, .inl (E.2.1.1, 156, .inl u0_1))] H locs → lv_has ls 4 [(3, .int (nI k0)), (2, .int u0_0), (0, .ref m), (1, .int n)] → W zp l ze (zR 5 118) zs zm za zb zt zc H locs 0 0 zq (F0 zm 32 ls []) := by
        intro j0
        induction j0 with
        | zero =>
          intro k0 hk0 u0_0 u0_1 H locs ls e_u0_0 e_u0_1 hG hl
          subst e_u0_0
          subst e_u0_1
          obtain rfl : k0 = n.toNatClampNeg := by omega
          refine lv_iload_n hx hb dX8_pass_32 rfl (lv_at hl 0 rfl) ?_
          refine lv_iload_n hx hb dX8_pass_33 rfl (lv_at hl 3 rfl) ?_
          refine lv_icmp_ge (tgt := 53) hx hb dX8_pass_34 (by decide) (fun c_5 => ?_) (fun c_5 => absurd (z_ge_yes (z_in2 (by decide) c_1)) c_5)
          refine lv_iload_n hx hb dX8_pass_53 rfl (lv_at hl 1 rfl) ?_
          refine lv_if_ge (tgt := 62) hx hb dX8_pass_54 (by decide) (fun c_6 => ?_) (fun c_6 => ?_)
          · skip
            refine lv_aload_n hx hb dX8_pass_62 rfl (lv_at hl 2 rfl) ?_
            refine gf_X8_16 C dX8_pass_63 hG 0 rfl rfl ?_
            refine lv_bipush (v := 11) hx hb dX8_pass_66 (by decide) ?_
            refine z_ild C dX8_pass_68 hG 2 rfl 11 (by decide) (Nat.le_of_ble_eq_true rfl) (Nat.le_of_ble_eq_true rfl) ?_
            rw [hQ]
            exact z_iret C hr hlk hG dX8_pass_69 rfl (by rw [o_X8_pass_r, if_neg c_1, if_pos c_2, if_pos c_6]) (by rw [o_X8_pass_v, if_neg c_1, if_pos c_2, o_X8_pass_2, if_neg c_1, if_pos c_2])
          · skip
            refine lv_bipush (v := (-2)) hx hb dX8_pass_57 (by decide) ?_
            refine lv_goto (tgt := 69) hx hb dX8_pass_59 (by decide) ?_
            rw [hQ]
            exact z_iret C hr hlk hG dX8_pass_69 rfl (by rw [o_X8_pass_r, if_neg c_1, if_pos c_2, if_neg c_6]) (by rw [o_X8_pass_v, if_neg c_1, if_pos c_2, o_X8_pass_2, if_neg c_1, if_pos c_2])
        | succ j0 ih0 =>
          intro k0 hk0 u0_0 u0_1 H locs ls e_u0_0 e_u0_1 hG hl
          subst e_u0_0
          subst e_u0_1
          have hlt : k0 < n.toNatClampNeg := by omega
          refine lv_iload_n hx hb dX8_pass_32 rfl (lv_at hl 0 rfl) ?_
          refine lv_iload_n hx hb dX8_pass_33 rfl (lv_at hl 3 rfl) ?_
          refine lv_icmp_ge (tgt := 53) hx hb dX8_pass_34 (by decide) (fun c_7 => absurd c_7 (z_ge_no hlt (z_in1 (by decide) c_1) (z_in2 (by decide) c_1))) (fun c_7 => ?_)
          refine lv_iload_n hx hb dX8_pass_37 rfl (lv_at hl 1 rfl) ?_
          refine lv_aload_n hx hb dX8_pass_38 rfl (lv_at hl 2 rfl) ?_
          refine lv_iconst (v := 0) hx hb dX8_pass_39 (by decide) ?_
          refine lv_iconst (v := 0) hx hb dX8_pass_40 (by decide) ?_
          refine lv_iconst (v := 0) hx hb dX8_pass_41 (by decide) ?_
          refine call_X8_168 C dX8_pass_42 (c_X8_told_0 l E (o_X8_known_v v sl na) ms ((L_X8_pass_0 v ms sl n na k0).2) 0 0 m aS aW aL aT a1 a2 a3 aB (L_pass v ms sl n na hB _ (by have := z_in3 (c := 24) (by decide) (by decide) c_1; omega)).1) hl hG 0 rfl [0, 1, 2] (by decide) rfl (ads := [m, aS, aL]) rfl rfl (ws' := [(m, .inr (8, [.int (o_X8_known_v v sl na 0), .int (o_X8_known_v v sl na 1), .ref aS, .int (o_X8_known_v v sl na 2), .int (o_X8_known_v v sl na 3), .int (o_X8_known_v v sl na 4), .ref aW, .int (o_X8_known_v v sl na 5), .ref aL, .int (o_X8_known_v v sl na 6), .int (o_X8_known_v v sl na 7), .int (o_X8_known_v v sl na 8), .ref aT, .int (o_X8_known_v v sl na 9), .int (o_X8_known_v v sl na 10), .int (o_X8_known_v v sl na 11), .int (o_X8_known_v v sl na 12), .ref a1, .ref a2, .ref a3, .ref aB, .int (o_X8_known_v v sl na 13), .int (o_X8_known_v v sl na 14)])), (aS, .inl (E.2.1.1, 12, .inl ms)), (aL, .inl (E.2.1.1, 156, .inl (o_X8_told_0_2 (o_X8_known_v v sl na) ms ((L_X8_pass_0 v ms sl n na k0).2) 0 0)))]) rfl rfl (rest := [.int ((L_X8_pass_0 v ms sl n na k0).1)]) rfl (Nat.le_of_ble_eq_true rfl) ⟨Nat.le_of_ble_eq_true rfl, Nat.le_of_ble_eq_true rfl⟩ (fun H locs hG => ?_)
          refine lv_ior hx hb dX8_pass_45 ?_
          refine lv_istore_n (lv' := [(2, .int (((L_X8_pass_0 v ms sl n na k0).1) ||| (o_X8_told_0_r (o_X8_known_v v sl na) ms ((L_X8_pass_0 v ms sl n na k0).2) 0 0))), (3, .int (nI k0)), (0, .ref m), (1, .int n)]) hx hb dX8_pass_46 rfl hl (by decide) rfl (fun ls hl => ?_)
          refine lv_iinc (v := (nI (k0 + 1))) (lv' := [(3, .int (nI (k0 + 1))), (2, .int (((L_X8_pass_0 v ms sl n na k0).1) ||| (o_X8_told_0_r (o_X8_known_v v sl na) ms ((L_X8_pass_0 v ms sl n na k0).2) 0 0))), (0, .ref m), (1, .int n)]) hx hb dX8_pass_47 hl (k := 1) rfl (nI_1 _) (by decide) rfl (fun ls hl => ?_)
          refine lv_goto (tgt := 32) hx hb dX8_pass_50 (by decide) ?_
          exact ih0 (k0 + 1) (by omega) (((L_X8_pass_0 v ms sl n na k0).1) ||| (o_X8_told_0_r (o_X8_known_v v sl na) ms ((L_X8_pass_0 v ms sl n na k0).2) 0 0)) (o_X8_told_0_2 (o_X8_known_v v sl na) ms ((L_X8_pass_0 v ms sl n na k0).2) 0 0) _ _ _ (by rw [L_X8_pass_0]) (by rw [L_X8_pass_0]) hG (lv_sub hl [0, 1, 2, 3] rfl)
      exact kl_0 n.toNatClampNeg 0 (by omega) 0 (o_X8_known_1 v sl na) _ _ _ (by rw [L_X8_pass_0]) (by rw [L_X8_pass_0]) hG (lv_sub hl [0, 1, 2, 3] rfl)
    · skip
      refine lv_bipush (v := (-2)) hx hb dX8_pass_21 (by decide) ?_
      rw [hQ]
      exact z_iret C hr hlk hG dX8_pass_23 rfl (by rw [o_X8_pass_r, if_neg c_1, if_neg c_2]) (by rw [o_X8_pass_v, if_neg c_1, if_neg c_2, o_X8_pass_2, if_neg c_1, if_neg c_2])
  · skip
    refine lv_iconst (v := (-1)) hx hb dX8_pass_12 (by decide) ?_
    rw [hQ]
    exact z_iret C hr hlk hG dX8_pass_13 rfl (by rw [o_X8_pass_r, if_pos c_1]) (by rw [o_X8_pass_v, if_pos c_1, o_X8_pass_2, if_pos c_1])
