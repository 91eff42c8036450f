section ZT
variable {E : zE} {p : Program} {l : Launch} {e : Env} {R : Room} {s : State} {m : MethodId} {args : Array Value} {below : List Frame} {meth : Method} {c : Code} {H : Heap} {locs : List Loc} {cells slots : Nat} {Q : State → Prop}
variable {cc : ByteArray} {nL : Nat} {own : String} {A : Nat → Prop} {pc : Nat} {ls : Array Slot} {rest st0 : List Value} {ws wc w1 : va_W} {v : Option Value} {a b : Nat} {H0 : Heap}
variable {y : MethodName} {bytes : ByteArray} {maxL n index fr lo : Nat} {ret : Option FieldType} {As : List Value} {lv : List (Nat × Value)} {ws' : va_W}
/-- a call of a method of the text, at any count of cells -/
theorem z_callVK (C : zC E p s m args c cc nL own A) (hcode : Cond.code y bytes maxL ret ∈ wsL_law) (hini : Cond.initialized y.cls ∈ wsL_law) (hlink : Cond.methodLink own index y ∈ wsL_law) (hinst : Cond.instanceMethod y ∈ wsL_law) (hsel : Cond.selects "java/lang/String" y y ∈ wsL_law) (hd : zD y n) (hdg : decode cc pc = .ok (.invokevirtual index, 3)) (hM : HM l E y bytes maxL ret fr lo (.ref (zEk E) :: As) [] v []) (hl : lv_has ls nL lv) (hG : zG E A s.heap ws H locs) (hAs : As.length = n) (hst : st0 = As.reverse ++ .ref (zEk E) :: rest) (hW : (rest.map fun v => v.category).sum ≤ 8) (hR : fr + 1 ≤ R.frames ∧ 8 + (maxL + 11) + lo ≤ R.locals) (hf : cells + 0 ≤ R.cells ∧ slots + 0 ≤ R.slots)
    (kk : ∀ (H1 : Heap) (locs1 : List Loc), zG E A s.heap ws H1 locs1 → W p l e R s m args below meth c H1 locs1 cells slots Q (F0 m (pc + 3) ls (v.toList ++ rest))) : W p l e R s m args below meth c H locs cells slots Q (F0 m pc ls st0) :=
  z_back C hG [] rfl rfl (va_runV (mc := 0) (ms := 0) C.1 (hM H.size) ⟨callB_of n C.1.2.2.2.2 (zGood hcode) rfl rfl rfl (C.1.2.2.2.2 _ hini) (C.1.2.2.2.2 _ hlink) hd hR, C.1.2.2.2.2 _ hinst, C.1.2.2.2.2 _ hsel⟩ ⟨zI.blind, vk_recv (i := 0) C.2.2.1.2.1 (by decide) hG.2.2, z_pre C hG [] rfl rfl⟩ rfl hAs hl.1 hst (lv_room hW) hdg hf) rfl kk
/-- a call of a static method, at any count of cells -/
theorem z_callSG (C : zC E p s m args c cc nL own A) (hcode : Cond.code y bytes maxL ret ∈ wsL_law) (hini : Cond.initialized y.cls ∈ wsL_law) (hlink : Cond.methodLink own index y ∈ wsL_law) (hstt : Cond.static y ∈ wsL_law) (hd : zD y n) (hdg : decode cc pc = .ok (.invokestatic index, 3)) (hM : HM l E y bytes maxL ret fr lo As wc v w1) (hl : lv_has ls nL lv) (hG : zG E A s.heap ws H locs) (is : List Nat) (hn : va_nd is = true) (hC : is.map (fun i => ws[i]?) = wc.map some) {ads : List Nat} (hf1 : w1.map Prod.fst = ads) (hf2 : wc.map Prod.fst = ads) (hw : zrep ws is w1 = ws') (hAs : As.length = n) (hst : st0 = As.reverse ++ rest) (hW : (rest.map fun v => v.category).sum ≤ 8) (hR : fr + 1 ≤ R.frames ∧ 8 + (maxL + 11) + lo ≤ R.locals) (hf : cells + 0 ≤ R.cells ∧ slots + 0 ≤ R.slots)
    (kk : ∀ (H1 : Heap) (locs1 : List Loc), zG E A s.heap ws' H1 locs1 → W p l e R s m args below meth c H1 locs1 cells slots Q (F0 m (pc + 3) ls (v.toList ++ rest))) : W p l e R s m args below meth c H locs cells slots Q (F0 m pc ls st0) :=
  z_back C hG is hC (hf1.trans hf2.symm) (va_runS (mc := 0) (ms := 0) C.1 (hM H.size) ⟨callB_of n C.1.2.2.2.2 (zGood hcode) rfl rfl rfl (C.1.2.2.2.2 _ hini) (C.1.2.2.2.2 _ hlink) hd hR, C.1.2.2.2.2 _ hstt⟩ ⟨zI.blind, z_pre C hG is hn hC⟩ rfl hAs hl.1 hst (lv_room hW) hdg hf) hw kk
/-- a call of a method of an object of ours, at any count of cells -/
theorem z_callVG (C : zC E p s m args c cc nL own A) (hcode : Cond.code y bytes maxL ret ∈ wsL_law) (hini : Cond.initialized y.cls ∈ wsL_law) (hlink : Cond.methodLink own index y ∈ wsL_law) (hinst : Cond.instanceMethod y ∈ wsL_law) {Cn : String} (hsel : Cond.selects Cn y y ∈ wsL_law) (hd : zD y n) {ci : Nat} {T : u_T} {N : Nat} (hc : vwCl[ci]? = some (Cn, T, N)) (hdg : decode cc pc = .ok (.invokevirtual index, 3)) (hM : HM l E y bytes maxL ret fr lo (.ref b :: As) wc v w1) (hl : lv_has ls nL lv) (hG : zG E A s.heap ws H locs) (q0 : Nat) {fs : List Value} (he : ws[q0]? = some (b, .inr (ci, fs))) (is : List Nat) (hn : va_nd is = true) (hC : is.map (fun i => ws[i]?) = wc.map some) {ads : List Nat} (hf1 : w1.map Prod.fst = ads) (hf2 : wc.map Prod.fst = ads) (hw : zrep ws is w1 = ws') (hAs : As.length = n) (hst : st0 = As.reverse ++ .ref b :: rest) (hW : (rest.map fun v => v.category).sum ≤ 8) (hR : fr + 1 ≤ R.frames ∧ 8 + (maxL + 11) + lo ≤ R.locals) (hf : cells + 0 ≤ R.cells ∧ slots + 0 ≤ R.slots)
    (kk : ∀ (H1 : Heap) (locs1 : List Loc), zG E A s.heap ws' H1 locs1 → W p l e R s m args below meth c H1 locs1 cells slots Q (F0 m (pc + 3) ls (v.toList ++ rest))) : W p l e R s m args below meth c H locs cells slots Q (F0 m pc ls st0) :=
  z_back C hG is hC (hf1.trans hf2.symm) (va_runV (mc := 0) (ms := 0) C.1 (hM H.size) ⟨callB_of n C.1.2.2.2.2 (zGood hcode) rfl rfl rfl (C.1.2.2.2.2 _ hini) (C.1.2.2.2.2 _ hlink) hd hR, C.1.2.2.2.2 _ hinst, C.1.2.2.2.2 _ hsel⟩ ⟨zI.blind, va_recv C.2.1.1 hG.1 hc he, z_pre C hG is hn hC⟩ rfl hAs hl.1 hst (lv_room hW) hdg hf) hw kk
end ZT
theorem zTb_all : ∀ k : Fin 67, ((zTb.getD k.val 0 &&& 255).toUInt32 % 65536).toInt32 = zTb.getD k.val 0 ∧ narrow .char (.int (zTb.getD k.val 0)) = .int (zTb.getD k.val 0) := by decide +kernel
theorem c_J0_coder (l : Launch) (E : zE) : HM l E yJ0_coder_7d493 cJ0_coder_7d493 1 (some .byte) 0 0 [.ref (zEk E)] [] (some (.int 0)) [] := by
  refine HM.of (own := RJ0) (plainFor_of_name (by decide)) rfl (Nat.le_of_ble_eq_true rfl) ?_
  intro zp ze zs zm za zb zt zc zA ls H locs zq C hr hlk hG hl hQ
  have hx := C.1.1
  have hb := C.1.2.1
  replace hl : lv_has ls 1 [(0, .ref (zEk E))] := hl
  refine va_gets hx hb C.2.2.1.2.2.1 hG.2.2 C.1.2.2.2.1 (C.1.2.2.2.2 _ (inr5 _ (List.mem_of_getElem? (i := 3) rfl))) (fun x h => h) dJ0_coder_7d493_0 ?_
  refine lv_if_eq (tgt := 13) hx hb dJ0_coder_7d493_3 (by decide) (fun c9 => absurd c9 (by decide)) (fun _ => ?_)
  refine lv_aload_n hx hb dJ0_coder_7d493_6 rfl (lv_at hl 0 rfl) ?_
  refine vk_getf hx hb (C.2.2.1.2.1.1 0 (by decide)).2.1 hG.2.2 C.1.2.2.2.1 (C.1.2.2.2.2 _ (inr5 _ (List.mem_of_getElem? (i := 4) rfl))) (fun x h => h) dJ0_coder_7d493_7 ?_
  refine lv_goto (tgt := 14) hx hb dJ0_coder_7d493_10 (by decide) ?_
  rw [hQ]
  exact z_iret C hr hlk hG dJ0_coder_7d493_14 rfl rfl rfl
theorem c_J0_isLatin1 (l : Launch) (E : zE) : HM l E yJ0_isLatin1_aae02 cJ0_isLatin1_aae02 1 (some .boolean) 0 0 [.ref (zEk E)] [] (some (.int 1)) [] := by
  refine HM.of (own := RJ0) (plainFor_of_name (by decide)) rfl (Nat.le_of_ble_eq_true rfl) ?_
  intro zp ze zs zm za zb zt zc zA ls H locs zq C hr hlk hG hl hQ
  have hx := C.1.1
  have hb := C.1.2.1
  replace hl : lv_has ls 1 [(0, .ref (zEk E))] := hl
  refine va_gets hx hb C.2.2.1.2.2.1 hG.2.2 C.1.2.2.2.1 (C.1.2.2.2.2 _ (inr5 _ (List.mem_of_getElem? (i := 3) rfl))) (fun x h => h) dJ0_isLatin1_aae02_0 ?_
  refine lv_if_eq (tgt := 17) hx hb dJ0_isLatin1_aae02_3 (by decide) (fun c9 => absurd c9 (by decide)) (fun _ => ?_)
  refine lv_aload_n hx hb dJ0_isLatin1_aae02_6 rfl (lv_at hl 0 rfl) ?_
  refine vk_getf hx hb (C.2.2.1.2.1.1 0 (by decide)).2.1 hG.2.2 C.1.2.2.2.1 (C.1.2.2.2.2 _ (inr5 _ (List.mem_of_getElem? (i := 4) rfl))) (fun x h => h) dJ0_isLatin1_aae02_7 ?_
  refine lv_if_ne (tgt := 17) hx hb dJ0_isLatin1_aae02_10 (by decide) (fun c9 => absurd c9 (by decide)) (fun _ => ?_)
  refine lv_iconst (v := 1) hx hb dJ0_isLatin1_aae02_13 (by decide) ?_
  refine lv_goto (tgt := 18) hx hb dJ0_isLatin1_aae02_14 (by decide) ?_
  rw [hQ]
  exact z_iret C hr hlk hG dJ0_isLatin1_aae02_18 rfl rfl rfl
theorem c_J0_length (l : Launch) (E : zE) : HM l E yJ0_length_8abf5 cJ0_length_8abf5 1 (some .int) 1 20 [.ref (zEk E)] [] (some (.int 67)) [] := by
  refine HM.of (own := RJ0) (plainFor_of_name (by decide)) rfl (Nat.le_of_ble_eq_true rfl) ?_
  intro zp ze zs zm za zb zt zc zA ls H locs zq C hr hlk hG hl hQ
  have hx := C.1.1
  have hb := C.1.2.1
  replace hl : lv_has ls 1 [(0, .ref (zEk E))] := hl
  refine lv_aload_n hx hb dJ0_length_8abf5_0 rfl (lv_at hl 0 rfl) ?_
  refine vk_getf hx hb (C.2.2.1.2.1.1 0 (by decide)).2.2.1 hG.2.2 C.1.2.2.2.1 (C.1.2.2.2.2 _ (inr4 _ (List.mem_of_getElem? (i := 22) rfl))) (fun x h => h) dJ0_length_8abf5_1 ?_
  refine va_tlen hx hb (C.2.2.1.2.1.1 0 (by decide)).2.2.2 hG.2.2 (v := 67) (by decide) dJ0_length_8abf5_4 ?_
  refine lv_aload_n hx hb dJ0_length_8abf5_5 rfl (lv_at hl 0 rfl) ?_
  refine z_callVK (n := 0) C (inr5 _ (List.mem_of_getElem? (i := 2) rfl)) (inr4 _ (List.mem_of_getElem? (i := 20) rfl)) (inr4 _ (List.mem_of_getElem? (i := 23) rfl)) (inr5 _ (List.mem_of_getElem? (i := 0) rfl)) (inr5 _ (List.mem_of_getElem? (i := 1) rfl)) ⟨by decide +kernel, by decide +kernel, by decide +kernel⟩ dJ0_length_8abf5_6 (c_J0_coder l E) hl hG rfl (rest := [.int 67]) rfl (Nat.le_of_ble_eq_true rfl) ⟨Nat.le_of_ble_eq_true rfl, Nat.le_of_ble_eq_true rfl⟩ ⟨Nat.le_of_ble_eq_true rfl, Nat.le_of_ble_eq_true rfl⟩ (fun H locs hG => ?_)
  refine lv_ishr hx hb dJ0_length_8abf5_9 ?_
  refine z_ti (y := 67) (by decide) ?_
  rw [hQ]
  exact z_iret C hr hlk hG dJ0_length_8abf5_10 rfl rfl rfl
theorem c_J3_checkIndexN (l : Launch) (E : zE) (k n : Nat) (hk : k < n) (hn : n < 2 ^ 31) : HM l E yJ3_checkIndex_8e157 cJ3_checkIndex_8e157 3 (some .int) 0 0 [.int (nI k), .int (nI n), .null] [] (some (.int (nI k))) [] := by
  refine HM.of (own := RJ3) (plainFor_of_name (by decide)) rfl (Nat.le_of_ble_eq_true rfl) ?_
  intro zp ze zs zm za zb zt zc zA ls H locs zq C hr hlk hG hl hQ
  have hx := C.1.1
  have hb := C.1.2.1
  replace hl : lv_has ls 3 [(0, .int (nI k)), (1, .int (nI n)), (2, .null)] := hl
  refine lv_iload_n hx hb dJ3_checkIndex_8e157_0 rfl (lv_at hl 0 rfl) ?_
  refine lv_if_lt (tgt := 9) hx hb dJ3_checkIndex_8e157_1 (by decide) (fun c9 => absurd c9 (Int32.not_lt.mpr ((nI_leI (a := 0) (b := k) (by decide) (by omega)).mpr (Nat.zero_le k)))) (fun _ => ?_)
  refine lv_iload_n hx hb dJ3_checkIndex_8e157_4 rfl (lv_at hl 0 rfl) ?_
  refine lv_iload_n hx hb dJ3_checkIndex_8e157_5 rfl (lv_at hl 1 rfl) ?_
  refine lv_icmp_lt (tgt := 16) hx hb dJ3_checkIndex_8e157_6 (by decide) (fun _ => ?_) (fun c9 => absurd (Int32.not_le.mp (z_ge_no hk hn rfl)) c9)
  refine lv_iload_n hx hb dJ3_checkIndex_8e157_16 rfl (lv_at hl 0 rfl) ?_
  rw [hQ]
  exact z_iret C hr hlk hG dJ3_checkIndex_8e157_17 rfl rfl rfl
theorem c_J3_checkIndexR (f : Nat) (l : Launch) (E : zE) (k n : Nat) (hk : k < n) (hn : n < 2 ^ 31) : HM l E yJ3_checkIndex_8e157 cJ3_checkIndex_8e157 3 (some .int) 0 0 [.int (nI k), .int (nI n), .ref f] [] (some (.int (nI k))) [] := by
  refine HM.of (own := RJ3) (plainFor_of_name (by decide)) rfl (Nat.le_of_ble_eq_true rfl) ?_
  intro zp ze zs zm za zb zt zc zA ls H locs zq C hr hlk hG hl hQ
  have hx := C.1.1
  have hb := C.1.2.1
  replace hl : lv_has ls 3 [(0, .int (nI k)), (1, .int (nI n)), (2, .ref f)] := hl
  refine lv_iload_n hx hb dJ3_checkIndex_8e157_0 rfl (lv_at hl 0 rfl) ?_
  refine lv_if_lt (tgt := 9) hx hb dJ3_checkIndex_8e157_1 (by decide) (fun c9 => absurd c9 (Int32.not_lt.mpr ((nI_leI (a := 0) (b := k) (by decide) (by omega)).mpr (Nat.zero_le k)))) (fun _ => ?_)
  refine lv_iload_n hx hb dJ3_checkIndex_8e157_4 rfl (lv_at hl 0 rfl) ?_
  refine lv_iload_n hx hb dJ3_checkIndex_8e157_5 rfl (lv_at hl 1 rfl) ?_
  refine lv_icmp_lt (tgt := 16) hx hb dJ3_checkIndex_8e157_6 (by decide) (fun _ => ?_) (fun c9 => absurd (Int32.not_le.mp (z_ge_no hk hn rfl)) c9)
  refine lv_iload_n hx hb dJ3_checkIndex_8e157_16 rfl (lv_at hl 0 rfl) ?_
  rw [hQ]
  exact z_iret C hr hlk hG dJ3_checkIndex_8e157_17 rfl rfl rfl
theorem c_J0_checkIndex (l : Launch) (E : zE) (k n : Nat) (hk : k < n) (hn : n < 2 ^ 31) : HM l E yJ0_checkIndex_df160 cJ0_checkIndex_df160 2 none 1 22 [.int (nI k), .int (nI n)] [] none [] := by
  refine HM.of (own := RJ0) (plainFor_of_name (by decide)) rfl (Nat.le_of_ble_eq_true rfl) ?_
  intro zp ze zs zm za zb zt zc zA ls H locs zq C hr hlk hG hl hQ
  have hx := C.1.1
  have hb := C.1.2.1
  replace hl : lv_has ls 2 [(0, .int (nI k)), (1, .int (nI n))] := hl
  refine lv_iload_n hx hb dJ0_checkIndex_df160_0 rfl (lv_at hl 0 rfl) ?_
  refine lv_iload_n hx hb dJ0_checkIndex_df160_1 rfl (lv_at hl 1 rfl) ?_
  refine va_gets hx hb C.2.2.1.2.2.2 hG.2.2 C.1.2.2.2.1 (C.1.2.2.2.2 _ (inr5 _ (List.mem_of_getElem? (i := 20) rfl))) (fun x h => h) dJ0_checkIndex_df160_2 ?_
  cases hf9 : zEf E with
  | none =>
    simp only [zFv]
    refine z_callSG (n := 3) C (inr6 _ (List.mem_of_getElem? (i := 0) rfl)) (inr5 _ (List.mem_of_getElem? (i := 23) rfl)) (inr5 _ (List.mem_of_getElem? (i := 21) rfl)) (inr5 _ (List.mem_of_getElem? (i := 22) rfl)) ⟨by decide +kernel, by decide +kernel, by decide +kernel⟩ dJ0_checkIndex_df160_5 (c_J3_checkIndexN l E k n hk hn) hl hG [] rfl rfl (ads := []) rfl rfl (ws' := []) rfl rfl (rest := []) rfl (Nat.le_of_ble_eq_true rfl) ⟨Nat.le_of_ble_eq_true rfl, Nat.le_of_ble_eq_true rfl⟩ ⟨Nat.le_of_ble_eq_true rfl, Nat.le_of_ble_eq_true rfl⟩ (fun H locs hG => ?_)
    refine lv_pop hx hb dJ0_checkIndex_df160_8 rfl ?_
    rw [hQ]
    exact z_vret C hr hlk hG dJ0_checkIndex_df160_9 rfl rfl
  | some f9 =>
    simp only [zFv]
    refine z_callSG (n := 3) C (inr6 _ (List.mem_of_getElem? (i := 0) rfl)) (inr5 _ (List.mem_of_getElem? (i := 23) rfl)) (inr5 _ (List.mem_of_getElem? (i := 21) rfl)) (inr5 _ (List.mem_of_getElem? (i := 22) rfl)) ⟨by decide +kernel, by decide +kernel, by decide +kernel⟩ dJ0_checkIndex_df160_5 (c_J3_checkIndexR f9 l E k n hk hn) hl hG [] rfl rfl (ads := []) rfl rfl (ws' := []) rfl rfl (rest := []) rfl (Nat.le_of_ble_eq_true rfl) ⟨Nat.le_of_ble_eq_true rfl, Nat.le_of_ble_eq_true rfl⟩ ⟨Nat.le_of_ble_eq_true rfl, Nat.le_of_ble_eq_true rfl⟩ (fun H locs hG => ?_)
    refine lv_pop hx hb dJ0_checkIndex_df160_8 rfl ?_
    rw [hQ]
    exact z_vret C hr hlk hG dJ0_checkIndex_df160_9 rfl rfl
theorem c_J1_charAt (l : Launch) (E : zE) (k : Nat) (hk : k < 67) : HM l E yJ1_charAt_3b067 cJ1_charAt_3b067 2 (some .char) 2 43 [.ref (zEw E), .int (nI k)] [] (some (.int (zTb.getD k 0))) [] := by
  refine HM.of (own := RJ1) (plainFor_of_name (by decide)) rfl (Nat.le_of_ble_eq_true rfl) ?_
  intro zp ze zs zm za zb zt zc zA ls H locs zq C hr hlk hG hl hQ
  have hx := C.1.1
  have hb := C.1.2.1
  replace hl : lv_has ls 2 [(0, .ref (zEw E)), (1, .int (nI k))] := hl
  refine lv_iload_n hx hb dJ1_charAt_3b067_0 rfl (lv_at hl 1 rfl) ?_
  refine lv_aload_n hx hb dJ1_charAt_3b067_1 rfl (lv_at hl 0 rfl) ?_
  refine va_tlen hx hb (C.2.2.1.2.1.1 0 (by decide)).2.2.2 hG.2.2 (v := nI 67) (by decide) dJ1_charAt_3b067_2 ?_
  refine z_callSG (n := 2) C (inr5 _ (List.mem_of_getElem? (i := 19) rfl)) (inr4 _ (List.mem_of_getElem? (i := 20) rfl)) (inr5 _ (List.mem_of_getElem? (i := 17) rfl)) (inr5 _ (List.mem_of_getElem? (i := 18) rfl)) ⟨by decide +kernel, by decide +kernel, by decide +kernel⟩ dJ1_charAt_3b067_3 (c_J0_checkIndex l E k 67 hk (by decide)) hl hG [] rfl rfl (ads := []) rfl rfl (ws' := []) rfl rfl (rest := []) rfl (Nat.le_of_ble_eq_true rfl) ⟨Nat.le_of_ble_eq_true rfl, Nat.le_of_ble_eq_true rfl⟩ ⟨Nat.le_of_ble_eq_true rfl, Nat.le_of_ble_eq_true rfl⟩ (fun H locs hG => ?_)
  refine lv_aload_n hx hb dJ1_charAt_3b067_6 rfl (lv_at hl 0 rfl) ?_
  refine lv_iload_n hx hb dJ1_charAt_3b067_7 rfl (lv_at hl 1 rfl) ?_
  refine va_tb hx hb (C.2.2.1.2.1.1 0 (by decide)).2.2.2 hG.2.2 (vp_in_nI hk (by decide)) (v := .int (zTb.getD k 0)) (by rw [nI_clamp (by omega)]; rfl) dJ1_charAt_3b067_8 ?_
  refine lv_sipush (v := 255) hx hb dJ1_charAt_3b067_9 (by decide) ?_
  refine lv_iand hx hb dJ1_charAt_3b067_12 ?_
  refine lv_i2c (v := zTb.getD k 0) hx hb dJ1_charAt_3b067_13 (zTb_all ⟨k, hk⟩).1 ?_
  rw [hQ]
  exact z_iret C hr hlk hG dJ1_charAt_3b067_14 (zTb_all ⟨k, hk⟩).2 rfl rfl
theorem c_J0_charAt (l : Launch) (E : zE) (k : Nat) (hk : k < 67) : HM l E yJ0_charAt_5068e cJ0_charAt_5068e 2 (some .char) 3 64 [.ref (zEk E), .int (nI k)] [] (some (.int (zTb.getD k 0))) [] := by
  refine HM.of (own := RJ0) (plainFor_of_name (by decide)) rfl (Nat.le_of_ble_eq_true rfl) ?_
  intro zp ze zs zm za zb zt zc zA ls H locs zq C hr hlk hG hl hQ
  have hx := C.1.1
  have hb := C.1.2.1
  replace hl : lv_has ls 2 [(0, .ref (zEk E)), (1, .int (nI k))] := hl
  refine lv_aload_n hx hb dJ0_charAt_5068e_0 rfl (lv_at hl 0 rfl) ?_
  refine z_callVK (n := 0) C (inr5 _ (List.mem_of_getElem? (i := 12) rfl)) (inr4 _ (List.mem_of_getElem? (i := 20) rfl)) (inr5 _ (List.mem_of_getElem? (i := 9) rfl)) (inr5 _ (List.mem_of_getElem? (i := 10) rfl)) (inr5 _ (List.mem_of_getElem? (i := 11) rfl)) ⟨by decide +kernel, by decide +kernel, by decide +kernel⟩ dJ0_charAt_5068e_1 (c_J0_isLatin1 l E) hl hG rfl (rest := []) rfl (Nat.le_of_ble_eq_true rfl) ⟨Nat.le_of_ble_eq_true rfl, Nat.le_of_ble_eq_true rfl⟩ ⟨Nat.le_of_ble_eq_true rfl, Nat.le_of_ble_eq_true rfl⟩ (fun H locs hG => ?_)
  refine lv_if_eq (tgt := 16) hx hb dJ0_charAt_5068e_4 (by decide) (fun c9 => absurd c9 (by decide)) (fun _ => ?_)
  refine lv_aload_n hx hb dJ0_charAt_5068e_7 rfl (lv_at hl 0 rfl) ?_
  refine vk_getf hx hb (C.2.2.1.2.1.1 0 (by decide)).2.2.1 hG.2.2 C.1.2.2.2.1 (C.1.2.2.2.2 _ (inr4 _ (List.mem_of_getElem? (i := 22) rfl))) (fun x h => h) dJ0_charAt_5068e_8 ?_
  refine lv_iload_n hx hb dJ0_charAt_5068e_11 rfl (lv_at hl 1 rfl) ?_
  refine z_callSG (n := 2) C (inr5 _ (List.mem_of_getElem? (i := 16) rfl)) (inr5 _ (List.mem_of_getElem? (i := 15) rfl)) (inr5 _ (List.mem_of_getElem? (i := 13) rfl)) (inr5 _ (List.mem_of_getElem? (i := 14) rfl)) ⟨by decide +kernel, by decide +kernel, by decide +kernel⟩ dJ0_charAt_5068e_12 (c_J1_charAt l E k hk) hl hG [] rfl rfl (ads := []) rfl rfl (ws' := []) rfl rfl (rest := []) rfl (Nat.le_of_ble_eq_true rfl) ⟨Nat.le_of_ble_eq_true rfl, Nat.le_of_ble_eq_true rfl⟩ ⟨Nat.le_of_ble_eq_true rfl, Nat.le_of_ble_eq_true rfl⟩ (fun H locs hG => ?_)
  rw [hQ]
  exact z_iret C hr hlk hG dJ0_charAt_5068e_15 (zTb_all ⟨k, hk⟩).2 rfl rfl
