/-- the cells of both objects -/
def lwW (E : zE) (q : Nat → Nat) (lt nu sun dry g tg pf kf fs ft fh wk fl fr v ms mw sl tx f1 f2 f3 bs : Nat → Int32) (sz am len need psz ksz zi si mo at_ : Int32) : va_W := [(q 0, .inr (7, [.ref (q 1), .ref (q 4), .ref (q 7), .ref (q 10), .ref (q 13), .ref (q 15), .ref (q 17), .ref (q 21)])), (q 1, .inr (2, [.ref (q 2), .ref (q 3), .int sz, .int am])), (q 2, .inl (E.2.1.1, 200, .inl lt)), (q 3, .inl (E.2.1.1, 4, .inl nu)), (q 4, .inr (6, [.ref (q 5), .ref (q 6), .int len, .int need])), (q 5, .inl (E.2.1.1, 12, .inl sun)), (q 6, .inl (E.2.1.1, 12, .inl dry)), (q 7, .inr (0, [.ref (q 8), .ref (q 9), .int (g 10), .int (g 11)])), (q 8, .inr (1, [.int (g 0), .int (g 1), .int (g 2), .int (g 3), .int (g 4), .int (g 12), .int (g 13)])), (q 9, .inr (1, [.int (g 5), .int (g 6), .int (g 7), .int (g 8), .int (g 9), .int (g 14), .int (g 15)])), (q 10, .inr (0, [.ref (q 11), .ref (q 12), .int (tg 10), .int (tg 11)])), (q 11, .inr (1, [.int (tg 0), .int (tg 1), .int (tg 2), .int (tg 3), .int (tg 4), .int (tg 12), .int (tg 13)])), (q 12, .inr (1, [.int (tg 5), .int (tg 6), .int (tg 7), .int (tg 8), .int (tg 9), .int (tg 14), .int (tg 15)])), (q 13, .inr (4, [.int 8, .ref (q 14), .int psz])), (q 14, .inl (E.2.1.1, 96, .inl pf)), (q 15, .inr (4, [.int 2, .ref (q 16), .int ksz])), (q 16, .inl (E.2.1.1, 24, .inl kf)), (q 17, .inr (5, [.ref (q 18), .ref (q 19), .ref (q 20), .int zi])), (q 18, .inl (E.2.1.1, 6, .inl fs)), (q 19, .inl (E.2.1.1, 6, .inl ft)), (q 20, .inl (E.2.1.1, 6, .inl fh)), (q 21, .inr (3, [.ref (q 4), .ref (q 22), .ref (q 25), .ref (q 26), .int si, .int mo, .int at_])), (q 22, .inr (0, [.ref (q 23), .ref (q 24), .int (wk 10), .int (wk 11)])), (q 23, .inr (1, [.int (wk 0), .int (wk 1), .int (wk 2), .int (wk 3), .int (wk 4), .int (wk 12), .int (wk 13)])), (q 24, .inr (1, [.int (wk 5), .int (wk 6), .int (wk 7), .int (wk 8), .int (wk 9), .int (wk 14), .int (wk 15)])), (q 25, .inl (E.2.1.1, 72, .inl fl)), (q 26, .inl (E.2.1.1, 5, .inl fr)), (q 27, .inr (8, [.int (v 0), .int (v 1), .ref (q 28), .int (v 2), .int (v 3), .int (v 4), .ref (q 29), .int (v 5), .ref (q 30), .int (v 6), .int (v 7), .int (v 8), .ref (q 31), .int (v 9), .int (v 10), .int (v 11), .int (v 12), .ref (q 32), .ref (q 33), .ref (q 34), .ref (q 35), .int (v 13), .int (v 14)])), (q 28, .inl (E.2.1.1, 12, .inl ms)), (q 29, .inl (E.2.1.1, 12, .inl mw)), (q 30, .inl (E.2.1.1, 156, .inl sl)), (q 31, .inl (E.2.1.2, 200, .inl tx)), (q 32, .inl (E.2.1.1, 6, .inl f1)), (q 33, .inl (E.2.1.1, 6, .inl f2)), (q 34, .inl (E.2.1.1, 6, .inl f3)), (q 35, .inl (E.2.1.1, 6, .inl bs))]
/-- from pc on the law comes to its end, where i ints are read and the months are bound by Bd -/
def lwNext (l : Launch) (E : zE) (p : Program) (e : Env) (s : State) (m : MethodId) (below : List Frame) (meth : Method) (c : Code) (b i : Nat) (q : Nat → Nat) (Bd : Int) (pc : Nat) : Prop := ∀ (lt nu sun dry g tg pf kf fs ft fh wk fl fr v ms mw sl tx f1 f2 f3 bs : Nat → Int32) (sz am len need psz ksz zi si mo at_ : Int32) (zk na nk nl : Nat), Inv Bd lt sz g sun dry len need pf psz kf ksz fs ft fh zk v ms sl tx f1 f2 f3 na nk nl → zi = nI zk → ∀ (H : Heap) (locs : List Loc), zG E (fun a => s.heap.size ≤ a) s.heap (lwW E q lt nu sun dry g tg pf kf fs ft fh wk fl fr v ms mw sl tx f1 f2 f3 bs sz am len need psz ksz zi si mo at_) H locs → ∀ ls : Array Slot, lv_has ls 4 [(0, .ref b), (1, .ref (q 0)), (2, .ref (q 27)), (3, .int (nI i))] → W p l e room_1 s m #[Value.ref b] below meth c H locs 600000 7302249 (lw_Z below #[Value.ref b] s) (F0 m pc ls [])
theorem Inv.mo {Bd : Int} {lt g sun dry pf kf fs ft fh v ms sl tx f1 f2 f3 : Nat → Int32} {sz len need psz ksz : Int32} {zk na nk nl : Nat} (hI : Inv Bd lt sz g sun dry len need pf psz kf ksz fs ft fh zk v ms sl tx f1 f2 f3 na nk nl) (hB : Bd < 1000000) : mB 1000000 (sl 11) := by
  obtain ⟨hs, he, hg, -⟩ := hI
  obtain ⟨-, -, -, -, -, -, -, -, -, -, -, h11, -⟩ := he
  have h1 : sl 11 = g 11 := h11
  rw [h1]
  exact ⟨hg.2.2.2.2.1.1, by have := hg.2.2.2.2.1.2; omega⟩
theorem Inv.ln {Bd : Int} {lt g sun dry pf kf fs ft fh v ms sl tx f1 f2 f3 : Nat → Int32} {sz len need psz ksz : Int32} {zk na nk nl : Nat} (hI : Inv Bd lt sz g sun dry len need pf psz kf ksz fs ft fh zk v ms sl tx f1 f2 f3 na nk nl) : (v 8).toInt ≤ 200 := by
  obtain ⟨hs, he, hg, hp, p1, p2, p3, hk, k1, k2, k3, t1, t2, t3, t4, z1, z2, z3⟩ := hI
  rw [t2, nI_toInt (by omega)]; omega
set_option maxRecDepth 100000 in
set_option maxHeartbeats 4000000 in
theorem lc_write {l : Launch} {E : zE} {p : Program} {e : Env} {s : State} {m : MethodId} {below : List Frame} {meth : Method} {c : Code} {b L : Nat} {xs : Nat → Int32} {q : Nat → Nat} {i : Nat} {Bd : Int} (C : zC E p s m #[Value.ref b] c cL_law 4 RL (fun a => s.heap.size ≤ a)) (hX : va_X b L xs s s.heap) (hbl : b < s.heap.size) (hL : L ≤ 320) (hi : i + 5 ≤ L) (hB : Bd < 1000000) (K : lwNext l E p e s m below meth c b i q (Bd + 24) 806) : lwNext l E p e s m below meth c b i q Bd 144 := by
  intro lt nu sun dry g tg pf kf fs ft fh wk fl fr v ms mw sl tx f1 f2 f3 bs sz am len need psz ksz zi si mo at_ zk na nk nl hI hz9 H locs hG ls hl
  subst hz9
  have hx := C.1.1
  have hb := C.1.2.1
  have hbA : ¬ s.heap.size ≤ b := Nat.not_le.mpr hbl
  have hv1 : vp_in (nI i + 1) L := by rw [show (nI i + 1 : Int32) = nI (i + 1) from nI_add i 1]; exact vp_in_nI (by omega) (by omega)
  obtain ⟨x1, e1⟩ : ∃ y : Int32, y = xs (nI i + 1).toNatClampNeg := ⟨_, rfl⟩
  have hI0 := hI
  obtain ⟨hs, he, hg, hp, p1, p2, p3, hk, k1, k2, k3, t1, t2, t3, t4, z1, z2, z3⟩ := hI0
  have hq := q_write nu am x1 hI hB
  refine lv_aload_n hx hb dL_law_144 rfl (lv_at hl 1 rfl) ?_
  refine lv_aload_n hx hb dL_law_145 rfl (lv_at hl 0 rfl) ?_
  refine lv_iload_n hx hb dL_law_146 rfl (lv_at hl 3 rfl) ?_
  refine lv_iconst (v := 1) hx hb dL_law_147 (by decide) ?_
  refine lv_iadd hx hb dL_law_148 ?_
  refine va_sld hx hb hX hbl hbA hG.2.2 hv1 dL_law_149 ?_
  refine z_ti e1.symm ?_
  refine z_callVG (n := 1) C (inr10 _ (List.mem_of_getElem? (i := 16) rfl)) (inr1 _ (List.mem_of_getElem? (i := 2) rfl)) (inr10 _ (List.mem_of_getElem? (i := 13) rfl)) (inr10 _ (List.mem_of_getElem? (i := 14) rfl)) (inr10 _ (List.mem_of_getElem? (i := 15) rfl)) (Cn := RX7) ⟨by decide +kernel, by decide +kernel, by decide +kernel⟩ rfl dL_law_150 (c_X7_write l E lt nu sz am x1 (q 0) (q 1) (q 4) (q 7) (q 10) (q 13) (q 15) (q 17) (q 21) (q 2) (q 3)) hl hG 0 rfl [0, 1, 2, 3] (by decide) rfl (ads := [q 0, q 1, q 2, q 3]) rfl rfl (ws' := lwW E q (o_X7_write_2 lt nu sz am x1) nu sun dry g tg pf kf fs ft fh wk fl fr v ms mw sl tx f1 f2 f3 bs (o_X7_write_1_2 lt nu sz am x1) am len need psz ksz (nI zk) si mo at_) rfl rfl (rest := []) rfl (Nat.le_of_ble_eq_true rfl) ⟨Nat.le_of_ble_eq_true rfl, Nat.le_of_ble_eq_true rfl⟩ ⟨Nat.le_of_ble_eq_true rfl, Nat.le_of_ble_eq_true rfl⟩ (fun H locs hG => ?_)
  refine lv_aload_n hx hb dL_law_153 rfl (lv_at hl 2 rfl) ?_
  refine lv_aload_n hx hb dL_law_154 rfl (lv_at hl 0 rfl) ?_
  refine lv_iload_n hx hb dL_law_155 rfl (lv_at hl 3 rfl) ?_
  refine lv_iconst (v := 1) hx hb dL_law_156 (by decide) ?_
  refine lv_iadd hx hb dL_law_157 ?_
  refine va_sld hx hb hX hbl hbA hG.2.2 hv1 dL_law_158 ?_
  refine z_ti e1.symm ?_
  refine z_callVG (n := 1) C (inr10 _ (List.mem_of_getElem? (i := 21) rfl)) (inr1 _ (List.mem_of_getElem? (i := 5) rfl)) (inr10 _ (List.mem_of_getElem? (i := 18) rfl)) (inr10 _ (List.mem_of_getElem? (i := 19) rfl)) (inr10 _ (List.mem_of_getElem? (i := 20) rfl)) (Cn := RX8) ⟨by decide +kernel, by decide +kernel, by decide +kernel⟩ rfl dL_law_159 (c_X8_write l E v tx x1 nl (q 27) (q 28) (q 29) (q 30) (q 31) (q 32) (q 33) (q 34) (q 35) t2 t3) hl hG 27 rfl [27, 31] (by decide) rfl (ads := [q 27, q 31]) rfl rfl (ws' := lwW E q (o_X7_write_2 lt nu sz am x1) nu sun dry g tg pf kf fs ft fh wk fl fr (o_X8_write_v v tx x1 nl) ms mw sl (o_X8_write_1 v tx x1 nl) f1 f2 f3 bs (o_X7_write_1_2 lt nu sz am x1) am len need psz ksz (nI zk) si mo at_) rfl rfl (rest := [.int (o_X7_write_r lt nu sz am x1)]) rfl (Nat.le_of_ble_eq_true rfl) ⟨Nat.le_of_ble_eq_true rfl, Nat.le_of_ble_eq_true rfl⟩ ⟨Nat.le_of_ble_eq_true rfl, Nat.le_of_ble_eq_true rfl⟩ (fun H locs hG => ?_)
  refine lv_icmp_eq (tgt := 806) hx hb dL_law_162 (by decide) (fun c9 => ?_) (fun c9 => absurd hq.1 c9)
  obtain ⟨-, nb, hI2⟩ := hq
  exact K (o_X7_write_2 lt nu sz am x1) nu sun dry g tg pf kf fs ft fh wk fl fr (o_X8_write_v v tx x1 nl) ms mw sl (o_X8_write_1 v tx x1 nl) f1 f2 f3 bs (o_X7_write_1_2 lt nu sz am x1) am len need psz ksz (nI zk) si mo at_ _ _ _ _ hI2 rfl H locs hG ls hl
set_option maxRecDepth 100000 in
set_option maxHeartbeats 4000000 in
theorem lc_wipe {l : Launch} {E : zE} {p : Program} {e : Env} {s : State} {m : MethodId} {below : List Frame} {meth : Method} {c : Code} {b L : Nat} {xs : Nat → Int32} {q : Nat → Nat} {i : Nat} {Bd : Int} (C : zC E p s m #[Value.ref b] c cL_law 4 RL (fun a => s.heap.size ≤ a)) (hX : va_X b L xs s s.heap) (hbl : b < s.heap.size) (hL : L ≤ 320) (hi : i + 5 ≤ L) (hB : Bd < 1000000) (K : lwNext l E p e s m below meth c b i q (Bd + 24) 806) : lwNext l E p e s m below meth c b i q Bd 167 := by
  intro lt nu sun dry g tg pf kf fs ft fh wk fl fr v ms mw sl tx f1 f2 f3 bs sz am len need psz ksz zi si mo at_ zk na nk nl hI hz9 H locs hG ls hl
  subst hz9
  have hx := C.1.1
  have hb := C.1.2.1
  have hbA : ¬ s.heap.size ≤ b := Nat.not_le.mpr hbl
  have hI0 := hI
  obtain ⟨hs, he, hg, hp, p1, p2, p3, hk, k1, k2, k3, t1, t2, t3, t4, z1, z2, z3⟩ := hI0
  have hq := q_wipe nu am hI hB
  refine lv_aload_n hx hb dL_law_167 rfl (lv_at hl 1 rfl) ?_
  refine z_callVG (n := 0) C (inr11 _ (List.mem_of_getElem? (i := 7) rfl)) (inr1 _ (List.mem_of_getElem? (i := 2) rfl)) (inr11 _ (List.mem_of_getElem? (i := 4) rfl)) (inr11 _ (List.mem_of_getElem? (i := 5) rfl)) (inr11 _ (List.mem_of_getElem? (i := 6) rfl)) (Cn := RX7) ⟨by decide +kernel, by decide +kernel, by decide +kernel⟩ rfl dL_law_168 (c_X7_wipe l E lt nu sz am (q 0) (q 1) (q 4) (q 7) (q 10) (q 13) (q 15) (q 17) (q 21) (q 2) (q 3)) hl hG 0 rfl [0, 1, 2, 3] (by decide) rfl (ads := [q 0, q 1, q 2, q 3]) rfl rfl (ws' := lwW E q lt nu sun dry g tg pf kf fs ft fh wk fl fr v ms mw sl tx f1 f2 f3 bs 0 am len need psz ksz (nI zk) si mo at_) rfl rfl (rest := []) rfl (Nat.le_of_ble_eq_true rfl) ⟨Nat.le_of_ble_eq_true rfl, Nat.le_of_ble_eq_true rfl⟩ ⟨Nat.le_of_ble_eq_true rfl, Nat.le_of_ble_eq_true rfl⟩ (fun H locs hG => ?_)
  refine lv_aload_n hx hb dL_law_171 rfl (lv_at hl 2 rfl) ?_
  refine z_callVG (n := 0) C (inr11 _ (List.mem_of_getElem? (i := 11) rfl)) (inr1 _ (List.mem_of_getElem? (i := 5) rfl)) (inr11 _ (List.mem_of_getElem? (i := 8) rfl)) (inr11 _ (List.mem_of_getElem? (i := 9) rfl)) (inr11 _ (List.mem_of_getElem? (i := 10) rfl)) (Cn := RX8) ⟨by decide +kernel, by decide +kernel, by decide +kernel⟩ rfl dL_law_172 (c_X8_wipe l E v (q 27) (q 28) (q 29) (q 30) (q 31) (q 32) (q 33) (q 34) (q 35)) hl hG 27 rfl [27] (by decide) rfl (ads := [q 27]) rfl rfl (ws' := lwW E q lt nu sun dry g tg pf kf fs ft fh wk fl fr (o_X8_wipe_v v) ms mw sl tx f1 f2 f3 bs 0 am len need psz ksz (nI zk) si mo at_) rfl rfl (rest := [.int (o_X7_wipe_r lt nu sz am)]) rfl (Nat.le_of_ble_eq_true rfl) ⟨Nat.le_of_ble_eq_true rfl, Nat.le_of_ble_eq_true rfl⟩ ⟨Nat.le_of_ble_eq_true rfl, Nat.le_of_ble_eq_true rfl⟩ (fun H locs hG => ?_)
  refine lv_icmp_eq (tgt := 806) hx hb dL_law_175 (by decide) (fun c9 => ?_) (fun c9 => absurd hq.1 c9)
  obtain ⟨-, hI2⟩ := hq
  exact K lt nu sun dry g tg pf kf fs ft fh wk fl fr (o_X8_wipe_v v) ms mw sl tx f1 f2 f3 bs 0 am len need psz ksz (nI zk) si mo at_ _ _ _ _ hI2 rfl H locs hG ls hl
set_option maxRecDepth 100000 in
set_option maxHeartbeats 4000000 in
theorem lc_fault {l : Launch} {E : zE} {p : Program} {e : Env} {s : State} {m : MethodId} {below : List Frame} {meth : Method} {c : Code} {b L : Nat} {xs : Nat → Int32} {q : Nat → Nat} {i : Nat} {Bd : Int} (C : zC E p s m #[Value.ref b] c cL_law 4 RL (fun a => s.heap.size ≤ a)) (hX : va_X b L xs s s.heap) (hbl : b < s.heap.size) (hL : L ≤ 320) (hi : i + 5 ≤ L) (hB : Bd < 1000000) (K : lwNext l E p e s m below meth c b i q (Bd + 24) 806) : lwNext l E p e s m below meth c b i q Bd 180 := by
  intro lt nu sun dry g tg pf kf fs ft fh wk fl fr v ms mw sl tx f1 f2 f3 bs sz am len need psz ksz zi si mo at_ zk na nk nl hI hz9 H locs hG ls hl
  subst hz9
  have hx := C.1.1
  have hb := C.1.2.1
  have hbA : ¬ s.heap.size ≤ b := Nat.not_le.mpr hbl
  have hI0 := hI
  obtain ⟨hs, he, hg, hp, p1, p2, p3, hk, k1, k2, k3, t1, t2, t3, t4, z1, z2, z3⟩ := hI0
  have hq := q_fault mw nu am hI hB
  refine lv_aload_n hx hb dL_law_180 rfl (lv_at hl 1 rfl) ?_
  refine z_callVG (n := 0) C (inr11 _ (List.mem_of_getElem? (i := 15) rfl)) (inr1 _ (List.mem_of_getElem? (i := 2) rfl)) (inr11 _ (List.mem_of_getElem? (i := 12) rfl)) (inr11 _ (List.mem_of_getElem? (i := 13) rfl)) (inr11 _ (List.mem_of_getElem? (i := 14) rfl)) (Cn := RX7) ⟨by decide +kernel, by decide +kernel, by decide +kernel⟩ rfl dL_law_181 (c_X7_fault l E lt nu sz am (q 0) (q 1) (q 4) (q 7) (q 10) (q 13) (q 15) (q 17) (q 21) (q 2) (q 3)) hl hG 0 rfl [0, 1, 2, 3] (by decide) rfl (ads := [q 0, q 1, q 2, q 3]) rfl rfl (ws' := lwW E q lt (o_X7_fault_3 lt nu sz am) sun dry g tg pf kf fs ft fh wk fl fr v ms mw sl tx f1 f2 f3 bs sz (o_X7_fault_1_3 lt nu sz am) len need psz ksz (nI zk) si mo at_) rfl rfl (rest := []) rfl (Nat.le_of_ble_eq_true rfl) ⟨Nat.le_of_ble_eq_true rfl, Nat.le_of_ble_eq_true rfl⟩ ⟨Nat.le_of_ble_eq_true rfl, Nat.le_of_ble_eq_true rfl⟩ (fun H locs hG => ?_)
  refine lv_aload_n hx hb dL_law_184 rfl (lv_at hl 2 rfl) ?_
  refine z_callVG (n := 0) C (inr12 _ (List.mem_of_getElem? (i := 0) rfl)) (inr1 _ (List.mem_of_getElem? (i := 5) rfl)) (inr11 _ (List.mem_of_getElem? (i := 21) rfl)) (inr11 _ (List.mem_of_getElem? (i := 22) rfl)) (inr11 _ (List.mem_of_getElem? (i := 23) rfl)) (Cn := RX8) ⟨by decide +kernel, by decide +kernel, by decide +kernel⟩ rfl dL_law_185 (c_X8_fault l E v mw sl tx (q 27) (q 28) (q 29) (q 30) (q 31) (q 32) (q 33) (q 34) (q 35) (Inv.ln hI)) hl hG 27 rfl [27, 29, 30, 31] (by decide) rfl (ads := [q 27, q 29, q 30, q 31]) rfl rfl (ws' := lwW E q lt (o_X7_fault_3 lt nu sz am) sun dry g tg pf kf fs ft fh wk fl fr (o_X8_fault_v v mw sl tx) ms (o_X8_fault_1 v mw sl tx) (o_X8_fault_2 v mw sl tx) tx f1 f2 f3 bs sz (o_X7_fault_1_3 lt nu sz am) len need psz ksz (nI zk) si mo at_) rfl rfl (rest := [.int (o_X7_fault_r lt nu sz am)]) rfl (Nat.le_of_ble_eq_true rfl) ⟨Nat.le_of_ble_eq_true rfl, Nat.le_of_ble_eq_true rfl⟩ ⟨Nat.le_of_ble_eq_true rfl, Nat.le_of_ble_eq_true rfl⟩ (fun H locs hG => ?_)
  refine lv_icmp_eq (tgt := 806) hx hb dL_law_188 (by decide) (fun c9 => ?_) (fun c9 => absurd hq.1 c9)
  obtain ⟨-, hI2⟩ := hq
  exact K lt (o_X7_fault_3 lt nu sz am) sun dry g tg pf kf fs ft fh wk fl fr (o_X8_fault_v v mw sl tx) ms (o_X8_fault_1 v mw sl tx) (o_X8_fault_2 v mw sl tx) tx f1 f2 f3 bs sz (o_X7_fault_1_3 lt nu sz am) len need psz ksz (nI zk) si mo at_ _ _ _ _ hI2 rfl H locs hG ls hl
set_option maxRecDepth 100000 in
set_option maxHeartbeats 4000000 in
theorem lc_lay {l : Launch} {E : zE} {p : Program} {e : Env} {s : State} {m : MethodId} {below : List Frame} {meth : Method} {c : Code} {b L : Nat} {xs : Nat → Int32} {q : Nat → Nat} {i : Nat} {Bd : Int} (C : zC E p s m #[Value.ref b] c cL_law 4 RL (fun a => s.heap.size ≤ a)) (hX : va_X b L xs s s.heap) (hbl : b < s.heap.size) (hL : L ≤ 320) (hi : i + 5 ≤ L) (hB : Bd < 1000000) (K : lwNext l E p e s m below meth c b i q (Bd + 24) 806) : lwNext l E p e s m below meth c b i q Bd 193 := by
  intro lt nu sun dry g tg pf kf fs ft fh wk fl fr v ms mw sl tx f1 f2 f3 bs sz am len need psz ksz zi si mo at_ zk na nk nl hI hz9 H locs hG ls hl
  subst hz9
  have hx := C.1.1
  have hb := C.1.2.1
  have hbA : ¬ s.heap.size ≤ b := Nat.not_le.mpr hbl
  have hI0 := hI
  obtain ⟨hs, he, hg, hp, p1, p2, p3, hk, k1, k2, k3, t1, t2, t3, t4, z1, z2, z3⟩ := hI0
  have hq := q_lay mw nu am hI hB
  refine lv_aload_n hx hb dL_law_193 rfl (lv_at hl 1 rfl) ?_
  refine z_callVG (n := 0) C (inr13 _ (List.mem_of_getElem? (i := 12) rfl)) (inr1 _ (List.mem_of_getElem? (i := 2) rfl)) (inr13 _ (List.mem_of_getElem? (i := 9) rfl)) (inr13 _ (List.mem_of_getElem? (i := 10) rfl)) (inr13 _ (List.mem_of_getElem? (i := 11) rfl)) (Cn := RX7) ⟨by decide +kernel, by decide +kernel, by decide +kernel⟩ rfl dL_law_194 (c_X7_lay l E lt nu sz am sun dry len need g pf 8 psz kf 2 ksz fs ft fh zk (q 0) (q 1) (q 4) (q 7) (q 10) (q 13) (q 15) (q 17) (q 21) (q 2) (q 3) (q 5) (q 6) (q 8) (q 9) (q 14) (q 16) (q 18) (q 19) (q 20)) hl hG 0 rfl [0, 1, 2, 3, 4, 5, 6, 7, 8, 9, 13, 14, 15, 16, 17, 18, 19, 20] (by decide) rfl (ads := [q 0, q 1, q 2, q 3, q 4, q 5, q 6, q 7, q 8, q 9, q 13, q 14, q 15, q 16, q 17, q 18, q 19, q 20]) rfl rfl (ws' := lwW E q lt (o_X7_lay_3 lt nu sz am sun dry len need g pf 8 psz kf 2 ksz fs ft fh zk) (o_X7_lay_5 lt nu sz am sun dry len need g pf 8 psz kf 2 ksz fs ft fh zk) (o_X7_lay_6 lt nu sz am sun dry len need g pf 8 psz kf 2 ksz fs ft fh zk) (o_X7_lay_g lt nu sz am sun dry len need g pf 8 psz kf 2 ksz fs ft fh zk) tg pf kf fs ft fh wk fl fr v ms mw sl tx f1 f2 f3 bs sz (o_X7_lay_1_3 lt nu sz am sun dry len need g pf 8 psz kf 2 ksz fs ft fh zk) (o_X7_lay_4_2 lt nu sz am sun dry len need g pf 8 psz kf 2 ksz fs ft fh zk) (o_X7_lay_4_3 lt nu sz am sun dry len need g pf 8 psz kf 2 ksz fs ft fh zk) (o_X7_lay_10_2 lt nu sz am sun dry len need g pf 8 psz kf 2 ksz fs ft fh zk) (o_X7_lay_12_2 lt nu sz am sun dry len need g pf 8 psz kf 2 ksz fs ft fh zk) (o_X7_lay_14_3 lt nu sz am sun dry len need g pf 8 psz kf 2 ksz fs ft fh zk) si mo at_) rfl rfl (rest := []) rfl (Nat.le_of_ble_eq_true rfl) ⟨Nat.le_of_ble_eq_true rfl, Nat.le_of_ble_eq_true rfl⟩ ⟨Nat.le_of_ble_eq_true rfl, Nat.le_of_ble_eq_true rfl⟩ (fun H locs hG => ?_)
  refine lv_aload_n hx hb dL_law_197 rfl (lv_at hl 2 rfl) ?_
  refine z_callVG (n := 0) C (inr13 _ (List.mem_of_getElem? (i := 18) rfl)) (inr1 _ (List.mem_of_getElem? (i := 5) rfl)) (inr13 _ (List.mem_of_getElem? (i := 15) rfl)) (inr13 _ (List.mem_of_getElem? (i := 16) rfl)) (inr13 _ (List.mem_of_getElem? (i := 17) rfl)) (Cn := RX8) ⟨by decide +kernel, by decide +kernel, by decide +kernel⟩ rfl dL_law_198 (c_X8_lay l E v ms mw sl tx (q 27) (q 28) (q 29) (q 30) (q 31) (q 32) (q 33) (q 34) (q 35) (Inv.ln hI)) hl hG 27 rfl [27, 28, 29, 30, 31] (by decide) rfl (ads := [q 27, q 28, q 29, q 30, q 31]) rfl rfl (ws' := lwW E q lt (o_X7_lay_3 lt nu sz am sun dry len need g pf 8 psz kf 2 ksz fs ft fh zk) (o_X7_lay_5 lt nu sz am sun dry len need g pf 8 psz kf 2 ksz fs ft fh zk) (o_X7_lay_6 lt nu sz am sun dry len need g pf 8 psz kf 2 ksz fs ft fh zk) (o_X7_lay_g lt nu sz am sun dry len need g pf 8 psz kf 2 ksz fs ft fh zk) tg pf kf fs ft fh wk fl fr (o_X8_lay_v v ms mw sl tx) (o_X8_lay_1 v ms mw sl tx) (o_X8_lay_2 v ms mw sl tx) (o_X8_lay_3 v ms mw sl tx) tx f1 f2 f3 bs sz (o_X7_lay_1_3 lt nu sz am sun dry len need g pf 8 psz kf 2 ksz fs ft fh zk) (o_X7_lay_4_2 lt nu sz am sun dry len need g pf 8 psz kf 2 ksz fs ft fh zk) (o_X7_lay_4_3 lt nu sz am sun dry len need g pf 8 psz kf 2 ksz fs ft fh zk) (o_X7_lay_10_2 lt nu sz am sun dry len need g pf 8 psz kf 2 ksz fs ft fh zk) (o_X7_lay_12_2 lt nu sz am sun dry len need g pf 8 psz kf 2 ksz fs ft fh zk) (o_X7_lay_14_3 lt nu sz am sun dry len need g pf 8 psz kf 2 ksz fs ft fh zk) si mo at_) rfl rfl (rest := [.int (o_X7_lay_r lt nu sz am sun dry len need g pf 8 psz kf 2 ksz fs ft fh zk)]) rfl (Nat.le_of_ble_eq_true rfl) ⟨Nat.le_of_ble_eq_true rfl, Nat.le_of_ble_eq_true rfl⟩ ⟨Nat.le_of_ble_eq_true rfl, Nat.le_of_ble_eq_true rfl⟩ (fun H locs hG => ?_)
  refine lv_icmp_eq (tgt := 806) hx hb dL_law_201 (by decide) (fun c9 => ?_) (fun c9 => absurd hq.1 c9)
  obtain ⟨-, na2, nk2, zk2, hz9, hI2⟩ := hq
  exact K lt (o_X7_lay_3 lt nu sz am sun dry len need g pf 8 psz kf 2 ksz fs ft fh zk) (o_X7_lay_5 lt nu sz am sun dry len need g pf 8 psz kf 2 ksz fs ft fh zk) (o_X7_lay_6 lt nu sz am sun dry len need g pf 8 psz kf 2 ksz fs ft fh zk) (o_X7_lay_g lt nu sz am sun dry len need g pf 8 psz kf 2 ksz fs ft fh zk) tg pf kf fs ft fh wk fl fr (o_X8_lay_v v ms mw sl tx) (o_X8_lay_1 v ms mw sl tx) (o_X8_lay_2 v ms mw sl tx) (o_X8_lay_3 v ms mw sl tx) tx f1 f2 f3 bs sz (o_X7_lay_1_3 lt nu sz am sun dry len need g pf 8 psz kf 2 ksz fs ft fh zk) (o_X7_lay_4_2 lt nu sz am sun dry len need g pf 8 psz kf 2 ksz fs ft fh zk) (o_X7_lay_4_3 lt nu sz am sun dry len need g pf 8 psz kf 2 ksz fs ft fh zk) (o_X7_lay_10_2 lt nu sz am sun dry len need g pf 8 psz kf 2 ksz fs ft fh zk) (o_X7_lay_12_2 lt nu sz am sun dry len need g pf 8 psz kf 2 ksz fs ft fh zk) (o_X7_lay_14_3 lt nu sz am sun dry len need g pf 8 psz kf 2 ksz fs ft fh zk) si mo at_ _ _ _ _ hI2 hz9 H locs hG ls hl
set_option maxRecDepth 100000 in
set_option maxHeartbeats 4000000 in
theorem lc_hedge {l : Launch} {E : zE} {p : Program} {e : Env} {s : State} {m : MethodId} {below : List Frame} {meth : Method} {c : Code} {b L : Nat} {xs : Nat → Int32} {q : Nat → Nat} {i : Nat} {Bd : Int} (C : zC E p s m #[Value.ref b] c cL_law 4 RL (fun a => s.heap.size ≤ a)) (hX : va_X b L xs s s.heap) (hbl : b < s.heap.size) (hL : L ≤ 320) (hi : i + 5 ≤ L) (hB : Bd < 1000000) (K : lwNext l E p e s m below meth c b i q (Bd + 24) 806) : lwNext l E p e s m below meth c b i q Bd 206 := by
  intro lt nu sun dry g tg pf kf fs ft fh wk fl fr v ms mw sl tx f1 f2 f3 bs sz am len need psz ksz zi si mo at_ zk na nk nl hI hz9 H locs hG ls hl
  subst hz9
  have hx := C.1.1
  have hb := C.1.2.1
  have hbA : ¬ s.heap.size ≤ b := Nat.not_le.mpr hbl
  have hv1 : vp_in (nI i + 1) L := by rw [show (nI i + 1 : Int32) = nI (i + 1) from nI_add i 1]; exact vp_in_nI (by omega) (by omega)
  obtain ⟨x1, e1⟩ : ∃ y : Int32, y = xs (nI i + 1).toNatClampNeg := ⟨_, rfl⟩
  have hv2 : vp_in (nI i + 2) L := by rw [show (nI i + 2 : Int32) = nI (i + 2) from nI_add i 2]; exact vp_in_nI (by omega) (by omega)
  obtain ⟨x2, e2⟩ : ∃ y : Int32, y = xs (nI i + 2).toNatClampNeg := ⟨_, rfl⟩
  have hI0 := hI
  obtain ⟨hs, he, hg, hp, p1, p2, p3, hk, k1, k2, k3, t1, t2, t3, t4, z1, z2, z3⟩ := hI0
  have hq := q_hedge x1 x2 hI hB
  refine lv_aload_n hx hb dL_law_206 rfl (lv_at hl 1 rfl) ?_
  refine lv_aload_n hx hb dL_law_207 rfl (lv_at hl 0 rfl) ?_
  refine lv_iload_n hx hb dL_law_208 rfl (lv_at hl 3 rfl) ?_
  refine lv_iconst (v := 1) hx hb dL_law_209 (by decide) ?_
  refine lv_iadd hx hb dL_law_210 ?_
  refine va_sld hx hb hX hbl hbA hG.2.2 hv1 dL_law_211 ?_
  refine z_ti e1.symm ?_
  refine lv_aload_n hx hb dL_law_212 rfl (lv_at hl 0 rfl) ?_
  refine lv_iload_n hx hb dL_law_213 rfl (lv_at hl 3 rfl) ?_
  refine lv_iconst (v := 2) hx hb dL_law_214 (by decide) ?_
  refine lv_iadd hx hb dL_law_215 ?_
  refine va_sld hx hb hX hbl hbA hG.2.2 hv2 dL_law_216 ?_
  refine z_ti e2.symm ?_
  refine z_callVG (n := 2) C (inr14 _ (List.mem_of_getElem? (i := 5) rfl)) (inr1 _ (List.mem_of_getElem? (i := 2) rfl)) (inr14 _ (List.mem_of_getElem? (i := 2) rfl)) (inr14 _ (List.mem_of_getElem? (i := 3) rfl)) (inr14 _ (List.mem_of_getElem? (i := 4) rfl)) (Cn := RX7) ⟨by decide +kernel, by decide +kernel, by decide +kernel⟩ rfl dL_law_217 (c_X7_hedge l E g sun dry len need x1 x2 (q 0) (q 1) (q 4) (q 7) (q 10) (q 13) (q 15) (q 17) (q 21) (q 8) (q 9) (q 5) (q 6)) hl hG 0 rfl [0, 7, 8, 9, 4, 5, 6] (by decide) rfl (ads := [q 0, q 7, q 8, q 9, q 4, q 5, q 6]) rfl rfl (ws' := lwW E q lt nu sun dry g tg pf kf fs ft fh wk fl fr v ms mw sl tx f1 f2 f3 bs sz am len need psz ksz (nI zk) si mo at_) rfl rfl (rest := []) rfl (Nat.le_of_ble_eq_true rfl) ⟨Nat.le_of_ble_eq_true rfl, Nat.le_of_ble_eq_true rfl⟩ ⟨Nat.le_of_ble_eq_true rfl, Nat.le_of_ble_eq_true rfl⟩ (fun H locs hG => ?_)
  refine lv_aload_n hx hb dL_law_220 rfl (lv_at hl 2 rfl) ?_
  refine lv_aload_n hx hb dL_law_221 rfl (lv_at hl 0 rfl) ?_
  refine lv_iload_n hx hb dL_law_222 rfl (lv_at hl 3 rfl) ?_
  refine lv_iconst (v := 1) hx hb dL_law_223 (by decide) ?_
  refine lv_iadd hx hb dL_law_224 ?_
  refine va_sld hx hb hX hbl hbA hG.2.2 hv1 dL_law_225 ?_
  refine z_ti e1.symm ?_
  refine lv_aload_n hx hb dL_law_226 rfl (lv_at hl 0 rfl) ?_
  refine lv_iload_n hx hb dL_law_227 rfl (lv_at hl 3 rfl) ?_
  refine lv_iconst (v := 2) hx hb dL_law_228 (by decide) ?_
  refine lv_iadd hx hb dL_law_229 ?_
  refine va_sld hx hb hX hbl hbA hG.2.2 hv2 dL_law_230 ?_
  refine z_ti e2.symm ?_
  refine z_callVG (n := 2) C (inr15 _ (List.mem_of_getElem? (i := 14) rfl)) (inr1 _ (List.mem_of_getElem? (i := 5) rfl)) (inr15 _ (List.mem_of_getElem? (i := 11) rfl)) (inr15 _ (List.mem_of_getElem? (i := 12) rfl)) (inr15 _ (List.mem_of_getElem? (i := 13) rfl)) (Cn := RX8) ⟨by decide +kernel, by decide +kernel, by decide +kernel⟩ rfl dL_law_231 (c_X8_hedge l E v ms sl x1 x2 (q 27) (q 28) (q 29) (q 30) (q 31) (q 32) (q 33) (q 34) (q 35) (Inv.mo hI hB).1) hl hG 27 rfl [27, 28, 30] (by decide) rfl (ads := [q 27, q 28, q 30]) rfl rfl (ws' := lwW E q lt nu sun dry g tg pf kf fs ft fh wk fl fr v ms mw sl tx f1 f2 f3 bs sz am len need psz ksz (nI zk) si mo at_) rfl rfl (rest := [.int (o_X7_hedge_r g sun dry len need x1 x2)]) rfl (Nat.le_of_ble_eq_true rfl) ⟨Nat.le_of_ble_eq_true rfl, Nat.le_of_ble_eq_true rfl⟩ ⟨Nat.le_of_ble_eq_true rfl, Nat.le_of_ble_eq_true rfl⟩ (fun H locs hG => ?_)
  refine lv_icmp_eq (tgt := 806) hx hb dL_law_234 (by decide) (fun c9 => ?_) (fun c9 => absurd hq c9)
  exact K lt nu sun dry g tg pf kf fs ft fh wk fl fr v ms mw sl tx f1 f2 f3 bs sz am len need psz ksz (nI zk) si mo at_ _ _ _ _ (hI.le (by omega)) rfl H locs hG ls hl
set_option maxRecDepth 100000 in
set_option maxHeartbeats 4000000 in
theorem lc_month {l : Launch} {E : zE} {p : Program} {e : Env} {s : State} {m : MethodId} {below : List Frame} {meth : Method} {c : Code} {b L : Nat} {xs : Nat → Int32} {q : Nat → Nat} {i : Nat} {Bd : Int} (C : zC E p s m #[Value.ref b] c cL_law 4 RL (fun a => s.heap.size ≤ a)) (hX : va_X b L xs s s.heap) (hbl : b < s.heap.size) (hL : L ≤ 320) (hi : i + 5 ≤ L) (hB : Bd < 1000000) (K : lwNext l E p e s m below meth c b i q (Bd + 24) 806) : lwNext l E p e s m below meth c b i q Bd 239 := by
  intro lt nu sun dry g tg pf kf fs ft fh wk fl fr v ms mw sl tx f1 f2 f3 bs sz am len need psz ksz zi si mo at_ zk na nk nl hI hz9 H locs hG ls hl
  subst hz9
  have hx := C.1.1
  have hb := C.1.2.1
  have hbA : ¬ s.heap.size ≤ b := Nat.not_le.mpr hbl
  have hv1 : vp_in (nI i + 1) L := by rw [show (nI i + 1 : Int32) = nI (i + 1) from nI_add i 1]; exact vp_in_nI (by omega) (by omega)
  obtain ⟨x1, e1⟩ : ∃ y : Int32, y = xs (nI i + 1).toNatClampNeg := ⟨_, rfl⟩
  have hv2 : vp_in (nI i + 2) L := by rw [show (nI i + 2 : Int32) = nI (i + 2) from nI_add i 2]; exact vp_in_nI (by omega) (by omega)
  obtain ⟨x2, e2⟩ : ∃ y : Int32, y = xs (nI i + 2).toNatClampNeg := ⟨_, rfl⟩
  have hI0 := hI
  obtain ⟨hs, he, hg, hp, p1, p2, p3, hk, k1, k2, k3, t1, t2, t3, t4, z1, z2, z3⟩ := hI0
  have hq := q_month x1 x2 hI hB
  refine lv_aload_n hx hb dL_law_239 rfl (lv_at hl 1 rfl) ?_
  refine lv_aload_n hx hb dL_law_240 rfl (lv_at hl 0 rfl) ?_
  refine lv_iload_n hx hb dL_law_241 rfl (lv_at hl 3 rfl) ?_
  refine lv_iconst (v := 1) hx hb dL_law_242 (by decide) ?_
  refine lv_iadd hx hb dL_law_243 ?_
  refine va_sld hx hb hX hbl hbA hG.2.2 hv1 dL_law_244 ?_
  refine z_ti e1.symm ?_
  refine lv_aload_n hx hb dL_law_245 rfl (lv_at hl 0 rfl) ?_
  refine lv_iload_n hx hb dL_law_246 rfl (lv_at hl 3 rfl) ?_
  refine lv_iconst (v := 2) hx hb dL_law_247 (by decide) ?_
  refine lv_iadd hx hb dL_law_248 ?_
  refine va_sld hx hb hX hbl hbA hG.2.2 hv2 dL_law_249 ?_
  refine z_ti e2.symm ?_
  refine z_callVG (n := 2) C (inr16 _ (List.mem_of_getElem? (i := 10) rfl)) (inr1 _ (List.mem_of_getElem? (i := 2) rfl)) (inr16 _ (List.mem_of_getElem? (i := 7) rfl)) (inr16 _ (List.mem_of_getElem? (i := 8) rfl)) (inr16 _ (List.mem_of_getElem? (i := 9) rfl)) (Cn := RX7) ⟨by decide +kernel, by decide +kernel, by decide +kernel⟩ rfl dL_law_250 (c_X7_month l E sun dry len need x1 x2 (q 0) (q 1) (q 4) (q 7) (q 10) (q 13) (q 15) (q 17) (q 21) (q 5) (q 6)) hl hG 0 rfl [0, 4, 5, 6] (by decide) rfl (ads := [q 0, q 4, q 5, q 6]) rfl rfl (ws' := lwW E q lt nu sun dry g tg pf kf fs ft fh wk fl fr v ms mw sl tx f1 f2 f3 bs sz am len need psz ksz (nI zk) si mo at_) rfl rfl (rest := []) rfl (Nat.le_of_ble_eq_true rfl) ⟨Nat.le_of_ble_eq_true rfl, Nat.le_of_ble_eq_true rfl⟩ ⟨Nat.le_of_ble_eq_true rfl, Nat.le_of_ble_eq_true rfl⟩ (fun H locs hG => ?_)
  refine lv_aload_n hx hb dL_law_253 rfl (lv_at hl 2 rfl) ?_
  refine lv_aload_n hx hb dL_law_254 rfl (lv_at hl 0 rfl) ?_
  refine lv_iload_n hx hb dL_law_255 rfl (lv_at hl 3 rfl) ?_
  refine lv_iconst (v := 1) hx hb dL_law_256 (by decide) ?_
  refine lv_iadd hx hb dL_law_257 ?_
  refine va_sld hx hb hX hbl hbA hG.2.2 hv1 dL_law_258 ?_
  refine z_ti e1.symm ?_
  refine lv_aload_n hx hb dL_law_259 rfl (lv_at hl 0 rfl) ?_
  refine lv_iload_n hx hb dL_law_260 rfl (lv_at hl 3 rfl) ?_
  refine lv_iconst (v := 2) hx hb dL_law_261 (by decide) ?_
  refine lv_iadd hx hb dL_law_262 ?_
  refine va_sld hx hb hX hbl hbA hG.2.2 hv2 dL_law_263 ?_
  refine z_ti e2.symm ?_
  refine z_callVG (n := 2) C (inr16 _ (List.mem_of_getElem? (i := 18) rfl)) (inr1 _ (List.mem_of_getElem? (i := 5) rfl)) (inr16 _ (List.mem_of_getElem? (i := 15) rfl)) (inr16 _ (List.mem_of_getElem? (i := 16) rfl)) (inr16 _ (List.mem_of_getElem? (i := 17) rfl)) (Cn := RX8) ⟨by decide +kernel, by decide +kernel, by decide +kernel⟩ rfl dL_law_264 (c_X8_month l E v ms x1 x2 (q 27) (q 28) (q 29) (q 30) (q 31) (q 32) (q 33) (q 34) (q 35)) hl hG 27 rfl [27, 28] (by decide) rfl (ads := [q 27, q 28]) rfl rfl (ws' := lwW E q lt nu sun dry g tg pf kf fs ft fh wk fl fr v ms mw sl tx f1 f2 f3 bs sz am len need psz ksz (nI zk) si mo at_) rfl rfl (rest := [.int (o_X7_month_r sun dry len need x1 x2)]) rfl (Nat.le_of_ble_eq_true rfl) ⟨Nat.le_of_ble_eq_true rfl, Nat.le_of_ble_eq_true rfl⟩ ⟨Nat.le_of_ble_eq_true rfl, Nat.le_of_ble_eq_true rfl⟩ (fun H locs hG => ?_)
  refine lv_icmp_eq (tgt := 806) hx hb dL_law_267 (by decide) (fun c9 => ?_) (fun c9 => absurd hq c9)
  exact K lt nu sun dry g tg pf kf fs ft fh wk fl fr v ms mw sl tx f1 f2 f3 bs sz am len need psz ksz (nI zk) si mo at_ _ _ _ _ (hI.le (by omega)) rfl H locs hG ls hl
set_option maxRecDepth 100000 in
set_option maxHeartbeats 4000000 in
theorem lc_act {l : Launch} {E : zE} {p : Program} {e : Env} {s : State} {m : MethodId} {below : List Frame} {meth : Method} {c : Code} {b L : Nat} {xs : Nat → Int32} {q : Nat → Nat} {i : Nat} {Bd : Int} (C : zC E p s m #[Value.ref b] c cL_law 4 RL (fun a => s.heap.size ≤ a)) (hX : va_X b L xs s s.heap) (hbl : b < s.heap.size) (hL : L ≤ 320) (hi : i + 5 ≤ L) (hB : Bd < 1000000) (K : lwNext l E p e s m below meth c b i q (Bd + 24) 806) : lwNext l E p e s m below meth c b i q Bd 272 := by
  intro lt nu sun dry g tg pf kf fs ft fh wk fl fr v ms mw sl tx f1 f2 f3 bs sz am len need psz ksz zi si mo at_ zk na nk nl hI hz9 H locs hG ls hl
  subst hz9
  have hx := C.1.1
  have hb := C.1.2.1
  have hbA : ¬ s.heap.size ≤ b := Nat.not_le.mpr hbl
  have hv1 : vp_in (nI i + 1) L := by rw [show (nI i + 1 : Int32) = nI (i + 1) from nI_add i 1]; exact vp_in_nI (by omega) (by omega)
  obtain ⟨x1, e1⟩ : ∃ y : Int32, y = xs (nI i + 1).toNatClampNeg := ⟨_, rfl⟩
  have hv2 : vp_in (nI i + 2) L := by rw [show (nI i + 2 : Int32) = nI (i + 2) from nI_add i 2]; exact vp_in_nI (by omega) (by omega)
  obtain ⟨x2, e2⟩ : ∃ y : Int32, y = xs (nI i + 2).toNatClampNeg := ⟨_, rfl⟩
  have hI0 := hI
  obtain ⟨hs, he, hg, hp, p1, p2, p3, hk, k1, k2, k3, t1, t2, t3, t4, z1, z2, z3⟩ := hI0
  have hq := q_act x1 x2 hI hB
  refine lv_aload_n hx hb dL_law_272 rfl (lv_at hl 1 rfl) ?_
  refine lv_aload_n hx hb dL_law_273 rfl (lv_at hl 0 rfl) ?_
  refine lv_iload_n hx hb dL_law_274 rfl (lv_at hl 3 rfl) ?_
  refine lv_iconst (v := 1) hx hb dL_law_275 (by decide) ?_
  refine lv_iadd hx hb dL_law_276 ?_
  refine va_sld hx hb hX hbl hbA hG.2.2 hv1 dL_law_277 ?_
  refine z_ti e1.symm ?_
  refine lv_aload_n hx hb dL_law_278 rfl (lv_at hl 0 rfl) ?_
  refine lv_iload_n hx hb dL_law_279 rfl (lv_at hl 3 rfl) ?_
  refine lv_iconst (v := 2) hx hb dL_law_280 (by decide) ?_
  refine lv_iadd hx hb dL_law_281 ?_
  refine va_sld hx hb hX hbl hbA hG.2.2 hv2 dL_law_282 ?_
  refine z_ti e2.symm ?_
  refine z_callVG (n := 2) C (inr16 _ (List.mem_of_getElem? (i := 23) rfl)) (inr1 _ (List.mem_of_getElem? (i := 2) rfl)) (inr16 _ (List.mem_of_getElem? (i := 20) rfl)) (inr16 _ (List.mem_of_getElem? (i := 21) rfl)) (inr16 _ (List.mem_of_getElem? (i := 22) rfl)) (Cn := RX7) ⟨by decide +kernel, by decide +kernel, by decide +kernel⟩ rfl dL_law_283 (c_X7_act l E g sun dry len need pf 8 psz x1 x2 (q 0) (q 1) (q 4) (q 7) (q 10) (q 13) (q 15) (q 17) (q 21) (q 8) (q 9) (q 5) (q 6) (q 14)) hl hG 0 rfl [0, 7, 8, 9, 4, 5, 6, 13, 14] (by decide) rfl (ads := [q 0, q 7, q 8, q 9, q 4, q 5, q 6, q 13, q 14]) rfl rfl (ws' := lwW E q lt nu sun dry (o_X7_act_g g sun dry len need pf 8 psz x1 x2) tg (o_X7_act_8 g sun dry len need pf 8 psz x1 x2) kf fs ft fh wk fl fr v ms mw sl tx f1 f2 f3 bs sz am len need (o_X7_act_7_2 g sun dry len need pf 8 psz x1 x2) ksz (nI zk) si mo at_) rfl rfl (rest := []) rfl (Nat.le_of_ble_eq_true rfl) ⟨Nat.le_of_ble_eq_true rfl, Nat.le_of_ble_eq_true rfl⟩ ⟨Nat.le_of_ble_eq_true rfl, Nat.le_of_ble_eq_true rfl⟩ (fun H locs hG => ?_)
  refine lv_aload_n hx hb dL_law_286 rfl (lv_at hl 2 rfl) ?_
  refine lv_aload_n hx hb dL_law_287 rfl (lv_at hl 0 rfl) ?_
  refine lv_iload_n hx hb dL_law_288 rfl (lv_at hl 3 rfl) ?_
  refine lv_iconst (v := 1) hx hb dL_law_289 (by decide) ?_
  refine lv_iadd hx hb dL_law_290 ?_
  refine va_sld hx hb hX hbl hbA hG.2.2 hv1 dL_law_291 ?_
  refine z_ti e1.symm ?_
  refine lv_aload_n hx hb dL_law_292 rfl (lv_at hl 0 rfl) ?_
  refine lv_iload_n hx hb dL_law_293 rfl (lv_at hl 3 rfl) ?_
  refine lv_iconst (v := 2) hx hb dL_law_294 (by decide) ?_
  refine lv_iadd hx hb dL_law_295 ?_
  refine va_sld hx hb hX hbl hbA hG.2.2 hv2 dL_law_296 ?_
  refine z_ti e2.symm ?_
  refine z_callVG (n := 2) C (inr19 _ (List.mem_of_getElem? (i := 22) rfl)) (inr1 _ (List.mem_of_getElem? (i := 5) rfl)) (inr19 _ (List.mem_of_getElem? (i := 19) rfl)) (inr19 _ (List.mem_of_getElem? (i := 20) rfl)) (inr19 _ (List.mem_of_getElem? (i := 21) rfl)) (Cn := RX8) ⟨by decide +kernel, by decide +kernel, by decide +kernel⟩ rfl dL_law_297 (c_X8_act l E v ms sl x1 x2 na (q 27) (q 28) (q 29) (q 30) (q 31) (q 32) (q 33) (q 34) (q 35) (Inv.mo hI hB).1 p2 p3) hl hG 27 rfl [27, 28, 30] (by decide) rfl (ads := [q 27, q 28, q 30]) rfl rfl (ws' := lwW E q lt nu sun dry (o_X7_act_g g sun dry len need pf 8 psz x1 x2) tg (o_X7_act_8 g sun dry len need pf 8 psz x1 x2) kf fs ft fh wk fl fr (o_X8_act_v v ms sl x1 x2 na) ms mw (o_X8_act_2 v ms sl x1 x2 na) tx f1 f2 f3 bs sz am len need (o_X7_act_7_2 g sun dry len need pf 8 psz x1 x2) ksz (nI zk) si mo at_) rfl rfl (rest := [.int (o_X7_act_r g sun dry len need pf 8 psz x1 x2)]) rfl (Nat.le_of_ble_eq_true rfl) ⟨Nat.le_of_ble_eq_true rfl, Nat.le_of_ble_eq_true rfl⟩ ⟨Nat.le_of_ble_eq_true rfl, Nat.le_of_ble_eq_true rfl⟩ (fun H locs hG => ?_)
  refine lv_icmp_eq (tgt := 806) hx hb dL_law_300 (by decide) (fun c9 => ?_) (fun c9 => absurd hq.1 c9)
  obtain ⟨-, nb, hI2⟩ := hq
  exact K lt nu sun dry (o_X7_act_g g sun dry len need pf 8 psz x1 x2) tg (o_X7_act_8 g sun dry len need pf 8 psz x1 x2) kf fs ft fh wk fl fr (o_X8_act_v v ms sl x1 x2 na) ms mw (o_X8_act_2 v ms sl x1 x2 na) tx f1 f2 f3 bs sz am len need (o_X7_act_7_2 g sun dry len need pf 8 psz x1 x2) ksz (nI zk) si mo at_ _ _ _ _ hI2 rfl H locs hG ls hl
set_option maxRecDepth 100000 in
set_option maxHeartbeats 4000000 in
theorem lc_pass {l : Launch} {E : zE} {p : Program} {e : Env} {s : State} {m : MethodId} {below : List Frame} {meth : Method} {c : Code} {b L : Nat} {xs : Nat → Int32} {q : Nat → Nat} {i : Nat} {Bd : Int} (C : zC E p s m #[Value.ref b] c cL_law 4 RL (fun a => s.heap.size ≤ a)) (hX : va_X b L xs s s.heap) (hbl : b < s.heap.size) (hL : L ≤ 320) (hi : i + 5 ≤ L) (hB : Bd < 1000000) (K : lwNext l E p e s m below meth c b i q (Bd + 24) 806) : lwNext l E p e s m below meth c b i q Bd 305 := by
  intro lt nu sun dry g tg pf kf fs ft fh wk fl fr v ms mw sl tx f1 f2 f3 bs sz am len need psz ksz zi si mo at_ zk na nk nl hI hz9 H locs hG ls hl
  subst hz9
  have hx := C.1.1
  have hb := C.1.2.1
  have hbA : ¬ s.heap.size ≤ b := Nat.not_le.mpr hbl
  have hv1 : vp_in (nI i + 1) L := by rw [show (nI i + 1 : Int32) = nI (i + 1) from nI_add i 1]; exact vp_in_nI (by omega) (by omega)
  obtain ⟨x1, e1⟩ : ∃ y : Int32, y = xs (nI i + 1).toNatClampNeg := ⟨_, rfl⟩
  have hI0 := hI
  obtain ⟨hs, he, hg, hp, p1, p2, p3, hk, k1, k2, k3, t1, t2, t3, t4, z1, z2, z3⟩ := hI0
  have hq := q_pass x1 hI hB
  refine lv_aload_n hx hb dL_law_305 rfl (lv_at hl 1 rfl) ?_
  refine lv_aload_n hx hb dL_law_306 rfl (lv_at hl 0 rfl) ?_
  refine lv_iload_n hx hb dL_law_307 rfl (lv_at hl 3 rfl) ?_
  refine lv_iconst (v := 1) hx hb dL_law_308 (by decide) ?_
  refine lv_iadd hx hb dL_law_309 ?_
  refine va_sld hx hb hX hbl hbA hG.2.2 hv1 dL_law_310 ?_
  refine z_ti e1.symm ?_
  refine z_callVG (n := 1) C (inr21 _ (List.mem_of_getElem? (i := 19) rfl)) (inr1 _ (List.mem_of_getElem? (i := 2) rfl)) (inr21 _ (List.mem_of_getElem? (i := 16) rfl)) (inr21 _ (List.mem_of_getElem? (i := 17) rfl)) (inr21 _ (List.mem_of_getElem? (i := 18) rfl)) (Cn := RX7) ⟨by decide +kernel, by decide +kernel, by decide +kernel⟩ rfl dL_law_311 (c_X7_pass l E g sun dry len need pf 8 psz x1 (q 0) (q 1) (q 4) (q 7) (q 10) (q 13) (q 15) (q 17) (q 21) (q 8) (q 9) (q 5) (q 6) (q 14)) hl hG 0 rfl [0, 7, 8, 9, 4, 5, 6, 13, 14] (by decide) rfl (ads := [q 0, q 7, q 8, q 9, q 4, q 5, q 6, q 13, q 14]) rfl rfl (ws' := lwW E q lt nu sun dry (o_X7_pass_g g sun dry len need pf 8 psz x1) tg (o_X7_pass_8 g sun dry len need pf 8 psz x1) kf fs ft fh wk fl fr v ms mw sl tx f1 f2 f3 bs sz am len need (o_X7_pass_7_2 g sun dry len need pf 8 psz x1) ksz (nI zk) si mo at_) rfl rfl (rest := []) rfl (Nat.le_of_ble_eq_true rfl) ⟨Nat.le_of_ble_eq_true rfl, Nat.le_of_ble_eq_true rfl⟩ ⟨Nat.le_of_ble_eq_true rfl, Nat.le_of_ble_eq_true rfl⟩ (fun H locs hG => ?_)
  refine lv_aload_n hx hb dL_law_314 rfl (lv_at hl 2 rfl) ?_
  refine lv_aload_n hx hb dL_law_315 rfl (lv_at hl 0 rfl) ?_
  refine lv_iload_n hx hb dL_law_316 rfl (lv_at hl 3 rfl) ?_
  refine lv_iconst (v := 1) hx hb dL_law_317 (by decide) ?_
  refine lv_iadd hx hb dL_law_318 ?_
  refine va_sld hx hb hX hbl hbA hG.2.2 hv1 dL_law_319 ?_
  refine z_ti e1.symm ?_
  refine z_callVG (n := 1) C (inr22 _ (List.mem_of_getElem? (i := 4) rfl)) (inr1 _ (List.mem_of_getElem? (i := 5) rfl)) (inr22 _ (List.mem_of_getElem? (i := 1) rfl)) (inr22 _ (List.mem_of_getElem? (i := 2) rfl)) (inr22 _ (List.mem_of_getElem? (i := 3) rfl)) (Cn := RX8) ⟨by decide +kernel, by decide +kernel, by decide +kernel⟩ rfl dL_law_320 (c_X8_pass l E v ms sl x1 na (q 27) (q 28) (q 29) (q 30) (q 31) (q 32) (q 33) (q 34) (q 35) (Inv.mo hI hB) p2 p3) hl hG 27 rfl [27, 28, 30] (by decide) rfl (ads := [q 27, q 28, q 30]) rfl rfl (ws' := lwW E q lt nu sun dry (o_X7_pass_g g sun dry len need pf 8 psz x1) tg (o_X7_pass_8 g sun dry len need pf 8 psz x1) kf fs ft fh wk fl fr (o_X8_pass_v v ms sl x1 na) ms mw (o_X8_pass_2 v ms sl x1 na) tx f1 f2 f3 bs sz am len need (o_X7_pass_7_2 g sun dry len need pf 8 psz x1) ksz (nI zk) si mo at_) rfl rfl (rest := [.int (o_X7_pass_r g sun dry len need pf 8 psz x1)]) rfl (Nat.le_of_ble_eq_true rfl) ⟨Nat.le_of_ble_eq_true rfl, Nat.le_of_ble_eq_true rfl⟩ ⟨Nat.le_of_ble_eq_true rfl, Nat.le_of_ble_eq_true rfl⟩ (fun H locs hG => ?_)
  refine lv_icmp_eq (tgt := 806) hx hb dL_law_323 (by decide) (fun c9 => ?_) (fun c9 => absurd hq.1 c9)
  obtain ⟨-, nb, hI2⟩ := hq
  exact K lt nu sun dry (o_X7_pass_g g sun dry len need pf 8 psz x1) tg (o_X7_pass_8 g sun dry len need pf 8 psz x1) kf fs ft fh wk fl fr (o_X8_pass_v v ms sl x1 na) ms mw (o_X8_pass_2 v ms sl x1 na) tx f1 f2 f3 bs sz am len need (o_X7_pass_7_2 g sun dry len need pf 8 psz x1) ksz (nI zk) si mo at_ _ _ _ _ hI2 rfl H locs hG ls hl
set_option maxRecDepth 100000 in
set_option maxHeartbeats 4000000 in
theorem lc_plant {l : Launch} {E : zE} {p : Program} {e : Env} {s : State} {m : MethodId} {below : List Frame} {meth : Method} {c : Code} {b L : Nat} {xs : Nat → Int32} {q : Nat → Nat} {i : Nat} {Bd : Int} (C : zC E p s m #[Value.ref b] c cL_law 4 RL (fun a => s.heap.size ≤ a)) (hX : va_X b L xs s s.heap) (hbl : b < s.heap.size) (hL : L ≤ 320) (hi : i + 5 ≤ L) (hB : Bd < 1000000) (K : lwNext l E p e s m below meth c b i q (Bd + 24) 806) : lwNext l E p e s m below meth c b i q Bd 328 := by
  intro lt nu sun dry g tg pf kf fs ft fh wk fl fr v ms mw sl tx f1 f2 f3 bs sz am len need psz ksz zi si mo at_ zk na nk nl hI hz9 H locs hG ls hl
  subst hz9
  have hx := C.1.1
  have hb := C.1.2.1
  have hbA : ¬ s.heap.size ≤ b := Nat.not_le.mpr hbl
  have hv1 : vp_in (nI i + 1) L := by rw [show (nI i + 1 : Int32) = nI (i + 1) from nI_add i 1]; exact vp_in_nI (by omega) (by omega)
  obtain ⟨x1, e1⟩ : ∃ y : Int32, y = xs (nI i + 1).toNatClampNeg := ⟨_, rfl⟩
  have hv2 : vp_in (nI i + 2) L := by rw [show (nI i + 2 : Int32) = nI (i + 2) from nI_add i 2]; exact vp_in_nI (by omega) (by omega)
  obtain ⟨x2, e2⟩ : ∃ y : Int32, y = xs (nI i + 2).toNatClampNeg := ⟨_, rfl⟩
  have hI0 := hI
  obtain ⟨hs, he, hg, hp, p1, p2, p3, hk, k1, k2, k3, t1, t2, t3, t4, z1, z2, z3⟩ := hI0
  have hq := q_plant x1 x2 hI hB
  refine lv_aload_n hx hb dL_law_328 rfl (lv_at hl 1 rfl) ?_
  refine lv_aload_n hx hb dL_law_329 rfl (lv_at hl 0 rfl) ?_
  refine lv_iload_n hx hb dL_law_330 rfl (lv_at hl 3 rfl) ?_
  refine lv_iconst (v := 1) hx hb dL_law_331 (by decide) ?_
  refine lv_iadd hx hb dL_law_332 ?_
  refine va_sld hx hb hX hbl hbA hG.2.2 hv1 dL_law_333 ?_
  refine z_ti e1.symm ?_
  refine lv_aload_n hx hb dL_law_334 rfl (lv_at hl 0 rfl) ?_
  refine lv_iload_n hx hb dL_law_335 rfl (lv_at hl 3 rfl) ?_
  refine lv_iconst (v := 2) hx hb dL_law_336 (by decide) ?_
  refine lv_iadd hx hb dL_law_337 ?_
  refine va_sld hx hb hX hbl hbA hG.2.2 hv2 dL_law_338 ?_
  refine z_ti e2.symm ?_
  refine z_callVG (n := 2) C (inr22 _ (List.mem_of_getElem? (i := 9) rfl)) (inr1 _ (List.mem_of_getElem? (i := 2) rfl)) (inr22 _ (List.mem_of_getElem? (i := 6) rfl)) (inr22 _ (List.mem_of_getElem? (i := 7) rfl)) (inr22 _ (List.mem_of_getElem? (i := 8) rfl)) (Cn := RX7) ⟨by decide +kernel, by decide +kernel, by decide +kernel⟩ rfl dL_law_339 (c_X7_plant l E g sun dry len need pf 8 psz x1 x2 (q 0) (q 1) (q 4) (q 7) (q 10) (q 13) (q 15) (q 17) (q 21) (q 8) (q 9) (q 5) (q 6) (q 14)) hl hG 0 rfl [0, 7, 8, 9, 4, 5, 6, 13, 14] (by decide) rfl (ads := [q 0, q 7, q 8, q 9, q 4, q 5, q 6, q 13, q 14]) rfl rfl (ws' := lwW E q lt nu sun dry (o_X7_plant_g g sun dry len need pf 8 psz x1 x2) tg (o_X7_plant_8 g sun dry len need pf 8 psz x1 x2) kf fs ft fh wk fl fr v ms mw sl tx f1 f2 f3 bs sz am len need (o_X7_plant_7_2 g sun dry len need pf 8 psz x1 x2) ksz (nI zk) si mo at_) rfl rfl (rest := []) rfl (Nat.le_of_ble_eq_true rfl) ⟨Nat.le_of_ble_eq_true rfl, Nat.le_of_ble_eq_true rfl⟩ ⟨Nat.le_of_ble_eq_true rfl, Nat.le_of_ble_eq_true rfl⟩ (fun H locs hG => ?_)
  refine lv_aload_n hx hb dL_law_342 rfl (lv_at hl 2 rfl) ?_
  refine lv_aload_n hx hb dL_law_343 rfl (lv_at hl 0 rfl) ?_
  refine lv_iload_n hx hb dL_law_344 rfl (lv_at hl 3 rfl) ?_
  refine lv_iconst (v := 1) hx hb dL_law_345 (by decide) ?_
  refine lv_iadd hx hb dL_law_346 ?_
  refine va_sld hx hb hX hbl hbA hG.2.2 hv1 dL_law_347 ?_
  refine z_ti e1.symm ?_
  refine lv_aload_n hx hb dL_law_348 rfl (lv_at hl 0 rfl) ?_
  refine lv_iload_n hx hb dL_law_349 rfl (lv_at hl 3 rfl) ?_
  refine lv_iconst (v := 2) hx hb dL_law_350 (by decide) ?_
  refine lv_iadd hx hb dL_law_351 ?_
  refine va_sld hx hb hX hbl hbA hG.2.2 hv2 dL_law_352 ?_
  refine z_ti e2.symm ?_
  refine z_callVG (n := 2) C (inr22 _ (List.mem_of_getElem? (i := 16) rfl)) (inr1 _ (List.mem_of_getElem? (i := 5) rfl)) (inr22 _ (List.mem_of_getElem? (i := 13) rfl)) (inr22 _ (List.mem_of_getElem? (i := 14) rfl)) (inr22 _ (List.mem_of_getElem? (i := 15) rfl)) (Cn := RX8) ⟨by decide +kernel, by decide +kernel, by decide +kernel⟩ rfl dL_law_353 (c_X8_plant l E v sl x1 x2 na (q 27) (q 28) (q 29) (q 30) (q 31) (q 32) (q 33) (q 34) (q 35) p2 p3) hl hG 27 rfl [27, 30] (by decide) rfl (ads := [q 27, q 30]) rfl rfl (ws' := lwW E q lt nu sun dry (o_X7_plant_g g sun dry len need pf 8 psz x1 x2) tg (o_X7_plant_8 g sun dry len need pf 8 psz x1 x2) kf fs ft fh wk fl fr (o_X8_plant_v v sl x1 x2 na) ms mw (o_X8_plant_1 v sl x1 x2 na) tx f1 f2 f3 bs sz am len need (o_X7_plant_7_2 g sun dry len need pf 8 psz x1 x2) ksz (nI zk) si mo at_) rfl rfl (rest := [.int (o_X7_plant_r g sun dry len need pf 8 psz x1 x2)]) rfl (Nat.le_of_ble_eq_true rfl) ⟨Nat.le_of_ble_eq_true rfl, Nat.le_of_ble_eq_true rfl⟩ ⟨Nat.le_of_ble_eq_true rfl, Nat.le_of_ble_eq_true rfl⟩ (fun H locs hG => ?_)
  refine lv_icmp_eq (tgt := 806) hx hb dL_law_356 (by decide) (fun c9 => ?_) (fun c9 => absurd hq.1 c9)
  obtain ⟨-, nb, hI2⟩ := hq
  exact K lt nu sun dry (o_X7_plant_g g sun dry len need pf 8 psz x1 x2) tg (o_X7_plant_8 g sun dry len need pf 8 psz x1 x2) kf fs ft fh wk fl fr (o_X8_plant_v v sl x1 x2 na) ms mw (o_X8_plant_1 v sl x1 x2 na) tx f1 f2 f3 bs sz am len need (o_X7_plant_7_2 g sun dry len need pf 8 psz x1 x2) ksz (nI zk) si mo at_ _ _ _ _ hI2 rfl H locs hG ls hl
set_option maxRecDepth 100000 in
set_option maxHeartbeats 4000000 in
theorem lc_undo {l : Launch} {E : zE} {p : Program} {e : Env} {s : State} {m : MethodId} {below : List Frame} {meth : Method} {c : Code} {b L : Nat} {xs : Nat → Int32} {q : Nat → Nat} {i : Nat} {Bd : Int} (C : zC E p s m #[Value.ref b] c cL_law 4 RL (fun a => s.heap.size ≤ a)) (hX : va_X b L xs s s.heap) (hbl : b < s.heap.size) (hL : L ≤ 320) (hi : i + 5 ≤ L) (hB : Bd < 1000000) (K : lwNext l E p e s m below meth c b i q (Bd + 24) 806) : lwNext l E p e s m below meth c b i q Bd 361 := by
  intro lt nu sun dry g tg pf kf fs ft fh wk fl fr v ms mw sl tx f1 f2 f3 bs sz am len need psz ksz zi si mo at_ zk na nk nl hI hz9 H locs hG ls hl
  subst hz9
  have hx := C.1.1
  have hb := C.1.2.1
  have hbA : ¬ s.heap.size ≤ b := Nat.not_le.mpr hbl
  have hI0 := hI
  obtain ⟨hs, he, hg, hp, p1, p2, p3, hk, k1, k2, k3, t1, t2, t3, t4, z1, z2, z3⟩ := hI0
  have hq := q_undo hI hB
  refine lv_aload_n hx hb dL_law_361 rfl (lv_at hl 1 rfl) ?_
  refine z_callVG (n := 0) C (inr22 _ (List.mem_of_getElem? (i := 20) rfl)) (inr1 _ (List.mem_of_getElem? (i := 2) rfl)) (inr22 _ (List.mem_of_getElem? (i := 17) rfl)) (inr22 _ (List.mem_of_getElem? (i := 18) rfl)) (inr22 _ (List.mem_of_getElem? (i := 19) rfl)) (Cn := RX7) ⟨by decide +kernel, by decide +kernel, by decide +kernel⟩ rfl dL_law_362 (c_X7_undo l E g pf 8 psz (q 0) (q 1) (q 4) (q 7) (q 10) (q 13) (q 15) (q 17) (q 21) (q 8) (q 9) (q 14)) hl hG 0 rfl [0, 7, 8, 9, 13, 14] (by decide) rfl (ads := [q 0, q 7, q 8, q 9, q 13, q 14]) rfl rfl (ws' := lwW E q lt nu sun dry (o_X7_undo_g g pf 8 psz) tg pf kf fs ft fh wk fl fr v ms mw sl tx f1 f2 f3 bs sz am len need (o_X7_undo_4_2 g pf 8 psz) ksz (nI zk) si mo at_) rfl rfl (rest := []) rfl (Nat.le_of_ble_eq_true rfl) ⟨Nat.le_of_ble_eq_true rfl, Nat.le_of_ble_eq_true rfl⟩ ⟨Nat.le_of_ble_eq_true rfl, Nat.le_of_ble_eq_true rfl⟩ (fun H locs hG => ?_)
  refine lv_aload_n hx hb dL_law_365 rfl (lv_at hl 2 rfl) ?_
  refine z_callVG (n := 0) C (inr23 _ (List.mem_of_getElem? (i := 12) rfl)) (inr1 _ (List.mem_of_getElem? (i := 5) rfl)) (inr23 _ (List.mem_of_getElem? (i := 9) rfl)) (inr23 _ (List.mem_of_getElem? (i := 10) rfl)) (inr23 _ (List.mem_of_getElem? (i := 11) rfl)) (Cn := RX8) ⟨by decide +kernel, by decide +kernel, by decide +kernel⟩ rfl dL_law_366 (c_X8_undo l E v sl na (q 27) (q 28) (q 29) (q 30) (q 31) (q 32) (q 33) (q 34) (q 35) p2 p3) hl hG 27 rfl [27, 30] (by decide) rfl (ads := [q 27, q 30]) rfl rfl (ws' := lwW E q lt nu sun dry (o_X7_undo_g g pf 8 psz) tg pf kf fs ft fh wk fl fr (o_X8_undo_v v sl na) ms mw (o_X8_undo_1 v sl na) tx f1 f2 f3 bs sz am len need (o_X7_undo_4_2 g pf 8 psz) ksz (nI zk) si mo at_) rfl rfl (rest := [.int (o_X7_undo_r g pf 8 psz)]) rfl (Nat.le_of_ble_eq_true rfl) ⟨Nat.le_of_ble_eq_true rfl, Nat.le_of_ble_eq_true rfl⟩ ⟨Nat.le_of_ble_eq_true rfl, Nat.le_of_ble_eq_true rfl⟩ (fun H locs hG => ?_)
  refine lv_icmp_eq (tgt := 806) hx hb dL_law_369 (by decide) (fun c9 => ?_) (fun c9 => absurd hq.1 c9)
  obtain ⟨-, nb, hI2⟩ := hq
  exact K lt nu sun dry (o_X7_undo_g g pf 8 psz) tg pf kf fs ft fh wk fl fr (o_X8_undo_v v sl na) ms mw (o_X8_undo_1 v sl na) tx f1 f2 f3 bs sz am len need (o_X7_undo_4_2 g pf 8 psz) ksz (nI zk) si mo at_ _ _ _ _ hI2 rfl H locs hG ls hl
set_option maxRecDepth 100000 in
set_option maxHeartbeats 4000000 in
theorem lc_behind {l : Launch} {E : zE} {p : Program} {e : Env} {s : State} {m : MethodId} {below : List Frame} {meth : Method} {c : Code} {b L : Nat} {xs : Nat → Int32} {q : Nat → Nat} {i : Nat} {Bd : Int} (C : zC E p s m #[Value.ref b] c cL_law 4 RL (fun a => s.heap.size ≤ a)) (hX : va_X b L xs s s.heap) (hbl : b < s.heap.size) (hL : L ≤ 320) (hi : i + 5 ≤ L) (hB : Bd < 1000000) (K : lwNext l E p e s m below meth c b i q (Bd + 24) 806) : lwNext l E p e s m below meth c b i q Bd 374 := by
  intro lt nu sun dry g tg pf kf fs ft fh wk fl fr v ms mw sl tx f1 f2 f3 bs sz am len need psz ksz zi si mo at_ zk na nk nl hI hz9 H locs hG ls hl
  subst hz9
  have hx := C.1.1
  have hb := C.1.2.1
  have hbA : ¬ s.heap.size ≤ b := Nat.not_le.mpr hbl
  have hv1 : vp_in (nI i + 1) L := by rw [show (nI i + 1 : Int32) = nI (i + 1) from nI_add i 1]; exact vp_in_nI (by omega) (by omega)
  obtain ⟨x1, e1⟩ : ∃ y : Int32, y = xs (nI i + 1).toNatClampNeg := ⟨_, rfl⟩
  have hv2 : vp_in (nI i + 2) L := by rw [show (nI i + 2 : Int32) = nI (i + 2) from nI_add i 2]; exact vp_in_nI (by omega) (by omega)
  obtain ⟨x2, e2⟩ : ∃ y : Int32, y = xs (nI i + 2).toNatClampNeg := ⟨_, rfl⟩
  have hI0 := hI
  obtain ⟨hs, he, hg, hp, p1, p2, p3, hk, k1, k2, k3, t1, t2, t3, t4, z1, z2, z3⟩ := hI0
  have hq := q_behind tg x1 x2 hI hB
  refine lv_aload_n hx hb dL_law_374 rfl (lv_at hl 1 rfl) ?_
  refine lv_aload_n hx hb dL_law_375 rfl (lv_at hl 0 rfl) ?_
  refine lv_iload_n hx hb dL_law_376 rfl (lv_at hl 3 rfl) ?_
  refine lv_iconst (v := 1) hx hb dL_law_377 (by decide) ?_
  refine lv_iadd hx hb dL_law_378 ?_
  refine va_sld hx hb hX hbl hbA hG.2.2 hv1 dL_law_379 ?_
  refine z_ti e1.symm ?_
  refine lv_aload_n hx hb dL_law_380 rfl (lv_at hl 0 rfl) ?_
  refine lv_iload_n hx hb dL_law_381 rfl (lv_at hl 3 rfl) ?_
  refine lv_iconst (v := 2) hx hb dL_law_382 (by decide) ?_
  refine lv_iadd hx hb dL_law_383 ?_
  refine va_sld hx hb hX hbl hbA hG.2.2 hv2 dL_law_384 ?_
  refine z_ti e2.symm ?_
  refine z_callVG (n := 2) C (inr23 _ (List.mem_of_getElem? (i := 16) rfl)) (inr1 _ (List.mem_of_getElem? (i := 2) rfl)) (inr23 _ (List.mem_of_getElem? (i := 13) rfl)) (inr23 _ (List.mem_of_getElem? (i := 14) rfl)) (inr23 _ (List.mem_of_getElem? (i := 15) rfl)) (Cn := RX7) ⟨by decide +kernel, by decide +kernel, by decide +kernel⟩ rfl dL_law_385 (c_X7_behind l E g tg sun dry len need x1 x2 (q 0) (q 1) (q 4) (q 7) (q 10) (q 13) (q 15) (q 17) (q 21) (q 8) (q 9) (q 11) (q 12) (q 5) (q 6)) hl hG 0 rfl [0, 7, 8, 9, 10, 11, 12, 4, 5, 6] (by decide) rfl (ads := [q 0, q 7, q 8, q 9, q 10, q 11, q 12, q 4, q 5, q 6]) rfl rfl (ws' := lwW E q lt nu sun dry g (o_X7_behind_tg g tg sun dry len need x1 x2) pf kf fs ft fh wk fl fr v ms mw sl tx f1 f2 f3 bs sz am len need psz ksz (nI zk) si mo at_) rfl rfl (rest := []) rfl (Nat.le_of_ble_eq_true rfl) ⟨Nat.le_of_ble_eq_true rfl, Nat.le_of_ble_eq_true rfl⟩ ⟨Nat.le_of_ble_eq_true rfl, Nat.le_of_ble_eq_true rfl⟩ (fun H locs hG => ?_)
  refine lv_aload_n hx hb dL_law_388 rfl (lv_at hl 2 rfl) ?_
  refine lv_aload_n hx hb dL_law_389 rfl (lv_at hl 0 rfl) ?_
  refine lv_iload_n hx hb dL_law_390 rfl (lv_at hl 3 rfl) ?_
  refine lv_iconst (v := 1) hx hb dL_law_391 (by decide) ?_
  refine lv_iadd hx hb dL_law_392 ?_
  refine va_sld hx hb hX hbl hbA hG.2.2 hv1 dL_law_393 ?_
  refine z_ti e1.symm ?_
  refine lv_aload_n hx hb dL_law_394 rfl (lv_at hl 0 rfl) ?_
  refine lv_iload_n hx hb dL_law_395 rfl (lv_at hl 3 rfl) ?_
  refine lv_iconst (v := 2) hx hb dL_law_396 (by decide) ?_
  refine lv_iadd hx hb dL_law_397 ?_
  refine va_sld hx hb hX hbl hbA hG.2.2 hv2 dL_law_398 ?_
  refine z_ti e2.symm ?_
  refine z_callVG (n := 2) C (inr24 _ (List.mem_of_getElem? (i := 8) rfl)) (inr1 _ (List.mem_of_getElem? (i := 5) rfl)) (inr24 _ (List.mem_of_getElem? (i := 5) rfl)) (inr24 _ (List.mem_of_getElem? (i := 6) rfl)) (inr24 _ (List.mem_of_getElem? (i := 7) rfl)) (Cn := RX8) ⟨by decide +kernel, by decide +kernel, by decide +kernel⟩ rfl dL_law_399 (c_X8_behind l E v ms sl x1 x2 (q 27) (q 28) (q 29) (q 30) (q 31) (q 32) (q 33) (q 34) (q 35) (Inv.mo hI hB)) hl hG 27 rfl [27, 28, 30] (by decide) rfl (ads := [q 27, q 28, q 30]) rfl rfl (ws' := lwW E q lt nu sun dry g (o_X7_behind_tg g tg sun dry len need x1 x2) pf kf fs ft fh wk fl fr v ms mw (o_X8_behind_2 v ms sl x1 x2) tx f1 f2 f3 bs sz am len need psz ksz (nI zk) si mo at_) rfl rfl (rest := [.int (o_X7_behind_r g tg sun dry len need x1 x2)]) rfl (Nat.le_of_ble_eq_true rfl) ⟨Nat.le_of_ble_eq_true rfl, Nat.le_of_ble_eq_true rfl⟩ ⟨Nat.le_of_ble_eq_true rfl, Nat.le_of_ble_eq_true rfl⟩ (fun H locs hG => ?_)
  refine lv_icmp_eq (tgt := 806) hx hb dL_law_402 (by decide) (fun c9 => ?_) (fun c9 => absurd hq.1 c9)
  obtain ⟨-, hI2⟩ := hq
  exact K lt nu sun dry g (o_X7_behind_tg g tg sun dry len need x1 x2) pf kf fs ft fh wk fl fr v ms mw (o_X8_behind_2 v ms sl x1 x2) tx f1 f2 f3 bs sz am len need psz ksz (nI zk) si mo at_ _ _ _ _ hI2 rfl H locs hG ls hl
set_option maxRecDepth 100000 in
set_option maxHeartbeats 4000000 in
theorem lc_soonest {l : Launch} {E : zE} {p : Program} {e : Env} {s : State} {m : MethodId} {below : List Frame} {meth : Method} {c : Code} {b L : Nat} {xs : Nat → Int32} {q : Nat → Nat} {i : Nat} {Bd : Int} (C : zC E p s m #[Value.ref b] c cL_law 4 RL (fun a => s.heap.size ≤ a)) (hX : va_X b L xs s s.heap) (hbl : b < s.heap.size) (hL : L ≤ 320) (hi : i + 5 ≤ L) (hB : Bd < 1000000) (K : lwNext l E p e s m below meth c b i q (Bd + 24) 806) : lwNext l E p e s m below meth c b i q Bd 407 := by
  intro lt nu sun dry g tg pf kf fs ft fh wk fl fr v ms mw sl tx f1 f2 f3 bs sz am len need psz ksz zi si mo at_ zk na nk nl hI hz9 H locs hG ls hl
  subst hz9
  have hx := C.1.1
  have hb := C.1.2.1
  have hbA : ¬ s.heap.size ≤ b := Nat.not_le.mpr hbl
  have hv1 : vp_in (nI i + 1) L := by rw [show (nI i + 1 : Int32) = nI (i + 1) from nI_add i 1]; exact vp_in_nI (by omega) (by omega)
  obtain ⟨x1, e1⟩ : ∃ y : Int32, y = xs (nI i + 1).toNatClampNeg := ⟨_, rfl⟩
  have hv2 : vp_in (nI i + 2) L := by rw [show (nI i + 2 : Int32) = nI (i + 2) from nI_add i 2]; exact vp_in_nI (by omega) (by omega)
  obtain ⟨x2, e2⟩ : ∃ y : Int32, y = xs (nI i + 2).toNatClampNeg := ⟨_, rfl⟩
  have hI0 := hI
  obtain ⟨hs, he, hg, hp, p1, p2, p3, hk, k1, k2, k3, t1, t2, t3, t4, z1, z2, z3⟩ := hI0
  have hq := q_soonest fl fr wk si mo at_ x1 x2 hI hB
  refine lv_aload_n hx hb dL_law_407 rfl (lv_at hl 1 rfl) ?_
  refine lv_aload_n hx hb dL_law_408 rfl (lv_at hl 0 rfl) ?_
  refine lv_iload_n hx hb dL_law_409 rfl (lv_at hl 3 rfl) ?_
  refine lv_iconst (v := 1) hx hb dL_law_410 (by decide) ?_
  refine lv_iadd hx hb dL_law_411 ?_
  refine va_sld hx hb hX hbl hbA hG.2.2 hv1 dL_law_412 ?_
  refine z_ti e1.symm ?_
  refine lv_aload_n hx hb dL_law_413 rfl (lv_at hl 0 rfl) ?_
  refine lv_iload_n hx hb dL_law_414 rfl (lv_at hl 3 rfl) ?_
  refine lv_iconst (v := 2) hx hb dL_law_415 (by decide) ?_
  refine lv_iadd hx hb dL_law_416 ?_
  refine va_sld hx hb hX hbl hbA hG.2.2 hv2 dL_law_417 ?_
  refine z_ti e2.symm ?_
  refine z_callVG (n := 2) C (inr24 _ (List.mem_of_getElem? (i := 18) rfl)) (inr1 _ (List.mem_of_getElem? (i := 2) rfl)) (inr24 _ (List.mem_of_getElem? (i := 15) rfl)) (inr24 _ (List.mem_of_getElem? (i := 16) rfl)) (inr24 _ (List.mem_of_getElem? (i := 17) rfl)) (Cn := RX7) ⟨by decide +kernel, by decide +kernel, by decide +kernel⟩ rfl dL_law_418 (c_X7_soonest l E g fl fr si mo at_ wk sun dry len need x1 x2 (q 0) (q 1) (q 4) (q 7) (q 10) (q 13) (q 15) (q 17) (q 21) (q 8) (q 9) (q 22) (q 25) (q 26) (q 23) (q 24) (q 5) (q 6)) hl hG 0 rfl [0, 7, 8, 9, 21, 25, 26, 22, 23, 24, 4, 5, 6] (by decide) rfl (ads := [q 0, q 7, q 8, q 9, q 21, q 25, q 26, q 22, q 23, q 24, q 4, q 5, q 6]) rfl rfl (ws' := lwW E q lt nu sun dry g tg pf kf fs ft fh (o_X7_soonest_wk g fl fr si mo at_ wk sun dry len need x1 x2) (o_X7_soonest_5 g fl fr si mo at_ wk sun dry len need x1 x2) (o_X7_soonest_6 g fl fr si mo at_ wk sun dry len need x1 x2) v ms mw sl tx f1 f2 f3 bs sz am len need psz ksz (nI zk) (o_X7_soonest_4_4 g fl fr si mo at_ wk sun dry len need x1 x2) (o_X7_soonest_4_5 g fl fr si mo at_ wk sun dry len need x1 x2) (o_X7_soonest_4_6 g fl fr si mo at_ wk sun dry len need x1 x2)) rfl rfl (rest := []) rfl (Nat.le_of_ble_eq_true rfl) ⟨Nat.le_of_ble_eq_true rfl, Nat.le_of_ble_eq_true rfl⟩ ⟨Nat.le_of_ble_eq_true rfl, Nat.le_of_ble_eq_true rfl⟩ (fun H locs hG => ?_)
  refine lv_aload_n hx hb dL_law_421 rfl (lv_at hl 2 rfl) ?_
  refine lv_aload_n hx hb dL_law_422 rfl (lv_at hl 0 rfl) ?_
  refine lv_iload_n hx hb dL_law_423 rfl (lv_at hl 3 rfl) ?_
  refine lv_iconst (v := 1) hx hb dL_law_424 (by decide) ?_
  refine lv_iadd hx hb dL_law_425 ?_
  refine va_sld hx hb hX hbl hbA hG.2.2 hv1 dL_law_426 ?_
  refine z_ti e1.symm ?_
  refine lv_aload_n hx hb dL_law_427 rfl (lv_at hl 0 rfl) ?_
  refine lv_iload_n hx hb dL_law_428 rfl (lv_at hl 3 rfl) ?_
  refine lv_iconst (v := 2) hx hb dL_law_429 (by decide) ?_
  refine lv_iadd hx hb dL_law_430 ?_
  refine va_sld hx hb hX hbl hbA hG.2.2 hv2 dL_law_431 ?_
  refine z_ti e2.symm ?_
  refine z_callVG (n := 2) C (inr26 _ (List.mem_of_getElem? (i := 10) rfl)) (inr1 _ (List.mem_of_getElem? (i := 5) rfl)) (inr26 _ (List.mem_of_getElem? (i := 7) rfl)) (inr26 _ (List.mem_of_getElem? (i := 8) rfl)) (inr26 _ (List.mem_of_getElem? (i := 9) rfl)) (Cn := RX8) ⟨by decide +kernel, by decide +kernel, by decide +kernel⟩ rfl dL_law_432 (c_X8_soonest l E v ms sl x1 x2 (q 27) (q 28) (q 29) (q 30) (q 31) (q 32) (q 33) (q 34) (q 35) (Inv.mo hI hB)) hl hG 27 rfl [27, 28, 30] (by decide) rfl (ads := [q 27, q 28, q 30]) rfl rfl (ws' := lwW E q lt nu sun dry g tg pf kf fs ft fh (o_X7_soonest_wk g fl fr si mo at_ wk sun dry len need x1 x2) (o_X7_soonest_5 g fl fr si mo at_ wk sun dry len need x1 x2) (o_X7_soonest_6 g fl fr si mo at_ wk sun dry len need x1 x2) v ms mw ((O_X8_soonest v ms sl x1 x2).2) tx f1 f2 f3 bs sz am len need psz ksz (nI zk) (o_X7_soonest_4_4 g fl fr si mo at_ wk sun dry len need x1 x2) (o_X7_soonest_4_5 g fl fr si mo at_ wk sun dry len need x1 x2) (o_X7_soonest_4_6 g fl fr si mo at_ wk sun dry len need x1 x2)) rfl rfl (rest := [.int (o_X7_soonest_r g fl fr si mo at_ wk sun dry len need x1 x2)]) rfl (Nat.le_of_ble_eq_true rfl) ⟨Nat.le_of_ble_eq_true rfl, Nat.le_of_ble_eq_true rfl⟩ ⟨Nat.le_of_ble_eq_true rfl, Nat.le_of_ble_eq_true rfl⟩ (fun H locs hG => ?_)
  refine lv_icmp_eq (tgt := 806) hx hb dL_law_435 (by decide) (fun c9 => ?_) (fun c9 => absurd hq.1 c9)
  obtain ⟨-, hI2⟩ := hq
  exact K lt nu sun dry g tg pf kf fs ft fh (o_X7_soonest_wk g fl fr si mo at_ wk sun dry len need x1 x2) (o_X7_soonest_5 g fl fr si mo at_ wk sun dry len need x1 x2) (o_X7_soonest_6 g fl fr si mo at_ wk sun dry len need x1 x2) v ms mw ((O_X8_soonest v ms sl x1 x2).2) tx f1 f2 f3 bs sz am len need psz ksz (nI zk) (o_X7_soonest_4_4 g fl fr si mo at_ wk sun dry len need x1 x2) (o_X7_soonest_4_5 g fl fr si mo at_ wk sun dry len need x1 x2) (o_X7_soonest_4_6 g fl fr si mo at_ wk sun dry len need x1 x2) _ _ _ _ hI2 rfl H locs hG ls hl
set_option maxRecDepth 100000 in
set_option maxHeartbeats 4000000 in
theorem lc_hold {l : Launch} {E : zE} {p : Program} {e : Env} {s : State} {m : MethodId} {below : List Frame} {meth : Method} {c : Code} {b L : Nat} {xs : Nat → Int32} {q : Nat → Nat} {i : Nat} {Bd : Int} (C : zC E p s m #[Value.ref b] c cL_law 4 RL (fun a => s.heap.size ≤ a)) (hX : va_X b L xs s s.heap) (hbl : b < s.heap.size) (hL : L ≤ 320) (hi : i + 5 ≤ L) (hB : Bd < 1000000) (K : lwNext l E p e s m below meth c b i q (Bd + 24) 806) : lwNext l E p e s m below meth c b i q Bd 440 := by
  intro lt nu sun dry g tg pf kf fs ft fh wk fl fr v ms mw sl tx f1 f2 f3 bs sz am len need psz ksz zi si mo at_ zk na nk nl hI hz9 H locs hG ls hl
  subst hz9
  have hx := C.1.1
  have hb := C.1.2.1
  have hbA : ¬ s.heap.size ≤ b := Nat.not_le.mpr hbl
  have hv1 : vp_in (nI i + 1) L := by rw [show (nI i + 1 : Int32) = nI (i + 1) from nI_add i 1]; exact vp_in_nI (by omega) (by omega)
  obtain ⟨x1, e1⟩ : ∃ y : Int32, y = xs (nI i + 1).toNatClampNeg := ⟨_, rfl⟩
  have hv2 : vp_in (nI i + 2) L := by rw [show (nI i + 2 : Int32) = nI (i + 2) from nI_add i 2]; exact vp_in_nI (by omega) (by omega)
  obtain ⟨x2, e2⟩ : ∃ y : Int32, y = xs (nI i + 2).toNatClampNeg := ⟨_, rfl⟩
  have hv3 : vp_in (nI i + 3) L := by rw [show (nI i + 3 : Int32) = nI (i + 3) from nI_add i 3]; exact vp_in_nI (by omega) (by omega)
  obtain ⟨x3, e3⟩ : ∃ y : Int32, y = xs (nI i + 3).toNatClampNeg := ⟨_, rfl⟩
  have hI0 := hI
  obtain ⟨hs, he, hg, hp, p1, p2, p3, hk, k1, k2, k3, t1, t2, t3, t4, z1, z2, z3⟩ := hI0
  have hq := q_hold fl fr wk si mo at_ x1 x2 x3 hI hB
  refine lv_aload_n hx hb dL_law_440 rfl (lv_at hl 1 rfl) ?_
  refine lv_aload_n hx hb dL_law_441 rfl (lv_at hl 0 rfl) ?_
  refine lv_iload_n hx hb dL_law_442 rfl (lv_at hl 3 rfl) ?_
  refine lv_iconst (v := 1) hx hb dL_law_443 (by decide) ?_
  refine lv_iadd hx hb dL_law_444 ?_
  refine va_sld hx hb hX hbl hbA hG.2.2 hv1 dL_law_445 ?_
  refine z_ti e1.symm ?_
  refine lv_aload_n hx hb dL_law_446 rfl (lv_at hl 0 rfl) ?_
  refine lv_iload_n hx hb dL_law_447 rfl (lv_at hl 3 rfl) ?_
  refine lv_iconst (v := 2) hx hb dL_law_448 (by decide) ?_
  refine lv_iadd hx hb dL_law_449 ?_
  refine va_sld hx hb hX hbl hbA hG.2.2 hv2 dL_law_450 ?_
  refine z_ti e2.symm ?_
  refine lv_aload_n hx hb dL_law_451 rfl (lv_at hl 0 rfl) ?_
  refine lv_iload_n hx hb dL_law_452 rfl (lv_at hl 3 rfl) ?_
  refine lv_iconst (v := 3) hx hb dL_law_453 (by decide) ?_
  refine lv_iadd hx hb dL_law_454 ?_
  refine va_sld hx hb hX hbl hbA hG.2.2 hv3 dL_law_455 ?_
  refine z_ti e3.symm ?_
  refine z_callVG (n := 3) C (inr27 _ (List.mem_of_getElem? (i := 1) rfl)) (inr1 _ (List.mem_of_getElem? (i := 2) rfl)) (inr26 _ (List.mem_of_getElem? (i := 22) rfl)) (inr26 _ (List.mem_of_getElem? (i := 23) rfl)) (inr27 _ (List.mem_of_getElem? (i := 0) rfl)) (Cn := RX7) ⟨by decide +kernel, by decide +kernel, by decide +kernel⟩ rfl dL_law_456 (c_X7_hold l E g fl fr si mo at_ wk sun dry len need x1 x2 x3 (q 0) (q 1) (q 4) (q 7) (q 10) (q 13) (q 15) (q 17) (q 21) (q 8) (q 9) (q 22) (q 25) (q 26) (q 23) (q 24) (q 5) (q 6)) hl hG 0 rfl [0, 7, 8, 9, 21, 25, 26, 22, 23, 24, 4, 5, 6] (by decide) rfl (ads := [q 0, q 7, q 8, q 9, q 21, q 25, q 26, q 22, q 23, q 24, q 4, q 5, q 6]) rfl rfl (ws' := lwW E q lt nu sun dry g tg pf kf fs ft fh (o_X7_hold_wk g fl fr si mo at_ wk sun dry len need x1 x2 x3) (o_X7_hold_5 g fl fr si mo at_ wk sun dry len need x1 x2 x3) (o_X7_hold_6 g fl fr si mo at_ wk sun dry len need x1 x2 x3) v ms mw sl tx f1 f2 f3 bs sz am len need psz ksz (nI zk) (o_X7_hold_4_4 g fl fr si mo at_ wk sun dry len need x1 x2 x3) (o_X7_hold_4_5 g fl fr si mo at_ wk sun dry len need x1 x2 x3) (o_X7_hold_4_6 g fl fr si mo at_ wk sun dry len need x1 x2 x3)) rfl rfl (rest := []) rfl (Nat.le_of_ble_eq_true rfl) ⟨Nat.le_of_ble_eq_true rfl, Nat.le_of_ble_eq_true rfl⟩ ⟨Nat.le_of_ble_eq_true rfl, Nat.le_of_ble_eq_true rfl⟩ (fun H locs hG => ?_)
  refine lv_aload_n hx hb dL_law_459 rfl (lv_at hl 2 rfl) ?_
  refine lv_aload_n hx hb dL_law_460 rfl (lv_at hl 0 rfl) ?_
  refine lv_iload_n hx hb dL_law_461 rfl (lv_at hl 3 rfl) ?_
  refine lv_iconst (v := 1) hx hb dL_law_462 (by decide) ?_
  refine lv_iadd hx hb dL_law_463 ?_
  refine va_sld hx hb hX hbl hbA hG.2.2 hv1 dL_law_464 ?_
  refine z_ti e1.symm ?_
  refine lv_aload_n hx hb dL_law_465 rfl (lv_at hl 0 rfl) ?_
  refine lv_iload_n hx hb dL_law_466 rfl (lv_at hl 3 rfl) ?_
  refine lv_iconst (v := 2) hx hb dL_law_467 (by decide) ?_
  refine lv_iadd hx hb dL_law_468 ?_
  refine va_sld hx hb hX hbl hbA hG.2.2 hv2 dL_law_469 ?_
  refine z_ti e2.symm ?_
  refine lv_aload_n hx hb dL_law_470 rfl (lv_at hl 0 rfl) ?_
  refine lv_iload_n hx hb dL_law_471 rfl (lv_at hl 3 rfl) ?_
  refine lv_iconst (v := 3) hx hb dL_law_472 (by decide) ?_
  refine lv_iadd hx hb dL_law_473 ?_
  refine va_sld hx hb hX hbl hbA hG.2.2 hv3 dL_law_474 ?_
  refine z_ti e3.symm ?_
  refine z_callVG (n := 3) C (inr27 _ (List.mem_of_getElem? (i := 5) rfl)) (inr1 _ (List.mem_of_getElem? (i := 5) rfl)) (inr27 _ (List.mem_of_getElem? (i := 2) rfl)) (inr27 _ (List.mem_of_getElem? (i := 3) rfl)) (inr27 _ (List.mem_of_getElem? (i := 4) rfl)) (Cn := RX8) ⟨by decide +kernel, by decide +kernel, by decide +kernel⟩ rfl dL_law_475 (c_X8_hold l E v ms sl x1 x2 x3 (q 27) (q 28) (q 29) (q 30) (q 31) (q 32) (q 33) (q 34) (q 35) (Inv.mo hI hB)) hl hG 27 rfl [27, 28, 30] (by decide) rfl (ads := [q 27, q 28, q 30]) rfl rfl (ws' := lwW E q lt nu sun dry g tg pf kf fs ft fh (o_X7_hold_wk g fl fr si mo at_ wk sun dry len need x1 x2 x3) (o_X7_hold_5 g fl fr si mo at_ wk sun dry len need x1 x2 x3) (o_X7_hold_6 g fl fr si mo at_ wk sun dry len need x1 x2 x3) v ms mw ((O_X8_hold v ms sl x1 x2 x3).2) tx f1 f2 f3 bs sz am len need psz ksz (nI zk) (o_X7_hold_4_4 g fl fr si mo at_ wk sun dry len need x1 x2 x3) (o_X7_hold_4_5 g fl fr si mo at_ wk sun dry len need x1 x2 x3) (o_X7_hold_4_6 g fl fr si mo at_ wk sun dry len need x1 x2 x3)) rfl rfl (rest := [.int (o_X7_hold_r g fl fr si mo at_ wk sun dry len need x1 x2 x3)]) rfl (Nat.le_of_ble_eq_true rfl) ⟨Nat.le_of_ble_eq_true rfl, Nat.le_of_ble_eq_true rfl⟩ ⟨Nat.le_of_ble_eq_true rfl, Nat.le_of_ble_eq_true rfl⟩ (fun H locs hG => ?_)
  refine lv_icmp_eq (tgt := 806) hx hb dL_law_478 (by decide) (fun c9 => ?_) (fun c9 => absurd hq.1 c9)
  obtain ⟨-, hI2⟩ := hq
  exact K lt nu sun dry g tg pf kf fs ft fh (o_X7_hold_wk g fl fr si mo at_ wk sun dry len need x1 x2 x3) (o_X7_hold_5 g fl fr si mo at_ wk sun dry len need x1 x2 x3) (o_X7_hold_6 g fl fr si mo at_ wk sun dry len need x1 x2 x3) v ms mw ((O_X8_hold v ms sl x1 x2 x3).2) tx f1 f2 f3 bs sz am len need psz ksz (nI zk) (o_X7_hold_4_4 g fl fr si mo at_ wk sun dry len need x1 x2 x3) (o_X7_hold_4_5 g fl fr si mo at_ wk sun dry len need x1 x2 x3) (o_X7_hold_4_6 g fl fr si mo at_ wk sun dry len need x1 x2 x3) _ _ _ _ hI2 rfl H locs hG ls hl
set_option maxRecDepth 100000 in
set_option maxHeartbeats 4000000 in
theorem lc_play {l : Launch} {E : zE} {p : Program} {e : Env} {s : State} {m : MethodId} {below : List Frame} {meth : Method} {c : Code} {b L : Nat} {xs : Nat → Int32} {q : Nat → Nat} {i : Nat} {Bd : Int} (C : zC E p s m #[Value.ref b] c cL_law 4 RL (fun a => s.heap.size ≤ a)) (hX : va_X b L xs s s.heap) (hbl : b < s.heap.size) (hL : L ≤ 320) (hi : i + 5 ≤ L) (hB : Bd < 1000000) (K : lwNext l E p e s m below meth c b i q (Bd + 24) 806) : lwNext l E p e s m below meth c b i q Bd 483 := by
  intro lt nu sun dry g tg pf kf fs ft fh wk fl fr v ms mw sl tx f1 f2 f3 bs sz am len need psz ksz zi si mo at_ zk na nk nl hI hz9 H locs hG ls hl
  subst hz9
  have hx := C.1.1
  have hb := C.1.2.1
  have hbA : ¬ s.heap.size ≤ b := Nat.not_le.mpr hbl
  have hv1 : vp_in (nI i + 1) L := by rw [show (nI i + 1 : Int32) = nI (i + 1) from nI_add i 1]; exact vp_in_nI (by omega) (by omega)
  obtain ⟨x1, e1⟩ : ∃ y : Int32, y = xs (nI i + 1).toNatClampNeg := ⟨_, rfl⟩
  have hv2 : vp_in (nI i + 2) L := by rw [show (nI i + 2 : Int32) = nI (i + 2) from nI_add i 2]; exact vp_in_nI (by omega) (by omega)
  obtain ⟨x2, e2⟩ : ∃ y : Int32, y = xs (nI i + 2).toNatClampNeg := ⟨_, rfl⟩
  have hI0 := hI
  obtain ⟨hs, he, hg, hp, p1, p2, p3, hk, k1, k2, k3, t1, t2, t3, t4, z1, z2, z3⟩ := hI0
  have hq := q_play fl fr wk bs si mo at_ x1 x2 hI hB
  refine lv_aload_n hx hb dL_law_483 rfl (lv_at hl 1 rfl) ?_
  refine lv_aload_n hx hb dL_law_484 rfl (lv_at hl 0 rfl) ?_
  refine lv_iload_n hx hb dL_law_485 rfl (lv_at hl 3 rfl) ?_
  refine lv_iconst (v := 1) hx hb dL_law_486 (by decide) ?_
  refine lv_iadd hx hb dL_law_487 ?_
  refine va_sld hx hb hX hbl hbA hG.2.2 hv1 dL_law_488 ?_
  refine z_ti e1.symm ?_
  refine lv_aload_n hx hb dL_law_489 rfl (lv_at hl 0 rfl) ?_
  refine lv_iload_n hx hb dL_law_490 rfl (lv_at hl 3 rfl) ?_
  refine lv_iconst (v := 2) hx hb dL_law_491 (by decide) ?_
  refine lv_iadd hx hb dL_law_492 ?_
  refine va_sld hx hb hX hbl hbA hG.2.2 hv2 dL_law_493 ?_
  refine z_ti e2.symm ?_
  refine z_callVG (n := 2) C (inr27 _ (List.mem_of_getElem? (i := 9) rfl)) (inr1 _ (List.mem_of_getElem? (i := 2) rfl)) (inr27 _ (List.mem_of_getElem? (i := 6) rfl)) (inr27 _ (List.mem_of_getElem? (i := 7) rfl)) (inr27 _ (List.mem_of_getElem? (i := 8) rfl)) (Cn := RX7) ⟨by decide +kernel, by decide +kernel, by decide +kernel⟩ rfl dL_law_494 (c_X7_play l E g fl fr si mo at_ wk sun dry len need x1 x2 (q 0) (q 1) (q 4) (q 7) (q 10) (q 13) (q 15) (q 17) (q 21) (q 8) (q 9) (q 22) (q 25) (q 26) (q 23) (q 24) (q 5) (q 6)) hl hG 0 rfl [0, 7, 8, 9, 21, 25, 26, 22, 23, 24, 4, 5, 6] (by decide) rfl (ads := [q 0, q 7, q 8, q 9, q 21, q 25, q 26, q 22, q 23, q 24, q 4, q 5, q 6]) rfl rfl (ws' := lwW E q lt nu sun dry g tg pf kf fs ft fh (o_X7_play_wk g fl fr si mo at_ wk sun dry len need x1 x2) (o_X7_play_5 g fl fr si mo at_ wk sun dry len need x1 x2) (o_X7_play_6 g fl fr si mo at_ wk sun dry len need x1 x2) v ms mw sl tx f1 f2 f3 bs sz am len need psz ksz (nI zk) (o_X7_play_4_4 g fl fr si mo at_ wk sun dry len need x1 x2) (o_X7_play_4_5 g fl fr si mo at_ wk sun dry len need x1 x2) (o_X7_play_4_6 g fl fr si mo at_ wk sun dry len need x1 x2)) rfl rfl (rest := []) rfl (Nat.le_of_ble_eq_true rfl) ⟨Nat.le_of_ble_eq_true rfl, Nat.le_of_ble_eq_true rfl⟩ ⟨Nat.le_of_ble_eq_true rfl, Nat.le_of_ble_eq_true rfl⟩ (fun H locs hG => ?_)
  refine lv_aload_n hx hb dL_law_497 rfl (lv_at hl 2 rfl) ?_
  refine lv_aload_n hx hb dL_law_498 rfl (lv_at hl 0 rfl) ?_
  refine lv_iload_n hx hb dL_law_499 rfl (lv_at hl 3 rfl) ?_
  refine lv_iconst (v := 1) hx hb dL_law_500 (by decide) ?_
  refine lv_iadd hx hb dL_law_501 ?_
  refine va_sld hx hb hX hbl hbA hG.2.2 hv1 dL_law_502 ?_
  refine z_ti e1.symm ?_
  refine lv_aload_n hx hb dL_law_503 rfl (lv_at hl 0 rfl) ?_
  refine lv_iload_n hx hb dL_law_504 rfl (lv_at hl 3 rfl) ?_
  refine lv_iconst (v := 2) hx hb dL_law_505 (by decide) ?_
  refine lv_iadd hx hb dL_law_506 ?_
  refine va_sld hx hb hX hbl hbA hG.2.2 hv2 dL_law_507 ?_
  refine z_ti e2.symm ?_
  refine z_callVG (n := 2) C (inr28 _ (List.mem_of_getElem? (i := 6) rfl)) (inr1 _ (List.mem_of_getElem? (i := 5) rfl)) (inr28 _ (List.mem_of_getElem? (i := 3) rfl)) (inr28 _ (List.mem_of_getElem? (i := 4) rfl)) (inr28 _ (List.mem_of_getElem? (i := 5) rfl)) (Cn := RX8) ⟨by decide +kernel, by decide +kernel, by decide +kernel⟩ rfl dL_law_508 (c_X8_play l E v ms sl bs x1 x2 (q 27) (q 28) (q 29) (q 30) (q 31) (q 32) (q 33) (q 34) (q 35) (Inv.mo hI hB)) hl hG 27 rfl [27, 28, 30, 35] (by decide) rfl (ads := [q 27, q 28, q 30, q 35]) rfl rfl (ws' := lwW E q lt nu sun dry g tg pf kf fs ft fh (o_X7_play_wk g fl fr si mo at_ wk sun dry len need x1 x2) (o_X7_play_5 g fl fr si mo at_ wk sun dry len need x1 x2) (o_X7_play_6 g fl fr si mo at_ wk sun dry len need x1 x2) (o_X8_play_v v ms sl bs x1 x2) ms mw (o_X8_play_2 v ms sl bs x1 x2) tx f1 f2 f3 (o_X8_play_3 v ms sl bs x1 x2) sz am len need psz ksz (nI zk) (o_X7_play_4_4 g fl fr si mo at_ wk sun dry len need x1 x2) (o_X7_play_4_5 g fl fr si mo at_ wk sun dry len need x1 x2) (o_X7_play_4_6 g fl fr si mo at_ wk sun dry len need x1 x2)) rfl rfl (rest := [.int (o_X7_play_r g fl fr si mo at_ wk sun dry len need x1 x2)]) rfl (Nat.le_of_ble_eq_true rfl) ⟨Nat.le_of_ble_eq_true rfl, Nat.le_of_ble_eq_true rfl⟩ ⟨Nat.le_of_ble_eq_true rfl, Nat.le_of_ble_eq_true rfl⟩ (fun H locs hG => ?_)
  refine lv_icmp_eq (tgt := 806) hx hb dL_law_511 (by decide) (fun c9 => ?_) (fun c9 => absurd hq.1 c9)
  obtain ⟨-, hI2⟩ := hq
  exact K lt nu sun dry g tg pf kf fs ft fh (o_X7_play_wk g fl fr si mo at_ wk sun dry len need x1 x2) (o_X7_play_5 g fl fr si mo at_ wk sun dry len need x1 x2) (o_X7_play_6 g fl fr si mo at_ wk sun dry len need x1 x2) (o_X8_play_v v ms sl bs x1 x2) ms mw (o_X8_play_2 v ms sl bs x1 x2) tx f1 f2 f3 (o_X8_play_3 v ms sl bs x1 x2) sz am len need psz ksz (nI zk) (o_X7_play_4_4 g fl fr si mo at_ wk sun dry len need x1 x2) (o_X7_play_4_5 g fl fr si mo at_ wk sun dry len need x1 x2) (o_X7_play_4_6 g fl fr si mo at_ wk sun dry len need x1 x2) _ _ _ _ hI2 rfl H locs hG ls hl
set_option maxRecDepth 100000 in
set_option maxHeartbeats 4000000 in
theorem lc_kind {l : Launch} {E : zE} {p : Program} {e : Env} {s : State} {m : MethodId} {below : List Frame} {meth : Method} {c : Code} {b L : Nat} {xs : Nat → Int32} {q : Nat → Nat} {i : Nat} {Bd : Int} (C : zC E p s m #[Value.ref b] c cL_law 4 RL (fun a => s.heap.size ≤ a)) (hX : va_X b L xs s s.heap) (hbl : b < s.heap.size) (hL : L ≤ 320) (hi : i + 5 ≤ L) (hB : Bd < 1000000) (K : lwNext l E p e s m below meth c b i q (Bd + 24) 806) : lwNext l E p e s m below meth c b i q Bd 516 := by
  intro lt nu sun dry g tg pf kf fs ft fh wk fl fr v ms mw sl tx f1 f2 f3 bs sz am len need psz ksz zi si mo at_ zk na nk nl hI hz9 H locs hG ls hl
  subst hz9
  have hx := C.1.1
  have hb := C.1.2.1
  have hbA : ¬ s.heap.size ≤ b := Nat.not_le.mpr hbl
  have hv1 : vp_in (nI i + 1) L := by rw [show (nI i + 1 : Int32) = nI (i + 1) from nI_add i 1]; exact vp_in_nI (by omega) (by omega)
  obtain ⟨x1, e1⟩ : ∃ y : Int32, y = xs (nI i + 1).toNatClampNeg := ⟨_, rfl⟩
  have hv2 : vp_in (nI i + 2) L := by rw [show (nI i + 2 : Int32) = nI (i + 2) from nI_add i 2]; exact vp_in_nI (by omega) (by omega)
  obtain ⟨x2, e2⟩ : ∃ y : Int32, y = xs (nI i + 2).toNatClampNeg := ⟨_, rfl⟩
  have hv3 : vp_in (nI i + 3) L := by rw [show (nI i + 3 : Int32) = nI (i + 3) from nI_add i 3]; exact vp_in_nI (by omega) (by omega)
  obtain ⟨x3, e3⟩ : ∃ y : Int32, y = xs (nI i + 3).toNatClampNeg := ⟨_, rfl⟩
  have hI0 := hI
  obtain ⟨hs, he, hg, hp, p1, p2, p3, hk, k1, k2, k3, t1, t2, t3, t4, z1, z2, z3⟩ := hI0
  have hq := q_kind tg x1 x2 x3 hI hB
  refine lv_aload_n hx hb dL_law_516 rfl (lv_at hl 1 rfl) ?_
  refine lv_aload_n hx hb dL_law_517 rfl (lv_at hl 0 rfl) ?_
  refine lv_iload_n hx hb dL_law_518 rfl (lv_at hl 3 rfl) ?_
  refine lv_iconst (v := 1) hx hb dL_law_519 (by decide) ?_
  refine lv_iadd hx hb dL_law_520 ?_
  refine va_sld hx hb hX hbl hbA hG.2.2 hv1 dL_law_521 ?_
  refine z_ti e1.symm ?_
  refine lv_aload_n hx hb dL_law_522 rfl (lv_at hl 0 rfl) ?_
  refine lv_iload_n hx hb dL_law_523 rfl (lv_at hl 3 rfl) ?_
  refine lv_iconst (v := 2) hx hb dL_law_524 (by decide) ?_
  refine lv_iadd hx hb dL_law_525 ?_
  refine va_sld hx hb hX hbl hbA hG.2.2 hv2 dL_law_526 ?_
  refine z_ti e2.symm ?_
  refine lv_aload_n hx hb dL_law_527 rfl (lv_at hl 0 rfl) ?_
  refine lv_iload_n hx hb dL_law_528 rfl (lv_at hl 3 rfl) ?_
  refine lv_iconst (v := 3) hx hb dL_law_529 (by decide) ?_
  refine lv_iadd hx hb dL_law_530 ?_
  refine va_sld hx hb hX hbl hbA hG.2.2 hv3 dL_law_531 ?_
  refine z_ti e3.symm ?_
  refine z_callVG (n := 3) C (inr28 _ (List.mem_of_getElem? (i := 20) rfl)) (inr1 _ (List.mem_of_getElem? (i := 2) rfl)) (inr28 _ (List.mem_of_getElem? (i := 17) rfl)) (inr28 _ (List.mem_of_getElem? (i := 18) rfl)) (inr28 _ (List.mem_of_getElem? (i := 19) rfl)) (Cn := RX7) ⟨by decide +kernel, by decide +kernel, by decide +kernel⟩ rfl dL_law_532 (c_X7_kind l E g tg sun dry len need x1 x2 x3 (q 0) (q 1) (q 4) (q 7) (q 10) (q 13) (q 15) (q 17) (q 21) (q 8) (q 9) (q 11) (q 12) (q 5) (q 6)) hl hG 0 rfl [0, 7, 8, 9, 10, 11, 12, 4, 5, 6] (by decide) rfl (ads := [q 0, q 7, q 8, q 9, q 10, q 11, q 12, q 4, q 5, q 6]) rfl rfl (ws' := lwW E q lt nu sun dry g (o_X7_kind_tg g tg sun dry len need x1 x2 x3) pf kf fs ft fh wk fl fr v ms mw sl tx f1 f2 f3 bs sz am len need psz ksz (nI zk) si mo at_) rfl rfl (rest := []) rfl (Nat.le_of_ble_eq_true rfl) ⟨Nat.le_of_ble_eq_true rfl, Nat.le_of_ble_eq_true rfl⟩ ⟨Nat.le_of_ble_eq_true rfl, Nat.le_of_ble_eq_true rfl⟩ (fun H locs hG => ?_)
  refine lv_aload_n hx hb dL_law_535 rfl (lv_at hl 2 rfl) ?_
  refine lv_aload_n hx hb dL_law_536 rfl (lv_at hl 0 rfl) ?_
  refine lv_iload_n hx hb dL_law_537 rfl (lv_at hl 3 rfl) ?_
  refine lv_iconst (v := 1) hx hb dL_law_538 (by decide) ?_
  refine lv_iadd hx hb dL_law_539 ?_
  refine va_sld hx hb hX hbl hbA hG.2.2 hv1 dL_law_540 ?_
  refine z_ti e1.symm ?_
  refine lv_aload_n hx hb dL_law_541 rfl (lv_at hl 0 rfl) ?_
  refine lv_iload_n hx hb dL_law_542 rfl (lv_at hl 3 rfl) ?_
  refine lv_iconst (v := 2) hx hb dL_law_543 (by decide) ?_
  refine lv_iadd hx hb dL_law_544 ?_
  refine va_sld hx hb hX hbl hbA hG.2.2 hv2 dL_law_545 ?_
  refine z_ti e2.symm ?_
  refine lv_aload_n hx hb dL_law_546 rfl (lv_at hl 0 rfl) ?_
  refine lv_iload_n hx hb dL_law_547 rfl (lv_at hl 3 rfl) ?_
  refine lv_iconst (v := 3) hx hb dL_law_548 (by decide) ?_
  refine lv_iadd hx hb dL_law_549 ?_
  refine va_sld hx hb hX hbl hbA hG.2.2 hv3 dL_law_550 ?_
  refine z_ti e3.symm ?_
  refine z_callVG (n := 3) C (inr29 _ (List.mem_of_getElem? (i := 0) rfl)) (inr1 _ (List.mem_of_getElem? (i := 5) rfl)) (inr28 _ (List.mem_of_getElem? (i := 21) rfl)) (inr28 _ (List.mem_of_getElem? (i := 22) rfl)) (inr28 _ (List.mem_of_getElem? (i := 23) rfl)) (Cn := RX8) ⟨by decide +kernel, by decide +kernel, by decide +kernel⟩ rfl dL_law_551 (c_X8_kind l E v ms sl x1 x2 x3 (q 27) (q 28) (q 29) (q 30) (q 31) (q 32) (q 33) (q 34) (q 35) (Inv.mo hI hB)) hl hG 27 rfl [27, 28, 30] (by decide) rfl (ads := [q 27, q 28, q 30]) rfl rfl (ws' := lwW E q lt nu sun dry g (o_X7_kind_tg g tg sun dry len need x1 x2 x3) pf kf fs ft fh wk fl fr (o_X8_kind_v v ms sl x1 x2 x3) ms mw (o_X8_kind_2 v ms sl x1 x2 x3) tx f1 f2 f3 bs sz am len need psz ksz (nI zk) si mo at_) rfl rfl (rest := [.int (o_X7_kind_r g tg sun dry len need x1 x2 x3)]) rfl (Nat.le_of_ble_eq_true rfl) ⟨Nat.le_of_ble_eq_true rfl, Nat.le_of_ble_eq_true rfl⟩ ⟨Nat.le_of_ble_eq_true rfl, Nat.le_of_ble_eq_true rfl⟩ (fun H locs hG => ?_)
  refine lv_icmp_eq (tgt := 806) hx hb dL_law_554 (by decide) (fun c9 => ?_) (fun c9 => absurd hq.1 c9)
  obtain ⟨-, hI2⟩ := hq
  exact K lt nu sun dry g (o_X7_kind_tg g tg sun dry len need x1 x2 x3) pf kf fs ft fh wk fl fr (o_X8_kind_v v ms sl x1 x2 x3) ms mw (o_X8_kind_2 v ms sl x1 x2 x3) tx f1 f2 f3 bs sz am len need psz ksz (nI zk) si mo at_ _ _ _ _ hI2 rfl H locs hG ls hl
set_option maxRecDepth 100000 in
set_option maxHeartbeats 4000000 in
theorem lc_see {l : Launch} {E : zE} {p : Program} {e : Env} {s : State} {m : MethodId} {below : List Frame} {meth : Method} {c : Code} {b L : Nat} {xs : Nat → Int32} {q : Nat → Nat} {i : Nat} {Bd : Int} (C : zC E p s m #[Value.ref b] c cL_law 4 RL (fun a => s.heap.size ≤ a)) (hX : va_X b L xs s s.heap) (hbl : b < s.heap.size) (hL : L ≤ 320) (hi : i + 5 ≤ L) (hB : Bd < 1000000) (K : lwNext l E p e s m below meth c b i q (Bd + 24) 806) : lwNext l E p e s m below meth c b i q Bd 559 := by
  intro lt nu sun dry g tg pf kf fs ft fh wk fl fr v ms mw sl tx f1 f2 f3 bs sz am len need psz ksz zi si mo at_ zk na nk nl hI hz9 H locs hG ls hl
  subst hz9
  have hx := C.1.1
  have hb := C.1.2.1
  have hbA : ¬ s.heap.size ≤ b := Nat.not_le.mpr hbl
  have hv1 : vp_in (nI i + 1) L := by rw [show (nI i + 1 : Int32) = nI (i + 1) from nI_add i 1]; exact vp_in_nI (by omega) (by omega)
  obtain ⟨x1, e1⟩ : ∃ y : Int32, y = xs (nI i + 1).toNatClampNeg := ⟨_, rfl⟩
  have hv2 : vp_in (nI i + 2) L := by rw [show (nI i + 2 : Int32) = nI (i + 2) from nI_add i 2]; exact vp_in_nI (by omega) (by omega)
  obtain ⟨x2, e2⟩ : ∃ y : Int32, y = xs (nI i + 2).toNatClampNeg := ⟨_, rfl⟩
  have hv3 : vp_in (nI i + 3) L := by rw [show (nI i + 3 : Int32) = nI (i + 3) from nI_add i 3]; exact vp_in_nI (by omega) (by omega)
  obtain ⟨x3, e3⟩ : ∃ y : Int32, y = xs (nI i + 3).toNatClampNeg := ⟨_, rfl⟩
  have hI0 := hI
  obtain ⟨hs, he, hg, hp, p1, p2, p3, hk, k1, k2, k3, t1, t2, t3, t4, z1, z2, z3⟩ := hI0
  have hq := q_see x1 x2 x3 hI hB
  refine lv_aload_n hx hb dL_law_559 rfl (lv_at hl 1 rfl) ?_
  refine lv_aload_n hx hb dL_law_560 rfl (lv_at hl 0 rfl) ?_
  refine lv_iload_n hx hb dL_law_561 rfl (lv_at hl 3 rfl) ?_
  refine lv_iconst (v := 1) hx hb dL_law_562 (by decide) ?_
  refine lv_iadd hx hb dL_law_563 ?_
  refine va_sld hx hb hX hbl hbA hG.2.2 hv1 dL_law_564 ?_
  refine z_ti e1.symm ?_
  refine lv_aload_n hx hb dL_law_565 rfl (lv_at hl 0 rfl) ?_
  refine lv_iload_n hx hb dL_law_566 rfl (lv_at hl 3 rfl) ?_
  refine lv_iconst (v := 2) hx hb dL_law_567 (by decide) ?_
  refine lv_iadd hx hb dL_law_568 ?_
  refine va_sld hx hb hX hbl hbA hG.2.2 hv2 dL_law_569 ?_
  refine z_ti e2.symm ?_
  refine lv_aload_n hx hb dL_law_570 rfl (lv_at hl 0 rfl) ?_
  refine lv_iload_n hx hb dL_law_571 rfl (lv_at hl 3 rfl) ?_
  refine lv_iconst (v := 3) hx hb dL_law_572 (by decide) ?_
  refine lv_iadd hx hb dL_law_573 ?_
  refine va_sld hx hb hX hbl hbA hG.2.2 hv3 dL_law_574 ?_
  refine z_ti e3.symm ?_
  refine z_callVG (n := 3) C (inr29 _ (List.mem_of_getElem? (i := 5) rfl)) (inr1 _ (List.mem_of_getElem? (i := 2) rfl)) (inr29 _ (List.mem_of_getElem? (i := 2) rfl)) (inr29 _ (List.mem_of_getElem? (i := 3) rfl)) (inr29 _ (List.mem_of_getElem? (i := 4) rfl)) (Cn := RX7) ⟨by decide +kernel, by decide +kernel, by decide +kernel⟩ rfl dL_law_575 (c_X7_see l E fs ft fh zk x1 x2 x3 (q 0) (q 1) (q 4) (q 7) (q 10) (q 13) (q 15) (q 17) (q 21) (q 18) (q 19) (q 20)) hl hG 0 rfl [0, 17, 18, 19, 20] (by decide) rfl (ads := [q 0, q 17, q 18, q 19, q 20]) rfl rfl (ws' := lwW E q lt nu sun dry g tg pf kf (o_X7_see_2 fs ft fh zk x1 x2 x3) (o_X7_see_3 fs ft fh zk x1 x2 x3) (o_X7_see_4 fs ft fh zk x1 x2 x3) wk fl fr v ms mw sl tx f1 f2 f3 bs sz am len need psz ksz (o_X7_see_1_3 fs ft fh zk x1 x2 x3) si mo at_) rfl rfl (rest := []) rfl (Nat.le_of_ble_eq_true rfl) ⟨Nat.le_of_ble_eq_true rfl, Nat.le_of_ble_eq_true rfl⟩ ⟨Nat.le_of_ble_eq_true rfl, Nat.le_of_ble_eq_true rfl⟩ (fun H locs hG => ?_)
  refine lv_aload_n hx hb dL_law_578 rfl (lv_at hl 2 rfl) ?_
  refine lv_aload_n hx hb dL_law_579 rfl (lv_at hl 0 rfl) ?_
  refine lv_iload_n hx hb dL_law_580 rfl (lv_at hl 3 rfl) ?_
  refine lv_iconst (v := 1) hx hb dL_law_581 (by decide) ?_
  refine lv_iadd hx hb dL_law_582 ?_
  refine va_sld hx hb hX hbl hbA hG.2.2 hv1 dL_law_583 ?_
  refine z_ti e1.symm ?_
  refine lv_aload_n hx hb dL_law_584 rfl (lv_at hl 0 rfl) ?_
  refine lv_iload_n hx hb dL_law_585 rfl (lv_at hl 3 rfl) ?_
  refine lv_iconst (v := 2) hx hb dL_law_586 (by decide) ?_
  refine lv_iadd hx hb dL_law_587 ?_
  refine va_sld hx hb hX hbl hbA hG.2.2 hv2 dL_law_588 ?_
  refine z_ti e2.symm ?_
  refine lv_aload_n hx hb dL_law_589 rfl (lv_at hl 0 rfl) ?_
  refine lv_iload_n hx hb dL_law_590 rfl (lv_at hl 3 rfl) ?_
  refine lv_iconst (v := 3) hx hb dL_law_591 (by decide) ?_
  refine lv_iadd hx hb dL_law_592 ?_
  refine va_sld hx hb hX hbl hbA hG.2.2 hv3 dL_law_593 ?_
  refine z_ti e3.symm ?_
  refine z_callVG (n := 3) C (inr29 _ (List.mem_of_getElem? (i := 14) rfl)) (inr1 _ (List.mem_of_getElem? (i := 5) rfl)) (inr29 _ (List.mem_of_getElem? (i := 11) rfl)) (inr29 _ (List.mem_of_getElem? (i := 12) rfl)) (inr29 _ (List.mem_of_getElem? (i := 13) rfl)) (Cn := RX8) ⟨by decide +kernel, by decide +kernel, by decide +kernel⟩ rfl dL_law_594 (c_X8_see l E v f1 f2 f3 x1 x2 x3 zk (q 27) (q 28) (q 29) (q 30) (q 31) (q 32) (q 33) (q 34) (q 35) z1 z2) hl hG 27 rfl [27, 32, 33, 34] (by decide) rfl (ads := [q 27, q 32, q 33, q 34]) rfl rfl (ws' := lwW E q lt nu sun dry g tg pf kf (o_X7_see_2 fs ft fh zk x1 x2 x3) (o_X7_see_3 fs ft fh zk x1 x2 x3) (o_X7_see_4 fs ft fh zk x1 x2 x3) wk fl fr (o_X8_see_v v f1 f2 f3 x1 x2 x3 zk) ms mw sl tx (o_X8_see_1 v f1 f2 f3 x1 x2 x3 zk) (o_X8_see_2 v f1 f2 f3 x1 x2 x3 zk) (o_X8_see_3 v f1 f2 f3 x1 x2 x3 zk) bs sz am len need psz ksz (o_X7_see_1_3 fs ft fh zk x1 x2 x3) si mo at_) rfl rfl (rest := [.int (o_X7_see_r fs ft fh zk x1 x2 x3)]) rfl (Nat.le_of_ble_eq_true rfl) ⟨Nat.le_of_ble_eq_true rfl, Nat.le_of_ble_eq_true rfl⟩ ⟨Nat.le_of_ble_eq_true rfl, Nat.le_of_ble_eq_true rfl⟩ (fun H locs hG => ?_)
  refine lv_icmp_eq (tgt := 806) hx hb dL_law_597 (by decide) (fun c9 => ?_) (fun c9 => absurd hq.1 c9)
  obtain ⟨-, nb, hz9, hI2⟩ := hq
  exact K lt nu sun dry g tg pf kf (o_X7_see_2 fs ft fh zk x1 x2 x3) (o_X7_see_3 fs ft fh zk x1 x2 x3) (o_X7_see_4 fs ft fh zk x1 x2 x3) wk fl fr (o_X8_see_v v f1 f2 f3 x1 x2 x3 zk) ms mw sl tx (o_X8_see_1 v f1 f2 f3 x1 x2 x3 zk) (o_X8_see_2 v f1 f2 f3 x1 x2 x3 zk) (o_X8_see_3 v f1 f2 f3 x1 x2 x3 zk) bs sz am len need psz ksz (o_X7_see_1_3 fs ft fh zk x1 x2 x3) si mo at_ _ _ _ _ hI2 hz9 H locs hG ls hl
set_option maxRecDepth 100000 in
set_option maxHeartbeats 4000000 in
theorem lc_forget {l : Launch} {E : zE} {p : Program} {e : Env} {s : State} {m : MethodId} {below : List Frame} {meth : Method} {c : Code} {b L : Nat} {xs : Nat → Int32} {q : Nat → Nat} {i : Nat} {Bd : Int} (C : zC E p s m #[Value.ref b] c cL_law 4 RL (fun a => s.heap.size ≤ a)) (hX : va_X b L xs s s.heap) (hbl : b < s.heap.size) (hL : L ≤ 320) (hi : i + 5 ≤ L) (hB : Bd < 1000000) (K : lwNext l E p e s m below meth c b i q (Bd + 24) 806) : lwNext l E p e s m below meth c b i q Bd 602 := by
  intro lt nu sun dry g tg pf kf fs ft fh wk fl fr v ms mw sl tx f1 f2 f3 bs sz am len need psz ksz zi si mo at_ zk na nk nl hI hz9 H locs hG ls hl
  subst hz9
  have hx := C.1.1
  have hb := C.1.2.1
  have hbA : ¬ s.heap.size ≤ b := Nat.not_le.mpr hbl
  have hI0 := hI
  obtain ⟨hs, he, hg, hp, p1, p2, p3, hk, k1, k2, k3, t1, t2, t3, t4, z1, z2, z3⟩ := hI0
  have hq := q_forget hI hB
  refine lv_aload_n hx hb dL_law_602 rfl (lv_at hl 1 rfl) ?_
  refine z_callVG (n := 0) C (inr29 _ (List.mem_of_getElem? (i := 19) rfl)) (inr1 _ (List.mem_of_getElem? (i := 2) rfl)) (inr29 _ (List.mem_of_getElem? (i := 16) rfl)) (inr29 _ (List.mem_of_getElem? (i := 17) rfl)) (inr29 _ (List.mem_of_getElem? (i := 18) rfl)) (Cn := RX7) ⟨by decide +kernel, by decide +kernel, by decide +kernel⟩ rfl dL_law_603 (c_X7_forget l E fs ft fh zk (q 0) (q 1) (q 4) (q 7) (q 10) (q 13) (q 15) (q 17) (q 21) (q 18) (q 19) (q 20)) hl hG 0 rfl [0, 17, 18, 19, 20] (by decide) rfl (ads := [q 0, q 17, q 18, q 19, q 20]) rfl rfl (ws' := lwW E q lt nu sun dry g tg pf kf fs ft fh wk fl fr v ms mw sl tx f1 f2 f3 bs sz am len need psz ksz 0 si mo at_) rfl rfl (rest := []) rfl (Nat.le_of_ble_eq_true rfl) ⟨Nat.le_of_ble_eq_true rfl, Nat.le_of_ble_eq_true rfl⟩ ⟨Nat.le_of_ble_eq_true rfl, Nat.le_of_ble_eq_true rfl⟩ (fun H locs hG => ?_)
  refine lv_aload_n hx hb dL_law_606 rfl (lv_at hl 2 rfl) ?_
  refine z_callVG (n := 0) C (inr29 _ (List.mem_of_getElem? (i := 23) rfl)) (inr1 _ (List.mem_of_getElem? (i := 5) rfl)) (inr29 _ (List.mem_of_getElem? (i := 20) rfl)) (inr29 _ (List.mem_of_getElem? (i := 21) rfl)) (inr29 _ (List.mem_of_getElem? (i := 22) rfl)) (Cn := RX8) ⟨by decide +kernel, by decide +kernel, by decide +kernel⟩ rfl dL_law_607 (c_X8_forget l E v (q 27) (q 28) (q 29) (q 30) (q 31) (q 32) (q 33) (q 34) (q 35)) hl hG 27 rfl [27] (by decide) rfl (ads := [q 27]) rfl rfl (ws' := lwW E q lt nu sun dry g tg pf kf fs ft fh wk fl fr (o_X8_forget_v v) ms mw sl tx f1 f2 f3 bs sz am len need psz ksz 0 si mo at_) rfl rfl (rest := [.int (o_X7_forget_r fs ft fh zk)]) rfl (Nat.le_of_ble_eq_true rfl) ⟨Nat.le_of_ble_eq_true rfl, Nat.le_of_ble_eq_true rfl⟩ ⟨Nat.le_of_ble_eq_true rfl, Nat.le_of_ble_eq_true rfl⟩ (fun H locs hG => ?_)
  refine lv_icmp_eq (tgt := 806) hx hb dL_law_610 (by decide) (fun c9 => ?_) (fun c9 => absurd hq.1 c9)
  obtain ⟨-, hI2⟩ := hq
  exact K lt nu sun dry g tg pf kf fs ft fh wk fl fr (o_X8_forget_v v) ms mw sl tx f1 f2 f3 bs sz am len need psz ksz 0 si mo at_ _ _ _ _ hI2 rfl H locs hG ls hl
set_option maxRecDepth 100000 in
set_option maxHeartbeats 4000000 in
theorem lc_did {l : Launch} {E : zE} {p : Program} {e : Env} {s : State} {m : MethodId} {below : List Frame} {meth : Method} {c : Code} {b L : Nat} {xs : Nat → Int32} {q : Nat → Nat} {i : Nat} {Bd : Int} (C : zC E p s m #[Value.ref b] c cL_law 4 RL (fun a => s.heap.size ≤ a)) (hX : va_X b L xs s s.heap) (hbl : b < s.heap.size) (hL : L ≤ 320) (hi : i + 5 ≤ L) (hB : Bd < 1000000) (K : lwNext l E p e s m below meth c b i q (Bd + 24) 806) : lwNext l E p e s m below meth c b i q Bd 615 := by
  intro lt nu sun dry g tg pf kf fs ft fh wk fl fr v ms mw sl tx f1 f2 f3 bs sz am len need psz ksz zi si mo at_ zk na nk nl hI hz9 H locs hG ls hl
  subst hz9
  have hx := C.1.1
  have hb := C.1.2.1
  have hbA : ¬ s.heap.size ≤ b := Nat.not_le.mpr hbl
  have hv1 : vp_in (nI i + 1) L := by rw [show (nI i + 1 : Int32) = nI (i + 1) from nI_add i 1]; exact vp_in_nI (by omega) (by omega)
  obtain ⟨x1, e1⟩ : ∃ y : Int32, y = xs (nI i + 1).toNatClampNeg := ⟨_, rfl⟩
  have hI0 := hI
  obtain ⟨hs, he, hg, hp, p1, p2, p3, hk, k1, k2, k3, t1, t2, t3, t4, z1, z2, z3⟩ := hI0
  have hq := q_did tg x1 hI hB
  refine lv_aload_n hx hb dL_law_615 rfl (lv_at hl 1 rfl) ?_
  refine lv_aload_n hx hb dL_law_616 rfl (lv_at hl 0 rfl) ?_
  refine lv_iload_n hx hb dL_law_617 rfl (lv_at hl 3 rfl) ?_
  refine lv_iconst (v := 1) hx hb dL_law_618 (by decide) ?_
  refine lv_iadd hx hb dL_law_619 ?_
  refine va_sld hx hb hX hbl hbA hG.2.2 hv1 dL_law_620 ?_
  refine z_ti e1.symm ?_
  refine z_callVG (n := 1) C (inr30 _ (List.mem_of_getElem? (i := 3) rfl)) (inr1 _ (List.mem_of_getElem? (i := 2) rfl)) (inr30 _ (List.mem_of_getElem? (i := 0) rfl)) (inr30 _ (List.mem_of_getElem? (i := 1) rfl)) (inr30 _ (List.mem_of_getElem? (i := 2) rfl)) (Cn := RX7) ⟨by decide +kernel, by decide +kernel, by decide +kernel⟩ rfl dL_law_621 (c_X7_did l E g tg sun dry len need fs ft fh zk x1 (q 0) (q 1) (q 4) (q 7) (q 10) (q 13) (q 15) (q 17) (q 21) (q 8) (q 9) (q 11) (q 12) (q 5) (q 6) (q 18) (q 19) (q 20) (by omega)) hl hG 0 rfl [0, 7, 8, 9, 10, 11, 12, 4, 5, 6, 17, 18, 19, 20] (by decide) rfl (ads := [q 0, q 7, q 8, q 9, q 10, q 11, q 12, q 4, q 5, q 6, q 17, q 18, q 19, q 20]) rfl rfl (ws' := lwW E q lt nu sun dry g (o_X7_did_tg g tg sun dry len need fs ft fh zk x1) pf kf fs ft fh wk fl fr v ms mw sl tx f1 f2 f3 bs sz am len need psz ksz (nI zk) si mo at_) rfl rfl (rest := []) rfl (Nat.le_of_ble_eq_true rfl) ⟨Nat.le_of_ble_eq_true rfl, Nat.le_of_ble_eq_true rfl⟩ ⟨Nat.le_of_ble_eq_true rfl, Nat.le_of_ble_eq_true rfl⟩ (fun H locs hG => ?_)
  refine lv_aload_n hx hb dL_law_624 rfl (lv_at hl 2 rfl) ?_
  refine lv_aload_n hx hb dL_law_625 rfl (lv_at hl 0 rfl) ?_
  refine lv_iload_n hx hb dL_law_626 rfl (lv_at hl 3 rfl) ?_
  refine lv_iconst (v := 1) hx hb dL_law_627 (by decide) ?_
  refine lv_iadd hx hb dL_law_628 ?_
  refine va_sld hx hb hX hbl hbA hG.2.2 hv1 dL_law_629 ?_
  refine z_ti e1.symm ?_
  refine z_callVG (n := 1) C (inr30 _ (List.mem_of_getElem? (i := 17) rfl)) (inr1 _ (List.mem_of_getElem? (i := 5) rfl)) (inr30 _ (List.mem_of_getElem? (i := 14) rfl)) (inr30 _ (List.mem_of_getElem? (i := 15) rfl)) (inr30 _ (List.mem_of_getElem? (i := 16) rfl)) (Cn := RX8) ⟨by decide +kernel, by decide +kernel, by decide +kernel⟩ rfl dL_law_630 (c_X8_did l E v ms sl f1 f2 f3 x1 zk (q 27) (q 28) (q 29) (q 30) (q 31) (q 32) (q 33) (q 34) (q 35) (Inv.mo hI hB) z1 z2 (fun j hj => by rw [(z3 j hj).1]; exact (z3 j hj).2.2.2)) hl hG 27 rfl [27, 28, 30, 32, 33, 34] (by decide) rfl (ads := [q 27, q 28, q 30, q 32, q 33, q 34]) rfl rfl (ws' := lwW E q lt nu sun dry g (o_X7_did_tg g tg sun dry len need fs ft fh zk x1) pf kf fs ft fh wk fl fr v ms mw (o_X8_did_2 v ms sl f1 f2 f3 x1 zk) tx f1 f2 f3 bs sz am len need psz ksz (nI zk) si mo at_) rfl rfl (rest := [.int (o_X7_did_r g tg sun dry len need fs ft fh zk x1)]) rfl (Nat.le_of_ble_eq_true rfl) ⟨Nat.le_of_ble_eq_true rfl, Nat.le_of_ble_eq_true rfl⟩ ⟨Nat.le_of_ble_eq_true rfl, Nat.le_of_ble_eq_true rfl⟩ (fun H locs hG => ?_)
  refine lv_icmp_eq (tgt := 806) hx hb dL_law_633 (by decide) (fun c9 => ?_) (fun c9 => absurd hq.1 c9)
  obtain ⟨-, hI2⟩ := hq
  exact K lt nu sun dry g (o_X7_did_tg g tg sun dry len need fs ft fh zk x1) pf kf fs ft fh wk fl fr v ms mw (o_X8_did_2 v ms sl f1 f2 f3 x1 zk) tx f1 f2 f3 bs sz am len need psz ksz (nI zk) si mo at_ _ _ _ _ hI2 rfl H locs hG ls hl
set_option maxRecDepth 100000 in
set_option maxHeartbeats 4000000 in
theorem lc_was {l : Launch} {E : zE} {p : Program} {e : Env} {s : State} {m : MethodId} {below : List Frame} {meth : Method} {c : Code} {b L : Nat} {xs : Nat → Int32} {q : Nat → Nat} {i : Nat} {Bd : Int} (C : zC E p s m #[Value.ref b] c cL_law 4 RL (fun a => s.heap.size ≤ a)) (hX : va_X b L xs s s.heap) (hbl : b < s.heap.size) (hL : L ≤ 320) (hi : i + 5 ≤ L) (hB : Bd < 1000000) (K : lwNext l E p e s m below meth c b i q (Bd + 24) 806) : lwNext l E p e s m below meth c b i q Bd 638 := by
  intro lt nu sun dry g tg pf kf fs ft fh wk fl fr v ms mw sl tx f1 f2 f3 bs sz am len need psz ksz zi si mo at_ zk na nk nl hI hz9 H locs hG ls hl
  subst hz9
  have hx := C.1.1
  have hb := C.1.2.1
  have hbA : ¬ s.heap.size ≤ b := Nat.not_le.mpr hbl
  have hv1 : vp_in (nI i + 1) L := by rw [show (nI i + 1 : Int32) = nI (i + 1) from nI_add i 1]; exact vp_in_nI (by omega) (by omega)
  obtain ⟨x1, e1⟩ : ∃ y : Int32, y = xs (nI i + 1).toNatClampNeg := ⟨_, rfl⟩
  have hI0 := hI
  obtain ⟨hs, he, hg, hp, p1, p2, p3, hk, k1, k2, k3, t1, t2, t3, t4, z1, z2, z3⟩ := hI0
  have hq := q_was tg x1 hI hB
  refine lv_aload_n hx hb dL_law_638 rfl (lv_at hl 1 rfl) ?_
  refine lv_aload_n hx hb dL_law_639 rfl (lv_at hl 0 rfl) ?_
  refine lv_iload_n hx hb dL_law_640 rfl (lv_at hl 3 rfl) ?_
  refine lv_iconst (v := 1) hx hb dL_law_641 (by decide) ?_
  refine lv_iadd hx hb dL_law_642 ?_
  refine va_sld hx hb hX hbl hbA hG.2.2 hv1 dL_law_643 ?_
  refine z_ti e1.symm ?_
  refine z_callVG (n := 1) C (inr31 _ (List.mem_of_getElem? (i := 1) rfl)) (inr1 _ (List.mem_of_getElem? (i := 2) rfl)) (inr30 _ (List.mem_of_getElem? (i := 22) rfl)) (inr30 _ (List.mem_of_getElem? (i := 23) rfl)) (inr31 _ (List.mem_of_getElem? (i := 0) rfl)) (Cn := RX7) ⟨by decide +kernel, by decide +kernel, by decide +kernel⟩ rfl dL_law_644 (c_X7_was l E g tg sun dry len need fs ft fh zk x1 (q 0) (q 1) (q 4) (q 7) (q 10) (q 13) (q 15) (q 17) (q 21) (q 8) (q 9) (q 11) (q 12) (q 5) (q 6) (q 18) (q 19) (q 20) (by omega)) hl hG 0 rfl [0, 7, 8, 9, 10, 11, 12, 4, 5, 6, 17, 18, 19, 20] (by decide) rfl (ads := [q 0, q 7, q 8, q 9, q 10, q 11, q 12, q 4, q 5, q 6, q 17, q 18, q 19, q 20]) rfl rfl (ws' := lwW E q lt nu sun dry g (o_X7_was_tg g tg sun dry len need fs ft fh zk x1) pf kf fs ft fh wk fl fr v ms mw sl tx f1 f2 f3 bs sz am len need psz ksz (nI zk) si mo at_) rfl rfl (rest := []) rfl (Nat.le_of_ble_eq_true rfl) ⟨Nat.le_of_ble_eq_true rfl, Nat.le_of_ble_eq_true rfl⟩ ⟨Nat.le_of_ble_eq_true rfl, Nat.le_of_ble_eq_true rfl⟩ (fun H locs hG => ?_)
  refine lv_aload_n hx hb dL_law_647 rfl (lv_at hl 2 rfl) ?_
  refine lv_aload_n hx hb dL_law_648 rfl (lv_at hl 0 rfl) ?_
  refine lv_iload_n hx hb dL_law_649 rfl (lv_at hl 3 rfl) ?_
  refine lv_iconst (v := 1) hx hb dL_law_650 (by decide) ?_
  refine lv_iadd hx hb dL_law_651 ?_
  refine va_sld hx hb hX hbl hbA hG.2.2 hv1 dL_law_652 ?_
  refine z_ti e1.symm ?_
  refine z_callVG (n := 1) C (inr31 _ (List.mem_of_getElem? (i := 5) rfl)) (inr1 _ (List.mem_of_getElem? (i := 5) rfl)) (inr31 _ (List.mem_of_getElem? (i := 2) rfl)) (inr31 _ (List.mem_of_getElem? (i := 3) rfl)) (inr31 _ (List.mem_of_getElem? (i := 4) rfl)) (Cn := RX8) ⟨by decide +kernel, by decide +kernel, by decide +kernel⟩ rfl dL_law_653 (c_X8_was l E v ms sl f1 f2 f3 x1 zk (q 27) (q 28) (q 29) (q 30) (q 31) (q 32) (q 33) (q 34) (q 35) (Inv.mo hI hB) z1 z2 (fun j hj => by rw [(z3 j hj).1]; exact (z3 j hj).2.2.2)) hl hG 27 rfl [27, 28, 30, 32, 33, 34] (by decide) rfl (ads := [q 27, q 28, q 30, q 32, q 33, q 34]) rfl rfl (ws' := lwW E q lt nu sun dry g (o_X7_was_tg g tg sun dry len need fs ft fh zk x1) pf kf fs ft fh wk fl fr v ms mw (o_X8_was_2 v ms sl f1 f2 f3 x1 zk) tx f1 f2 f3 bs sz am len need psz ksz (nI zk) si mo at_) rfl rfl (rest := [.int (o_X7_was_r g tg sun dry len need fs ft fh zk x1)]) rfl (Nat.le_of_ble_eq_true rfl) ⟨Nat.le_of_ble_eq_true rfl, Nat.le_of_ble_eq_true rfl⟩ ⟨Nat.le_of_ble_eq_true rfl, Nat.le_of_ble_eq_true rfl⟩ (fun H locs hG => ?_)
  refine lv_icmp_eq (tgt := 806) hx hb dL_law_656 (by decide) (fun c9 => ?_) (fun c9 => absurd hq.1 c9)
  obtain ⟨-, hI2⟩ := hq
  exact K lt nu sun dry g (o_X7_was_tg g tg sun dry len need fs ft fh zk x1) pf kf fs ft fh wk fl fr v ms mw (o_X8_was_2 v ms sl f1 f2 f3 x1 zk) tx f1 f2 f3 bs sz am len need psz ksz (nI zk) si mo at_ _ _ _ _ hI2 rfl H locs hG ls hl
set_option maxRecDepth 100000 in
set_option maxHeartbeats 4000000 in
theorem lc_drought {l : Launch} {E : zE} {p : Program} {e : Env} {s : State} {m : MethodId} {below : List Frame} {meth : Method} {c : Code} {b L : Nat} {xs : Nat → Int32} {q : Nat → Nat} {i : Nat} {Bd : Int} (C : zC E p s m #[Value.ref b] c cL_law 4 RL (fun a => s.heap.size ≤ a)) (hX : va_X b L xs s s.heap) (hbl : b < s.heap.size) (hL : L ≤ 320) (hi : i + 5 ≤ L) (hB : Bd < 1000000) (K : lwNext l E p e s m below meth c b i q (Bd + 24) 806) : lwNext l E p e s m below meth c b i q Bd 661 := by
  intro lt nu sun dry g tg pf kf fs ft fh wk fl fr v ms mw sl tx f1 f2 f3 bs sz am len need psz ksz zi si mo at_ zk na nk nl hI hz9 H locs hG ls hl
  subst hz9
  have hx := C.1.1
  have hb := C.1.2.1
  have hbA : ¬ s.heap.size ≤ b := Nat.not_le.mpr hbl
  have hv1 : vp_in (nI i + 1) L := by rw [show (nI i + 1 : Int32) = nI (i + 1) from nI_add i 1]; exact vp_in_nI (by omega) (by omega)
  obtain ⟨x1, e1⟩ : ∃ y : Int32, y = xs (nI i + 1).toNatClampNeg := ⟨_, rfl⟩
  have hv2 : vp_in (nI i + 2) L := by rw [show (nI i + 2 : Int32) = nI (i + 2) from nI_add i 2]; exact vp_in_nI (by omega) (by omega)
  obtain ⟨x2, e2⟩ : ∃ y : Int32, y = xs (nI i + 2).toNatClampNeg := ⟨_, rfl⟩
  have hv3 : vp_in (nI i + 3) L := by rw [show (nI i + 3 : Int32) = nI (i + 3) from nI_add i 3]; exact vp_in_nI (by omega) (by omega)
  obtain ⟨x3, e3⟩ : ∃ y : Int32, y = xs (nI i + 3).toNatClampNeg := ⟨_, rfl⟩
  have hv4 : vp_in (nI i + 4) L := by rw [show (nI i + 4 : Int32) = nI (i + 4) from nI_add i 4]; exact vp_in_nI (by omega) (by omega)
  obtain ⟨x4, e4⟩ : ∃ y : Int32, y = xs (nI i + 4).toNatClampNeg := ⟨_, rfl⟩
  have hI0 := hI
  obtain ⟨hs, he, hg, hp, p1, p2, p3, hk, k1, k2, k3, t1, t2, t3, t4, z1, z2, z3⟩ := hI0
  have hq := q_drought tg x1 x2 x3 x4 hI hB
  obtain ⟨fuel, rr, r0, hF, hq1, hI2⟩ := hq
  refine lv_aload_n hx hb dL_law_661 rfl (lv_at hl 1 rfl) ?_
  refine lv_aload_n hx hb dL_law_662 rfl (lv_at hl 0 rfl) ?_
  refine lv_iload_n hx hb dL_law_663 rfl (lv_at hl 3 rfl) ?_
  refine lv_iconst (v := 1) hx hb dL_law_664 (by decide) ?_
  refine lv_iadd hx hb dL_law_665 ?_
  refine va_sld hx hb hX hbl hbA hG.2.2 hv1 dL_law_666 ?_
  refine z_ti e1.symm ?_
  refine lv_aload_n hx hb dL_law_667 rfl (lv_at hl 0 rfl) ?_
  refine lv_iload_n hx hb dL_law_668 rfl (lv_at hl 3 rfl) ?_
  refine lv_iconst (v := 2) hx hb dL_law_669 (by decide) ?_
  refine lv_iadd hx hb dL_law_670 ?_
  refine va_sld hx hb hX hbl hbA hG.2.2 hv2 dL_law_671 ?_
  refine z_ti e2.symm ?_
  refine lv_aload_n hx hb dL_law_672 rfl (lv_at hl 0 rfl) ?_
  refine lv_iload_n hx hb dL_law_673 rfl (lv_at hl 3 rfl) ?_
  refine lv_iconst (v := 3) hx hb dL_law_674 (by decide) ?_
  refine lv_iadd hx hb dL_law_675 ?_
  refine va_sld hx hb hX hbl hbA hG.2.2 hv3 dL_law_676 ?_
  refine z_ti e3.symm ?_
  refine lv_aload_n hx hb dL_law_677 rfl (lv_at hl 0 rfl) ?_
  refine lv_iload_n hx hb dL_law_678 rfl (lv_at hl 3 rfl) ?_
  refine lv_iconst (v := 4) hx hb dL_law_679 (by decide) ?_
  refine lv_iadd hx hb dL_law_680 ?_
  refine va_sld hx hb hX hbl hbA hG.2.2 hv4 dL_law_681 ?_
  refine z_ti e4.symm ?_
  refine z_callVG (n := 4) C (inr31 _ (List.mem_of_getElem? (i := 9) rfl)) (inr1 _ (List.mem_of_getElem? (i := 2) rfl)) (inr31 _ (List.mem_of_getElem? (i := 6) rfl)) (inr31 _ (List.mem_of_getElem? (i := 7) rfl)) (inr31 _ (List.mem_of_getElem? (i := 8) rfl)) (Cn := RX7) ⟨by decide +kernel, by decide +kernel, by decide +kernel⟩ rfl dL_law_682 (c_X7_drought l E g tg sun dry len need x1 x2 x3 x4 (q 0) (q 1) (q 4) (q 7) (q 10) (q 13) (q 15) (q 17) (q 21) (q 8) (q 9) (q 11) (q 12) (q 5) (q 6)) hl hG 0 rfl [0, 7, 8, 9, 10, 11, 12, 4, 5, 6] (by decide) rfl (ads := [q 0, q 7, q 8, q 9, q 10, q 11, q 12, q 4, q 5, q 6]) rfl rfl (ws' := lwW E q lt nu sun dry g (o_X7_drought_tg g tg sun dry len need x1 x2 x3 x4) pf kf fs ft fh wk fl fr v ms mw sl tx f1 f2 f3 bs sz am len need psz ksz (nI zk) si mo at_) rfl rfl (rest := []) rfl (Nat.le_of_ble_eq_true rfl) ⟨Nat.le_of_ble_eq_true rfl, Nat.le_of_ble_eq_true rfl⟩ ⟨Nat.le_of_ble_eq_true rfl, Nat.le_of_ble_eq_true rfl⟩ (fun H locs hG => ?_)
  refine lv_aload_n hx hb dL_law_685 rfl (lv_at hl 2 rfl) ?_
  refine lv_aload_n hx hb dL_law_686 rfl (lv_at hl 0 rfl) ?_
  refine lv_iload_n hx hb dL_law_687 rfl (lv_at hl 3 rfl) ?_
  refine lv_iconst (v := 1) hx hb dL_law_688 (by decide) ?_
  refine lv_iadd hx hb dL_law_689 ?_
  refine va_sld hx hb hX hbl hbA hG.2.2 hv1 dL_law_690 ?_
  refine z_ti e1.symm ?_
  refine lv_aload_n hx hb dL_law_691 rfl (lv_at hl 0 rfl) ?_
  refine lv_iload_n hx hb dL_law_692 rfl (lv_at hl 3 rfl) ?_
  refine lv_iconst (v := 2) hx hb dL_law_693 (by decide) ?_
  refine lv_iadd hx hb dL_law_694 ?_
  refine va_sld hx hb hX hbl hbA hG.2.2 hv2 dL_law_695 ?_
  refine z_ti e2.symm ?_
  refine lv_aload_n hx hb dL_law_696 rfl (lv_at hl 0 rfl) ?_
  refine lv_iload_n hx hb dL_law_697 rfl (lv_at hl 3 rfl) ?_
  refine lv_iconst (v := 3) hx hb dL_law_698 (by decide) ?_
  refine lv_iadd hx hb dL_law_699 ?_
  refine va_sld hx hb hX hbl hbA hG.2.2 hv3 dL_law_700 ?_
  refine z_ti e3.symm ?_
  refine lv_aload_n hx hb dL_law_701 rfl (lv_at hl 0 rfl) ?_
  refine lv_iload_n hx hb dL_law_702 rfl (lv_at hl 3 rfl) ?_
  refine lv_iconst (v := 4) hx hb dL_law_703 (by decide) ?_
  refine lv_iadd hx hb dL_law_704 ?_
  refine va_sld hx hb hX hbl hbA hG.2.2 hv4 dL_law_705 ?_
  refine z_ti e4.symm ?_
  refine z_callVG (n := 4) C (inr31 _ (List.mem_of_getElem? (i := 21) rfl)) (inr1 _ (List.mem_of_getElem? (i := 5) rfl)) (inr31 _ (List.mem_of_getElem? (i := 18) rfl)) (inr31 _ (List.mem_of_getElem? (i := 19) rfl)) (inr31 _ (List.mem_of_getElem? (i := 20) rfl)) (Cn := RX8) ⟨by decide +kernel, by decide +kernel, by decide +kernel⟩ rfl dL_law_706 (c_X8_drought l E v ms sl x1 x2 x3 x4 fuel rr r0 (q 27) (q 28) (q 29) (q 30) (q 31) (q 32) (q 33) (q 34) (q 35) (Inv.mo hI hB) hF) hl hG 27 rfl [27, 28, 30] (by decide) rfl (ads := [q 27, q 28, q 30]) rfl rfl (ws' := lwW E q lt nu sun dry g (o_X7_drought_tg g tg sun dry len need x1 x2 x3 x4) pf kf fs ft fh wk fl fr v ms mw r0 tx f1 f2 f3 bs sz am len need psz ksz (nI zk) si mo at_) rfl rfl (rest := [.int (o_X7_drought_r g tg sun dry len need x1 x2 x3 x4)]) rfl (Nat.le_of_ble_eq_true rfl) ⟨Nat.le_of_ble_eq_true rfl, Nat.le_of_ble_eq_true rfl⟩ ⟨Nat.le_of_ble_eq_true rfl, Nat.le_of_ble_eq_true rfl⟩ (fun H locs hG => ?_)
  refine lv_icmp_eq (tgt := 806) hx hb dL_law_709 (by decide) (fun c9 => ?_) (fun c9 => absurd hq1 c9)
  exact K lt nu sun dry g (o_X7_drought_tg g tg sun dry len need x1 x2 x3 x4) pf kf fs ft fh wk fl fr v ms mw r0 tx f1 f2 f3 bs sz am len need psz ksz (nI zk) si mo at_ _ _ _ _ hI2 rfl H locs hG ls hl
set_option maxRecDepth 100000 in
set_option maxHeartbeats 4000000 in
theorem lc_year {l : Launch} {E : zE} {p : Program} {e : Env} {s : State} {m : MethodId} {below : List Frame} {meth : Method} {c : Code} {b L : Nat} {xs : Nat → Int32} {q : Nat → Nat} {i : Nat} {Bd : Int} (C : zC E p s m #[Value.ref b] c cL_law 4 RL (fun a => s.heap.size ≤ a)) (hX : va_X b L xs s s.heap) (hbl : b < s.heap.size) (hL : L ≤ 320) (hi : i + 5 ≤ L) (hB : Bd < 1000000) (K : lwNext l E p e s m below meth c b i q (Bd + 24) 806) : lwNext l E p e s m below meth c b i q Bd 714 := by
  intro lt nu sun dry g tg pf kf fs ft fh wk fl fr v ms mw sl tx f1 f2 f3 bs sz am len need psz ksz zi si mo at_ zk na nk nl hI hz9 H locs hG ls hl
  subst hz9
  have hx := C.1.1
  have hb := C.1.2.1
  have hbA : ¬ s.heap.size ≤ b := Nat.not_le.mpr hbl
  have hv1 : vp_in (nI i + 1) L := by rw [show (nI i + 1 : Int32) = nI (i + 1) from nI_add i 1]; exact vp_in_nI (by omega) (by omega)
  obtain ⟨x1, e1⟩ : ∃ y : Int32, y = xs (nI i + 1).toNatClampNeg := ⟨_, rfl⟩
  have hv2 : vp_in (nI i + 2) L := by rw [show (nI i + 2 : Int32) = nI (i + 2) from nI_add i 2]; exact vp_in_nI (by omega) (by omega)
  obtain ⟨x2, e2⟩ : ∃ y : Int32, y = xs (nI i + 2).toNatClampNeg := ⟨_, rfl⟩
  have hv3 : vp_in (nI i + 3) L := by rw [show (nI i + 3 : Int32) = nI (i + 3) from nI_add i 3]; exact vp_in_nI (by omega) (by omega)
  obtain ⟨x3, e3⟩ : ∃ y : Int32, y = xs (nI i + 3).toNatClampNeg := ⟨_, rfl⟩
  have hI0 := hI
  obtain ⟨hs, he, hg, hp, p1, p2, p3, hk, k1, k2, k3, t1, t2, t3, t4, z1, z2, z3⟩ := hI0
  have hq := q_year tg x1 x2 x3 hI hB
  refine lv_aload_n hx hb dL_law_714 rfl (lv_at hl 1 rfl) ?_
  refine lv_aload_n hx hb dL_law_715 rfl (lv_at hl 0 rfl) ?_
  refine lv_iload_n hx hb dL_law_716 rfl (lv_at hl 3 rfl) ?_
  refine lv_iconst (v := 1) hx hb dL_law_717 (by decide) ?_
  refine lv_iadd hx hb dL_law_718 ?_
  refine va_sld hx hb hX hbl hbA hG.2.2 hv1 dL_law_719 ?_
  refine z_ti e1.symm ?_
  refine lv_aload_n hx hb dL_law_720 rfl (lv_at hl 0 rfl) ?_
  refine lv_iload_n hx hb dL_law_721 rfl (lv_at hl 3 rfl) ?_
  refine lv_iconst (v := 2) hx hb dL_law_722 (by decide) ?_
  refine lv_iadd hx hb dL_law_723 ?_
  refine va_sld hx hb hX hbl hbA hG.2.2 hv2 dL_law_724 ?_
  refine z_ti e2.symm ?_
  refine lv_aload_n hx hb dL_law_725 rfl (lv_at hl 0 rfl) ?_
  refine lv_iload_n hx hb dL_law_726 rfl (lv_at hl 3 rfl) ?_
  refine lv_iconst (v := 3) hx hb dL_law_727 (by decide) ?_
  refine lv_iadd hx hb dL_law_728 ?_
  refine va_sld hx hb hX hbl hbA hG.2.2 hv3 dL_law_729 ?_
  refine z_ti e3.symm ?_
  refine z_callVG (n := 3) C (inr32 _ (List.mem_of_getElem? (i := 3) rfl)) (inr1 _ (List.mem_of_getElem? (i := 2) rfl)) (inr32 _ (List.mem_of_getElem? (i := 0) rfl)) (inr32 _ (List.mem_of_getElem? (i := 1) rfl)) (inr32 _ (List.mem_of_getElem? (i := 2) rfl)) (Cn := RX7) ⟨by decide +kernel, by decide +kernel, by decide +kernel⟩ rfl dL_law_730 (c_X7_year l E g tg sun dry len need x1 x2 x3 (q 0) (q 1) (q 4) (q 7) (q 10) (q 13) (q 15) (q 17) (q 21) (q 8) (q 9) (q 11) (q 12) (q 5) (q 6)) hl hG 0 rfl [0, 7, 8, 9, 10, 11, 12, 4, 5, 6] (by decide) rfl (ads := [q 0, q 7, q 8, q 9, q 10, q 11, q 12, q 4, q 5, q 6]) rfl rfl (ws' := lwW E q lt nu sun dry g (o_X7_year_tg g tg sun dry len need x1 x2 x3) pf kf fs ft fh wk fl fr v ms mw sl tx f1 f2 f3 bs sz am len need psz ksz (nI zk) si mo at_) rfl rfl (rest := []) rfl (Nat.le_of_ble_eq_true rfl) ⟨Nat.le_of_ble_eq_true rfl, Nat.le_of_ble_eq_true rfl⟩ ⟨Nat.le_of_ble_eq_true rfl, Nat.le_of_ble_eq_true rfl⟩ (fun H locs hG => ?_)
  refine lv_aload_n hx hb dL_law_733 rfl (lv_at hl 2 rfl) ?_
  refine lv_aload_n hx hb dL_law_734 rfl (lv_at hl 0 rfl) ?_
  refine lv_iload_n hx hb dL_law_735 rfl (lv_at hl 3 rfl) ?_
  refine lv_iconst (v := 1) hx hb dL_law_736 (by decide) ?_
  refine lv_iadd hx hb dL_law_737 ?_
  refine va_sld hx hb hX hbl hbA hG.2.2 hv1 dL_law_738 ?_
  refine z_ti e1.symm ?_
  refine lv_aload_n hx hb dL_law_739 rfl (lv_at hl 0 rfl) ?_
  refine lv_iload_n hx hb dL_law_740 rfl (lv_at hl 3 rfl) ?_
  refine lv_iconst (v := 2) hx hb dL_law_741 (by decide) ?_
  refine lv_iadd hx hb dL_law_742 ?_
  refine va_sld hx hb hX hbl hbA hG.2.2 hv2 dL_law_743 ?_
  refine z_ti e2.symm ?_
  refine lv_aload_n hx hb dL_law_744 rfl (lv_at hl 0 rfl) ?_
  refine lv_iload_n hx hb dL_law_745 rfl (lv_at hl 3 rfl) ?_
  refine lv_iconst (v := 3) hx hb dL_law_746 (by decide) ?_
  refine lv_iadd hx hb dL_law_747 ?_
  refine va_sld hx hb hX hbl hbA hG.2.2 hv3 dL_law_748 ?_
  refine z_ti e3.symm ?_
  refine z_callVG (n := 3) C (inr32 _ (List.mem_of_getElem? (i := 14) rfl)) (inr1 _ (List.mem_of_getElem? (i := 5) rfl)) (inr32 _ (List.mem_of_getElem? (i := 11) rfl)) (inr32 _ (List.mem_of_getElem? (i := 12) rfl)) (inr32 _ (List.mem_of_getElem? (i := 13) rfl)) (Cn := RX8) ⟨by decide +kernel, by decide +kernel, by decide +kernel⟩ rfl dL_law_749 (c_X8_year l E v ms sl x1 x2 x3 (q 27) (q 28) (q 29) (q 30) (q 31) (q 32) (q 33) (q 34) (q 35) (Inv.mo hI hB)) hl hG 27 rfl [27, 28, 30] (by decide) rfl (ads := [q 27, q 28, q 30]) rfl rfl (ws' := lwW E q lt nu sun dry g (o_X7_year_tg g tg sun dry len need x1 x2 x3) pf kf fs ft fh wk fl fr v ms mw (o_X8_year_2 v ms sl x1 x2 x3) tx f1 f2 f3 bs sz am len need psz ksz (nI zk) si mo at_) rfl rfl (rest := [.int (o_X7_year_r g tg sun dry len need x1 x2 x3)]) rfl (Nat.le_of_ble_eq_true rfl) ⟨Nat.le_of_ble_eq_true rfl, Nat.le_of_ble_eq_true rfl⟩ ⟨Nat.le_of_ble_eq_true rfl, Nat.le_of_ble_eq_true rfl⟩ (fun H locs hG => ?_)
  refine lv_icmp_eq (tgt := 806) hx hb dL_law_752 (by decide) (fun c9 => ?_) (fun c9 => absurd hq.1 c9)
  obtain ⟨-, hI2⟩ := hq
  exact K lt nu sun dry g (o_X7_year_tg g tg sun dry len need x1 x2 x3) pf kf fs ft fh wk fl fr v ms mw (o_X8_year_2 v ms sl x1 x2 x3) tx f1 f2 f3 bs sz am len need psz ksz (nI zk) si mo at_ _ _ _ _ hI2 rfl H locs hG ls hl
set_option maxRecDepth 100000 in
set_option maxHeartbeats 4000000 in
theorem lc_keep {l : Launch} {E : zE} {p : Program} {e : Env} {s : State} {m : MethodId} {below : List Frame} {meth : Method} {c : Code} {b L : Nat} {xs : Nat → Int32} {q : Nat → Nat} {i : Nat} {Bd : Int} (C : zC E p s m #[Value.ref b] c cL_law 4 RL (fun a => s.heap.size ≤ a)) (hX : va_X b L xs s s.heap) (hbl : b < s.heap.size) (hL : L ≤ 320) (hi : i + 5 ≤ L) (hB : Bd < 1000000) (K : lwNext l E p e s m below meth c b i q (Bd + 24) 806) : lwNext l E p e s m below meth c b i q Bd 757 := by
  intro lt nu sun dry g tg pf kf fs ft fh wk fl fr v ms mw sl tx f1 f2 f3 bs sz am len need psz ksz zi si mo at_ zk na nk nl hI hz9 H locs hG ls hl
  subst hz9
  have hx := C.1.1
  have hb := C.1.2.1
  have hbA : ¬ s.heap.size ≤ b := Nat.not_le.mpr hbl
  have hI0 := hI
  obtain ⟨hs, he, hg, hp, p1, p2, p3, hk, k1, k2, k3, t1, t2, t3, t4, z1, z2, z3⟩ := hI0
  have hq := q_keep hI hB
  refine lv_aload_n hx hb dL_law_757 rfl (lv_at hl 1 rfl) ?_
  refine z_callVG (n := 0) C (inr32 _ (List.mem_of_getElem? (i := 23) rfl)) (inr1 _ (List.mem_of_getElem? (i := 2) rfl)) (inr32 _ (List.mem_of_getElem? (i := 20) rfl)) (inr32 _ (List.mem_of_getElem? (i := 21) rfl)) (inr32 _ (List.mem_of_getElem? (i := 22) rfl)) (Cn := RX7) ⟨by decide +kernel, by decide +kernel, by decide +kernel⟩ rfl dL_law_758 (c_X7_keep l E g kf 2 ksz (q 0) (q 1) (q 4) (q 7) (q 10) (q 13) (q 15) (q 17) (q 21) (q 8) (q 9) (q 16)) hl hG 0 rfl [0, 7, 8, 9, 15, 16] (by decide) rfl (ads := [q 0, q 7, q 8, q 9, q 15, q 16]) rfl rfl (ws' := lwW E q lt nu sun dry g tg pf (o_X7_keep_5 g kf 2 ksz) fs ft fh wk fl fr v ms mw sl tx f1 f2 f3 bs sz am len need psz (o_X7_keep_4_2 g kf 2 ksz) (nI zk) si mo at_) rfl rfl (rest := []) rfl (Nat.le_of_ble_eq_true rfl) ⟨Nat.le_of_ble_eq_true rfl, Nat.le_of_ble_eq_true rfl⟩ ⟨Nat.le_of_ble_eq_true rfl, Nat.le_of_ble_eq_true rfl⟩ (fun H locs hG => ?_)
  refine lv_aload_n hx hb dL_law_761 rfl (lv_at hl 2 rfl) ?_
  refine z_callVG (n := 0) C (inr33 _ (List.mem_of_getElem? (i := 3) rfl)) (inr1 _ (List.mem_of_getElem? (i := 5) rfl)) (inr33 _ (List.mem_of_getElem? (i := 0) rfl)) (inr33 _ (List.mem_of_getElem? (i := 1) rfl)) (inr33 _ (List.mem_of_getElem? (i := 2) rfl)) (Cn := RX8) ⟨by decide +kernel, by decide +kernel, by decide +kernel⟩ rfl dL_law_762 (c_X8_keep l E v sl nk (q 27) (q 28) (q 29) (q 30) (q 31) (q 32) (q 33) (q 34) (q 35) k2 k3) hl hG 27 rfl [27, 30] (by decide) rfl (ads := [q 27, q 30]) rfl rfl (ws' := lwW E q lt nu sun dry g tg pf (o_X7_keep_5 g kf 2 ksz) fs ft fh wk fl fr (o_X8_keep_v v sl nk) ms mw (o_X8_keep_1 v sl nk) tx f1 f2 f3 bs sz am len need psz (o_X7_keep_4_2 g kf 2 ksz) (nI zk) si mo at_) rfl rfl (rest := [.int (o_X7_keep_r g kf 2 ksz)]) rfl (Nat.le_of_ble_eq_true rfl) ⟨Nat.le_of_ble_eq_true rfl, Nat.le_of_ble_eq_true rfl⟩ ⟨Nat.le_of_ble_eq_true rfl, Nat.le_of_ble_eq_true rfl⟩ (fun H locs hG => ?_)
  refine lv_icmp_eq (tgt := 806) hx hb dL_law_765 (by decide) (fun c9 => ?_) (fun c9 => absurd hq.1 c9)
  obtain ⟨-, nb, hI2⟩ := hq
  exact K lt nu sun dry g tg pf (o_X7_keep_5 g kf 2 ksz) fs ft fh wk fl fr (o_X8_keep_v v sl nk) ms mw (o_X8_keep_1 v sl nk) tx f1 f2 f3 bs sz am len need psz (o_X7_keep_4_2 g kf 2 ksz) (nI zk) si mo at_ _ _ _ _ hI2 rfl H locs hG ls hl
set_option maxRecDepth 100000 in
set_option maxHeartbeats 4000000 in
theorem lc_back {l : Launch} {E : zE} {p : Program} {e : Env} {s : State} {m : MethodId} {below : List Frame} {meth : Method} {c : Code} {b L : Nat} {xs : Nat → Int32} {q : Nat → Nat} {i : Nat} {Bd : Int} (C : zC E p s m #[Value.ref b] c cL_law 4 RL (fun a => s.heap.size ≤ a)) (hX : va_X b L xs s s.heap) (hbl : b < s.heap.size) (hL : L ≤ 320) (hi : i + 5 ≤ L) (hB : Bd < 1000000) (K : lwNext l E p e s m below meth c b i q (Bd + 24) 806) : lwNext l E p e s m below meth c b i q Bd 770 := by
  intro lt nu sun dry g tg pf kf fs ft fh wk fl fr v ms mw sl tx f1 f2 f3 bs sz am len need psz ksz zi si mo at_ zk na nk nl hI hz9 H locs hG ls hl
  subst hz9
  have hx := C.1.1
  have hb := C.1.2.1
  have hbA : ¬ s.heap.size ≤ b := Nat.not_le.mpr hbl
  have hI0 := hI
  obtain ⟨hs, he, hg, hp, p1, p2, p3, hk, k1, k2, k3, t1, t2, t3, t4, z1, z2, z3⟩ := hI0
  have hq := q_back hI hB
  refine lv_aload_n hx hb dL_law_770 rfl (lv_at hl 1 rfl) ?_
  refine z_callVG (n := 0) C (inr33 _ (List.mem_of_getElem? (i := 7) rfl)) (inr1 _ (List.mem_of_getElem? (i := 2) rfl)) (inr33 _ (List.mem_of_getElem? (i := 4) rfl)) (inr33 _ (List.mem_of_getElem? (i := 5) rfl)) (inr33 _ (List.mem_of_getElem? (i := 6) rfl)) (Cn := RX7) ⟨by decide +kernel, by decide +kernel, by decide +kernel⟩ rfl dL_law_771 (c_X7_back l E g pf 8 psz kf 2 ksz (q 0) (q 1) (q 4) (q 7) (q 10) (q 13) (q 15) (q 17) (q 21) (q 8) (q 9) (q 14) (q 16)) hl hG 0 rfl [0, 7, 8, 9, 13, 14, 15, 16] (by decide) rfl (ads := [q 0, q 7, q 8, q 9, q 13, q 14, q 15, q 16]) rfl rfl (ws' := lwW E q lt nu sun dry (o_X7_back_g g pf 8 psz kf 2 ksz) tg pf kf fs ft fh wk fl fr v ms mw sl tx f1 f2 f3 bs sz am len need (o_X7_back_4_2 g pf 8 psz kf 2 ksz) (o_X7_back_6_2 g pf 8 psz kf 2 ksz) (nI zk) si mo at_) rfl rfl (rest := []) rfl (Nat.le_of_ble_eq_true rfl) ⟨Nat.le_of_ble_eq_true rfl, Nat.le_of_ble_eq_true rfl⟩ ⟨Nat.le_of_ble_eq_true rfl, Nat.le_of_ble_eq_true rfl⟩ (fun H locs hG => ?_)
  refine lv_aload_n hx hb dL_law_774 rfl (lv_at hl 2 rfl) ?_
  refine z_callVG (n := 0) C (inr33 _ (List.mem_of_getElem? (i := 11) rfl)) (inr1 _ (List.mem_of_getElem? (i := 5) rfl)) (inr33 _ (List.mem_of_getElem? (i := 8) rfl)) (inr33 _ (List.mem_of_getElem? (i := 9) rfl)) (inr33 _ (List.mem_of_getElem? (i := 10) rfl)) (Cn := RX8) ⟨by decide +kernel, by decide +kernel, by decide +kernel⟩ rfl dL_law_775 (c_X8_back l E v sl nk (q 27) (q 28) (q 29) (q 30) (q 31) (q 32) (q 33) (q 34) (q 35) k2 k3) hl hG 27 rfl [27, 30] (by decide) rfl (ads := [q 27, q 30]) rfl rfl (ws' := lwW E q lt nu sun dry (o_X7_back_g g pf 8 psz kf 2 ksz) tg pf kf fs ft fh wk fl fr (o_X8_back_v v sl nk) ms mw (o_X8_back_1 v sl nk) tx f1 f2 f3 bs sz am len need (o_X7_back_4_2 g pf 8 psz kf 2 ksz) (o_X7_back_6_2 g pf 8 psz kf 2 ksz) (nI zk) si mo at_) rfl rfl (rest := [.int (o_X7_back_r g pf 8 psz kf 2 ksz)]) rfl (Nat.le_of_ble_eq_true rfl) ⟨Nat.le_of_ble_eq_true rfl, Nat.le_of_ble_eq_true rfl⟩ ⟨Nat.le_of_ble_eq_true rfl, Nat.le_of_ble_eq_true rfl⟩ (fun H locs hG => ?_)
  refine lv_icmp_eq (tgt := 806) hx hb dL_law_778 (by decide) (fun c9 => ?_) (fun c9 => absurd hq.1 c9)
  obtain ⟨-, na2, nb, hI2⟩ := hq
  exact K lt nu sun dry (o_X7_back_g g pf 8 psz kf 2 ksz) tg pf kf fs ft fh wk fl fr (o_X8_back_v v sl nk) ms mw (o_X8_back_1 v sl nk) tx f1 f2 f3 bs sz am len need (o_X7_back_4_2 g pf 8 psz kf 2 ksz) (o_X7_back_6_2 g pf 8 psz kf 2 ksz) (nI zk) si mo at_ _ _ _ _ hI2 rfl H locs hG ls hl
set_option maxRecDepth 100000 in
set_option maxHeartbeats 4000000 in
theorem lc_count {l : Launch} {E : zE} {p : Program} {e : Env} {s : State} {m : MethodId} {below : List Frame} {meth : Method} {c : Code} {b L : Nat} {xs : Nat → Int32} {q : Nat → Nat} {i : Nat} {Bd : Int} (C : zC E p s m #[Value.ref b] c cL_law 4 RL (fun a => s.heap.size ≤ a)) (hX : va_X b L xs s s.heap) (hbl : b < s.heap.size) (hL : L ≤ 320) (hi : i + 5 ≤ L) (hB : Bd < 1000000) (K : lwNext l E p e s m below meth c b i q (Bd + 24) 806) : lwNext l E p e s m below meth c b i q Bd 783 := by
  intro lt nu sun dry g tg pf kf fs ft fh wk fl fr v ms mw sl tx f1 f2 f3 bs sz am len need psz ksz zi si mo at_ zk na nk nl hI hz9 H locs hG ls hl
  subst hz9
  have hx := C.1.1
  have hb := C.1.2.1
  have hbA : ¬ s.heap.size ≤ b := Nat.not_le.mpr hbl
  have hv1 : vp_in (nI i + 1) L := by rw [show (nI i + 1 : Int32) = nI (i + 1) from nI_add i 1]; exact vp_in_nI (by omega) (by omega)
  obtain ⟨x1, e1⟩ : ∃ y : Int32, y = xs (nI i + 1).toNatClampNeg := ⟨_, rfl⟩
  have hI0 := hI
  obtain ⟨hs, he, hg, hp, p1, p2, p3, hk, k1, k2, k3, t1, t2, t3, t4, z1, z2, z3⟩ := hI0
  have hq := q_count nu am 8 2 x1 hI hB
  refine lv_aload_n hx hb dL_law_783 rfl (lv_at hl 1 rfl) ?_
  refine lv_aload_n hx hb dL_law_784 rfl (lv_at hl 0 rfl) ?_
  refine lv_iload_n hx hb dL_law_785 rfl (lv_at hl 3 rfl) ?_
  refine lv_iconst (v := 1) hx hb dL_law_786 (by decide) ?_
  refine lv_iadd hx hb dL_law_787 ?_
  refine va_sld hx hb hX hbl hbA hG.2.2 hv1 dL_law_788 ?_
  refine z_ti e1.symm ?_
  refine z_callVG (n := 1) C (inr33 _ (List.mem_of_getElem? (i := 15) rfl)) (inr1 _ (List.mem_of_getElem? (i := 2) rfl)) (inr33 _ (List.mem_of_getElem? (i := 12) rfl)) (inr33 _ (List.mem_of_getElem? (i := 13) rfl)) (inr33 _ (List.mem_of_getElem? (i := 14) rfl)) (Cn := RX7) ⟨by decide +kernel, by decide +kernel, by decide +kernel⟩ rfl dL_law_789 (c_X7_count l E lt nu sz am g sun dry len need pf 8 psz kf 2 ksz fs ft fh zk x1 (q 0) (q 1) (q 4) (q 7) (q 10) (q 13) (q 15) (q 17) (q 21) (q 2) (q 3) (q 8) (q 9) (q 5) (q 6) (q 14) (q 16) (q 18) (q 19) (q 20)) hl hG 0 rfl [0, 1, 2, 3, 7, 8, 9, 4, 5, 6, 13, 14, 15, 16, 17, 18, 19, 20] (by decide) rfl (ads := [q 0, q 1, q 2, q 3, q 7, q 8, q 9, q 4, q 5, q 6, q 13, q 14, q 15, q 16, q 17, q 18, q 19, q 20]) rfl rfl (ws' := lwW E q lt nu sun dry g tg pf kf fs ft fh wk fl fr v ms mw sl tx f1 f2 f3 bs sz am len need psz ksz (nI zk) si mo at_) rfl rfl (rest := []) rfl (Nat.le_of_ble_eq_true rfl) ⟨Nat.le_of_ble_eq_true rfl, Nat.le_of_ble_eq_true rfl⟩ ⟨Nat.le_of_ble_eq_true rfl, Nat.le_of_ble_eq_true rfl⟩ (fun H locs hG => ?_)
  refine lv_aload_n hx hb dL_law_792 rfl (lv_at hl 2 rfl) ?_
  refine lv_aload_n hx hb dL_law_793 rfl (lv_at hl 0 rfl) ?_
  refine lv_iload_n hx hb dL_law_794 rfl (lv_at hl 3 rfl) ?_
  refine lv_iconst (v := 1) hx hb dL_law_795 (by decide) ?_
  refine lv_iadd hx hb dL_law_796 ?_
  refine va_sld hx hb hX hbl hbA hG.2.2 hv1 dL_law_797 ?_
  refine z_ti e1.symm ?_
  refine z_callVG (n := 1) C (inr33 _ (List.mem_of_getElem? (i := 19) rfl)) (inr1 _ (List.mem_of_getElem? (i := 5) rfl)) (inr33 _ (List.mem_of_getElem? (i := 16) rfl)) (inr33 _ (List.mem_of_getElem? (i := 17) rfl)) (inr33 _ (List.mem_of_getElem? (i := 18) rfl)) (Cn := RX8) ⟨by decide +kernel, by decide +kernel, by decide +kernel⟩ rfl dL_law_798 (c_X8_count l E v sl x1 (q 27) (q 28) (q 29) (q 30) (q 31) (q 32) (q 33) (q 34) (q 35)) hl hG 27 rfl [27, 30] (by decide) rfl (ads := [q 27, q 30]) rfl rfl (ws' := lwW E q lt nu sun dry g tg pf kf fs ft fh wk fl fr v ms mw sl tx f1 f2 f3 bs sz am len need psz ksz (nI zk) si mo at_) rfl rfl (rest := [.int (o_X7_count_r lt nu sz am g sun dry len need pf 8 psz kf 2 ksz fs ft fh zk x1)]) rfl (Nat.le_of_ble_eq_true rfl) ⟨Nat.le_of_ble_eq_true rfl, Nat.le_of_ble_eq_true rfl⟩ ⟨Nat.le_of_ble_eq_true rfl, Nat.le_of_ble_eq_true rfl⟩ (fun H locs hG => ?_)
  refine lv_icmp_eq (tgt := 806) hx hb dL_law_801 (by decide) (fun c9 => ?_) (fun c9 => absurd hq c9)
  exact K lt nu sun dry g tg pf kf fs ft fh wk fl fr v ms mw sl tx f1 f2 f3 bs sz am len need psz ksz (nI zk) si mo at_ _ _ _ _ (hI.le (by omega)) rfl H locs hG ls hl
