theorem mask31 (x : Int32) : ∃ t, t < 32 ∧ x &&& 31 = nI t := by
  have h0 : ∀ a b : Nat, nI a &&& nI b = nI (a &&& b) := by
    intro a b
    apply Int32.toBitVec_inj.1
    show BitVec.ofNat 32 a &&& BitVec.ofNat 32 b = BitVec.ofNat 32 (a &&& b)
    apply BitVec.eq_of_getLsbD_eq
    intro i hi
    simp [hi]
  have e : x = nI x.toBitVec.toNat := by
    apply Int32.toBitVec_inj.1
    show x.toBitVec = BitVec.ofNat 32 x.toBitVec.toNat
    simp
  refine ⟨x.toBitVec.toNat % 32, Nat.mod_lt _ (by omega), ?_⟩
  have h1 : nI x.toBitVec.toNat &&& nI 31 = nI (x.toBitVec.toNat % 32) := by
    rw [h0, show (31 : Nat) = 2 ^ 5 - 1 from rfl, Nat.and_two_pow_sub_one_eq_mod]
  rw [← h1, ← e]
  rfl
theorem five_off : ∀ a : Fin 321, (Int32.ofNat a.val - 5).toInt = (a.val : Int) - 5 := by decide +kernel
set_option maxRecDepth 100000 in
set_option maxHeartbeats 4000000 in
/-- the law's loop: k calls read -/
theorem lw_loop {l : Launch} {E : zE} {p : Program} {e : Env} {s : State} {m : MethodId} {below : List Frame} {meth : Method} {c : Code} {b L : Nat} {xs : Nat → Int32} {q : Nat → Nat} (C : zC E p s m #[Value.ref b] c cL_law 4 RL (fun a => s.heap.size ≤ a)) (hX : va_X b L xs s s.heap) (hbl : b < s.heap.size) (hL : L ≤ 320) (hr : meth.sig.returnType = ret) (hlk : meth.locks = false) :
    ∀ (j k : Nat), L < 5 * (k + j) → 5 * k ≤ L → lwNext l E p e s m below meth c b (5 * k) q (24 * (k : Int)) 18 := by
  intro j
  induction j with
  | zero => intro k h1 h2; omega
  | succ j ih =>
    intro k h1 h2 lt nu sun dry g tg pf kf fs ft fh wk fl fr v ms mw sl tx f1 f2 f3 bs sz am len need psz ksz zi si mo at_ zk na nk nl hI hz9 H locs hG ls hl
    subst hz9
    have hx := C.1.1
    have hb := C.1.2.1
    have hbA : ¬ s.heap.size ≤ b := Nat.not_le.mpr hbl
    refine lv_iload_n hx hb dL_law_18 rfl (lv_at hl 3 rfl) ?_
    refine lv_aload_n hx hb dL_law_19 rfl (lv_at hl 0 rfl) ?_
    refine va_slen hx hb hX hbl hbA hG.2.2 dL_law_20 ?_
    refine lv_iconst (v := 5) hx hb dL_law_21 (by decide) ?_
    refine lv_isub hx hb dL_law_22 ?_
    refine lv_icmp_gt (tgt := 812) hx hb dL_law_23 (by decide) (fun _ => ?_) (fun c9 => ?_)
    · refine lv_iconst (v := 1) hx hb dL_law_812 (by decide) ?_
      refine va_forget (fun a ha => hG.2.2.2.2 a ha) ?_
      exact lw_ret hx hb hr hlk dL_law_813
    · have hi : 5 * k + 5 ≤ L := by
        apply Nat.not_lt.mp
        intro hlt
        apply c9
        have h5 := five_off ⟨L, by omega⟩
        have h6 : (nI (5 * k)).toInt = ((5 * k : Nat) : Int) := nI_toInt (by omega)
        rw [Int32.lt_iff_toInt_lt, h6]
        have h7 : (Int32.ofNat L - 5).toInt = (L : Int) - 5 := h5
        rw [h7]
        omega
      have hv0 : vp_in (nI (5 * k)) L := vp_in_nI (by omega) (by omega)
      have K : lwNext l E p e s m below meth c b (5 * k) q (24 * (k : Int) + 24) 806 := by
        intro lt nu sun dry g tg pf kf fs ft fh wk fl fr v ms mw sl tx f1 f2 f3 bs sz am len need psz ksz zi si mo at_ zk na nk nl hI hz9 H locs hG ls hl
        refine lv_iinc (v := nI (5 * (k + 1))) (lv' := [(3, .int (nI (5 * (k + 1)))), (0, .ref b), (1, .ref (q 0)), (2, .ref (q 27))]) hx hb dL_law_806 hl (k := 3) rfl (nI_add (5 * k) 5) (by decide) rfl (fun ls hl => ?_)
        refine lv_goto (tgt := 18) hx hb dL_law_809 (by decide) ?_
        exact ih (k + 1) (by omega) (by omega) lt nu sun dry g tg pf kf fs ft fh wk fl fr v ms mw sl tx f1 f2 f3 bs sz am len need psz ksz zi si mo at_ zk na nk nl (hI.le (by omega)) hz9 H locs hG ls (lv_sub hl [1, 2, 3, 0] rfl)
      have hk64 : k ≤ 64 := by omega
      refine lv_aload_n hx hb dL_law_26 rfl (lv_at hl 0 rfl) ?_
      refine lv_iload_n hx hb dL_law_27 rfl (lv_at hl 3 rfl) ?_
      refine va_sld hx hb hX hbl hbA hG.2.2 hv0 dL_law_28 ?_
      refine lv_bipush (v := 31) hx hb dL_law_29 (by decide) ?_
      refine lv_iand hx hb dL_law_31 ?_
      obtain ⟨t, ht, et⟩ := mask31 (xs (nI (5 * k)).toNatClampNeg)
      refine z_ti et ?_
      rcases (show t = 0 ∨ t = 1 ∨ t = 2 ∨ t = 3 ∨ t = 4 ∨ t = 5 ∨ t = 6 ∨ t = 7 ∨ t = 8 ∨ t = 9 ∨ t = 10 ∨ t = 11 ∨ t = 12 ∨ t = 13 ∨ t = 14 ∨ t = 15 ∨ t = 16 ∨ t = 17 ∨ t = 18 ∨ t = 19 ∨ t = 20 ∨ t = 21 ∨ t = 22 ∨ t = 23 ∨ 24 ≤ t from by omega) with rfl | rfl | rfl | rfl | rfl | rfl | rfl | rfl | rfl | rfl | rfl | rfl | rfl | rfl | rfl | rfl | rfl | rfl | rfl | rfl | rfl | rfl | rfl | rfl | h24
      · exact lv_tableIn (off := 112) (tgt := 144) hx hb dL_law_32 (by decide) (by decide) rfl (by decide) (lc_write C hX hbl hL hi (by omega) K lt nu sun dry g tg pf kf fs ft fh wk fl fr v ms mw sl tx f1 f2 f3 bs sz am len need psz ksz _ si mo at_ zk na nk nl hI rfl H locs hG ls hl)
      · exact lv_tableIn (off := 135) (tgt := 167) hx hb dL_law_32 (by decide) (by decide) rfl (by decide) (lc_wipe C hX hbl hL hi (by omega) K lt nu sun dry g tg pf kf fs ft fh wk fl fr v ms mw sl tx f1 f2 f3 bs sz am len need psz ksz _ si mo at_ zk na nk nl hI rfl H locs hG ls hl)
      · exact lv_tableIn (off := 148) (tgt := 180) hx hb dL_law_32 (by decide) (by decide) rfl (by decide) (lc_fault C hX hbl hL hi (by omega) K lt nu sun dry g tg pf kf fs ft fh wk fl fr v ms mw sl tx f1 f2 f3 bs sz am len need psz ksz _ si mo at_ zk na nk nl hI rfl H locs hG ls hl)
      · exact lv_tableIn (off := 161) (tgt := 193) hx hb dL_law_32 (by decide) (by decide) rfl (by decide) (lc_lay C hX hbl hL hi (by omega) K lt nu sun dry g tg pf kf fs ft fh wk fl fr v ms mw sl tx f1 f2 f3 bs sz am len need psz ksz _ si mo at_ zk na nk nl hI rfl H locs hG ls hl)
      · exact lv_tableIn (off := 174) (tgt := 206) hx hb dL_law_32 (by decide) (by decide) rfl (by decide) (lc_hedge C hX hbl hL hi (by omega) K lt nu sun dry g tg pf kf fs ft fh wk fl fr v ms mw sl tx f1 f2 f3 bs sz am len need psz ksz _ si mo at_ zk na nk nl hI rfl H locs hG ls hl)
      · exact lv_tableIn (off := 207) (tgt := 239) hx hb dL_law_32 (by decide) (by decide) rfl (by decide) (lc_month C hX hbl hL hi (by omega) K lt nu sun dry g tg pf kf fs ft fh wk fl fr v ms mw sl tx f1 f2 f3 bs sz am len need psz ksz _ si mo at_ zk na nk nl hI rfl H locs hG ls hl)
      · exact lv_tableIn (off := 240) (tgt := 272) hx hb dL_law_32 (by decide) (by decide) rfl (by decide) (lc_act C hX hbl hL hi (by omega) K lt nu sun dry g tg pf kf fs ft fh wk fl fr v ms mw sl tx f1 f2 f3 bs sz am len need psz ksz _ si mo at_ zk na nk nl hI rfl H locs hG ls hl)
      · exact lv_tableIn (off := 273) (tgt := 305) hx hb dL_law_32 (by decide) (by decide) rfl (by decide) (lc_pass C hX hbl hL hi (by omega) K lt nu sun dry g tg pf kf fs ft fh wk fl fr v ms mw sl tx f1 f2 f3 bs sz am len need psz ksz _ si mo at_ zk na nk nl hI rfl H locs hG ls hl)
      · exact lv_tableIn (off := 296) (tgt := 328) hx hb dL_law_32 (by decide) (by decide) rfl (by decide) (lc_plant C hX hbl hL hi (by omega) K lt nu sun dry g tg pf kf fs ft fh wk fl fr v ms mw sl tx f1 f2 f3 bs sz am len need psz ksz _ si mo at_ zk na nk nl hI rfl H locs hG ls hl)
      · exact lv_tableIn (off := 329) (tgt := 361) hx hb dL_law_32 (by decide) (by decide) rfl (by decide) (lc_undo C hX hbl hL hi (by omega) K lt nu sun dry g tg pf kf fs ft fh wk fl fr v ms mw sl tx f1 f2 f3 bs sz am len need psz ksz _ si mo at_ zk na nk nl hI rfl H locs hG ls hl)
      · exact lv_tableIn (off := 342) (tgt := 374) hx hb dL_law_32 (by decide) (by decide) rfl (by decide) (lc_behind C hX hbl hL hi (by omega) K lt nu sun dry g tg pf kf fs ft fh wk fl fr v ms mw sl tx f1 f2 f3 bs sz am len need psz ksz _ si mo at_ zk na nk nl hI rfl H locs hG ls hl)
      · exact lv_tableIn (off := 375) (tgt := 407) hx hb dL_law_32 (by decide) (by decide) rfl (by decide) (lc_soonest C hX hbl hL hi (by omega) K lt nu sun dry g tg pf kf fs ft fh wk fl fr v ms mw sl tx f1 f2 f3 bs sz am len need psz ksz _ si mo at_ zk na nk nl hI rfl H locs hG ls hl)
      · exact lv_tableIn (off := 408) (tgt := 440) hx hb dL_law_32 (by decide) (by decide) rfl (by decide) (lc_hold C hX hbl hL hi (by omega) K lt nu sun dry g tg pf kf fs ft fh wk fl fr v ms mw sl tx f1 f2 f3 bs sz am len need psz ksz _ si mo at_ zk na nk nl hI rfl H locs hG ls hl)
      · exact lv_tableIn (off := 451) (tgt := 483) hx hb dL_law_32 (by decide) (by decide) rfl (by decide) (lc_play C hX hbl hL hi (by omega) K lt nu sun dry g tg pf kf fs ft fh wk fl fr v ms mw sl tx f1 f2 f3 bs sz am len need psz ksz _ si mo at_ zk na nk nl hI rfl H locs hG ls hl)
      · exact lv_tableIn (off := 484) (tgt := 516) hx hb dL_law_32 (by decide) (by decide) rfl (by decide) (lc_kind C hX hbl hL hi (by omega) K lt nu sun dry g tg pf kf fs ft fh wk fl fr v ms mw sl tx f1 f2 f3 bs sz am len need psz ksz _ si mo at_ zk na nk nl hI rfl H locs hG ls hl)
      · exact lv_tableIn (off := 527) (tgt := 559) hx hb dL_law_32 (by decide) (by decide) rfl (by decide) (lc_see C hX hbl hL hi (by omega) K lt nu sun dry g tg pf kf fs ft fh wk fl fr v ms mw sl tx f1 f2 f3 bs sz am len need psz ksz _ si mo at_ zk na nk nl hI rfl H locs hG ls hl)
      · exact lv_tableIn (off := 570) (tgt := 602) hx hb dL_law_32 (by decide) (by decide) rfl (by decide) (lc_forget C hX hbl hL hi (by omega) K lt nu sun dry g tg pf kf fs ft fh wk fl fr v ms mw sl tx f1 f2 f3 bs sz am len need psz ksz _ si mo at_ zk na nk nl hI rfl H locs hG ls hl)
      · exact lv_tableIn (off := 583) (tgt := 615) hx hb dL_law_32 (by decide) (by decide) rfl (by decide) (lc_did C hX hbl hL hi (by omega) K lt nu sun dry g tg pf kf fs ft fh wk fl fr v ms mw sl tx f1 f2 f3 bs sz am len need psz ksz _ si mo at_ zk na nk nl hI rfl H locs hG ls hl)
      · exact lv_tableIn (off := 606) (tgt := 638) hx hb dL_law_32 (by decide) (by decide) rfl (by decide) (lc_was C hX hbl hL hi (by omega) K lt nu sun dry g tg pf kf fs ft fh wk fl fr v ms mw sl tx f1 f2 f3 bs sz am len need psz ksz _ si mo at_ zk na nk nl hI rfl H locs hG ls hl)
      · exact lv_tableIn (off := 629) (tgt := 661) hx hb dL_law_32 (by decide) (by decide) rfl (by decide) (lc_drought C hX hbl hL hi (by omega) K lt nu sun dry g tg pf kf fs ft fh wk fl fr v ms mw sl tx f1 f2 f3 bs sz am len need psz ksz _ si mo at_ zk na nk nl hI rfl H locs hG ls hl)
      · exact lv_tableIn (off := 682) (tgt := 714) hx hb dL_law_32 (by decide) (by decide) rfl (by decide) (lc_year C hX hbl hL hi (by omega) K lt nu sun dry g tg pf kf fs ft fh wk fl fr v ms mw sl tx f1 f2 f3 bs sz am len need psz ksz _ si mo at_ zk na nk nl hI rfl H locs hG ls hl)
      · exact lv_tableIn (off := 725) (tgt := 757) hx hb dL_law_32 (by decide) (by decide) rfl (by decide) (lc_keep C hX hbl hL hi (by omega) K lt nu sun dry g tg pf kf fs ft fh wk fl fr v ms mw sl tx f1 f2 f3 bs sz am len need psz ksz _ si mo at_ zk na nk nl hI rfl H locs hG ls hl)
      · exact lv_tableIn (off := 738) (tgt := 770) hx hb dL_law_32 (by decide) (by decide) rfl (by decide) (lc_back C hX hbl hL hi (by omega) K lt nu sun dry g tg pf kf fs ft fh wk fl fr v ms mw sl tx f1 f2 f3 bs sz am len need psz ksz _ si mo at_ zk na nk nl hI rfl H locs hG ls hl)
      · exact lv_tableIn (off := 751) (tgt := 783) hx hb dL_law_32 (by decide) (by decide) rfl (by decide) (lc_count C hX hbl hL hi (by omega) K lt nu sun dry g tg pf kf fs ft fh wk fl fr v ms mw sl tx f1 f2 f3 bs sz am len need psz ksz _ si mo at_ zk na nk nl hI rfl H locs hG ls hl)
      · exact lv_tableOut (tgt := 806) hx hb dL_law_32 (Or.inr (by rw [nI_toInt (by omega)]; omega)) (by decide) (K lt nu sun dry g tg pf kf fs ft fh wk fl fr v ms mw sl tx f1 f2 f3 bs sz am len need psz ksz _ si mo at_ zk na nk nl (hI.le (by omega)) rfl H locs hG ls hl)
