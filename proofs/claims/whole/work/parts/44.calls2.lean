theorem e_byte : ∀ k : Fin 127, vp_nar .byte ((nI k.val).toInt8.toInt32) = nI k.val := by decide +kernel
theorem w_rng {x a b : Int32} (h : ¬ o_X7_within_r x a b = 0) : a.toInt ≤ x.toInt ∧ x.toInt ≤ b.toInt := by
  have h1 := z_within h
  rw [Int32.lt_iff_toInt_lt, Int32.lt_iff_toInt_lt] at h1
  omega
theorem w_nat {x a b : Int32} {n : Nat} (ha : 0 ≤ a.toInt) (hb : b.toInt = (n : Int)) (h : ¬ o_X7_within_r x a b = 0) : ∃ k : Nat, k ≤ n ∧ x = nI k := by
  have h1 := w_rng h
  have e := (z_clamp (n := x) (by omega)).1
  have e2 := (z_clamp (n := x) (by omega)).2
  exact ⟨x.toNatClampNeg, by omega, e⟩
theorem nI_lt6 {n : Nat} (h : n ≤ 6) : (nI n < 6) = (n < 6) := propext (nI_ltI (b := 6) (by omega) (by decide))
theorem nI_e6 {n : Nat} (h : n ≤ 6) : (nI n = 6) = (n = 6) := propext (nI_eq (b := 6) (by omega) (by decide))
theorem e_and1 (x : Int32) : x &&& 1 = 0 ∨ x &&& 1 = 1 := by
  by_cases h : x.toBitVec.getLsbD 0 = true
  · refine Or.inr (Int32.toBitVec_inj.1 ?_)
    show x.toBitVec &&& 1#32 = 1#32
    apply BitVec.eq_of_getLsbD_eq
    intro i hi
    cases i with
    | zero => simp [h]
    | succ i => simp
  · refine Or.inl (Int32.toBitVec_inj.1 ?_)
    show x.toBitVec &&& 1#32 = 0#32
    apply BitVec.eq_of_getLsbD_eq
    intro i hi
    cases i with
    | zero =>
      have h' : x.toBitVec[0] = false := by rw [← BitVec.getLsbD_eq_getElem]; simpa using h
      simp [h']
    | succ i => simp
theorem w_c02 {x : Int32} (h : ¬ o_X7_within_r x 0 2 = 0) : x = 0 ∨ x = 1 ∨ x = 2 := by
  obtain ⟨k, hk, rfl⟩ := w_nat (n := 2) (by decide) (by decide) h
  rcases (show k = 0 ∨ k = 1 ∨ k = 2 by omega) with r | r | r <;> subst r <;> decide

set_option maxHeartbeats 2000000 in
theorem q_write {Bd : Int} {lt g sun dry pf kf fs ft fh v ms sl tx f1 f2 f3 : Nat → Int32} {sz len need psz ksz : Int32} {zk na nk nl : Nat} (nu : Nat → Int32) (am x_ : Int32) (hI : Inv Bd lt sz g sun dry len need pf psz kf ksz fs ft fh zk v ms sl tx f1 f2 f3 na nk nl) (hB : Bd < 1000000) : o_X7_write_r lt nu sz am x_ = o_X8_write_r v tx x_ nl ∧ ∃ nb, Inv (Bd + 24) (o_X7_write_2 lt nu sz am x_) (o_X7_write_1_2 lt nu sz am x_) g sun dry len need pf psz kf ksz fs ft fh zk (o_X8_write_v v tx x_ nl) ms sl (o_X8_write_1 v tx x_ nl) f1 f2 f3 na nk nb := by
  have hI' := hI
  obtain ⟨hs, he, hg, hp, p1, p2, p3, hk, k1, k2, k3, t1, t2, t3, t4, z1, z2, z3⟩ := hI'
  subst t1
  unfold o_X7_write_r o_X8_write_r o_X7_write_2 o_X7_write_1_2 o_X8_write_v o_X8_write_1 o_X2_add_0_2 o_X2_add_1
  rw [w_32]
  by_cases c1 : o_X7_within_r x_ 32 126 = 0
  · simp only [if_pos c1]; exact ⟨trivial, nl, hI.le (by omega)⟩
  rw [t2]
  by_cases c : nl = 200
  · subst c
    simp only [if_neg c1, if_neg (show ¬ nI 200 < 200 by decide), if_pos (show nI 200 = 200 from rfl)]
    exact ⟨trivial, 200, hI.le (by omega)⟩
  have c2 : nI nl < 200 := (nI_ltI (a := nl) (b := 200) (by omega) (by decide)).mpr (by omega)
  have c3 : ¬ nI nl = 200 := fun e => c ((nI_eq (a := nl) (b := 200) (by omega) (by decide)).mp e)
  simp only [if_neg c1, if_pos c2, if_neg c3]
  obtain ⟨k, hk126, rfl⟩ := w_nat (n := 126) (by decide) (by decide) c1
  refine ⟨trivial, nl + 1, hs.to rfl rfl rfl, he, hg.le (by omega), hp.le (by omega), p1, p2, p3, hk.le (by omega), k1, k2, k3, nI_1 nl, nI_1 nl, by omega, fun j hj => ?_, z1, z2, z3⟩
  rw [set_eq _ _ (by omega) (by decide), e_byte ⟨k, by omega⟩]
  by_cases c4 : j = nl
  · subst c4
    rw [show upd lt j (nI k) j = nI k from if_pos rfl, show upd tx j (nI k) j = nI k from if_pos rfl]
    exact ⟨rfl, mB_nI (n := 127) (by omega) (by decide)⟩
  · rw [show upd lt nl (nI k) j = lt j from if_neg c4, show upd tx nl (nI k) j = tx j from if_neg c4]
    exact t4 j (by omega)
set_option maxHeartbeats 2000000 in
theorem q_wipe {Bd : Int} {lt g sun dry pf kf fs ft fh v ms sl tx f1 f2 f3 : Nat → Int32} {sz len need psz ksz : Int32} {zk na nk nl : Nat} (nu : Nat → Int32) (am : Int32) (hI : Inv Bd lt sz g sun dry len need pf psz kf ksz fs ft fh zk v ms sl tx f1 f2 f3 na nk nl) (hB : Bd < 1000000) : o_X7_wipe_r lt nu sz am = o_X8_wipe_r v ∧ Inv (Bd + 24) lt 0 g sun dry len need pf psz kf ksz fs ft fh zk (o_X8_wipe_v v) ms sl tx f1 f2 f3 na nk 0 := by
  obtain ⟨hs, he, hg, hp, p1, p2, p3, hk, k1, k2, k3, t1, t2, t3, t4, z1, z2, z3⟩ := hI
  exact ⟨t1.trans t2.symm, hs.to rfl rfl rfl, he, hg.le (by omega), hp.le (by omega), p1, p2, p3, hk.le (by omega), k1, k2, k3, rfl, rfl, by omega, fun j hj => absurd hj (by omega), z1, z2, z3⟩
set_option maxHeartbeats 2000000 in
theorem q_see {Bd : Int} {lt g sun dry pf kf fs ft fh v ms sl tx f1 f2 f3 : Nat → Int32} {sz len need psz ksz : Int32} {zk na nk nl : Nat} (p t h : Int32) (hI : Inv Bd lt sz g sun dry len need pf psz kf ksz fs ft fh zk v ms sl tx f1 f2 f3 na nk nl) (hB : Bd < 1000000) : o_X7_see_r fs ft fh zk p t h = o_X8_see_r v f1 f2 f3 p t h zk ∧ ∃ nb, o_X7_see_1_3 fs ft fh zk p t h = nI nb ∧ Inv (Bd + 24) lt sz g sun dry len need pf psz kf ksz (o_X7_see_2 fs ft fh zk p t h) (o_X7_see_3 fs ft fh zk p t h) (o_X7_see_4 fs ft fh zk p t h) nb (o_X8_see_v v f1 f2 f3 p t h zk) ms sl tx (o_X8_see_1 v f1 f2 f3 p t h zk) (o_X8_see_2 v f1 f2 f3 p t h zk) (o_X8_see_3 v f1 f2 f3 p t h zk) na nk nl := by
  have hI' := hI
  obtain ⟨hs, he, hg, hp, p1, p2, p3, hk, k1, k2, k3, t1, t2, t3, t4, z1, z2, z3⟩ := hI'
  unfold o_X7_see_r o_X8_see_r o_X7_see_1_3 o_X7_see_2 o_X7_see_3 o_X7_see_4 o_X8_see_v o_X8_see_1 o_X8_see_2 o_X8_see_3 o_X5_add_0_3 o_X5_add_1 o_X5_add_2 o_X5_add_3
  rw [w_one, w_124, w_60, z1]
  by_cases c1 : o_X7_isSide_r p = 0
  · simp only [if_pos c1]; exact ⟨trivial, zk, rfl, hI.le (by omega)⟩
  by_cases c2 : o_X7_within_r t 1 24 = 0
  · simp only [if_neg c1, if_pos c2]; exact ⟨trivial, zk, rfl, hI.le (by omega)⟩
  by_cases c3 : o_X7_within_r h 0 60 = 0
  · simp only [if_neg c1, if_neg c2, if_pos c3]; exact ⟨trivial, zk, rfl, hI.le (by omega)⟩
  by_cases c : zk = 6
  · subst c
    simp only [if_neg c1, if_neg c2, if_neg c3, if_neg (show ¬ nI 6 < 6 by decide), if_pos (show nI 6 = 6 from rfl)]
    exact ⟨trivial, 6, rfl, hI.le (by omega)⟩
  have c4 : nI zk < 6 := by rw [nI_lt6 z2]; omega
  have c5 : ¬ nI zk = 6 := by rw [nI_e6 z2]; exact c
  simp only [if_neg c1, if_neg c2, if_neg c3, if_pos c4, if_neg c5]
  rw [set_eq fs _ (by omega) (by decide), set_eq ft _ (by omega) (by decide), set_eq fh _ (by omega) (by decide)]
  refine ⟨trivial, zk + 1, nI_1 zk, hs.to rfl rfl rfl, he, hg.le (by omega), hp.le (by omega), p1, p2, p3, hk.le (by omega), k1, k2, k3, t1, t2, t3, t4, nI_1 zk, by omega, fun j hj => ?_⟩
  by_cases c6 : j = zk
  · subst c6
    refine ⟨by simp [upd], by simp [upd], by simp [upd], ?_⟩
    rw [show upd fs j p j = p from if_pos rfl]
    exact z_side c1
  · have e := z3 j (by omega)
    refine ⟨by simp [upd, c6, e.1], by simp [upd, c6, e.2.1], by simp [upd, c6, e.2.2.1], ?_⟩
    rw [show upd fs zk p j = fs j from if_neg c6]
    exact e.2.2.2
set_option maxHeartbeats 2000000 in
theorem q_forget {Bd : Int} {lt g sun dry pf kf fs ft fh v ms sl tx f1 f2 f3 : Nat → Int32} {sz len need psz ksz : Int32} {zk na nk nl : Nat}  (hI : Inv Bd lt sz g sun dry len need pf psz kf ksz fs ft fh zk v ms sl tx f1 f2 f3 na nk nl) (hB : Bd < 1000000) : o_X7_forget_r fs ft fh zk = o_X8_forget_r v ∧ Inv (Bd + 24) lt sz g sun dry len need pf psz kf ksz fs ft fh 0 (o_X8_forget_v v) ms sl tx f1 f2 f3 na nk nl := by
  obtain ⟨hs, he, hg, hp, p1, p2, p3, hk, k1, k2, k3, t1, t2, t3, t4, z1, z2, z3⟩ := hI
  exact ⟨z1.symm, hs.to rfl rfl rfl, he, hg.le (by omega), hp.le (by omega), p1, p2, p3, hk.le (by omega), k1, k2, k3, t1, t2, t3, t4, rfl, by omega, fun j hj => absurd hj (by omega)⟩
set_option maxHeartbeats 2000000 in
theorem q_count {Bd : Int} {lt g sun dry pf kf fs ft fh v ms sl tx f1 f2 f3 : Nat → Int32} {sz len need psz ksz : Int32} {zk na nk nl : Nat} (nu : Nat → Int32) (am psl ksl what : Int32) (hI : Inv Bd lt sz g sun dry len need pf psz kf ksz fs ft fh zk v ms sl tx f1 f2 f3 na nk nl) (hB : Bd < 1000000) : o_X7_count_r lt nu sz am g sun dry len need pf psl psz kf ksl ksz fs ft fh zk what = o_X8_count_r v sl what := by
  obtain ⟨hs, he, hg, hp, p1, p2, p3, hk, k1, k2, k3, t1, t2, t3, t4, z1, z2, z3⟩ := hI
  unfold o_X7_count_r o_X8_count_r
  rw [hs.1, hs.2.1, z1, p2, p1, k1, k2, t1, t2, e_lz, show sl 11 = g 11 from he.2.2.2.2.2.2.2.2.2.2.2.1, show sl 10 = g 10 from he.2.2.2.2.2.2.2.2.2.2.1, show sl 12 = lz g need from he.2.2.2.2.2.2.2.2.2.2.2.2]
set_option maxHeartbeats 2000000 in
theorem q_hedge {Bd : Int} {lt g sun dry pf kf fs ft fh v ms sl tx f1 f2 f3 : Nat → Int32} {sz len need psz ksz : Int32} {zk na nk nl : Nat} (p what : Int32) (hI : Inv Bd lt sz g sun dry len need pf psz kf ksz fs ft fh zk v ms sl tx f1 f2 f3 na nk nl) (hB : Bd < 1000000) : o_X7_hedge_r g sun dry len need p what = o_X8_hedge_r v ms sl p what := by
  obtain ⟨hs, he, hg, hp, p1, p2, p3, hk, k1, k2, k3, t1, t2, t3, t4, z1, z2, z3⟩ := hI
  obtain ⟨e0, e1, e2, e3, e4, e5, e6, e7, e8, e9, e10, e11, e12⟩ := he
  have hm := hg.2.2.2.2.1.1
  have hnb := hg.2.2.2.2.2.2.2
  have hsun : o_X8_sunIn_0_r v ms sl = o_X6_sunIn_r sun dry len need (g 11) := by
    unfold o_X8_sunIn_0_r
    rw [show sl 11 = g 11 from e11, e_sun (v := v) (sl := sl) hs.2.2.1 hm]
  have i0 := eI_0_0 v ms sl g (fun k => g (k + 5)) (g 10) (g 11) (o_X6_sunIn_r sun dry len need (g 11)) len e2 e3 e5 hs.1 hsun
  have i1 := eI_0_1 v ms sl g (fun k => g (k + 5)) (g 10) (g 11) (o_X6_sunIn_r sun dry len need (g 11)) len e2 e3 e4 hs.1 hsun
  have s0 : o_X8_shadow_0_0_r v ms sl = o_X1_shadowLength_r g (o_X6_sunIn_r sun dry len need (g 11)) := by
    unfold o_X8_shadow_0_0_r o_X1_shadowLength_r
    rw [hsun, show sl 2 = g 1 from e2]
  have s1 : o_X8_shadow_0_1_r v ms sl = o_X1_shadowLength_r (fun k => g (k + 5)) (o_X6_sunIn_r sun dry len need (g 11)) := by
    unfold o_X8_shadow_0_1_r o_X1_shadowLength_r
    rw [hsun, show sl 3 = g 6 from e3]
  have l0 : (if sl 12 = 0 then (1 : Int32) else 0) = if g 4 < need then 0 else 1 := by
    rw [show sl 12 = lz g need from e12]
    unfold lz
    by_cases c : g 4 < need
    · rw [if_pos c, if_pos c]
      by_cases c2 : g 9 < need
      · rw [if_pos c2]; rfl
      · rw [if_neg c2]; rfl
    · rw [if_neg c, if_neg c, if_pos rfl]
  have l1 : (if sl 12 = 1 then (1 : Int32) else 0) = if g 9 < need then 0 else 1 := by
    rw [show sl 12 = lz g need from e12]
    unfold lz
    by_cases c : g 4 < need
    · rw [if_pos c]
      by_cases c2 : g 9 < need
      · rw [if_pos c2, if_pos c2]; rfl
      · rw [if_neg c2, if_neg c2]; rfl
    · rw [if_neg c]
      rcases hnb with q | q
      · exact absurd q c
      · rw [if_pos q]; rfl
  unfold o_X7_hedge_r o_X8_hedge_r
  rw [w_one, w_07, i0, i1, s0, s1, l0, l1, show sl 0 = g 0 from e0, show sl 1 = g 5 from e1, show sl 2 = g 1 from e2, show sl 3 = g 6 from e3, show sl 4 = g 2 from e4, show sl 5 = g 7 from e5, show sl 6 = g 3 from e6, show sl 7 = g 8 from e7, show sl 8 = g 4 from e8, show sl 9 = g 9 from e9]
set_option maxHeartbeats 2000000 in
theorem q_month {Bd : Int} {lt g sun dry pf kf fs ft fh v ms sl tx f1 f2 f3 : Nat → Int32} {sz len need psz ksz : Int32} {zk na nk nl : Nat} (m_ what : Int32) (hI : Inv Bd lt sz g sun dry len need pf psz kf ksz fs ft fh zk v ms sl tx f1 f2 f3 na nk nl) (hB : Bd < 1000000) : o_X7_month_r sun dry len need m_ what = o_X8_month_r v ms m_ what := by
  obtain ⟨hs, he, hg, hp, p1, p2, p3, hk, k1, k2, k3, t1, t2, t3, t4, z1, z2, z3⟩ := hI
  unfold o_X7_month_r o_X8_month_r
  rw [w_99, w_01]
  by_cases c1 : o_X7_within_r m_ 0 99 = 0
  · rw [if_pos c1, if_pos c1]
  rw [if_neg c1, if_neg c1]
  have hm : 0 ≤ m_.toInt := (w_rng c1).1
  rw [e_sun (v := v) (sl := sl) hs.2.2.1 hm, e_dry hs hm]
  have e := e_and1 (v 2 >>> ((m_ - m_ / 12 * 12) &&& 31))
  generalize (v 2 >>> ((m_ - m_ / 12 * 12) &&& 31)) &&& 1 = y at e
  have e2 : (if (if y = 1 then (1 : Int32) else 0) = 0 then (0 : Int32) else 1) = y := by
    rcases e with q | q <;> rw [q] <;> rfl
  rw [e2]
set_option maxHeartbeats 2000000 in
theorem q_behind {Bd : Int} {lt g sun dry pf kf fs ft fh v ms sl tx f1 f2 f3 : Nat → Int32} {sz len need psz ksz : Int32} {zk na nk nl : Nat} (tg : Nat → Int32) (n what : Int32) (hI : Inv Bd lt sz g sun dry len need pf psz kf ksz fs ft fh zk v ms sl tx f1 f2 f3 na nk nl) (hB : Bd < 1000000) : o_X7_behind_r g tg sun dry len need n what = o_X8_behind_r v ms sl n what ∧ Inv (Bd + 24) lt sz g sun dry len need pf psz kf ksz fs ft fh zk v ms (o_X8_behind_2 v ms sl n what) tx f1 f2 f3 na nk nl := by
  have hI' := hI
  obtain ⟨hs, he, hg, hp, p1, p2, p3, hk, k1, k2, k3, t1, t2, t3, t4, z1, z2, z3⟩ := hI'
  unfold o_X7_behind_r o_X8_behind_r o_X8_behind_2
  rw [w_36, w_02]
  by_cases c1 : o_X7_within_r n 0 36 = 0
  · simp only [if_pos c1]; exact ⟨trivial, hI.le (by omega)⟩
  by_cases c2 : o_X7_within_r what 0 2 = 0
  · simp only [if_neg c1, if_pos c2]; exact ⟨trivial, hI.le (by omega)⟩
  simp only [if_neg c1, if_neg c2]
  have hn : n.toNatClampNeg ≤ 36 := z_in3 (a := 0) (b := 36) (by decide) rfl (by rw [w_36]; exact c1)
  have h143 : en 143 (cp13 sl 0 143) (mixG (mkG12 (g 0) (g 1) (g 2) (g 3) (g 4) (g 5) (g 6) (g 7) (g 8) (g 9) (g 10) (g 11)) tg) need := he.cp.g (cg_eq2 g tg)
  obtain ⟨b1, b2, b3⟩ := id_143 v ms (cp13 sl 0 143) _ sun dry len need n n n.toNatClampNeg n.toNatClampNeg hs h143 (hg.g (cg_eq2 g tg)) n.toNatClampNeg (by omega)
  refine ⟨?_, (hI.le (by omega)).tried (fun j hj => (low_idles v ms _ n _ hj).trans (low_cp sl hj)) rfl rfl rfl rfl rfl rfl rfl⟩
  rw [o_X8_idles_r, if_pos (Int32.not_lt.mp b3.nn)]
  obtain ⟨f0, f1', f2', f3', f4, f5, f6, f7, f8, f9, f10, f11, f12⟩ := b1
  rcases w_c02 c2 with r | r | r <;> subst r
  · exact f2'.symm
  · exact f3'.symm
  · exact f12.symm
set_option maxHeartbeats 2000000 in
theorem ye_143 {Bd : Int} (v ms sl g tg sun dry : Nat → Int32) (len need z_ n what n' what' : Int32) (hs : es v ms sun dry len need) (he : en 0 sl g need) (hg : gd Bd g need) :
    ∀ k : Nat, Bd + (k : Int) < 2000000000 → en 143 (L_X8_year_0 v ms sl z_ n what k).2 (L_X7_year_0 g tg sun dry len need z_ n' what' k) need ∧ gd (Bd + k) (L_X7_year_0 g tg sun dry len need z_ n' what' k) need ∧ b4 (L_X8_year_0 v ms sl z_ n what k).1 ∧ ∀ j, j < 143 → (L_X8_year_0 v ms sl z_ n what k).2 j = sl j := by
  intro k
  induction k with
  | zero => intro _; exact ⟨he.cp.g (cg_eq2 g tg), (hg.g (cg_eq2 g tg)).le (by omega), b4.z, fun j hj => low_cp sl hj⟩
  | succ k ih =>
    intro hk
    obtain ⟨i1, i2, i3, i4⟩ := ih (by omega)
    obtain ⟨t1, t2, t3, -⟩ := to_143 v ms _ _ sun dry len need ((o_X7_drawOf_r z_ (nI k)) - (o_X7_drawOf_r z_ (nI k)) / 5 * 5) (((o_X7_drawOf_r z_ (nI k)) / 8) - ((o_X7_drawOf_r z_ (nI k)) / 8) / 5 * 5) hs i1 i2 (by omega)
    exact ⟨t1, t2.le (by omega), i3.or t3, fun j hj => (low_told_143 _ _ _ _ _ hj).trans (i4 j hj)⟩
set_option maxHeartbeats 2000000 in
theorem q_year {Bd : Int} {lt g sun dry pf kf fs ft fh v ms sl tx f1 f2 f3 : Nat → Int32} {sz len need psz ksz : Int32} {zk na nk nl : Nat} (tg : Nat → Int32) (z_ n what : Int32) (hI : Inv Bd lt sz g sun dry len need pf psz kf ksz fs ft fh zk v ms sl tx f1 f2 f3 na nk nl) (hB : Bd < 1000000) : o_X7_year_r g tg sun dry len need z_ n what = o_X8_year_r v ms sl z_ n what ∧ Inv (Bd + 24) lt sz g sun dry len need pf psz kf ksz fs ft fh zk v ms (o_X8_year_2 v ms sl z_ n what) tx f1 f2 f3 na nk nl := by
  have hI' := hI
  obtain ⟨hs, he, hg, hp, p1, p2, p3, hk, k1, k2, k3, t1, t2, t3, t4, z1, z2, z3⟩ := hI'
  unfold o_X7_year_r o_X8_year_r o_X8_year_2
  rw [w_9999, w_140, w_02]
  by_cases c0 : o_X7_within_r z_ 0 9999 = 0
  · simp only [if_pos c0]; exact ⟨trivial, hI.le (by omega)⟩
  by_cases c1 : o_X7_within_r n 1 40 = 0
  · simp only [if_neg c0, if_pos c1]; exact ⟨trivial, hI.le (by omega)⟩
  by_cases c2 : o_X7_within_r what 0 2 = 0
  · simp only [if_neg c0, if_neg c1, if_pos c2]; exact ⟨trivial, hI.le (by omega)⟩
  simp only [if_neg c0, if_neg c1, if_neg c2]
  have hn : n.toNatClampNeg ≤ 40 := z_in3 (a := 1) (b := 40) (by decide) rfl (by rw [w_140]; exact c1)
  obtain ⟨b1, b2, b3, b5⟩ := ye_143 v ms sl g tg sun dry len need z_ n what n what hs he hg n.toNatClampNeg (by omega)
  refine ⟨?_, (hI.le (by omega)).tried b5 rfl rfl rfl rfl rfl rfl rfl⟩
  rw [if_pos (Int32.not_lt.mp b3.nn)]
  obtain ⟨f0, f1', f2', f3', f4, f5, f6, f7, f8, f9, f10, f11, f12⟩ := b1
  rcases w_c02 c2 with r | r | r <;> subst r
  · exact f2'.symm
  · exact f3'.symm
  · exact f12.symm
set_option maxHeartbeats 4000000 in
theorem kd_0 {Bd : Int} (v ms sl g tg sun dry : Nat → Int32) (len need n what p' p'' : Int32) (hs : es v ms sun dry len need) (he : en 0 sl g need) (hg : gd Bd g need) (hB : Bd + (n.toNatClampNeg : Int) < 2000000000) :
    ∀ k : Nat, k ≤ 5 → (L_X7_kind_0 g tg sun dry len need p' n what k).1 = (L_X8_kind_0 v ms sl p'' n what k).1 ∧ (L_X7_kind_0 g tg sun dry len need p' n what k).2.1 = (L_X8_kind_0 v ms sl p'' n what k).2.1 14 ∧ (∀ j, j < 143 → (L_X8_kind_0 v ms sl p'' n what k).2.2 j = sl j) ∧ (∀ j, j < 14 → (L_X8_kind_0 v ms sl p'' n what k).2.1 j = v j) := by
  intro k
  induction k with
  | zero =>
    intro _
    refine ⟨rfl, rfl, fun j hj => rfl, fun j hj => ?_⟩
    rcases (show j = 0 ∨ j = 1 ∨ j = 2 ∨ j = 3 ∨ j = 4 ∨ j = 5 ∨ j = 6 ∨ j = 7 ∨ j = 8 ∨ j = 9 ∨ j = 10 ∨ j = 11 ∨ j = 12 ∨ j = 13 by omega) with r | r | r | r | r | r | r | r | r | r | r | r | r | r <;> subst r <;> rfl
  | succ k ih =>
    intro hk
    obtain ⟨i1, i2, i3, i4⟩ := ih (by omega)
    rw [L_X7_kind_0, L_X8_kind_0]
    generalize L_X7_kind_0 g tg sun dry len need p' n what k = a at i1 i2 ⊢
    generalize L_X8_kind_0 v ms sl p'' n what k = b at i1 i2 i3 i4 ⊢
    have e0 : en 143 (upd (cp13 b.2.2 0 143) 143 (nI k)) (mixG (mkG12 (nI k) (g 1) (g 2) (g 3) (g 4) (g 5) (g 6) (g 7) (g 8) (g 9) (g 10) (g 11)) a.2.2) need := by
      obtain ⟨f0, f1, f2, f3, f4, f5, f6, f7, f8, f9, f10, f11, f12⟩ := (he.low (sl' := b.2.2) (by omega) i3).cp (b := 143)
      exact ⟨rfl, f1, f2, f3, f4, f5, f6, f7, f8, f9, f10, f11, f12⟩
    have hk4 : mB 4 (nI k) := mB_nI (n := 4) (by omega) (by decide)
    have g0 : gd Bd (mixG (mkG12 (nI k) (g 1) (g 2) (g 3) (g 4) (g 5) (g 6) (g 7) (g 8) (g 9) (g 10) (g 11)) a.2.2) need := by
      obtain ⟨q0, q1, q2, q3, q4, q5, q6, q7⟩ := hg
      exact ⟨hk4, q1, q2, q3, q4, q5, q6, q7⟩
    obtain ⟨t1, t2, t3⟩ := id_143 b.2.1 ms _ _ sun dry len need n n n.toNatClampNeg n.toNatClampNeg (hs.to (i4 0 (by decide)) (i4 1 (by decide)) (i4 2 (by decide))) e0 g0 n.toNatClampNeg hB
    have hh : o_X0_idle_g (mixG (mkG12 (nI k) (g 1) (g 2) (g 3) (g 4) (g 5) (g 6) (g 7) (g 8) (g 9) (g 10) (g 11)) a.2.2) sun dry len need n n.toNatClampNeg 1 = (if (0 : Int32) ≤ (o_X8_idles_r b.2.1 ms (upd (cp13 b.2.2 0 143) 143 (nI k)) n n.toNatClampNeg) then ((o_X8_idles_2 b.2.1 ms (upd (cp13 b.2.2 0 143) 143 (nI k)) n n.toNatClampNeg) 145) else 0) := by
      rw [o_X8_idles_r, if_pos (Int32.not_lt.mp t3.nn)]
      exact t1.2.2.1.symm
    refine ⟨?_, ?_, fun j hj => ?_, fun j hj => ?_⟩
    · show (if o_X0_idle_g (mixG (mkG12 (nI k) (g 1) (g 2) (g 3) (g 4) (g 5) (g 6) (g 7) (g 8) (g 9) (g 10) (g 11)) a.2.2) sun dry len need n n.toNatClampNeg 1 ≤ a.1 then a.1 else o_X0_idle_g (mixG (mkG12 (nI k) (g 1) (g 2) (g 3) (g 4) (g 5) (g 6) (g 7) (g 8) (g 9) (g 10) (g 11)) a.2.2) sun dry len need n n.toNatClampNeg 1) = o_X8_larger_r b.1 (if (0 : Int32) ≤ (o_X8_idles_r b.2.1 ms (upd (cp13 b.2.2 0 143) 143 (nI k)) n n.toNatClampNeg) then ((o_X8_idles_2 b.2.1 ms (upd (cp13 b.2.2 0 143) 143 (nI k)) n n.toNatClampNeg) 145) else 0)
      rw [← hh, i1]; rfl
    · show (if o_X0_idle_g (mixG (mkG12 (nI k) (g 1) (g 2) (g 3) (g 4) (g 5) (g 6) (g 7) (g 8) (g 9) (g 10) (g 11)) a.2.2) sun dry len need n n.toNatClampNeg 1 ≤ a.1 then a.2.1 else (nI k)) = (if (if (0 : Int32) ≤ (o_X8_idles_r b.2.1 ms (upd (cp13 b.2.2 0 143) 143 (nI k)) n n.toNatClampNeg) then ((o_X8_idles_2 b.2.1 ms (upd (cp13 b.2.2 0 143) 143 (nI k)) n n.toNatClampNeg) 145) else 0) ≤ b.1 then b.2.1 14 else nI k)
      rw [← hh, i1, i2]
    · exact (low_idles _ ms _ n _ hj).trans ((if_neg (show j ≠ 143 by omega)).trans ((low_cp b.2.2 hj).trans (i3 j hj)))
    · rw [← i4 j hj]
      rcases (show j = 0 ∨ j = 1 ∨ j = 2 ∨ j = 3 ∨ j = 4 ∨ j = 5 ∨ j = 6 ∨ j = 7 ∨ j = 8 ∨ j = 9 ∨ j = 10 ∨ j = 11 ∨ j = 12 ∨ j = 13 by omega) with r | r | r | r | r | r | r | r | r | r | r | r | r | r <;> subst r <;> rfl
set_option maxHeartbeats 4000000 in
theorem kd_1 {Bd : Int} (v ms sl g tg sun dry : Nat → Int32) (len need n what p' p'' : Int32) (hs : es v ms sun dry len need) (he : en 0 sl g need) (hg : gd Bd g need) (hB : Bd + (n.toNatClampNeg : Int) < 2000000000) :
    ∀ k : Nat, k ≤ 5 → (L_X7_kind_2 g tg sun dry len need p' n what k).1 = (L_X8_kind_3 v ms sl p'' n what k).1 ∧ (L_X7_kind_2 g tg sun dry len need p' n what k).2.1 = (L_X8_kind_3 v ms sl p'' n what k).2.1 14 ∧ (∀ j, j < 143 → (L_X8_kind_3 v ms sl p'' n what k).2.2 j = sl j) ∧ (∀ j, j < 14 → (L_X8_kind_3 v ms sl p'' n what k).2.1 j = v j) := by
  intro k
  induction k with
  | zero =>
    intro _
    refine ⟨rfl, rfl, fun j hj => rfl, fun j hj => ?_⟩
    rcases (show j = 0 ∨ j = 1 ∨ j = 2 ∨ j = 3 ∨ j = 4 ∨ j = 5 ∨ j = 6 ∨ j = 7 ∨ j = 8 ∨ j = 9 ∨ j = 10 ∨ j = 11 ∨ j = 12 ∨ j = 13 by omega) with r | r | r | r | r | r | r | r | r | r | r | r | r | r <;> subst r <;> rfl
  | succ k ih =>
    intro hk
    obtain ⟨i1, i2, i3, i4⟩ := ih (by omega)
    rw [L_X7_kind_2, L_X8_kind_3]
    generalize L_X7_kind_2 g tg sun dry len need p' n what k = a at i1 i2 ⊢
    generalize L_X8_kind_3 v ms sl p'' n what k = b at i1 i2 i3 i4 ⊢
    have e0 : en 143 (upd (cp13 b.2.2 0 143) 144 (nI k)) (mixG (mkG12 (g 0) (g 1) (g 2) (g 3) (g 4) (nI k) (g 6) (g 7) (g 8) (g 9) (g 10) (g 11)) a.2.2) need := by
      obtain ⟨f0, f1, f2, f3, f4, f5, f6, f7, f8, f9, f10, f11, f12⟩ := (he.low (sl' := b.2.2) (by omega) i3).cp (b := 143)
      exact ⟨f0, rfl, f2, f3, f4, f5, f6, f7, f8, f9, f10, f11, f12⟩
    have hk4 : mB 4 (nI k) := mB_nI (n := 4) (by omega) (by decide)
    have g0 : gd Bd (mixG (mkG12 (g 0) (g 1) (g 2) (g 3) (g 4) (nI k) (g 6) (g 7) (g 8) (g 9) (g 10) (g 11)) a.2.2) need := by
      obtain ⟨q0, q1, q2, q3, q4, q5, q6, q7⟩ := hg
      exact ⟨q0, hk4, q2, q3, q4, q5, q6, q7⟩
    obtain ⟨t1, t2, t3⟩ := id_143 b.2.1 ms _ _ sun dry len need n n n.toNatClampNeg n.toNatClampNeg (hs.to (i4 0 (by decide)) (i4 1 (by decide)) (i4 2 (by decide))) e0 g0 n.toNatClampNeg hB
    have hh : o_X0_idle_g (mixG (mkG12 (g 0) (g 1) (g 2) (g 3) (g 4) (nI k) (g 6) (g 7) (g 8) (g 9) (g 10) (g 11)) a.2.2) sun dry len need n n.toNatClampNeg 6 = (if (0 : Int32) ≤ (o_X8_idles_r b.2.1 ms (upd (cp13 b.2.2 0 143) 144 (nI k)) n n.toNatClampNeg) then ((o_X8_idles_2 b.2.1 ms (upd (cp13 b.2.2 0 143) 144 (nI k)) n n.toNatClampNeg) 146) else 0) := by
      rw [o_X8_idles_r, if_pos (Int32.not_lt.mp t3.nn)]
      exact t1.2.2.2.1.symm
    refine ⟨?_, ?_, fun j hj => ?_, fun j hj => ?_⟩
    · show (if o_X0_idle_g (mixG (mkG12 (g 0) (g 1) (g 2) (g 3) (g 4) (nI k) (g 6) (g 7) (g 8) (g 9) (g 10) (g 11)) a.2.2) sun dry len need n n.toNatClampNeg 6 ≤ a.1 then a.1 else o_X0_idle_g (mixG (mkG12 (g 0) (g 1) (g 2) (g 3) (g 4) (nI k) (g 6) (g 7) (g 8) (g 9) (g 10) (g 11)) a.2.2) sun dry len need n n.toNatClampNeg 6) = o_X8_larger_r b.1 (if (0 : Int32) ≤ (o_X8_idles_r b.2.1 ms (upd (cp13 b.2.2 0 143) 144 (nI k)) n n.toNatClampNeg) then ((o_X8_idles_2 b.2.1 ms (upd (cp13 b.2.2 0 143) 144 (nI k)) n n.toNatClampNeg) 146) else 0)
      rw [← hh, i1]; rfl
    · show (if o_X0_idle_g (mixG (mkG12 (g 0) (g 1) (g 2) (g 3) (g 4) (nI k) (g 6) (g 7) (g 8) (g 9) (g 10) (g 11)) a.2.2) sun dry len need n n.toNatClampNeg 6 ≤ a.1 then a.2.1 else (nI k)) = (if (if (0 : Int32) ≤ (o_X8_idles_r b.2.1 ms (upd (cp13 b.2.2 0 143) 144 (nI k)) n n.toNatClampNeg) then ((o_X8_idles_2 b.2.1 ms (upd (cp13 b.2.2 0 143) 144 (nI k)) n n.toNatClampNeg) 146) else 0) ≤ b.1 then b.2.1 14 else nI k)
      rw [← hh, i1, i2]
    · exact (low_idles _ ms _ n _ hj).trans ((if_neg (show j ≠ 144 by omega)).trans ((low_cp b.2.2 hj).trans (i3 j hj)))
    · rw [← i4 j hj]
      rcases (show j = 0 ∨ j = 1 ∨ j = 2 ∨ j = 3 ∨ j = 4 ∨ j = 5 ∨ j = 6 ∨ j = 7 ∨ j = 8 ∨ j = 9 ∨ j = 10 ∨ j = 11 ∨ j = 12 ∨ j = 13 by omega) with r | r | r | r | r | r | r | r | r | r | r | r | r | r <;> subst r <;> rfl
set_option maxHeartbeats 2000000 in
theorem q_kind {Bd : Int} {lt g sun dry pf kf fs ft fh v ms sl tx f1 f2 f3 : Nat → Int32} {sz len need psz ksz : Int32} {zk na nk nl : Nat} (tg : Nat → Int32) (p n what : Int32) (hI : Inv Bd lt sz g sun dry len need pf psz kf ksz fs ft fh zk v ms sl tx f1 f2 f3 na nk nl) (hB : Bd < 1000000) : o_X7_kind_r g tg sun dry len need p n what = o_X8_kind_r v ms sl p n what ∧ Inv (Bd + 24) lt sz g sun dry len need pf psz kf ksz fs ft fh zk (o_X8_kind_v v ms sl p n what) ms (o_X8_kind_2 v ms sl p n what) tx f1 f2 f3 na nk nl := by
  have hI' := hI
  obtain ⟨hs, he, hg, hp, p1, p2, p3, hk, k1, k2, k3, t1, t2, t3, t4, z1, z2, z3⟩ := hI'
  unfold o_X7_kind_r o_X8_kind_r o_X8_kind_v o_X8_kind_2
  rw [w_one, w_124, w_01]
  by_cases c0 : o_X7_isSide_r p = 0
  · simp only [if_pos c0]; exact ⟨trivial, hI.le (by omega)⟩
  by_cases c1 : o_X7_within_r n 1 24 = 0
  · simp only [if_neg c0, if_pos c1]; exact ⟨trivial, hI.le (by omega)⟩
  by_cases c2 : o_X7_within_r what 0 1 = 0
  · simp only [if_neg c0, if_neg c1, if_pos c2]; exact ⟨trivial, hI.le (by omega)⟩
  rw [e_over (v := v) (b := 0) (sun := sun) (dry := dry) (len := len) he]
  by_cases c3 : o_X7_isOver_r g sun dry len need = 0
  · have hn : n.toNatClampNeg ≤ 24 := z_in3 (a := 1) (b := 24) (by decide) rfl (by rw [w_124]; exact c1)
    by_cases c4 : p = 0
    · simp only [if_neg c0, if_neg c1, if_neg c2, if_pos c3, if_pos c4]
      obtain ⟨b1, b2, b3, b5⟩ := kd_0 v ms sl g tg sun dry len need n what 0 0 hs he hg (by omega) 5 (by decide)
      rw [b1, b2]
      exact ⟨rfl, (hI.le (by omega)).tried b3 (b5 0 (by decide)) (b5 1 (by decide)) (b5 2 (by decide)) (b5 6 (by decide)) (b5 7 (by decide)) (b5 8 (by decide)) (b5 12 (by decide))⟩
    · simp only [if_neg c0, if_neg c1, if_neg c2, if_pos c3, if_neg c4]
      obtain ⟨b1, b2, b3, b5⟩ := kd_1 v ms sl g tg sun dry len need n what 1 1 hs he hg (by omega) 5 (by decide)
      rw [b1, b2]
      exact ⟨rfl, (hI.le (by omega)).tried b3 (b5 0 (by decide)) (b5 1 (by decide)) (b5 2 (by decide)) (b5 6 (by decide)) (b5 7 (by decide)) (b5 8 (by decide)) (b5 12 (by decide))⟩
  · by_cases c4 : p = 0
    · simp only [if_neg c0, if_neg c1, if_neg c2, if_neg c3, if_pos c4]; exact ⟨trivial, hI.le (by omega)⟩
    · simp only [if_neg c0, if_neg c1, if_neg c2, if_neg c3, if_neg c4]; exact ⟨trivial, hI.le (by omega)⟩
