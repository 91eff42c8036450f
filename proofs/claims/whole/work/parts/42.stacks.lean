theorem w_in (x a b : Int32) : o_X8_in_r x.toInt64 a.toInt64 b.toInt64 = o_X7_within_r x a b := by
  unfold o_X8_in_r o_X7_within_r
  have h1 : (lg_cmp x.toInt64 a.toInt64 < 0) = (x < a) := propext (by rw [lg_cmp_lt, Int64.lt_iff_toInt_lt, Int32.toInt_toInt64, Int32.toInt_toInt64, Int32.lt_iff_toInt_lt])
  have h2 : (0 < lg_cmp x.toInt64 b.toInt64) = (b < x) := propext (by rw [lg_cmp_gt, Int64.lt_iff_toInt_lt, Int32.toInt_toInt64, Int32.toInt_toInt64, Int32.lt_iff_toInt_lt])
  simp only [h1, h2]
theorem w_one (p : Int32) : o_X8_isOne_r p = o_X7_isSide_r p := w_in p 0 1
theorem e_dry {v ms sun dry : Nat → Int32} {len need mo : Int32} (hs : es v ms sun dry len need) (hm : 0 ≤ mo.toInt) : o_X6_isDry_r sun dry len need mo = (if ((v 2 >>> ((mo - mo / 12 * 12) &&& 31)) &&& 1) = 1 then 1 else 0) := by
  unfold o_X6_isDry_r o_X7_cell_r
  rw [e_fm hm, z_remN hm]
  have hlt : mo.toNatClampNeg % 12 < 12 := Nat.mod_lt _ (by decide)
  rw [if_neg (nI_pos (by omega)), if_neg (show ¬ nI 12 ≤ nI (mo.toNatClampNeg % 12) from nI_ge hlt (by decide)), nI_clamp (by omega)]
  exact hs.2.2.2.2.2 _ hlt
theorem es.to {v v' ms sun dry : Nat → Int32} {len need : Int32} (hs : es v ms sun dry len need) (h0 : v' 0 = v 0) (h1 : v' 1 = v 1) (h2 : v' 2 = v 2) : es v' ms sun dry len need :=
  ⟨h0.trans hs.1, h1.trans hs.2.1, hs.2.2.1, hs.2.2.2.1, hs.2.2.2.2.1, by rw [h2]; exact hs.2.2.2.2.2⟩
theorem en.cp {a b : Nat} {sl g : Nat → Int32} {need : Int32} (h : en a sl g need) : en b (cp13 sl a b) g need := by
  have key : ∀ i, i < 13 → cp13 sl a b (b + i) = sl (a + i) := fun i hi => by
    unfold cp13
    rw [if_pos (by omega), Nat.add_sub_cancel_left]
  obtain ⟨h0, h1, h2, h3, h4, h5, h6, h7, h8, h9, h10, h11, h12⟩ := h
  exact ⟨(key 0 (by decide)).trans h0, (key 1 (by decide)).trans h1, (key 2 (by decide)).trans h2, (key 3 (by decide)).trans h3, (key 4 (by decide)).trans h4, (key 5 (by decide)).trans h5, (key 6 (by decide)).trans h6, (key 7 (by decide)).trans h7, (key 8 (by decide)).trans h8, (key 9 (by decide)).trans h9, (key 10 (by decide)).trans h10, (key 11 (by decide)).trans h11, (key 12 (by decide)).trans h12⟩
theorem en.of {a b : Nat} {sl sl' g : Nat → Int32} {need : Int32} (h : en a sl g need) (key : ∀ i, i < 13 → sl' (b + i) = sl (a + i)) : en b sl' g need := by
  obtain ⟨h0, h1, h2, h3, h4, h5, h6, h7, h8, h9, h10, h11, h12⟩ := h
  exact ⟨(key 0 (by decide)).trans h0, (key 1 (by decide)).trans h1, (key 2 (by decide)).trans h2, (key 3 (by decide)).trans h3, (key 4 (by decide)).trans h4, (key 5 (by decide)).trans h5, (key 6 (by decide)).trans h6, (key 7 (by decide)).trans h7, (key 8 (by decide)).trans h8, (key 9 (by decide)).trans h9, (key 10 (by decide)).trans h10, (key 11 (by decide)).trans h11, (key 12 (by decide)).trans h12⟩
/-- gardens alike in their twelve places -/
theorem en.g {b : Nat} {sl g g' : Nat → Int32} {need : Int32} (h : en b sl g need) (hg : ∀ i, i < 12 → g' i = g i) : en b sl g' need := by
  obtain ⟨h0, h1, h2, h3, h4, h5, h6, h7, h8, h9, h10, h11, h12⟩ := h
  refine ⟨h0.trans (hg 0 (by decide)).symm, h1.trans (hg 5 (by decide)).symm, h2.trans (hg 1 (by decide)).symm, h3.trans (hg 6 (by decide)).symm, h4.trans (hg 2 (by decide)).symm, h5.trans (hg 7 (by decide)).symm, h6.trans (hg 3 (by decide)).symm, h7.trans (hg 8 (by decide)).symm, h8.trans (hg 4 (by decide)).symm, h9.trans (hg 9 (by decide)).symm, h10.trans (hg 10 (by decide)).symm, h11.trans (hg 11 (by decide)).symm, h12.trans ?_⟩
  unfold lz
  rw [hg 4 (by decide), hg 9 (by decide)]
theorem gd.g {Bd : Int} {g g' : Nat → Int32} {need : Int32} (h : gd Bd g need) (hg : ∀ i, i < 12 → g' i = g i) : gd Bd g' need := by
  unfold gd
  rw [hg 0 (by decide), hg 5 (by decide), hg 1 (by decide), hg 6 (by decide), hg 11 (by decide), hg 4 (by decide), hg 9 (by decide)]
  exact h
theorem gd.le {B C : Int} {g : Nat → Int32} {need : Int32} (h : gd B g need) (hc : B ≤ C) : gd C g need :=
  ⟨h.1, h.2.1, h.2.2.1, h.2.2.2.1, ⟨h.2.2.2.2.1.1, Int.le_trans h.2.2.2.2.1.2 hc⟩, h.2.2.2.2.2⟩
theorem en.low {b : Nat} {sl sl' g : Nat → Int32} {need : Int32} (h : en b sl g need) (hb : b + 13 ≤ 143) (hl : ∀ j, j < 143 → sl' j = sl j) : en b sl' g need := h.of (fun i hi => hl _ (by omega))
theorem e_over {b : Nat} {v sl g sun dry : Nat → Int32} {len need : Int32} (h : en 0 sl g need) : o_X8_isOver_r v sl = o_X7_isOver_r g sun dry len need := by
  unfold o_X8_isOver_r o_X7_isOver_r
  rw [show sl 12 = lz g need from h.2.2.2.2.2.2.2.2.2.2.2.2, e_lz]
  simp only [lz_neg]
theorem e_over0 {g sun dry : Nat → Int32} {len need : Int32} (h : o_X7_isOver_r g sun dry len need = 0) : lz g need = -4 := by
  unfold o_X7_isOver_r at h
  rw [e_lz] at h
  by_cases c : lz g need = -4
  · exact c
  · rw [if_neg c] at h; exact absurd h (by decide)
/-- a garden's twelve places, copied -/
theorem cg_eq (g : Nat → Int32) : ∀ i, i < 12 → mkG12 (g 0) (g 1) (g 2) (g 3) (g 4) (g 5) (g 6) (g 7) (g 8) (g 9) (g 10) (g 11) i = g i := by
  intro i hi
  rcases (show i = 0 ∨ i = 1 ∨ i = 2 ∨ i = 3 ∨ i = 4 ∨ i = 5 ∨ i = 6 ∨ i = 7 ∨ i = 8 ∨ i = 9 ∨ i = 10 ∨ i = 11 by omega) with r | r | r | r | r | r | r | r | r | r | r | r <;> subst r <;> rfl
/-- the same, whatever stands behind the twelve places -/
theorem cg_eq2 (g w : Nat → Int32) : ∀ i, i < 12 → mixG (mkG12 (g 0) (g 1) (g 2) (g 3) (g 4) (g 5) (g 6) (g 7) (g 8) (g 9) (g 10) (g 11)) w i = g i := fun i hi => (mixG_eq _ _ i hi).trans (cg_eq g i hi)
theorem lz_mix (f w : Nat → Int32) (need : Int32) : lz (mixG f w) need = lz f need := rfl
theorem tend_hc {w mo ac : Int32} {h h' : Nat → Int32} (e : ∀ i, i < 5 → h' i = h i) : ∀ i, i < 5 → o_X0_tend_h w mo h' ac i = o_X0_tend_h w mo h ac i := by
  intro i hi
  have e0 := e 0 (by decide)
  have e1 := e 1 (by decide)
  have e2 := e 2 (by decide)
  have e3 := e 3 (by decide)
  have e4 := e 4 (by decide)
  unfold o_X0_tend_h
  simp only [e0, e1, e2, e3, e4]
  (repeat' split) <;> first | rfl | exact e i hi
theorem tend_vc {w mo ac : Int32} {h h' : Nat → Int32} (e : ∀ i, i < 5 → h' i = h i) : o_X0_tend_0_2 w mo h' ac = o_X0_tend_0_2 w mo h ac ∧ o_X0_tend_1_5 w mo h' ac = o_X0_tend_1_5 w mo h ac ∧ o_X0_tend_1_6 w mo h' ac = o_X0_tend_1_6 w mo h ac := by
  unfold o_X0_tend_0_2 o_X0_tend_1_5 o_X0_tend_1_6
  simp only [e 0 (by decide), e 1 (by decide), e 2 (by decide), e 3 (by decide), e 4 (by decide), and_self]
theorem grow_c {h h' : Nat → Int32} (e : ∀ i, i < 5 → h' i = h i) (mo dr mr wt : Int32) : o_X1_grow_0_1 h' mo dr mr wt = o_X1_grow_0_1 h mo dr mr wt := by
  unfold o_X1_grow_0_1 j_X1_grow_1_0 j_X1_grow_3_0 j_X1_grow_0_0 j_X1_grow_2_0
  simp only [e 0 (by decide), e 1 (by decide)]
set_option maxHeartbeats 4000000 in
/-- a month looks at the twelve places alone -/
theorem turnBy_c {g g' : Nat → Int32} (e : ∀ i, i < 12 → g' i = g i) (sun dry : Nat → Int32) (len need da db dr : Int32) : ∀ i, i < 12 → o_X0_turnBy_g g' sun dry len need da db dr i = o_X0_turnBy_g g sun dry len need da db dr i := by
  have a0 : ∀ i, i < 5 → o_X0_tend_h (g 10) (g 11) g' da i = o_X0_tend_h (g 10) (g 11) g da i := tend_hc (fun i hi => e i (by omega))
  obtain ⟨a1, a2, a3⟩ := tend_vc (w := g 10) (mo := g 11) (ac := da) (h := g) (h' := g') (fun i hi => e i (by omega))
  have e5 : ∀ i, i < 5 → (fun k => g' (k + 5)) i = (fun k => g (k + 5)) i := fun i hi => e (i + 5) (by omega)
  have b0 : ∀ i, i < 5 → o_X0_tend_h (o_X0_tend_0_2 (g 10) (g 11) g da) (g 11) (fun k => g' (k + 5)) db i = o_X0_tend_h (o_X0_tend_0_2 (g 10) (g 11) g da) (g 11) (fun k => g (k + 5)) db i := tend_hc e5
  obtain ⟨b1, b2, b3⟩ := tend_vc (w := (o_X0_tend_0_2 (g 10) (g 11) g da)) (mo := g 11) (ac := db) e5
  have a4 := grow_c a0 (g 11) dr
  have b4 := grow_c b0 (g 11) dr
  have e4 := e 4 (by decide)
  have e9 := e 9 (by decide)
  have e10 := e 10 (by decide)
  have e11 := e 11 (by decide)
  have d0 : j_X0_turnBy_0_0 g' sun dry len need da db dr = j_X0_turnBy_0_0 g sun dry len need da db dr := by
    unfold j_X0_turnBy_0_0
    simp only [e10, e11, a1, a2, a3, b1, b2, b3, a4, b4, a0 0 (by decide), a0 2 (by decide), a0 3 (by decide), a0 4 (by decide), b0 0 (by decide), b0 2 (by decide), b0 3 (by decide), b0 4 (by decide)]
  have d1 : j_X0_turnBy_1_0 g' sun dry len need da db dr = j_X0_turnBy_1_0 g sun dry len need da db dr := by
    unfold j_X0_turnBy_1_0
    simp only [d0, e10, e11, a1, a2, a3, b1, b2, b3, a4, b4, a0 0 (by decide), a0 2 (by decide), a0 3 (by decide), a0 4 (by decide), b0 0 (by decide), b0 2 (by decide), b0 3 (by decide), b0 4 (by decide)]
  have hl : lz g' need = lz g need := by unfold lz; rw [e4, e9]
  intro i hi
  rw [o_X0_turnBy_g, o_X0_turnBy_g, e_lz, e_lz, hl]
  by_cases c : lz g need = -4
  · rw [if_pos c, if_pos c, d0, d1]
    rcases (show i = 0 ∨ i = 1 ∨ i = 2 ∨ i = 3 ∨ i = 4 ∨ i = 5 ∨ i = 6 ∨ i = 7 ∨ i = 8 ∨ i = 9 ∨ i = 10 ∨ i = 11 by omega) with r | r | r | r | r | r | r | r | r | r | r | r <;> subst r <;> simp only [mkG16_0, mkG16_1, mkG16_2, mkG16_3, mkG16_4, mkG16_5, mkG16_6, mkG16_7, mkG16_8, mkG16_9, mkG16_10, mkG16_11, e10, e11, a1, a2, a3, b1, b2, b3, a4, b4, a0 0 (by decide), a0 2 (by decide), a0 3 (by decide), a0 4 (by decide), b0 0 (by decide), b0 2 (by decide), b0 3 (by decide), b0 4 (by decide)]
  · rw [if_neg c, if_neg c]; exact e i hi
theorem turn_c {g g' : Nat → Int32} (e : ∀ i, i < 12 → g' i = g i) (sun dry : Nat → Int32) (len need da db : Int32) : ∀ i, i < 12 → o_X0_turn_g g' sun dry len need da db i = o_X0_turn_g g sun dry len need da db i := by
  intro i hi
  rw [o_X0_turn_g, o_X0_turn_g, e 11 (by decide)]
  exact turnBy_c e sun dry len need da db _ i hi

theorem to_0 {Bd : Int} (v ms sl g sun dry : Nat → Int32) (len need da db : Int32) (hs : es v ms sun dry len need) (he : en 0 sl g need) (hg : gd Bd g need) (hBd : Bd < 2000000000) :
    en 0 (o_X8_told_0_2 v ms sl da db) (o_X0_turn_g g sun dry len need da db) need ∧ gd (Bd + 1) (o_X0_turn_g g sun dry len need da db) need ∧ b4 (o_X8_told_0_r v ms sl da db) ∧ (lz g need = -4 → o_X8_told_0_r v ms sl da db = (if o_X0_turn_g g sun dry len need da db 4 ≤ 0 then 0 else 1) ||| (if o_X0_turn_g g sun dry len need da db 9 ≤ 0 then 0 else 2)) := by
  have h := go_0 v ms sl g sun dry len need da db (o_X6_isDry_r sun dry len need (g 11)) hs he hg hBd
  have e : o_X8_isDryNow_0_r v sl = o_X6_isDry_r sun dry len need (g 11) := by
    unfold o_X8_isDryNow_0_r
    rw [show sl 11 = g 11 from he.2.2.2.2.2.2.2.2.2.2.2.1, e_dry hs hg.2.2.2.2.1.1]
  rw [o_X8_told_0_2, o_X8_told_0_r, o_X0_turn_g, e]
  exact h
theorem to_143 {Bd : Int} (v ms sl g sun dry : Nat → Int32) (len need da db : Int32) (hs : es v ms sun dry len need) (he : en 143 sl g need) (hg : gd Bd g need) (hBd : Bd < 2000000000) :
    en 143 (o_X8_told_143_2 v ms sl da db) (o_X0_turn_g g sun dry len need da db) need ∧ gd (Bd + 1) (o_X0_turn_g g sun dry len need da db) need ∧ b4 (o_X8_told_143_r v ms sl da db) ∧ (lz g need = -4 → o_X8_told_143_r v ms sl da db = (if o_X0_turn_g g sun dry len need da db 4 ≤ 0 then 0 else 1) ||| (if o_X0_turn_g g sun dry len need da db 9 ≤ 0 then 0 else 2)) := by
  have h := go_143 v ms sl g sun dry len need da db (o_X6_isDry_r sun dry len need (g 11)) hs he hg hBd
  have e : o_X8_isDryNow_143_r v sl = o_X6_isDry_r sun dry len need (g 11) := by
    unfold o_X8_isDryNow_143_r
    rw [show sl 154 = g 11 from he.2.2.2.2.2.2.2.2.2.2.2.1, e_dry hs hg.2.2.2.2.1.1]
  rw [o_X8_told_143_2, o_X8_told_143_r, o_X0_turn_g, e]
  exact h
theorem id_143 {Bd : Int} (v ms sl g sun dry : Nat → Int32) (len need n n' : Int32) (nn nn' : Nat) (hs : es v ms sun dry len need) (he : en 143 sl g need) (hg : gd Bd g need) :
    ∀ k : Nat, Bd + (k : Int) < 2000000000 → en 143 (L_X8_idles_0 v ms sl n nn k).2 (L_X0_idle_0 g sun dry len need n' nn' k) need ∧ gd (Bd + k) (L_X0_idle_0 g sun dry len need n' nn' k) need ∧ b4 (L_X8_idles_0 v ms sl n nn k).1 := by
  intro k
  induction k with
  | zero => intro _; exact ⟨he, hg.le (by omega), b4.z⟩
  | succ k ih =>
    intro hk
    obtain ⟨i1, i2, i3⟩ := ih (by omega)
    obtain ⟨t1, t2, t3, -⟩ := to_143 v ms _ _ sun dry len need 0 0 hs i1 i2 (by omega)
    exact ⟨t1, t2.le (by omega), i3.or t3⟩
theorem id_0 {Bd : Int} (v w ms sl g sun dry : Nat → Int32) (len need n n' : Int32) (na nn' : Nat) (hs : es (o_X8_known_v v sl na) ms sun dry len need) (he : en 0 (o_X8_known_1 v sl na) g need) (hg : gd Bd g need) :
    ∀ k : Nat, Bd + (k : Int) < 2000000000 → en 0 (L_X8_pass_0 v ms sl n na k).2 (L_X0_idle_0 g sun dry len need n' nn' k) need ∧ gd (Bd + k) (L_X0_idle_0 g sun dry len need n' nn' k) need ∧ b4 (L_X8_pass_0 v ms sl n na k).1 := by
  intro k
  induction k with
  | zero => intro _; exact ⟨he, hg.le (by omega), b4.z⟩
  | succ k ih =>
    intro hk
    obtain ⟨i1, i2, i3⟩ := ih (by omega)
    obtain ⟨t1, t2, t3, -⟩ := to_0 _ ms _ _ sun dry len need 0 0 hs i1 i2 (by omega)
    exact ⟨t1, t2.le (by omega), i3.or t3⟩
/-- what of the slots stays in a month of the garden at 0 -/
theorem hi_told (v ms sl : Nat → Int32) (da db : Int32) {j : Nat} (h : 13 ≤ j) : o_X8_told_0_2 v ms sl da db j = sl j := by
  unfold o_X8_told_0_2 o_X8_goes_0_2
  split
  · simp only [upd, show j ≠ 8 from by omega, show j ≠ 9 from by omega, show j ≠ 12 from by omega, show j ≠ 11 from by omega, if_false]
    rw [eq_0_1 _ _ _ _ _ (by omega), eq_0_0 _ _ _ _ _ (by omega), eo_0_1 _ _ _ _ (by omega) (by omega) (by omega) (by omega), eo_0_0 _ _ _ _ (by omega) (by omega) (by omega) (by omega)]
  · rfl
theorem hi_pass (v ms sl : Nat → Int32) (n : Int32) (na : Nat) {j : Nat} (h : 13 ≤ j) : ∀ k, (L_X8_pass_0 v ms sl n na k).2 j = o_X8_known_1 v sl na j := by
  intro k
  induction k with
  | zero => rfl
  | succ k ih => exact (hi_told _ _ _ _ _ h).trans ih
/-! stacks -/
theorem set_eq {N a : Nat} (f : Nat → Int32) (v : Int32) (h : a < N) (hN : N < 2 ^ 31) : o_X7_setCell_0 N f (nI a) v = upd f a v := by
  unfold o_X7_setCell_0
  rw [if_neg (nI_pos (by omega)), if_neg (nI_ge h hN), nI_clamp (by omega)]
theorem cell_eq {N a : Nat} (f : Nat → Int32) (h : a < N) (hN : N < 2 ^ 31) : o_X7_cell_r N f (nI a) = f a := by
  unfold o_X7_cell_r
  rw [if_neg (nI_pos (by omega)), if_neg (nI_ge h hN), nI_clamp (by omega)]
theorem nI_c (a c : Nat) (x : Int32) (hx : x = nI c) : nI a + x = nI (a + c) := by rw [hx, nI_add]
theorem store_eq {N a : Nat} (g f : Nat → Int32) (h : a + 12 ≤ N) (hN : N < 2 ^ 31) : o_X0_store_3 N g f (nI a) = upd (upd (upd (upd (upd (upd (upd (upd (upd (upd (upd (upd f a (g 0)) (a + 1) (g 1)) (a + 2) (g 2)) (a + 3) (g 3)) (a + 4) (g 4)) (a + 5) (g 5)) (a + 6) (g 6)) (a + 7) (g 7)) (a + 8) (g 8)) (a + 9) (g 9)) (a + 10) (g 10)) (a + 11) (g 11) := by
  unfold o_X0_store_3 o_X1_store_1
  rw [nI_c a 1 1 rfl, nI_c a 2 2 rfl, nI_c a 3 3 rfl, nI_c a 4 4 rfl, nI_c a 5 5 rfl, nI_c a 10 10 rfl, nI_c (a + 5) 1 1 rfl, nI_c (a + 5) 2 2 rfl, nI_c (a + 5) 3 3 rfl, nI_c (a + 5) 4 4 rfl, nI_c (a + 10) 1 1 rfl]
  rw [set_eq f _ (by omega) hN, set_eq _ _ (show a + 1 < N by omega) hN, set_eq _ _ (show a + 2 < N by omega) hN, set_eq _ _ (show a + 3 < N by omega) hN, set_eq _ _ (show a + 4 < N by omega) hN, set_eq _ _ (show a + 5 < N by omega) hN, set_eq _ _ (show a + 5 + 1 < N by omega) hN, set_eq _ _ (show a + 5 + 2 < N by omega) hN, set_eq _ _ (show a + 5 + 3 < N by omega) hN, set_eq _ _ (show a + 5 + 4 < N by omega) hN, set_eq _ _ (show a + 10 < N by omega) hN, set_eq _ _ (show a + 10 + 1 < N by omega) hN]
theorem store_in {N a k : Nat} (g f : Nat → Int32) (h : a + 12 ≤ N) (hN : N < 2 ^ 31) (hk : k < 12) : o_X0_store_3 N g f (nI a) (a + k) = g k := by
  rw [store_eq g f h hN]
  rcases (show k = 0 ∨ k = 1 ∨ k = 2 ∨ k = 3 ∨ k = 4 ∨ k = 5 ∨ k = 6 ∨ k = 7 ∨ k = 8 ∨ k = 9 ∨ k = 10 ∨ k = 11 by omega) with r | r | r | r | r | r | r | r | r | r | r | r <;> subst r <;> simp [upd]
theorem store_out {N a j : Nat} (g f : Nat → Int32) (h : a + 12 ≤ N) (hN : N < 2 ^ 31) (hj : j < a ∨ a + 12 ≤ j) : o_X0_store_3 N g f (nI a) j = f j := by
  rw [store_eq g f h hN]
  have q : ∀ c, c < 12 → j ≠ a + c := fun c hc => by omega
  simp only [upd, q 0 (by decide), q 1 (by decide), q 2 (by decide), q 3 (by decide), q 4 (by decide), q 5 (by decide), q 6 (by decide), q 7 (by decide), q 8 (by decide), q 9 (by decide), q 10 (by decide), q 11 (by decide), show j ≠ a from by omega, if_false]
theorem rest_eq {N a : Nat} (g f : Nat → Int32) (h : a + 12 ≤ N) (hN : N < 2 ^ 31) : o_X0_restore_g N g f (nI a) = mixG (mkG12 (f a) (f (a + 1)) (f (a + 2)) (f (a + 3)) (f (a + 4)) (f (a + 5)) (f (a + 6)) (f (a + 7)) (f (a + 8)) (f (a + 9)) (f (a + 10)) (f (a + 11))) g := by
  unfold o_X0_restore_g o_X1_restore_h
  rw [nI_c a 1 1 rfl, nI_c a 2 2 rfl, nI_c a 3 3 rfl, nI_c a 4 4 rfl, nI_c a 5 5 rfl, nI_c a 10 10 rfl, nI_c (a + 5) 1 1 rfl, nI_c (a + 5) 2 2 rfl, nI_c (a + 5) 3 3 rfl, nI_c (a + 5) 4 4 rfl, nI_c (a + 10) 1 1 rfl]
  simp only [mkG5]
  rw [cell_eq f (show a < N by omega) hN, cell_eq f (show a + 1 < N by omega) hN, cell_eq f (show a + 2 < N by omega) hN, cell_eq f (show a + 3 < N by omega) hN, cell_eq f (show a + 4 < N by omega) hN, cell_eq f (show a + 5 < N by omega) hN, cell_eq f (show a + 5 + 1 < N by omega) hN, cell_eq f (show a + 5 + 2 < N by omega) hN, cell_eq f (show a + 5 + 3 < N by omega) hN, cell_eq f (show a + 5 + 4 < N by omega) hN, cell_eq f (show a + 10 < N by omega) hN, cell_eq f (show a + 10 + 1 < N by omega) hN]
theorem rest_in {N a k : Nat} (g f : Nat → Int32) (h : a + 12 ≤ N) (hN : N < 2 ^ 31) (hk : k < 12) : o_X0_restore_g N g f (nI a) k = f (a + k) := by
  rw [rest_eq g f h hN]
  exact cg_eq2 (fun i => f (a + i)) g k hk
theorem drop_eq {N : Nat} (cf : Nat → Int32) (sl sz : Int32) (hN : N < 2 ^ 31) : ∀ k, k + 12 ≤ N → ∀ j, L_X4_dropOldest_0 N cf sl sz k j = if j < k then cf (j + 12) else cf j := by
  intro k
  induction k with
  | zero => intro _ j; rw [if_neg (by omega)]; rfl
  | succ k ih =>
    intro hk j
    have i := ih (by omega)
    rw [L_X4_dropOldest_0, set_eq _ _ (by omega) hN, nI_c k 12 12 rfl, cell_eq _ (by omega) hN, i (k + 12), if_neg (by omega)]
    simp only [upd]
    by_cases c : j = k
    · subst c; rw [if_pos rfl, if_pos (by omega)]
    · rw [if_neg c, i j]
      by_cases d : j < k
      · rw [if_pos d, if_pos (by omega)]
      · rw [if_neg d, if_neg (by omega)]
theorem known_eq (v sl : Nat → Int32) (na : Nat) : ∀ k, ∀ j, L_X8_known_0 v sl na k j = if 13 ≤ j ∧ j < 13 + k then sl (j + 13) else sl j := by
  intro k
  induction k with
  | zero => intro j; rw [if_neg (by omega)]; rfl
  | succ k ih =>
    intro j
    rw [L_X8_known_0, ih (13 + k + 13), if_neg (by omega)]
    simp only [upd]
    by_cases c : j = 13 + k
    · subst c; rw [if_pos rfl, if_pos (by omega)]
    · rw [if_neg c, ih j]
      by_cases d : 13 ≤ j ∧ j < 13 + k
      · rw [if_pos d, if_pos (by omega)]
      · rw [if_neg d, if_neg (by omega)]
/-- n gardens: the class's row f, the reference's slots from 13 b on -/
def stk (b : Nat) (Bd : Int) (f sl : Nat → Int32) (need : Int32) (n : Nat) : Prop := ∀ i, i < n → en (13 * (b + i)) sl (fun k => f (12 * i + k)) need ∧ gd Bd (fun k => f (12 * i + k)) need
theorem stk.low {b n : Nat} {Bd : Int} {f sl sl' : Nat → Int32} {need : Int32} (h : stk b Bd f sl need n) (hb : 13 * (b + n) ≤ 143) (hl : ∀ j, j < 143 → sl' j = sl j) : stk b Bd f sl' need n :=
  fun i hi => ⟨(h i hi).1.low (by omega) hl, (h i hi).2⟩
theorem stk.on {b n : Nat} {Bd : Int} {f sl sl' : Nat → Int32} {need : Int32} (h : stk b Bd f sl need n) (hl : ∀ j, 13 * b ≤ j → j < 13 * (b + n) → sl' j = sl j) : stk b Bd f sl' need n :=
  fun i hi => ⟨(h i hi).1.of (fun k hk => hl _ (by omega) (by omega)), (h i hi).2⟩
theorem stk.le {b n : Nat} {B C : Int} {f sl : Nat → Int32} {need : Int32} (h : stk b B f sl need n) (hc : B ≤ C) : stk b C f sl need n := fun i hi => ⟨(h i hi).1, (h i hi).2.le hc⟩
theorem stk.pre {b n m : Nat} {Bd : Int} {f sl : Nat → Int32} {need : Int32} (h : stk b Bd f sl need n) (hm : m ≤ n) : stk b Bd f sl need m := fun i hi => h i (by omega)
/-- one more on a stack that has room -/
theorem stk.push {b n N : Nat} {Bd : Int} {f sl g : Nat → Int32} {need : Int32} (h : stk b Bd f sl need n) (hb : 1 ≤ b) (hN : 12 * n + 12 ≤ N) (hN2 : N < 2 ^ 31) (he : en 0 sl g need) (hg : gd Bd g need) : stk b Bd (o_X0_store_3 N g f (nI (12 * n))) (cp13 sl 0 (13 * (b + n))) need (n + 1) := by
  intro i hi
  by_cases c : i = n
  · subst c
    have q : ∀ k, k < 12 → (fun k => o_X0_store_3 N g f (nI (12 * i)) (12 * i + k)) k = g k := fun k hk => store_in g f hN hN2 hk
    exact ⟨(en.cp he).g q, hg.g q⟩
  · have hi2 : i < n := by omega
    have q : ∀ k, k < 12 → (fun k => o_X0_store_3 N g f (nI (12 * n)) (12 * i + k)) k = (fun k => f (12 * i + k)) k := fun k hk => store_out g f hN hN2 (Or.inl (by omega))
    refine ⟨((h i hi2).1.of (fun k hk => ?_)).g q, (h i hi2).2.g q⟩
    unfold cp13
    rw [if_neg (by omega)]

