theorem e_larger (b : Int32) : o_X8_larger_r 0 b = if 0 < b then b else 0 := by
  unfold o_X8_larger_r
  by_cases c : b ≤ 0
  · rw [if_pos c, if_neg (Int32.not_lt.mpr c)]
  · rw [if_neg c, if_pos (Int32.not_le.mp c)]
theorem e_smaller (a b : Int32) : o_X8_smaller_r a b = if b < a then b else a := by
  unfold o_X8_smaller_r
  by_cases c : b < a
  · rw [if_pos c, if_pos (Int32.le_of_lt c)]
  · rw [if_neg c]
    by_cases d : b ≤ a
    · rw [if_pos d]; exact Int32.le_antisymm d (Int32.not_lt.mp c)
    · rw [if_neg d]
theorem e_le {x y : Int32} : (x ≤ y) = ¬ (y < x) := propext Int32.not_lt.symm
theorem e_w0 {w : Int32} : (w ≤ 0) = (w < 1) := by
  apply propext
  rw [Int32.le_iff_toInt_le, Int32.lt_iff_toInt_lt, show (0 : Int32).toInt = 0 from by decide, show (1 : Int32).toInt = 1 from by decide]
  omega
theorem e_xor {x : Int32} (h : 0 ≤ x.toInt) : (0 : Int32) ≤ x ^^^ 12 := by
  have h1 := (z_clamp h).1
  have h3 := (z_clamp h).2
  have h2 := Int32.toInt_lt x
  generalize x.toNatClampNeg = k at h1 h3
  subst h1
  have e : nI k ^^^ 12 = nI (k ^^^ 12) := by
    show nI k ^^^ nI 12 = nI (k ^^^ 12)
    apply Int32.toBitVec_inj.1
    show BitVec.ofNat 32 k ^^^ BitVec.ofNat 32 12 = BitVec.ofNat 32 (k ^^^ 12)
    apply BitVec.eq_of_getLsbD_eq
    intro i hi
    simp [hi]
  rw [e]
  exact nI_pos' (Nat.xor_lt_two_pow (by omega) (by decide))
theorem e_fm {x : Int32} (h : 0 ≤ x.toInt) : o_J9_floorMod_7cf53_r x = x - x / 12 * 12 := by
  unfold o_J9_floorMod_7cf53_r
  rw [if_pos (e_xor h)]
def lz (g : Nat → Int32) (need : Int32) : Int32 := if g 4 < need then (if g 9 < need then (-4) else 1) else 0
theorem e_lz (g sun dry : Nat → Int32) (len need : Int32) : o_X0_loser_r g sun dry len need = lz g need := rfl
theorem lz_cases (g : Nat → Int32) (need : Int32) : lz g need = -4 ∨ lz g need = 0 ∨ lz g need = 1 := by
  unfold lz
  split
  · split
    · exact Or.inl rfl
    · exact Or.inr (Or.inr rfl)
  · exact Or.inr (Or.inl rfl)
theorem lz_neg (g : Nat → Int32) (need : Int32) : (lz g need < 0) ↔ lz g need = -4 := by
  rcases lz_cases g need with h | h | h <;> rw [h] <;> decide
/-- a garden in thirteen places from b on -/
def en (b : Nat) (sl : Nat → Int32) (g : Nat → Int32) (need : Int32) : Prop :=
  sl b = g 0 ∧ sl (b + 1) = g 5 ∧ sl (b + 2) = g 1 ∧ sl (b + 3) = g 6 ∧ sl (b + 4) = g 2 ∧ sl (b + 5) = g 7 ∧ sl (b + 6) = g 3 ∧ sl (b + 7) = g 8 ∧ sl (b + 8) = g 4 ∧ sl (b + 9) = g 9 ∧ sl (b + 10) = g 10 ∧ sl (b + 11) = g 11 ∧ sl (b + 12) = lz g need
/-- a garden as it can stand -/
def gd (B : Int) (g : Nat → Int32) (need : Int32) : Prop :=
  mB 4 (g 0) ∧ mB 4 (g 5) ∧ mB 40 (g 1) ∧ mB 40 (g 6) ∧ mB B (g 11) ∧ 0 ≤ (g 4).toInt ∧ 0 ≤ (g 9).toInt ∧ (g 4 < need ∨ g 9 < need)
/-- the strip, told twice -/
def es (v ms sun dry : Nat → Int32) (len need : Int32) : Prop :=
  v 0 = len ∧ v 1 = need ∧ (∀ j, j < 12 → sun j = ms j) ∧ mB 6 need ∧ 0 < need ∧ (∀ j, j < 12 → (if dry j = 1 then (1 : Int32) else 0) = (if ((v 2 >>> (nI j &&& 31)) &&& 1) = 1 then 1 else 0))
theorem e_kinds {x : Int32} (h : mB 4 x) : x = 0 ∨ x = 1 ∨ x = 2 ∨ x = 3 ∨ x = 4 := by
  obtain ⟨h1, h2⟩ := h
  have e := (z_clamp h1).1
  have e2 := (z_clamp h1).2
  generalize x.toNatClampNeg = k at e e2
  subst e
  have hk : k ≤ 4 := by omega
  rcases (show k = 0 ∨ k = 1 ∨ k = 2 ∨ k = 3 ∨ k = 4 by omega) with r | r | r | r | r <;> subst r <;> decide
theorem e_cb {x : Int32} (h : mB 4 x) : o_X7_cell_b_r x = o_X8_bound_r x := by
  rcases e_kinds h with r | r | r | r | r <;> subst r <;> decide
theorem e_grows {h : Nat → Int32} {mo dr : Int32} (hk : mB 4 (h 0)) (hm : 0 ≤ mo.toInt) : j_X1_grow_1_0 h mo dr = o_X8_grows_r (h 0) (mo - mo / 12 * 12) := by
  unfold j_X1_grow_1_0 j_X1_grow_0_0 o_X8_grows_r j_X8_grows_0_0
  rw [e_fm hm]
  generalize mo - mo / 12 * 12 = y
  have e : (y ≤ 1) = (y < 2) := by
    apply propext
    rw [Int32.le_iff_toInt_le, Int32.lt_iff_toInt_lt, show (1 : Int32).toInt = 1 from by decide, show (2 : Int32).toInt = 2 from by decide]
    omega
  simp only [e]
  have g0 : o_X7_cell_g_r 0 = 3 := by decide
  have g1 : o_X7_cell_g_r 1 = 1 := by decide
  have g2 : o_X7_cell_g_r 2 = 2 := by decide
  have g3 : o_X7_cell_g_r 3 = 1 := by decide
  have g4 : o_X7_cell_g_r 4 = 2 := by decide
  rcases e_kinds hk with r | r | r | r | r <;> rw [r]
  · simp [g0]
  · simp [g1]
  · by_cases c1 : y < 2
    · simp [c1]
    · by_cases c2 : y = 11
      · simp [c2]
      · simp [c1, c2, g2]
  · simp [g3]
  · simp [g4]
theorem e_grows3 {h : Nat → Int32} {mo dr : Int32} (hk : mB 4 (h 0)) (hm : 0 ≤ mo.toInt) : j_X1_grow_3_0 h mo dr = o_X8_grows_r (h 0) (mo - mo / 12 * 12) := (show j_X1_grow_3_0 h mo dr = j_X1_grow_1_0 h mo dr from rfl).trans (e_grows hk hm)
/-- it has water just where it grows more by one -/
theorem tend_w (w mo ac : Int32) (h : Nat → Int32) : o_X0_tend_1_5 w mo h ac = 1 ↔ ¬ o_X0_tend_1_6 w mo h ac = 0 := by
  unfold o_X0_tend_1_5 o_X0_tend_1_6 o_X1_takeDung_0_5
  (repeat' split) <;> simp
theorem e_sun {v ms sun dry sl : Nat → Int32} {len need mo : Int32} (hs : ∀ j, j < 12 → sun j = ms j) (hm : 0 ≤ mo.toInt) : o_X6_sunIn_r sun dry len need mo = ms ((mo - mo / 12 * 12).toNatClampNeg) := by
  unfold o_X6_sunIn_r o_X7_cell_r
  rw [e_fm hm, z_remN hm]
  have hlt : mo.toNatClampNeg % 12 < 12 := Nat.mod_lt _ (by decide)
  rw [if_neg (nI_pos (by omega)), if_neg (show ¬ nI 12 ≤ nI (mo.toNatClampNeg % 12) from nI_ge hlt (by decide)), nI_clamp (by omega)]
  exact hs _ hlt

set_option maxHeartbeats 4000000 in
theorem ed_0_0 (v sl : Nat → Int32) (ac w mo : Int32) (h : Nat → Int32) (e1 : sl 2 = h 1) (e2 : sl 4 = h 2) (e3 : sl 6 = h 3) (e4 : sl 10 = w) :
    o_X8_does_0_0_r v sl ac = o_X0_tend_1_5 w mo h ac ∧ o_X8_does_0_0_1 v sl ac 2 = o_X0_tend_h w mo h ac 1 ∧ o_X8_does_0_0_1 v sl ac 4 = o_X0_tend_h w mo h ac 2 ∧ o_X8_does_0_0_1 v sl ac 6 = o_X0_tend_h w mo h ac 3 ∧ o_X8_does_0_0_1 v sl ac 10 = o_X0_tend_0_2 w mo h ac ∧ o_X0_tend_h w mo h ac 0 = h 0 ∧ o_X0_tend_h w mo h ac 4 = h 4 := by
  by_cases a1 : ac = 1
  · subst a1; simp [o_X8_does_0_0_r, o_X8_does_0_0_1, j_X8_does_0_0_0_0, j_X8_does_0_0_1_0, j_X8_does_0_0_2_0, j_X8_does_0_0_3_0, j_X8_does_0_0_4_0, j_X8_does_0_0_5_0, j_X8_does_0_0_6_0, o_X0_tend_1_5, o_X0_tend_h, o_X0_tend_0_2, o_X1_takeDung_0_1, o_X1_takeDung_0_5, mkG5, e_larger, e_smaller, upd, e1, e2, e3, e4]
  by_cases a4 : ac = 4
  · subst a4; simp [o_X8_does_0_0_r, o_X8_does_0_0_1, j_X8_does_0_0_0_0, j_X8_does_0_0_1_0, j_X8_does_0_0_2_0, j_X8_does_0_0_3_0, j_X8_does_0_0_4_0, j_X8_does_0_0_5_0, j_X8_does_0_0_6_0, o_X0_tend_1_5, o_X0_tend_h, o_X0_tend_0_2, o_X1_takeDung_0_1, o_X1_takeDung_0_5, mkG5, e_larger, e_smaller, upd, e1, e2, e3, e4]
  by_cases a2 : ac = 2
  · subst a2
    by_cases b1 : h 3 < 3
    · by_cases b2 : h 1 < 3 <;> simp [o_X8_does_0_0_r, o_X8_does_0_0_1, j_X8_does_0_0_0_0, j_X8_does_0_0_1_0, j_X8_does_0_0_2_0, j_X8_does_0_0_3_0, j_X8_does_0_0_4_0, j_X8_does_0_0_5_0, j_X8_does_0_0_6_0, o_X0_tend_1_5, o_X0_tend_h, o_X0_tend_0_2, o_X1_takeDung_0_1, o_X1_takeDung_0_5, mkG5, e_larger, e_smaller, upd, e1, e2, e3, e4, b1, b2]
    · by_cases b2 : h 1 < 3
      · have b3 : ¬ (3 : Int32) ≤ h 1 := Int32.not_le.mpr b2
        simp [o_X8_does_0_0_r, o_X8_does_0_0_1, j_X8_does_0_0_0_0, j_X8_does_0_0_1_0, j_X8_does_0_0_2_0, j_X8_does_0_0_3_0, j_X8_does_0_0_4_0, j_X8_does_0_0_5_0, j_X8_does_0_0_6_0, o_X0_tend_1_5, o_X0_tend_h, o_X0_tend_0_2, o_X1_takeDung_0_1, o_X1_takeDung_0_5, mkG5, e_larger, e_smaller, upd, e1, e2, e3, e4, b1, b2, b3]
      · have b3 : (3 : Int32) ≤ h 1 := Int32.not_lt.mp b2
        simp [o_X8_does_0_0_r, o_X8_does_0_0_1, j_X8_does_0_0_0_0, j_X8_does_0_0_1_0, j_X8_does_0_0_2_0, j_X8_does_0_0_3_0, j_X8_does_0_0_4_0, j_X8_does_0_0_5_0, j_X8_does_0_0_6_0, o_X0_tend_1_5, o_X0_tend_h, o_X0_tend_0_2, o_X1_takeDung_0_1, o_X1_takeDung_0_5, mkG5, e_larger, e_smaller, upd, e1, e2, e3, e4, b1, b2, b3]
  by_cases a3 : ac = 3
  · subst a3
    by_cases b1 : h 3 < 1
    · simp [o_X8_does_0_0_r, o_X8_does_0_0_1, j_X8_does_0_0_0_0, j_X8_does_0_0_1_0, j_X8_does_0_0_2_0, j_X8_does_0_0_3_0, j_X8_does_0_0_4_0, j_X8_does_0_0_5_0, j_X8_does_0_0_6_0, o_X0_tend_1_5, o_X0_tend_h, o_X0_tend_0_2, o_X1_takeDung_0_1, o_X1_takeDung_0_5, mkG5, e_larger, e_smaller, upd, e1, e2, e3, e4, b1]
    · by_cases b2 : w < 1
      · have b3 : w ≤ 0 := by rw [e_w0]; exact b2
        simp [o_X8_does_0_0_r, o_X8_does_0_0_1, j_X8_does_0_0_0_0, j_X8_does_0_0_1_0, j_X8_does_0_0_2_0, j_X8_does_0_0_3_0, j_X8_does_0_0_4_0, j_X8_does_0_0_5_0, j_X8_does_0_0_6_0, o_X0_tend_1_5, o_X0_tend_h, o_X0_tend_0_2, o_X1_takeDung_0_1, o_X1_takeDung_0_5, mkG5, e_larger, e_smaller, upd, e1, e2, e3, e4, b1, b2, b3]
      · have b3 : ¬ w ≤ 0 := by rw [e_w0]; exact b2
        simp [o_X8_does_0_0_r, o_X8_does_0_0_1, j_X8_does_0_0_0_0, j_X8_does_0_0_1_0, j_X8_does_0_0_2_0, j_X8_does_0_0_3_0, j_X8_does_0_0_4_0, j_X8_does_0_0_5_0, j_X8_does_0_0_6_0, o_X0_tend_1_5, o_X0_tend_h, o_X0_tend_0_2, o_X1_takeDung_0_1, o_X1_takeDung_0_5, mkG5, e_larger, e_smaller, upd, e1, e2, e3, e4, b1, b2, b3]
  simp [o_X8_does_0_0_r, o_X8_does_0_0_1, j_X8_does_0_0_0_0, j_X8_does_0_0_1_0, j_X8_does_0_0_2_0, j_X8_does_0_0_3_0, j_X8_does_0_0_4_0, j_X8_does_0_0_5_0, j_X8_does_0_0_6_0, o_X0_tend_1_5, o_X0_tend_h, o_X0_tend_0_2, o_X1_takeDung_0_1, o_X1_takeDung_0_5, mkG5, e_larger, e_smaller, upd, e1, e2, e3, e4, a1, a2, a3, a4]
theorem eo_0_0 (v sl : Nat → Int32) (ac : Int32) (j : Nat) (h1 : j ≠ 2) (h2 : j ≠ 4) (h3 : j ≠ 6) (h4 : j ≠ 10) : o_X8_does_0_0_1 v sl ac j = sl j := by
  unfold o_X8_does_0_0_1 j_X8_does_0_0_0_0 j_X8_does_0_0_1_0 j_X8_does_0_0_2_0 j_X8_does_0_0_3_0 j_X8_does_0_0_4_0 j_X8_does_0_0_5_0
  (repeat' split) <;> simp [upd, h1, h2, h3, h4]
theorem er_0_0 (v sl : Nat → Int32) (more dr mo wt : Int32) (h : Nat → Int32) (hw : more = 1 ↔ ¬ wt = 0) (hk : mB 4 (h 0)) (hm : 0 ≤ mo.toInt) (e0 : sl 0 = h 0) (e1 : sl 2 = h 1) (e2 : sl 11 = mo) :
    o_X8_rises_0_0_1 v sl more dr 2 = o_X1_grow_0_1 h mo dr more wt := by
  unfold o_X8_rises_0_0_1 j_X8_rises_0_0_1_0 j_X8_rises_0_0_0_0 o_X1_grow_0_1
  rw [e0, e1, e2, e_cb hk, e_grows hk hm, e_grows3 hk hm, e_larger, e_smaller]
  simp only [upd, if_true, e_le]
  by_cases c1 : o_X8_bound_r (h 0) < h 1
  · simp [c1]
  · by_cases c2 : dr = 0
    · simp [c1, c2]
    · by_cases c3 : more = 1
      · have c4 := hw.mp c3
        simp [c1, c2, c3, c4]
      · have c4 : wt = 0 := Classical.not_not.mp (fun q => c3 (hw.mpr q))
        simp [c1, c2, c3, c4]
theorem eq_0_0 (v sl : Nat → Int32) (more dr : Int32) (j : Nat) (h1 : j ≠ 2) : o_X8_rises_0_0_1 v sl more dr j = sl j := by
  unfold o_X8_rises_0_0_1
  simp [upd, h1]
set_option maxHeartbeats 4000000 in
theorem ed_0_1 (v sl : Nat → Int32) (ac w mo : Int32) (h : Nat → Int32) (e1 : sl 3 = h 1) (e2 : sl 5 = h 2) (e3 : sl 7 = h 3) (e4 : sl 10 = w) :
    o_X8_does_0_1_r v sl ac = o_X0_tend_1_5 w mo h ac ∧ o_X8_does_0_1_1 v sl ac 3 = o_X0_tend_h w mo h ac 1 ∧ o_X8_does_0_1_1 v sl ac 5 = o_X0_tend_h w mo h ac 2 ∧ o_X8_does_0_1_1 v sl ac 7 = o_X0_tend_h w mo h ac 3 ∧ o_X8_does_0_1_1 v sl ac 10 = o_X0_tend_0_2 w mo h ac ∧ o_X0_tend_h w mo h ac 0 = h 0 ∧ o_X0_tend_h w mo h ac 4 = h 4 := by
  by_cases a1 : ac = 1
  · subst a1; simp [o_X8_does_0_1_r, o_X8_does_0_1_1, j_X8_does_0_1_0_0, j_X8_does_0_1_1_0, j_X8_does_0_1_2_0, j_X8_does_0_1_3_0, j_X8_does_0_1_4_0, j_X8_does_0_1_5_0, j_X8_does_0_1_6_0, o_X0_tend_1_5, o_X0_tend_h, o_X0_tend_0_2, o_X1_takeDung_0_1, o_X1_takeDung_0_5, mkG5, e_larger, e_smaller, upd, e1, e2, e3, e4]
  by_cases a4 : ac = 4
  · subst a4; simp [o_X8_does_0_1_r, o_X8_does_0_1_1, j_X8_does_0_1_0_0, j_X8_does_0_1_1_0, j_X8_does_0_1_2_0, j_X8_does_0_1_3_0, j_X8_does_0_1_4_0, j_X8_does_0_1_5_0, j_X8_does_0_1_6_0, o_X0_tend_1_5, o_X0_tend_h, o_X0_tend_0_2, o_X1_takeDung_0_1, o_X1_takeDung_0_5, mkG5, e_larger, e_smaller, upd, e1, e2, e3, e4]
  by_cases a2 : ac = 2
  · subst a2
    by_cases b1 : h 3 < 3
    · by_cases b2 : h 1 < 3 <;> simp [o_X8_does_0_1_r, o_X8_does_0_1_1, j_X8_does_0_1_0_0, j_X8_does_0_1_1_0, j_X8_does_0_1_2_0, j_X8_does_0_1_3_0, j_X8_does_0_1_4_0, j_X8_does_0_1_5_0, j_X8_does_0_1_6_0, o_X0_tend_1_5, o_X0_tend_h, o_X0_tend_0_2, o_X1_takeDung_0_1, o_X1_takeDung_0_5, mkG5, e_larger, e_smaller, upd, e1, e2, e3, e4, b1, b2]
    · by_cases b2 : h 1 < 3
      · have b3 : ¬ (3 : Int32) ≤ h 1 := Int32.not_le.mpr b2
        simp [o_X8_does_0_1_r, o_X8_does_0_1_1, j_X8_does_0_1_0_0, j_X8_does_0_1_1_0, j_X8_does_0_1_2_0, j_X8_does_0_1_3_0, j_X8_does_0_1_4_0, j_X8_does_0_1_5_0, j_X8_does_0_1_6_0, o_X0_tend_1_5, o_X0_tend_h, o_X0_tend_0_2, o_X1_takeDung_0_1, o_X1_takeDung_0_5, mkG5, e_larger, e_smaller, upd, e1, e2, e3, e4, b1, b2, b3]
      · have b3 : (3 : Int32) ≤ h 1 := Int32.not_lt.mp b2
        simp [o_X8_does_0_1_r, o_X8_does_0_1_1, j_X8_does_0_1_0_0, j_X8_does_0_1_1_0, j_X8_does_0_1_2_0, j_X8_does_0_1_3_0, j_X8_does_0_1_4_0, j_X8_does_0_1_5_0, j_X8_does_0_1_6_0, o_X0_tend_1_5, o_X0_tend_h, o_X0_tend_0_2, o_X1_takeDung_0_1, o_X1_takeDung_0_5, mkG5, e_larger, e_smaller, upd, e1, e2, e3, e4, b1, b2, b3]
  by_cases a3 : ac = 3
  · subst a3
    by_cases b1 : h 3 < 1
    · simp [o_X8_does_0_1_r, o_X8_does_0_1_1, j_X8_does_0_1_0_0, j_X8_does_0_1_1_0, j_X8_does_0_1_2_0, j_X8_does_0_1_3_0, j_X8_does_0_1_4_0, j_X8_does_0_1_5_0, j_X8_does_0_1_6_0, o_X0_tend_1_5, o_X0_tend_h, o_X0_tend_0_2, o_X1_takeDung_0_1, o_X1_takeDung_0_5, mkG5, e_larger, e_smaller, upd, e1, e2, e3, e4, b1]
    · by_cases b2 : w < 1
      · have b3 : w ≤ 0 := by rw [e_w0]; exact b2
        simp [o_X8_does_0_1_r, o_X8_does_0_1_1, j_X8_does_0_1_0_0, j_X8_does_0_1_1_0, j_X8_does_0_1_2_0, j_X8_does_0_1_3_0, j_X8_does_0_1_4_0, j_X8_does_0_1_5_0, j_X8_does_0_1_6_0, o_X0_tend_1_5, o_X0_tend_h, o_X0_tend_0_2, o_X1_takeDung_0_1, o_X1_takeDung_0_5, mkG5, e_larger, e_smaller, upd, e1, e2, e3, e4, b1, b2, b3]
      · have b3 : ¬ w ≤ 0 := by rw [e_w0]; exact b2
        simp [o_X8_does_0_1_r, o_X8_does_0_1_1, j_X8_does_0_1_0_0, j_X8_does_0_1_1_0, j_X8_does_0_1_2_0, j_X8_does_0_1_3_0, j_X8_does_0_1_4_0, j_X8_does_0_1_5_0, j_X8_does_0_1_6_0, o_X0_tend_1_5, o_X0_tend_h, o_X0_tend_0_2, o_X1_takeDung_0_1, o_X1_takeDung_0_5, mkG5, e_larger, e_smaller, upd, e1, e2, e3, e4, b1, b2, b3]
  simp [o_X8_does_0_1_r, o_X8_does_0_1_1, j_X8_does_0_1_0_0, j_X8_does_0_1_1_0, j_X8_does_0_1_2_0, j_X8_does_0_1_3_0, j_X8_does_0_1_4_0, j_X8_does_0_1_5_0, j_X8_does_0_1_6_0, o_X0_tend_1_5, o_X0_tend_h, o_X0_tend_0_2, o_X1_takeDung_0_1, o_X1_takeDung_0_5, mkG5, e_larger, e_smaller, upd, e1, e2, e3, e4, a1, a2, a3, a4]
theorem eo_0_1 (v sl : Nat → Int32) (ac : Int32) (j : Nat) (h1 : j ≠ 3) (h2 : j ≠ 5) (h3 : j ≠ 7) (h4 : j ≠ 10) : o_X8_does_0_1_1 v sl ac j = sl j := by
  unfold o_X8_does_0_1_1 j_X8_does_0_1_0_0 j_X8_does_0_1_1_0 j_X8_does_0_1_2_0 j_X8_does_0_1_3_0 j_X8_does_0_1_4_0 j_X8_does_0_1_5_0
  (repeat' split) <;> simp [upd, h1, h2, h3, h4]
theorem er_0_1 (v sl : Nat → Int32) (more dr mo wt : Int32) (h : Nat → Int32) (hw : more = 1 ↔ ¬ wt = 0) (hk : mB 4 (h 0)) (hm : 0 ≤ mo.toInt) (e0 : sl 1 = h 0) (e1 : sl 3 = h 1) (e2 : sl 11 = mo) :
    o_X8_rises_0_1_1 v sl more dr 3 = o_X1_grow_0_1 h mo dr more wt := by
  unfold o_X8_rises_0_1_1 j_X8_rises_0_1_1_0 j_X8_rises_0_1_0_0 o_X1_grow_0_1
  rw [e0, e1, e2, e_cb hk, e_grows hk hm, e_grows3 hk hm, e_larger, e_smaller]
  simp only [upd, if_true, e_le]
  by_cases c1 : o_X8_bound_r (h 0) < h 1
  · simp [c1]
  · by_cases c2 : dr = 0
    · simp [c1, c2]
    · by_cases c3 : more = 1
      · have c4 := hw.mp c3
        simp [c1, c2, c3, c4]
      · have c4 : wt = 0 := Classical.not_not.mp (fun q => c3 (hw.mpr q))
        simp [c1, c2, c3, c4]
theorem eq_0_1 (v sl : Nat → Int32) (more dr : Int32) (j : Nat) (h1 : j ≠ 3) : o_X8_rises_0_1_1 v sl more dr j = sl j := by
  unfold o_X8_rises_0_1_1
  simp [upd, h1]
set_option maxHeartbeats 4000000 in
theorem ed_143_0 (v sl : Nat → Int32) (ac w mo : Int32) (h : Nat → Int32) (e1 : sl 145 = h 1) (e2 : sl 147 = h 2) (e3 : sl 149 = h 3) (e4 : sl 153 = w) :
    o_X8_does_143_0_r v sl ac = o_X0_tend_1_5 w mo h ac ∧ o_X8_does_143_0_1 v sl ac 145 = o_X0_tend_h w mo h ac 1 ∧ o_X8_does_143_0_1 v sl ac 147 = o_X0_tend_h w mo h ac 2 ∧ o_X8_does_143_0_1 v sl ac 149 = o_X0_tend_h w mo h ac 3 ∧ o_X8_does_143_0_1 v sl ac 153 = o_X0_tend_0_2 w mo h ac ∧ o_X0_tend_h w mo h ac 0 = h 0 ∧ o_X0_tend_h w mo h ac 4 = h 4 := by
  by_cases a1 : ac = 1
  · subst a1; simp [o_X8_does_143_0_r, o_X8_does_143_0_1, j_X8_does_143_0_0_0, j_X8_does_143_0_1_0, j_X8_does_143_0_2_0, j_X8_does_143_0_3_0, j_X8_does_143_0_4_0, j_X8_does_143_0_5_0, j_X8_does_143_0_6_0, o_X0_tend_1_5, o_X0_tend_h, o_X0_tend_0_2, o_X1_takeDung_0_1, o_X1_takeDung_0_5, mkG5, e_larger, e_smaller, upd, e1, e2, e3, e4]
  by_cases a4 : ac = 4
  · subst a4; simp [o_X8_does_143_0_r, o_X8_does_143_0_1, j_X8_does_143_0_0_0, j_X8_does_143_0_1_0, j_X8_does_143_0_2_0, j_X8_does_143_0_3_0, j_X8_does_143_0_4_0, j_X8_does_143_0_5_0, j_X8_does_143_0_6_0, o_X0_tend_1_5, o_X0_tend_h, o_X0_tend_0_2, o_X1_takeDung_0_1, o_X1_takeDung_0_5, mkG5, e_larger, e_smaller, upd, e1, e2, e3, e4]
  by_cases a2 : ac = 2
  · subst a2
    by_cases b1 : h 3 < 3
    · by_cases b2 : h 1 < 3 <;> simp [o_X8_does_143_0_r, o_X8_does_143_0_1, j_X8_does_143_0_0_0, j_X8_does_143_0_1_0, j_X8_does_143_0_2_0, j_X8_does_143_0_3_0, j_X8_does_143_0_4_0, j_X8_does_143_0_5_0, j_X8_does_143_0_6_0, o_X0_tend_1_5, o_X0_tend_h, o_X0_tend_0_2, o_X1_takeDung_0_1, o_X1_takeDung_0_5, mkG5, e_larger, e_smaller, upd, e1, e2, e3, e4, b1, b2]
    · by_cases b2 : h 1 < 3
      · have b3 : ¬ (3 : Int32) ≤ h 1 := Int32.not_le.mpr b2
        simp [o_X8_does_143_0_r, o_X8_does_143_0_1, j_X8_does_143_0_0_0, j_X8_does_143_0_1_0, j_X8_does_143_0_2_0, j_X8_does_143_0_3_0, j_X8_does_143_0_4_0, j_X8_does_143_0_5_0, j_X8_does_143_0_6_0, o_X0_tend_1_5, o_X0_tend_h, o_X0_tend_0_2, o_X1_takeDung_0_1, o_X1_takeDung_0_5, mkG5, e_larger, e_smaller, upd, e1, e2, e3, e4, b1, b2, b3]
      · have b3 : (3 : Int32) ≤ h 1 := Int32.not_lt.mp b2
        simp [o_X8_does_143_0_r, o_X8_does_143_0_1, j_X8_does_143_0_0_0, j_X8_does_143_0_1_0, j_X8_does_143_0_2_0, j_X8_does_143_0_3_0, j_X8_does_143_0_4_0, j_X8_does_143_0_5_0, j_X8_does_143_0_6_0, o_X0_tend_1_5, o_X0_tend_h, o_X0_tend_0_2, o_X1_takeDung_0_1, o_X1_takeDung_0_5, mkG5, e_larger, e_smaller, upd, e1, e2, e3, e4, b1, b2, b3]
  by_cases a3 : ac = 3
  · subst a3
    by_cases b1 : h 3 < 1
    · simp [o_X8_does_143_0_r, o_X8_does_143_0_1, j_X8_does_143_0_0_0, j_X8_does_143_0_1_0, j_X8_does_143_0_2_0, j_X8_does_143_0_3_0, j_X8_does_143_0_4_0, j_X8_does_143_0_5_0, j_X8_does_143_0_6_0, o_X0_tend_1_5, o_X0_tend_h, o_X0_tend_0_2, o_X1_takeDung_0_1, o_X1_takeDung_0_5, mkG5, e_larger, e_smaller, upd, e1, e2, e3, e4, b1]
    · by_cases b2 : w < 1
      · have b3 : w ≤ 0 := by rw [e_w0]; exact b2
        simp [o_X8_does_143_0_r, o_X8_does_143_0_1, j_X8_does_143_0_0_0, j_X8_does_143_0_1_0, j_X8_does_143_0_2_0, j_X8_does_143_0_3_0, j_X8_does_143_0_4_0, j_X8_does_143_0_5_0, j_X8_does_143_0_6_0, o_X0_tend_1_5, o_X0_tend_h, o_X0_tend_0_2, o_X1_takeDung_0_1, o_X1_takeDung_0_5, mkG5, e_larger, e_smaller, upd, e1, e2, e3, e4, b1, b2, b3]
      · have b3 : ¬ w ≤ 0 := by rw [e_w0]; exact b2
        simp [o_X8_does_143_0_r, o_X8_does_143_0_1, j_X8_does_143_0_0_0, j_X8_does_143_0_1_0, j_X8_does_143_0_2_0, j_X8_does_143_0_3_0, j_X8_does_143_0_4_0, j_X8_does_143_0_5_0, j_X8_does_143_0_6_0, o_X0_tend_1_5, o_X0_tend_h, o_X0_tend_0_2, o_X1_takeDung_0_1, o_X1_takeDung_0_5, mkG5, e_larger, e_smaller, upd, e1, e2, e3, e4, b1, b2, b3]
  simp [o_X8_does_143_0_r, o_X8_does_143_0_1, j_X8_does_143_0_0_0, j_X8_does_143_0_1_0, j_X8_does_143_0_2_0, j_X8_does_143_0_3_0, j_X8_does_143_0_4_0, j_X8_does_143_0_5_0, j_X8_does_143_0_6_0, o_X0_tend_1_5, o_X0_tend_h, o_X0_tend_0_2, o_X1_takeDung_0_1, o_X1_takeDung_0_5, mkG5, e_larger, e_smaller, upd, e1, e2, e3, e4, a1, a2, a3, a4]
theorem eo_143_0 (v sl : Nat → Int32) (ac : Int32) (j : Nat) (h1 : j ≠ 145) (h2 : j ≠ 147) (h3 : j ≠ 149) (h4 : j ≠ 153) : o_X8_does_143_0_1 v sl ac j = sl j := by
  unfold o_X8_does_143_0_1 j_X8_does_143_0_0_0 j_X8_does_143_0_1_0 j_X8_does_143_0_2_0 j_X8_does_143_0_3_0 j_X8_does_143_0_4_0 j_X8_does_143_0_5_0
  (repeat' split) <;> simp [upd, h1, h2, h3, h4]
theorem er_143_0 (v sl : Nat → Int32) (more dr mo wt : Int32) (h : Nat → Int32) (hw : more = 1 ↔ ¬ wt = 0) (hk : mB 4 (h 0)) (hm : 0 ≤ mo.toInt) (e0 : sl 143 = h 0) (e1 : sl 145 = h 1) (e2 : sl 154 = mo) :
    o_X8_rises_143_0_1 v sl more dr 145 = o_X1_grow_0_1 h mo dr more wt := by
  unfold o_X8_rises_143_0_1 j_X8_rises_143_0_1_0 j_X8_rises_143_0_0_0 o_X1_grow_0_1
  rw [e0, e1, e2, e_cb hk, e_grows hk hm, e_grows3 hk hm, e_larger, e_smaller]
  simp only [upd, if_true, e_le]
  by_cases c1 : o_X8_bound_r (h 0) < h 1
  · simp [c1]
  · by_cases c2 : dr = 0
    · simp [c1, c2]
    · by_cases c3 : more = 1
      · have c4 := hw.mp c3
        simp [c1, c2, c3, c4]
      · have c4 : wt = 0 := Classical.not_not.mp (fun q => c3 (hw.mpr q))
        simp [c1, c2, c3, c4]
theorem eq_143_0 (v sl : Nat → Int32) (more dr : Int32) (j : Nat) (h1 : j ≠ 145) : o_X8_rises_143_0_1 v sl more dr j = sl j := by
  unfold o_X8_rises_143_0_1
  simp [upd, h1]
set_option maxHeartbeats 4000000 in
theorem ed_143_1 (v sl : Nat → Int32) (ac w mo : Int32) (h : Nat → Int32) (e1 : sl 146 = h 1) (e2 : sl 148 = h 2) (e3 : sl 150 = h 3) (e4 : sl 153 = w) :
    o_X8_does_143_1_r v sl ac = o_X0_tend_1_5 w mo h ac ∧ o_X8_does_143_1_1 v sl ac 146 = o_X0_tend_h w mo h ac 1 ∧ o_X8_does_143_1_1 v sl ac 148 = o_X0_tend_h w mo h ac 2 ∧ o_X8_does_143_1_1 v sl ac 150 = o_X0_tend_h w mo h ac 3 ∧ o_X8_does_143_1_1 v sl ac 153 = o_X0_tend_0_2 w mo h ac ∧ o_X0_tend_h w mo h ac 0 = h 0 ∧ o_X0_tend_h w mo h ac 4 = h 4 := by
  by_cases a1 : ac = 1
  · subst a1; simp [o_X8_does_143_1_r, o_X8_does_143_1_1, j_X8_does_143_1_0_0, j_X8_does_143_1_1_0, j_X8_does_143_1_2_0, j_X8_does_143_1_3_0, j_X8_does_143_1_4_0, j_X8_does_143_1_5_0, j_X8_does_143_1_6_0, o_X0_tend_1_5, o_X0_tend_h, o_X0_tend_0_2, o_X1_takeDung_0_1, o_X1_takeDung_0_5, mkG5, e_larger, e_smaller, upd, e1, e2, e3, e4]
  by_cases a4 : ac = 4
  · subst a4; simp [o_X8_does_143_1_r, o_X8_does_143_1_1, j_X8_does_143_1_0_0, j_X8_does_143_1_1_0, j_X8_does_143_1_2_0, j_X8_does_143_1_3_0, j_X8_does_143_1_4_0, j_X8_does_143_1_5_0, j_X8_does_143_1_6_0, o_X0_tend_1_5, o_X0_tend_h, o_X0_tend_0_2, o_X1_takeDung_0_1, o_X1_takeDung_0_5, mkG5, e_larger, e_smaller, upd, e1, e2, e3, e4]
  by_cases a2 : ac = 2
  · subst a2
    by_cases b1 : h 3 < 3
    · by_cases b2 : h 1 < 3 <;> simp [o_X8_does_143_1_r, o_X8_does_143_1_1, j_X8_does_143_1_0_0, j_X8_does_143_1_1_0, j_X8_does_143_1_2_0, j_X8_does_143_1_3_0, j_X8_does_143_1_4_0, j_X8_does_143_1_5_0, j_X8_does_143_1_6_0, o_X0_tend_1_5, o_X0_tend_h, o_X0_tend_0_2, o_X1_takeDung_0_1, o_X1_takeDung_0_5, mkG5, e_larger, e_smaller, upd, e1, e2, e3, e4, b1, b2]
    · by_cases b2 : h 1 < 3
      · have b3 : ¬ (3 : Int32) ≤ h 1 := Int32.not_le.mpr b2
        simp [o_X8_does_143_1_r, o_X8_does_143_1_1, j_X8_does_143_1_0_0, j_X8_does_143_1_1_0, j_X8_does_143_1_2_0, j_X8_does_143_1_3_0, j_X8_does_143_1_4_0, j_X8_does_143_1_5_0, j_X8_does_143_1_6_0, o_X0_tend_1_5, o_X0_tend_h, o_X0_tend_0_2, o_X1_takeDung_0_1, o_X1_takeDung_0_5, mkG5, e_larger, e_smaller, upd, e1, e2, e3, e4, b1, b2, b3]
      · have b3 : (3 : Int32) ≤ h 1 := Int32.not_lt.mp b2
        simp [o_X8_does_143_1_r, o_X8_does_143_1_1, j_X8_does_143_1_0_0, j_X8_does_143_1_1_0, j_X8_does_143_1_2_0, j_X8_does_143_1_3_0, j_X8_does_143_1_4_0, j_X8_does_143_1_5_0, j_X8_does_143_1_6_0, o_X0_tend_1_5, o_X0_tend_h, o_X0_tend_0_2, o_X1_takeDung_0_1, o_X1_takeDung_0_5, mkG5, e_larger, e_smaller, upd, e1, e2, e3, e4, b1, b2, b3]
  by_cases a3 : ac = 3
  · subst a3
    by_cases b1 : h 3 < 1
    · simp [o_X8_does_143_1_r, o_X8_does_143_1_1, j_X8_does_143_1_0_0, j_X8_does_143_1_1_0, j_X8_does_143_1_2_0, j_X8_does_143_1_3_0, j_X8_does_143_1_4_0, j_X8_does_143_1_5_0, j_X8_does_143_1_6_0, o_X0_tend_1_5, o_X0_tend_h, o_X0_tend_0_2, o_X1_takeDung_0_1, o_X1_takeDung_0_5, mkG5, e_larger, e_smaller, upd, e1, e2, e3, e4, b1]
    · by_cases b2 : w < 1
      · have b3 : w ≤ 0 := by rw [e_w0]; exact b2
        simp [o_X8_does_143_1_r, o_X8_does_143_1_1, j_X8_does_143_1_0_0, j_X8_does_143_1_1_0, j_X8_does_143_1_2_0, j_X8_does_143_1_3_0, j_X8_does_143_1_4_0, j_X8_does_143_1_5_0, j_X8_does_143_1_6_0, o_X0_tend_1_5, o_X0_tend_h, o_X0_tend_0_2, o_X1_takeDung_0_1, o_X1_takeDung_0_5, mkG5, e_larger, e_smaller, upd, e1, e2, e3, e4, b1, b2, b3]
      · have b3 : ¬ w ≤ 0 := by rw [e_w0]; exact b2
        simp [o_X8_does_143_1_r, o_X8_does_143_1_1, j_X8_does_143_1_0_0, j_X8_does_143_1_1_0, j_X8_does_143_1_2_0, j_X8_does_143_1_3_0, j_X8_does_143_1_4_0, j_X8_does_143_1_5_0, j_X8_does_143_1_6_0, o_X0_tend_1_5, o_X0_tend_h, o_X0_tend_0_2, o_X1_takeDung_0_1, o_X1_takeDung_0_5, mkG5, e_larger, e_smaller, upd, e1, e2, e3, e4, b1, b2, b3]
  simp [o_X8_does_143_1_r, o_X8_does_143_1_1, j_X8_does_143_1_0_0, j_X8_does_143_1_1_0, j_X8_does_143_1_2_0, j_X8_does_143_1_3_0, j_X8_does_143_1_4_0, j_X8_does_143_1_5_0, j_X8_does_143_1_6_0, o_X0_tend_1_5, o_X0_tend_h, o_X0_tend_0_2, o_X1_takeDung_0_1, o_X1_takeDung_0_5, mkG5, e_larger, e_smaller, upd, e1, e2, e3, e4, a1, a2, a3, a4]
theorem eo_143_1 (v sl : Nat → Int32) (ac : Int32) (j : Nat) (h1 : j ≠ 146) (h2 : j ≠ 148) (h3 : j ≠ 150) (h4 : j ≠ 153) : o_X8_does_143_1_1 v sl ac j = sl j := by
  unfold o_X8_does_143_1_1 j_X8_does_143_1_0_0 j_X8_does_143_1_1_0 j_X8_does_143_1_2_0 j_X8_does_143_1_3_0 j_X8_does_143_1_4_0 j_X8_does_143_1_5_0
  (repeat' split) <;> simp [upd, h1, h2, h3, h4]
theorem er_143_1 (v sl : Nat → Int32) (more dr mo wt : Int32) (h : Nat → Int32) (hw : more = 1 ↔ ¬ wt = 0) (hk : mB 4 (h 0)) (hm : 0 ≤ mo.toInt) (e0 : sl 144 = h 0) (e1 : sl 146 = h 1) (e2 : sl 154 = mo) :
    o_X8_rises_143_1_1 v sl more dr 146 = o_X1_grow_0_1 h mo dr more wt := by
  unfold o_X8_rises_143_1_1 j_X8_rises_143_1_1_0 j_X8_rises_143_1_0_0 o_X1_grow_0_1
  rw [e0, e1, e2, e_cb hk, e_grows hk hm, e_grows3 hk hm, e_larger, e_smaller]
  simp only [upd, if_true, e_le]
  by_cases c1 : o_X8_bound_r (h 0) < h 1
  · simp [c1]
  · by_cases c2 : dr = 0
    · simp [c1, c2]
    · by_cases c3 : more = 1
      · have c4 := hw.mp c3
        simp [c1, c2, c3, c4]
      · have c4 : wt = 0 := Classical.not_not.mp (fun q => c3 (hw.mpr q))
        simp [c1, c2, c3, c4]
theorem eq_143_1 (v sl : Nat → Int32) (more dr : Int32) (j : Nat) (h1 : j ≠ 146) : o_X8_rises_143_1_1 v sl more dr j = sl j := by
  unfold o_X8_rises_143_1_1
  simp [upd, h1]
