theorem i_add0 (x : Int32) : x + 0 = x := Int32.add_zero x
theorem i_m100 (x : Int32) : x + (-100) = x - 100 := (Int32.sub_eq_add_neg x 100).symm
theorem ite_flip {α : Type} (x y : Int32) (a b : α) : (if x ≤ y then a else b) = (if y < x then b else a) := by
  by_cases c : x ≤ y
  · rw [if_pos c, if_neg (Int32.not_lt.mpr c)]
  · rw [if_neg c, if_pos (Int32.not_le.mp c)]
theorem dg_lt (n k i : Nat) : dg n k i < 5 := Nat.mod_lt _ (by decide)
theorem dg4 (n k i : Nat) : (nI (dg n k i) = 4) = (dg n k i = 4) := propext (nI_eq (b := 4) (by have := dg_lt n k i; omega) (by decide))
theorem val_ld {S G : gT} {need sh : Int32} (h : en 143 S G need) (hb : b4 sh) : ((S 145 - S 146) + (if S 155 = 1 then 100 else (if S 155 = 0 then (-100) else 0))) + (if (0 : Int32) ≤ sh then 0 else 1) = ld need G := by
  have e1 : S 145 = G 1 := h.2.2.1
  have e2 : S 146 = G 6 := h.2.2.2.1
  have e3 : S 155 = lz G need := h.2.2.2.2.2.2.2.2.2.2.2.2
  rw [if_pos (Int32.not_lt.mp hb.nn), i_add0, e1, e2, e3]
  unfold ld
  rcases lz_cases G need with q | q | q
  · rw [q, if_neg (by decide), if_neg (by decide), if_neg (by decide), if_neg (by decide), i_add0]
  · rw [q, if_neg (by decide), if_pos rfl, if_pos rfl, i_m100]
  · rw [q, if_pos rfl, if_neg (by decide), if_pos rfl]
theorem fo_e0 (v bs : gT) (x : Int32) : o_X8_folds_0_1 v bs x = fo 0 x bs := by
  unfold o_X8_folds_0_1 fo j_X8_folds_0_1_0 j_X8_folds_0_0_0 btr
  congr 1
  rw [if_pos (show 0 % 2 = 0 by decide)]
  by_cases c : x ≤ bs 0
  · rw [if_pos c, if_pos rfl, if_neg (Int32.not_lt.mpr c)]
  · rw [if_neg c, if_neg (by decide), if_pos (Int32.not_le.mp c)]
theorem fg_e0 (v bs : gT) : o_X8_forgets_0_1 v bs = upd bs 0 (ini 0) := rfl
theorem fo_e1 (v bs : gT) (x : Int32) : o_X8_folds_1_1 v bs x = fo 1 x bs := by
  unfold o_X8_folds_1_1 fo j_X8_folds_1_1_0 j_X8_folds_1_0_0 btr
  congr 1
  rw [if_neg (show ¬ 1 % 2 = 0 by decide)]
  by_cases c : bs 1 ≤ x
  · rw [if_pos c, if_pos rfl, if_neg (Int32.not_lt.mpr c)]
  · rw [if_neg c, if_neg (by decide), if_pos (Int32.not_le.mp c)]
theorem fg_e1 (v bs : gT) : o_X8_forgets_1_1 v bs = upd bs 1 (ini 1) := rfl
theorem fo_e2 (v bs : gT) (x : Int32) : o_X8_folds_2_1 v bs x = fo 2 x bs := by
  unfold o_X8_folds_2_1 fo j_X8_folds_2_1_0 j_X8_folds_2_0_0 btr
  congr 1
  rw [if_pos (show 2 % 2 = 0 by decide)]
  by_cases c : x ≤ bs 2
  · rw [if_pos c, if_pos rfl, if_neg (Int32.not_lt.mpr c)]
  · rw [if_neg c, if_neg (by decide), if_pos (Int32.not_le.mp c)]
theorem fg_e2 (v bs : gT) : o_X8_forgets_2_1 v bs = upd bs 2 (ini 2) := rfl
theorem fo_e3 (v bs : gT) (x : Int32) : o_X8_folds_3_1 v bs x = fo 3 x bs := by
  unfold o_X8_folds_3_1 fo j_X8_folds_3_1_0 j_X8_folds_3_0_0 btr
  congr 1
  rw [if_neg (show ¬ 3 % 2 = 0 by decide)]
  by_cases c : bs 3 ≤ x
  · rw [if_pos c, if_pos rfl, if_neg (Int32.not_lt.mpr c)]
  · rw [if_neg c, if_neg (by decide), if_pos (Int32.not_le.mp c)]
theorem fg_e3 (v bs : gT) : o_X8_forgets_3_1 v bs = upd bs 3 (ini 3) := rfl
theorem fo_e4 (v bs : gT) (x : Int32) : o_X8_folds_4_1 v bs x = fo 4 x bs := by
  unfold o_X8_folds_4_1 fo j_X8_folds_4_1_0 j_X8_folds_4_0_0 btr
  congr 1
  rw [if_pos (show 4 % 2 = 0 by decide)]
  by_cases c : x ≤ bs 4
  · rw [if_pos c, if_pos rfl, if_neg (Int32.not_lt.mpr c)]
  · rw [if_neg c, if_neg (by decide), if_pos (Int32.not_le.mp c)]
theorem fg_e4 (v bs : gT) : o_X8_forgets_4_1 v bs = upd bs 4 (ini 4) := rfl
theorem fo_e5 (v bs : gT) (x : Int32) : o_X8_folds_5_1 v bs x = fo 5 x bs := by
  unfold o_X8_folds_5_1 fo j_X8_folds_5_1_0 j_X8_folds_5_0_0 btr
  congr 1
  rw [if_neg (show ¬ 5 % 2 = 0 by decide)]
  by_cases c : bs 5 ≤ x
  · rw [if_pos c, if_pos rfl, if_neg (Int32.not_lt.mpr c)]
  · rw [if_neg c, if_neg (by decide), if_pos (Int32.not_le.mp c)]
theorem fg_e5 (v bs : gT) : o_X8_forgets_5_1 v bs = upd bs 5 (ini 5) := rfl
set_option maxHeartbeats 8000000 in
set_option maxRecDepth 20000 in
theorem ps_1 (v ms sl bs u0 u1 u2 : gT) (s_ : Int32) (k : Nat) (hk : k < 2 ^ 31) (V : Int32) (hV : (((((o_X8_told_143_2 u0 ms (cp13 u1 0 143) (o_X8_doneIn_r (nI k) 2 0 2 0) (o_X8_doneIn_r (nI k) 2 1 2 1)) 145) - ((o_X8_told_143_2 u0 ms (cp13 u1 0 143) (o_X8_doneIn_r (nI k) 2 0 2 0) (o_X8_doneIn_r (nI k) 2 1 2 1)) 146)) + (j_X8_play_1_0 v ms sl bs 1 s_ k u0 u1 u2)) + (j_X8_play_2_0 v ms sl bs 1 s_ k u0 u1 u2)) = V) :
    j_X8_play_4_3 v ms sl bs 1 s_ k u0 u1 u2 = (upf (dg 2 k) 1 V (u2, u0 13)).1 ∧ j_X8_play_4_2 v ms sl bs 1 s_ k u0 u1 u2 = (upf (dg 2 k) 1 V (u2, u0 13)).2 := by
  unfold j_X8_play_4_3 j_X8_play_4_2 j_X8_play_3_0
  rw [hV]
  simp only [fo_e0, fg_e0, fo_e1, fg_e1, fo_e2, fg_e2, fo_e3, fg_e3, fo_e4, fg_e4, fo_e5, fg_e5, di_eq k hk, dg4, upf, ite_flip]
  generalize hB1 : fo 1 V u2 = B1
  by_cases c1 : dg 2 k 1 = 4
  case' neg => simp only [if_neg c1]; first | exact ⟨rfl, rfl⟩ | trivial
  simp only [if_pos c1]
  first | exact ⟨rfl, rfl⟩ | trivial
set_option maxHeartbeats 8000000 in
set_option maxRecDepth 20000 in
theorem ps_2 (v ms sl bs u0 u1 u2 : gT) (s_ : Int32) (k : Nat) (hk : k < 2 ^ 31) (V : Int32) (hV : (((((o_X8_told_143_2 u0 ms (o_X8_told_143_2 u0 ms (cp13 u1 0 143) (o_X8_doneIn_r (nI k) 4 0 4 0) (o_X8_doneIn_r (nI k) 4 1 4 1)) (o_X8_doneIn_r (nI k) 4 2 4 2) (o_X8_doneIn_r (nI k) 4 3 4 3)) 145) - ((o_X8_told_143_2 u0 ms (o_X8_told_143_2 u0 ms (cp13 u1 0 143) (o_X8_doneIn_r (nI k) 4 0 4 0) (o_X8_doneIn_r (nI k) 4 1 4 1)) (o_X8_doneIn_r (nI k) 4 2 4 2) (o_X8_doneIn_r (nI k) 4 3 4 3)) 146)) + (j_X8_play_6_0 v ms sl bs 2 s_ k u0 u1 u2)) + (j_X8_play_7_0 v ms sl bs 2 s_ k u0 u1 u2)) = V) :
    j_X8_play_9_3 v ms sl bs 2 s_ k u0 u1 u2 = (upf (dg 4 k) 3 V (u2, u0 13)).1 ∧ j_X8_play_9_2 v ms sl bs 2 s_ k u0 u1 u2 = (upf (dg 4 k) 3 V (u2, u0 13)).2 := by
  unfold j_X8_play_9_3 j_X8_play_9_2 j_X8_play_8_0
  rw [hV]
  simp only [fo_e0, fg_e0, fo_e1, fg_e1, fo_e2, fg_e2, fo_e3, fg_e3, fo_e4, fg_e4, fo_e5, fg_e5, di_eq k hk, dg4, upf, ite_flip]
  generalize hB3 : fo 3 V u2 = B3
  generalize hB2 : fo 2 (B3 3) (upd B3 3 (ini 3)) = B2
  generalize hB1 : fo 1 (B2 2) (upd B2 2 (ini 2)) = B1
  by_cases c3 : dg 4 k 3 = 4
  case' neg => simp only [if_neg c3]; first | exact ⟨rfl, rfl⟩ | trivial
  by_cases c2 : dg 4 k 2 = 4
  case' neg => simp only [if_pos c3, if_neg c2]; first | exact ⟨rfl, rfl⟩ | trivial
  by_cases c1 : dg 4 k 1 = 4
  case' neg => simp only [if_pos c3, if_pos c2, if_neg c1]; first | exact ⟨rfl, rfl⟩ | trivial
  simp only [if_pos c3, if_pos c2, if_pos c1]
  first | exact ⟨rfl, rfl⟩ | trivial
set_option maxHeartbeats 8000000 in
set_option maxRecDepth 20000 in
theorem ps_3 (v ms sl bs u0 u1 u2 : gT) (s_ : Int32) (k : Nat) (hk : k < 2 ^ 31) (V : Int32) (hV : (((((o_X8_told_143_2 u0 ms (o_X8_told_143_2 u0 ms (o_X8_told_143_2 u0 ms (cp13 u1 0 143) (o_X8_doneIn_r (nI k) 6 0 6 0) (o_X8_doneIn_r (nI k) 6 1 6 1)) (o_X8_doneIn_r (nI k) 6 2 6 2) (o_X8_doneIn_r (nI k) 6 3 6 3)) (o_X8_doneIn_r (nI k) 6 4 6 4) (o_X8_doneIn_r (nI k) 6 5 6 5)) 145) - ((o_X8_told_143_2 u0 ms (o_X8_told_143_2 u0 ms (o_X8_told_143_2 u0 ms (cp13 u1 0 143) (o_X8_doneIn_r (nI k) 6 0 6 0) (o_X8_doneIn_r (nI k) 6 1 6 1)) (o_X8_doneIn_r (nI k) 6 2 6 2) (o_X8_doneIn_r (nI k) 6 3 6 3)) (o_X8_doneIn_r (nI k) 6 4 6 4) (o_X8_doneIn_r (nI k) 6 5 6 5)) 146)) + (j_X8_play_11_0 v ms sl bs 3 s_ k u0 u1 u2)) + (j_X8_play_12_0 v ms sl bs 3 s_ k u0 u1 u2)) = V) :
    j_X8_play_14_3 v ms sl bs 3 s_ k u0 u1 u2 = (upf (dg 6 k) 5 V (u2, u0 13)).1 ∧ j_X8_play_14_2 v ms sl bs 3 s_ k u0 u1 u2 = (upf (dg 6 k) 5 V (u2, u0 13)).2 := by
  unfold j_X8_play_14_3 j_X8_play_14_2 j_X8_play_13_0
  rw [hV]
  simp only [fo_e0, fg_e0, fo_e1, fg_e1, fo_e2, fg_e2, fo_e3, fg_e3, fo_e4, fg_e4, fo_e5, fg_e5, di_eq k hk, dg4, upf, ite_flip]
  generalize hB5 : fo 5 V u2 = B5
  generalize hB4 : fo 4 (B5 5) (upd B5 5 (ini 5)) = B4
  generalize hB3 : fo 3 (B4 4) (upd B4 4 (ini 4)) = B3
  generalize hB2 : fo 2 (B3 3) (upd B3 3 (ini 3)) = B2
  generalize hB1 : fo 1 (B2 2) (upd B2 2 (ini 2)) = B1
  by_cases c5 : dg 6 k 5 = 4
  case' neg => simp only [if_neg c5]; first | exact ⟨rfl, rfl⟩ | trivial
  by_cases c4 : dg 6 k 4 = 4
  case' neg => simp only [if_pos c5, if_neg c4]; first | exact ⟨rfl, rfl⟩ | trivial
  by_cases c3 : dg 6 k 3 = 4
  case' neg => simp only [if_pos c5, if_pos c4, if_neg c3]; first | exact ⟨rfl, rfl⟩ | trivial
  by_cases c2 : dg 6 k 2 = 4
  case' neg => simp only [if_pos c5, if_pos c4, if_pos c3, if_neg c2]; first | exact ⟨rfl, rfl⟩ | trivial
  by_cases c1 : dg 6 k 1 = 4
  case' neg => simp only [if_pos c5, if_pos c4, if_pos c3, if_pos c2, if_neg c1]; first | exact ⟨rfl, rfl⟩ | trivial
  simp only [if_pos c5, if_pos c4, if_pos c3, if_pos c2, if_pos c1]
  first | exact ⟨rfl, rfl⟩ | trivial
