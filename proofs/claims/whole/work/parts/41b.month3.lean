set_option maxHeartbeats 4000000 in
/-- a month: reference and class -/
theorem go_0 {Bd : Int} (v ms sl g sun dry : Nat → Int32) (len need da db dr : Int32) (hs : es v ms sun dry len need) (he : en 0 sl g need) (hg : gd Bd g need) (hBd : Bd < 2000000000) :
    en 0 (o_X8_goes_0_2 v ms sl da db dr) (o_X0_turnBy_g g sun dry len need da db dr) need ∧ gd (Bd + 1) (o_X0_turnBy_g g sun dry len need da db dr) need ∧ b4 (o_X8_goes_0_r v ms sl da db dr) ∧ (lz g need = -4 → o_X8_goes_0_r v ms sl da db dr = (if o_X0_turnBy_g g sun dry len need da db dr 4 ≤ 0 then 0 else 1) ||| (if o_X0_turnBy_g g sun dry len need da db dr 9 ≤ 0 then 0 else 2)) := by
  obtain ⟨s0, s1, s2, s3, s4, -⟩ := hs
  obtain ⟨g0, g1, g2, g3, g4, g5, g6, g7⟩ := id hg
  have e12 : sl 12 = lz g need := he.2.2.2.2.2.2.2.2.2.2.2.2
  by_cases hl : lz g need = -4
  · have hlt : sl 12 < 0 := by rw [e12]; exact (lz_neg g need).mpr hl
    obtain ⟨k4, k9⟩ : g 4 < need ∧ g 9 < need := by
      unfold lz at hl
      by_cases c1 : g 4 < need
      · by_cases c2 : g 9 < need
        · exact ⟨c1, c2⟩
        · rw [if_pos c1, if_neg c2] at hl; exact absurd hl (by decide)
      · rw [if_neg c1] at hl; exact absurd hl (by decide)
    generalize hS4 : o_X8_rises_0_1_1 v (o_X8_rises_0_0_1 v (o_X8_does_0_1_1 v (o_X8_does_0_0_1 v sl da) db) (o_X8_does_0_0_r v sl da) dr) (o_X8_does_0_1_r v (o_X8_does_0_0_1 v sl da) db) dr = S4
    obtain ⟨f0, f1, f2, f3, f4, f5, f6, f7, f8, f9, f10, f11, f12⟩ := e4_0 v sl g sun dry len need da db dr he g0 g1 g4.1 S4 hS4.symm
    have t4 : o_X0_tend_h (g 10) (g 11) g da 4 = g 4 := by unfold o_X0_tend_h; (repeat' split) <;> rfl
    have t9 : o_X0_tend_h (o_X0_tend_0_2 (g 10) (g 11) g da) (g 11) (fun k => g (k + 5)) db 4 = g 9 := by unfold o_X0_tend_h; (repeat' split) <;> rfl
    have t0 : o_X0_tend_h (g 10) (g 11) g da 0 = g 0 := by unfold o_X0_tend_h; (repeat' split) <;> rfl
    have t5 : o_X0_tend_h (o_X0_tend_0_2 (g 10) (g 11) g da) (g 11) (fun k => g (k + 5)) db 0 = g 5 := by unfold o_X0_tend_h; (repeat' split) <;> rfl
    have hsun : o_X8_sunIn_0_r v ms S4 = o_X6_sunIn_r sun dry len need (g 11) := by
      unfold o_X8_sunIn_0_r
      rw [f11, e_sun (v := v) (sl := sl) s2 g4.1]
    have x1b : mB 40 (o_X1_grow_0_1 (o_X0_tend_h (g 10) (g 11) g da) (g 11) dr (o_X0_tend_1_5 (g 10) (g 11) g da) (o_X0_tend_1_6 (g 10) (g 11) g da)) := by
      have h1 := tend_b (g 10) (g 11) da g2
      exact grow_b (by rw [t0]; exact g0) h1 g4.1 (tend_m _ _ _ _)
    have x2b : mB 40 (o_X1_grow_0_1 (o_X0_tend_h (o_X0_tend_0_2 (g 10) (g 11) g da) (g 11) (fun k => g (k + 5)) db) (g 11) dr (o_X0_tend_1_5 (o_X0_tend_0_2 (g 10) (g 11) g da) (g 11) (fun k => g (k + 5)) db) (o_X0_tend_1_6 (o_X0_tend_0_2 (g 10) (g 11) g da) (g 11) (fun k => g (k + 5)) db)) := by
      have h1 : mB 40 (o_X0_tend_h (o_X0_tend_0_2 (g 10) (g 11) g da) (g 11) (fun k => g (k + 5)) db 1) := tend_b _ _ _ g3
      exact grow_b (by rw [t5]; exact g1) h1 g4.1 (tend_m _ _ _ _)
    generalize ha : o_X8_isShaded_0_0_r v ms S4 = a
    have c0 : j_X0_turnBy_0_0 g sun dry len need da db dr = if a = 0 then 0 else g 4 + 1 := by
      unfold j_X0_turnBy_0_0
      rw [← eI_0_0 v ms S4 (mkG5 (o_X0_tend_h (g 10) (g 11) g da 0) (o_X1_grow_0_1 (o_X0_tend_h (g 10) (g 11) g da) (g 11) dr (o_X0_tend_1_5 (g 10) (g 11) g da) (o_X0_tend_1_6 (g 10) (g 11) g da)) (o_X0_tend_h (g 10) (g 11) g da 2) (o_X0_tend_h (g 10) (g 11) g da 3) (o_X0_tend_h (g 10) (g 11) g da 4)) (mkG5 (o_X0_tend_h (o_X0_tend_0_2 (g 10) (g 11) g da) (g 11) (fun k => g (k + 5)) db 0) (o_X1_grow_0_1 (o_X0_tend_h (o_X0_tend_0_2 (g 10) (g 11) g da) (g 11) (fun k => g (k + 5)) db) (g 11) dr (o_X0_tend_1_5 (o_X0_tend_0_2 (g 10) (g 11) g da) (g 11) (fun k => g (k + 5)) db) (o_X0_tend_1_6 (o_X0_tend_0_2 (g 10) (g 11) g da) (g 11) (fun k => g (k + 5)) db)) (o_X0_tend_h (o_X0_tend_0_2 (g 10) (g 11) g da) (g 11) (fun k => g (k + 5)) db 2) (o_X0_tend_h (o_X0_tend_0_2 (g 10) (g 11) g da) (g 11) (fun k => g (k + 5)) db 3) (o_X0_tend_h (o_X0_tend_0_2 (g 10) (g 11) g da) (g 11) (fun k => g (k + 5)) db 4)) (o_X0_tend_0_2 (o_X0_tend_0_2 (g 10) (g 11) g da) (g 11) (fun k => g (k + 5)) db) (g 11) (o_X6_sunIn_r sun dry len need (g 11)) len f2 f3 f5 s0 hsun, ha, t4]
    have r0 : j_X8_goes_0_0_0 v ms sl da db dr = if a = 0 then 0 else 1 := by
      unfold j_X8_goes_0_0_0
      rw [hS4, ha]
    have r1 : j_X8_goes_0_1_0 v ms sl da db dr = if a = 0 then 0 else g 4 + 1 := by
      unfold j_X8_goes_0_1_0
      rw [hS4, ha, f8]
    generalize hD1 : (if a = 0 then (0 : Int32) else g 4 + 1) = D1 at c0 r1
    have uq : ∀ j, j ≠ 8 → upd S4 8 D1 j = S4 j := fun j hj => if_neg hj
    generalize hb : o_X8_isShaded_0_1_r v ms (upd S4 8 D1) = b
    have r2 : j_X8_goes_0_2_0 v ms sl da db dr = if b = 0 then 0 else 2 := by
      unfold j_X8_goes_0_2_0
      rw [hS4, r1, hb]
    have r3 : j_X8_goes_0_3_0 v ms sl da db dr = if b = 0 then 0 else g 9 + 1 := by
      unfold j_X8_goes_0_3_0
      rw [hS4, r1, hb]
      simp [upd, f9]
    have c1 : j_X0_turnBy_1_0 g sun dry len need da db dr = if b = 0 then 0 else g 9 + 1 := by
      unfold j_X0_turnBy_1_0
      rw [c0, ← eI_0_1 v ms (upd S4 8 D1) (mkG5 (o_X0_tend_h (g 10) (g 11) g da 0) (o_X1_grow_0_1 (o_X0_tend_h (g 10) (g 11) g da) (g 11) dr (o_X0_tend_1_5 (g 10) (g 11) g da) (o_X0_tend_1_6 (g 10) (g 11) g da)) (o_X0_tend_h (g 10) (g 11) g da 2) (o_X0_tend_h (g 10) (g 11) g da 3) D1) (mkG5 (o_X0_tend_h (o_X0_tend_0_2 (g 10) (g 11) g da) (g 11) (fun k => g (k + 5)) db 0) (o_X1_grow_0_1 (o_X0_tend_h (o_X0_tend_0_2 (g 10) (g 11) g da) (g 11) (fun k => g (k + 5)) db) (g 11) dr (o_X0_tend_1_5 (o_X0_tend_0_2 (g 10) (g 11) g da) (g 11) (fun k => g (k + 5)) db) (o_X0_tend_1_6 (o_X0_tend_0_2 (g 10) (g 11) g da) (g 11) (fun k => g (k + 5)) db)) (o_X0_tend_h (o_X0_tend_0_2 (g 10) (g 11) g da) (g 11) (fun k => g (k + 5)) db 2) (o_X0_tend_h (o_X0_tend_0_2 (g 10) (g 11) g da) (g 11) (fun k => g (k + 5)) db 3) (o_X0_tend_h (o_X0_tend_0_2 (g 10) (g 11) g da) (g 11) (fun k => g (k + 5)) db 4)) (o_X0_tend_0_2 (o_X0_tend_0_2 (g 10) (g 11) g da) (g 11) (fun k => g (k + 5)) db) (g 11) (o_X6_sunIn_r sun dry len need (g 11)) len (by rw [uq _ (by decide)]; exact f2) (by rw [uq _ (by decide)]; exact f3) (by rw [uq _ (by decide)]; exact f4) s0 (by rw [← hsun]; unfold o_X8_sunIn_0_r; rw [uq _ (by decide)]), hb, t9]
    have hnb : a = 0 ∨ b = 0 := by
      rw [← ha, ← hb]
      exact eN_0 v ms S4 (upd S4 8 D1) (uq _ (by decide)) (uq _ (by decide))
    generalize hD3 : (if b = 0 then (0 : Int32) else g 9 + 1) = D3 at c1 r3
    have r4 : j_X8_goes_0_4_0 v ms sl da db dr = if D1 < need then -4 else 0 := by
      unfold j_X8_goes_0_4_0
      rw [hS4, r1, r3, s1]
      simp only [upd, f12, hl]
      simp
    have r5 : j_X8_goes_0_5_0 v ms sl da db dr = if D3 < need then (if D1 < need then -4 else 0) else 1 := by
      unfold j_X8_goes_0_5_0
      rw [hS4, r1, r3, r4, s1]
      rfl
    have hz : D1 = 0 ∨ D3 = 0 := by
      rcases hnb with q | q
      · exact Or.inl (by rw [← hD1, if_pos q])
      · exact Or.inr (by rw [← hD3, if_pos q])
    have m4 := mB_dark g5 k4 s3
    have m9 := mB_dark g6 k9 s3
    have n1 : 0 ≤ D1.toInt := by
      rw [← hD1]; split
      · decide
      · exact m4.1
    have n3 : 0 ≤ D3.toInt := by
      rw [← hD3]; split
      · decide
      · exact m9.1
    have hT : o_X0_turnBy_g g sun dry len need da db dr = mkG16 (g 0) (o_X1_grow_0_1 (o_X0_tend_h (g 10) (g 11) g da) (g 11) dr (o_X0_tend_1_5 (g 10) (g 11) g da) (o_X0_tend_1_6 (g 10) (g 11) g da)) (o_X0_tend_h (g 10) (g 11) g da 2) (o_X0_tend_h (g 10) (g 11) g da 3) D1 (g 5) (o_X1_grow_0_1 (o_X0_tend_h (o_X0_tend_0_2 (g 10) (g 11) g da) (g 11) (fun k => g (k + 5)) db) (g 11) dr (o_X0_tend_1_5 (o_X0_tend_0_2 (g 10) (g 11) g da) (g 11) (fun k => g (k + 5)) db) (o_X0_tend_1_6 (o_X0_tend_0_2 (g 10) (g 11) g da) (g 11) (fun k => g (k + 5)) db)) (o_X0_tend_h (o_X0_tend_0_2 (g 10) (g 11) g da) (g 11) (fun k => g (k + 5)) db 2) (o_X0_tend_h (o_X0_tend_0_2 (g 10) (g 11) g da) (g 11) (fun k => g (k + 5)) db 3) D3 (o_X0_tend_0_2 (o_X0_tend_0_2 (g 10) (g 11) g da) (g 11) (fun k => g (k + 5)) db) (g 11 + 1) (o_X0_tend_1_5 (g 10) (g 11) g da) (o_X0_tend_1_6 (g 10) (g 11) g da) (o_X0_tend_1_5 (o_X0_tend_0_2 (g 10) (g 11) g da) (g 11) (fun k => g (k + 5)) db) (o_X0_tend_1_6 (o_X0_tend_0_2 (g 10) (g 11) g da) (g 11) (fun k => g (k + 5)) db) := by
      rw [o_X0_turnBy_g, e_lz, if_pos hl, c0, c1, t0, t5]
    have hR : o_X8_goes_0_2 v ms sl da db dr = upd (upd (upd (upd (upd S4 8 D1) 9 D3) 12 (if D1 < need then -4 else 0)) 12 (if D3 < need then (if D1 < need then -4 else 0) else 1)) 11 (S4 11 + 1) := by
      rw [o_X8_goes_0_2, if_pos hlt, hS4, r1, r3, r4, r5]
      rfl
    have hq : o_X8_goes_0_r v ms sl da db dr = (0 ||| (if a = 0 then 0 else 1)) ||| (if b = 0 then 0 else 2) := by
      rw [o_X8_goes_0_r, if_pos hlt, r0, r2]
    rw [hT, hR, hq]
    refine ⟨⟨f0, f1, f2, f3, f4, f5, f6, f7, rfl, rfl, f10, congrArg (· + 1) f11, ?_⟩, ⟨g0, g1, x1b, x2b, mB_succ hBd g4, n1, n3, ?_⟩, ?_, fun _ => ?_⟩
    · show (if D3 < need then (if D1 < need then (-4 : Int32) else 0) else 1) = (if D1 < need then (if D3 < need then (-4) else 1) else 0)
      rcases hz with q | q <;> rw [q] <;> simp only [if_pos s4]
    · rcases hz with q | q
      · exact Or.inl (by show D1 < need; rw [q]; exact s4)
      · exact Or.inr (by show D3 < need; rw [q]; exact s4)
    · refine b4.or (b4.or b4.z ?_) ?_
      · split
        · exact b4.z
        · exact ⟨1, rfl⟩
      · split
        · exact b4.z
        · exact ⟨2, rfl⟩
    · show (0 ||| (if a = 0 then (0 : Int32) else 1)) ||| (if b = 0 then (0 : Int32) else 2) = (if D1 ≤ 0 then (0 : Int32) else 1) ||| (if D3 ≤ 0 then (0 : Int32) else 2)
      rw [← hD1, ← hD3]
      by_cases c1 : a = 0 <;> by_cases c2 : b = 0 <;> simp [c1, c2, m4.2, m9.2]
  · have hlt : ¬ sl 12 < 0 := by rw [e12]; exact fun c => hl ((lz_neg g need).mp c)
    rw [o_X0_turnBy_g, e_lz, if_neg hl, o_X8_goes_0_2, if_neg hlt, o_X8_goes_0_r, if_neg hlt]
    exact ⟨he, ⟨g0, g1, g2, g3, mB_keep g4, g5, g6, g7⟩, b4.z, fun c => absurd c hl⟩
set_option maxHeartbeats 4000000 in
/-- a month: reference and class -/
theorem go_143 {Bd : Int} (v ms sl g sun dry : Nat → Int32) (len need da db dr : Int32) (hs : es v ms sun dry len need) (he : en 143 sl g need) (hg : gd Bd g need) (hBd : Bd < 2000000000) :
    en 143 (o_X8_goes_143_2 v ms sl da db dr) (o_X0_turnBy_g g sun dry len need da db dr) need ∧ gd (Bd + 1) (o_X0_turnBy_g g sun dry len need da db dr) need ∧ b4 (o_X8_goes_143_r v ms sl da db dr) ∧ (lz g need = -4 → o_X8_goes_143_r v ms sl da db dr = (if o_X0_turnBy_g g sun dry len need da db dr 4 ≤ 0 then 0 else 1) ||| (if o_X0_turnBy_g g sun dry len need da db dr 9 ≤ 0 then 0 else 2)) := by
  obtain ⟨s0, s1, s2, s3, s4, -⟩ := hs
  obtain ⟨g0, g1, g2, g3, g4, g5, g6, g7⟩ := id hg
  have e12 : sl 155 = lz g need := he.2.2.2.2.2.2.2.2.2.2.2.2
  by_cases hl : lz g need = -4
  · have hlt : sl 155 < 0 := by rw [e12]; exact (lz_neg g need).mpr hl
    obtain ⟨k4, k9⟩ : g 4 < need ∧ g 9 < need := by
      unfold lz at hl
      by_cases c1 : g 4 < need
      · by_cases c2 : g 9 < need
        · exact ⟨c1, c2⟩
        · rw [if_pos c1, if_neg c2] at hl; exact absurd hl (by decide)
      · rw [if_neg c1] at hl; exact absurd hl (by decide)
    generalize hS4 : o_X8_rises_143_1_1 v (o_X8_rises_143_0_1 v (o_X8_does_143_1_1 v (o_X8_does_143_0_1 v sl da) db) (o_X8_does_143_0_r v sl da) dr) (o_X8_does_143_1_r v (o_X8_does_143_0_1 v sl da) db) dr = S4
    obtain ⟨f0, f1, f2, f3, f4, f5, f6, f7, f8, f9, f10, f11, f12⟩ := e4_143 v sl g sun dry len need da db dr he g0 g1 g4.1 S4 hS4.symm
    have t4 : o_X0_tend_h (g 10) (g 11) g da 4 = g 4 := by unfold o_X0_tend_h; (repeat' split) <;> rfl
    have t9 : o_X0_tend_h (o_X0_tend_0_2 (g 10) (g 11) g da) (g 11) (fun k => g (k + 5)) db 4 = g 9 := by unfold o_X0_tend_h; (repeat' split) <;> rfl
    have t0 : o_X0_tend_h (g 10) (g 11) g da 0 = g 0 := by unfold o_X0_tend_h; (repeat' split) <;> rfl
    have t5 : o_X0_tend_h (o_X0_tend_0_2 (g 10) (g 11) g da) (g 11) (fun k => g (k + 5)) db 0 = g 5 := by unfold o_X0_tend_h; (repeat' split) <;> rfl
    have hsun : o_X8_sunIn_143_r v ms S4 = o_X6_sunIn_r sun dry len need (g 11) := by
      unfold o_X8_sunIn_143_r
      rw [f11, e_sun (v := v) (sl := sl) s2 g4.1]
    have x1b : mB 40 (o_X1_grow_0_1 (o_X0_tend_h (g 10) (g 11) g da) (g 11) dr (o_X0_tend_1_5 (g 10) (g 11) g da) (o_X0_tend_1_6 (g 10) (g 11) g da)) := by
      have h1 := tend_b (g 10) (g 11) da g2
      exact grow_b (by rw [t0]; exact g0) h1 g4.1 (tend_m _ _ _ _)
    have x2b : mB 40 (o_X1_grow_0_1 (o_X0_tend_h (o_X0_tend_0_2 (g 10) (g 11) g da) (g 11) (fun k => g (k + 5)) db) (g 11) dr (o_X0_tend_1_5 (o_X0_tend_0_2 (g 10) (g 11) g da) (g 11) (fun k => g (k + 5)) db) (o_X0_tend_1_6 (o_X0_tend_0_2 (g 10) (g 11) g da) (g 11) (fun k => g (k + 5)) db)) := by
      have h1 : mB 40 (o_X0_tend_h (o_X0_tend_0_2 (g 10) (g 11) g da) (g 11) (fun k => g (k + 5)) db 1) := tend_b _ _ _ g3
      exact grow_b (by rw [t5]; exact g1) h1 g4.1 (tend_m _ _ _ _)
    generalize ha : o_X8_isShaded_143_0_r v ms S4 = a
    have c0 : j_X0_turnBy_0_0 g sun dry len need da db dr = if a = 0 then 0 else g 4 + 1 := by
      unfold j_X0_turnBy_0_0
      rw [← eI_143_0 v ms S4 (mkG5 (o_X0_tend_h (g 10) (g 11) g da 0) (o_X1_grow_0_1 (o_X0_tend_h (g 10) (g 11) g da) (g 11) dr (o_X0_tend_1_5 (g 10) (g 11) g da) (o_X0_tend_1_6 (g 10) (g 11) g da)) (o_X0_tend_h (g 10) (g 11) g da 2) (o_X0_tend_h (g 10) (g 11) g da 3) (o_X0_tend_h (g 10) (g 11) g da 4)) (mkG5 (o_X0_tend_h (o_X0_tend_0_2 (g 10) (g 11) g da) (g 11) (fun k => g (k + 5)) db 0) (o_X1_grow_0_1 (o_X0_tend_h (o_X0_tend_0_2 (g 10) (g 11) g da) (g 11) (fun k => g (k + 5)) db) (g 11) dr (o_X0_tend_1_5 (o_X0_tend_0_2 (g 10) (g 11) g da) (g 11) (fun k => g (k + 5)) db) (o_X0_tend_1_6 (o_X0_tend_0_2 (g 10) (g 11) g da) (g 11) (fun k => g (k + 5)) db)) (o_X0_tend_h (o_X0_tend_0_2 (g 10) (g 11) g da) (g 11) (fun k => g (k + 5)) db 2) (o_X0_tend_h (o_X0_tend_0_2 (g 10) (g 11) g da) (g 11) (fun k => g (k + 5)) db 3) (o_X0_tend_h (o_X0_tend_0_2 (g 10) (g 11) g da) (g 11) (fun k => g (k + 5)) db 4)) (o_X0_tend_0_2 (o_X0_tend_0_2 (g 10) (g 11) g da) (g 11) (fun k => g (k + 5)) db) (g 11) (o_X6_sunIn_r sun dry len need (g 11)) len f2 f3 f5 s0 hsun, ha, t4]
    have r0 : j_X8_goes_143_0_0 v ms sl da db dr = if a = 0 then 0 else 1 := by
      unfold j_X8_goes_143_0_0
      rw [hS4, ha]
    have r1 : j_X8_goes_143_1_0 v ms sl da db dr = if a = 0 then 0 else g 4 + 1 := by
      unfold j_X8_goes_143_1_0
      rw [hS4, ha, f8]
    generalize hD1 : (if a = 0 then (0 : Int32) else g 4 + 1) = D1 at c0 r1
    have uq : ∀ j, j ≠ 151 → upd S4 151 D1 j = S4 j := fun j hj => if_neg hj
    generalize hb : o_X8_isShaded_143_1_r v ms (upd S4 151 D1) = b
    have r2 : j_X8_goes_143_2_0 v ms sl da db dr = if b = 0 then 0 else 2 := by
      unfold j_X8_goes_143_2_0
      rw [hS4, r1, hb]
    have r3 : j_X8_goes_143_3_0 v ms sl da db dr = if b = 0 then 0 else g 9 + 1 := by
      unfold j_X8_goes_143_3_0
      rw [hS4, r1, hb]
      simp [upd, f9]
    have c1 : j_X0_turnBy_1_0 g sun dry len need da db dr = if b = 0 then 0 else g 9 + 1 := by
      unfold j_X0_turnBy_1_0
      rw [c0, ← eI_143_1 v ms (upd S4 151 D1) (mkG5 (o_X0_tend_h (g 10) (g 11) g da 0) (o_X1_grow_0_1 (o_X0_tend_h (g 10) (g 11) g da) (g 11) dr (o_X0_tend_1_5 (g 10) (g 11) g da) (o_X0_tend_1_6 (g 10) (g 11) g da)) (o_X0_tend_h (g 10) (g 11) g da 2) (o_X0_tend_h (g 10) (g 11) g da 3) D1) (mkG5 (o_X0_tend_h (o_X0_tend_0_2 (g 10) (g 11) g da) (g 11) (fun k => g (k + 5)) db 0) (o_X1_grow_0_1 (o_X0_tend_h (o_X0_tend_0_2 (g 10) (g 11) g da) (g 11) (fun k => g (k + 5)) db) (g 11) dr (o_X0_tend_1_5 (o_X0_tend_0_2 (g 10) (g 11) g da) (g 11) (fun k => g (k + 5)) db) (o_X0_tend_1_6 (o_X0_tend_0_2 (g 10) (g 11) g da) (g 11) (fun k => g (k + 5)) db)) (o_X0_tend_h (o_X0_tend_0_2 (g 10) (g 11) g da) (g 11) (fun k => g (k + 5)) db 2) (o_X0_tend_h (o_X0_tend_0_2 (g 10) (g 11) g da) (g 11) (fun k => g (k + 5)) db 3) (o_X0_tend_h (o_X0_tend_0_2 (g 10) (g 11) g da) (g 11) (fun k => g (k + 5)) db 4)) (o_X0_tend_0_2 (o_X0_tend_0_2 (g 10) (g 11) g da) (g 11) (fun k => g (k + 5)) db) (g 11) (o_X6_sunIn_r sun dry len need (g 11)) len (by rw [uq _ (by decide)]; exact f2) (by rw [uq _ (by decide)]; exact f3) (by rw [uq _ (by decide)]; exact f4) s0 (by rw [← hsun]; unfold o_X8_sunIn_143_r; rw [uq _ (by decide)]), hb, t9]
    have hnb : a = 0 ∨ b = 0 := by
      rw [← ha, ← hb]
      exact eN_143 v ms S4 (upd S4 151 D1) (uq _ (by decide)) (uq _ (by decide))
    generalize hD3 : (if b = 0 then (0 : Int32) else g 9 + 1) = D3 at c1 r3
    have r4 : j_X8_goes_143_4_0 v ms sl da db dr = if D1 < need then -4 else 0 := by
      unfold j_X8_goes_143_4_0
      rw [hS4, r1, r3, s1]
      simp only [upd, f12, hl]
      simp
    have r5 : j_X8_goes_143_5_0 v ms sl da db dr = if D3 < need then (if D1 < need then -4 else 0) else 1 := by
      unfold j_X8_goes_143_5_0
      rw [hS4, r1, r3, r4, s1]
      rfl
    have hz : D1 = 0 ∨ D3 = 0 := by
      rcases hnb with q | q
      · exact Or.inl (by rw [← hD1, if_pos q])
      · exact Or.inr (by rw [← hD3, if_pos q])
    have m4 := mB_dark g5 k4 s3
    have m9 := mB_dark g6 k9 s3
    have n1 : 0 ≤ D1.toInt := by
      rw [← hD1]; split
      · decide
      · exact m4.1
    have n3 : 0 ≤ D3.toInt := by
      rw [← hD3]; split
      · decide
      · exact m9.1
    have hT : o_X0_turnBy_g g sun dry len need da db dr = mkG16 (g 0) (o_X1_grow_0_1 (o_X0_tend_h (g 10) (g 11) g da) (g 11) dr (o_X0_tend_1_5 (g 10) (g 11) g da) (o_X0_tend_1_6 (g 10) (g 11) g da)) (o_X0_tend_h (g 10) (g 11) g da 2) (o_X0_tend_h (g 10) (g 11) g da 3) D1 (g 5) (o_X1_grow_0_1 (o_X0_tend_h (o_X0_tend_0_2 (g 10) (g 11) g da) (g 11) (fun k => g (k + 5)) db) (g 11) dr (o_X0_tend_1_5 (o_X0_tend_0_2 (g 10) (g 11) g da) (g 11) (fun k => g (k + 5)) db) (o_X0_tend_1_6 (o_X0_tend_0_2 (g 10) (g 11) g da) (g 11) (fun k => g (k + 5)) db)) (o_X0_tend_h (o_X0_tend_0_2 (g 10) (g 11) g da) (g 11) (fun k => g (k + 5)) db 2) (o_X0_tend_h (o_X0_tend_0_2 (g 10) (g 11) g da) (g 11) (fun k => g (k + 5)) db 3) D3 (o_X0_tend_0_2 (o_X0_tend_0_2 (g 10) (g 11) g da) (g 11) (fun k => g (k + 5)) db) (g 11 + 1) (o_X0_tend_1_5 (g 10) (g 11) g da) (o_X0_tend_1_6 (g 10) (g 11) g da) (o_X0_tend_1_5 (o_X0_tend_0_2 (g 10) (g 11) g da) (g 11) (fun k => g (k + 5)) db) (o_X0_tend_1_6 (o_X0_tend_0_2 (g 10) (g 11) g da) (g 11) (fun k => g (k + 5)) db) := by
      rw [o_X0_turnBy_g, e_lz, if_pos hl, c0, c1, t0, t5]
    have hR : o_X8_goes_143_2 v ms sl da db dr = upd (upd (upd (upd (upd S4 151 D1) 152 D3) 155 (if D1 < need then -4 else 0)) 155 (if D3 < need then (if D1 < need then -4 else 0) else 1)) 154 (S4 154 + 1) := by
      rw [o_X8_goes_143_2, if_pos hlt, hS4, r1, r3, r4, r5]
      rfl
    have hq : o_X8_goes_143_r v ms sl da db dr = (0 ||| (if a = 0 then 0 else 1)) ||| (if b = 0 then 0 else 2) := by
      rw [o_X8_goes_143_r, if_pos hlt, r0, r2]
    rw [hT, hR, hq]
    refine ⟨⟨f0, f1, f2, f3, f4, f5, f6, f7, rfl, rfl, f10, congrArg (· + 1) f11, ?_⟩, ⟨g0, g1, x1b, x2b, mB_succ hBd g4, n1, n3, ?_⟩, ?_, fun _ => ?_⟩
    · show (if D3 < need then (if D1 < need then (-4 : Int32) else 0) else 1) = (if D1 < need then (if D3 < need then (-4) else 1) else 0)
      rcases hz with q | q <;> rw [q] <;> simp only [if_pos s4]
    · rcases hz with q | q
      · exact Or.inl (by show D1 < need; rw [q]; exact s4)
      · exact Or.inr (by show D3 < need; rw [q]; exact s4)
    · refine b4.or (b4.or b4.z ?_) ?_
      · split
        · exact b4.z
        · exact ⟨1, rfl⟩
      · split
        · exact b4.z
        · exact ⟨2, rfl⟩
    · show (0 ||| (if a = 0 then (0 : Int32) else 1)) ||| (if b = 0 then (0 : Int32) else 2) = (if D1 ≤ 0 then (0 : Int32) else 1) ||| (if D3 ≤ 0 then (0 : Int32) else 2)
      rw [← hD1, ← hD3]
      by_cases c1 : a = 0 <;> by_cases c2 : b = 0 <;> simp [c1, c2, m4.2, m9.2]
  · have hlt : ¬ sl 155 < 0 := by rw [e12]; exact fun c => hl ((lz_neg g need).mp c)
    rw [o_X0_turnBy_g, e_lz, if_neg hl, o_X8_goes_143_2, if_neg hlt, o_X8_goes_143_r, if_neg hlt]
    exact ⟨he, ⟨g0, g1, g2, g3, mB_keep g4, g5, g6, g7⟩, b4.z, fun c => absurd c hl⟩
