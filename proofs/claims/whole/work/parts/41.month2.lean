theorem mB_cases40 {x : Int32} (h : mB 40 x) : ∃ k : Nat, k ≤ 40 ∧ x = nI k := by
  obtain ⟨h1, h2⟩ := h
  have e := (z_clamp h1).1
  have e2 := (z_clamp h1).2
  exact ⟨x.toNatClampNeg, by omega, e⟩
theorem e_max2 : ∀ k : Fin 41, ((if (0 : Int32) < nI k.val - 2 then nI k.val - 2 else 0) = nI (k.val - 2)) ∧ ((if (0 : Int32) < nI k.val - 1 then nI k.val - 1 else 0) = nI (k.val - 1)) := by decide +kernel
theorem mB_nI {k n : Nat} (h : k ≤ n) (hn : n < 2 ^ 31) : mB n (nI k) := by
  have := nI_toInt (n := k) (by omega)
  exact ⟨by omega, by omega⟩
theorem tend_1 (w mo ac : Int32) (h : Nat → Int32) : o_X0_tend_h w mo h ac 1 = h 1 ∨ o_X0_tend_h w mo h ac 1 = (if (0 : Int32) < h 1 - 2 then h 1 - 2 else 0) ∨ o_X0_tend_h w mo h ac 1 = (if (0 : Int32) < h 1 - 1 then h 1 - 1 else 0) := by
  unfold o_X0_tend_h
  by_cases a1 : ac = 1
  · rw [if_pos a1]; exact Or.inr (Or.inl rfl)
  rw [if_neg a1]
  by_cases a4 : ac = 4
  · rw [if_pos a4]; exact Or.inl rfl
  rw [if_neg a4]
  by_cases a2 : ac = 2
  · rw [if_pos a2]
    by_cases b : h 3 < 3
    · rw [if_pos b, if_neg (by rw [a2]; decide)]; exact Or.inl rfl
    · rw [if_neg b]
      show (if h 1 < 3 then (if (0 : Int32) < h 1 - 1 then h 1 - 1 else 0) else h 1) = h 1 ∨ (if h 1 < 3 then (if (0 : Int32) < h 1 - 1 then h 1 - 1 else 0) else h 1) = (if (0 : Int32) < h 1 - 2 then h 1 - 2 else 0) ∨ (if h 1 < 3 then (if (0 : Int32) < h 1 - 1 then h 1 - 1 else 0) else h 1) = (if (0 : Int32) < h 1 - 1 then h 1 - 1 else 0)
      by_cases b2 : h 1 < 3
      · rw [if_pos b2]; exact Or.inr (Or.inr rfl)
      · rw [if_neg b2]; exact Or.inl rfl
  rw [if_neg a2]
  by_cases a3 : ac = 3
  · rw [if_pos a3]
    by_cases b : h 3 < 1
    · rw [if_pos b]; exact Or.inl rfl
    · rw [if_neg b]
      by_cases b2 : w ≤ 0
      · rw [if_pos b2]; exact Or.inl rfl
      · rw [if_neg b2]; exact Or.inl rfl
  · rw [if_neg a3]; exact Or.inl rfl
theorem tend_b {h : Nat → Int32} (w mo ac : Int32) (hb : mB 40 (h 1)) : mB 40 (o_X0_tend_h w mo h ac 1) := by
  obtain ⟨k, hk, e⟩ := mB_cases40 hb
  have f1 := (e_max2 ⟨k, by omega⟩).1
  have f2 := (e_max2 ⟨k, by omega⟩).2
  have b1 : mB 40 (nI (k - 2)) := mB_nI (n := 40) (by omega) (by decide)
  have b2 : mB 40 (nI (k - 1)) := mB_nI (n := 40) (by omega) (by decide)
  dsimp only at f1 f2
  rcases tend_1 w mo ac h with q | q | q
  · rw [q]; exact hb
  · rw [q, e, f1]; exact b1
  · rw [q, e, f2]; exact b2
theorem e_grb : ∀ kd : Fin 5, ∀ hi : Fin 41, ∀ gr : Fin 4, ∀ more : Fin 3, (let c := nI hi.val + (if gr.val = 0 then (-2 : Int32) else nI gr.val) + nI more.val; let b := o_X8_bound_r (nI kd.val); let t := if c < b then c else b; let r := if (0 : Int32) < t then t else 0; r = nI r.toNatClampNeg ∧ r.toNatClampNeg ≤ 40) := by decide +kernel
theorem e_gcase {k y : Int32} (h : mB 4 k) : ∃ gr : Fin 4, o_X8_grows_r k y = (if gr.val = 0 then (-2 : Int32) else nI gr.val) := by
  unfold o_X8_grows_r
  rcases e_kinds h with r | r | r | r | r <;> rw [r]
  · exact ⟨⟨3, by decide⟩, by rw [if_pos rfl]; rfl⟩
  · exact ⟨⟨1, by decide⟩, by rw [if_neg (by decide), if_pos rfl]; rfl⟩
  · by_cases c : j_X8_grows_0_0 2 y = 0
    · exact ⟨⟨2, by decide⟩, by simp [c]; decide⟩
    · exact ⟨⟨0, by decide⟩, by simp [c]⟩
  · exact ⟨⟨1, by decide⟩, by rw [if_neg (by decide), if_neg (by decide), if_pos rfl]; rfl⟩
  · exact ⟨⟨2, by decide⟩, by rw [if_neg (by decide), if_neg (by decide), if_neg (by decide), if_neg (by decide)]; rfl⟩
theorem grow_b {h : Nat → Int32} {mo dr more wt : Int32} (hk : mB 4 (h 0)) (hb : mB 40 (h 1)) (hm : 0 ≤ mo.toInt) (hmo : more = 0 ∨ more = 1 ∨ more = 2) : mB 40 (o_X1_grow_0_1 h mo dr more wt) := by
  unfold o_X1_grow_0_1
  by_cases c : o_X7_cell_b_r (h 0) < h 1
  · rw [if_pos c]; exact hb
  · rw [if_neg c, e_grows hk hm, e_grows3 hk hm, e_cb hk]
    obtain ⟨gr, e1⟩ := e_gcase (y := mo - mo / 12 * 12) hk
    obtain ⟨k, hk2, e2⟩ := mB_cases40 hb
    obtain ⟨kd, e3⟩ : ∃ kd : Fin 5, h 0 = nI kd.val := by
      rcases e_kinds hk with r | r | r | r | r
      · exact ⟨0, r⟩
      · exact ⟨1, r⟩
      · exact ⟨2, r⟩
      · exact ⟨3, r⟩
      · exact ⟨4, r⟩
    obtain ⟨mr, e4⟩ : ∃ mr : Fin 3, more = nI mr.val := by
      rcases hmo with r | r | r
      · exact ⟨0, r⟩
      · exact ⟨1, r⟩
      · exact ⟨2, r⟩
    have key := e_grb kd ⟨k, by omega⟩ gr mr
    have b1 : mB 40 (nI (k : Nat)) := mB_nI (n := 40) hk2 (by decide)
    rw [e1, e2, e3, e4]
    have b2 := mB_nI (n := 40) key.2 (by decide)
    rw [← key.1] at b2
    split
    · exact b2
    · split
      · exact b1
      · exact b2
theorem tend_m (w mo ac : Int32) (h : Nat → Int32) : o_X0_tend_1_5 w mo h ac = 0 ∨ o_X0_tend_1_5 w mo h ac = 1 ∨ o_X0_tend_1_5 w mo h ac = 2 := by
  unfold o_X0_tend_1_5 o_X1_takeDung_0_5
  (repeat' split) <;> simp
theorem e_or4 : ∀ a b : Fin 4, ∃ c : Fin 4, nI a.val ||| nI b.val = nI c.val := by decide +kernel
def b4 (x : Int32) : Prop := ∃ c : Fin 4, x = nI c.val
theorem b4.or {x y : Int32} (h : b4 x) (h2 : b4 y) : b4 (x ||| y) := by
  obtain ⟨a, rfl⟩ := h
  obtain ⟨b, rfl⟩ := h2
  exact e_or4 a b
theorem b4.nn {x : Int32} (h : b4 x) : ¬ x < 0 := by
  obtain ⟨a, rfl⟩ := h
  exact nI_pos (by omega)
theorem b4.z : b4 0 := ⟨0, rfl⟩
theorem mB_dark {x need : Int32} (h0 : 0 ≤ x.toInt) (h : x < need) (hn : mB 6 need) : 0 ≤ (x + 1).toInt ∧ ¬ (x + 1 ≤ 0) := by
  have h1 := hn.2
  rw [Int32.lt_iff_toInt_lt] at h
  have e := z_inc h0 (by omega)
  refine ⟨by omega, fun c => ?_⟩
  rw [Int32.le_iff_toInt_le, show (0 : Int32).toInt = 0 from by decide] at c
  omega

theorem eI_0_0 (v ms T hA hB : Nat → Int32) (w mo su len : Int32) (t2 : T 2 = hA 1) (t3 : T 3 = hB 1) (t5 : T 5 = hB 2) (v0 : v 0 = len) (hsun : o_X8_sunIn_0_r v ms T = su) : o_X8_isShaded_0_0_r v ms T = o_X0_isShaded_0_r hA hB w mo su len := by
  unfold o_X8_isShaded_0_0_r o_X0_isShaded_0_r o_X8_shadow_0_1_r o_X1_shadowLength_r
  rw [hsun, t2, t3, t5, v0]
  by_cases c1 : hB 1 ≤ hA 1
  · rw [if_pos c1, if_pos c1]; split <;> rfl
  · rw [if_neg c1, if_neg c1]
theorem eI_0_1 (v ms T hA hB : Nat → Int32) (w mo su len : Int32) (t2 : T 2 = hA 1) (t3 : T 3 = hB 1) (t5 : T 4 = hA 2) (v0 : v 0 = len) (hsun : o_X8_sunIn_0_r v ms T = su) : o_X8_isShaded_0_1_r v ms T = o_X0_isShaded_1_r hA hB w mo su len := by
  unfold o_X8_isShaded_0_1_r o_X0_isShaded_1_r o_X8_shadow_0_0_r o_X1_shadowLength_r
  rw [hsun, t2, t3, t5, v0]
  by_cases c1 : hA 1 ≤ hB 1
  · rw [if_pos c1, if_pos c1]; split <;> rfl
  · rw [if_neg c1, if_neg c1]
theorem e4_0 (v sl g sun dry : Nat → Int32) (len need da db dr : Int32) (he : en 0 sl g need) (k0 : mB 4 (g 0)) (k5 : mB 4 (g 5)) (hm : 0 ≤ (g 11).toInt) (S4 : Nat → Int32) (hS4 : S4 = o_X8_rises_0_1_1 v (o_X8_rises_0_0_1 v (o_X8_does_0_1_1 v (o_X8_does_0_0_1 v sl da) db) (o_X8_does_0_0_r v sl da) dr) (o_X8_does_0_1_r v (o_X8_does_0_0_1 v sl da) db) dr) :
    S4 0 = g 0 ∧ S4 1 = g 5 ∧ S4 2 = o_X1_grow_0_1 (o_X0_tend_h (g 10) (g 11) g da) (g 11) dr (o_X0_tend_1_5 (g 10) (g 11) g da) (o_X0_tend_1_6 (g 10) (g 11) g da) ∧ S4 3 = o_X1_grow_0_1 (o_X0_tend_h (o_X0_tend_0_2 (g 10) (g 11) g da) (g 11) (fun k => g (k + 5)) db) (g 11) dr (o_X0_tend_1_5 (o_X0_tend_0_2 (g 10) (g 11) g da) (g 11) (fun k => g (k + 5)) db) (o_X0_tend_1_6 (o_X0_tend_0_2 (g 10) (g 11) g da) (g 11) (fun k => g (k + 5)) db) ∧ S4 4 = o_X0_tend_h (g 10) (g 11) g da 2 ∧ S4 5 = o_X0_tend_h (o_X0_tend_0_2 (g 10) (g 11) g da) (g 11) (fun k => g (k + 5)) db 2 ∧ S4 6 = o_X0_tend_h (g 10) (g 11) g da 3 ∧ S4 7 = o_X0_tend_h (o_X0_tend_0_2 (g 10) (g 11) g da) (g 11) (fun k => g (k + 5)) db 3 ∧ S4 8 = g 4 ∧ S4 9 = g 9 ∧ S4 10 = o_X0_tend_0_2 (o_X0_tend_0_2 (g 10) (g 11) g da) (g 11) (fun k => g (k + 5)) db ∧ S4 11 = g 11 ∧ S4 12 = lz g need := by
  obtain ⟨e0, e1, e2, e3, e4, e5, e6, e7, e8, e9, e10, e11, e12⟩ := he
  obtain ⟨a1, a2, a3, a4, a5, a6, a7⟩ := ed_0_0 v sl da (g 10) (g 11) g e2 e4 e6 e10
  have o1 := eo_0_0 v sl da
  generalize hS1 : o_X8_does_0_0_1 v sl da = S1 at hS4 a2 a3 a4 a5 o1
  obtain ⟨b1, b2, b3, b4, b5, b6, b7⟩ := ed_0_1 v S1 db (o_X0_tend_0_2 (g 10) (g 11) g da) (g 11) (fun k => g (k + 5)) ((o1 3 (by decide) (by decide) (by decide) (by decide)).trans e3) ((o1 5 (by decide) (by decide) (by decide) (by decide)).trans e5) ((o1 7 (by decide) (by decide) (by decide) (by decide)).trans e7) a5
  have o2 := eo_0_1 v S1 db
  generalize hS2 : o_X8_does_0_1_1 v S1 db = S2 at hS4 b2 b3 b4 b5 o2
  rw [a1, b1] at hS4
  have q (j : Nat) (x : Int32) (hj : sl j = x) (h1 : j ≠ 2 ∧ j ≠ 4 ∧ j ≠ 6 ∧ j ≠ 10) (h2 : j ≠ 3 ∧ j ≠ 5 ∧ j ≠ 7) : S2 j = x := (o2 j h2.1 h2.2.1 h2.2.2 h1.2.2.2).trans ((o1 j h1.1 h1.2.1 h1.2.2.1 h1.2.2.2).trans hj)
  have q1 (j : Nat) (x : Int32) (hj : S1 j = x) (h1 : j ≠ 10) (h2 : j ≠ 3 ∧ j ≠ 5 ∧ j ≠ 7) : S2 j = x := (o2 j h2.1 h2.2.1 h2.2.2 h1).trans hj
  have r1 := er_0_0 v S2 (o_X0_tend_1_5 (g 10) (g 11) g da) dr (g 11) (o_X0_tend_1_6 (g 10) (g 11) g da) (o_X0_tend_h (g 10) (g 11) g da) (tend_w _ _ _ _) (by rw [a6]; exact k0) hm ((q 0 _ e0 (by decide) (by decide)).trans a6.symm) (q1 2 _ a2 (by decide) (by decide)) (q 11 _ e11 (by decide) (by decide))
  have p1 := eq_0_0 v S2 (o_X0_tend_1_5 (g 10) (g 11) g da) dr
  generalize hS3 : o_X8_rises_0_0_1 v S2 (o_X0_tend_1_5 (g 10) (g 11) g da) dr = S3 at hS4 r1 p1
  have r2 := er_0_1 v S3 (o_X0_tend_1_5 (o_X0_tend_0_2 (g 10) (g 11) g da) (g 11) (fun k => g (k + 5)) db) dr (g 11) (o_X0_tend_1_6 (o_X0_tend_0_2 (g 10) (g 11) g da) (g 11) (fun k => g (k + 5)) db) (o_X0_tend_h (o_X0_tend_0_2 (g 10) (g 11) g da) (g 11) (fun k => g (k + 5)) db) (tend_w _ _ _ _) (by rw [b6]; exact k5) hm ((p1 1 (by decide)).trans ((q 1 _ e1 (by decide) (by decide)).trans b6.symm)) ((p1 3 (by decide)).trans b2) ((p1 11 (by decide)).trans (q 11 _ e11 (by decide) (by decide)))
  have p2 := eq_0_1 v S3 (o_X0_tend_1_5 (o_X0_tend_0_2 (g 10) (g 11) g da) (g 11) (fun k => g (k + 5)) db) dr
  rw [← hS4] at r2 p2
  have z (j : Nat) (x : Int32) (hj : S2 j = x) (h1 : j ≠ 2 ∧ j ≠ 3) : S4 j = x := (p2 j h1.2).trans ((p1 j h1.1).trans hj)
  refine ⟨z _ _ (q 0 _ e0 (by decide) (by decide)) (by decide), z _ _ (q 1 _ e1 (by decide) (by decide)) (by decide), (p2 2 (by decide)).trans r1, r2, z _ _ (q1 4 _ a3 (by decide) (by decide)) (by decide), z _ _ b3 (by decide), z _ _ (q1 6 _ a4 (by decide) (by decide)) (by decide), z _ _ b4 (by decide), z _ _ (q 8 _ e8 (by decide) (by decide)) (by decide), z _ _ (q 9 _ e9 (by decide) (by decide)) (by decide), z _ _ b5 (by decide), z _ _ (q 11 _ e11 (by decide) (by decide)) (by decide), z _ _ (q 12 _ e12 (by decide) (by decide)) (by decide)⟩
theorem eN_0 (v ms S T : Nat → Int32) (h2 : T 2 = S 2) (h3 : T 3 = S 3) : o_X8_isShaded_0_0_r v ms S = 0 ∨ o_X8_isShaded_0_1_r v ms T = 0 := by
  unfold o_X8_isShaded_0_0_r o_X8_isShaded_0_1_r
  rw [h2, h3]
  by_cases c : S 3 ≤ S 2
  · exact Or.inl (by rw [if_pos c]; split <;> rfl)
  · exact Or.inr (by rw [if_pos (Int32.le_of_lt (Int32.not_le.mp c))]; split <;> rfl)
theorem eI_143_0 (v ms T hA hB : Nat → Int32) (w mo su len : Int32) (t2 : T 145 = hA 1) (t3 : T 146 = hB 1) (t5 : T 148 = hB 2) (v0 : v 0 = len) (hsun : o_X8_sunIn_143_r v ms T = su) : o_X8_isShaded_143_0_r v ms T = o_X0_isShaded_0_r hA hB w mo su len := by
  unfold o_X8_isShaded_143_0_r o_X0_isShaded_0_r o_X8_shadow_143_1_r o_X1_shadowLength_r
  rw [hsun, t2, t3, t5, v0]
  by_cases c1 : hB 1 ≤ hA 1
  · rw [if_pos c1, if_pos c1]; split <;> rfl
  · rw [if_neg c1, if_neg c1]
theorem eI_143_1 (v ms T hA hB : Nat → Int32) (w mo su len : Int32) (t2 : T 145 = hA 1) (t3 : T 146 = hB 1) (t5 : T 147 = hA 2) (v0 : v 0 = len) (hsun : o_X8_sunIn_143_r v ms T = su) : o_X8_isShaded_143_1_r v ms T = o_X0_isShaded_1_r hA hB w mo su len := by
  unfold o_X8_isShaded_143_1_r o_X0_isShaded_1_r o_X8_shadow_143_0_r o_X1_shadowLength_r
  rw [hsun, t2, t3, t5, v0]
  by_cases c1 : hA 1 ≤ hB 1
  · rw [if_pos c1, if_pos c1]; split <;> rfl
  · rw [if_neg c1, if_neg c1]
theorem e4_143 (v sl g sun dry : Nat → Int32) (len need da db dr : Int32) (he : en 143 sl g need) (k0 : mB 4 (g 0)) (k5 : mB 4 (g 5)) (hm : 0 ≤ (g 11).toInt) (S4 : Nat → Int32) (hS4 : S4 = o_X8_rises_143_1_1 v (o_X8_rises_143_0_1 v (o_X8_does_143_1_1 v (o_X8_does_143_0_1 v sl da) db) (o_X8_does_143_0_r v sl da) dr) (o_X8_does_143_1_r v (o_X8_does_143_0_1 v sl da) db) dr) :
    S4 143 = g 0 ∧ S4 144 = g 5 ∧ S4 145 = o_X1_grow_0_1 (o_X0_tend_h (g 10) (g 11) g da) (g 11) dr (o_X0_tend_1_5 (g 10) (g 11) g da) (o_X0_tend_1_6 (g 10) (g 11) g da) ∧ S4 146 = o_X1_grow_0_1 (o_X0_tend_h (o_X0_tend_0_2 (g 10) (g 11) g da) (g 11) (fun k => g (k + 5)) db) (g 11) dr (o_X0_tend_1_5 (o_X0_tend_0_2 (g 10) (g 11) g da) (g 11) (fun k => g (k + 5)) db) (o_X0_tend_1_6 (o_X0_tend_0_2 (g 10) (g 11) g da) (g 11) (fun k => g (k + 5)) db) ∧ S4 147 = o_X0_tend_h (g 10) (g 11) g da 2 ∧ S4 148 = o_X0_tend_h (o_X0_tend_0_2 (g 10) (g 11) g da) (g 11) (fun k => g (k + 5)) db 2 ∧ S4 149 = o_X0_tend_h (g 10) (g 11) g da 3 ∧ S4 150 = o_X0_tend_h (o_X0_tend_0_2 (g 10) (g 11) g da) (g 11) (fun k => g (k + 5)) db 3 ∧ S4 151 = g 4 ∧ S4 152 = g 9 ∧ S4 153 = o_X0_tend_0_2 (o_X0_tend_0_2 (g 10) (g 11) g da) (g 11) (fun k => g (k + 5)) db ∧ S4 154 = g 11 ∧ S4 155 = lz g need := by
  obtain ⟨e0, e1, e2, e3, e4, e5, e6, e7, e8, e9, e10, e11, e12⟩ := he
  obtain ⟨a1, a2, a3, a4, a5, a6, a7⟩ := ed_143_0 v sl da (g 10) (g 11) g e2 e4 e6 e10
  have o1 := eo_143_0 v sl da
  generalize hS1 : o_X8_does_143_0_1 v sl da = S1 at hS4 a2 a3 a4 a5 o1
  obtain ⟨b1, b2, b3, b4, b5, b6, b7⟩ := ed_143_1 v S1 db (o_X0_tend_0_2 (g 10) (g 11) g da) (g 11) (fun k => g (k + 5)) ((o1 146 (by decide) (by decide) (by decide) (by decide)).trans e3) ((o1 148 (by decide) (by decide) (by decide) (by decide)).trans e5) ((o1 150 (by decide) (by decide) (by decide) (by decide)).trans e7) a5
  have o2 := eo_143_1 v S1 db
  generalize hS2 : o_X8_does_143_1_1 v S1 db = S2 at hS4 b2 b3 b4 b5 o2
  rw [a1, b1] at hS4
  have q (j : Nat) (x : Int32) (hj : sl j = x) (h1 : j ≠ 145 ∧ j ≠ 147 ∧ j ≠ 149 ∧ j ≠ 153) (h2 : j ≠ 146 ∧ j ≠ 148 ∧ j ≠ 150) : S2 j = x := (o2 j h2.1 h2.2.1 h2.2.2 h1.2.2.2).trans ((o1 j h1.1 h1.2.1 h1.2.2.1 h1.2.2.2).trans hj)
  have q1 (j : Nat) (x : Int32) (hj : S1 j = x) (h1 : j ≠ 153) (h2 : j ≠ 146 ∧ j ≠ 148 ∧ j ≠ 150) : S2 j = x := (o2 j h2.1 h2.2.1 h2.2.2 h1).trans hj
  have r1 := er_143_0 v S2 (o_X0_tend_1_5 (g 10) (g 11) g da) dr (g 11) (o_X0_tend_1_6 (g 10) (g 11) g da) (o_X0_tend_h (g 10) (g 11) g da) (tend_w _ _ _ _) (by rw [a6]; exact k0) hm ((q 143 _ e0 (by decide) (by decide)).trans a6.symm) (q1 145 _ a2 (by decide) (by decide)) (q 154 _ e11 (by decide) (by decide))
  have p1 := eq_143_0 v S2 (o_X0_tend_1_5 (g 10) (g 11) g da) dr
  generalize hS3 : o_X8_rises_143_0_1 v S2 (o_X0_tend_1_5 (g 10) (g 11) g da) dr = S3 at hS4 r1 p1
  have r2 := er_143_1 v S3 (o_X0_tend_1_5 (o_X0_tend_0_2 (g 10) (g 11) g da) (g 11) (fun k => g (k + 5)) db) dr (g 11) (o_X0_tend_1_6 (o_X0_tend_0_2 (g 10) (g 11) g da) (g 11) (fun k => g (k + 5)) db) (o_X0_tend_h (o_X0_tend_0_2 (g 10) (g 11) g da) (g 11) (fun k => g (k + 5)) db) (tend_w _ _ _ _) (by rw [b6]; exact k5) hm ((p1 144 (by decide)).trans ((q 144 _ e1 (by decide) (by decide)).trans b6.symm)) ((p1 146 (by decide)).trans b2) ((p1 154 (by decide)).trans (q 154 _ e11 (by decide) (by decide)))
  have p2 := eq_143_1 v S3 (o_X0_tend_1_5 (o_X0_tend_0_2 (g 10) (g 11) g da) (g 11) (fun k => g (k + 5)) db) dr
  rw [← hS4] at r2 p2
  have z (j : Nat) (x : Int32) (hj : S2 j = x) (h1 : j ≠ 145 ∧ j ≠ 146) : S4 j = x := (p2 j h1.2).trans ((p1 j h1.1).trans hj)
  refine ⟨z _ _ (q 143 _ e0 (by decide) (by decide)) (by decide), z _ _ (q 144 _ e1 (by decide) (by decide)) (by decide), (p2 145 (by decide)).trans r1, r2, z _ _ (q1 147 _ a3 (by decide) (by decide)) (by decide), z _ _ b3 (by decide), z _ _ (q1 149 _ a4 (by decide) (by decide)) (by decide), z _ _ b4 (by decide), z _ _ (q 151 _ e8 (by decide) (by decide)) (by decide), z _ _ (q 152 _ e9 (by decide) (by decide)) (by decide), z _ _ b5 (by decide), z _ _ (q 154 _ e11 (by decide) (by decide)) (by decide), z _ _ (q 155 _ e12 (by decide) (by decide)) (by decide)⟩
theorem eN_143 (v ms S T : Nat → Int32) (h2 : T 145 = S 145) (h3 : T 146 = S 146) : o_X8_isShaded_143_0_r v ms S = 0 ∨ o_X8_isShaded_143_1_r v ms T = 0 := by
  unfold o_X8_isShaded_143_0_r o_X8_isShaded_143_1_r
  rw [h2, h3]
  by_cases c : S 146 ≤ S 145
  · exact Or.inl (by rw [if_pos c]; split <;> rfl)
  · exact Or.inr (by rw [if_pos (Int32.le_of_lt (Int32.not_le.mp c))]; split <;> rfl)
