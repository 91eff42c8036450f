theorem vp_ch (N : gT → Int32 → Int32 → gT) (L : gT → Int32) (n : Nat) (V : Nat → Int32) (c : gT) (h : ∀ k, k < 5 ^ (2 * (n + 1)) → V k = L (rnP N (n + 1) k c)) : ∀ a, a < 5 → vpl (2 * (n + 1)) V (2 * n + 1) a = mx5 1 (fun b => rm N L n (N c (nI a) (nI b))) 5 := by
  intro a ha
  rw [vpl, mx5_par (q' := 1) (by omega)]
  refine mx5_cong 5 (fun b hb => ?_)
  refine vp_rm N L (2 * (n + 1)) V n (a * 5 + b) (N c (nI a) (nI b)) (by omega) (by omega) (fun rest hr => ?_)
  have hlt : (a * 5 + b) * 5 ^ (2 * n) + rest < 5 ^ (2 * (n + 1)) := by
    rw [show 2 * (n + 1) = 2 * n + 2 by omega, Nat.pow_add, Nat.mul_comm (5 ^ (2 * n))]
    have : (a * 5 + b) * 5 ^ (2 * n) ≤ 24 * 5 ^ (2 * n) := Nat.mul_le_mul_right _ (by omega)
    have e5 : 5 ^ 2 * 5 ^ (2 * n) = 24 * 5 ^ (2 * n) + 5 ^ (2 * n) := by rw [show 5 ^ 2 = 24 + 1 by decide, Nat.add_mul, Nat.one_mul]
    omega
  rw [h _ hlt, rnP_step N n a b rest c hb hr]
theorem up_pair {a a' : gT} {b b' : Int32} (h1 : a = a') (h2 : b = b') : (a, b) = (a', b') := by rw [h1, h2]
theorem rn_1 (N : gT → Int32 → Int32 → gT) (k : Nat) (hk : k < 5 ^ 2) (c : gT) : rnP N 1 k c = (N c (nI (dg 2 k 0)) (nI (dg 2 k 1))) := by
  have hk : k < 25 := hk
  have d0 : dg 2 k 0 = (k) / 5 ^ (2 * 0) / 5 := by
    show (k / 5) % 5 = (k) / 1 / 5
    omega
  have d1 : dg 2 k 1 = (k) / 5 ^ (2 * 0) % 5 := by
    show (k / 1) % 5 = (k) / 1 % 5
    omega
  rw [d0, d1]
  rfl
def Vf_1 (sun dry : gT) (len need : Int32) (g : gT) (k : Nat) : Int32 := ld need (rnP (nx sun dry len need) 1 k (cg g))
set_option maxHeartbeats 8000000 in
set_option maxRecDepth 20000 in
theorem pL_1 {Bd : Int} (v ms sl bs g sun dry : gT) (len need n' s_ : Int32) (hs : es v ms sun dry len need) (he : en 0 sl g need) (hg : gd Bd g need) (hB : Bd < 1000000) :
    ∀ k : Nat, k ≤ 5 ^ 2 → (∀ j, j < 13 → (L_X8_play_0 v ms sl bs n' s_ k).1 j = v j) ∧ (∀ j, j < 143 → (L_X8_play_0 v ms sl bs n' s_ k).2.1 j = sl j) ∧ ((L_X8_play_0 v ms sl bs n' s_ k).2.2, (L_X8_play_0 v ms sl bs n' s_ k).1 13) = itr (stpF 2 (Vf_1 sun dry len need g)) k 0 ((o_X8_forgets_1_1 v (o_X8_forgets_0_1 v bs)), 0) := by
  intro k
  induction k with
  | zero =>
    intro _
    refine ⟨fun j hj => ?_, fun j hj => rfl, rfl⟩
    rcases (show j = 0 ∨ j = 1 ∨ j = 2 ∨ j = 3 ∨ j = 4 ∨ j = 5 ∨ j = 6 ∨ j = 7 ∨ j = 8 ∨ j = 9 ∨ j = 10 ∨ j = 11 ∨ j = 12 by omega) with r | r | r | r | r | r | r | r | r | r | r | r | r <;> subst r <;> rfl
  | succ k ih =>
    intro hk
    obtain ⟨i1, i2, i3⟩ := ih (by omega)
    have hk5 : k < 5 ^ 2 := hk
    have hkp : k < 2 ^ 31 := Nat.lt_trans hk5 (by decide)
    rw [L_X8_play_0, itr_app _ k 1 0, Nat.zero_add]
    generalize L_X8_play_0 v ms sl bs n' s_ k = S at i1 i2 i3 ⊢
    have hes : es S.1 ms sun dry len need := hs.to (i1 0 (by decide)) (i1 1 (by decide)) (i1 2 (by decide))
    have c0 : en 143 (cp13 S.2.1 0 143) (cg g) need := cg_en (he.low (sl' := S.2.1) (by omega) i2).cp
    obtain ⟨t0, q0, r0, -⟩ := to_143 S.1 ms (cp13 S.2.1 0 143) (cg g) sun dry len need (nI (dg 2 k 0)) (nI (dg 2 k 1)) hes c0 (cg_gd hg) (by omega)
    have hV : (((((o_X8_told_143_2 S.1 ms (cp13 S.2.1 0 143) (o_X8_doneIn_r (nI k) 2 0 2 0) (o_X8_doneIn_r (nI k) 2 1 2 1)) 145) - ((o_X8_told_143_2 S.1 ms (cp13 S.2.1 0 143) (o_X8_doneIn_r (nI k) 2 0 2 0) (o_X8_doneIn_r (nI k) 2 1 2 1)) 146)) + (j_X8_play_1_0 v ms sl bs 1 s_ k S.1 S.2.1 S.2.2)) + (j_X8_play_2_0 v ms sl bs 1 s_ k S.1 S.2.1 S.2.2)) = Vf_1 sun dry len need g k := by
      unfold j_X8_play_1_0 j_X8_play_2_0 Vf_1
      rw [rn_1 _ k hk5]
      simp only [di_eq k hkp]
      exact val_ld (cg_en t0) (b4.z.or r0)
    obtain ⟨u1, u2⟩ := ps_1 v ms sl bs S.1 S.2.1 S.2.2 s_ k hkp (Vf_1 sun dry len need g k) hV
    rw [i3] at u1 u2
    refine ⟨fun j hj => ?_, fun j hj => ?_, ?_⟩
    · rw [← i1 j hj]
      rcases (show j = 0 ∨ j = 1 ∨ j = 2 ∨ j = 3 ∨ j = 4 ∨ j = 5 ∨ j = 6 ∨ j = 7 ∨ j = 8 ∨ j = 9 ∨ j = 10 ∨ j = 11 ∨ j = 12 by omega) with r | r | r | r | r | r | r | r | r | r | r | r | r <;> subst r <;> rfl
    · dsimp only
      rw [low_told_143 _ _ _ _ _ hj, low_cp _ hj]
      exact i2 j hj
    · exact up_pair u1 u2
theorem pr_1 {Bd : Int} (v ms sl bs g sun dry : gT) (len need n' s_ : Int32) (hs : es v ms sun dry len need) (he : en 0 sl g need) (hg : gd Bd g need) (hB : Bd < 1000000) :
    (L_X8_play_0 v ms sl bs n' s_ (5 ^ 2)).2.2 0 = rm (nx sun dry len need) (ld need) 1 (cg g) ∧ (L_X8_play_0 v ms sl bs n' s_ (5 ^ 2)).1 13 = am5 (fun a => mx5 1 (fun b => rm (nx sun dry len need) (ld need) 0 (nx sun dry len need (cg g) (nI a) (nI b))) 5) 5 ∧ (∀ j, j < 13 → (L_X8_play_0 v ms sl bs n' s_ (5 ^ 2)).1 j = v j) ∧ (∀ j, j < 143 → (L_X8_play_0 v ms sl bs n' s_ (5 ^ 2)).2.1 j = sl j) := by
  obtain ⟨h1, h2, h3⟩ := pL_1 v ms sl bs g sun dry len need n' s_ hs he hg hB (5 ^ 2) (Nat.le_refl _)
  have hr := root 2 (Vf_1 sun dry len need g) (by decide) ((o_X8_forgets_1_1 v (o_X8_forgets_0_1 v bs)), 0) (fun j hj => by
    rcases (show j = 0 ∨ j = 1 by omega) with r | r <;> subst r <;> rfl) rfl
  rw [← h3] at hr
  obtain ⟨r1, r2⟩ := hr
  dsimp only at r1 r2
  generalize L_X8_play_0 v ms sl bs n' s_ (5 ^ 2) = S at h1 h2 r1 r2 ⊢
  have hc : ∀ a, a < 5 → vpl 2 (Vf_1 sun dry len need g) (2 - 1) a = mx5 1 (fun b => rm (nx sun dry len need) (ld need) 0 (nx sun dry len need (cg g) (nI a) (nI b))) 5 := vp_ch (nx sun dry len need) (ld need) 0 (Vf_1 sun dry len need g) (cg g) (fun k _ => rfl)
  refine ⟨r1.trans ?_, r2.trans (am5_cong 5 hc), h1, h2⟩
  rw [rm]
  exact mx5_cong 5 hc
theorem rn_2 (N : gT → Int32 → Int32 → gT) (k : Nat) (hk : k < 5 ^ 4) (c : gT) : rnP N 2 k c = (N (N c (nI (dg 4 k 0)) (nI (dg 4 k 1))) (nI (dg 4 k 2)) (nI (dg 4 k 3))) := by
  have hk : k < 625 := hk
  have d0 : dg 4 k 0 = (k) / 5 ^ (2 * 1) / 5 := by
    show (k / 125) % 5 = (k) / 25 / 5
    omega
  have d1 : dg 4 k 1 = (k) / 5 ^ (2 * 1) % 5 := by
    show (k / 25) % 5 = (k) / 25 % 5
    omega
  have d2 : dg 4 k 2 = (k % 5 ^ (2 * 1)) / 5 ^ (2 * 0) / 5 := by
    show (k / 5) % 5 = (k % 25) / 1 / 5
    omega
  have d3 : dg 4 k 3 = (k % 5 ^ (2 * 1)) / 5 ^ (2 * 0) % 5 := by
    show (k / 1) % 5 = (k % 25) / 1 % 5
    omega
  rw [d0, d1, d2, d3]
  rfl
def Vf_2 (sun dry : gT) (len need : Int32) (g : gT) (k : Nat) : Int32 := ld need (rnP (nx sun dry len need) 2 k (cg g))
set_option maxHeartbeats 8000000 in
set_option maxRecDepth 20000 in
theorem pL_2 {Bd : Int} (v ms sl bs g sun dry : gT) (len need n' s_ : Int32) (hs : es v ms sun dry len need) (he : en 0 sl g need) (hg : gd Bd g need) (hB : Bd < 1000000) :
    ∀ k : Nat, k ≤ 5 ^ 4 → (∀ j, j < 13 → (L_X8_play_5 v ms sl bs n' s_ k).1 j = v j) ∧ (∀ j, j < 143 → (L_X8_play_5 v ms sl bs n' s_ k).2.1 j = sl j) ∧ ((L_X8_play_5 v ms sl bs n' s_ k).2.2, (L_X8_play_5 v ms sl bs n' s_ k).1 13) = itr (stpF 4 (Vf_2 sun dry len need g)) k 0 ((o_X8_forgets_3_1 v (o_X8_forgets_2_1 v (o_X8_forgets_1_1 v (o_X8_forgets_0_1 v bs)))), 0) := by
  intro k
  induction k with
  | zero =>
    intro _
    refine ⟨fun j hj => ?_, fun j hj => rfl, rfl⟩
    rcases (show j = 0 ∨ j = 1 ∨ j = 2 ∨ j = 3 ∨ j = 4 ∨ j = 5 ∨ j = 6 ∨ j = 7 ∨ j = 8 ∨ j = 9 ∨ j = 10 ∨ j = 11 ∨ j = 12 by omega) with r | r | r | r | r | r | r | r | r | r | r | r | r <;> subst r <;> rfl
  | succ k ih =>
    intro hk
    obtain ⟨i1, i2, i3⟩ := ih (by omega)
    have hk5 : k < 5 ^ 4 := hk
    have hkp : k < 2 ^ 31 := Nat.lt_trans hk5 (by decide)
    rw [L_X8_play_5, itr_app _ k 1 0, Nat.zero_add]
    generalize L_X8_play_5 v ms sl bs n' s_ k = S at i1 i2 i3 ⊢
    have hes : es S.1 ms sun dry len need := hs.to (i1 0 (by decide)) (i1 1 (by decide)) (i1 2 (by decide))
    have c0 : en 143 (cp13 S.2.1 0 143) (cg g) need := cg_en (he.low (sl' := S.2.1) (by omega) i2).cp
    obtain ⟨t0, q0, r0, -⟩ := to_143 S.1 ms (cp13 S.2.1 0 143) (cg g) sun dry len need (nI (dg 4 k 0)) (nI (dg 4 k 1)) hes c0 (cg_gd hg) (by omega)
    obtain ⟨t1, q1, r1, -⟩ := to_143 S.1 ms (o_X8_told_143_2 S.1 ms (cp13 S.2.1 0 143) (nI (dg 4 k 0)) (nI (dg 4 k 1))) (nx sun dry len need (cg g) (nI (dg 4 k 0)) (nI (dg 4 k 1))) sun dry len need (nI (dg 4 k 2)) (nI (dg 4 k 3)) hes (cg_en t0) (cg_gd q0) (by omega)
    have hV : (((((o_X8_told_143_2 S.1 ms (o_X8_told_143_2 S.1 ms (cp13 S.2.1 0 143) (o_X8_doneIn_r (nI k) 4 0 4 0) (o_X8_doneIn_r (nI k) 4 1 4 1)) (o_X8_doneIn_r (nI k) 4 2 4 2) (o_X8_doneIn_r (nI k) 4 3 4 3)) 145) - ((o_X8_told_143_2 S.1 ms (o_X8_told_143_2 S.1 ms (cp13 S.2.1 0 143) (o_X8_doneIn_r (nI k) 4 0 4 0) (o_X8_doneIn_r (nI k) 4 1 4 1)) (o_X8_doneIn_r (nI k) 4 2 4 2) (o_X8_doneIn_r (nI k) 4 3 4 3)) 146)) + (j_X8_play_6_0 v ms sl bs 2 s_ k S.1 S.2.1 S.2.2)) + (j_X8_play_7_0 v ms sl bs 2 s_ k S.1 S.2.1 S.2.2)) = Vf_2 sun dry len need g k := by
      unfold j_X8_play_6_0 j_X8_play_7_0 Vf_2
      rw [rn_2 _ k hk5]
      simp only [di_eq k hkp]
      exact val_ld (cg_en t1) ((b4.z.or r0).or r1)
    obtain ⟨u1, u2⟩ := ps_2 v ms sl bs S.1 S.2.1 S.2.2 s_ k hkp (Vf_2 sun dry len need g k) hV
    rw [i3] at u1 u2
    refine ⟨fun j hj => ?_, fun j hj => ?_, ?_⟩
    · rw [← i1 j hj]
      rcases (show j = 0 ∨ j = 1 ∨ j = 2 ∨ j = 3 ∨ j = 4 ∨ j = 5 ∨ j = 6 ∨ j = 7 ∨ j = 8 ∨ j = 9 ∨ j = 10 ∨ j = 11 ∨ j = 12 by omega) with r | r | r | r | r | r | r | r | r | r | r | r | r <;> subst r <;> rfl
    · dsimp only
      rw [low_told_143 _ _ _ _ _ hj, low_told_143 _ _ _ _ _ hj, low_cp _ hj]
      exact i2 j hj
    · exact up_pair u1 u2
theorem pr_2 {Bd : Int} (v ms sl bs g sun dry : gT) (len need n' s_ : Int32) (hs : es v ms sun dry len need) (he : en 0 sl g need) (hg : gd Bd g need) (hB : Bd < 1000000) :
    (L_X8_play_5 v ms sl bs n' s_ (5 ^ 4)).2.2 0 = rm (nx sun dry len need) (ld need) 2 (cg g) ∧ (L_X8_play_5 v ms sl bs n' s_ (5 ^ 4)).1 13 = am5 (fun a => mx5 1 (fun b => rm (nx sun dry len need) (ld need) 1 (nx sun dry len need (cg g) (nI a) (nI b))) 5) 5 ∧ (∀ j, j < 13 → (L_X8_play_5 v ms sl bs n' s_ (5 ^ 4)).1 j = v j) ∧ (∀ j, j < 143 → (L_X8_play_5 v ms sl bs n' s_ (5 ^ 4)).2.1 j = sl j) := by
  obtain ⟨h1, h2, h3⟩ := pL_2 v ms sl bs g sun dry len need n' s_ hs he hg hB (5 ^ 4) (Nat.le_refl _)
  have hr := root 4 (Vf_2 sun dry len need g) (by decide) ((o_X8_forgets_3_1 v (o_X8_forgets_2_1 v (o_X8_forgets_1_1 v (o_X8_forgets_0_1 v bs)))), 0) (fun j hj => by
    rcases (show j = 0 ∨ j = 1 ∨ j = 2 ∨ j = 3 by omega) with r | r | r | r <;> subst r <;> rfl) rfl
  rw [← h3] at hr
  obtain ⟨r1, r2⟩ := hr
  dsimp only at r1 r2
  generalize L_X8_play_5 v ms sl bs n' s_ (5 ^ 4) = S at h1 h2 r1 r2 ⊢
  have hc : ∀ a, a < 5 → vpl 4 (Vf_2 sun dry len need g) (4 - 1) a = mx5 1 (fun b => rm (nx sun dry len need) (ld need) 1 (nx sun dry len need (cg g) (nI a) (nI b))) 5 := vp_ch (nx sun dry len need) (ld need) 1 (Vf_2 sun dry len need g) (cg g) (fun k _ => rfl)
  refine ⟨r1.trans ?_, r2.trans (am5_cong 5 hc), h1, h2⟩
  rw [rm]
  exact mx5_cong 5 hc
theorem rn_3 (N : gT → Int32 → Int32 → gT) (k : Nat) (hk : k < 5 ^ 6) (c : gT) : rnP N 3 k c = (N (N (N c (nI (dg 6 k 0)) (nI (dg 6 k 1))) (nI (dg 6 k 2)) (nI (dg 6 k 3))) (nI (dg 6 k 4)) (nI (dg 6 k 5))) := by
  have hk : k < 15625 := hk
  have d0 : dg 6 k 0 = (k) / 5 ^ (2 * 2) / 5 := by
    show (k / 3125) % 5 = (k) / 625 / 5
    omega
  have d1 : dg 6 k 1 = (k) / 5 ^ (2 * 2) % 5 := by
    show (k / 625) % 5 = (k) / 625 % 5
    omega
  have d2 : dg 6 k 2 = (k % 5 ^ (2 * 2)) / 5 ^ (2 * 1) / 5 := by
    show (k / 125) % 5 = (k % 625) / 25 / 5
    omega
  have d3 : dg 6 k 3 = (k % 5 ^ (2 * 2)) / 5 ^ (2 * 1) % 5 := by
    show (k / 25) % 5 = (k % 625) / 25 % 5
    omega
  have d4 : dg 6 k 4 = (k % 5 ^ (2 * 2) % 5 ^ (2 * 1)) / 5 ^ (2 * 0) / 5 := by
    show (k / 5) % 5 = (k % 625 % 25) / 1 / 5
    omega
  have d5 : dg 6 k 5 = (k % 5 ^ (2 * 2) % 5 ^ (2 * 1)) / 5 ^ (2 * 0) % 5 := by
    show (k / 1) % 5 = (k % 625 % 25) / 1 % 5
    omega
  rw [d0, d1, d2, d3, d4, d5]
  rfl
def Vf_3 (sun dry : gT) (len need : Int32) (g : gT) (k : Nat) : Int32 := ld need (rnP (nx sun dry len need) 3 k (cg g))
set_option maxHeartbeats 8000000 in
set_option maxRecDepth 20000 in
theorem pL_3 {Bd : Int} (v ms sl bs g sun dry : gT) (len need n' s_ : Int32) (hs : es v ms sun dry len need) (he : en 0 sl g need) (hg : gd Bd g need) (hB : Bd < 1000000) :
    ∀ k : Nat, k ≤ 5 ^ 6 → (∀ j, j < 13 → (L_X8_play_10 v ms sl bs n' s_ k).1 j = v j) ∧ (∀ j, j < 143 → (L_X8_play_10 v ms sl bs n' s_ k).2.1 j = sl j) ∧ ((L_X8_play_10 v ms sl bs n' s_ k).2.2, (L_X8_play_10 v ms sl bs n' s_ k).1 13) = itr (stpF 6 (Vf_3 sun dry len need g)) k 0 ((o_X8_forgets_5_1 v (o_X8_forgets_4_1 v (o_X8_forgets_3_1 v (o_X8_forgets_2_1 v (o_X8_forgets_1_1 v (o_X8_forgets_0_1 v bs)))))), 0) := by
  intro k
  induction k with
  | zero =>
    intro _
    refine ⟨fun j hj => ?_, fun j hj => rfl, rfl⟩
    rcases (show j = 0 ∨ j = 1 ∨ j = 2 ∨ j = 3 ∨ j = 4 ∨ j = 5 ∨ j = 6 ∨ j = 7 ∨ j = 8 ∨ j = 9 ∨ j = 10 ∨ j = 11 ∨ j = 12 by omega) with r | r | r | r | r | r | r | r | r | r | r | r | r <;> subst r <;> rfl
  | succ k ih =>
    intro hk
    obtain ⟨i1, i2, i3⟩ := ih (by omega)
    have hk5 : k < 5 ^ 6 := hk
    have hkp : k < 2 ^ 31 := Nat.lt_trans hk5 (by decide)
    rw [L_X8_play_10, itr_app _ k 1 0, Nat.zero_add]
    generalize L_X8_play_10 v ms sl bs n' s_ k = S at i1 i2 i3 ⊢
    have hes : es S.1 ms sun dry len need := hs.to (i1 0 (by decide)) (i1 1 (by decide)) (i1 2 (by decide))
    have c0 : en 143 (cp13 S.2.1 0 143) (cg g) need := cg_en (he.low (sl' := S.2.1) (by omega) i2).cp
    obtain ⟨t0, q0, r0, -⟩ := to_143 S.1 ms (cp13 S.2.1 0 143) (cg g) sun dry len need (nI (dg 6 k 0)) (nI (dg 6 k 1)) hes c0 (cg_gd hg) (by omega)
    obtain ⟨t1, q1, r1, -⟩ := to_143 S.1 ms (o_X8_told_143_2 S.1 ms (cp13 S.2.1 0 143) (nI (dg 6 k 0)) (nI (dg 6 k 1))) (nx sun dry len need (cg g) (nI (dg 6 k 0)) (nI (dg 6 k 1))) sun dry len need (nI (dg 6 k 2)) (nI (dg 6 k 3)) hes (cg_en t0) (cg_gd q0) (by omega)
    obtain ⟨t2, q2, r2, -⟩ := to_143 S.1 ms (o_X8_told_143_2 S.1 ms (o_X8_told_143_2 S.1 ms (cp13 S.2.1 0 143) (nI (dg 6 k 0)) (nI (dg 6 k 1))) (nI (dg 6 k 2)) (nI (dg 6 k 3))) (nx sun dry len need (nx sun dry len need (cg g) (nI (dg 6 k 0)) (nI (dg 6 k 1))) (nI (dg 6 k 2)) (nI (dg 6 k 3))) sun dry len need (nI (dg 6 k 4)) (nI (dg 6 k 5)) hes (cg_en t1) (cg_gd q1) (by omega)
    have hV : (((((o_X8_told_143_2 S.1 ms (o_X8_told_143_2 S.1 ms (o_X8_told_143_2 S.1 ms (cp13 S.2.1 0 143) (o_X8_doneIn_r (nI k) 6 0 6 0) (o_X8_doneIn_r (nI k) 6 1 6 1)) (o_X8_doneIn_r (nI k) 6 2 6 2) (o_X8_doneIn_r (nI k) 6 3 6 3)) (o_X8_doneIn_r (nI k) 6 4 6 4) (o_X8_doneIn_r (nI k) 6 5 6 5)) 145) - ((o_X8_told_143_2 S.1 ms (o_X8_told_143_2 S.1 ms (o_X8_told_143_2 S.1 ms (cp13 S.2.1 0 143) (o_X8_doneIn_r (nI k) 6 0 6 0) (o_X8_doneIn_r (nI k) 6 1 6 1)) (o_X8_doneIn_r (nI k) 6 2 6 2) (o_X8_doneIn_r (nI k) 6 3 6 3)) (o_X8_doneIn_r (nI k) 6 4 6 4) (o_X8_doneIn_r (nI k) 6 5 6 5)) 146)) + (j_X8_play_11_0 v ms sl bs 3 s_ k S.1 S.2.1 S.2.2)) + (j_X8_play_12_0 v ms sl bs 3 s_ k S.1 S.2.1 S.2.2)) = Vf_3 sun dry len need g k := by
      unfold j_X8_play_11_0 j_X8_play_12_0 Vf_3
      rw [rn_3 _ k hk5]
      simp only [di_eq k hkp]
      exact val_ld (cg_en t2) (((b4.z.or r0).or r1).or r2)
    obtain ⟨u1, u2⟩ := ps_3 v ms sl bs S.1 S.2.1 S.2.2 s_ k hkp (Vf_3 sun dry len need g k) hV
    rw [i3] at u1 u2
    refine ⟨fun j hj => ?_, fun j hj => ?_, ?_⟩
    · rw [← i1 j hj]
      rcases (show j = 0 ∨ j = 1 ∨ j = 2 ∨ j = 3 ∨ j = 4 ∨ j = 5 ∨ j = 6 ∨ j = 7 ∨ j = 8 ∨ j = 9 ∨ j = 10 ∨ j = 11 ∨ j = 12 by omega) with r | r | r | r | r | r | r | r | r | r | r | r | r <;> subst r <;> rfl
    · dsimp only
      rw [low_told_143 _ _ _ _ _ hj, low_told_143 _ _ _ _ _ hj, low_told_143 _ _ _ _ _ hj, low_cp _ hj]
      exact i2 j hj
    · exact up_pair u1 u2
theorem pr_3 {Bd : Int} (v ms sl bs g sun dry : gT) (len need n' s_ : Int32) (hs : es v ms sun dry len need) (he : en 0 sl g need) (hg : gd Bd g need) (hB : Bd < 1000000) :
    (L_X8_play_10 v ms sl bs n' s_ (5 ^ 6)).2.2 0 = rm (nx sun dry len need) (ld need) 3 (cg g) ∧ (L_X8_play_10 v ms sl bs n' s_ (5 ^ 6)).1 13 = am5 (fun a => mx5 1 (fun b => rm (nx sun dry len need) (ld need) 2 (nx sun dry len need (cg g) (nI a) (nI b))) 5) 5 ∧ (∀ j, j < 13 → (L_X8_play_10 v ms sl bs n' s_ (5 ^ 6)).1 j = v j) ∧ (∀ j, j < 143 → (L_X8_play_10 v ms sl bs n' s_ (5 ^ 6)).2.1 j = sl j) := by
  obtain ⟨h1, h2, h3⟩ := pL_3 v ms sl bs g sun dry len need n' s_ hs he hg hB (5 ^ 6) (Nat.le_refl _)
  have hr := root 6 (Vf_3 sun dry len need g) (by decide) ((o_X8_forgets_5_1 v (o_X8_forgets_4_1 v (o_X8_forgets_3_1 v (o_X8_forgets_2_1 v (o_X8_forgets_1_1 v (o_X8_forgets_0_1 v bs)))))), 0) (fun j hj => by
    rcases (show j = 0 ∨ j = 1 ∨ j = 2 ∨ j = 3 ∨ j = 4 ∨ j = 5 by omega) with r | r | r | r | r | r <;> subst r <;> rfl) rfl
  rw [← h3] at hr
  obtain ⟨r1, r2⟩ := hr
  dsimp only at r1 r2
  generalize L_X8_play_10 v ms sl bs n' s_ (5 ^ 6) = S at h1 h2 r1 r2 ⊢
  have hc : ∀ a, a < 5 → vpl 6 (Vf_3 sun dry len need g) (6 - 1) a = mx5 1 (fun b => rm (nx sun dry len need) (ld need) 2 (nx sun dry len need (cg g) (nI a) (nI b))) 5 := vp_ch (nx sun dry len need) (ld need) 2 (Vf_3 sun dry len need g) (cg g) (fun k _ => rfl)
  refine ⟨r1.trans ?_, r2.trans (am5_cong 5 hc), h1, h2⟩
  rw [rm]
  exact mx5_cong 5 hc
