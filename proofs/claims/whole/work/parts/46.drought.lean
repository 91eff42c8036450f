theorem gc_half {b r : Nat} (h0 : 0 < r) (hr : r ≤ b) : 2 * (b % r) < b := by
  have h1 := Nat.mod_lt b h0
  have h2 : b % r ≤ b - r := by
    rw [Nat.mod_eq_sub_mod hr]
    exact Nat.mod_le _ _
  omega
theorem gc_x (a_ b_ : Int32) : ∀ (j n k a b : Nat), b < 2 ^ j → 2 * j + 1 ≤ n → a < 2 ^ 31 → b < 2 ^ 31 → (X_X7_commonDivisor_0 a_ b_ n k (nI a) (nI b)).1 = nI (Nat.gcd a b) := by
  intro j
  induction j with
  | zero =>
    intro n k a b hb hn ha _
    obtain rfl : b = 0 := by simpa using hb
    obtain ⟨m, rfl⟩ : ∃ m, n = m + 1 := ⟨n - 1, by omega⟩
    rw [X_X7_commonDivisor_0, if_pos (show nI 0 ≤ 0 by decide), Nat.gcd_zero_right]
  | succ j ih =>
    intro n k a b hb hn ha hb2
    obtain ⟨m, rfl⟩ : ∃ m, n = m + 2 := ⟨n - 2, by omega⟩
    rw [X_X7_commonDivisor_0]
    by_cases c : b = 0
    · subst c; rw [if_pos (show nI 0 ≤ 0 by decide), Nat.gcd_zero_right]
    · rw [if_neg (nI_nle (by omega) hb2), pk_rem ha (by omega) hb2]
      rw [X_X7_commonDivisor_0]
      have hr : a % b < b := Nat.mod_lt _ (by omega)
      by_cases d : a % b = 0
      · rw [d, if_pos (show nI 0 ≤ 0 by decide), Nat.gcd_comm a b, Nat.gcd_rec b a, d, Nat.gcd_zero_left]
      · rw [if_neg (nI_nle (by omega) (by omega)), pk_rem hb2 (by omega) (by omega)]
        have hh := gc_half (b := b) (r := a % b) (by omega) (by omega)
        rw [ih m (k + 1 + 1) (a % b) (b % (a % b)) (by rw [Nat.pow_succ] at hb; omega) (by omega) (by omega) (by omega)]
        rw [Nat.gcd_comm a b, Nat.gcd_rec b a, Nat.gcd_rec (a % b) b, Nat.gcd_comm]
theorem gc_f (v ms sl : Nat → Int32) (p n dd s_ : Int32) : ∀ (m b a : Nat), b ≤ m → a < 2 ^ 31 → b < 2 ^ 31 → F_X8_drought v ms sl p n dd s_ (m + 1) (nI b) (nI a) = some ((if s_ = 0 then (L_X8_drought_0 v ms sl p n dd s_ (2 ^ n.toNatClampNeg)).2.1 else (L_X8_drought_0 v ms sl p n dd s_ (2 ^ n.toNatClampNeg)).1) / nI (Nat.gcd a b), (L_X8_drought_0 v ms sl p n dd s_ (2 ^ n.toNatClampNeg)).2.2) := by
  intro m
  induction m with
  | zero =>
    intro b a hb ha _
    obtain rfl : b = 0 := by omega
    rw [F_X8_drought, if_pos nI_0, Nat.gcd_zero_right]
    split <;> rfl
  | succ m ih =>
    intro b a hb ha hb2
    by_cases c : b = 0
    · subst c
      rw [F_X8_drought, if_pos nI_0, Nat.gcd_zero_right]
      split <;> rfl
    · have hr : a % b < b := Nat.mod_lt _ (by omega)
      rw [F_X8_drought, if_neg (nI_ne0 (by omega) hb2), pk_rem ha (by omega) hb2, ih (a % b) b (by omega) hb2 (by omega), Nat.gcd_comm a b, Nat.gcd_rec b a, Nat.gcd_comm]
theorem cw_w (g tg sun dry : Nat → Int32) (len need n x : Int32) (c kn : Nat) : ∀ k, (L_X7_playDrought_0 g tg sun dry len need (nI c) n x kn k).1 = drw x c k := by
  intro k
  induction k with
  | zero => rfl
  | succ k ih =>
    rw [L_X7_playDrought_0, drw, ← ih]
    dsimp only
    unfold j_X7_playDrought_2_0 j_X7_playDrought_1_0
    by_cases q : ((nI c >>> (nI k &&& 31)) &&& 1) = 1
    · rw [if_pos q, if_pos q]; rfl
    · rw [if_neg q, if_neg q]; rfl
set_option maxHeartbeats 2000000 in
theorem pl_143 {Bd : Int} (v ms sl g tg sun dry : Nat → Int32) (len need p n dd s_ n' : Int32) (c kn : Nat) (x y : Int32) (z : Nat → Int32) (hs : es v ms sun dry len need) (he : en 0 z g need) (hg : gd Bd g need) :
    ∀ k : Nat, Bd + (k : Int) < 2000000000 → en 143 (L_X8_drought_1 v ms sl p n dd s_ c x y z k).2.2 (L_X7_playDrought_0 g tg sun dry len need (nI c) n' dd kn k).2 need ∧ gd (Bd + k) (L_X7_playDrought_0 g tg sun dry len need (nI c) n' dd kn k).2 need ∧ b4 (L_X8_drought_1 v ms sl p n dd s_ c x y z k).1 := by
  intro k
  induction k with
  | zero => intro _; exact ⟨he.cp.g (cg_eq2 g tg), (hg.g (cg_eq2 g tg)).le (by omega), b4.z⟩
  | succ k ih =>
    intro hk
    obtain ⟨i1, i2, i3⟩ := ih (by omega)
    rw [L_X8_drought_1, L_X7_playDrought_0]
    dsimp only
    unfold j_X8_drought_2_0 j_X7_playDrought_1_0
    obtain ⟨t1, t2, t3, -⟩ := go_143 v ms _ _ sun dry len need 0 0 (if ((nI c >>> (nI k &&& 31)) &&& 1) = 1 then 1 else 0) hs i1 i2 (by omega)
    exact ⟨t1, t2.le (by omega), i3.or t3⟩
set_option maxHeartbeats 2000000 in
theorem up_eq {Bd : Int} (v ms sl g tg sun dry : Nat → Int32) (len need p n dd s_ : Int32) (hs : es v ms sun dry len need) (he : en 0 sl g need) (hg : gd Bd g need) (hB : Bd + (n.toNatClampNeg : Int) < 2000000000) :
    ∀ k : Nat, (L_X7_drought_1 g tg sun dry len need p n dd s_ k).1 = (L_X8_drought_0 v ms sl p n dd s_ k).2.1 := by
  intro k
  induction k with
  | zero => rfl
  | succ k ih =>
    rw [L_X7_drought_1, L_X8_drought_0]
    dsimp only
    unfold j_X7_drought_2_0 j_X8_drought_4_0 o_X7_playDrought_tg o_X7_playDrought_r
    have hz : en 0 (L_X8_drought_0 v ms sl p n dd s_ k).2.2 g need := he.low (by omega) (fun j hj => dr_low0 v ms sl p n dd s_ hj k)
    obtain ⟨t1, t2, t3⟩ := pl_143 v ms sl g (L_X7_drought_1 g tg sun dry len need p n dd s_ k).2 sun dry len need p n dd s_ n k n.toNatClampNeg (L_X8_drought_0 v ms sl p n dd s_ k).1 (L_X8_drought_0 v ms sl p n dd s_ k).2.1 (L_X8_drought_0 v ms sl p n dd s_ k).2.2 hs hz hg n.toNatClampNeg hB
    have e155 : (L_X8_drought_1 v ms sl p n dd s_ k (L_X8_drought_0 v ms sl p n dd s_ k).1 (L_X8_drought_0 v ms sl p n dd s_ k).2.1 (L_X8_drought_0 v ms sl p n dd s_ k).2.2 n.toNatClampNeg).2.2 155 = lz _ need := t1.2.2.2.2.2.2.2.2.2.2.2.2
    rw [if_neg t3.nn, dr_w, cw_w, e_lz, e155, ih]
    split
    · rfl
    · rw [Int32.add_zero]
theorem drw_b : ∀ n : Fin 7, ∀ q : Fin 11, ∀ c : Fin 64, drw (nI q.val) c.val n.val = nI (drw (nI q.val) c.val n.val).toNatClampNeg ∧ (drw (nI q.val) c.val n.val).toNatClampNeg ≤ 1000000 := by decide +kernel
theorem drs_10 : ∀ n : Fin 7, ∀ q : Fin 11, drs (nI q.val) n.val (2 ^ n.val) = nI (10 ^ n.val) := by decide +kernel
theorem l10 (g tg sun dry : Nat → Int32) (len need p n x pa : Int32) : ∀ k, L_X7_drought_0 g tg sun dry len need p n x pa k = nI (10 ^ k) := by
  intro k
  induction k with
  | zero => rfl
  | succ k ih => rw [L_X7_drought_0, ih, show (10 : Int32) = nI 10 from rfl, pk_mul, Nat.pow_succ]
theorem up_nat (v ms sl : Nat → Int32) (p n s_ : Int32) (q : Fin 11) (hn : n.toNatClampNeg < 7) : ∀ k : Nat, k ≤ 64 → ∃ A : Nat, A ≤ k * 1000000 ∧ (L_X8_drought_0 v ms sl p n (nI q.val) s_ k).2.1 = nI A := by
  intro k
  induction k with
  | zero => intro _; exact ⟨0, by omega, rfl⟩
  | succ k ih =>
    intro hk
    obtain ⟨A, hA, e⟩ := ih (by omega)
    have hA2 : A ≤ (k + 1) * 1000000 := Nat.le_trans hA (Nat.mul_le_mul_right _ (Nat.le_succ k))
    rw [L_X8_drought_0]
    dsimp only
    unfold j_X8_drought_4_0
    rw [e, dr_w]
    obtain ⟨d1, d2⟩ := drw_b ⟨n.toNatClampNeg, hn⟩ q ⟨k, by omega⟩
    dsimp only at d1 d2
    by_cases c1 : (L_X8_drought_1 v ms sl p n (nI q.val) s_ k (L_X8_drought_0 v ms sl p n (nI q.val) s_ k).1 (L_X8_drought_0 v ms sl p n (nI q.val) s_ k).2.1 (L_X8_drought_0 v ms sl p n (nI q.val) s_ k).2.2 n.toNatClampNeg).1 < 0
    · rw [← e, if_pos c1, Int32.add_zero, e]
      exact ⟨A, hA2, rfl⟩
    · rw [← e, if_neg c1]
      by_cases c2 : (L_X8_drought_1 v ms sl p n (nI q.val) s_ k (L_X8_drought_0 v ms sl p n (nI q.val) s_ k).1 (L_X8_drought_0 v ms sl p n (nI q.val) s_ k).2.1 (L_X8_drought_0 v ms sl p n (nI q.val) s_ k).2.2 n.toNatClampNeg).2.2 155 = p
      · rw [if_pos c2, e]
        refine ⟨A + (drw (nI q.val) k n.toNatClampNeg).toNatClampNeg, by rw [Nat.succ_mul]; exact Nat.add_le_add hA d2, ?_⟩
        rw [← nI_add, ← d1]
      · rw [if_neg c2, Int32.add_zero, e]
        exact ⟨A, hA2, rfl⟩

set_option maxHeartbeats 2000000 in
theorem q_drought {Bd : Int} {lt g sun dry pf kf fs ft fh v ms sl tx f1 f2 f3 : Nat → Int32} {sz len need psz ksz : Int32} {zk na nk nl : Nat} (tg : Nat → Int32) (p n dd s_ : Int32) (hI : Inv Bd lt sz g sun dry len need pf psz kf ksz fs ft fh zk v ms sl tx f1 f2 f3 na nk nl) (hB : Bd < 1000000) : ∃ (fuel : Nat) (rr : Int32) (r0 : Nat → Int32), O_X8_drought v ms sl p n dd s_ fuel = some (rr, r0) ∧ o_X7_drought_r g tg sun dry len need p n dd s_ = rr ∧ Inv (Bd + 24) lt sz g sun dry len need pf psz kf ksz fs ft fh zk v ms r0 tx f1 f2 f3 na nk nl := by
  have hI' := hI
  obtain ⟨hs, he, hg, hp, p1, p2, p3, hk, k1, k2, k3, t1, t2, t3, t4, z1, z2, z3⟩ := hI'
  unfold o_X7_drought_r O_X8_drought
  rw [w_one, w_06, w_10, w_01]
  by_cases c0 : o_X7_isSide_r p = 0
  · simp only [if_pos c0]; exact ⟨0, _, _, rfl, rfl, hI.le (by omega)⟩
  by_cases c1 : o_X7_within_r n 0 6 = 0
  · simp only [if_neg c0, if_pos c1]; exact ⟨0, _, _, rfl, rfl, hI.le (by omega)⟩
  by_cases c2 : o_X7_within_r dd 0 10 = 0
  · simp only [if_neg c0, if_neg c1, if_pos c2]; exact ⟨0, _, _, rfl, rfl, hI.le (by omega)⟩
  by_cases c3 : o_X7_within_r s_ 0 1 = 0
  · simp only [if_neg c0, if_neg c1, if_neg c2, if_pos c3]; exact ⟨0, _, _, rfl, rfl, hI.le (by omega)⟩
  simp only [if_neg c0, if_neg c1, if_neg c2, if_neg c3]
  have hn : n.toNatClampNeg ≤ 6 := z_in3 (a := 0) (b := 6) (by decide) rfl (by rw [w_06]; exact c1)
  obtain ⟨q, hq, rfl⟩ := w_nat (n := 10) (by decide) (by decide) c2
  have eall : (L_X8_drought_0 v ms sl p n (nI q) s_ (2 ^ n.toNatClampNeg)).1 = nI (10 ^ n.toNatClampNeg) := by
    rw [dr_s]
    exact drs_10 ⟨n.toNatClampNeg, by omega⟩ ⟨q, by omega⟩
  have hp2 : 2 ^ n.toNatClampNeg ≤ 64 := Nat.le_trans (Nat.pow_le_pow_right (by decide) hn) (show 2 ^ 6 ≤ 64 by decide)
  have hp10 : 10 ^ n.toNatClampNeg ≤ 1000000 := Nat.le_trans (Nat.pow_le_pow_right (by decide) hn) (show 10 ^ 6 ≤ 1000000 by decide)
  have hp10b : 0 < 10 ^ n.toNatClampNeg := Nat.pow_pos (by decide)
  obtain ⟨U, hU, eU⟩ := up_nat v ms sl p n s_ ⟨q, by omega⟩ (by omega) (2 ^ n.toNatClampNeg) hp2
  dsimp only at eU
  have hU2 : U ≤ 64000000 := by omega
  have eup := up_eq v ms sl g tg sun dry len need p n (nI q) s_ hs he hg (by omega) (2 ^ n.toNatClampNeg)
  have ecd : o_X7_commonDivisor_r (nI U) (nI (10 ^ n.toNatClampNeg)) = nI (Nat.gcd U (10 ^ n.toNatClampNeg)) := gc_x _ _ 20 100 0 U (10 ^ n.toNatClampNeg) (by omega) (by decide) (by omega) (by omega)
  have hgp : 0 < Nat.gcd U (10 ^ n.toNatClampNeg) := Nat.gcd_pos_of_pos_right _ hp10b
  have hgl : Nat.gcd U (10 ^ n.toNatClampNeg) ≤ 10 ^ n.toNatClampNeg := Nat.gcd_le_right _ hp10b
  refine ⟨10 ^ n.toNatClampNeg + 1, (if s_ = 0 then nI U else nI (10 ^ n.toNatClampNeg)) / nI (Nat.gcd U (10 ^ n.toNatClampNeg)), (L_X8_drought_0 v ms sl p n (nI q) s_ (2 ^ n.toNatClampNeg)).2.2, ?_, ?_, (hI.le (by omega)).tried (fun j hj => dr_low0 v ms sl p n (nI q) s_ hj (2 ^ n.toNatClampNeg)) rfl rfl rfl rfl rfl rfl rfl⟩
  · have h := gc_f v ms sl p n (nI q) s_ (10 ^ n.toNatClampNeg) (10 ^ n.toNatClampNeg) U (Nat.le_refl _) (by omega) (by omega)
    rw [eall, eU] at h ⊢
    exact h
  · unfold j_X7_drought_3_0
    rw [eup, eU, l10, ecd, if_neg (nI_ne0 hgp (by omega))]
