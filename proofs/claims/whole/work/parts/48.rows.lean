theorem di_L (code : Nat) (hc : code < 2 ^ 31) (n k : Int32) (nn kk : Nat) : ∀ j, L_X8_doneIn_0 (nI code) n k nn kk j = nI (code / 5 ^ j) := by
  intro j
  induction j with
  | zero => rw [Nat.pow_zero, Nat.div_one]; rfl
  | succ j ih =>
    have h1 : code / 5 ^ j ≤ code := Nat.div_le_self _ _
    rw [L_X8_doneIn_0, ih, show (5 : Int32) = nI 5 from rfl, pk_div (by omega) (by decide) (by decide), Nat.div_div_eq_div_mul, Nat.pow_succ]
theorem di_eq (code : Nat) (hc : code < 2 ^ 31) (n k : Int32) (nn kk : Nat) : o_X8_doneIn_r (nI code) n k nn kk = nI (dg nn code kk) := by
  have h1 : code / 5 ^ (nn - (kk + 1)) ≤ code := Nat.div_le_self _ _
  rw [o_X8_doneIn_r, di_L code hc, show (5 : Int32) = nI 5 from rfl, pk_rem (by omega) (by decide) (by decide)]
  rfl
theorem cg_en {b : Nat} {sl g : gT} {need : Int32} (h : en b sl g need) : en b sl (cg g) need := h.g (cg_eq g)
theorem cg_gd {B : Int} {g : gT} {need : Int32} (h : gd B g need) : gd B (cg g) need := h.g (cg_eq g)
set_option maxHeartbeats 2000000 in
theorem rw_143 {Bd : Int} (v ms sl g sun dry : gT) (len need p at_ n ot : Int32) (code nn : Nat) (hc : code < 2 ^ 31) (hot : ot = ans at_) (hs : es v ms sun dry len need) (he : en 0 sl g need) (hg : gd Bd g need) (hB : Bd + (nn : Int) < 2000000000) :
    ∀ k : Nat, k ≤ nn → ∃ G : gT, en 143 (L_X8_rows_0 v ms sl p (nI code) n ot nn k).2 G need ∧ gd (Bd + k) G need ∧ b4 (L_X8_rows_0 v ms sl p (nI code) n ot nn k).1 ∧ rnf (stp sun dry len need p at_) (nn - k) (code % 5 ^ (nn - k)) G = rnf (stp sun dry len need p at_) nn (code % 5 ^ nn) (cg g) := by
  subst hot
  intro k
  induction k with
  | zero => intro _; exact ⟨cg g, cg_en he.cp, (cg_gd hg).le (by omega), b4.z, rfl⟩
  | succ k ih =>
    intro hk
    obtain ⟨G, i1, i2, i3, i4⟩ := ih (by omega)
    have hd : (code % 5 ^ (nn - k)) / 5 ^ (nn - (k + 1)) = dg nn code k := by
      unfold dg
      rw [show nn - k = (nn - (k + 1)) + 1 by omega, Nat.pow_succ, Nat.mod_mul_right_div_self]
    have hm : (code % 5 ^ (nn - k)) % 5 ^ (nn - (k + 1)) = code % 5 ^ (nn - (k + 1)) := by
      apply Nat.mod_mod_of_dvd
      exact Nat.pow_dvd_pow 5 (by omega)
    refine ⟨stp sun dry len need p at_ G (dg nn code k), ?_⟩
    have hr : rnf (stp sun dry len need p at_) (nn - (k + 1)) (code % 5 ^ (nn - (k + 1))) (stp sun dry len need p at_ G (dg nn code k)) = rnf (stp sun dry len need p at_) nn (code % 5 ^ nn) (cg g) := by
      rw [← i4, show nn - k = (nn - (k + 1)) + 1 by omega, rnf, show (nn - (k + 1)) + 1 = nn - k by omega, hd, hm]
    rw [L_X8_rows_0]
    dsimp only
    unfold j_X8_rows_1_0 j_X8_rows_1_1
    rw [di_eq code hc]
    by_cases c : p = 0
    · rw [if_pos c, if_pos c]
      have hst : stp sun dry len need p at_ G (dg nn code k) = cg (o_X0_turn_g G sun dry len need (nI (dg nn code k)) (ans at_)) := by
        unfold stp nx
        rw [if_pos c, if_pos c]
      obtain ⟨t1, t2, t3, -⟩ := to_143 v ms _ G sun dry len need (nI (dg nn code k)) (ans at_) hs i1 i2 (by omega)
      rw [hst] at hr ⊢
      exact ⟨cg_en t1, (cg_gd t2).le (by omega), i3.or t3, hr⟩
    · rw [if_neg c, if_neg c]
      have hst : stp sun dry len need p at_ G (dg nn code k) = cg (o_X0_turn_g G sun dry len need (ans at_) (nI (dg nn code k))) := by
        unfold stp nx
        rw [if_neg c, if_neg c]
      obtain ⟨t1, t2, t3, -⟩ := to_143 v ms _ G sun dry len need (ans at_) (nI (dg nn code k)) hs i1 i2 (by omega)
      rw [hst] at hr ⊢
      exact ⟨cg_en t1, (cg_gd t2).le (by omega), i3.or t3, hr⟩
theorem rows_eq {Bd : Int} (v ms sl g sun dry : gT) (len need p at_ n ot : Int32) (code nn : Nat) (hnn : nn ≤ 5) (hc : code < 5 ^ nn) (hot : ot = ans at_) (hs : es v ms sun dry len need) (he : en 0 sl g need) (hg : gd Bd g need) (hB : Bd < 1000000) :
    o_X8_rows_r v ms sl p (nI code) n ot nn = lz (rnf (stp sun dry len need p at_) nn code (cg g)) need := by
  have h5 : 5 ^ nn ≤ 5 ^ 5 := Nat.pow_le_pow_right (by decide) hnn
  obtain ⟨G, t1, t2, t3, t4⟩ := rw_143 v ms sl g sun dry len need p at_ n ot code nn (by omega) hot hs he hg (by omega) nn (Nat.le_refl _)
  rw [Nat.sub_self, Nat.mod_eq_of_lt hc] at t4
  rw [o_X8_rows_r, if_pos (Int32.not_lt.mp t3.nn), ← t4]
  exact t1.2.2.2.2.2.2.2.2.2.2.2.2
abbrev okk (sun dry : gT) (len need p at_ : Int32) (nn : Nat) (g : gT) (k : Nat) : Option Nat := if okb need p at_ (rnf (stp sun dry len need p at_) nn k (cg g)) then some k else none
set_option maxHeartbeats 2000000 in
theorem ho_T {Bd : Int} (v ms sl g sun dry : gT) (len need p n k_ : Int32) (nn : Nat) (hnn : nn ≤ 5) (hn : n.toNatClampNeg = nn) (hs : es v ms sun dry len need) (he : en 0 sl g need) (hg : gd Bd g need) (hB : Bd < 1000000) :
    ∀ (j k : Nat) (u : gT), k + j ≤ 5 ^ nn → (∀ i, i < 143 → u i = sl i) → (T_X8_hold_0 v ms sl p n k_ j k u).1 = (match fst5 (okk sun dry len need p 0 nn g) j k with | some x => nI (dg nn x (k_ - 1).toNatClampNeg) | none => (-4)) ∧ ∀ i, i < 143 → (T_X8_hold_0 v ms sl p n k_ j k u).2 i = sl i := by
  have h5 : 5 ^ nn ≤ 5 ^ 5 := Nat.pow_le_pow_right (by decide) hnn
  intro j
  induction j with
  | zero => intro k u _ hu; exact ⟨rfl, hu⟩
  | succ j ih =>
    intro k u hk hu
    have hr := rows_eq v ms u g sun dry len need p 0 n 2 k nn hnn (by omega) rfl hs (he.low (by omega) hu) hg hB
    have hlo : ∀ i, i < 143 → o_X8_rows_2 v ms u p (nI k) n 2 nn i = sl i := fun i hi => (low_rows v ms u p (nI k) n 2 nn hi).trans (hu i hi)
    rw [T_X8_hold_0, fst5, hn, hr]
    by_cases c : lz (rnf (stp sun dry len need p 0) nn k (cg g)) need = p
    · have hk0 : okk sun dry len need p 0 nn g k = none := by
        unfold okk okb okv
        rw [if_pos rfl, if_pos c]; rfl
      rw [if_pos c, hk0]
      exact ih (k + 1) _ (by omega) hlo
    · have hk0 : okk sun dry len need p 0 nn g k = some k := by
        unfold okk okb okv
        rw [if_pos rfl, if_neg c]; rfl
      rw [if_neg c, hk0]
      exact ⟨di_eq k (by omega) _ _ _ _, hlo⟩
theorem w_k1 {k_ : Int32} {kk : Nat} (h : k_ = nI (kk + 1)) (h2 : kk < 10) : k_ - 1 = nI kk ∧ (k_ - 1).toNatClampNeg = kk := by
  rw [h, nI_pred]
  exact ⟨rfl, nI_clamp (by omega)⟩

set_option maxHeartbeats 2000000 in
theorem q_hold {Bd : Int} {lt g sun dry pf kf fs ft fh v ms sl tx f1 f2 f3 : Nat → Int32} {sz len need psz ksz : Int32} {zk na nk nl : Nat} (fl fr wk : Nat → Int32) (si mo at_ p n k_ : Int32) (hI : Inv Bd lt sz g sun dry len need pf psz kf ksz fs ft fh zk v ms sl tx f1 f2 f3 na nk nl) (hB : Bd < 1000000) : o_X7_hold_r g fl fr si mo at_ wk sun dry len need p n k_ = (O_X8_hold v ms sl p n k_).1 ∧ Inv (Bd + 24) lt sz g sun dry len need pf psz kf ksz fs ft fh zk v ms ((O_X8_hold v ms sl p n k_).2) tx f1 f2 f3 na nk nl := by
  have hI' := hI
  obtain ⟨hs, he, hg, hp, p1, p2, p3, hk, k1, k2, k3, t1, t2, t3, t4, z1, z2, z3⟩ := hI'
  unfold o_X7_hold_r O_X8_hold
  rw [w_one, w_15, show o_X8_in_r k_.toInt64 1 n.toInt64 = o_X7_within_r k_ 1 n from w_in k_ 1 n]
  by_cases c0 : o_X7_isSide_r p = 0
  · simp only [if_pos c0]; exact ⟨trivial, hI.le (by omega)⟩
  by_cases c1 : o_X7_within_r n 1 5 = 0
  · simp only [if_neg c0, if_pos c1]; exact ⟨trivial, hI.le (by omega)⟩
  by_cases c2 : o_X7_within_r k_ 1 n = 0
  · simp only [if_neg c0, if_neg c1, if_pos c2]; exact ⟨trivial, hI.le (by omega)⟩
  rw [e_over (v := v) (b := 0) (sun := sun) (dry := dry) (len := len) he]
  by_cases c3 : o_X7_isOver_r g sun dry len need = 0
  · simp only [if_neg c0, if_neg c1, if_neg c2, if_pos c3]
    have hr1 := w_rng c1
    rw [show (1 : Int32).toInt = 1 from by decide, show (5 : Int32).toInt = 5 from by decide] at hr1
    have hr2 := w_rng c2
    rw [show (1 : Int32).toInt = 1 from by decide] at hr2
    have en1 := (z_clamp (n := n) (by omega)).1
    have en2 := (z_clamp (n := n) (by omega)).2
    have ek1 := (z_clamp (n := k_) (by omega)).1
    have ek2 := (z_clamp (n := k_) (by omega)).2
    obtain ⟨kk, hkk⟩ : ∃ kk, k_.toNatClampNeg = kk + 1 := ⟨k_.toNatClampNeg - 1, by omega⟩
    rw [hkk] at ek1 ek2
    generalize hnn : n.toNatClampNeg = nn at en1 en2
    have hk1 := w_k1 ek1 (by omega)
    obtain ⟨f1', f2'⟩ := ho_T v ms sl g sun dry len need p n k_ nn (by omega) hnn hs he hg hB (5 ^ nn) 0 sl (by omega) (fun i _ => rfl)
    have hfd := fd_0 sun dry len need p 0 nn (by omega) (Nat.zero_le _) (o_X3_begin_1 fl fr si mo at_ g p n 0) fr wk
    have hlev : lev (o_X3_begin_1 fl fr si mo at_ g p n 0) 0 = cg g := lev_store (d := 0) g fl (by decide)
    have hsc : fnd (stp sun dry len need p 0) (okb need p 0) nn (cg g) = fst5 (okk sun dry len need p 0 nn g) (5 ^ nn) 0 := fnd_scan _ _ _ _
    rw [hlev, Nat.sub_zero, hsc] at hfd
    have hbe : O_X7_finds_d0 (o_X3_begin_1 fl fr si mo at_ g p n 0) fr (o_X3_begin_0_4 fl fr si mo at_ g p n 0) (o_X3_begin_0_5 fl fr si mo at_ g p n 0) (o_X3_begin_0_6 fl fr si mo at_ g p n 0) wk sun dry len need = O_X7_finds_d0 (o_X3_begin_1 fl fr si mo at_ g p n 0) fr p (nI nn) 0 wk sun dry len need := by
      rw [← en1]; rfl
    rw [hbe]
    obtain ⟨d1, d2, -, -⟩ := hfd
    refine ⟨?_, (hI.le (by omega)).tried f2' rfl rfl rfl rfl rfl rfl rfl⟩
    rw [f1', hk1.2]
    cases ho : fst5 (okk sun dry len need p 0 nn g) (5 ^ nn) 0 with
    | none => rw [if_pos (d1 ho)]
    | some x =>
      obtain ⟨m1, m2⟩ := d2 x ho
      rw [if_neg (by rw [m1]; decide), hk1.1, cell_eq _ (by omega) (by decide)]
      have := m2 kk (by omega)
      rw [Nat.zero_add] at this
      exact this
  · simp only [if_neg c0, if_neg c1, if_neg c2, if_neg c3]; exact ⟨trivial, hI.le (by omega)⟩
/-- the fewest months from n on, j lengths tried, and the first code -/
def sol (N : gT → Nat → gT) (ok : gT → Bool) (c : gT) : Nat → Nat → Option (Nat × Nat)
  | 0, _ => none
  | j + 1, n => match fnd N ok n c with
    | some x => some (n, x)
    | none => sol N ok c j (n + 1)
def son (k_ : Int32) : Option (Nat × Nat) → Int32
  | none => (-4)
  | some (n, x) => if k_ = 0 then nI n else (if k_ ≤ nI n then nI (dg n x (k_ - 1).toNatClampNeg) else (-4))
def sco (sun dry : gT) (len need p : Int32) (g : gT) (nn j k : Nat) : Option Nat := fst5 (okk sun dry len need p 1 nn g) j k
set_option maxHeartbeats 2000000 in
theorem so_T4 {Bd : Int} (v ms sl g sun dry : gT) (len need p k_ : Int32) (hs : es v ms sun dry len need) (he : en 0 sl g need) (hg : gd Bd g need) (hB : Bd < 1000000) :
    ∀ (j k : Nat) (u : gT), k + j ≤ 5 ^ 5 → (∀ i, i < 143 → u i = sl i) → (T_X8_soonest_4 v ms sl p k_ j k u).1 = son k_ (match sco sun dry len need p g 5 j k with | some x => some (5, x) | none => sol (stp sun dry len need p 1) (okb need p 1) (cg g) 0 6) ∧ ∀ i, i < 143 → (T_X8_soonest_4 v ms sl p k_ j k u).2 i = sl i := by
  intro j
  induction j with
  | zero =>
    intro k u _ hu
    exact ⟨rfl, hu⟩
  | succ j ih =>
    intro k u hk hu
    have hr := rows_eq v ms u g sun dry len need p 1 5 0 k 5 (by decide) (by omega) rfl hs (he.low (by omega) hu) hg hB
    have hlo : ∀ i, i < 143 → o_X8_rows_2 v ms u p (nI k) 5 0 5 i = sl i := fun i hi => (low_rows v ms u p (nI k) 5 0 5 hi).trans (hu i hi)
    rw [T_X8_soonest_4, sco, fst5, hr]
    by_cases c : lz (rnf (stp sun dry len need p 1) 5 k (cg g)) need = 1 - p
    · have hk0 : okk sun dry len need p 1 5 g k = some k := by
        unfold okk okb okv
        rw [if_neg (show ¬ (1 : Int32) = 0 by decide), if_pos c]; rfl
      rw [if_pos c, hk0]
      have hdi := di_eq k (by omega) 5 (k_ - 1) 5 (k_ - 1).toNatClampNeg
      unfold son
      by_cases c2 : k_ = 0
      · rw [if_pos c2]; simp only [if_pos c2]; exact ⟨rfl, hlo⟩
      · rw [if_neg c2]; simp only [if_neg c2]
        by_cases c4 : k_ ≤ 5
        · rw [if_pos c4, hdi]
          have c5 : k_ ≤ nI 5 := c4
          simp only [if_pos c5]; exact ⟨trivial, hlo⟩
        · rw [if_neg c4]
          have c5 : ¬ k_ ≤ nI 5 := c4
          simp only [if_neg c5]; exact ⟨trivial, hlo⟩
    · have hk0 : okk sun dry len need p 1 5 g k = none := by
        unfold okk okb okv
        rw [if_neg (show ¬ (1 : Int32) = 0 by decide), if_neg c]; rfl
      rw [if_neg c, hk0]
      exact ih (k + 1) _ (by omega) hlo
set_option maxHeartbeats 2000000 in
theorem so_T3 {Bd : Int} (v ms sl g sun dry : gT) (len need p k_ : Int32) (hs : es v ms sun dry len need) (he : en 0 sl g need) (hg : gd Bd g need) (hB : Bd < 1000000) :
    ∀ (j k : Nat) (u : gT), k + j ≤ 5 ^ 4 → (∀ i, i < 143 → u i = sl i) → (T_X8_soonest_3 v ms sl p k_ j k u).1 = son k_ (match sco sun dry len need p g 4 j k with | some x => some (4, x) | none => sol (stp sun dry len need p 1) (okb need p 1) (cg g) 1 5) ∧ ∀ i, i < 143 → (T_X8_soonest_3 v ms sl p k_ j k u).2 i = sl i := by
  intro j
  induction j with
  | zero =>
    intro k u _ hu
    have h := so_T4 v ms sl g sun dry len need p k_ hs he hg hB (5 ^ 5) 0 u (by omega) hu
    have e : sco sun dry len need p g 5 (5 ^ 5) 0 = fnd (stp sun dry len need p 1) (okb need p 1) 5 (cg g) := (fnd_scan _ _ _ _).symm
    rw [e] at h
    exact h
  | succ j ih =>
    intro k u hk hu
    have hr := rows_eq v ms u g sun dry len need p 1 4 0 k 4 (by decide) (by omega) rfl hs (he.low (by omega) hu) hg hB
    have hlo : ∀ i, i < 143 → o_X8_rows_2 v ms u p (nI k) 4 0 4 i = sl i := fun i hi => (low_rows v ms u p (nI k) 4 0 4 hi).trans (hu i hi)
    rw [T_X8_soonest_3, sco, fst5, hr]
    by_cases c : lz (rnf (stp sun dry len need p 1) 4 k (cg g)) need = 1 - p
    · have hk0 : okk sun dry len need p 1 4 g k = some k := by
        unfold okk okb okv
        rw [if_neg (show ¬ (1 : Int32) = 0 by decide), if_pos c]; rfl
      rw [if_pos c, hk0]
      have hdi := di_eq k (by omega) 4 (k_ - 1) 4 (k_ - 1).toNatClampNeg
      unfold son
      by_cases c2 : k_ = 0
      · rw [if_pos c2]; simp only [if_pos c2]; exact ⟨rfl, hlo⟩
      · rw [if_neg c2]; simp only [if_neg c2]
        by_cases c4 : k_ ≤ 4
        · rw [if_pos c4, hdi]
          have c5 : k_ ≤ nI 4 := c4
          simp only [if_pos c5]; exact ⟨trivial, hlo⟩
        · rw [if_neg c4]
          have c5 : ¬ k_ ≤ nI 4 := c4
          simp only [if_neg c5]; exact ⟨trivial, hlo⟩
    · have hk0 : okk sun dry len need p 1 4 g k = none := by
        unfold okk okb okv
        rw [if_neg (show ¬ (1 : Int32) = 0 by decide), if_neg c]; rfl
      rw [if_neg c, hk0]
      exact ih (k + 1) _ (by omega) hlo
set_option maxHeartbeats 2000000 in
theorem so_T2 {Bd : Int} (v ms sl g sun dry : gT) (len need p k_ : Int32) (hs : es v ms sun dry len need) (he : en 0 sl g need) (hg : gd Bd g need) (hB : Bd < 1000000) :
    ∀ (j k : Nat) (u : gT), k + j ≤ 5 ^ 3 → (∀ i, i < 143 → u i = sl i) → (T_X8_soonest_2 v ms sl p k_ j k u).1 = son k_ (match sco sun dry len need p g 3 j k with | some x => some (3, x) | none => sol (stp sun dry len need p 1) (okb need p 1) (cg g) 2 4) ∧ ∀ i, i < 143 → (T_X8_soonest_2 v ms sl p k_ j k u).2 i = sl i := by
  intro j
  induction j with
  | zero =>
    intro k u _ hu
    have h := so_T3 v ms sl g sun dry len need p k_ hs he hg hB (5 ^ 4) 0 u (by omega) hu
    have e : sco sun dry len need p g 4 (5 ^ 4) 0 = fnd (stp sun dry len need p 1) (okb need p 1) 4 (cg g) := (fnd_scan _ _ _ _).symm
    rw [e] at h
    exact h
  | succ j ih =>
    intro k u hk hu
    have hr := rows_eq v ms u g sun dry len need p 1 3 0 k 3 (by decide) (by omega) rfl hs (he.low (by omega) hu) hg hB
    have hlo : ∀ i, i < 143 → o_X8_rows_2 v ms u p (nI k) 3 0 3 i = sl i := fun i hi => (low_rows v ms u p (nI k) 3 0 3 hi).trans (hu i hi)
    rw [T_X8_soonest_2, sco, fst5, hr]
    by_cases c : lz (rnf (stp sun dry len need p 1) 3 k (cg g)) need = 1 - p
    · have hk0 : okk sun dry len need p 1 3 g k = some k := by
        unfold okk okb okv
        rw [if_neg (show ¬ (1 : Int32) = 0 by decide), if_pos c]; rfl
      rw [if_pos c, hk0]
      have hdi := di_eq k (by omega) 3 (k_ - 1) 3 (k_ - 1).toNatClampNeg
      unfold son
      by_cases c2 : k_ = 0
      · rw [if_pos c2]; simp only [if_pos c2]; exact ⟨rfl, hlo⟩
      · rw [if_neg c2]; simp only [if_neg c2]
        by_cases c4 : k_ ≤ 3
        · rw [if_pos c4, hdi]
          have c5 : k_ ≤ nI 3 := c4
          simp only [if_pos c5]; exact ⟨trivial, hlo⟩
        · rw [if_neg c4]
          have c5 : ¬ k_ ≤ nI 3 := c4
          simp only [if_neg c5]; exact ⟨trivial, hlo⟩
    · have hk0 : okk sun dry len need p 1 3 g k = none := by
        unfold okk okb okv
        rw [if_neg (show ¬ (1 : Int32) = 0 by decide), if_neg c]; rfl
      rw [if_neg c, hk0]
      exact ih (k + 1) _ (by omega) hlo
set_option maxHeartbeats 2000000 in
theorem so_T1 {Bd : Int} (v ms sl g sun dry : gT) (len need p k_ : Int32) (hs : es v ms sun dry len need) (he : en 0 sl g need) (hg : gd Bd g need) (hB : Bd < 1000000) :
    ∀ (j k : Nat) (u : gT), k + j ≤ 5 ^ 2 → (∀ i, i < 143 → u i = sl i) → (T_X8_soonest_1 v ms sl p k_ j k u).1 = son k_ (match sco sun dry len need p g 2 j k with | some x => some (2, x) | none => sol (stp sun dry len need p 1) (okb need p 1) (cg g) 3 3) ∧ ∀ i, i < 143 → (T_X8_soonest_1 v ms sl p k_ j k u).2 i = sl i := by
  intro j
  induction j with
  | zero =>
    intro k u _ hu
    have h := so_T2 v ms sl g sun dry len need p k_ hs he hg hB (5 ^ 3) 0 u (by omega) hu
    have e : sco sun dry len need p g 3 (5 ^ 3) 0 = fnd (stp sun dry len need p 1) (okb need p 1) 3 (cg g) := (fnd_scan _ _ _ _).symm
    rw [e] at h
    exact h
  | succ j ih =>
    intro k u hk hu
    have hr := rows_eq v ms u g sun dry len need p 1 2 0 k 2 (by decide) (by omega) rfl hs (he.low (by omega) hu) hg hB
    have hlo : ∀ i, i < 143 → o_X8_rows_2 v ms u p (nI k) 2 0 2 i = sl i := fun i hi => (low_rows v ms u p (nI k) 2 0 2 hi).trans (hu i hi)
    rw [T_X8_soonest_1, sco, fst5, hr]
    by_cases c : lz (rnf (stp sun dry len need p 1) 2 k (cg g)) need = 1 - p
    · have hk0 : okk sun dry len need p 1 2 g k = some k := by
        unfold okk okb okv
        rw [if_neg (show ¬ (1 : Int32) = 0 by decide), if_pos c]; rfl
      rw [if_pos c, hk0]
      have hdi := di_eq k (by omega) 2 (k_ - 1) 2 (k_ - 1).toNatClampNeg
      unfold son
      by_cases c2 : k_ = 0
      · rw [if_pos c2]; simp only [if_pos c2]; exact ⟨rfl, hlo⟩
      · rw [if_neg c2]; simp only [if_neg c2]
        by_cases c4 : k_ ≤ 2
        · rw [if_pos c4, hdi]
          have c5 : k_ ≤ nI 2 := c4
          simp only [if_pos c5]; exact ⟨trivial, hlo⟩
        · rw [if_neg c4]
          have c5 : ¬ k_ ≤ nI 2 := c4
          simp only [if_neg c5]; exact ⟨trivial, hlo⟩
    · have hk0 : okk sun dry len need p 1 2 g k = none := by
        unfold okk okb okv
        rw [if_neg (show ¬ (1 : Int32) = 0 by decide), if_neg c]; rfl
      rw [if_neg c, hk0]
      exact ih (k + 1) _ (by omega) hlo
set_option maxHeartbeats 2000000 in
theorem so_T0 {Bd : Int} (v ms sl g sun dry : gT) (len need p k_ : Int32) (hs : es v ms sun dry len need) (he : en 0 sl g need) (hg : gd Bd g need) (hB : Bd < 1000000) :
    ∀ (j k : Nat) (u : gT), k + j ≤ 5 ^ 1 → (∀ i, i < 143 → u i = sl i) → (T_X8_soonest_0 v ms sl p k_ j k u).1 = son k_ (match sco sun dry len need p g 1 j k with | some x => some (1, x) | none => sol (stp sun dry len need p 1) (okb need p 1) (cg g) 4 2) ∧ ∀ i, i < 143 → (T_X8_soonest_0 v ms sl p k_ j k u).2 i = sl i := by
  intro j
  induction j with
  | zero =>
    intro k u _ hu
    have h := so_T1 v ms sl g sun dry len need p k_ hs he hg hB (5 ^ 2) 0 u (by omega) hu
    have e : sco sun dry len need p g 2 (5 ^ 2) 0 = fnd (stp sun dry len need p 1) (okb need p 1) 2 (cg g) := (fnd_scan _ _ _ _).symm
    rw [e] at h
    exact h
  | succ j ih =>
    intro k u hk hu
    have hr := rows_eq v ms u g sun dry len need p 1 1 0 k 1 (by decide) (by omega) rfl hs (he.low (by omega) hu) hg hB
    have hlo : ∀ i, i < 143 → o_X8_rows_2 v ms u p (nI k) 1 0 1 i = sl i := fun i hi => (low_rows v ms u p (nI k) 1 0 1 hi).trans (hu i hi)
    rw [T_X8_soonest_0, sco, fst5, hr]
    by_cases c : lz (rnf (stp sun dry len need p 1) 1 k (cg g)) need = 1 - p
    · have hk0 : okk sun dry len need p 1 1 g k = some k := by
        unfold okk okb okv
        rw [if_neg (show ¬ (1 : Int32) = 0 by decide), if_pos c]; rfl
      rw [if_pos c, hk0]
      have hdi := di_eq k (by omega) 1 (k_ - 1) 1 (k_ - 1).toNatClampNeg
      unfold son
      by_cases c2 : k_ = 0
      · rw [if_pos c2]; simp only [if_pos c2]; exact ⟨rfl, hlo⟩
      · rw [if_neg c2]; simp only [if_neg c2]
        by_cases c4 : k_ ≤ 1
        · rw [if_pos c4, hdi]
          have c5 : k_ ≤ nI 1 := c4
          simp only [if_pos c5]; exact ⟨trivial, hlo⟩
        · rw [if_neg c4]
          have c5 : ¬ k_ ≤ nI 1 := c4
          simp only [if_neg c5]; exact ⟨trivial, hlo⟩
    · have hk0 : okk sun dry len need p 1 1 g k = none := by
        unfold okk okb okv
        rw [if_neg (show ¬ (1 : Int32) = 0 by decide), if_neg c]; rfl
      rw [if_neg c, hk0]
      exact ih (k + 1) _ (by omega) hlo
set_option maxHeartbeats 4000000 in
theorem sl_T (g sun dry : gT) (len need p : Int32) (fl0 fr0 : gT) (si0 mo0 at0 : Int32) (wk0 : gT) : ∀ (j k : Nat) (u0 u1 u2 : Int32) (u3 u4 u5 : gT), k + j = 5 →
    (match sol (stp sun dry len need p 1) (okb need p 1) (cg g) j (k + 1) with
    | none => (T_X7_soonestLength_0 g fl0 fr0 si0 mo0 at0 wk0 sun dry len need p j k u0 u1 u2 u3 u4 u5).1 = 0
    | some (n, x) => (T_X7_soonestLength_0 g fl0 fr0 si0 mo0 at0 wk0 sun dry len need p j k u0 u1 u2 u3 u4 u5).1 = nI n ∧ 1 ≤ n ∧ n ≤ 5 ∧ ∀ i, i < n → (T_X7_soonestLength_0 g fl0 fr0 si0 mo0 at0 wk0 sun dry len need p j k u0 u1 u2 u3 u4 u5).2.2.2.2.2.1 i = nI (dg n x i)) := by
  intro j
  induction j with
  | zero => intro k u0 u1 u2 u3 u4 u5 _; rfl
  | succ j ih =>
    intro k u0 u1 u2 u3 u4 u5 hk
    have hfd := fd_0 sun dry len need p 1 (k + 1) (by omega) (Nat.zero_le _) (o_X3_begin_1 u3 u4 u0 u1 u2 g p (nI (k + 1)) 1) u4 u5
    have hlev : lev (o_X3_begin_1 u3 u4 u0 u1 u2 g p (nI (k + 1)) 1) 0 = cg g := lev_store (d := 0) g u3 (by decide)
    rw [hlev, Nat.sub_zero] at hfd
    rw [T_X7_soonestLength_0, sol]
    have hbe : O_X7_finds_d0 (o_X3_begin_1 u3 u4 u0 u1 u2 g p (nI (k + 1)) 1) u4 (o_X3_begin_0_4 u3 u4 u0 u1 u2 g p (nI (k + 1)) 1) (o_X3_begin_0_5 u3 u4 u0 u1 u2 g p (nI (k + 1)) 1) (o_X3_begin_0_6 u3 u4 u0 u1 u2 g p (nI (k + 1)) 1) u5 sun dry len need = O_X7_finds_d0 (o_X3_begin_1 u3 u4 u0 u1 u2 g p (nI (k + 1)) 1) u4 p (nI (k + 1)) 1 u5 sun dry len need := rfl
    rw [hbe]
    generalize O_X7_finds_d0 (o_X3_begin_1 u3 u4 u0 u1 u2 g p (nI (k + 1)) 1) u4 p (nI (k + 1)) 1 u5 sun dry len need = R at hfd ⊢
    obtain ⟨d1, d2, -, -⟩ := hfd
    cases ho : fnd (stp sun dry len need p 1) (okb need p 1) (k + 1) (cg g) with
    | none =>
      rw [if_pos (d1 ho)]
      exact ih (k + 1) _ _ _ _ _ _ (by omega)
    | some x =>
      obtain ⟨m1, m2⟩ := d2 x ho
      rw [if_neg (by rw [m1]; decide)]
      refine ⟨rfl, by omega, by omega, fun i hi => ?_⟩
      have := m2 i hi
      rw [Nat.zero_add] at this
      exact this
set_option maxHeartbeats 2000000 in
theorem q_soonest {Bd : Int} {lt g sun dry pf kf fs ft fh v ms sl tx f1 f2 f3 : Nat → Int32} {sz len need psz ksz : Int32} {zk na nk nl : Nat} (fl fr wk : Nat → Int32) (si mo at_ p k_ : Int32) (hI : Inv Bd lt sz g sun dry len need pf psz kf ksz fs ft fh zk v ms sl tx f1 f2 f3 na nk nl) (hB : Bd < 1000000) : o_X7_soonest_r g fl fr si mo at_ wk sun dry len need p k_ = (O_X8_soonest v ms sl p k_).1 ∧ Inv (Bd + 24) lt sz g sun dry len need pf psz kf ksz fs ft fh zk v ms ((O_X8_soonest v ms sl p k_).2) tx f1 f2 f3 na nk nl := by
  have hI' := hI
  obtain ⟨hs, he, hg, hp, p1, p2, p3, hk, k1, k2, k3, t1, t2, t3, t4, z1, z2, z3⟩ := hI'
  unfold o_X7_soonest_r O_X8_soonest
  rw [w_one, w_05]
  by_cases c0 : o_X7_isSide_r p = 0
  · simp only [if_pos c0]; exact ⟨trivial, hI.le (by omega)⟩
  by_cases c1 : o_X7_within_r k_ 0 5 = 0
  · simp only [if_neg c0, if_pos c1]; exact ⟨trivial, hI.le (by omega)⟩
  rw [e_over (v := v) (b := 0) (sun := sun) (dry := dry) (len := len) he]
  by_cases c3 : o_X7_isOver_r g sun dry len need = 0
  · simp only [if_neg c0, if_neg c1, if_pos c3]
    obtain ⟨f1', f2'⟩ := so_T0 v ms sl g sun dry len need p k_ hs he hg hB (5 ^ 1) 0 sl (by omega) (fun i _ => rfl)
    have e : sco sun dry len need p g 1 (5 ^ 1) 0 = fnd (stp sun dry len need p 1) (okb need p 1) 1 (cg g) := (fnd_scan _ _ _ _).symm
    rw [e] at f1'
    have hsl := sl_T g sun dry len need p fl fr si mo at_ wk 5 0 si mo at_ fl fr wk rfl
    refine ⟨?_, (hI.le (by omega)).tried f2' rfl rfl rfl rfl rfl rfl rfl⟩
    have f1'' : (T_X8_soonest_0 v ms sl p k_ (5 ^ 1) 0 sl).1 = son k_ (sol (stp sun dry len need p 1) (okb need p 1) (cg g) 5 (0 + 1)) := f1'
    rw [f1'']
    unfold O_X7_soonestLength
    generalize T_X7_soonestLength_0 g fl fr si mo at_ wk sun dry len need p 5 0 si mo at_ fl fr wk = R at hsl ⊢
    cases ho : sol (stp sun dry len need p 1) (okb need p 1) (cg g) 5 (0 + 1) with
    | none =>
      rw [ho] at hsl
      rw [if_pos hsl]; rfl
    | some q =>
      obtain ⟨n, x⟩ := q
      rw [ho] at hsl
      obtain ⟨h1, h2, h3, h4⟩ := hsl
      unfold son
      rw [h1, if_neg (nI_ne0 (by omega) (by omega))]
      obtain ⟨kk, hkk, rfl⟩ := w_nat (n := 5) (by decide) (by decide) c1
      by_cases c2 : nI kk = 0
      · have c4 : nI kk ≤ nI n := by rw [c2]; exact nI_pos' (by omega)
        simp only [if_pos c2, if_pos c4]
      · simp only [if_neg c2]
        by_cases c4 : nI kk ≤ nI n
        · simp only [if_pos c4]
          have hle : kk ≤ n := (nI_leI (by omega) (by omega)).mp c4
          obtain ⟨m, rfl⟩ : ∃ m, kk = m + 1 := ⟨kk - 1, by
            have : kk ≠ 0 := fun e => c2 (by rw [e]; rfl)
            omega⟩
          have hk1 := w_k1 (k_ := nI (m + 1)) rfl (by omega)
          rw [hk1.2, hk1.1, cell_eq _ (by omega) (by decide)]
          exact h4 m (by omega)
        · simp only [if_neg c4]
  · simp only [if_neg c0, if_neg c1, if_neg c3]; exact ⟨trivial, hI.le (by omega)⟩
