/-- one thing seen, held against a garden -/
def sc (fs ft fh g : Nat → Int32) (t : Int32) (i : Nat) : Int32 := if ft i = t then (if (if fs i = 0 then g 1 else g 6) = fh i then 1 else 0) else 1
theorem sc_01 (fs ft fh g : Nat → Int32) (t : Int32) (i : Nat) : sc fs ft fh g t i = 0 ∨ sc fs ft fh g t i = 1 := by
  unfold sc
  (repeat' split) <;> first | exact Or.inl rfl | exact Or.inr rfl
theorem ag_step (fs ft fh g : Nat → Int32) (n : Nat) (t : Int32) (j k : Nat) (hk : k < 6) : T_X5_agree_0 fs ft fh g n t (j + 1) k = if sc fs ft fh g t k = 0 then 0 else T_X5_agree_0 fs ft fh g n t j (k + 1) := by
  rw [T_X5_agree_0, cell_eq ft hk (by decide), cell_eq fs hk (by decide), cell_eq fh hk (by decide)]
  unfold sc
  by_cases c1 : ft k = t
  · rw [if_pos c1, if_pos c1]
    by_cases c2 : fs k = 0
    · rw [if_pos c2, if_pos c2]
      by_cases c3 : g 1 = fh k
      · rw [if_pos c3, if_pos c3, if_neg (by decide)]
      · rw [if_neg c3, if_neg c3, if_pos rfl]
    · rw [if_neg c2, if_neg c2]
      by_cases c3 : g 6 = fh k
      · rw [if_pos c3, if_pos c3, if_neg (by decide)]
      · rw [if_neg c3, if_neg c3, if_pos rfl]
  · rw [if_neg c1, if_neg c1, if_neg (by decide)]
theorem ag_iff (fs ft fh g : Nat → Int32) (n : Nat) (t : Int32) : ∀ (j k : Nat), k + j ≤ 6 → (T_X5_agree_0 fs ft fh g n t j k = 0 ∨ T_X5_agree_0 fs ft fh g n t j k = 1) ∧ (T_X5_agree_0 fs ft fh g n t j k = 0 ↔ ∃ i, k ≤ i ∧ i < k + j ∧ sc fs ft fh g t i = 0) := by
  intro j
  induction j with
  | zero =>
    intro k hk
    refine ⟨Or.inr rfl, ⟨fun h => absurd (show (1 : Int32) = 0 from h) (by decide), fun ⟨i, h1, h2, _⟩ => by omega⟩⟩
  | succ j ih =>
    intro k hk
    rw [ag_step fs ft fh g n t j k (by omega)]
    obtain ⟨i1, i2⟩ := ih (k + 1) (by omega)
    by_cases c : sc fs ft fh g t k = 0
    · rw [if_pos c]
      exact ⟨Or.inl rfl, ⟨fun _ => ⟨k, by omega, by omega, c⟩, fun _ => rfl⟩⟩
    · rw [if_neg c]
      refine ⟨i1, ⟨fun h => ?_, fun ⟨i, h1, h2, h3⟩ => i2.mpr ?_⟩⟩
      · obtain ⟨i, h1, h2, h3⟩ := i2.mp h
        exact ⟨i, by omega, by omega, h3⟩
      · have : i ≠ k := fun e => c (e ▸ h3)
        exact ⟨i, by omega, by omega, h3⟩
theorem n145 {x : Int32} (h : x = 0 ∨ x = 1) : (145 + x).toNatClampNeg = if x = 0 then 145 else 146 := by
  rcases h with r | r <;> subst r <;> rfl
set_option maxHeartbeats 2000000 in
theorem in_iff (v ms sl f1 f2 f3 fs ft fh g : Nat → Int32) (a_ b_ : Int32) (ns k0 : Nat) (u0_1 : Nat → Int32) (need : Int32) (he : en 143 (j_X8_isSo_1_1 v ms sl f1 f2 f3 a_ b_ ns k0 1 u0_1) g need) (hb : b4 (j_X8_isSo_1_0 v ms sl f1 f2 f3 a_ b_ ns k0 1 u0_1)) (n : Nat) (hf : ∀ j, j < n → f1 j = fs j ∧ f2 j = ft j ∧ f3 j = fh j ∧ (fs j = 0 ∨ fs j = 1)) :
    ∀ k, k ≤ n → (L_X8_isSo_2 v ms sl f1 f2 f3 a_ b_ ns k0 1 u0_1 k = 0 ∨ L_X8_isSo_2 v ms sl f1 f2 f3 a_ b_ ns k0 1 u0_1 k = 1) ∧ (L_X8_isSo_2 v ms sl f1 f2 f3 a_ b_ ns k0 1 u0_1 k = 0 ↔ ∃ i, i < k ∧ sc fs ft fh g (nI (k0 + 1)) i = 0) := by
  intro k
  induction k with
  | zero => intro _; exact ⟨Or.inr rfl, ⟨fun h => absurd (show (1 : Int32) = 0 from h) (by decide), fun ⟨i, h1, _⟩ => by omega⟩⟩
  | succ k ih =>
    intro hk
    obtain ⟨i1, i2⟩ := ih (by omega)
    have e : L_X8_isSo_2 v ms sl f1 f2 f3 a_ b_ ns k0 1 u0_1 (k + 1) = if L_X8_isSo_2 v ms sl f1 f2 f3 a_ b_ ns k0 1 u0_1 k = 0 then 0 else sc fs ft fh g (nI (k0 + 1)) k := by
      rw [L_X8_isSo_2]
      unfold j_X8_isSo_3_0 sc
      obtain ⟨q1, q2, q3, q4⟩ := hf k (by omega)
      rw [if_neg hb.nn, q1, q2, q3, n145 q4]
      have hh : j_X8_isSo_1_1 v ms sl f1 f2 f3 a_ b_ ns k0 1 u0_1 (if fs k = 0 then 145 else 146) = (if fs k = 0 then g 1 else g 6) := by
        split
        · exact he.2.2.1
        · exact he.2.2.2.1
      rw [hh]
    rw [e]
    by_cases c : L_X8_isSo_2 v ms sl f1 f2 f3 a_ b_ ns k0 1 u0_1 k = 0
    · rw [if_pos c]
      obtain ⟨i, h1, h2⟩ := i2.mp c
      exact ⟨Or.inl rfl, ⟨fun _ => ⟨i, by omega, h2⟩, fun _ => rfl⟩⟩
    · rw [if_neg c]
      refine ⟨sc_01 _ _ _ _ _ _, ⟨fun h => ⟨k, by omega, h⟩, fun ⟨i, h1, h2⟩ => ?_⟩⟩
      by_cases d : i = k
      · exact d ▸ h2
      · exact absurd (i2.mpr ⟨i, by omega, h2⟩) c
theorem in_zero (v ms sl f1 f2 f3 : Nat → Int32) (a_ b_ : Int32) (ns k0 : Nat) (u0_1 : Nat → Int32) : ∀ k, L_X8_isSo_2 v ms sl f1 f2 f3 a_ b_ ns k0 0 u0_1 k = 0 := by
  intro k
  induction k with
  | zero => rfl
  | succ k ih => rw [L_X8_isSo_2, ih]; unfold j_X8_isSo_3_0; rw [if_pos rfl]
theorem so_stay (v ms sl f1 f2 f3 : Nat → Int32) (a_ b_ : Int32) (ns k : Nat) (h : (L_X8_isSo_0 v ms sl f1 f2 f3 a_ b_ ns k).1 = 0) : ∀ j, (L_X8_isSo_0 v ms sl f1 f2 f3 a_ b_ ns (k + j)).1 = 0 := by
  intro j
  induction j with
  | zero => exact h
  | succ j ih =>
    show L_X8_isSo_2 v ms sl f1 f2 f3 a_ b_ ns (k + j) (L_X8_isSo_0 v ms sl f1 f2 f3 a_ b_ ns (k + j)).1 (L_X8_isSo_0 v ms sl f1 f2 f3 a_ b_ ns (k + j)).2 ns = 0
    rw [ih]
    exact in_zero _ _ _ _ _ _ _ _ _ _ _ _
set_option maxHeartbeats 4000000 in
theorem cs_0 {Bd : Int} (v ms sl sun dry fs ft fh f1 f2 f3 tg0 : Nat → Int32) (len need dd : Int32) (zk : Nat) (hs : es v ms sun dry len need) (hz : zk ≤ 6) (hf : ∀ j, j < zk → f1 j = fs j ∧ f2 j = ft j ∧ f3 j = fh j ∧ (fs j = 0 ∨ fs j = 1)) :
    ∀ (j k : Nat) (u : Nat → Int32), k + j ≤ 24 → (L_X8_isSo_0 v ms sl f1 f2 f3 dd 0 zk k).1 = 1 → en 143 (L_X8_isSo_0 v ms sl f1 f2 f3 dd 0 zk k).2 u need → gd (Bd + k) u need → Bd + 24 < 2000000000 → (T_X7_comesAsSeen_0 tg0 sun dry len need fs ft fh zk 0 dd j k u).1 = (L_X8_isSo_0 v ms sl f1 f2 f3 dd 0 zk (k + j)).1 := by
  intro j
  induction j with
  | zero => intro k u _ h1 _ _ _; exact h1.symm
  | succ j ih =>
    intro k u hk h1 he hg hB
    have hL : L_X8_isSo_0 v ms sl f1 f2 f3 dd 0 zk (k + 1) = (L_X8_isSo_2 v ms sl f1 f2 f3 dd 0 zk k 1 (L_X8_isSo_0 v ms sl f1 f2 f3 dd 0 zk k).2 zk, j_X8_isSo_1_1 v ms sl f1 f2 f3 dd 0 zk k 1 (L_X8_isSo_0 v ms sl f1 f2 f3 dd 0 zk k).2) := by
      rw [L_X8_isSo_0, h1]
    generalize hs0 : (L_X8_isSo_0 v ms sl f1 f2 f3 dd 0 zk k).2 = sk at he hL
    obtain ⟨G, hG, hGe, hGg, hGb⟩ : ∃ G, G = o_X0_turn_g u sun dry len need (j_X7_comesAsSeen_2_0 tg0 sun dry len need fs ft fh zk 0 dd k u) (j_X7_comesAsSeen_3_0 tg0 sun dry len need fs ft fh zk 0 dd k u) ∧ en 143 (j_X8_isSo_1_1 v ms sl f1 f2 f3 dd 0 zk k 1 sk) G need ∧ gd (Bd + k + 1) G need ∧ b4 (j_X8_isSo_1_0 v ms sl f1 f2 f3 dd 0 zk k 1 sk) := by
      refine ⟨_, rfl, ?_⟩
      unfold j_X7_comesAsSeen_2_0 j_X7_comesAsSeen_3_0 j_X7_comesAsSeen_1_0 j_X8_isSo_1_1 j_X8_isSo_1_0
      by_cases c : nI (k + 1) = 1
      · simp only [if_pos c, if_pos (show (0 : Int32) = 0 from rfl), if_neg (show ¬ (0 : Int32) = 1 by decide)]
        obtain ⟨t1, t2, t3, -⟩ := to_143 v ms sk u sun dry len need dd 0 hs he hg (by omega)
        exact ⟨t1, t2, t3⟩
      · simp only [if_neg c, ite_self]
        obtain ⟨t1, t2, t3, -⟩ := to_143 v ms sk u sun dry len need 0 0 hs he hg (by omega)
        exact ⟨t1, t2, t3⟩
    rw [T_X7_comesAsSeen_0, ← hG]
    obtain ⟨m1, m2⟩ := in_iff v ms sl f1 f2 f3 fs ft fh G dd 0 zk k sk need hGe hGb zk hf zk (Nat.le_refl _)
    obtain ⟨a1, a2⟩ := ag_iff fs ft fh G zk (nI (k + 1)) zk 0 (by omega)
    have hag : O_X5_agree fs ft fh G zk (nI (k + 1)) = L_X8_isSo_2 v ms sl f1 f2 f3 dd 0 zk k 1 sk zk := by
      unfold O_X5_agree
      rcases m1 with q | q
      · rw [q]
        obtain ⟨i, r1, r2⟩ := m2.mp q
        exact a2.mpr ⟨i, by omega, by omega, r2⟩
      · rw [q]
        rcases a1 with r | r
        · obtain ⟨i, r1, r2, r3⟩ := a2.mp r
          rw [m2.mpr ⟨i, by omega, r3⟩] at q
          exact absurd q (by decide)
        · exact r
    rw [hag]
    have e1 : (L_X8_isSo_0 v ms sl f1 f2 f3 dd 0 zk (k + 1)).1 = L_X8_isSo_2 v ms sl f1 f2 f3 dd 0 zk k 1 sk zk := by rw [hL]
    have e2 : (L_X8_isSo_0 v ms sl f1 f2 f3 dd 0 zk (k + 1)).2 = j_X8_isSo_1_1 v ms sl f1 f2 f3 dd 0 zk k 1 sk := by rw [hL]
    rw [show k + (j + 1) = (k + 1) + j by omega]
    rcases m1 with q | q
    · rw [if_pos q]
      exact (so_stay _ _ _ _ _ _ _ _ _ _ (e1.trans q) j).symm
    · rw [if_neg (by rw [q]; decide)]
      exact ih (k + 1) G (by omega) (e1.trans q) (by rw [e2]; exact hGe) (by have := hGg.le (C := Bd + ((k + 1 : Nat) : Int)) (by omega); exact this) hB
set_option maxHeartbeats 4000000 in
theorem cs_1 {Bd : Int} (v ms sl sun dry fs ft fh f1 f2 f3 tg0 : Nat → Int32) (len need dd : Int32) (zk : Nat) (hs : es v ms sun dry len need) (hz : zk ≤ 6) (hf : ∀ j, j < zk → f1 j = fs j ∧ f2 j = ft j ∧ f3 j = fh j ∧ (fs j = 0 ∨ fs j = 1)) :
    ∀ (j k : Nat) (u : Nat → Int32), k + j ≤ 24 → (L_X8_isSo_0 v ms sl f1 f2 f3 0 dd zk k).1 = 1 → en 143 (L_X8_isSo_0 v ms sl f1 f2 f3 0 dd zk k).2 u need → gd (Bd + k) u need → Bd + 24 < 2000000000 → (T_X7_comesAsSeen_0 tg0 sun dry len need fs ft fh zk 1 dd j k u).1 = (L_X8_isSo_0 v ms sl f1 f2 f3 0 dd zk (k + j)).1 := by
  intro j
  induction j with
  | zero => intro k u _ h1 _ _ _; exact h1.symm
  | succ j ih =>
    intro k u hk h1 he hg hB
    have hL : L_X8_isSo_0 v ms sl f1 f2 f3 0 dd zk (k + 1) = (L_X8_isSo_2 v ms sl f1 f2 f3 0 dd zk k 1 (L_X8_isSo_0 v ms sl f1 f2 f3 0 dd zk k).2 zk, j_X8_isSo_1_1 v ms sl f1 f2 f3 0 dd zk k 1 (L_X8_isSo_0 v ms sl f1 f2 f3 0 dd zk k).2) := by
      rw [L_X8_isSo_0, h1]
    generalize hs0 : (L_X8_isSo_0 v ms sl f1 f2 f3 0 dd zk k).2 = sk at he hL
    obtain ⟨G, hG, hGe, hGg, hGb⟩ : ∃ G, G = o_X0_turn_g u sun dry len need (j_X7_comesAsSeen_2_0 tg0 sun dry len need fs ft fh zk 1 dd k u) (j_X7_comesAsSeen_3_0 tg0 sun dry len need fs ft fh zk 1 dd k u) ∧ en 143 (j_X8_isSo_1_1 v ms sl f1 f2 f3 0 dd zk k 1 sk) G need ∧ gd (Bd + k + 1) G need ∧ b4 (j_X8_isSo_1_0 v ms sl f1 f2 f3 0 dd zk k 1 sk) := by
      refine ⟨_, rfl, ?_⟩
      unfold j_X7_comesAsSeen_2_0 j_X7_comesAsSeen_3_0 j_X7_comesAsSeen_1_0 j_X8_isSo_1_1 j_X8_isSo_1_0
      by_cases c : nI (k + 1) = 1
      · simp only [if_pos c, if_neg (show ¬ (1 : Int32) = 0 by decide), if_pos (show (1 : Int32) = 1 from rfl)]
        obtain ⟨t1, t2, t3, -⟩ := to_143 v ms sk u sun dry len need 0 dd hs he hg (by omega)
        exact ⟨t1, t2, t3⟩
      · simp only [if_neg c, ite_self]
        obtain ⟨t1, t2, t3, -⟩ := to_143 v ms sk u sun dry len need 0 0 hs he hg (by omega)
        exact ⟨t1, t2, t3⟩
    rw [T_X7_comesAsSeen_0, ← hG]
    obtain ⟨m1, m2⟩ := in_iff v ms sl f1 f2 f3 fs ft fh G 0 dd zk k sk need hGe hGb zk hf zk (Nat.le_refl _)
    obtain ⟨a1, a2⟩ := ag_iff fs ft fh G zk (nI (k + 1)) zk 0 (by omega)
    have hag : O_X5_agree fs ft fh G zk (nI (k + 1)) = L_X8_isSo_2 v ms sl f1 f2 f3 0 dd zk k 1 sk zk := by
      unfold O_X5_agree
      rcases m1 with q | q
      · rw [q]
        obtain ⟨i, r1, r2⟩ := m2.mp q
        exact a2.mpr ⟨i, by omega, by omega, r2⟩
      · rw [q]
        rcases a1 with r | r
        · obtain ⟨i, r1, r2, r3⟩ := a2.mp r
          rw [m2.mpr ⟨i, by omega, r3⟩] at q
          exact absurd q (by decide)
        · exact r
    rw [hag]
    have e1 : (L_X8_isSo_0 v ms sl f1 f2 f3 0 dd zk (k + 1)).1 = L_X8_isSo_2 v ms sl f1 f2 f3 0 dd zk k 1 sk zk := by rw [hL]
    have e2 : (L_X8_isSo_0 v ms sl f1 f2 f3 0 dd zk (k + 1)).2 = j_X8_isSo_1_1 v ms sl f1 f2 f3 0 dd zk k 1 sk := by rw [hL]
    rw [show k + (j + 1) = (k + 1) + j by omega]
    rcases m1 with q | q
    · rw [if_pos q]
      exact (so_stay _ _ _ _ _ _ _ _ _ _ (e1.trans q) j).symm
    · rw [if_neg (by rw [q]; decide)]
      exact ih (k + 1) G (by omega) (e1.trans q) (by rw [e2]; exact hGe) (by have := hGg.le (C := Bd + ((k + 1 : Nat) : Int)) (by omega); exact this) hB
theorem i_or0 (x : Int32) : x ||| 0 = x := by simp
set_option maxHeartbeats 4000000 in
theorem did_0 {Bd : Int} (v ms sl g tg sun dry fs ft fh f1 f2 f3 : Nat → Int32) (len need p' p'' : Int32) (zk : Nat) (hs : es v ms sun dry len need) (he : en 0 sl g need) (hg : gd Bd g need) (hz : zk ≤ 6) (hf : ∀ j, j < zk → f1 j = fs j ∧ f2 j = ft j ∧ f3 j = fh j ∧ (fs j = 0 ∨ fs j = 1)) (hB : Bd + 24 < 2000000000) :
    ∀ k : Nat, k ≤ 5 → (L_X7_did_0 g tg sun dry len need fs ft fh zk p' k).1 = (L_X8_did_0 v ms sl f1 f2 f3 p'' zk k).1 ∧ (∀ j, j < 143 → (L_X8_did_0 v ms sl f1 f2 f3 p'' zk k).2 j = sl j) := by
  intro k
  induction k with
  | zero => intro _; exact ⟨rfl, fun j hj => rfl⟩
  | succ k ih =>
    intro hk
    obtain ⟨i1, i3⟩ := ih (by omega)
    rw [L_X7_did_0, L_X8_did_0]
    generalize L_X7_did_0 g tg sun dry len need fs ft fh zk p' k = a at i1 ⊢
    generalize L_X8_did_0 v ms sl f1 f2 f3 p'' zk k = b at i1 i3 ⊢
    have hk4 : mB 4 (nI k) := mB_nI (n := 4) (by omega) (by decide)
    have e0 : en 143 (cp13 b.2 0 143) (mixG (mkG12 (g 0) (g 1) (g 2) (g 3) (g 4) (g 5) (g 6) (g 7) (g 8) (g 9) (g 10) (g 11)) a.2) need := by
      exact ((he.low (sl' := b.2) (by omega) i3).cp (b := 143)).g (cg_eq2 g a.2)
    have g0 : gd (Bd + ((0 : Nat) : Int)) (mixG (mkG12 (g 0) (g 1) (g 2) (g 3) (g 4) (g 5) (g 6) (g 7) (g 8) (g 9) (g 10) (g 11)) a.2) need := by
      refine gd.le (B := Bd) ?_ (by omega)
      exact hg.g (cg_eq2 g a.2)
    have key : (O_X7_comesAsSeen (mixG (mkG12 (g 0) (g 1) (g 2) (g 3) (g 4) (g 5) (g 6) (g 7) (g 8) (g 9) (g 10) (g 11)) a.2) sun dry len need fs ft fh zk 0 (nI k)).1 = o_X8_isSo_r v ms (cp13 b.2 0 143) f1 f2 f3 (nI k) 0 zk := by
      have h := cs_0 (Bd := Bd) v ms (cp13 b.2 0 143) sun dry fs ft fh f1 f2 f3 (mixG (mkG12 (g 0) (g 1) (g 2) (g 3) (g 4) (g 5) (g 6) (g 7) (g 8) (g 9) (g 10) (g 11)) a.2) len need (nI k) zk hs hz hf 24 0 (mixG (mkG12 (g 0) (g 1) (g 2) (g 3) (g 4) (g 5) (g 6) (g 7) (g 8) (g 9) (g 10) (g 11)) a.2) (by decide) rfl e0 g0 hB
      exact h
    refine ⟨?_, fun j hj => ?_⟩
    · show (if (O_X7_comesAsSeen (mixG (mkG12 (g 0) (g 1) (g 2) (g 3) (g 4) (g 5) (g 6) (g 7) (g 8) (g 9) (g 10) (g 11)) a.2) sun dry len need fs ft fh zk 0 (nI k)).1 = 0 then a.1 else a.1 ||| ((1 : Int32) <<< ((nI k) &&& 31))) = b.1 ||| (if (o_X8_isSo_r v ms (cp13 b.2 0 143) f1 f2 f3 (nI k) 0 zk) = 0 then (0 : Int32) else ((1 : Int32) <<< ((nI k) &&& 31)))
      rw [key, i1]
      by_cases c : o_X8_isSo_r v ms (cp13 b.2 0 143) f1 f2 f3 (nI k) 0 zk = 0
      · rw [if_pos c, if_pos c, i_or0]
      · rw [if_neg c, if_neg c]
    · dsimp only
      rw [low_isSo _ _ _ _ _ _ _ _ _ hj]
      exact (low_cp b.2 hj).trans (i3 j hj)
set_option maxHeartbeats 4000000 in
theorem did_1 {Bd : Int} (v ms sl g tg sun dry fs ft fh f1 f2 f3 : Nat → Int32) (len need p' p'' : Int32) (zk : Nat) (hs : es v ms sun dry len need) (he : en 0 sl g need) (hg : gd Bd g need) (hz : zk ≤ 6) (hf : ∀ j, j < zk → f1 j = fs j ∧ f2 j = ft j ∧ f3 j = fh j ∧ (fs j = 0 ∨ fs j = 1)) (hB : Bd + 24 < 2000000000) :
    ∀ k : Nat, k ≤ 5 → (L_X7_did_2 g tg sun dry len need fs ft fh zk p' k).1 = (L_X8_did_2 v ms sl f1 f2 f3 p'' zk k).1 ∧ (∀ j, j < 143 → (L_X8_did_2 v ms sl f1 f2 f3 p'' zk k).2 j = sl j) := by
  intro k
  induction k with
  | zero => intro _; exact ⟨rfl, fun j hj => rfl⟩
  | succ k ih =>
    intro hk
    obtain ⟨i1, i3⟩ := ih (by omega)
    rw [L_X7_did_2, L_X8_did_2]
    generalize L_X7_did_2 g tg sun dry len need fs ft fh zk p' k = a at i1 ⊢
    generalize L_X8_did_2 v ms sl f1 f2 f3 p'' zk k = b at i1 i3 ⊢
    have hk4 : mB 4 (nI k) := mB_nI (n := 4) (by omega) (by decide)
    have e0 : en 143 (cp13 b.2 0 143) (mixG (mkG12 (g 0) (g 1) (g 2) (g 3) (g 4) (g 5) (g 6) (g 7) (g 8) (g 9) (g 10) (g 11)) a.2) need := by
      exact ((he.low (sl' := b.2) (by omega) i3).cp (b := 143)).g (cg_eq2 g a.2)
    have g0 : gd (Bd + ((0 : Nat) : Int)) (mixG (mkG12 (g 0) (g 1) (g 2) (g 3) (g 4) (g 5) (g 6) (g 7) (g 8) (g 9) (g 10) (g 11)) a.2) need := by
      refine gd.le (B := Bd) ?_ (by omega)
      exact hg.g (cg_eq2 g a.2)
    have key : (O_X7_comesAsSeen (mixG (mkG12 (g 0) (g 1) (g 2) (g 3) (g 4) (g 5) (g 6) (g 7) (g 8) (g 9) (g 10) (g 11)) a.2) sun dry len need fs ft fh zk 1 (nI k)).1 = o_X8_isSo_r v ms (cp13 b.2 0 143) f1 f2 f3 0 (nI k) zk := by
      have h := cs_1 (Bd := Bd) v ms (cp13 b.2 0 143) sun dry fs ft fh f1 f2 f3 (mixG (mkG12 (g 0) (g 1) (g 2) (g 3) (g 4) (g 5) (g 6) (g 7) (g 8) (g 9) (g 10) (g 11)) a.2) len need (nI k) zk hs hz hf 24 0 (mixG (mkG12 (g 0) (g 1) (g 2) (g 3) (g 4) (g 5) (g 6) (g 7) (g 8) (g 9) (g 10) (g 11)) a.2) (by decide) rfl e0 g0 hB
      exact h
    refine ⟨?_, fun j hj => ?_⟩
    · show (if (O_X7_comesAsSeen (mixG (mkG12 (g 0) (g 1) (g 2) (g 3) (g 4) (g 5) (g 6) (g 7) (g 8) (g 9) (g 10) (g 11)) a.2) sun dry len need fs ft fh zk 1 (nI k)).1 = 0 then a.1 else a.1 ||| ((1 : Int32) <<< ((nI k) &&& 31))) = b.1 ||| (if (o_X8_isSo_r v ms (cp13 b.2 0 143) f1 f2 f3 0 (nI k) zk) = 0 then (0 : Int32) else ((1 : Int32) <<< ((nI k) &&& 31)))
      rw [key, i1]
      by_cases c : o_X8_isSo_r v ms (cp13 b.2 0 143) f1 f2 f3 0 (nI k) zk = 0
      · rw [if_pos c, if_pos c, i_or0]
      · rw [if_neg c, if_neg c]
    · dsimp only
      rw [low_isSo _ _ _ _ _ _ _ _ _ hj]
      exact (low_cp b.2 hj).trans (i3 j hj)
set_option maxHeartbeats 2000000 in
theorem q_did {Bd : Int} {lt g sun dry pf kf fs ft fh v ms sl tx f1 f2 f3 : Nat → Int32} {sz len need psz ksz : Int32} {zk na nk nl : Nat} (tg : Nat → Int32) (p : Int32) (hI : Inv Bd lt sz g sun dry len need pf psz kf ksz fs ft fh zk v ms sl tx f1 f2 f3 na nk nl) (hB : Bd < 1000000) : o_X7_did_r g tg sun dry len need fs ft fh zk p = o_X8_did_r v ms sl f1 f2 f3 p zk ∧ Inv (Bd + 24) lt sz g sun dry len need pf psz kf ksz fs ft fh zk v ms (o_X8_did_2 v ms sl f1 f2 f3 p zk) tx f1 f2 f3 na nk nl := by
  have hI' := hI
  obtain ⟨hs, he, hg, hp, p1, p2, p3, hk, k1, k2, k3, t1, t2, t3, t4, z1, z2, z3⟩ := hI'
  unfold o_X7_did_r o_X8_did_r o_X8_did_2
  rw [w_one]
  by_cases c0 : o_X7_isSide_r p = 0
  · simp only [if_pos c0]; exact ⟨trivial, hI.le (by omega)⟩
  rw [e_over (v := v) (b := 0) (sun := sun) (dry := dry) (len := len) he]
  by_cases c3 : o_X7_isOver_r g sun dry len need = 0
  · by_cases c4 : p = 0
    · simp only [if_neg c0, if_pos c3, if_pos c4]
      obtain ⟨b1, b3⟩ := did_0 v ms sl g tg sun dry fs ft fh f1 f2 f3 len need 0 0 zk hs he hg z2 z3 (by omega) 5 (by decide)
      exact ⟨b1, (hI.le (by omega)).tried b3 rfl rfl rfl rfl rfl rfl rfl⟩
    · simp only [if_neg c0, if_pos c3, if_neg c4]
      obtain ⟨b1, b3⟩ := did_1 v ms sl g tg sun dry fs ft fh f1 f2 f3 len need 1 1 zk hs he hg z2 z3 (by omega) 5 (by decide)
      exact ⟨b1, (hI.le (by omega)).tried b3 rfl rfl rfl rfl rfl rfl rfl⟩
  · by_cases c4 : p = 0
    · simp only [if_neg c0, if_neg c3, if_pos c4]; exact ⟨trivial, hI.le (by omega)⟩
    · simp only [if_neg c0, if_neg c3, if_neg c4]; exact ⟨trivial, hI.le (by omega)⟩
set_option maxHeartbeats 4000000 in
theorem was_0 {Bd : Int} (v ms sl g tg sun dry fs ft fh f1 f2 f3 : Nat → Int32) (len need p' p'' : Int32) (zk : Nat) (hs : es v ms sun dry len need) (he : en 0 sl g need) (hg : gd Bd g need) (hz : zk ≤ 6) (hf : ∀ j, j < zk → f1 j = fs j ∧ f2 j = ft j ∧ f3 j = fh j ∧ (fs j = 0 ∨ fs j = 1)) (hB : Bd + 24 < 2000000000) :
    ∀ k : Nat, k ≤ 5 → (L_X7_was_0 g tg sun dry len need fs ft fh zk p' k).1 = (L_X8_was_0 v ms sl f1 f2 f3 p'' zk k).1 ∧ (∀ j, j < 143 → (L_X8_was_0 v ms sl f1 f2 f3 p'' zk k).2 j = sl j) := by
  intro k
  induction k with
  | zero => intro _; exact ⟨rfl, fun j hj => rfl⟩
  | succ k ih =>
    intro hk
    obtain ⟨i1, i3⟩ := ih (by omega)
    rw [L_X7_was_0, L_X8_was_0]
    generalize L_X7_was_0 g tg sun dry len need fs ft fh zk p' k = a at i1 ⊢
    generalize L_X8_was_0 v ms sl f1 f2 f3 p'' zk k = b at i1 i3 ⊢
    have hk4 : mB 4 (nI k) := mB_nI (n := 4) (by omega) (by decide)
    have e0 : en 143 (upd (cp13 b.2 0 143) 143 (nI k)) (mixG (mkG12 (nI k) (g 1) (g 2) (g 3) (g 4) (g 5) (g 6) (g 7) (g 8) (g 9) (g 10) (g 11)) a.2) need := by
      obtain ⟨f0, f1', f2', f3', f4, f5, f6, f7, f8, f9, f10, f11, f12⟩ := (he.low (sl' := b.2) (by omega) i3).cp (b := 143)
      exact ⟨rfl, f1', f2', f3', f4, f5, f6, f7, f8, f9, f10, f11, f12⟩
    have g0 : gd (Bd + ((0 : Nat) : Int)) (mixG (mkG12 (nI k) (g 1) (g 2) (g 3) (g 4) (g 5) (g 6) (g 7) (g 8) (g 9) (g 10) (g 11)) a.2) need := by
      refine gd.le (B := Bd) ?_ (by omega)
      obtain ⟨q0, q1, q2, q3, q4, q5, q6, q7⟩ := hg
      exact ⟨hk4, q1, q2, q3, q4, q5, q6, q7⟩
    have key : (O_X7_comesAsSeen (mixG (mkG12 (nI k) (g 1) (g 2) (g 3) (g 4) (g 5) (g 6) (g 7) (g 8) (g 9) (g 10) (g 11)) a.2) sun dry len need fs ft fh zk 0 0).1 = o_X8_isSo_r v ms (upd (cp13 b.2 0 143) 143 (nI k)) f1 f2 f3 0 0 zk := by
      have h := cs_0 (Bd := Bd) v ms (upd (cp13 b.2 0 143) 143 (nI k)) sun dry fs ft fh f1 f2 f3 (mixG (mkG12 (nI k) (g 1) (g 2) (g 3) (g 4) (g 5) (g 6) (g 7) (g 8) (g 9) (g 10) (g 11)) a.2) len need 0 zk hs hz hf 24 0 (mixG (mkG12 (nI k) (g 1) (g 2) (g 3) (g 4) (g 5) (g 6) (g 7) (g 8) (g 9) (g 10) (g 11)) a.2) (by decide) rfl e0 g0 hB
      exact h
    refine ⟨?_, fun j hj => ?_⟩
    · show (if (O_X7_comesAsSeen (mixG (mkG12 (nI k) (g 1) (g 2) (g 3) (g 4) (g 5) (g 6) (g 7) (g 8) (g 9) (g 10) (g 11)) a.2) sun dry len need fs ft fh zk 0 0).1 = 0 then a.1 else a.1 ||| ((1 : Int32) <<< ((nI k) &&& 31))) = b.1 ||| (if (o_X8_isSo_r v ms (upd (cp13 b.2 0 143) 143 (nI k)) f1 f2 f3 0 0 zk) = 0 then (0 : Int32) else ((1 : Int32) <<< ((nI k) &&& 31)))
      rw [key, i1]
      by_cases c : o_X8_isSo_r v ms (upd (cp13 b.2 0 143) 143 (nI k)) f1 f2 f3 0 0 zk = 0
      · rw [if_pos c, if_pos c, i_or0]
      · rw [if_neg c, if_neg c]
    · dsimp only
      rw [low_isSo _ _ _ _ _ _ _ _ _ hj]
      exact (if_neg (show j ≠ 143 by omega)).trans ((low_cp b.2 hj).trans (i3 j hj))
set_option maxHeartbeats 4000000 in
theorem was_1 {Bd : Int} (v ms sl g tg sun dry fs ft fh f1 f2 f3 : Nat → Int32) (len need p' p'' : Int32) (zk : Nat) (hs : es v ms sun dry len need) (he : en 0 sl g need) (hg : gd Bd g need) (hz : zk ≤ 6) (hf : ∀ j, j < zk → f1 j = fs j ∧ f2 j = ft j ∧ f3 j = fh j ∧ (fs j = 0 ∨ fs j = 1)) (hB : Bd + 24 < 2000000000) :
    ∀ k : Nat, k ≤ 5 → (L_X7_was_2 g tg sun dry len need fs ft fh zk p' k).1 = (L_X8_was_2 v ms sl f1 f2 f3 p'' zk k).1 ∧ (∀ j, j < 143 → (L_X8_was_2 v ms sl f1 f2 f3 p'' zk k).2 j = sl j) := by
  intro k
  induction k with
  | zero => intro _; exact ⟨rfl, fun j hj => rfl⟩
  | succ k ih =>
    intro hk
    obtain ⟨i1, i3⟩ := ih (by omega)
    rw [L_X7_was_2, L_X8_was_2]
    generalize L_X7_was_2 g tg sun dry len need fs ft fh zk p' k = a at i1 ⊢
    generalize L_X8_was_2 v ms sl f1 f2 f3 p'' zk k = b at i1 i3 ⊢
    have hk4 : mB 4 (nI k) := mB_nI (n := 4) (by omega) (by decide)
    have e0 : en 143 (upd (cp13 b.2 0 143) 144 (nI k)) (mixG (mkG12 (g 0) (g 1) (g 2) (g 3) (g 4) (nI k) (g 6) (g 7) (g 8) (g 9) (g 10) (g 11)) a.2) need := by
      obtain ⟨f0, f1', f2', f3', f4, f5, f6, f7, f8, f9, f10, f11, f12⟩ := (he.low (sl' := b.2) (by omega) i3).cp (b := 143)
      exact ⟨f0, rfl, f2', f3', f4, f5, f6, f7, f8, f9, f10, f11, f12⟩
    have g0 : gd (Bd + ((0 : Nat) : Int)) (mixG (mkG12 (g 0) (g 1) (g 2) (g 3) (g 4) (nI k) (g 6) (g 7) (g 8) (g 9) (g 10) (g 11)) a.2) need := by
      refine gd.le (B := Bd) ?_ (by omega)
      obtain ⟨q0, q1, q2, q3, q4, q5, q6, q7⟩ := hg
      exact ⟨q0, hk4, q2, q3, q4, q5, q6, q7⟩
    have key : (O_X7_comesAsSeen (mixG (mkG12 (g 0) (g 1) (g 2) (g 3) (g 4) (nI k) (g 6) (g 7) (g 8) (g 9) (g 10) (g 11)) a.2) sun dry len need fs ft fh zk 1 0).1 = o_X8_isSo_r v ms (upd (cp13 b.2 0 143) 144 (nI k)) f1 f2 f3 0 0 zk := by
      have h := cs_1 (Bd := Bd) v ms (upd (cp13 b.2 0 143) 144 (nI k)) sun dry fs ft fh f1 f2 f3 (mixG (mkG12 (g 0) (g 1) (g 2) (g 3) (g 4) (nI k) (g 6) (g 7) (g 8) (g 9) (g 10) (g 11)) a.2) len need 0 zk hs hz hf 24 0 (mixG (mkG12 (g 0) (g 1) (g 2) (g 3) (g 4) (nI k) (g 6) (g 7) (g 8) (g 9) (g 10) (g 11)) a.2) (by decide) rfl e0 g0 hB
      exact h
    refine ⟨?_, fun j hj => ?_⟩
    · show (if (O_X7_comesAsSeen (mixG (mkG12 (g 0) (g 1) (g 2) (g 3) (g 4) (nI k) (g 6) (g 7) (g 8) (g 9) (g 10) (g 11)) a.2) sun dry len need fs ft fh zk 1 0).1 = 0 then a.1 else a.1 ||| ((1 : Int32) <<< ((nI k) &&& 31))) = b.1 ||| (if (o_X8_isSo_r v ms (upd (cp13 b.2 0 143) 144 (nI k)) f1 f2 f3 0 0 zk) = 0 then (0 : Int32) else ((1 : Int32) <<< ((nI k) &&& 31)))
      rw [key, i1]
      by_cases c : o_X8_isSo_r v ms (upd (cp13 b.2 0 143) 144 (nI k)) f1 f2 f3 0 0 zk = 0
      · rw [if_pos c, if_pos c, i_or0]
      · rw [if_neg c, if_neg c]
    · dsimp only
      rw [low_isSo _ _ _ _ _ _ _ _ _ hj]
      exact (if_neg (show j ≠ 144 by omega)).trans ((low_cp b.2 hj).trans (i3 j hj))
set_option maxHeartbeats 2000000 in
theorem q_was {Bd : Int} {lt g sun dry pf kf fs ft fh v ms sl tx f1 f2 f3 : Nat → Int32} {sz len need psz ksz : Int32} {zk na nk nl : Nat} (tg : Nat → Int32) (p : Int32) (hI : Inv Bd lt sz g sun dry len need pf psz kf ksz fs ft fh zk v ms sl tx f1 f2 f3 na nk nl) (hB : Bd < 1000000) : o_X7_was_r g tg sun dry len need fs ft fh zk p = o_X8_was_r v ms sl f1 f2 f3 p zk ∧ Inv (Bd + 24) lt sz g sun dry len need pf psz kf ksz fs ft fh zk v ms (o_X8_was_2 v ms sl f1 f2 f3 p zk) tx f1 f2 f3 na nk nl := by
  have hI' := hI
  obtain ⟨hs, he, hg, hp, p1, p2, p3, hk, k1, k2, k3, t1, t2, t3, t4, z1, z2, z3⟩ := hI'
  unfold o_X7_was_r o_X8_was_r o_X8_was_2
  rw [w_one]
  by_cases c0 : o_X7_isSide_r p = 0
  · simp only [if_pos c0]; exact ⟨trivial, hI.le (by omega)⟩
  rw [e_over (v := v) (b := 0) (sun := sun) (dry := dry) (len := len) he]
  by_cases c3 : o_X7_isOver_r g sun dry len need = 0
  · by_cases c4 : p = 0
    · simp only [if_neg c0, if_pos c3, if_pos c4]
      obtain ⟨b1, b3⟩ := was_0 v ms sl g tg sun dry fs ft fh f1 f2 f3 len need 0 0 zk hs he hg z2 z3 (by omega) 5 (by decide)
      exact ⟨b1, (hI.le (by omega)).tried b3 rfl rfl rfl rfl rfl rfl rfl⟩
    · simp only [if_neg c0, if_pos c3, if_neg c4]
      obtain ⟨b1, b3⟩ := was_1 v ms sl g tg sun dry fs ft fh f1 f2 f3 len need 1 1 zk hs he hg z2 z3 (by omega) 5 (by decide)
      exact ⟨b1, (hI.le (by omega)).tried b3 rfl rfl rfl rfl rfl rfl rfl⟩
  · by_cases c4 : p = 0
    · simp only [if_neg c0, if_neg c3, if_pos c4]; exact ⟨trivial, hI.le (by omega)⟩
    · simp only [if_neg c0, if_neg c3, if_neg c4]; exact ⟨trivial, hI.le (by omega)⟩
