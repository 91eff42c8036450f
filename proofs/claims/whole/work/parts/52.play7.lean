def bnd (x : Int32) : Prop := -140 ≤ x.toInt ∧ x.toInt ≤ 140
theorem ld_b1 : ∀ a b : Fin 41, (-140 ≤ (nI a.val - nI b.val).toInt ∧ (nI a.val - nI b.val).toInt ≤ 140) ∧ (-140 ≤ ((nI a.val - nI b.val) - 100).toInt ∧ ((nI a.val - nI b.val) - 100).toInt ≤ 140) ∧ (-140 ≤ ((nI a.val - nI b.val) + 100).toInt ∧ ((nI a.val - nI b.val) + 100).toInt ≤ 140) := by decide +kernel
theorem ld_b {B : Int} {c : gT} {need : Int32} (h : gd B c need) : bnd (ld need c) := by
  obtain ⟨a, ha, e1⟩ := mB_cases40 h.2.2.1
  obtain ⟨b, hb, e2⟩ := mB_cases40 h.2.2.2.1
  obtain ⟨k1, k2, k3⟩ := ld_b1 ⟨a, by omega⟩ ⟨b, by omega⟩
  unfold ld bnd
  rw [e1, e2]
  split
  · exact k2
  · split
    · exact k3
    · exact k1
theorem bnd_hi {x : Int32} (h : bnd x) : x < 9999 := by
  rw [Int32.lt_iff_toInt_lt, show (9999 : Int32).toInt = 9999 from by decide]
  have := h.2
  omega
theorem bnd_lo {x : Int32} (h : bnd x) : -9999 < x := by
  rw [Int32.lt_iff_toInt_lt, show (-9999 : Int32).toInt = -9999 from by decide]
  have := h.1
  omega
theorem bnd_hi2 {x : Int32} (h : bnd x) : x < 100000 := by
  rw [Int32.lt_iff_toInt_lt, show (100000 : Int32).toInt = 100000 from by decide]
  have := h.2
  omega
theorem bnd_lo2 {x : Int32} (h : bnd x) : ¬ x ≤ -100000 := by
  rw [Int32.le_iff_toInt_le, show (-100000 : Int32).toInt = -100000 from by decide]
  have := h.1
  omega
theorem btr_or (q : Nat) (x y : Int32) : btr q x y = x ∨ btr q x y = y := by
  unfold btr
  split <;> split <;> first | exact Or.inl rfl | exact Or.inr rfl
theorem mx_1 (q : Nat) {f : Nat → Int32} (h : bnd (f 0)) : mx5 q f 1 = f 0 := by
  show btr q (f 0) (ini q) = f 0
  unfold btr ini
  by_cases c : q % 2 = 0
  · rw [if_pos c, if_pos c, if_pos (bnd_lo h)]
  · rw [if_neg c, if_neg c, if_pos (bnd_hi h)]
theorem mx_b (q : Nat) {f : Nat → Int32} : ∀ k, (∀ i, i ≤ k → bnd (f i)) → bnd (mx5 q f (k + 1)) := by
  intro k
  induction k with
  | zero => intro h; rw [mx_1 q (h 0 (by omega))]; exact h 0 (by omega)
  | succ k ih =>
    intro h
    have i1 := ih (fun i hi => h i (by omega))
    show bnd (btr q (f (k + 1)) (mx5 q f (k + 1)))
    rcases btr_or q (f (k + 1)) (mx5 q f (k + 1)) with r | r <;> rw [r]
    · exact h (k + 1) (by omega)
    · exact i1
theorem mx_c (q : Nat) {x : Int32} (h : bnd x) : ∀ k, mx5 q (fun _ => x) (k + 1) = x := by
  intro k
  induction k with
  | zero => exact mx_1 q (f := fun _ => x) h
  | succ k ih =>
    show btr q x (mx5 q (fun _ => x) (k + 1)) = x
    rw [ih]
    rcases btr_or q x x with r | r <;> exact r
/-- gardens that a month leaves good -/
def gnx (N : gT → Int32 → Int32 → gT) (need : Int32) : Prop := ∀ (B : Int) (c : gT) (a b : Int32), gd B c need → B < 2000000000 → gd (B + 1) (N c a b) need
theorem rm_b {N : gT → Int32 → Int32 → gT} {need : Int32} (hN : gnx N need) : ∀ (m : Nat) (B : Int) (c : gT), gd B c need → B + (m : Int) < 2000000000 → bnd (rm N (ld need) m c) := by
  intro m
  induction m with
  | zero => intro B c h _; exact ld_b h
  | succ m ih =>
    intro B c h hB
    rw [rm]
    refine mx_b 0 4 (fun a _ => mx_b 1 4 (fun b _ => ih (B + 1) _ (hN B c _ _ h (by omega)) (by omega)))
theorem rm_over {sun dry : gT} {len need : Int32} {c : gT} {B : Int} (hc : cg c = c) (ho : ¬ lz c need = -4) (h : gd B c need) : ∀ m, rm (nx sun dry len need) (ld need) m c = ld need c := by
  have hn : ∀ a b, nx sun dry len need c a b = c := fun a b => by
    unfold nx o_X0_turn_g o_X0_turnBy_g
    rw [e_lz, if_neg ho]
    exact hc
  intro m
  induction m with
  | zero => rfl
  | succ m ih =>
    rw [rm]
    have e : (fun a => mx5 1 (fun b => rm (nx sun dry len need) (ld need) m (nx sun dry len need c (nI a) (nI b))) 5) = fun _ => ld need c := by
      funext a
      have e2 : (fun b => rm (nx sun dry len need) (ld need) m (nx sun dry len need c (nI a) (nI b))) = fun _ => ld need c := by
        funext b
        rw [hn, ih]
      rw [e2]
      exact mx_c 1 (ld_b h) 4
    rw [e]
    exact mx_c 0 (ld_b h) 4
/-- a garden in thirteen places of its own -/
def enc (g : gT) (need : Int32) : gT := fun j => match j - 143 with
  | 0 => g 0 | 1 => g 5 | 2 => g 1 | 3 => g 6 | 4 => g 2 | 5 => g 7 | 6 => g 3 | 7 => g 8 | 8 => g 4 | 9 => g 9 | 10 => g 10 | 11 => g 11 | _ => lz g need
theorem enc_en (g : gT) (need : Int32) : en 143 (enc g need) g need := ⟨rfl, rfl, rfl, rfl, rfl, rfl, rfl, rfl, rfl, rfl, rfl, rfl, rfl⟩
theorem gnx_of {v ms sun dry : gT} {len need : Int32} (hs : es v ms sun dry len need) : gnx (nx sun dry len need) need := fun B c a b h hB =>
  cg_gd (to_143 v ms (enc c need) c sun dry len need a b hs (enc_en c need) h hB).2.1
def wmn (f : Nat → Int32) : Nat → Int32
  | 0 => 100000
  | k + 1 => if f k < wmn f k then f k else wmn f k
theorem wmn_s (f : Nat → Int32) (k : Nat) : wmn f (k + 1) ≤ wmn f k := by
  rw [wmn]
  by_cases c : f k < wmn f k
  · rw [if_pos c]; exact Int32.le_of_lt c
  · rw [if_neg c]; exact Int32.le_refl _
theorem wmn_le (f : Nat → Int32) (k : Nat) : ∀ j, wmn f (k + j) ≤ wmn f k := by
  intro j
  induction j with
  | zero => exact Int32.le_refl _
  | succ j ih => exact Int32.le_trans (wmn_s f (k + j)) ih
theorem wmn_mx {f : Nat → Int32} (h : bnd (f 0)) : ∀ k, wmn f (k + 1) = mx5 1 f (k + 1) := by
  intro k
  induction k with
  | zero => rw [mx_1 1 h, wmn, wmn, if_pos (bnd_hi2 h)]
  | succ k ih =>
    rw [wmn, mx5, ih]
    unfold btr
    rw [if_neg (show ¬ 1 % 2 = 0 by decide)]
def bmx (F : Nat → Int32) : Nat → Int32
  | 0 => (-100000)
  | k + 1 => if F k ≤ bmx F k then bmx F k else F k
def bam (F : Nat → Int32) (r : Int32) : Nat → Int32
  | 0 => r
  | k + 1 => if F k ≤ bmx F k then bam F r k else nI k
theorem bmx_mx {F : Nat → Int32} (h : bnd (F 0)) : ∀ k, bmx F (k + 1) = mx5 0 F (k + 1) := by
  intro k
  induction k with
  | zero => rw [mx_1 0 h, bmx, bmx, if_neg (bnd_lo2 h)]
  | succ k ih =>
    rw [bmx, mx5, ih]
    unfold btr
    rw [if_pos rfl, ite_flip]
theorem bam_am {F : Nat → Int32} (h : bnd (F 0)) (r : Int32) : ∀ k, bam F r (k + 1) = am5 F (k + 1) := by
  intro k
  induction k with
  | zero => rw [bam, bmx, if_neg (bnd_lo2 h), am5, if_pos (show mx5 0 F 0 < F 0 from bnd_lo h)]
  | succ k ih => rw [bam, am5, bmx_mx h, ih, ite_flip]
theorem e_lead (fl fr : gT) (si mo at_ : Int32) (wk sun dry : gT) (len need dp : Int32) {d : Nat} (hd : d ≤ 5) (e : dp * 12 = nI (12 * d)) : o_X3_leadAt_r fl fr si mo at_ wk sun dry len need dp = ld need (lev fl d) := by
  unfold o_X3_leadAt_r ld
  rw [open_lev fl fr si mo at_ wk dp hd e, e_lz, lz_mix, mixG_1, mixG_6]
theorem e_isov (fl fr : gT) (si mo at_ : Int32) (wk sun dry : gT) (len need dp : Int32) {d : Nat} (hd : d ≤ 5) (e : dp * 12 = nI (12 * d)) : o_X3_isOver_r fl fr si mo at_ wk sun dry len need dp = if lz (lev fl d) need = -4 then 0 else 1 := by
  unfold o_X3_isOver_r
  rw [open_lev fl fr si mo at_ wk dp hd e, e_lz, lz_mix]
theorem lev_cg (fl : gT) (d : Nat) : cg (lev fl d) = lev fl d := rfl
/-- what a search of turns from depth d on leaves -/
def blp (sun dry : gT) (len need : Int32) (d m : Nat) (fl fr : gT) (r : Int32) (f1 f2 : gT) : Prop := r = rm (nx sun dry len need) (ld need) m (lev fl d) ∧ (∀ j, j < 12 * (d + 1) → f1 j = fl j) ∧ (∀ j, j < d → f2 j = fr j)
theorem bl_3 (sun dry : gT) (len need si at_ : Int32) (M : Nat) (hM : M ≤ 3) (_hd : 3 ≤ M) (fl fr wk : gT) {B : Int} (_hg : gd B (lev fl 3) need) (_hB : B + 7 < 2000000000) (_hN : gnx (nx sun dry len need) need) : blp sun dry len need 3 (M - 3) fl fr (o_X7_bestLead_d3_r fl fr si (nI M) at_ wk sun dry len need) fl fr := by
  refine ⟨?_, fun j _ => rfl, fun j _ => rfl⟩
  rw [show M - 3 = 0 by omega]
  unfold o_X7_bestLead_d3_r
  exact e_lead fl fr si (nI M) at_ wk sun dry len need 3 (d := 3) (by decide) (by decide)
set_option maxHeartbeats 4000000 in
theorem bx_2 (sun dry : gT) (len need si at_ : Int32) (M : Nat) (hM : M ≤ 3) (hd : 2 < M) (fl fr wk : gT) {B : Int} (hg : gd B (lev fl 2) need) (hB : B + 8 < 2000000000) (hN : gnx (nx sun dry len need) need) (k0 : Nat) (b0 : Int32) (b1 b2 b3 : gT) :
    ∀ (j k : Nat) (w : Int32) (u1 u3 : gT), k + j = 5 → w = wmn (fun b => rm (nx sun dry len need) (ld need) (M - 3) (nx sun dry len need (lev fl 2) (nI k0) (nI b))) k → (∀ q, q < 12 * (2 + 1) → u1 q = fl q) →
      (((X_X7_bestLead_d2_1 fl fr si (nI M) at_ wk sun dry len need k0 b0 b1 b2 b3 j k w u1 u3).1 ≤ b0 ↔ wmn (fun b => rm (nx sun dry len need) (ld need) (M - 3) (nx sun dry len need (lev fl 2) (nI k0) (nI b))) 5 ≤ b0) ∧ (¬ (X_X7_bestLead_d2_1 fl fr si (nI M) at_ wk sun dry len need k0 b0 b1 b2 b3 j k w u1 u3).1 ≤ b0 → (X_X7_bestLead_d2_1 fl fr si (nI M) at_ wk sun dry len need k0 b0 b1 b2 b3 j k w u1 u3).1 = wmn (fun b => rm (nx sun dry len need) (ld need) (M - 3) (nx sun dry len need (lev fl 2) (nI k0) (nI b))) 5)) ∧ (∀ q, q < 12 * (2 + 1) → (X_X7_bestLead_d2_1 fl fr si (nI M) at_ wk sun dry len need k0 b0 b1 b2 b3 j k w u1 u3).2.1 q = fl q) := by
  intro j
  induction j with
  | zero =>
    intro k w u1 u3 hk hw h1 
    obtain rfl : k = 5 := by omega
    rw [X_X7_bestLead_d2_1]
    refine ⟨⟨by rw [hw], fun _ => hw⟩, h1⟩
  | succ j ih =>
    intro k w u1 u3 hk hw h1 
    rw [X_X7_bestLead_d2_1]
    by_cases c : w ≤ b0
    · rw [if_pos c]
      have hle : wmn (fun b => rm (nx sun dry len need) (ld need) (M - 3) (nx sun dry len need (lev fl 2) (nI k0) (nI b))) 5 ≤ b0 := by
        have := wmn_le (fun b => rm (nx sun dry len need) (ld need) (M - 3) (nx sun dry len need (lev fl 2) (nI k0) (nI b))) k (j + 1)
        rw [hk, ← hw] at this
        exact Int32.le_trans this c
      exact ⟨⟨⟨fun _ => hle, fun _ => c⟩, fun q => absurd c q⟩, h1⟩
    · rw [if_neg c]
      obtain ⟨a1, a2⟩ := att_lev u1 b2 si (nI M) at_ u3 sun dry len need 2 (nI k0) (nI k) (d := 2) (by decide) (by decide) (by decide)
      rw [lev_cong (f := u1) (h := fl) (d := 2) (fun q _ hq => h1 q hq)] at a1
      have a1 : lev (o_X3_attempt_1 u1 b2 si (nI M) at_ u3 sun dry len need 2 (nI k0) (nI k)) 3 = nx sun dry len need (lev fl 2) (nI k0) (nI k) := a1
      have hn := bl_3 sun dry len need si at_ M hM hd (o_X3_attempt_1 u1 b2 si (nI M) at_ u3 sun dry len need 2 (nI k0) (nI k)) b2 (o_X3_attempt_wk u1 b2 si (nI M) at_ u3 sun dry len need 2 (nI k0) (nI k)) (B := B + 1) (by rw [a1]; exact hN B _ _ _ hg (by omega)) (by omega) hN
      obtain ⟨n1, n2, n3⟩ := hn
      rw [a1] at n1
      exact ih (k + 1) _ _ _ (by omega) (by rw [n1, hw]; rfl) (fun q hq => (a2 q hq).trans (h1 q hq)) 
set_option maxHeartbeats 4000000 in
theorem bL_2 (sun dry : gT) (len need si at_ : Int32) (M : Nat) (hM : M ≤ 3) (hd : 2 < M) (fl fr wk : gT) {B : Int} (hg : gd B (lev fl 2) need) (hB : B + 8 < 2000000000) (hN : gnx (nx sun dry len need) need) :
    ∀ k : Nat, k ≤ 5 → (L_X7_bestLead_d2_0 fl fr si (nI M) at_ wk sun dry len need k).1 = bmx (fun a => wmn (fun b => rm (nx sun dry len need) (ld need) (M - 3) (nx sun dry len need (lev fl 2) (nI a) (nI b))) 5) k ∧ (∀ q, q < 12 * (2 + 1) → (L_X7_bestLead_d2_0 fl fr si (nI M) at_ wk sun dry len need k).2.1 q = fl q) ∧ (∀ q, q < 2 → (L_X7_bestLead_d2_0 fl fr si (nI M) at_ wk sun dry len need k).2.2.1 q = fr q) ∧ (L_X7_bestLead_d2_0 fl fr si (nI M) at_ wk sun dry len need k).2.2.1 2 = bam (fun a => wmn (fun b => rm (nx sun dry len need) (ld need) (M - 3) (nx sun dry len need (lev fl 2) (nI a) (nI b))) 5) (fr 2) k := by
  intro k
  induction k with
  | zero => intro _; exact ⟨rfl, fun q _ => rfl, fun q _ => rfl, rfl⟩
  | succ k ih =>
    intro hk
    obtain ⟨i1, i2, i3, i4⟩ := ih (by omega)
    rw [L_X7_bestLead_d2_0]
    dsimp only
    generalize L_X7_bestLead_d2_0 fl fr si (nI M) at_ wk sun dry len need k = S at i1 i2 i3 i4 ⊢
    have hx := bx_2 sun dry len need si at_ M hM hd fl fr wk hg hB hN k S.1 S.2.1 S.2.2.1 S.2.2.2 5 0 100000 S.2.1 S.2.2.2 rfl rfl i2
    unfold j_X7_bestLead_d2_2_0 j_X7_bestLead_d2_2_1
    generalize (X_X7_bestLead_d2_1 fl fr si (nI M) at_ wk sun dry len need k S.1 S.2.1 S.2.2.1 S.2.2.2 5 0 100000 S.2.1 S.2.2.2) = R at hx ⊢
    obtain ⟨⟨x1, x2⟩, x3⟩ := hx
    have hset : ∀ q, o_X7_setCell_0 5 S.2.2.1 2 (nI k) q = if q = 2 then nI k else S.2.2.1 q := fun q => by
      rw [show (2 : Int32) = nI 2 from rfl, set_eq S.2.2.1 _ (by decide) (by decide)]; rfl
    by_cases c : R.1 ≤ S.1
    · have c2 : wmn (fun b => rm (nx sun dry len need) (ld need) (M - 3) (nx sun dry len need (lev fl 2) (nI k) (nI b))) 5 ≤ bmx (fun a => wmn (fun b => rm (nx sun dry len need) (ld need) (M - 3) (nx sun dry len need (lev fl 2) (nI a) (nI b))) 5) k := by rw [← i1]; exact x1.mp c
      rw [if_pos c, if_pos c]
      refine ⟨?_, x3, fun q hq => i3 q hq, ?_⟩
      · rw [bmx, if_pos c2]; exact i1
      · rw [bam, if_pos c2]; exact i4
    · have c2 : ¬ wmn (fun b => rm (nx sun dry len need) (ld need) (M - 3) (nx sun dry len need (lev fl 2) (nI k) (nI b))) 5 ≤ bmx (fun a => wmn (fun b => rm (nx sun dry len need) (ld need) (M - 3) (nx sun dry len need (lev fl 2) (nI a) (nI b))) 5) k := by rw [← i1]; exact fun z => c (x1.mpr z)
      rw [if_neg c, if_neg c]
      refine ⟨?_, x3, fun q hq => ?_, ?_⟩
      · rw [bmx, if_neg c2]; exact x2 c
      · rw [hset q, if_neg (by omega)]; exact i3 q hq
      · rw [hset 2, if_pos rfl, bam, if_neg c2]
set_option maxHeartbeats 4000000 in
theorem bl_2 (sun dry : gT) (len need si at_ : Int32) (M : Nat) (hM : M ≤ 3) (hd : 2 ≤ M) (fl fr wk : gT) {B : Int} (hg : gd B (lev fl 2) need) (hB : B + 8 < 2000000000) (hN : gnx (nx sun dry len need) need) : blp sun dry len need 2 (M - 2) fl fr (o_X7_bestLead_d2_r fl fr si (nI M) at_ wk sun dry len need) (o_X7_bestLead_d2_1 fl fr si (nI M) at_ wk sun dry len need) (o_X7_bestLead_d2_2 fl fr si (nI M) at_ wk sun dry len need) ∧ (2 < M → lz (lev fl 2) need = -4 → o_X7_bestLead_d2_2 fl fr si (nI M) at_ wk sun dry len need 2 = am5 (fun a => mx5 1 (fun b => rm (nx sun dry len need) (ld need) (M - 3) (nx sun dry len need (lev fl 2) (nI a) (nI b))) 5) 5) := by
  unfold o_X7_bestLead_d2_r o_X7_bestLead_d2_1 o_X7_bestLead_d2_2
  rw [e_lead fl fr si (nI M) at_ wk sun dry len need 2 (d := 2) (by decide) (by decide), e_lead fl fr si (nI M) at_ (o_X3_isOver_wk fl fr si (nI M) at_ wk sun dry len need 2) sun dry len need 2 (d := 2) (by decide) (by decide), e_isov fl fr si (nI M) at_ wk sun dry len need 2 (d := 2) (by decide) (by decide)]
  by_cases c : M = 2
  · subst c
    have c5 : nI 2 ≤ 2 := by decide
    simp only [if_pos c5]
    refine ⟨⟨?_, fun q _ => rfl, fun q _ => rfl⟩, fun h => absurd h (by omega)⟩
    rw [show 2 - 2 = 0 by omega]
    rfl
  · have c5 : ¬ nI M ≤ 2 := (show ¬ nI M ≤ nI 2 by rw [nI_led 2 (by omega) (by decide)]; omega)
    simp only [if_neg c5]
    by_cases o : lz (lev fl 2) need = -4
    · simp only [if_pos o, if_true]
      obtain ⟨l1, l2, l3, l4⟩ := bL_2 sun dry len need si at_ M hM (by omega) fl fr wk hg hB hN 5 (by decide)
      have hf : ∀ a, bnd (rm (nx sun dry len need) (ld need) (M - 3) (nx sun dry len need (lev fl 2) (nI a) (nI 0))) := fun a => rm_b hN _ (B + 1) _ (hN B _ _ _ hg (by omega)) (by omega)
      have hmx : (fun a => wmn (fun b => rm (nx sun dry len need) (ld need) (M - 3) (nx sun dry len need (lev fl 2) (nI a) (nI b))) 5) = fun a => mx5 1 (fun b => rm (nx sun dry len need) (ld need) (M - 3) (nx sun dry len need (lev fl 2) (nI a) (nI b))) 5 := by
        funext a
        exact wmn_mx (hf a) 4
      have hF0 : bnd (mx5 1 (fun b => rm (nx sun dry len need) (ld need) (M - 3) (nx sun dry len need (lev fl 2) (nI 0) (nI b))) 5) := mx_b 1 4 (fun b _ => rm_b hN _ (B + 1) _ (hN B _ _ _ hg (by omega)) (by omega))
      rw [hmx] at l1 l4
      refine ⟨⟨?_, l2, l3⟩, fun _ _ => ?_⟩
      · rw [l1, show M - 2 = (M - 3) + 1 by omega, rm]
        exact bmx_mx (F := fun a => mx5 1 (fun b => rm (nx sun dry len need) (ld need) (M - 3) (nx sun dry len need (lev fl 2) (nI a) (nI b))) 5) hF0 4
      · rw [l4]
        exact bam_am (F := fun a => mx5 1 (fun b => rm (nx sun dry len need) (ld need) (M - 3) (nx sun dry len need (lev fl 2) (nI a) (nI b))) 5) hF0 _ 4
    · simp only [if_neg o, if_neg (show ¬ (1 : Int32) = 0 by decide)]
      exact ⟨⟨(rm_over (lev_cg fl 2) o hg _).symm, fun q _ => rfl, fun q _ => rfl⟩, fun _ h => absurd h o⟩
set_option maxHeartbeats 4000000 in
theorem bx_1 (sun dry : gT) (len need si at_ : Int32) (M : Nat) (hM : M ≤ 3) (hd : 1 < M) (fl fr wk : gT) {B : Int} (hg : gd B (lev fl 1) need) (hB : B + 9 < 2000000000) (hN : gnx (nx sun dry len need) need) (k0 : Nat) (b0 : Int32) (b1 b2 b3 : gT) :
    ∀ (j k : Nat) (w : Int32) (u1 u2 u3 : gT), k + j = 5 → w = wmn (fun b => rm (nx sun dry len need) (ld need) (M - 2) (nx sun dry len need (lev fl 1) (nI k0) (nI b))) k → (∀ q, q < 12 * (1 + 1) → u1 q = fl q) → (∀ q, q < 2 → u2 q = b2 q) →
      (((X_X7_bestLead_d1_1 fl fr si (nI M) at_ wk sun dry len need k0 b0 b1 b2 b3 j k w u1 u2 u3).1 ≤ b0 ↔ wmn (fun b => rm (nx sun dry len need) (ld need) (M - 2) (nx sun dry len need (lev fl 1) (nI k0) (nI b))) 5 ≤ b0) ∧ (¬ (X_X7_bestLead_d1_1 fl fr si (nI M) at_ wk sun dry len need k0 b0 b1 b2 b3 j k w u1 u2 u3).1 ≤ b0 → (X_X7_bestLead_d1_1 fl fr si (nI M) at_ wk sun dry len need k0 b0 b1 b2 b3 j k w u1 u2 u3).1 = wmn (fun b => rm (nx sun dry len need) (ld need) (M - 2) (nx sun dry len need (lev fl 1) (nI k0) (nI b))) 5)) ∧ (∀ q, q < 12 * (1 + 1) → (X_X7_bestLead_d1_1 fl fr si (nI M) at_ wk sun dry len need k0 b0 b1 b2 b3 j k w u1 u2 u3).2.1 q = fl q) ∧ (∀ q, q < 2 → (X_X7_bestLead_d1_1 fl fr si (nI M) at_ wk sun dry len need k0 b0 b1 b2 b3 j k w u1 u2 u3).2.2.1 q = b2 q) := by
  intro j
  induction j with
  | zero =>
    intro k w u1 u2 u3 hk hw h1 h2
    obtain rfl : k = 5 := by omega
    rw [X_X7_bestLead_d1_1]
    refine ⟨⟨by rw [hw], fun _ => hw⟩, h1, h2⟩
  | succ j ih =>
    intro k w u1 u2 u3 hk hw h1 h2
    rw [X_X7_bestLead_d1_1]
    by_cases c : w ≤ b0
    · rw [if_pos c]
      have hle : wmn (fun b => rm (nx sun dry len need) (ld need) (M - 2) (nx sun dry len need (lev fl 1) (nI k0) (nI b))) 5 ≤ b0 := by
        have := wmn_le (fun b => rm (nx sun dry len need) (ld need) (M - 2) (nx sun dry len need (lev fl 1) (nI k0) (nI b))) k (j + 1)
        rw [hk, ← hw] at this
        exact Int32.le_trans this c
      exact ⟨⟨⟨fun _ => hle, fun _ => c⟩, fun q => absurd c q⟩, h1, h2⟩
    · rw [if_neg c]
      obtain ⟨a1, a2⟩ := att_lev u1 u2 si (nI M) at_ u3 sun dry len need 1 (nI k0) (nI k) (d := 1) (by decide) (by decide) (by decide)
      rw [lev_cong (f := u1) (h := fl) (d := 1) (fun q _ hq => h1 q hq)] at a1
      have a1 : lev (o_X3_attempt_1 u1 u2 si (nI M) at_ u3 sun dry len need 1 (nI k0) (nI k)) 2 = nx sun dry len need (lev fl 1) (nI k0) (nI k) := a1
      have hn := bl_2 sun dry len need si at_ M hM hd (o_X3_attempt_1 u1 u2 si (nI M) at_ u3 sun dry len need 1 (nI k0) (nI k)) u2 (o_X3_attempt_wk u1 u2 si (nI M) at_ u3 sun dry len need 1 (nI k0) (nI k)) (B := B + 1) (by rw [a1]; exact hN B _ _ _ hg (by omega)) (by omega) hN
      obtain ⟨n1, n2, n3⟩ := hn.1
      rw [a1] at n1
      exact ih (k + 1) _ _ _ _ (by omega) (by rw [n1, hw]; rfl) (fun q hq => (n2 q (by omega)).trans ((a2 q hq).trans (h1 q hq))) (fun q hq => (n3 q hq).trans (h2 q hq))
set_option maxHeartbeats 4000000 in
theorem bL_1 (sun dry : gT) (len need si at_ : Int32) (M : Nat) (hM : M ≤ 3) (hd : 1 < M) (fl fr wk : gT) {B : Int} (hg : gd B (lev fl 1) need) (hB : B + 9 < 2000000000) (hN : gnx (nx sun dry len need) need) :
    ∀ k : Nat, k ≤ 5 → (L_X7_bestLead_d1_0 fl fr si (nI M) at_ wk sun dry len need k).1 = bmx (fun a => wmn (fun b => rm (nx sun dry len need) (ld need) (M - 2) (nx sun dry len need (lev fl 1) (nI a) (nI b))) 5) k ∧ (∀ q, q < 12 * (1 + 1) → (L_X7_bestLead_d1_0 fl fr si (nI M) at_ wk sun dry len need k).2.1 q = fl q) ∧ (∀ q, q < 1 → (L_X7_bestLead_d1_0 fl fr si (nI M) at_ wk sun dry len need k).2.2.1 q = fr q) ∧ (L_X7_bestLead_d1_0 fl fr si (nI M) at_ wk sun dry len need k).2.2.1 1 = bam (fun a => wmn (fun b => rm (nx sun dry len need) (ld need) (M - 2) (nx sun dry len need (lev fl 1) (nI a) (nI b))) 5) (fr 1) k := by
  intro k
  induction k with
  | zero => intro _; exact ⟨rfl, fun q _ => rfl, fun q _ => rfl, rfl⟩
  | succ k ih =>
    intro hk
    obtain ⟨i1, i2, i3, i4⟩ := ih (by omega)
    rw [L_X7_bestLead_d1_0]
    dsimp only
    generalize L_X7_bestLead_d1_0 fl fr si (nI M) at_ wk sun dry len need k = S at i1 i2 i3 i4 ⊢
    have hx := bx_1 sun dry len need si at_ M hM hd fl fr wk hg hB hN k S.1 S.2.1 S.2.2.1 S.2.2.2 5 0 100000 S.2.1 S.2.2.1 S.2.2.2 rfl rfl i2 (fun q _ => rfl)
    unfold j_X7_bestLead_d1_2_0 j_X7_bestLead_d1_2_1
    generalize (X_X7_bestLead_d1_1 fl fr si (nI M) at_ wk sun dry len need k S.1 S.2.1 S.2.2.1 S.2.2.2 5 0 100000 S.2.1 S.2.2.1 S.2.2.2) = R at hx ⊢
    obtain ⟨⟨x1, x2⟩, x3, x4⟩ := hx
    have hset : ∀ q, o_X7_setCell_0 5 R.2.2.1 1 (nI k) q = if q = 1 then nI k else R.2.2.1 q := fun q => by
      rw [show (1 : Int32) = nI 1 from rfl, set_eq R.2.2.1 _ (by decide) (by decide)]; rfl
    by_cases c : R.1 ≤ S.1
    · have c2 : wmn (fun b => rm (nx sun dry len need) (ld need) (M - 2) (nx sun dry len need (lev fl 1) (nI k) (nI b))) 5 ≤ bmx (fun a => wmn (fun b => rm (nx sun dry len need) (ld need) (M - 2) (nx sun dry len need (lev fl 1) (nI a) (nI b))) 5) k := by rw [← i1]; exact x1.mp c
      rw [if_pos c, if_pos c]
      refine ⟨?_, x3, fun q hq => (x4 q (by omega)).trans (i3 q hq), ?_⟩
      · rw [bmx, if_pos c2]; exact i1
      · rw [bam, if_pos c2]; exact (x4 1 (by decide)).trans i4
    · have c2 : ¬ wmn (fun b => rm (nx sun dry len need) (ld need) (M - 2) (nx sun dry len need (lev fl 1) (nI k) (nI b))) 5 ≤ bmx (fun a => wmn (fun b => rm (nx sun dry len need) (ld need) (M - 2) (nx sun dry len need (lev fl 1) (nI a) (nI b))) 5) k := by rw [← i1]; exact fun z => c (x1.mpr z)
      rw [if_neg c, if_neg c]
      refine ⟨?_, x3, fun q hq => ?_, ?_⟩
      · rw [bmx, if_neg c2]; exact x2 c
      · rw [hset q, if_neg (by omega)]; exact (x4 q (by omega)).trans (i3 q hq)
      · rw [hset 1, if_pos rfl, bam, if_neg c2]
set_option maxHeartbeats 4000000 in
theorem bl_1 (sun dry : gT) (len need si at_ : Int32) (M : Nat) (hM : M ≤ 3) (hd : 1 ≤ M) (fl fr wk : gT) {B : Int} (hg : gd B (lev fl 1) need) (hB : B + 9 < 2000000000) (hN : gnx (nx sun dry len need) need) : blp sun dry len need 1 (M - 1) fl fr (o_X7_bestLead_d1_r fl fr si (nI M) at_ wk sun dry len need) (o_X7_bestLead_d1_1 fl fr si (nI M) at_ wk sun dry len need) (o_X7_bestLead_d1_2 fl fr si (nI M) at_ wk sun dry len need) ∧ (1 < M → lz (lev fl 1) need = -4 → o_X7_bestLead_d1_2 fl fr si (nI M) at_ wk sun dry len need 1 = am5 (fun a => mx5 1 (fun b => rm (nx sun dry len need) (ld need) (M - 2) (nx sun dry len need (lev fl 1) (nI a) (nI b))) 5) 5) := by
  unfold o_X7_bestLead_d1_r o_X7_bestLead_d1_1 o_X7_bestLead_d1_2
  rw [e_lead fl fr si (nI M) at_ wk sun dry len need 1 (d := 1) (by decide) (by decide), e_lead fl fr si (nI M) at_ (o_X3_isOver_wk fl fr si (nI M) at_ wk sun dry len need 1) sun dry len need 1 (d := 1) (by decide) (by decide), e_isov fl fr si (nI M) at_ wk sun dry len need 1 (d := 1) (by decide) (by decide)]
  by_cases c : M = 1
  · subst c
    have c5 : nI 1 ≤ 1 := by decide
    simp only [if_pos c5]
    refine ⟨⟨?_, fun q _ => rfl, fun q _ => rfl⟩, fun h => absurd h (by omega)⟩
    rw [show 1 - 1 = 0 by omega]
    rfl
  · have c5 : ¬ nI M ≤ 1 := (show ¬ nI M ≤ nI 1 by rw [nI_led 1 (by omega) (by decide)]; omega)
    simp only [if_neg c5]
    by_cases o : lz (lev fl 1) need = -4
    · simp only [if_pos o, if_true]
      obtain ⟨l1, l2, l3, l4⟩ := bL_1 sun dry len need si at_ M hM (by omega) fl fr wk hg hB hN 5 (by decide)
      have hf : ∀ a, bnd (rm (nx sun dry len need) (ld need) (M - 2) (nx sun dry len need (lev fl 1) (nI a) (nI 0))) := fun a => rm_b hN _ (B + 1) _ (hN B _ _ _ hg (by omega)) (by omega)
      have hmx : (fun a => wmn (fun b => rm (nx sun dry len need) (ld need) (M - 2) (nx sun dry len need (lev fl 1) (nI a) (nI b))) 5) = fun a => mx5 1 (fun b => rm (nx sun dry len need) (ld need) (M - 2) (nx sun dry len need (lev fl 1) (nI a) (nI b))) 5 := by
        funext a
        exact wmn_mx (hf a) 4
      have hF0 : bnd (mx5 1 (fun b => rm (nx sun dry len need) (ld need) (M - 2) (nx sun dry len need (lev fl 1) (nI 0) (nI b))) 5) := mx_b 1 4 (fun b _ => rm_b hN _ (B + 1) _ (hN B _ _ _ hg (by omega)) (by omega))
      rw [hmx] at l1 l4
      refine ⟨⟨?_, l2, l3⟩, fun _ _ => ?_⟩
      · rw [l1, show M - 1 = (M - 2) + 1 by omega, rm]
        exact bmx_mx (F := fun a => mx5 1 (fun b => rm (nx sun dry len need) (ld need) (M - 2) (nx sun dry len need (lev fl 1) (nI a) (nI b))) 5) hF0 4
      · rw [l4]
        exact bam_am (F := fun a => mx5 1 (fun b => rm (nx sun dry len need) (ld need) (M - 2) (nx sun dry len need (lev fl 1) (nI a) (nI b))) 5) hF0 _ 4
    · simp only [if_neg o, if_neg (show ¬ (1 : Int32) = 0 by decide)]
      exact ⟨⟨(rm_over (lev_cg fl 1) o hg _).symm, fun q _ => rfl, fun q _ => rfl⟩, fun _ h => absurd h o⟩
set_option maxHeartbeats 4000000 in
theorem bx_0 (sun dry : gT) (len need si at_ : Int32) (M : Nat) (hM : M ≤ 3) (hd : 0 < M) (fl fr wk : gT) {B : Int} (hg : gd B (lev fl 0) need) (hB : B + 10 < 2000000000) (hN : gnx (nx sun dry len need) need) (k0 : Nat) (b0 : Int32) (b1 b2 b3 : gT) :
    ∀ (j k : Nat) (w : Int32) (u1 u2 u3 : gT), k + j = 5 → w = wmn (fun b => rm (nx sun dry len need) (ld need) (M - 1) (nx sun dry len need (lev fl 0) (nI k0) (nI b))) k → (∀ q, q < 12 * (0 + 1) → u1 q = fl q) → (∀ q, q < 1 → u2 q = b2 q) →
      (((X_X7_bestLead_d0_1 fl fr si (nI M) at_ wk sun dry len need k0 b0 b1 b2 b3 j k w u1 u2 u3).1 ≤ b0 ↔ wmn (fun b => rm (nx sun dry len need) (ld need) (M - 1) (nx sun dry len need (lev fl 0) (nI k0) (nI b))) 5 ≤ b0) ∧ (¬ (X_X7_bestLead_d0_1 fl fr si (nI M) at_ wk sun dry len need k0 b0 b1 b2 b3 j k w u1 u2 u3).1 ≤ b0 → (X_X7_bestLead_d0_1 fl fr si (nI M) at_ wk sun dry len need k0 b0 b1 b2 b3 j k w u1 u2 u3).1 = wmn (fun b => rm (nx sun dry len need) (ld need) (M - 1) (nx sun dry len need (lev fl 0) (nI k0) (nI b))) 5)) ∧ (∀ q, q < 12 * (0 + 1) → (X_X7_bestLead_d0_1 fl fr si (nI M) at_ wk sun dry len need k0 b0 b1 b2 b3 j k w u1 u2 u3).2.1 q = fl q) ∧ (∀ q, q < 1 → (X_X7_bestLead_d0_1 fl fr si (nI M) at_ wk sun dry len need k0 b0 b1 b2 b3 j k w u1 u2 u3).2.2.1 q = b2 q) := by
  intro j
  induction j with
  | zero =>
    intro k w u1 u2 u3 hk hw h1 h2
    obtain rfl : k = 5 := by omega
    rw [X_X7_bestLead_d0_1]
    refine ⟨⟨by rw [hw], fun _ => hw⟩, h1, h2⟩
  | succ j ih =>
    intro k w u1 u2 u3 hk hw h1 h2
    rw [X_X7_bestLead_d0_1]
    by_cases c : w ≤ b0
    · rw [if_pos c]
      have hle : wmn (fun b => rm (nx sun dry len need) (ld need) (M - 1) (nx sun dry len need (lev fl 0) (nI k0) (nI b))) 5 ≤ b0 := by
        have := wmn_le (fun b => rm (nx sun dry len need) (ld need) (M - 1) (nx sun dry len need (lev fl 0) (nI k0) (nI b))) k (j + 1)
        rw [hk, ← hw] at this
        exact Int32.le_trans this c
      exact ⟨⟨⟨fun _ => hle, fun _ => c⟩, fun q => absurd c q⟩, h1, h2⟩
    · rw [if_neg c]
      obtain ⟨a1, a2⟩ := att_lev u1 u2 si (nI M) at_ u3 sun dry len need 0 (nI k0) (nI k) (d := 0) (by decide) (by decide) (by decide)
      rw [lev_cong (f := u1) (h := fl) (d := 0) (fun q _ hq => h1 q hq)] at a1
      have a1 : lev (o_X3_attempt_1 u1 u2 si (nI M) at_ u3 sun dry len need 0 (nI k0) (nI k)) 1 = nx sun dry len need (lev fl 0) (nI k0) (nI k) := a1
      have hn := bl_1 sun dry len need si at_ M hM hd (o_X3_attempt_1 u1 u2 si (nI M) at_ u3 sun dry len need 0 (nI k0) (nI k)) u2 (o_X3_attempt_wk u1 u2 si (nI M) at_ u3 sun dry len need 0 (nI k0) (nI k)) (B := B + 1) (by rw [a1]; exact hN B _ _ _ hg (by omega)) (by omega) hN
      obtain ⟨n1, n2, n3⟩ := hn.1
      rw [a1] at n1
      exact ih (k + 1) _ _ _ _ (by omega) (by rw [n1, hw]; rfl) (fun q hq => (n2 q (by omega)).trans ((a2 q hq).trans (h1 q hq))) (fun q hq => (n3 q hq).trans (h2 q hq))
set_option maxHeartbeats 4000000 in
theorem bL_0 (sun dry : gT) (len need si at_ : Int32) (M : Nat) (hM : M ≤ 3) (hd : 0 < M) (fl fr wk : gT) {B : Int} (hg : gd B (lev fl 0) need) (hB : B + 10 < 2000000000) (hN : gnx (nx sun dry len need) need) :
    ∀ k : Nat, k ≤ 5 → (L_X7_bestLead_d0_0 fl fr si (nI M) at_ wk sun dry len need k).1 = bmx (fun a => wmn (fun b => rm (nx sun dry len need) (ld need) (M - 1) (nx sun dry len need (lev fl 0) (nI a) (nI b))) 5) k ∧ (∀ q, q < 12 * (0 + 1) → (L_X7_bestLead_d0_0 fl fr si (nI M) at_ wk sun dry len need k).2.1 q = fl q) ∧ (∀ q, q < 0 → (L_X7_bestLead_d0_0 fl fr si (nI M) at_ wk sun dry len need k).2.2.1 q = fr q) ∧ (L_X7_bestLead_d0_0 fl fr si (nI M) at_ wk sun dry len need k).2.2.1 0 = bam (fun a => wmn (fun b => rm (nx sun dry len need) (ld need) (M - 1) (nx sun dry len need (lev fl 0) (nI a) (nI b))) 5) (fr 0) k := by
  intro k
  induction k with
  | zero => intro _; exact ⟨rfl, fun q _ => rfl, fun q _ => rfl, rfl⟩
  | succ k ih =>
    intro hk
    obtain ⟨i1, i2, i3, i4⟩ := ih (by omega)
    rw [L_X7_bestLead_d0_0]
    dsimp only
    generalize L_X7_bestLead_d0_0 fl fr si (nI M) at_ wk sun dry len need k = S at i1 i2 i3 i4 ⊢
    have hx := bx_0 sun dry len need si at_ M hM hd fl fr wk hg hB hN k S.1 S.2.1 S.2.2.1 S.2.2.2 5 0 100000 S.2.1 S.2.2.1 S.2.2.2 rfl rfl i2 (fun q _ => rfl)
    unfold j_X7_bestLead_d0_2_0 j_X7_bestLead_d0_2_1
    generalize (X_X7_bestLead_d0_1 fl fr si (nI M) at_ wk sun dry len need k S.1 S.2.1 S.2.2.1 S.2.2.2 5 0 100000 S.2.1 S.2.2.1 S.2.2.2) = R at hx ⊢
    obtain ⟨⟨x1, x2⟩, x3, x4⟩ := hx
    have hset : ∀ q, o_X7_setCell_0 5 R.2.2.1 0 (nI k) q = if q = 0 then nI k else R.2.2.1 q := fun q => by
      rw [show (0 : Int32) = nI 0 from rfl, set_eq R.2.2.1 _ (by decide) (by decide)]; rfl
    by_cases c : R.1 ≤ S.1
    · have c2 : wmn (fun b => rm (nx sun dry len need) (ld need) (M - 1) (nx sun dry len need (lev fl 0) (nI k) (nI b))) 5 ≤ bmx (fun a => wmn (fun b => rm (nx sun dry len need) (ld need) (M - 1) (nx sun dry len need (lev fl 0) (nI a) (nI b))) 5) k := by rw [← i1]; exact x1.mp c
      rw [if_pos c, if_pos c]
      refine ⟨?_, x3, fun q hq => (x4 q (by omega)).trans (i3 q hq), ?_⟩
      · rw [bmx, if_pos c2]; exact i1
      · rw [bam, if_pos c2]; exact (x4 0 (by decide)).trans i4
    · have c2 : ¬ wmn (fun b => rm (nx sun dry len need) (ld need) (M - 1) (nx sun dry len need (lev fl 0) (nI k) (nI b))) 5 ≤ bmx (fun a => wmn (fun b => rm (nx sun dry len need) (ld need) (M - 1) (nx sun dry len need (lev fl 0) (nI a) (nI b))) 5) k := by rw [← i1]; exact fun z => c (x1.mpr z)
      rw [if_neg c, if_neg c]
      refine ⟨?_, x3, fun q hq => ?_, ?_⟩
      · rw [bmx, if_neg c2]; exact x2 c
      · rw [hset q, if_neg (by omega)]; exact (x4 q (by omega)).trans (i3 q hq)
      · rw [hset 0, if_pos rfl, bam, if_neg c2]
set_option maxHeartbeats 4000000 in
theorem bl_0 (sun dry : gT) (len need si at_ : Int32) (M : Nat) (hM : M ≤ 3) (hd : 0 ≤ M) (fl fr wk : gT) {B : Int} (hg : gd B (lev fl 0) need) (hB : B + 10 < 2000000000) (hN : gnx (nx sun dry len need) need) : blp sun dry len need 0 (M - 0) fl fr (o_X7_bestLead_d0_r fl fr si (nI M) at_ wk sun dry len need) (o_X7_bestLead_d0_1 fl fr si (nI M) at_ wk sun dry len need) (o_X7_bestLead_d0_2 fl fr si (nI M) at_ wk sun dry len need) ∧ (0 < M → lz (lev fl 0) need = -4 → o_X7_bestLead_d0_2 fl fr si (nI M) at_ wk sun dry len need 0 = am5 (fun a => mx5 1 (fun b => rm (nx sun dry len need) (ld need) (M - 1) (nx sun dry len need (lev fl 0) (nI a) (nI b))) 5) 5) := by
  unfold o_X7_bestLead_d0_r o_X7_bestLead_d0_1 o_X7_bestLead_d0_2
  rw [e_lead fl fr si (nI M) at_ wk sun dry len need 0 (d := 0) (by decide) (by decide), e_lead fl fr si (nI M) at_ (o_X3_isOver_wk fl fr si (nI M) at_ wk sun dry len need 0) sun dry len need 0 (d := 0) (by decide) (by decide), e_isov fl fr si (nI M) at_ wk sun dry len need 0 (d := 0) (by decide) (by decide)]
  by_cases c : M = 0
  · subst c
    have c5 : nI 0 ≤ 0 := by decide
    simp only [if_pos c5]
    refine ⟨⟨?_, fun q _ => rfl, fun q _ => rfl⟩, fun h => absurd h (by omega)⟩
    rw [show 0 - 0 = 0 by omega]
    rfl
  · have c5 : ¬ nI M ≤ 0 := (show ¬ nI M ≤ nI 0 by rw [nI_led 0 (by omega) (by decide)]; omega)
    simp only [if_neg c5]
    by_cases o : lz (lev fl 0) need = -4
    · simp only [if_pos o, if_true]
      obtain ⟨l1, l2, l3, l4⟩ := bL_0 sun dry len need si at_ M hM (by omega) fl fr wk hg hB hN 5 (by decide)
      have hf : ∀ a, bnd (rm (nx sun dry len need) (ld need) (M - 1) (nx sun dry len need (lev fl 0) (nI a) (nI 0))) := fun a => rm_b hN _ (B + 1) _ (hN B _ _ _ hg (by omega)) (by omega)
      have hmx : (fun a => wmn (fun b => rm (nx sun dry len need) (ld need) (M - 1) (nx sun dry len need (lev fl 0) (nI a) (nI b))) 5) = fun a => mx5 1 (fun b => rm (nx sun dry len need) (ld need) (M - 1) (nx sun dry len need (lev fl 0) (nI a) (nI b))) 5 := by
        funext a
        exact wmn_mx (hf a) 4
      have hF0 : bnd (mx5 1 (fun b => rm (nx sun dry len need) (ld need) (M - 1) (nx sun dry len need (lev fl 0) (nI 0) (nI b))) 5) := mx_b 1 4 (fun b _ => rm_b hN _ (B + 1) _ (hN B _ _ _ hg (by omega)) (by omega))
      rw [hmx] at l1 l4
      refine ⟨⟨?_, l2, l3⟩, fun _ _ => ?_⟩
      · rw [l1, show M - 0 = (M - 1) + 1 by omega, rm]
        exact bmx_mx (F := fun a => mx5 1 (fun b => rm (nx sun dry len need) (ld need) (M - 1) (nx sun dry len need (lev fl 0) (nI a) (nI b))) 5) hF0 4
      · rw [l4]
        exact bam_am (F := fun a => mx5 1 (fun b => rm (nx sun dry len need) (ld need) (M - 1) (nx sun dry len need (lev fl 0) (nI a) (nI b))) 5) hF0 _ 4
    · simp only [if_neg o, if_neg (show ¬ (1 : Int32) = 0 by decide)]
      exact ⟨⟨(rm_over (lev_cg fl 0) o hg _).symm, fun q _ => rfl, fun q _ => rfl⟩, fun _ h => absurd h o⟩
