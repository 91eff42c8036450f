abbrev gT : Type := Nat → Int32
def cg (g : gT) : gT := mkG12 (g 0) (g 1) (g 2) (g 3) (g 4) (g 5) (g 6) (g 7) (g 8) (g 9) (g 10) (g 11)
def nx (sun dry : gT) (len need : Int32) (c : gT) (a b : Int32) : gT := cg (o_X0_turn_g c sun dry len need a b)
def fst5 (P : Nat → Option Nat) : Nat → Nat → Option Nat
  | 0, _ => none
  | j + 1, k => match P k with
    | some x => some x
    | none => fst5 P j (k + 1)
def fnd (N : gT → Nat → gT) (ok : gT → Bool) : Nat → gT → Option Nat
  | 0, c => if ok c then some 0 else none
  | m + 1, c => fst5 (fun e => (fnd N ok m (N c e)).map (fun k => e * 5 ^ m + k)) 5 0
def rnf (N : gT → Nat → gT) : Nat → Nat → gT → gT
  | 0, _, c => c
  | m + 1, k, c => rnf N m (k % 5 ^ m) (N c (k / 5 ^ m))
/-- the i-th figure of code k, of n figures -/
def dg (n k i : Nat) : Nat := (k / 5 ^ (n - (i + 1))) % 5
theorem fst5_cong {P Q : Nat → Option Nat} : ∀ (j k : Nat), (∀ i, k ≤ i → i < k + j → P i = Q i) → fst5 P j k = fst5 Q j k := by
  intro j
  induction j with
  | zero => intro k _; rfl
  | succ j ih =>
    intro k h
    rw [fst5, fst5, h k (by omega) (by omega), ih (k + 1) (fun i h1 h2 => h i (by omega) (by omega))]
theorem fst5_app (P : Nat → Option Nat) : ∀ (a b k : Nat), fst5 P (a + b) k = match fst5 P a k with | some x => some x | none => fst5 P b (k + a) := by
  intro a
  induction a with
  | zero => intro b k; rw [Nat.zero_add]; rfl
  | succ a ih =>
    intro b k
    rw [show a + 1 + b = (a + b) + 1 by omega, fst5, fst5]
    cases P k with
    | some x => rfl
    | none => rw [ih b (k + 1), show k + 1 + a = k + (a + 1) by omega]
theorem fst5_shift (P : Nat → Option Nat) (s : Nat) : ∀ (j k : Nat), fst5 P j (s + k) = fst5 (fun i => P (s + i)) j k := by
  intro j
  induction j with
  | zero => intro k; rfl
  | succ j ih => intro k; rw [fst5, fst5, show s + k + 1 = s + (k + 1) by omega, ih (k + 1)]
theorem fst5_map (P : Nat → Option Nat) (f : Nat → Nat) : ∀ (j k : Nat), fst5 (fun i => (P i).map f) j k = (fst5 P j k).map f := by
  intro j
  induction j with
  | zero => intro k; rfl
  | succ j ih =>
    intro k
    rw [fst5, fst5, ih (k + 1)]
    cases P k <;> rfl
theorem fst5_mul (P : Nat → Option Nat) (n : Nat) : ∀ (j e : Nat), fst5 P (j * n) (e * n) = fst5 (fun e => fst5 P n (e * n)) j e := by
  intro j
  induction j with
  | zero => intro e; rw [Nat.zero_mul]; rfl
  | succ j ih =>
    intro e
    rw [Nat.succ_mul, Nat.add_comm (j * n) n, fst5_app, fst5, show e * n + n = (e + 1) * n by rw [Nat.succ_mul], ih (e + 1)]
theorem fnd_scan (N : gT → Nat → gT) (ok : gT → Bool) : ∀ (n : Nat) (c : gT), fnd N ok n c = fst5 (fun k => if ok (rnf N n k c) then some k else none) (5 ^ n) 0 := by
  intro n
  induction n with
  | zero =>
    intro c
    rw [Nat.pow_zero]
    show (if ok c then some 0 else none) = match (if ok c then some 0 else none) with | some x => some x | none => none
    cases ok c <;> rfl
  | succ n ih =>
    intro c
    have h5 : 5 ^ (n + 1) = 5 * 5 ^ n := by rw [Nat.pow_succ, Nat.mul_comm]
    have hp : 0 < 5 ^ n := Nat.pow_pos (by decide)
    have hm := fst5_mul (fun k => if ok (rnf N (n + 1) k c) then some k else none) (5 ^ n) 5 0
    rw [Nat.zero_mul] at hm
    rw [fnd, h5, hm]
    refine fst5_cong 5 0 (fun e _ _ => ?_)
    have hsh : fst5 (fun k => if ok (rnf N (n + 1) k c) then some k else none) (5 ^ n) (e * 5 ^ n) = fst5 (fun i => (fun k => if ok (rnf N (n + 1) k c) then some k else none) (e * 5 ^ n + i)) (5 ^ n) 0 := fst5_shift (fun k => if ok (rnf N (n + 1) k c) then some k else none) (e * 5 ^ n) (5 ^ n) 0
    rw [hsh, ih (N c e), ← fst5_map]
    refine fst5_cong (5 ^ n) 0 (fun k _ hk => ?_)
    have hk2 : k < 5 ^ n := by rw [Nat.zero_add] at hk; exact hk
    have e1 : (e * 5 ^ n + k) / 5 ^ n = e := by rw [Nat.mul_comm, Nat.mul_add_div hp, Nat.div_eq_of_lt hk2, Nat.add_zero]
    have e2 : (e * 5 ^ n + k) % 5 ^ n = k := by rw [Nat.mul_comm, Nat.mul_add_mod, Nat.mod_eq_of_lt hk2]
    dsimp only
    rw [rnf, e1, e2]
    cases ok (rnf N n k (N c e)) <;> rfl
theorem fst5_lt (P : Nat → Option Nat) {x : Nat} : ∀ (j k : Nat), fst5 P j k = some x → ∃ i, k ≤ i ∧ i < k + j ∧ P i = some x := by
  intro j
  induction j with
  | zero => intro k h; cases h
  | succ j ih =>
    intro k h
    rw [fst5] at h
    cases hp : P k with
    | some y => rw [hp] at h; cases h; exact ⟨k, by omega, by omega, hp⟩
    | none =>
      rw [hp] at h
      obtain ⟨i, h1, h2, h3⟩ := ih (k + 1) h
      exact ⟨i, by omega, by omega, h3⟩
theorem fnd_lt (N : gT → Nat → gT) (ok : gT → Bool) {n x : Nat} {c : gT} (h : fnd N ok n c = some x) : x < 5 ^ n := by
  rw [fnd_scan] at h
  obtain ⟨i, h1, h2, h3⟩ := fst5_lt _ _ _ h
  split at h3
  · cases h3; omega
  · cases h3
theorem dg_0 {n e k : Nat} (he : e < 5) (hk : k < 5 ^ n) : dg (n + 1) (e * 5 ^ n + k) 0 = e := by
  have hp : 0 < 5 ^ n := Nat.pow_pos (by decide)
  unfold dg
  rw [show n + 1 - (0 + 1) = n by omega, Nat.mul_comm, Nat.mul_add_div hp, Nat.div_eq_of_lt hk, Nat.add_zero, Nat.mod_eq_of_lt he]
theorem dg_s {n e k i : Nat} (hi : i < n) : dg (n + 1) (e * 5 ^ n + k) (i + 1) = dg n k i := by
  unfold dg
  rw [show n + 1 - (i + 1 + 1) = n - (i + 1) by omega]
  have hp : 0 < 5 ^ (n - (i + 1)) := Nat.pow_pos (by decide)
  obtain ⟨d, hd⟩ : ∃ d, n = (n - (i + 1)) + (d + 1) := ⟨i, by omega⟩
  have e1 : e * 5 ^ n = 5 ^ (n - (i + 1)) * (5 * (e * 5 ^ d)) := by
    have : 5 ^ n = 5 ^ (n - (i + 1)) * (5 * 5 ^ d) := by
      conv => lhs; rw [hd]
      rw [Nat.pow_add, Nat.pow_succ, Nat.mul_comm (5 ^ d) 5]
    rw [this, Nat.mul_left_comm e, Nat.mul_left_comm e]
  rw [e1, Nat.mul_add_div hp, Nat.mul_add_mod]
/-! the class's finds -/
def lev (f : gT) (d : Nat) : gT := mkG12 (f (12 * d)) (f (12 * d + 1)) (f (12 * d + 2)) (f (12 * d + 3)) (f (12 * d + 4)) (f (12 * d + 5)) (f (12 * d + 6)) (f (12 * d + 7)) (f (12 * d + 8)) (f (12 * d + 9)) (f (12 * d + 10)) (f (12 * d + 11))
theorem lev_cong {f h : gT} {d : Nat} (e : ∀ j, 12 * d ≤ j → j < 12 * (d + 1) → f j = h j) : lev f d = lev h d := by
  unfold lev
  rw [e (12 * d) (by omega) (by omega), e (12 * d + 1) (by omega) (by omega), e (12 * d + 2) (by omega) (by omega), e (12 * d + 3) (by omega) (by omega), e (12 * d + 4) (by omega) (by omega), e (12 * d + 5) (by omega) (by omega), e (12 * d + 6) (by omega) (by omega), e (12 * d + 7) (by omega) (by omega), e (12 * d + 8) (by omega) (by omega), e (12 * d + 9) (by omega) (by omega), e (12 * d + 10) (by omega) (by omega), e (12 * d + 11) (by omega) (by omega)]
theorem lev_store (g f : gT) {d : Nat} (h : d ≤ 5) : lev (o_X0_store_3 72 g f (nI (12 * d))) d = cg g := by
  have k : ∀ i, i < 12 → o_X0_store_3 72 g f (nI (12 * d)) (12 * d + i) = g i := fun i hi => store_in g f (by omega) (by decide) hi
  unfold lev cg
  have k0 : o_X0_store_3 72 g f (nI (12 * d)) (12 * d) = g 0 := k 0 (by decide)
  rw [k0, k 1 (by decide), k 2 (by decide), k 3 (by decide), k 4 (by decide), k 5 (by decide), k 6 (by decide), k 7 (by decide), k 8 (by decide), k 9 (by decide), k 10 (by decide), k 11 (by decide)]
theorem open_lev (fl fr : gT) (si mo at_ : Int32) (wk : gT) (dp : Int32) {d : Nat} (hd : d ≤ 5) (e : dp * 12 = nI (12 * d)) : o_X3_open_wk fl fr si mo at_ wk dp = mixG (lev fl d) wk := by
  unfold o_X3_open_wk
  rw [e]
  exact rest_eq wk fl (by omega) (by decide)
theorem cg_turn (f w sun dry : gT) (len need a b : Int32) : cg (o_X0_turn_g (mixG f w) sun dry len need a b) = cg (o_X0_turn_g f sun dry len need a b) := by
  have q := turn_c (mixG_eq f w) sun dry len need a b
  unfold cg
  rw [q 0 (by decide), q 1 (by decide), q 2 (by decide), q 3 (by decide), q 4 (by decide), q 5 (by decide), q 6 (by decide), q 7 (by decide), q 8 (by decide), q 9 (by decide), q 10 (by decide), q 11 (by decide)]
theorem att_lev (fl fr : gT) (si mo at_ : Int32) (wk sun dry : gT) (len need dp a b : Int32) {d : Nat} (hd : d ≤ 4) (e : dp * 12 = nI (12 * d)) (e2 : (dp + 1) * 12 = nI (12 * (d + 1))) : lev (o_X3_attempt_1 fl fr si mo at_ wk sun dry len need dp a b) (d + 1) = nx sun dry len need (lev fl d) a b ∧ ∀ j, j < 12 * (d + 1) → o_X3_attempt_1 fl fr si mo at_ wk sun dry len need dp a b j = fl j := by
  unfold o_X3_attempt_1
  rw [open_lev fl fr si mo at_ wk dp (by omega) e, e2]
  exact ⟨(lev_store _ _ (by omega)).trans (cg_turn _ _ _ _ _ _ _ _), fun j hj => store_out _ _ (by omega) (by decide) (Or.inl hj)⟩
def okv (need si at_ : Int32) (c : gT) : Int32 := if at_ = 0 then (if lz c need = si then 0 else 1) else (if lz c need = 1 - si then 1 else 0)
def okb (need si at_ : Int32) (c : gT) : Bool := !(okv need si at_ c == 0)
theorem okv_01 (need si at_ : Int32) (c : gT) : okv need si at_ c = 0 ∨ okv need si at_ c = 1 := by
  unfold okv
  (repeat' split) <;> first | exact Or.inl rfl | exact Or.inr rfl
def ans (at_ : Int32) : Int32 := if at_ = 0 then 2 else 0
def stp (sun dry : gT) (len need si at_ : Int32) (c : gT) (e : Nat) : gT := nx sun dry len need c (if si = 0 then nI e else ans at_) (if si = 0 then ans at_ else nI e)
/-- what a search from depth d on leaves -/
def fdp (sun dry : gT) (len need si at_ : Int32) (d m : Nat) (o : Option Nat) (fl fr : gT) (R : Int32 × gT × gT × gT) : Prop :=
  (o = none → R.1 = 0) ∧ (∀ kk, o = some kk → R.1 = 1 ∧ ∀ i, i < m → R.2.2.1 (d + i) = nI (dg m kk i)) ∧ (∀ j, j < 12 * (d + 1) → R.2.1 j = fl j) ∧ (∀ j, j < d → R.2.2.1 j = fr j)
theorem fd_end (sun dry : gT) (len need si at_ : Int32) (d : Nat) (fl fr wk : gT) (c : gT) : fdp sun dry len need si at_ d 0 (fnd (stp sun dry len need si at_) (okb need si at_) 0 c) fl fr (okv need si at_ c, fl, fr, wk) := by
  refine ⟨fun h => ?_, fun kk h => ⟨?_, fun i hi => absurd hi (by omega)⟩, fun j _ => rfl, fun j _ => rfl⟩
  · rw [fnd] at h
    rcases okv_01 need si at_ c with q | q
    · exact q
    · rw [if_pos (by unfold okb; rw [q]; decide)] at h; cases h
  · rw [fnd] at h
    rcases okv_01 need si at_ c with q | q
    · rw [if_neg (by unfold okb; rw [q]; decide)] at h; cases h
    · exact q
theorem e_reach (fl fr : gT) (si mo at_ : Int32) (wk sun dry : gT) (len need dp : Int32) {d : Nat} (hd : d ≤ 5) (e : dp * 12 = nI (12 * d)) : o_X3_isReached_r fl fr si mo at_ wk sun dry len need dp = okv need si at_ (lev fl d) := by
  unfold o_X3_isReached_r okv
  rw [open_lev fl fr si mo at_ wk dp hd e, e_lz, lz_mix]
theorem nI_led {M : Nat} (d : Nat) (hM : M ≤ 5) (hd : d ≤ 5) : (nI M ≤ nI d) = (M ≤ d) := propext (nI_leI (by omega) (by omega))
theorem fd_5 (sun dry : gT) (len need si at_ : Int32) (M : Nat) (hM : M ≤ 5) (_hd : 5 ≤ M) (fl fr wk : gT) : fdp sun dry len need si at_ 5 (M - 5) (fnd (stp sun dry len need si at_) (okb need si at_) (M - 5) (lev fl 5)) fl fr (O_X7_finds_d5 fl fr si (nI M) at_ wk sun dry len need) := by
  unfold O_X7_finds_d5
  rw [e_reach fl fr si (nI M) at_ wk sun dry len need 5 (d := 5) (by decide) (by decide), show M - 5 = 0 by omega]
  exact fd_end sun dry len need si at_ 5 fl fr _ (lev fl 5)
set_option maxHeartbeats 4000000 in
theorem ft_4 (sun dry : gT) (len need si at_ : Int32) (M : Nat) (hM : M ≤ 5) (hd : 4 < M) (fl fr wk : gT) : ∀ (j k : Nat) (u0 u1 u2 : gT), k + j = 5 → (∀ j, j < 12 * (4 + 1) → u0 j = fl j) → (∀ j, j < 4 → u1 j = fr j) →
    fdp sun dry len need si at_ 4 (M - 4) (fst5 (fun e => (fnd (stp sun dry len need si at_) (okb need si at_) (M - (4 + 1)) (stp sun dry len need si at_ (lev fl 4) e)).map (fun k => e * 5 ^ (M - (4 + 1)) + k)) j k) fl fr (T_X7_finds_d4_1 fl fr si (nI M) at_ wk sun dry len need j k u0 u1 u2) := by
  intro j
  induction j with
  | zero =>
    intro k u0 u1 u2 _ h0 h1
    exact ⟨fun _ => rfl, fun kk h => (by cases h), h0, h1⟩
  | succ j ih =>
    intro k u0 u1 u2 hk h0 h1
    rw [T_X7_finds_d4_1, fst5]
    have hrow : ∀ q, o_X7_setCell_0 5 u1 4 (nI k) q = if q = 4 then nI k else u1 q := fun q => by
      rw [show (4 : Int32) = nI 4 from rfl, set_eq u1 _ (by decide) (by decide)]; rfl
    obtain ⟨a1, a2⟩ := att_lev u0 (o_X7_setCell_0 5 u1 4 (nI k)) si (nI M) at_ u2 sun dry len need 4 (j_X7_finds_d4_2_0 fl fr si (nI M) at_ wk sun dry len need k u0 u1 u2) (j_X7_finds_d4_3_0 fl fr si (nI M) at_ wk sun dry len need k u0 u1 u2) (d := 4) (by decide) (by decide) (by decide)
    have hst : nx sun dry len need (lev u0 4) (j_X7_finds_d4_2_0 fl fr si (nI M) at_ wk sun dry len need k u0 u1 u2) (j_X7_finds_d4_3_0 fl fr si (nI M) at_ wk sun dry len need k u0 u1 u2) = stp sun dry len need si at_ (lev fl 4) k := by
      rw [lev_cong (f := u0) (h := fl) (d := 4) (fun q _ hq => h0 q hq)]
      unfold stp ans j_X7_finds_d4_2_0 j_X7_finds_d4_3_0 j_X7_finds_d4_0_0
      rfl
    rw [hst] at a1
    have a1 : lev (o_X3_attempt_1 u0 (o_X7_setCell_0 5 u1 4 (nI k)) si (nI M) at_ u2 sun dry len need 4 (j_X7_finds_d4_2_0 fl fr si (nI M) at_ wk sun dry len need k u0 u1 u2) (j_X7_finds_d4_3_0 fl fr si (nI M) at_ wk sun dry len need k u0 u1 u2)) 5 = stp sun dry len need si at_ (lev fl 4) k := a1
    have hn := fd_5 sun dry len need si at_ M hM (by omega) (o_X3_attempt_1 u0 (o_X7_setCell_0 5 u1 4 (nI k)) si (nI M) at_ u2 sun dry len need 4 (j_X7_finds_d4_2_0 fl fr si (nI M) at_ wk sun dry len need k u0 u1 u2) (j_X7_finds_d4_3_0 fl fr si (nI M) at_ wk sun dry len need k u0 u1 u2)) (o_X7_setCell_0 5 u1 4 (nI k)) (o_X3_attempt_wk u0 (o_X7_setCell_0 5 u1 4 (nI k)) si (nI M) at_ u2 sun dry len need 4 (j_X7_finds_d4_2_0 fl fr si (nI M) at_ wk sun dry len need k u0 u1 u2) (j_X7_finds_d4_3_0 fl fr si (nI M) at_ wk sun dry len need k u0 u1 u2))
    rw [a1] at hn
    generalize hR : O_X7_finds_d5 (o_X3_attempt_1 u0 (o_X7_setCell_0 5 u1 4 (nI k)) si (nI M) at_ u2 sun dry len need 4 (j_X7_finds_d4_2_0 fl fr si (nI M) at_ wk sun dry len need k u0 u1 u2) (j_X7_finds_d4_3_0 fl fr si (nI M) at_ wk sun dry len need k u0 u1 u2)) (o_X7_setCell_0 5 u1 4 (nI k)) si (nI M) at_ (o_X3_attempt_wk u0 (o_X7_setCell_0 5 u1 4 (nI k)) si (nI M) at_ u2 sun dry len need 4 (j_X7_finds_d4_2_0 fl fr si (nI M) at_ wk sun dry len need k u0 u1 u2) (j_X7_finds_d4_3_0 fl fr si (nI M) at_ wk sun dry len need k u0 u1 u2)) sun dry len need = R at hn ⊢
    obtain ⟨n1, n2, n3, n4⟩ := hn
    have l0 : ∀ q, q < 12 * (4 + 1) → R.2.1 q = fl q := fun q hq => (n3 q (by omega)).trans ((a2 q hq).trans (h0 q hq))
    have l1 : ∀ q, q < 4 → R.2.2.1 q = fr q := fun q hq => (n4 q (by omega)).trans ((hrow q).trans ((if_neg (by omega)).trans (h1 q hq)))
    cases ho : fnd (stp sun dry len need si at_) (okb need si at_) (M - (4 + 1)) (stp sun dry len need si at_ (lev fl 4) k) with
    | none =>
      rw [if_pos (n1 ho)]
      exact ih (k + 1) _ _ _ (by omega) l0 l1
    | some kk =>
      obtain ⟨m1, m2⟩ := n2 kk ho
      rw [if_neg (by rw [m1]; decide)]
      have hlt := fnd_lt _ _ ho
      refine ⟨fun h => (by cases h), fun x h => ⟨rfl, fun i hi => ?_⟩, l0, l1⟩
      have hx : x = k * 5 ^ (M - (4 + 1)) + kk := by simpa using h.symm
      rw [hx, show M - 4 = (M - (4 + 1)) + 1 by omega]
      cases i with
      | zero =>
        rw [dg_0 (by omega) hlt]
        exact (n4 4 (by decide)).trans ((hrow 4).trans (if_pos rfl))
      | succ i =>
        rw [dg_s (by omega)]
        have := m2 i (by omega)
        rw [show 4 + 1 + i = 4 + (i + 1) by omega] at this
        exact this
theorem fd_4 (sun dry : gT) (len need si at_ : Int32) (M : Nat) (hM : M ≤ 5) (hd : 4 ≤ M) (fl fr wk : gT) : fdp sun dry len need si at_ 4 (M - 4) (fnd (stp sun dry len need si at_) (okb need si at_) (M - 4) (lev fl 4)) fl fr (O_X7_finds_d4 fl fr si (nI M) at_ wk sun dry len need) := by
  unfold O_X7_finds_d4
  by_cases c : M = 4
  · subst c
    rw [if_pos (by decide), e_reach fl fr si (nI 4) at_ wk sun dry len need 4 (d := 4) (by decide) (by decide)]
    exact fd_end sun dry len need si at_ 4 fl fr _ (lev fl 4)
  · have c5 : ¬ nI M ≤ 4 := (show ¬ nI M ≤ nI 4 by rw [nI_led 4 hM (by decide)]; omega)
    rw [if_neg c5, show M - 4 = (M - (4 + 1)) + 1 by omega, fnd]
    have h := ft_4 sun dry len need si at_ M hM (by omega) fl fr wk 5 0 fl fr wk rfl (fun _ _ => rfl) (fun _ _ => rfl)
    rw [show M - 4 = (M - (4 + 1)) + 1 by omega] at h
    exact h
set_option maxHeartbeats 4000000 in
theorem ft_3 (sun dry : gT) (len need si at_ : Int32) (M : Nat) (hM : M ≤ 5) (hd : 3 < M) (fl fr wk : gT) : ∀ (j k : Nat) (u0 u1 u2 : gT), k + j = 5 → (∀ j, j < 12 * (3 + 1) → u0 j = fl j) → (∀ j, j < 3 → u1 j = fr j) →
    fdp sun dry len need si at_ 3 (M - 3) (fst5 (fun e => (fnd (stp sun dry len need si at_) (okb need si at_) (M - (3 + 1)) (stp sun dry len need si at_ (lev fl 3) e)).map (fun k => e * 5 ^ (M - (3 + 1)) + k)) j k) fl fr (T_X7_finds_d3_1 fl fr si (nI M) at_ wk sun dry len need j k u0 u1 u2) := by
  intro j
  induction j with
  | zero =>
    intro k u0 u1 u2 _ h0 h1
    exact ⟨fun _ => rfl, fun kk h => (by cases h), h0, h1⟩
  | succ j ih =>
    intro k u0 u1 u2 hk h0 h1
    rw [T_X7_finds_d3_1, fst5]
    have hrow : ∀ q, o_X7_setCell_0 5 u1 3 (nI k) q = if q = 3 then nI k else u1 q := fun q => by
      rw [show (3 : Int32) = nI 3 from rfl, set_eq u1 _ (by decide) (by decide)]; rfl
    obtain ⟨a1, a2⟩ := att_lev u0 (o_X7_setCell_0 5 u1 3 (nI k)) si (nI M) at_ u2 sun dry len need 3 (j_X7_finds_d3_2_0 fl fr si (nI M) at_ wk sun dry len need k u0 u1 u2) (j_X7_finds_d3_3_0 fl fr si (nI M) at_ wk sun dry len need k u0 u1 u2) (d := 3) (by decide) (by decide) (by decide)
    have hst : nx sun dry len need (lev u0 3) (j_X7_finds_d3_2_0 fl fr si (nI M) at_ wk sun dry len need k u0 u1 u2) (j_X7_finds_d3_3_0 fl fr si (nI M) at_ wk sun dry len need k u0 u1 u2) = stp sun dry len need si at_ (lev fl 3) k := by
      rw [lev_cong (f := u0) (h := fl) (d := 3) (fun q _ hq => h0 q hq)]
      unfold stp ans j_X7_finds_d3_2_0 j_X7_finds_d3_3_0 j_X7_finds_d3_0_0
      rfl
    rw [hst] at a1
    have a1 : lev (o_X3_attempt_1 u0 (o_X7_setCell_0 5 u1 3 (nI k)) si (nI M) at_ u2 sun dry len need 3 (j_X7_finds_d3_2_0 fl fr si (nI M) at_ wk sun dry len need k u0 u1 u2) (j_X7_finds_d3_3_0 fl fr si (nI M) at_ wk sun dry len need k u0 u1 u2)) 4 = stp sun dry len need si at_ (lev fl 3) k := a1
    have hn := fd_4 sun dry len need si at_ M hM (by omega) (o_X3_attempt_1 u0 (o_X7_setCell_0 5 u1 3 (nI k)) si (nI M) at_ u2 sun dry len need 3 (j_X7_finds_d3_2_0 fl fr si (nI M) at_ wk sun dry len need k u0 u1 u2) (j_X7_finds_d3_3_0 fl fr si (nI M) at_ wk sun dry len need k u0 u1 u2)) (o_X7_setCell_0 5 u1 3 (nI k)) (o_X3_attempt_wk u0 (o_X7_setCell_0 5 u1 3 (nI k)) si (nI M) at_ u2 sun dry len need 3 (j_X7_finds_d3_2_0 fl fr si (nI M) at_ wk sun dry len need k u0 u1 u2) (j_X7_finds_d3_3_0 fl fr si (nI M) at_ wk sun dry len need k u0 u1 u2))
    rw [a1] at hn
    generalize hR : O_X7_finds_d4 (o_X3_attempt_1 u0 (o_X7_setCell_0 5 u1 3 (nI k)) si (nI M) at_ u2 sun dry len need 3 (j_X7_finds_d3_2_0 fl fr si (nI M) at_ wk sun dry len need k u0 u1 u2) (j_X7_finds_d3_3_0 fl fr si (nI M) at_ wk sun dry len need k u0 u1 u2)) (o_X7_setCell_0 5 u1 3 (nI k)) si (nI M) at_ (o_X3_attempt_wk u0 (o_X7_setCell_0 5 u1 3 (nI k)) si (nI M) at_ u2 sun dry len need 3 (j_X7_finds_d3_2_0 fl fr si (nI M) at_ wk sun dry len need k u0 u1 u2) (j_X7_finds_d3_3_0 fl fr si (nI M) at_ wk sun dry len need k u0 u1 u2)) sun dry len need = R at hn ⊢
    obtain ⟨n1, n2, n3, n4⟩ := hn
    have l0 : ∀ q, q < 12 * (3 + 1) → R.2.1 q = fl q := fun q hq => (n3 q (by omega)).trans ((a2 q hq).trans (h0 q hq))
    have l1 : ∀ q, q < 3 → R.2.2.1 q = fr q := fun q hq => (n4 q (by omega)).trans ((hrow q).trans ((if_neg (by omega)).trans (h1 q hq)))
    cases ho : fnd (stp sun dry len need si at_) (okb need si at_) (M - (3 + 1)) (stp sun dry len need si at_ (lev fl 3) k) with
    | none =>
      rw [if_pos (n1 ho)]
      exact ih (k + 1) _ _ _ (by omega) l0 l1
    | some kk =>
      obtain ⟨m1, m2⟩ := n2 kk ho
      rw [if_neg (by rw [m1]; decide)]
      have hlt := fnd_lt _ _ ho
      refine ⟨fun h => (by cases h), fun x h => ⟨rfl, fun i hi => ?_⟩, l0, l1⟩
      have hx : x = k * 5 ^ (M - (3 + 1)) + kk := by simpa using h.symm
      rw [hx, show M - 3 = (M - (3 + 1)) + 1 by omega]
      cases i with
      | zero =>
        rw [dg_0 (by omega) hlt]
        exact (n4 3 (by decide)).trans ((hrow 3).trans (if_pos rfl))
      | succ i =>
        rw [dg_s (by omega)]
        have := m2 i (by omega)
        rw [show 3 + 1 + i = 3 + (i + 1) by omega] at this
        exact this
theorem fd_3 (sun dry : gT) (len need si at_ : Int32) (M : Nat) (hM : M ≤ 5) (hd : 3 ≤ M) (fl fr wk : gT) : fdp sun dry len need si at_ 3 (M - 3) (fnd (stp sun dry len need si at_) (okb need si at_) (M - 3) (lev fl 3)) fl fr (O_X7_finds_d3 fl fr si (nI M) at_ wk sun dry len need) := by
  unfold O_X7_finds_d3
  by_cases c : M = 3
  · subst c
    rw [if_pos (by decide), e_reach fl fr si (nI 3) at_ wk sun dry len need 3 (d := 3) (by decide) (by decide)]
    exact fd_end sun dry len need si at_ 3 fl fr _ (lev fl 3)
  · have c5 : ¬ nI M ≤ 3 := (show ¬ nI M ≤ nI 3 by rw [nI_led 3 hM (by decide)]; omega)
    rw [if_neg c5, show M - 3 = (M - (3 + 1)) + 1 by omega, fnd]
    have h := ft_3 sun dry len need si at_ M hM (by omega) fl fr wk 5 0 fl fr wk rfl (fun _ _ => rfl) (fun _ _ => rfl)
    rw [show M - 3 = (M - (3 + 1)) + 1 by omega] at h
    exact h
set_option maxHeartbeats 4000000 in
theorem ft_2 (sun dry : gT) (len need si at_ : Int32) (M : Nat) (hM : M ≤ 5) (hd : 2 < M) (fl fr wk : gT) : ∀ (j k : Nat) (u0 u1 u2 : gT), k + j = 5 → (∀ j, j < 12 * (2 + 1) → u0 j = fl j) → (∀ j, j < 2 → u1 j = fr j) →
    fdp sun dry len need si at_ 2 (M - 2) (fst5 (fun e => (fnd (stp sun dry len need si at_) (okb need si at_) (M - (2 + 1)) (stp sun dry len need si at_ (lev fl 2) e)).map (fun k => e * 5 ^ (M - (2 + 1)) + k)) j k) fl fr (T_X7_finds_d2_1 fl fr si (nI M) at_ wk sun dry len need j k u0 u1 u2) := by
  intro j
  induction j with
  | zero =>
    intro k u0 u1 u2 _ h0 h1
    exact ⟨fun _ => rfl, fun kk h => (by cases h), h0, h1⟩
  | succ j ih =>
    intro k u0 u1 u2 hk h0 h1
    rw [T_X7_finds_d2_1, fst5]
    have hrow : ∀ q, o_X7_setCell_0 5 u1 2 (nI k) q = if q = 2 then nI k else u1 q := fun q => by
      rw [show (2 : Int32) = nI 2 from rfl, set_eq u1 _ (by decide) (by decide)]; rfl
    obtain ⟨a1, a2⟩ := att_lev u0 (o_X7_setCell_0 5 u1 2 (nI k)) si (nI M) at_ u2 sun dry len need 2 (j_X7_finds_d2_2_0 fl fr si (nI M) at_ wk sun dry len need k u0 u1 u2) (j_X7_finds_d2_3_0 fl fr si (nI M) at_ wk sun dry len need k u0 u1 u2) (d := 2) (by decide) (by decide) (by decide)
    have hst : nx sun dry len need (lev u0 2) (j_X7_finds_d2_2_0 fl fr si (nI M) at_ wk sun dry len need k u0 u1 u2) (j_X7_finds_d2_3_0 fl fr si (nI M) at_ wk sun dry len need k u0 u1 u2) = stp sun dry len need si at_ (lev fl 2) k := by
      rw [lev_cong (f := u0) (h := fl) (d := 2) (fun q _ hq => h0 q hq)]
      unfold stp ans j_X7_finds_d2_2_0 j_X7_finds_d2_3_0 j_X7_finds_d2_0_0
      rfl
    rw [hst] at a1
    have a1 : lev (o_X3_attempt_1 u0 (o_X7_setCell_0 5 u1 2 (nI k)) si (nI M) at_ u2 sun dry len need 2 (j_X7_finds_d2_2_0 fl fr si (nI M) at_ wk sun dry len need k u0 u1 u2) (j_X7_finds_d2_3_0 fl fr si (nI M) at_ wk sun dry len need k u0 u1 u2)) 3 = stp sun dry len need si at_ (lev fl 2) k := a1
    have hn := fd_3 sun dry len need si at_ M hM (by omega) (o_X3_attempt_1 u0 (o_X7_setCell_0 5 u1 2 (nI k)) si (nI M) at_ u2 sun dry len need 2 (j_X7_finds_d2_2_0 fl fr si (nI M) at_ wk sun dry len need k u0 u1 u2) (j_X7_finds_d2_3_0 fl fr si (nI M) at_ wk sun dry len need k u0 u1 u2)) (o_X7_setCell_0 5 u1 2 (nI k)) (o_X3_attempt_wk u0 (o_X7_setCell_0 5 u1 2 (nI k)) si (nI M) at_ u2 sun dry len need 2 (j_X7_finds_d2_2_0 fl fr si (nI M) at_ wk sun dry len need k u0 u1 u2) (j_X7_finds_d2_3_0 fl fr si (nI M) at_ wk sun dry len need k u0 u1 u2))
    rw [a1] at hn
    generalize hR : O_X7_finds_d3 (o_X3_attempt_1 u0 (o_X7_setCell_0 5 u1 2 (nI k)) si (nI M) at_ u2 sun dry len need 2 (j_X7_finds_d2_2_0 fl fr si (nI M) at_ wk sun dry len need k u0 u1 u2) (j_X7_finds_d2_3_0 fl fr si (nI M) at_ wk sun dry len need k u0 u1 u2)) (o_X7_setCell_0 5 u1 2 (nI k)) si (nI M) at_ (o_X3_attempt_wk u0 (o_X7_setCell_0 5 u1 2 (nI k)) si (nI M) at_ u2 sun dry len need 2 (j_X7_finds_d2_2_0 fl fr si (nI M) at_ wk sun dry len need k u0 u1 u2) (j_X7_finds_d2_3_0 fl fr si (nI M) at_ wk sun dry len need k u0 u1 u2)) sun dry len need = R at hn ⊢
    obtain ⟨n1, n2, n3, n4⟩ := hn
    have l0 : ∀ q, q < 12 * (2 + 1) → R.2.1 q = fl q := fun q hq => (n3 q (by omega)).trans ((a2 q hq).trans (h0 q hq))
    have l1 : ∀ q, q < 2 → R.2.2.1 q = fr q := fun q hq => (n4 q (by omega)).trans ((hrow q).trans ((if_neg (by omega)).trans (h1 q hq)))
    cases ho : fnd (stp sun dry len need si at_) (okb need si at_) (M - (2 + 1)) (stp sun dry len need si at_ (lev fl 2) k) with
    | none =>
      rw [if_pos (n1 ho)]
      exact ih (k + 1) _ _ _ (by omega) l0 l1
    | some kk =>
      obtain ⟨m1, m2⟩ := n2 kk ho
      rw [if_neg (by rw [m1]; decide)]
      have hlt := fnd_lt _ _ ho
      refine ⟨fun h => (by cases h), fun x h => ⟨rfl, fun i hi => ?_⟩, l0, l1⟩
      have hx : x = k * 5 ^ (M - (2 + 1)) + kk := by simpa using h.symm
      rw [hx, show M - 2 = (M - (2 + 1)) + 1 by omega]
      cases i with
      | zero =>
        rw [dg_0 (by omega) hlt]
        exact (n4 2 (by decide)).trans ((hrow 2).trans (if_pos rfl))
      | succ i =>
        rw [dg_s (by omega)]
        have := m2 i (by omega)
        rw [show 2 + 1 + i = 2 + (i + 1) by omega] at this
        exact this
theorem fd_2 (sun dry : gT) (len need si at_ : Int32) (M : Nat) (hM : M ≤ 5) (hd : 2 ≤ M) (fl fr wk : gT) : fdp sun dry len need si at_ 2 (M - 2) (fnd (stp sun dry len need si at_) (okb need si at_) (M - 2) (lev fl 2)) fl fr (O_X7_finds_d2 fl fr si (nI M) at_ wk sun dry len need) := by
  unfold O_X7_finds_d2
  by_cases c : M = 2
  · subst c
    rw [if_pos (by decide), e_reach fl fr si (nI 2) at_ wk sun dry len need 2 (d := 2) (by decide) (by decide)]
    exact fd_end sun dry len need si at_ 2 fl fr _ (lev fl 2)
  · have c5 : ¬ nI M ≤ 2 := (show ¬ nI M ≤ nI 2 by rw [nI_led 2 hM (by decide)]; omega)
    rw [if_neg c5, show M - 2 = (M - (2 + 1)) + 1 by omega, fnd]
    have h := ft_2 sun dry len need si at_ M hM (by omega) fl fr wk 5 0 fl fr wk rfl (fun _ _ => rfl) (fun _ _ => rfl)
    rw [show M - 2 = (M - (2 + 1)) + 1 by omega] at h
    exact h
set_option maxHeartbeats 4000000 in
theorem ft_1 (sun dry : gT) (len need si at_ : Int32) (M : Nat) (hM : M ≤ 5) (hd : 1 < M) (fl fr wk : gT) : ∀ (j k : Nat) (u0 u1 u2 : gT), k + j = 5 → (∀ j, j < 12 * (1 + 1) → u0 j = fl j) → (∀ j, j < 1 → u1 j = fr j) →
    fdp sun dry len need si at_ 1 (M - 1) (fst5 (fun e => (fnd (stp sun dry len need si at_) (okb need si at_) (M - (1 + 1)) (stp sun dry len need si at_ (lev fl 1) e)).map (fun k => e * 5 ^ (M - (1 + 1)) + k)) j k) fl fr (T_X7_finds_d1_1 fl fr si (nI M) at_ wk sun dry len need j k u0 u1 u2) := by
  intro j
  induction j with
  | zero =>
    intro k u0 u1 u2 _ h0 h1
    exact ⟨fun _ => rfl, fun kk h => (by cases h), h0, h1⟩
  | succ j ih =>
    intro k u0 u1 u2 hk h0 h1
    rw [T_X7_finds_d1_1, fst5]
    have hrow : ∀ q, o_X7_setCell_0 5 u1 1 (nI k) q = if q = 1 then nI k else u1 q := fun q => by
      rw [show (1 : Int32) = nI 1 from rfl, set_eq u1 _ (by decide) (by decide)]; rfl
    obtain ⟨a1, a2⟩ := att_lev u0 (o_X7_setCell_0 5 u1 1 (nI k)) si (nI M) at_ u2 sun dry len need 1 (j_X7_finds_d1_2_0 fl fr si (nI M) at_ wk sun dry len need k u0 u1 u2) (j_X7_finds_d1_3_0 fl fr si (nI M) at_ wk sun dry len need k u0 u1 u2) (d := 1) (by decide) (by decide) (by decide)
    have hst : nx sun dry len need (lev u0 1) (j_X7_finds_d1_2_0 fl fr si (nI M) at_ wk sun dry len need k u0 u1 u2) (j_X7_finds_d1_3_0 fl fr si (nI M) at_ wk sun dry len need k u0 u1 u2) = stp sun dry len need si at_ (lev fl 1) k := by
      rw [lev_cong (f := u0) (h := fl) (d := 1) (fun q _ hq => h0 q hq)]
      unfold stp ans j_X7_finds_d1_2_0 j_X7_finds_d1_3_0 j_X7_finds_d1_0_0
      rfl
    rw [hst] at a1
    have a1 : lev (o_X3_attempt_1 u0 (o_X7_setCell_0 5 u1 1 (nI k)) si (nI M) at_ u2 sun dry len need 1 (j_X7_finds_d1_2_0 fl fr si (nI M) at_ wk sun dry len need k u0 u1 u2) (j_X7_finds_d1_3_0 fl fr si (nI M) at_ wk sun dry len need k u0 u1 u2)) 2 = stp sun dry len need si at_ (lev fl 1) k := a1
    have hn := fd_2 sun dry len need si at_ M hM (by omega) (o_X3_attempt_1 u0 (o_X7_setCell_0 5 u1 1 (nI k)) si (nI M) at_ u2 sun dry len need 1 (j_X7_finds_d1_2_0 fl fr si (nI M) at_ wk sun dry len need k u0 u1 u2) (j_X7_finds_d1_3_0 fl fr si (nI M) at_ wk sun dry len need k u0 u1 u2)) (o_X7_setCell_0 5 u1 1 (nI k)) (o_X3_attempt_wk u0 (o_X7_setCell_0 5 u1 1 (nI k)) si (nI M) at_ u2 sun dry len need 1 (j_X7_finds_d1_2_0 fl fr si (nI M) at_ wk sun dry len need k u0 u1 u2) (j_X7_finds_d1_3_0 fl fr si (nI M) at_ wk sun dry len need k u0 u1 u2))
    rw [a1] at hn
    generalize hR : O_X7_finds_d2 (o_X3_attempt_1 u0 (o_X7_setCell_0 5 u1 1 (nI k)) si (nI M) at_ u2 sun dry len need 1 (j_X7_finds_d1_2_0 fl fr si (nI M) at_ wk sun dry len need k u0 u1 u2) (j_X7_finds_d1_3_0 fl fr si (nI M) at_ wk sun dry len need k u0 u1 u2)) (o_X7_setCell_0 5 u1 1 (nI k)) si (nI M) at_ (o_X3_attempt_wk u0 (o_X7_setCell_0 5 u1 1 (nI k)) si (nI M) at_ u2 sun dry len need 1 (j_X7_finds_d1_2_0 fl fr si (nI M) at_ wk sun dry len need k u0 u1 u2) (j_X7_finds_d1_3_0 fl fr si (nI M) at_ wk sun dry len need k u0 u1 u2)) sun dry len need = R at hn ⊢
    obtain ⟨n1, n2, n3, n4⟩ := hn
    have l0 : ∀ q, q < 12 * (1 + 1) → R.2.1 q = fl q := fun q hq => (n3 q (by omega)).trans ((a2 q hq).trans (h0 q hq))
    have l1 : ∀ q, q < 1 → R.2.2.1 q = fr q := fun q hq => (n4 q (by omega)).trans ((hrow q).trans ((if_neg (by omega)).trans (h1 q hq)))
    cases ho : fnd (stp sun dry len need si at_) (okb need si at_) (M - (1 + 1)) (stp sun dry len need si at_ (lev fl 1) k) with
    | none =>
      rw [if_pos (n1 ho)]
      exact ih (k + 1) _ _ _ (by omega) l0 l1
    | some kk =>
      obtain ⟨m1, m2⟩ := n2 kk ho
      rw [if_neg (by rw [m1]; decide)]
      have hlt := fnd_lt _ _ ho
      refine ⟨fun h => (by cases h), fun x h => ⟨rfl, fun i hi => ?_⟩, l0, l1⟩
      have hx : x = k * 5 ^ (M - (1 + 1)) + kk := by simpa using h.symm
      rw [hx, show M - 1 = (M - (1 + 1)) + 1 by omega]
      cases i with
      | zero =>
        rw [dg_0 (by omega) hlt]
        exact (n4 1 (by decide)).trans ((hrow 1).trans (if_pos rfl))
      | succ i =>
        rw [dg_s (by omega)]
        have := m2 i (by omega)
        rw [show 1 + 1 + i = 1 + (i + 1) by omega] at this
        exact this
theorem fd_1 (sun dry : gT) (len need si at_ : Int32) (M : Nat) (hM : M ≤ 5) (hd : 1 ≤ M) (fl fr wk : gT) : fdp sun dry len need si at_ 1 (M - 1) (fnd (stp sun dry len need si at_) (okb need si at_) (M - 1) (lev fl 1)) fl fr (O_X7_finds_d1 fl fr si (nI M) at_ wk sun dry len need) := by
  unfold O_X7_finds_d1
  by_cases c : M = 1
  · subst c
    rw [if_pos (by decide), e_reach fl fr si (nI 1) at_ wk sun dry len need 1 (d := 1) (by decide) (by decide)]
    exact fd_end sun dry len need si at_ 1 fl fr _ (lev fl 1)
  · have c5 : ¬ nI M ≤ 1 := (show ¬ nI M ≤ nI 1 by rw [nI_led 1 hM (by decide)]; omega)
    rw [if_neg c5, show M - 1 = (M - (1 + 1)) + 1 by omega, fnd]
    have h := ft_1 sun dry len need si at_ M hM (by omega) fl fr wk 5 0 fl fr wk rfl (fun _ _ => rfl) (fun _ _ => rfl)
    rw [show M - 1 = (M - (1 + 1)) + 1 by omega] at h
    exact h
set_option maxHeartbeats 4000000 in
theorem ft_0 (sun dry : gT) (len need si at_ : Int32) (M : Nat) (hM : M ≤ 5) (hd : 0 < M) (fl fr wk : gT) : ∀ (j k : Nat) (u0 u1 u2 : gT), k + j = 5 → (∀ j, j < 12 * (0 + 1) → u0 j = fl j) → (∀ j, j < 0 → u1 j = fr j) →
    fdp sun dry len need si at_ 0 (M - 0) (fst5 (fun e => (fnd (stp sun dry len need si at_) (okb need si at_) (M - (0 + 1)) (stp sun dry len need si at_ (lev fl 0) e)).map (fun k => e * 5 ^ (M - (0 + 1)) + k)) j k) fl fr (T_X7_finds_d0_1 fl fr si (nI M) at_ wk sun dry len need j k u0 u1 u2) := by
  intro j
  induction j with
  | zero =>
    intro k u0 u1 u2 _ h0 h1
    exact ⟨fun _ => rfl, fun kk h => (by cases h), h0, h1⟩
  | succ j ih =>
    intro k u0 u1 u2 hk h0 h1
    rw [T_X7_finds_d0_1, fst5]
    have hrow : ∀ q, o_X7_setCell_0 5 u1 0 (nI k) q = if q = 0 then nI k else u1 q := fun q => by
      rw [show (0 : Int32) = nI 0 from rfl, set_eq u1 _ (by decide) (by decide)]; rfl
    obtain ⟨a1, a2⟩ := att_lev u0 (o_X7_setCell_0 5 u1 0 (nI k)) si (nI M) at_ u2 sun dry len need 0 (j_X7_finds_d0_2_0 fl fr si (nI M) at_ wk sun dry len need k u0 u1 u2) (j_X7_finds_d0_3_0 fl fr si (nI M) at_ wk sun dry len need k u0 u1 u2) (d := 0) (by decide) (by decide) (by decide)
    have hst : nx sun dry len need (lev u0 0) (j_X7_finds_d0_2_0 fl fr si (nI M) at_ wk sun dry len need k u0 u1 u2) (j_X7_finds_d0_3_0 fl fr si (nI M) at_ wk sun dry len need k u0 u1 u2) = stp sun dry len need si at_ (lev fl 0) k := by
      rw [lev_cong (f := u0) (h := fl) (d := 0) (fun q _ hq => h0 q hq)]
      unfold stp ans j_X7_finds_d0_2_0 j_X7_finds_d0_3_0 j_X7_finds_d0_0_0
      rfl
    rw [hst] at a1
    have a1 : lev (o_X3_attempt_1 u0 (o_X7_setCell_0 5 u1 0 (nI k)) si (nI M) at_ u2 sun dry len need 0 (j_X7_finds_d0_2_0 fl fr si (nI M) at_ wk sun dry len need k u0 u1 u2) (j_X7_finds_d0_3_0 fl fr si (nI M) at_ wk sun dry len need k u0 u1 u2)) 1 = stp sun dry len need si at_ (lev fl 0) k := a1
    have hn := fd_1 sun dry len need si at_ M hM (by omega) (o_X3_attempt_1 u0 (o_X7_setCell_0 5 u1 0 (nI k)) si (nI M) at_ u2 sun dry len need 0 (j_X7_finds_d0_2_0 fl fr si (nI M) at_ wk sun dry len need k u0 u1 u2) (j_X7_finds_d0_3_0 fl fr si (nI M) at_ wk sun dry len need k u0 u1 u2)) (o_X7_setCell_0 5 u1 0 (nI k)) (o_X3_attempt_wk u0 (o_X7_setCell_0 5 u1 0 (nI k)) si (nI M) at_ u2 sun dry len need 0 (j_X7_finds_d0_2_0 fl fr si (nI M) at_ wk sun dry len need k u0 u1 u2) (j_X7_finds_d0_3_0 fl fr si (nI M) at_ wk sun dry len need k u0 u1 u2))
    rw [a1] at hn
    generalize hR : O_X7_finds_d1 (o_X3_attempt_1 u0 (o_X7_setCell_0 5 u1 0 (nI k)) si (nI M) at_ u2 sun dry len need 0 (j_X7_finds_d0_2_0 fl fr si (nI M) at_ wk sun dry len need k u0 u1 u2) (j_X7_finds_d0_3_0 fl fr si (nI M) at_ wk sun dry len need k u0 u1 u2)) (o_X7_setCell_0 5 u1 0 (nI k)) si (nI M) at_ (o_X3_attempt_wk u0 (o_X7_setCell_0 5 u1 0 (nI k)) si (nI M) at_ u2 sun dry len need 0 (j_X7_finds_d0_2_0 fl fr si (nI M) at_ wk sun dry len need k u0 u1 u2) (j_X7_finds_d0_3_0 fl fr si (nI M) at_ wk sun dry len need k u0 u1 u2)) sun dry len need = R at hn ⊢
    obtain ⟨n1, n2, n3, n4⟩ := hn
    have l0 : ∀ q, q < 12 * (0 + 1) → R.2.1 q = fl q := fun q hq => (n3 q (by omega)).trans ((a2 q hq).trans (h0 q hq))
    have l1 : ∀ q, q < 0 → R.2.2.1 q = fr q := fun q hq => (n4 q (by omega)).trans ((hrow q).trans ((if_neg (by omega)).trans (h1 q hq)))
    cases ho : fnd (stp sun dry len need si at_) (okb need si at_) (M - (0 + 1)) (stp sun dry len need si at_ (lev fl 0) k) with
    | none =>
      rw [if_pos (n1 ho)]
      exact ih (k + 1) _ _ _ (by omega) l0 l1
    | some kk =>
      obtain ⟨m1, m2⟩ := n2 kk ho
      rw [if_neg (by rw [m1]; decide)]
      have hlt := fnd_lt _ _ ho
      refine ⟨fun h => (by cases h), fun x h => ⟨rfl, fun i hi => ?_⟩, l0, l1⟩
      have hx : x = k * 5 ^ (M - (0 + 1)) + kk := by simpa using h.symm
      rw [hx, show M - 0 = (M - (0 + 1)) + 1 by omega]
      cases i with
      | zero =>
        rw [dg_0 (by omega) hlt]
        exact (n4 0 (by decide)).trans ((hrow 0).trans (if_pos rfl))
      | succ i =>
        rw [dg_s (by omega)]
        have := m2 i (by omega)
        rw [show 0 + 1 + i = 0 + (i + 1) by omega] at this
        exact this
theorem fd_0 (sun dry : gT) (len need si at_ : Int32) (M : Nat) (hM : M ≤ 5) (hd : 0 ≤ M) (fl fr wk : gT) : fdp sun dry len need si at_ 0 (M - 0) (fnd (stp sun dry len need si at_) (okb need si at_) (M - 0) (lev fl 0)) fl fr (O_X7_finds_d0 fl fr si (nI M) at_ wk sun dry len need) := by
  unfold O_X7_finds_d0
  by_cases c : M = 0
  · subst c
    rw [if_pos (by decide), e_reach fl fr si (nI 0) at_ wk sun dry len need 0 (d := 0) (by decide) (by decide)]
    exact fd_end sun dry len need si at_ 0 fl fr _ (lev fl 0)
  · have c5 : ¬ nI M ≤ 0 := (show ¬ nI M ≤ nI 0 by rw [nI_led 0 hM (by decide)]; omega)
    rw [if_neg c5, show M - 0 = (M - (0 + 1)) + 1 by omega, fnd]
    have h := ft_0 sun dry len need si at_ M hM (by omega) fl fr wk 5 0 fl fr wk rfl (fun _ _ => rfl) (fun _ _ => rfl)
    rw [show M - 0 = (M - (0 + 1)) + 1 by omega] at h
    exact h
