def bt (x : Int32) (i : Nat) : Bool := x.toBitVec.getLsbD i
theorem b_ext {x y : Int32} (h : ∀ i, i < 32 → bt x i = bt y i) : x = y := Int32.toBitVec_inj.mp (BitVec.eq_of_getLsbD_eq (fun i hi => h i hi))
theorem b_or (x y : Int32) (i : Nat) : bt (x ||| y) i = (bt x i || bt y i) := by unfold bt; rw [Int32.toBitVec_or, BitVec.getLsbD_or]
theorem b_and (x y : Int32) (i : Nat) : bt (x &&& y) i = (bt x i && bt y i) := by unfold bt; rw [Int32.toBitVec_and, BitVec.getLsbD_and]
theorem b_xor (x y : Int32) (i : Nat) : bt (x ^^^ y) i = (bt x i ^^ bt y i) := by unfold bt; rw [Int32.toBitVec_xor, BitVec.getLsbD_xor]
theorem b_big {x : Int32} {i : Nat} (h : 32 ≤ i) : bt x i = false := BitVec.getLsbD_of_ge _ _ h
theorem b_255 (i : Nat) : bt 255 i = decide (i < 8) := by
  rcases Nat.lt_or_ge i 32 with h | h
  · exact (by decide +kernel : ∀ i, i < 32 → bt 255 i = decide (i < 8)) i h
  · rw [b_big h, decide_eq_false (by omega)]
theorem b_65535 (i : Nat) : bt 65535 i = decide (i < 16) := by
  rcases Nat.lt_or_ge i 32 with h | h
  · exact (by decide +kernel : ∀ i, i < 32 → bt 65535 i = decide (i < 16)) i h
  · rw [b_big h, decide_eq_false (by omega)]
theorem b_m1 : ∀ i, i < 32 → bt (-1) i = true := by decide +kernel
theorem b_0 (i : Nat) : bt 0 i = false := BitVec.getLsbD_zero
theorem s_l : ∀ n, n < 32 → ((nI n &&& 31).toBitVec.smod 32).toNat = n := by decide +kernel
theorem s_u : ∀ n, n < 32 → (((nI n).toUInt32 &&& Int32.toUInt32 31).toBitVec % 32).toNat = n := by decide +kernel
theorem b_shl (n : Nat) (hn : n < 32) (x : Int32) {i : Nat} (hi : i < 32) : bt (x <<< (nI n &&& 31)) i = (decide (n ≤ i) && bt x (i - n)) := by
  unfold bt
  rw [Int32.toBitVec_shiftLeft]
  show (x.toBitVec <<< ((nI n &&& 31).toBitVec.smod 32).toNat).getLsbD i = _
  rw [s_l n hn, BitVec.getLsbD_shiftLeft]
  rcases Nat.lt_or_ge i n with h | h
  · simp [h, Nat.not_le.mpr h]
  · simp [hi, h, Nat.not_lt.mpr h]
theorem b_ushr (n : Nat) (hn : n < 32) (x : Int32) (i : Nat) : bt ((x.toUInt32 >>> ((nI n).toUInt32 &&& Int32.toUInt32 31)).toInt32) i = bt x (n + i) := by
  show (x.toUInt32 >>> ((nI n).toUInt32 &&& Int32.toUInt32 31)).toBitVec.getLsbD i = x.toUInt32.toBitVec.getLsbD (n + i)
  rw [UInt32.toBitVec_shiftRight]
  show (x.toUInt32.toBitVec >>> (((nI n).toUInt32 &&& Int32.toUInt32 31).toBitVec % 32).toNat).getLsbD i = _
  rw [s_u n hn, BitVec.getLsbD_ushiftRight]
theorem b_sshr (n : Nat) (hn : n < 32) (x : Int32) {i : Nat} (hi : i < 32) : bt (x >>> (nI n &&& 31)) i = if n + i < 32 then bt x (n + i) else bt x 31 := by
  unfold bt
  rw [Int32.toBitVec_shiftRight]
  show (x.toBitVec.sshiftRight ((nI n &&& 31).toBitVec.smod 32).toNat).getLsbD i = _
  rw [s_l n hn, BitVec.getLsbD_sshiftRight, BitVec.msb_eq_getLsbD_last]
  simp [hi]
theorem bt_1 (x : Int32) (j : Nat) (hj : j < 31) : ((x >>> (nI j &&& 31)) &&& 1 = 1) ↔ bt x j = true := by
  have h0 : bt (x >>> (nI j &&& 31)) 0 = bt x j := by rw [b_sshr j (by omega) x (by decide), if_pos (by omega), Nat.add_zero]
  have h1 : bt ((x >>> (nI j &&& 31)) &&& 1) 0 = bt x j := by rw [b_and, h0, show bt 1 0 = true by decide, Bool.and_true]
  constructor
  · intro h
    rw [h] at h1
    exact h1.symm
  · intro h
    rcases e_and1 (x >>> (nI j &&& 31)) with q | q
    · rw [q, b_0, h] at h1; exact absurd h1 (by decide)
    · exact q
theorem bt_sh : ∀ j m : Fin 12, bt ((1 : Int32) <<< (nI m.val &&& 31)) j.val = decide (j.val = m.val) := by decide +kernel
def chr (lt : gT) (nl i : Nat) : Int32 := if i < nl then lt i else (-4)
def isd (lt : gT) (nl i : Nat) : Int32 := o_X7_within_r (chr lt nl i) 48 57
def nxt (lt : gT) (nl i : Nat) : Nat := if isd lt nl (i + 1) = 0 then i + 1 else i + 2
def vnl (lt : gT) (nl i : Nat) : Int32 := if isd lt nl (i + 1) = 0 then chr lt nl i - 48 else (chr lt nl i - 48) * 10 + (chr lt nl (i + 1) - 48)
theorem isd_01 (lt : gT) (nl i : Nat) : isd lt nl i = 0 ∨ isd lt nl i = 1 := o_X7_within_b _ _ _
theorem isd_fig {lt : gT} {nl i : Nat} (h : ¬ isd lt nl i = 0) : ∃ d : Fin 10, chr lt nl i = nI (48 + d.val) := by
  obtain ⟨k, hk, e⟩ := w_nat (n := 57) (by decide) (by decide) h
  have h2 := (w_rng h).1
  rw [show (48 : Int32).toInt = 48 from by decide, e, nI_toInt (by omega)] at h2
  exact ⟨⟨k - 48, by omega⟩, by rw [e]; exact congrArg nI (show k = 48 + (k - 48) by omega)⟩
theorem isd_lt {lt : gT} {nl i : Nat} (h : ¬ isd lt nl i = 0) : i < nl := by
  by_cases c : i < nl
  · exact c
  · exfalso
    apply h
    unfold isd chr
    rw [if_neg c]; decide
theorem chr_lt {lt : gT} {nl i : Nat} {c : Int32} (hc : ¬ c = -4) (h : chr lt nl i = c) : i < nl := by
  by_cases q : i < nl
  · exact q
  · unfold chr at h
    rw [if_neg q] at h
    exact absurd h.symm hc
theorem fig_ne : ∀ d : Fin 10, ¬ (nI (48 + d.val) - 48 = -4) := by decide +kernel
theorem la_eq (lt nu : gT) (am : Int32) {nl i : Nat} (hn : nl ≤ 200) (hi : i < 2 ^ 31) : o_X2_letterAt_r lt nu (nI nl) am (nI i) = chr lt nl i := by
  unfold o_X2_letterAt_r chr
  rw [if_neg (nI_pos hi)]
  by_cases c : i < nl
  · rw [if_neg (nI_ge c (by omega)), if_pos c, cell_eq lt (by omega) (by decide)]
  · rw [if_pos (nI_le (by omega) hi), if_neg c]
theorem fa_eq (lt nu : gT) (am : Int32) {nl i : Nat} (hn : nl ≤ 200) (hi : i < 2 ^ 31) : o_X2_figureAt_r lt nu (nI nl) am (nI i) = if isd lt nl i = 0 then (-4) else chr lt nl i - 48 := by
  unfold o_X2_figureAt_r isd
  rw [la_eq lt nu am hn hi]
theorem fa_ne {lt : gT} {nl i : Nat} : ((if isd lt nl i = 0 then (-4 : Int32) else chr lt nl i - 48) = -4) = (isd lt nl i = 0) := by
  by_cases c : isd lt nl i = 0
  · rw [if_pos c]; exact propext ⟨fun _ => c, fun _ => rfl⟩
  · rw [if_neg c]
    obtain ⟨d, e⟩ := isd_fig c
    rw [e]
    exact propext ⟨fun h => absurd h (fig_ne d), fun h => absurd h c⟩
theorem j10_eq (lt nu u2 : gT) (am fr_ u1 : Int32) {nl i : Nat} (hn : nl ≤ 200) (hi : i < 1000) : j_X2_readItem_1_0 lt nu (nI nl) am fr_ (nI i) u1 u2 = nI (nxt lt nl i) := by
  unfold j_X2_readItem_1_0 nxt
  rw [nI_1, fa_eq lt u2 u1 hn (by omega), nI_1]
  simp only [fa_ne]
  split <;> rfl
theorem j11_eq (lt nu u2 : gT) (am fr_ u1 : Int32) {nl i : Nat} (hn : nl ≤ 200) (hi : i < 1000) (hd : ¬ isd lt nl i = 0) : j_X2_readItem_1_1 lt nu (nI nl) am fr_ (nI i) u1 u2 = vnl lt nl i := by
  unfold j_X2_readItem_1_1 vnl
  rw [nI_1, fa_eq lt u2 u1 hn (by omega), fa_eq lt u2 u1 hn (by omega), if_neg hd]
  simp only [fa_ne]
  by_cases c : isd lt nl (i + 1) = 0
  · rw [if_pos c, if_pos c]
  · rw [if_neg c, if_neg c, if_neg c]
theorem nxt_le {lt : gT} {nl i : Nat} : nxt lt nl i ≤ i + 2 := by unfold nxt; split <;> omega
theorem nxt_ge {lt : gT} {nl i : Nat} : i + 1 ≤ nxt lt nl i := by unfold nxt; split <;> omega
/-- one number of an item, in the class -/
theorem cs_step (lt nu u2 : gT) (am fr_ : Int32) {nl i a n : Nat} (hn : nl ≤ 200) (hi : i < 1000) (ha : a < 4) (fr : Nat) (hf : fr_ = nI fr) (hf2 : fr < 1000) :
    F_X2_readItem lt nu (nI nl) am fr_ (n + 1) (nI i) (nI a) u2 = (if isd lt nl i = 0 then some ((-4), nI a, u2) else (if chr lt nl (nxt lt nl i) = 59 then (if o_X2_isSo_r lt (upd u2 a (vnl lt nl i)) (nI nl) (nI (a + 1)) (chr lt nl fr) = 0 then some ((-4), nI (a + 1), upd u2 a (vnl lt nl i)) else some (nI (nxt lt nl i + 1), nI (a + 1), upd u2 a (vnl lt nl i))) else (if chr lt nl (nxt lt nl i) = 44 then F_X2_readItem lt nu (nI nl) am fr_ n (nI (nxt lt nl i + 1)) (nI (a + 1)) (upd u2 a (vnl lt nl i)) else some ((-4), nI (a + 1), upd u2 a (vnl lt nl i))))) := by
  subst hf
  have c4 : ¬ (4 : Int32) ≤ nI a := nI_ge (a := a) (b := 4) ha (by decide)
  have hx : nxt lt nl i < 2 ^ 31 := by have := nxt_le (lt := lt) (nl := nl) (i := i); omega
  rw [F_X2_readItem, if_neg c4, fa_eq lt u2 (nI a) hn (by omega)]
  by_cases c : isd lt nl i = 0
  · rw [if_pos c, if_pos c, if_pos rfl]
  · have c' : ¬ ((if isd lt nl i = 0 then (-4 : Int32) else chr lt nl i - 48) = -4) := by rw [fa_ne]; exact c
    rw [if_neg c', if_neg c, j10_eq lt nu u2 am (nI fr) (nI a) hn hi, j11_eq lt nu u2 am (nI fr) (nI a) hn hi c, set_eq u2 _ ha (by decide), la_eq lt _ _ hn hx, la_eq lt _ _ hn (by omega), nI_1, nI_1]
theorem cs_no (lt nu : gT) (am fr_ : Int32) {nl : Nat} (hn : nl ≤ 200) (fr : Nat) (hf : fr_ = nI fr) (hf2 : fr < 1000) : ∀ (n i a : Nat) (u2 : gT) (t : Int32 × Int32 × gT), i + 3 * n < 1000 → a ≤ 4 → (∀ (nu' : gT) (a' : Nat), a < a' → a' ≤ 4 → o_X2_isSo_r lt nu' (nI nl) (nI a') (chr lt nl fr) = 0) → F_X2_readItem lt nu (nI nl) am fr_ n (nI i) (nI a) u2 = some t → t.1 = -4 := by
  intro n
  induction n with
  | zero => intro i a u2 t _ _ _ h; cases h
  | succ n ih =>
    intro i a u2 t hi ha hso h
    by_cases c4 : a = 4
    · subst c4
      rw [F_X2_readItem, if_pos (show (4 : Int32) ≤ nI 4 by decide)] at h
      cases h; rfl
    · rw [cs_step lt nu u2 am fr_ hn (by omega) (by omega) fr hf hf2] at h
      by_cases c1 : isd lt nl i = 0
      · rw [if_pos c1] at h; cases h; rfl
      · rw [if_neg c1] at h
        by_cases c2 : chr lt nl (nxt lt nl i) = 59
        · rw [if_pos c2, if_pos (hso _ (a + 1) (by omega) (by omega))] at h; cases h; rfl
        · rw [if_neg c2] at h
          by_cases c3 : chr lt nl (nxt lt nl i) = 44
          · rw [if_pos c3] at h
            have := nxt_le (lt := lt) (nl := nl) (i := i)
            exact ih (nxt lt nl i + 1) (a + 1) _ t (by omega) (by omega) (fun nu' a' h1 h2 => hso nu' a' (by omega) h2) h
          · rw [if_neg c3] at h; cases h; rfl
/-! the reference's number -/
/-- the reader stands at i -/
def rst (v tx lt : gT) (nl i : Nat) : Prop := v 8 = nI nl ∧ v 9 = nI i ∧ (∀ j, j < nl → lt j = tx j) ∧ nl ≤ 200 ∧ i < 1000
theorem nx_in {v tx lt : gT} {nl i : Nat} (h : rst v tx lt nl i) : o_X8_in_r ((o_X8_next_r v tx).toInt64) 48 57 = isd lt nl i := by
  obtain ⟨h8, h9, ht, hn, hi⟩ := h
  rw [show o_X8_in_r ((o_X8_next_r v tx).toInt64) 48 57 = o_X7_within_r (o_X8_next_r v tx) 48 57 from w_in _ 48 57]
  unfold o_X8_next_r isd chr
  rw [h8, h9]
  by_cases c : i < nl
  · rw [if_neg (nI_ge c (by omega)), if_pos c, nI_clamp (by omega), ht i c]
  · rw [if_pos (nI_le (by omega) (by omega)), if_neg c]; decide
theorem nx_ch {v tx lt : gT} {nl i : Nat} (h : rst v tx lt nl i) (c : Int32) (h1 : ¬ c = -1) (h4 : ¬ c = -4) : (o_X8_next_r v tx = c) = (chr lt nl i = c) := by
  obtain ⟨h8, h9, ht, hn, hi⟩ := h
  unfold o_X8_next_r chr
  rw [h8, h9]
  by_cases q : i < nl
  · rw [if_neg (nI_ge q (by omega)), if_pos q, nI_clamp (by omega), ht i q]
  · rw [if_pos (nI_le (by omega) (by omega)), if_neg q]
    exact propext ⟨fun e => absurd e.symm h1, fun e => absurd e.symm h4⟩
theorem nx_fig {v tx lt : gT} {nl i : Nat} (h : rst v tx lt nl i) (hd : ¬ isd lt nl i = 0) : o_X8_next_r v tx = chr lt nl i := by
  have hlt := isd_lt hd
  obtain ⟨h8, h9, ht, hn, hi⟩ := h
  unfold o_X8_next_r chr
  rw [h8, h9, if_neg (nI_ge hlt (by omega)), if_pos hlt, nI_clamp (by omega), ht i hlt]
theorem rst.s {v tx lt : gT} {nl i : Nat} (h : rst v tx lt nl i) (hi : i + 1 < 1000) (a b : Int32) : rst (mkG15 (v 0) (v 1) (v 2) (v 3) (v 4) (v 5) (v 6) (v 7) (v 8) ((v 9) + 1) a b (v 12) (v 13) (v 14)) tx lt nl (i + 1) :=
  ⟨h.1, by show v 9 + 1 = nI (i + 1); rw [h.2.1, nI_1], h.2.2.1, h.2.2.2.1, hi⟩
theorem rst.s2 {v tx lt : gT} {nl i : Nat} (h : rst v tx lt nl i) (hi : i + 2 < 1000) (a b : Int32) : rst (mkG15 (v 0) (v 1) (v 2) (v 3) (v 4) (v 5) (v 6) (v 7) (v 8) (((v 9) + 1) + 1) a b (v 12) (v 13) (v 14)) tx lt nl (i + 2) :=
  ⟨h.1, by show v 9 + 1 + 1 = nI (i + 2); rw [h.2.1, nI_1, nI_1], h.2.2.1, h.2.2.2.1, hi⟩
theorem two_fig : ∀ a b : Fin 10, ((10 * ((0 + nI (48 + a.val)) - 48)) + nI (48 + b.val)) - 48 = (nI (48 + a.val) - 48) * 10 + (nI (48 + b.val) - 48) := by decide +kernel
theorem one_fig : ∀ a : Fin 10, (0 + nI (48 + a.val)) - 48 = nI (48 + a.val) - 48 := by decide +kernel
/-- a number stands at i, within its bounds -/
def okn (lt : gT) (nl i : Nat) (lo hi : Int32) : Prop := (¬ isd lt nl i = 0 ∧ (isd lt nl (i + 1) = 0 ∨ isd lt nl (i + 2) = 0)) ∧ ¬ o_X7_within_r (vnl lt nl i) lo hi = 0
theorem num_ok {v tx lt : gT} {nl i : Nat} (h : rst v tx lt nl i) (hi : i + 3 < 1000) (hw : v 11 = 0) (lo hi_ : Int32) (ho : okn lt nl i lo hi_) : o_X8_number_v v tx lo hi_ 11 = 0 ∧ o_X8_number_v v tx lo hi_ 9 = nI (nxt lt nl i) ∧ o_X8_number_r v tx lo hi_ = vnl lt nl i := by
  obtain ⟨⟨d0, d12⟩, hr⟩ := ho
  have n0 := nx_in h
  have n1 := nx_in (h.s (by omega) (v 10) (v 11))
  have n2 := nx_in (h.s2 (by omega) (v 10) (v 11))
  have f0 := nx_fig h d0
  obtain ⟨x0, e0⟩ := isd_fig d0
  have key : j_X8_number_0_1 v tx lo hi_ = vnl lt nl i ∧ j_X8_number_0_2 v tx lo hi_ = nI (nxt lt nl i) ∧ (j_X8_number_0_0 v tx lo hi_ = 1 ∨ j_X8_number_0_0 v tx lo hi_ = 2) := by
    unfold j_X8_number_0_1 j_X8_number_0_2 j_X8_number_0_0 vnl nxt
    rw [n0, n1, n2, if_neg d0, if_neg d0, if_neg d0]
    by_cases c1 : isd lt nl (i + 1) = 0
    · rw [if_pos c1, if_pos c1, if_pos c1, if_pos c1, if_pos c1, f0, e0, h.2.1, nI_1]
      exact ⟨one_fig x0, rfl, Or.inl rfl⟩
    · have c2 : isd lt nl (i + 2) = 0 := d12.resolve_left c1
      have f1 := nx_fig (h.s (by omega) (v 10) (v 11)) c1
      obtain ⟨x1, e1⟩ := isd_fig c1
      rw [if_neg c1, if_neg c1, if_neg c1, if_neg c1, if_neg c1, if_pos c2, if_pos c2, if_pos c2, f0, f1, e0, e1, h.2.1, nI_1, nI_1]
      exact ⟨two_fig x0 x1, rfl, Or.inr rfl⟩
  obtain ⟨k1, k2, k3⟩ := key
  have kw : j_X8_number_1_0 v tx lo hi_ = 0 := by
    unfold j_X8_number_1_0
    rw [if_pos hw, k1, w_in, if_neg hr]
    rcases k3 with q | q <;> rw [q] <;> rfl
  refine ⟨kw, k2, ?_⟩
  unfold o_X8_number_r
  rw [if_pos kw, k1]
theorem num_no {v tx lt : gT} {nl i : Nat} (h : rst v tx lt nl i) (hi : i + 3 < 1000) (lo hi_ : Int32) (ho : ¬ (v 11 = 0 ∧ okn lt nl i lo hi_)) : o_X8_number_v v tx lo hi_ 11 = 1 := by
  show j_X8_number_1_0 v tx lo hi_ = 1
  unfold j_X8_number_1_0
  by_cases hw : v 11 = 0
  · rw [if_pos hw]
    have n0 := nx_in h
    have n1 := nx_in (h.s (by omega) (v 10) (v 11))
    have n2 := nx_in (h.s2 (by omega) (v 10) (v 11))
    by_cases d0 : isd lt nl i = 0
    · have e : j_X8_number_0_0 v tx lo hi_ = 0 := by
        unfold j_X8_number_0_0
        rw [n0, if_pos d0]
      rw [if_pos e]
    · by_cases d12 : isd lt nl (i + 1) = 0 ∨ isd lt nl (i + 2) = 0
      · have hr : o_X7_within_r (vnl lt nl i) lo hi_ = 0 := by
          by_cases q : o_X7_within_r (vnl lt nl i) lo hi_ = 0
          · exact q
          · exact absurd ⟨hw, ⟨d0, d12⟩, q⟩ ho
        have f0 := nx_fig h d0
        obtain ⟨x0, e0⟩ := isd_fig d0
        have key : j_X8_number_0_1 v tx lo hi_ = vnl lt nl i := by
          unfold j_X8_number_0_1 vnl
          rw [n0, n1, n2, if_neg d0]
          by_cases c1 : isd lt nl (i + 1) = 0
          · rw [if_pos c1, if_pos c1, f0, e0]
            exact one_fig x0
          · have c2 : isd lt nl (i + 2) = 0 := d12.resolve_left c1
            have f1 := nx_fig (h.s (by omega) (v 10) (v 11)) c1
            obtain ⟨x1, e1⟩ := isd_fig c1
            rw [if_neg c1, if_neg c1, if_pos c2, f0, f1, e0, e1]
            exact two_fig x0 x1
        rw [key, w_in, if_pos hr]
        split
        · rfl
        · split <;> rfl
      · have c1 : ¬ isd lt nl (i + 1) = 0 := fun q => d12 (Or.inl q)
        have c2 : ¬ isd lt nl (i + 2) = 0 := fun q => d12 (Or.inr q)
        have e : j_X8_number_0_0 v tx lo hi_ = 3 := by
          unfold j_X8_number_0_0
          rw [n0, n1, n2, if_neg d0, if_neg c1, if_neg c2]
        rw [e, if_neg (by decide), if_pos (by decide)]
  · rw [if_neg hw]
theorem okn_of {lt : gT} {nl i : Nat} {lo hi c : Int32} (hc : o_X7_within_r c 48 57 = 0) (h : chr lt nl (nxt lt nl i) = c) (hd : ¬ isd lt nl i = 0) : okn lt nl i lo hi ↔ ¬ o_X7_within_r (vnl lt nl i) lo hi = 0 := by
  refine ⟨fun q => q.2, fun q => ⟨⟨hd, ?_⟩, q⟩⟩
  by_cases c1 : isd lt nl (i + 1) = 0
  · exact Or.inl c1
  · refine Or.inr ?_
    unfold nxt at h
    rw [if_neg c1] at h
    unfold isd
    rw [h]; exact hc
/-- behind a , a number -/
theorem more_ok {v tx lt : gT} {nl i : Nat} (h : rst v tx lt nl i) (hi : i + 4 < 1000) (hw : v 11 = 0) (lo hi_ : Int32) (hc : chr lt nl i = 44) (ho : okn lt nl (i + 1) lo hi_) : o_X8_more_v v tx lo hi_ 11 = 0 ∧ o_X8_more_v v tx lo hi_ 9 = nI (nxt lt nl (i + 1)) ∧ o_X8_more_r v tx lo hi_ = vnl lt nl (i + 1) := by
  have e : j_X8_more_0_0 v tx lo hi_ = 0 := by
    unfold j_X8_more_0_0
    rw [if_pos hw]
    simp only [nx_ch h 44 (by decide) (by decide), if_pos hc]
  unfold o_X8_more_v o_X8_more_r
  rw [e, if_pos rfl, if_pos rfl]
  exact num_ok (h.s (by omega) (v 10) 0) (by omega) rfl lo hi_ ho
theorem more_no {v tx lt : gT} {nl i : Nat} (h : rst v tx lt nl i) (hi : i + 4 < 1000) (lo hi_ : Int32) (ho : ¬ (v 11 = 0 ∧ chr lt nl i = 44 ∧ okn lt nl (i + 1) lo hi_)) : o_X8_more_v v tx lo hi_ 11 = 1 := by
  by_cases c : v 11 = 0 ∧ chr lt nl i = 44
  · have e : j_X8_more_0_0 v tx lo hi_ = 0 := by
      unfold j_X8_more_0_0
      rw [if_pos c.1]
      simp only [nx_ch h 44 (by decide) (by decide), if_pos c.2]
    unfold o_X8_more_v
    rw [e, if_pos rfl]
    exact num_no (h.s (by omega) (v 10) 0) (by omega) lo hi_ (fun q => ho ⟨c.1, c.2, q.2⟩)
  · have e : j_X8_more_0_0 v tx lo hi_ = 1 := by
      unfold j_X8_more_0_0
      by_cases c1 : v 11 = 0
      · rw [if_pos c1]
        have c2 : ¬ chr lt nl i = 44 := fun q => c ⟨c1, q⟩
        simp only [nx_ch h 44 (by decide) (by decide), if_neg c2]
      · rw [if_neg c1]
    unfold o_X8_more_v
    rw [e, if_neg (by decide)]
    rfl
theorem num_keep (v tx : gT) (lo hi : Int32) : o_X8_number_v v tx lo hi 0 = v 0 ∧ o_X8_number_v v tx lo hi 1 = v 1 ∧ o_X8_number_v v tx lo hi 2 = v 2 ∧ o_X8_number_v v tx lo hi 3 = v 3 ∧ o_X8_number_v v tx lo hi 4 = v 4 ∧ o_X8_number_v v tx lo hi 5 = v 5 ∧ o_X8_number_v v tx lo hi 6 = v 6 ∧ o_X8_number_v v tx lo hi 7 = v 7 ∧ o_X8_number_v v tx lo hi 8 = v 8 ∧ o_X8_number_v v tx lo hi 10 = v 10 ∧ o_X8_number_v v tx lo hi 12 = v 12 := ⟨rfl, rfl, rfl, rfl, rfl, rfl, rfl, rfl, rfl, rfl, rfl⟩
theorem more_keep (v tx : gT) (lo hi : Int32) : o_X8_more_v v tx lo hi 0 = v 0 ∧ o_X8_more_v v tx lo hi 1 = v 1 ∧ o_X8_more_v v tx lo hi 2 = v 2 ∧ o_X8_more_v v tx lo hi 3 = v 3 ∧ o_X8_more_v v tx lo hi 4 = v 4 ∧ o_X8_more_v v tx lo hi 5 = v 5 ∧ o_X8_more_v v tx lo hi 6 = v 6 ∧ o_X8_more_v v tx lo hi 7 = v 7 ∧ o_X8_more_v v tx lo hi 8 = v 8 ∧ o_X8_more_v v tx lo hi 10 = v 10 ∧ o_X8_more_v v tx lo hi 12 = v 12 := by
  unfold o_X8_more_v
  split
  · exact ⟨rfl, rfl, rfl, rfl, rfl, rfl, rfl, rfl, rfl, rfl, rfl⟩
  · exact ⟨rfl, rfl, rfl, rfl, rfl, rfl, rfl, rfl, rfl, rfl, rfl⟩
