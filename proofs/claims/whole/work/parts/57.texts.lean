theorem nx_at {v tx lt : gT} {nl i : Nat} (h : rst v tx lt nl i) (hi : i < nl) : o_X8_next_r v tx = chr lt nl i := by
  obtain ⟨h8, h9, ht, hn, hi2⟩ := h
  unfold o_X8_next_r chr
  rw [h8, h9, if_neg (nI_ge hi (by omega)), if_pos hi, nI_clamp (by omega), ht i hi]
theorem it_keep (v mw sl tx : gT) (c : Int32) : o_X8_item_v v mw sl tx c 0 = v 0 ∧ o_X8_item_v v mw sl tx c 1 = v 1 ∧ o_X8_item_v v mw sl tx c 2 = v 2 ∧ o_X8_item_v v mw sl tx c 6 = v 6 ∧ o_X8_item_v v mw sl tx c 7 = v 7 ∧ o_X8_item_v v mw sl tx c 8 = v 8 ∧ o_X8_item_v v mw sl tx c 10 = v 10 ∧ o_X8_item_v v mw sl tx c 12 = v 12 := by
  have hm : ∀ (w : gT) (lo hi : Int32), o_X8_more_v w tx lo hi 0 = w 0 ∧ o_X8_more_v w tx lo hi 1 = w 1 ∧ o_X8_more_v w tx lo hi 2 = w 2 ∧ o_X8_more_v w tx lo hi 6 = w 6 ∧ o_X8_more_v w tx lo hi 7 = w 7 ∧ o_X8_more_v w tx lo hi 8 = w 8 ∧ o_X8_more_v w tx lo hi 10 = w 10 ∧ o_X8_more_v w tx lo hi 12 = w 12 := fun w lo hi => by
    obtain ⟨a0, a1, a2, -, -, -, a6, a7, a8, a10, a12⟩ := more_keep w tx lo hi
    exact ⟨a0, a1, a2, a6, a7, a8, a10, a12⟩
  unfold o_X8_item_v
  split
  · exact ⟨rfl, rfl, rfl, rfl, rfl, rfl, rfl, rfl⟩
  split
  · unfold o_X8_hedgeItem_v
    obtain ⟨a0, a1, a2, a6, a7, a8, a10, a12⟩ := hm (o_X8_number_v v tx 0 1) 0 4
    obtain ⟨b0, b1, b2, b6, b7, b8, b10, b12⟩ := hm (o_X8_more_v (o_X8_number_v v tx 0 1) tx 0 4) 0 40
    obtain ⟨c0, c1, c2, c6, c7, c8, c10, c12⟩ := hm (o_X8_more_v (o_X8_more_v (o_X8_number_v v tx 0 1) tx 0 4) tx 0 40) 0 99
    exact ⟨c0.trans (b0.trans a0), c1.trans (b1.trans a1), c2.trans (b2.trans a2), c6.trans (b6.trans a6), c7.trans (b7.trans a7), c8.trans (b8.trans a8), c10.trans (b10.trans a10), c12.trans (b12.trans a12)⟩
  split
  · exact hm (o_X8_number_v v tx 0 11) 1 9
  split
  · exact ⟨rfl, rfl, rfl, rfl, rfl, rfl, rfl, rfl⟩
  split
  · exact ⟨rfl, rfl, rfl, rfl, rfl, rfl, rfl, rfl⟩
  split <;> exact ⟨rfl, rfl, rfl, rfl, rfl, rfl, rfl, rfl⟩
theorem it_low (v mw sl tx : gT) (c : Int32) {j : Nat} (hj : j < 143) : o_X8_item_2 v mw sl tx c j = sl j := by
  unfold o_X8_item_2
  split
  · rfl
  split
  · unfold o_X8_hedgeItem_1
    split
    · have h := num_ri v tx 1 (c := 1) (by decide)
      have e : ∀ a : Nat, a < 150 → 143 ≤ a → 143 ≤ (nI a + o_X8_number_r v tx 0 1).toNatClampNeg := fun a ha ha2 => by
        have e1 := (z_clamp (n := o_X8_number_r v tx 0 1) h.1).1
        have e2 := (z_clamp (n := o_X8_number_r v tx 0 1) h.1).2
        rw [e1, nI_add, nI_clamp (by omega)]
        omega
      have e1 : j ≠ (143 + o_X8_number_r v tx 0 1).toNatClampNeg := by have := e 143 (by decide) (by decide); intro q; rw [q] at hj; exact absurd hj (Nat.not_lt.mpr this)
      have e2 : j ≠ (145 + o_X8_number_r v tx 0 1).toNatClampNeg := by have := e 145 (by decide) (by decide); intro q; rw [q] at hj; exact absurd hj (Nat.not_lt.mpr this)
      have e3 : j ≠ (149 + o_X8_number_r v tx 0 1).toNatClampNeg := by have := e 149 (by decide) (by decide); intro q; rw [q] at hj; exact absurd hj (Nat.not_lt.mpr this)
      exact (if_neg e3).trans ((if_neg e2).trans (if_neg e1))
    · rfl
  split
  · rfl
  split
  · exact if_neg (by omega)
  · rfl
/-- what the reference's scraps keep -/
def kps (a b : gT) : Prop := a 0 = b 0 ∧ a 1 = b 1 ∧ a 2 = b 2 ∧ a 6 = b 6 ∧ a 7 = b 7 ∧ a 8 = b 8 ∧ a 12 = b 12
theorem kps.tr {a b c : gT} (h : kps a b) (k : kps b c) : kps a c := ⟨h.1.trans k.1, h.2.1.trans k.2.1, h.2.2.1.trans k.2.2.1, h.2.2.2.1.trans k.2.2.2.1, h.2.2.2.2.1.trans k.2.2.2.2.1, h.2.2.2.2.2.1.trans k.2.2.2.2.2.1, h.2.2.2.2.2.2.trans k.2.2.2.2.2.2⟩
set_option maxHeartbeats 8000000 in
set_option maxRecDepth 20000 in
theorem rd_all (lt tx nu0 v0 mw0 sl0 sun0 dry0 g0 : gT) (am0 len0 need0 : Int32) (nl : Nat) : ∀ (n2 i : Nat) (u mw sl sun dry g : gT) (len need : Int32), rst u tx lt nl i → i ≤ nl → u 11 = 0 → FR len need sun dry g u mw sl → ∀ t2, F_X8_reads v0 mw0 sl0 tx n2 u mw sl = some t2 →
    kps t2.2.1 u ∧ (∀ j, j < 143 → t2.2.2.2 j = sl j) ∧
    ((t2.1 = 1 ∧ (∀ n1 am nu t1, F_X2_firstFault lt nu0 (nI nl) am0 n1 (nI i) am nu = some t1 → t1.1 = -4) ∧ (∀ n3 am nu t3, F_X7_layPaper lt nu0 (nI nl) am0 sun0 dry0 len0 need0 g0 n3 (nI i) am nu len need sun dry g = some t3 → FR t3.2.2.1 t3.2.2.2.1 t3.2.2.2.2.1 t3.2.2.2.2.2.1 t3.2.2.2.2.2.2 t2.2.1 t2.2.2.1 t2.2.2.2))
    ∨ (t2.1 = 0 ∧ ∃ f, f < nl ∧ t2.2.1 10 = nI f ∧ ∀ n1 am nu t1, F_X2_firstFault lt nu0 (nI nl) am0 n1 (nI i) am nu = some t1 → t1.1 = nI f)) := by
  intro n2
  induction n2 with
  | zero => intro i u mw sl sun dry g len need _ _ _ _ t2 h; cases h
  | succ n2 ih =>
    intro i u mw sl sun dry g len need hst hil hw hF t2 h
    have hnl := hst.2.2.2.1
    rw [F_X8_reads] at h
    by_cases c : nl ≤ i
    · rw [if_pos (by rw [hst.1, hst.2.1]; exact nI_le c (by omega)), if_pos hw] at h
      cases h
      refine ⟨⟨rfl, rfl, rfl, rfl, rfl, rfl, rfl⟩, fun j _ => rfl, Or.inl ⟨rfl, fun n1 am nu t1 h1 => ?_, fun n3 am nu t3 h3 => ?_⟩⟩
      · cases n1 with
        | zero => cases h1
        | succ n1 =>
          rw [F_X2_firstFault, if_pos (nI_le c (by omega))] at h1
          cases h1; rfl
      · cases n3 with
        | zero => cases h3
        | succ n3 =>
          rw [F_X7_layPaper, if_pos (nI_le c (by omega))] at h3
          cases h3; exact hF
    · have hi : i < nl := by omega
      rw [if_neg (by rw [hst.1, hst.2.1]; exact nI_ge hi (by omega)), if_pos hw] at h
      unfold j_X8_reads_4_0 at h
      have hC : o_X8_next_r (mkG15 (u 0) (u 1) (u 2) (u 3) (u 4) (u 5) (u 6) (u 7) (u 8) (u 9) (u 9) (u 11) (u 12) (u 13) (u 14)) tx = chr lt nl i := nx_at (v := (mkG15 (u 0) (u 1) (u 2) (u 3) (u 4) (u 5) (u 6) (u 7) (u 8) (u 9) (u 9) (u 11) (u 12) (u 13) (u 14))) ⟨hst.1, hst.2.1, hst.2.2.1, hnl, by omega⟩ hi
      rw [hC] at h
      have hst0 : rst (mkG15 (u 0) (u 1) (u 2) (u 3) (u 4) (u 5) (u 6) (u 7) (u 8) ((u 9) + 1) (u 9) (u 11) (u 12) (u 13) (u 14)) tx lt nl (i + 1) := hst.s (by omega) (u 9) (u 11)
      have hF0 : FR len need sun dry g (mkG15 (u 0) (u 1) (u 2) (u 3) (u 4) (u 5) (u 6) (u 7) (u 8) ((u 9) + 1) (u 9) (u 11) (u 12) (u 13) (u 14)) mw sl := hF
      have hit := fun (nu : gT) (am : Int32) => it_all lt nu tx am nl i len need sun dry g (mkG15 (u 0) (u 1) (u 2) (u 3) (u 4) (u 5) (u 6) (u 7) (u 8) ((u 9) + 1) (u 9) (u 11) (u 12) (u 13) (u 14)) mw sl hst0 hi hw hF0 (chr lt nl i) rfl
      have hkp := it_keep (mkG15 (u 0) (u 1) (u 2) (u 3) (u 4) (u 5) (u 6) (u 7) (u 8) ((u 9) + 1) (u 9) (u 11) (u 12) (u 13) (u 14)) mw sl tx (chr lt nl i)
      have hlo := fun (j : Nat) (hj : j < 143) => it_low (mkG15 (u 0) (u 1) (u 2) (u 3) (u 4) (u 5) (u 6) (u 7) (u 8) ((u 9) + 1) (u 9) (u 11) (u 12) (u 13) (u 14)) mw sl tx (chr lt nl i) hj
      unfold itd at hit
      generalize o_X8_item_v (mkG15 (u 0) (u 1) (u 2) (u 3) (u 4) (u 5) (u 6) (u 7) (u 8) ((u 9) + 1) (u 9) (u 11) (u 12) (u 13) (u 14)) mw sl tx (chr lt nl i) = W at h hit hkp
      generalize o_X8_item_1 (mkG15 (u 0) (u 1) (u 2) (u 3) (u 4) (u 5) (u 6) (u 7) (u 8) ((u 9) + 1) (u 9) (u 11) (u 12) (u 13) (u 14)) mw sl tx (chr lt nl i) = W1 at h hit
      generalize o_X8_item_2 (mkG15 (u 0) (u 1) (u 2) (u 3) (u 4) (u 5) (u 6) (u 7) (u 8) ((u 9) + 1) (u 9) (u 11) (u 12) (u 13) (u 14)) mw sl tx (chr lt nl i) = W2 at h hit hlo
      obtain ⟨k0, k1, k2, k6, k7, k8, k10, k12⟩ := hkp
      have h : F_X8_reads v0 mw0 sl0 tx n2 (mkG15 (W 0) (W 1) (W 2) (W 3) (W 4) (W 5) (W 6) (W 7) (W 8) ((W 9) + 1) (W 10) (j40 W tx) (W 12) (W 13) (W 14)) W1 W2 = some t2 := h
      by_cases hj : j40 W tx = 0
      · -- the item is so
        obtain ⟨j, hj1, hj2, hj5⟩ : ∃ j, i < j ∧ j ≤ nl ∧ W 9 + 1 = nI j := by
          rcases hit nu0 am0 with ⟨-, q⟩ | ⟨j, q1, q2, -, -, q5, -⟩
          · rw [hj] at q; exact absurd q (by decide)
          · exact ⟨j, q1, q2, q5⟩
        have hall : ∀ nu am, (RI lt nu (nI nl) am (nI i)).1 = nI j ∧ FR (o_X7_layItem_4_2 g sun dry len need (RI lt nu (nI nl) am (nI i)).2.2 (chr lt nl i)) (o_X7_layItem_4_3 g sun dry len need (RI lt nu (nI nl) am (nI i)).2.2 (chr lt nl i)) (o_X7_layItem_5 g sun dry len need (RI lt nu (nI nl) am (nI i)).2.2 (chr lt nl i)) (o_X7_layItem_6 g sun dry len need (RI lt nu (nI nl) am (nI i)).2.2 (chr lt nl i)) (o_X7_layItem_g g sun dry len need (RI lt nu (nI nl) am (nI i)).2.2 (chr lt nl i)) W W1 W2 := fun nu am => by
          rcases hit nu am with ⟨-, q⟩ | ⟨j', q1, q2, q3, -, q5, q6⟩
          · rw [hj] at q; exact absurd q (by decide)
          · have : j' = j := (nI_eq (by omega) (by omega)).mp (q5.symm.trans hj5)
            subst this
            exact ⟨q3, q6⟩
        have hst' : rst (mkG15 (W 0) (W 1) (W 2) (W 3) (W 4) (W 5) (W 6) (W 7) (W 8) ((W 9) + 1) (W 10) (j40 W tx) (W 12) (W 13) (W 14)) tx lt nl j := ⟨k8.trans hst.1, hj5, hst.2.2.1, hnl, by omega⟩
        have hiv := fun (nu : gT) (am : Int32) => ih j _ W1 W2 _ _ _ _ _ hst' hj2 hj (hall nu am).2 t2 h
        obtain ⟨r1, r2, r3⟩ := hiv nu0 am0
        have hlt : nI i < nI j := nI_lt hj1 (by omega)
        refine ⟨r1.tr ⟨k0, k1, k2, k6, k7, k8, k12⟩, fun q hq => (r2 q hq).trans (hlo q hq), ?_⟩
        rcases r3 with ⟨a1, a2, -⟩ | ⟨a1, f, a2, a3, a4⟩
        · refine Or.inl ⟨a1, fun n1 am nu t1 h1 => ?_, fun n3 am nu t3 h3 => ?_⟩
          · cases n1 with
            | zero => cases h1
            | succ n1 =>
              rw [F_X2_firstFault, if_neg (nI_ge hi (by omega)), (hall nu am).1, if_pos hlt] at h1
              exact a2 n1 _ _ t1 h1
          · cases n3 with
            | zero => cases h3
            | succ n3 =>
              rw [F_X7_layPaper, if_neg (nI_ge hi (by omega)), (hall nu am).1, if_pos hlt, la_eq lt _ _ hnl (by omega)] at h3
              rcases (hiv nu am).2.2 with ⟨-, -, b3⟩ | ⟨b1, -⟩
              · exact b3 n3 _ _ t3 h3
              · rw [a1] at b1; exact absurd b1 (by decide)
        · refine Or.inr ⟨a1, f, a2, a3, fun n1 am nu t1 h1 => ?_⟩
          cases n1 with
          | zero => cases h1
          | succ n1 =>
            rw [F_X2_firstFault, if_neg (nI_ge hi (by omega)), (hall nu am).1, if_pos hlt] at h1
            exact a4 n1 _ _ t1 h1
      · -- it is not
        have hno : ∀ nu am, (RI lt nu (nI nl) am (nI i)).1 = -4 := fun nu am => by
          rcases hit nu am with ⟨q, -⟩ | ⟨_, _, _, _, q4, _⟩
          · exact q
          · exact absurd q4 hj
        have ht2 : t2 = (0, (mkG15 (W 0) (W 1) (W 2) (W 3) (W 4) (W 5) (W 6) (W 7) (W 8) ((W 9) + 1) (W 10) (j40 W tx) (W 12) (W 13) (W 14)), W1, W2) := by
          cases n2 with
          | zero => cases h
          | succ n2 =>
            rw [F_X8_reads] at h
            have h11 : ¬ (mkG15 (W 0) (W 1) (W 2) (W 3) (W 4) (W 5) (W 6) (W 7) (W 8) ((W 9) + 1) (W 10) (j40 W tx) (W 12) (W 13) (W 14)) 11 = 0 := hj
            rw [if_neg h11, if_neg h11] at h
            split at h <;> exact (Option.some.inj h).symm
        subst ht2
        have h10 : W 10 = nI i := k10.trans hst.2.1
        refine ⟨⟨k0, k1, k2, k6, k7, k8, k12⟩, fun q hq => hlo q hq, Or.inr ⟨rfl, i, hi, h10, fun n1 am nu t1 h1 => ?_⟩⟩
        cases n1 with
        | zero => cases h1
        | succ n1 =>
          rw [F_X2_firstFault, if_neg (nI_ge hi (by omega)), hno nu am, if_neg (fun q => by
            rw [Int32.lt_iff_toInt_lt, nI_toInt (by omega), show (-4 : Int32).toInt = -4 from by decide] at q
            omega)] at h1
          cases h1; rfl
theorem rd_mw (v mw sl tx : gT) : ∀ k j, j < k → L_X8_reads_0 v mw sl tx k j = 5 := by
  intro k
  induction k with
  | zero => intro j hj; omega
  | succ k ih =>
    intro j hj
    rw [L_X8_reads_0]
    by_cases c : j = k
    · subst c; exact if_pos rfl
    · exact (if_neg c).trans (ih j (by omega))
theorem rd_sl (v mw sl tx : gT) : ∀ k, (∀ j, j < k → L_X8_reads_1 v mw sl tx k (143 + j) = j_X8_reads_2_0 v mw sl tx j (fun _ => 0)) ∧ ∀ j, j < 143 → L_X8_reads_1 v mw sl tx k j = sl j := by
  intro k
  induction k with
  | zero => exact ⟨fun j hj => by omega, fun j _ => rfl⟩
  | succ k ih =>
    rw [L_X8_reads_1]
    refine ⟨fun j hj => ?_, fun j hj => (if_neg (by omega)).trans (ih.2 j hj)⟩
    by_cases c : j = k
    · subst c; exact (if_pos rfl).trans rfl
    · exact (if_neg (by omega)).trans (ih.1 j (by omega))
theorem cl_sd (sun dry : gT) (len need : Int32) : ∀ k, k ≤ 12 → ∀ j, j < k → (L_X6_clear_0 sun dry len need k).1 j = 5 ∧ (L_X6_clear_0 sun dry len need k).2 j = 0 := by
  intro k
  induction k with
  | zero => intro _ j hj; omega
  | succ k ih =>
    intro hk j hj
    rw [L_X6_clear_0]
    dsimp only
    rw [set_eq _ _ (show k < 12 by omega) (by decide), set_eq _ _ (show k < 12 by omega) (by decide)]
    by_cases c : j = k
    · subst c; exact ⟨if_pos rfl, if_pos rfl⟩
    · have h := ih (by omega) j (by omega)
      exact ⟨(if_neg c).trans h.1, (if_neg c).trans h.2⟩
theorem FR0 (v mw sl tx sun dry g : gT) (len need : Int32) (u : gT) (h3 : u 3 = 12) (h4 : u 4 = 2) (h5 : u 5 = 0) : FR 12 2 (o_X6_clear_1 sun dry len need) (o_X6_clear_2 sun dry len need) (o_X0_clear_g g) u (L_X8_reads_0 v mw sl tx 12) (L_X8_reads_1 v mw sl tx 13) := by
  have hs := (rd_sl v mw sl tx 13).1
  refine ⟨h3, h4, ⟨by decide, by decide⟩, by decide, fun j hj => ?_, fun j hj => ?_, ?_, ?_, rfl, rfl, rfl, rfl⟩
  · exact (cl_sd sun dry len need 12 (Nat.le_refl _) j hj).1.trans (rd_mw v mw sl tx 12 j hj).symm
  · rw [show o_X6_clear_2 sun dry len need j = 0 from (cl_sd sun dry len need 12 (Nat.le_refl _) j hj).2, h5, b_0]
    rfl
  · refine ⟨(hs 0 (by decide)).trans ?_, (hs 1 (by decide)).trans ?_, (hs 2 (by decide)).trans ?_, (hs 3 (by decide)).trans ?_, (hs 4 (by decide)).trans ?_, (hs 5 (by decide)).trans ?_, (hs 6 (by decide)).trans ?_, (hs 7 (by decide)).trans ?_, (hs 8 (by decide)).trans ?_, (hs 9 (by decide)).trans ?_, (hs 10 (by decide)).trans ?_, (hs 11 (by decide)).trans ?_, (hs 12 (by decide)).trans ?_⟩ <;> rfl
  · exact ⟨⟨z_00, by show (0 : Int32).toInt ≤ 4; decide⟩, ⟨z_00, by show (0 : Int32).toInt ≤ 4; decide⟩, ⟨by show 0 ≤ (1 : Int32).toInt; decide, by show (1 : Int32).toInt ≤ 40; decide⟩, ⟨by show 0 ≤ (1 : Int32).toInt; decide, by show (1 : Int32).toInt ≤ 40; decide⟩, ⟨z_00, by show (0 : Int32).toInt ≤ 0; decide⟩, z_00, z_00, Or.inl (by show (0 : Int32) < 2; decide)⟩
/-- the text read whole -/
theorem rd_tx (v mw sl tx lt : gT) (nl : Nat) (h8 : v 8 = nI nl) (hnl : nl ≤ 200) (ht : ∀ j, j < nl → lt j = tx j) :
    kps (RDS v mw sl tx).2.1 v ∧ (∀ j, j < 143 → (RDS v mw sl tx).2.2.2 j = sl j) ∧
    (((RDS v mw sl tx).1 = 1 ∧ (∀ am nu, (FF lt nu (nI nl) am).1 = -4) ∧ (∀ am nu sun dry len need g, FR (LPF lt nu (nI nl) am sun dry len need g).2.2.1 (LPF lt nu (nI nl) am sun dry len need g).2.2.2.1 (LPF lt nu (nI nl) am sun dry len need g).2.2.2.2.1 (LPF lt nu (nI nl) am sun dry len need g).2.2.2.2.2.1 (LPF lt nu (nI nl) am sun dry len need g).2.2.2.2.2.2 (RDS v mw sl tx).2.1 (RDS v mw sl tx).2.2.1 (RDS v mw sl tx).2.2.2))
    ∨ ((RDS v mw sl tx).1 = 0 ∧ ∃ f, f < nl ∧ (RDS v mw sl tx).2.1 10 = nI f ∧ ∀ am nu, (FF lt nu (nI nl) am).1 = nI f)) := by
  have hR := RD_eq v mw sl tx (by rw [h8, nI_toInt (by omega)]; omega)
  unfold O_X8_reads at hR
  have hst : rst (mkG15 (v 0) (v 1) (v 2) 12 2 0 (v 6) (v 7) (v 8) 0 (v 10) 0 (v 12) (v 13) (v 14)) tx lt nl 0 := ⟨h8, rfl, ht, hnl, by decide⟩
  generalize RDS v mw sl tx = T at hR ⊢
  have hlow := (rd_sl v mw sl tx 13).2
  have key := fun (am0 : Int32) (nu0 sun0 dry0 : gT) (len0 need0 : Int32) (g0 : gT) => rd_all lt tx nu0 v mw sl sun0 dry0 g0 am0 len0 need0 nl 201 0 _ (L_X8_reads_0 v mw sl tx 12) (L_X8_reads_1 v mw sl tx 13) _ _ _ 12 2 hst (Nat.zero_le _) rfl (FR0 v mw sl tx sun0 dry0 g0 len0 need0 _ rfl rfl rfl) _ hR
  obtain ⟨a1, a2, a3⟩ := key 0 (fun _ => 0) (fun _ => 0) (fun _ => 0) 0 0 (fun _ => 0)
  refine ⟨a1.tr ⟨rfl, rfl, rfl, rfl, rfl, rfl, rfl⟩, fun j hj => (a2 j hj).trans (hlow j hj), ?_⟩
  rcases a3 with ⟨b1, -, -⟩ | ⟨b1, f, b2, b3, -⟩
  · refine Or.inl ⟨b1, fun am nu => ?_, fun am nu sun dry len need g => ?_⟩
    · rcases (key am nu (fun _ => 0) (fun _ => 0) 0 0 (fun _ => 0)).2.2 with ⟨-, c2, -⟩ | ⟨c1, -⟩
      · exact c2 _ am nu _ (FF_eq lt nu (nI nl) am)
      · exact absurd (b1.symm.trans c1) (by decide)
    · rcases (key am nu sun dry len need g).2.2 with ⟨-, -, c3⟩ | ⟨c1, -⟩
      · exact c3 _ am nu _ (LPF_eq lt nu (nI nl) am sun dry len need g)
      · exact absurd (b1.symm.trans c1) (by decide)
  · refine Or.inr ⟨b1, f, b2, b3, fun am nu => ?_⟩
    rcases (key am nu (fun _ => 0) (fun _ => 0) 0 0 (fun _ => 0)).2.2 with ⟨c1, -, -⟩ | ⟨-, f', _, c3, c4⟩
    · exact absurd (b1.symm.trans c1) (by decide)
    · have e := c4 _ am nu _ (FF_eq lt nu (nI nl) am)
      exact e.trans (c3.symm.trans b3)
set_option maxHeartbeats 2000000 in
theorem q_fault {Bd : Int} {lt g sun dry pf kf fs ft fh v ms sl tx f1 f2 f3 : Nat → Int32} {sz len need psz ksz : Int32} {zk na nk nl : Nat} (mw nu : Nat → Int32) (am : Int32) (hI : Inv Bd lt sz g sun dry len need pf psz kf ksz fs ft fh zk v ms sl tx f1 f2 f3 na nk nl) (hB : Bd < 1000000) : o_X7_fault_r lt nu sz am = o_X8_fault_r v mw sl tx ∧ Inv (Bd + 24) lt sz g sun dry len need pf psz kf ksz fs ft fh zk (o_X8_fault_v v mw sl tx) ms (o_X8_fault_2 v mw sl tx) tx f1 f2 f3 na nk nl := by
  have hI' := hI
  obtain ⟨hs, he, hg, hp, p1, p2, p3, hk, k1, k2, k3, t1, t2, t3, t4, z1, z2, z3⟩ := hI'
  subst t1
  unfold o_X7_fault_r o_X8_fault_r o_X8_fault_v o_X8_fault_2
  obtain ⟨⟨a0, a1, a2, a6, a7, a8, a12⟩, b, c⟩ := rd_tx v mw sl tx lt nl t2 t3 (fun j hj => (t4 j hj).1)
  refine ⟨?_, (hI.le (by omega)).tried b a0 a1 a2 a6 a7 a8 a12⟩
  rcases c with ⟨c1, c2, -⟩ | ⟨c1, f, -, c3, c4⟩
  · rw [c1, if_neg (by decide)]; exact c2 am nu
  · rw [c1, if_pos rfl, c3]; exact c4 am nu
set_option maxHeartbeats 2000000 in
theorem q_lay {Bd : Int} {lt g sun dry pf kf fs ft fh v ms sl tx f1 f2 f3 : Nat → Int32} {sz len need psz ksz : Int32} {zk na nk nl : Nat} (mw nu : Nat → Int32) (am : Int32) (hI : Inv Bd lt sz g sun dry len need pf psz kf ksz fs ft fh zk v ms sl tx f1 f2 f3 na nk nl) (hB : Bd < 1000000) : o_X7_lay_r lt nu sz am sun dry len need g pf 8 psz kf 2 ksz fs ft fh zk = o_X8_lay_r v ms mw sl tx ∧ ∃ na2 nk2 zk2, o_X7_lay_14_3 lt nu sz am sun dry len need g pf 8 psz kf 2 ksz fs ft fh zk = nI zk2 ∧ Inv (Bd + 24) lt sz (o_X7_lay_g lt nu sz am sun dry len need g pf 8 psz kf 2 ksz fs ft fh zk) (o_X7_lay_5 lt nu sz am sun dry len need g pf 8 psz kf 2 ksz fs ft fh zk) (o_X7_lay_6 lt nu sz am sun dry len need g pf 8 psz kf 2 ksz fs ft fh zk) (o_X7_lay_4_2 lt nu sz am sun dry len need g pf 8 psz kf 2 ksz fs ft fh zk) (o_X7_lay_4_3 lt nu sz am sun dry len need g pf 8 psz kf 2 ksz fs ft fh zk) pf (o_X7_lay_10_2 lt nu sz am sun dry len need g pf 8 psz kf 2 ksz fs ft fh zk) kf (o_X7_lay_12_2 lt nu sz am sun dry len need g pf 8 psz kf 2 ksz fs ft fh zk) fs ft fh zk2 (o_X8_lay_v v ms mw sl tx) (o_X8_lay_1 v ms mw sl tx) (o_X8_lay_3 v ms mw sl tx) tx f1 f2 f3 na2 nk2 nl := by
  have hI' := hI
  obtain ⟨hs, he, hg, hp, p1, p2, p3, hk, k1, k2, k3, t1, t2, t3, t4, z1, z2, z3⟩ := hI'
  subst t1
  unfold o_X7_lay_r o_X8_lay_r o_X7_lay_14_3 o_X7_lay_g o_X7_lay_5 o_X7_lay_6 o_X7_lay_4_2 o_X7_lay_4_3 o_X7_lay_10_2 o_X7_lay_12_2 o_X8_lay_v o_X8_lay_1 o_X8_lay_3
  rw [t2]
  by_cases c0 : nI nl = 0
  · simp only [if_pos c0]; exact ⟨trivial, na, nk, zk, rfl, hI.le (by omega)⟩
  simp only [if_neg c0]
  obtain ⟨⟨a0, a1, a2, a6, a7, a8, a12⟩, b, c⟩ := rd_tx v mw sl tx lt nl t2 t3 (fun j hj => (t4 j hj).1)
  rcases c with ⟨c1, c2, c3⟩ | ⟨c1, f, c2, -, c4⟩
  · have c5 := c2 am nu
    have c6 : ¬ (RDS v mw sl tx).1 = 0 := by rw [c1]; decide
    simp only [if_pos c5, if_neg c6]
    have hF := c3 (FF lt nu (nI nl) am).2.1 (FF lt nu (nI nl) am).2.2 sun dry len need g
    generalize LPF lt (FF lt nu (nI nl) am).2.2 (nI nl) (FF lt nu (nI nl) am).2.1 sun dry len need g = Y at hF ⊢
    have hms : ∀ k, ∀ j, j < k → L_X8_lay_0 v ms mw sl tx k j = (RDS v mw sl tx).2.2.1 j := by
      intro k
      induction k with
      | zero => intro j hj; omega
      | succ k ih =>
        intro j hj
        rw [L_X8_lay_0]
        by_cases q : j = k
        · subst q; exact if_pos rfl
        · exact (if_neg q).trans (ih j (by omega))
    generalize RDS v mw sl tx = T at *
    obtain ⟨f3, f4, f5, f6, f7, f8, f9, f10, f11, f12, f13, f14⟩ := hF
    have hB0 : 0 ≤ Bd := Int.le_trans hg.2.2.2.2.1.1 hg.2.2.2.2.1.2
    refine ⟨f3.symm, 0, 0, 0, rfl, ⟨f3, f4, fun j hj => (f7 j hj).trans (hms 12 j hj).symm, f5, f6, fun j hj => ?_⟩, f9.cp, f10.le (by omega), fun i hi => absurd hi (by omega), rfl, rfl, by omega, fun i hi => absurd hi (by omega), rfl, rfl, by omega, rfl, a8.trans t2, t3, t4, rfl, by omega, fun j hj => absurd hj (by omega)⟩
    show _ = if ((T.2.1 5 >>> (nI j &&& 31)) &&& 1) = 1 then (1 : Int32) else 0
    simp only [bt_1 _ j (by omega)]
    exact f8 j hj
  · have c5 : ¬ (FF lt nu (nI nl) am).1 = -4 := by
      rw [c4 am nu]
      intro q
      have := congrArg Int32.toInt q
      rw [nI_toInt (by omega), show (-4 : Int32).toInt = -4 from by decide] at this
      omega
    simp only [if_neg c5, if_pos c1]
    exact ⟨trivial, na, nk, zk, rfl, (hI.le (by omega)).tried b a0 a1 a2 a6 a7 a8 a12⟩
