theorem so_s (lt nu : gT) (sz : Int32) (a : Nat) (ha : a ≤ 4) : o_X2_isSo_r lt nu sz (nI a) 115 = if a = 2 then (if o_X7_within_r (nu 0) 0 11 = 0 then 0 else (if o_X7_within_r (nu 1) 1 9 = 0 then 0 else 1)) else 0 := by
  unfold o_X2_isSo_r
  rw [if_neg (show ¬ (115 : Int32) = 100 by decide), if_neg (show ¬ (115 : Int32) = 104 by decide), if_neg (show ¬ (115 : Int32) = 108 by decide), if_neg (show ¬ (115 : Int32) = 114 by decide), if_pos rfl]
  by_cases q : a = 2
  · subst q
    rw [if_pos (show nI 2 = 2 from rfl), if_pos rfl]
    unfold o_X2_number_r
    rw [c40 nu 0 (by decide) 0 rfl, c40 nu 1 (by decide) 1 rfl]
  · rw [if_neg (show ¬ nI a = 2 from a_ne (by omega) (by decide) q), if_neg q]
theorem so_h (lt nu : gT) (sz : Int32) (a : Nat) (ha : a ≤ 4) : o_X2_isSo_r lt nu sz (nI a) 104 = if a = 4 then (if o_X7_within_r (nu 0) 0 1 = 0 then 0 else (if o_X7_within_r (nu 1) 0 4 = 0 then 0 else (if o_X7_within_r (nu 2) 0 40 = 0 then 0 else 1))) else 0 := by
  unfold o_X2_isSo_r
  rw [if_neg (show ¬ (104 : Int32) = 100 by decide), if_pos rfl]
  by_cases q : a = 4
  · subst q
    rw [if_pos (show nI 4 = 4 from rfl), if_pos rfl]
    unfold o_X2_number_r
    rw [c40 nu 0 (by decide) 0 rfl, c40 nu 1 (by decide) 1 rfl, c40 nu 2 (by decide) 2 rfl]
  · rw [if_neg (show ¬ nI a = 4 from a_ne (by omega) (by decide) q), if_neg q]
theorem so_o (lt nu : gT) (sz am x : Int32) (h1 : ¬ x = 100) (h2 : ¬ x = 104) (h3 : ¬ x = 108) (h4 : ¬ x = 114) (h5 : ¬ x = 115) (h6 : ¬ x = 119) : o_X2_isSo_r lt nu sz am x = 0 := by
  unfold o_X2_isSo_r
  rw [if_neg h1, if_neg h2, if_neg h3, if_neg h4, if_neg h5, if_neg h6]
theorem more_w {v tx : gT} (lo hi : Int32) (h : ¬ v 11 = 0) : o_X8_more_v v tx lo hi 11 = 1 := by
  have e : j_X8_more_0_0 v tx lo hi = 1 := by
    unfold j_X8_more_0_0
    rw [if_neg h]
  unfold o_X8_more_v
  rw [e, if_neg (by decide)]
  rfl
/-- behind an ok number the reader stands -/
theorem rst_num {v tx lt : gT} {nl i : Nat} (h : rst v tx lt nl i) (hi : i + 3 < 1000) {lo hi_ : Int32} (k : o_X8_number_v v tx lo hi_ 9 = nI (nxt lt nl i)) : rst (o_X8_number_v v tx lo hi_) tx lt nl (nxt lt nl i) :=
  ⟨h.1, k, h.2.2.1, h.2.2.2.1, by have := nxt_le (lt := lt) (nl := nl) (i := i); omega⟩
theorem rst_more {v tx lt : gT} {nl i : Nat} (h : rst v tx lt nl i) (hi : i + 4 < 1000) {lo hi_ : Int32} (k : o_X8_more_v v tx lo hi_ 9 = nI (nxt lt nl (i + 1))) : rst (o_X8_more_v v tx lo hi_) tx lt nl (nxt lt nl (i + 1)) :=
  ⟨(more_keep v tx lo hi_).2.2.2.2.2.2.2.2.1.trans h.1, k, h.2.2.1, h.2.2.2.1, by have := nxt_le (lt := lt) (nl := nl) (i := i + 1); omega⟩
/-- what a further number of the reference comes to -/
theorem more_di {v tx lt : gT} {nl i : Nat} (h : v 11 = 0 → rst v tx lt nl i) (hi : i + 4 < 1000) (hw : v 11 = 0 ∨ v 11 = 1) (lo hi_ : Int32) : (v 11 = 0 ∧ chr lt nl i = 44 ∧ okn lt nl (i + 1) lo hi_ ∧ o_X8_more_v v tx lo hi_ 11 = 0 ∧ rst (o_X8_more_v v tx lo hi_) tx lt nl (nxt lt nl (i + 1)) ∧ o_X8_more_r v tx lo hi_ = vnl lt nl (i + 1)) ∨ (¬ (v 11 = 0 ∧ chr lt nl i = 44 ∧ okn lt nl (i + 1) lo hi_) ∧ o_X8_more_v v tx lo hi_ 11 = 1) := by
  rcases hw with q | q
  · by_cases c : chr lt nl i = 44 ∧ okn lt nl (i + 1) lo hi_
    · obtain ⟨a, b, d⟩ := more_ok (h q) hi q lo hi_ c.1 c.2
      exact Or.inl ⟨q, c.1, c.2, a, rst_more (h q) hi b, d⟩
    · exact Or.inr ⟨fun z => c z.2, more_no (h q) hi lo hi_ (fun z => c z.2)⟩
  · exact Or.inr ⟨fun z => by rw [q] at z; exact absurd z.1 (by decide), more_w lo hi_ (by rw [q]; decide)⟩
theorem num_di {v tx lt : gT} {nl i : Nat} (h : rst v tx lt nl i) (hi : i + 3 < 1000) (hw : v 11 = 0) (lo hi_ : Int32) : (okn lt nl i lo hi_ ∧ o_X8_number_v v tx lo hi_ 11 = 0 ∧ rst (o_X8_number_v v tx lo hi_) tx lt nl (nxt lt nl i) ∧ o_X8_number_r v tx lo hi_ = vnl lt nl i) ∨ (¬ okn lt nl i lo hi_ ∧ o_X8_number_v v tx lo hi_ 11 = 1) := by
  by_cases c : okn lt nl i lo hi_
  · obtain ⟨a, b, d⟩ := num_ok h hi hw lo hi_ c
    exact Or.inl ⟨c, a, rst_num h hi b, d⟩
  · exact Or.inr ⟨c, num_no h hi lo hi_ (fun z => c z.2)⟩
set_option maxHeartbeats 4000000 in
theorem it_s (lt nu tx : gT) (am : Int32) (nl fr : Nat) (len need : Int32) (sun dry g v0 mw sl : gT) (hst : rst v0 tx lt nl (fr + 1)) (hfr : fr < nl) (hw : v0 11 = 0) (hF : FR len need sun dry g v0 mw sl) (hc : chr lt nl fr = 115) : itd lt nu tx am nl fr len need sun dry g v0 mw sl 115 := by
  have hnl := hst.2.2.2.1
  have hR := RI_F lt nu am nl fr
  have hiv : o_X8_item_v v0 mw sl tx 115 = o_X8_more_v (o_X8_number_v v0 tx 0 11) tx 1 9 := by
    unfold o_X8_item_v
    rw [if_neg (show ¬ (115 : Int32) = 108 by decide), if_neg (show ¬ (115 : Int32) = 104 by decide), if_pos rfl]
  unfold itd
  rw [hiv]
  generalize RI lt nu (nI nl) am (nI fr) = t at hR ⊢
  obtain ⟨p1, hp1⟩ : ∃ p1, nxt lt nl (fr + 1) = p1 := ⟨_, rfl⟩
  obtain ⟨p2, hp2⟩ : ∃ p2, nxt lt nl (p1 + 1) = p2 := ⟨_, rfl⟩
  have b1 : p1 ≤ fr + 3 := by rw [← hp1]; exact nxt_le
  have b1' : fr + 2 ≤ p1 := by rw [← hp1]; exact nxt_ge
  have b2 : p2 ≤ p1 + 3 := by rw [← hp2]; exact nxt_le
  have b2' : p1 + 2 ≤ p2 := by rw [← hp2]; exact nxt_ge
  obtain ⟨x1, hx1⟩ : ∃ x1, vnl lt nl (fr + 1) = x1 := ⟨_, rfl⟩
  obtain ⟨x2, hx2⟩ : ∃ x2, vnl lt nl (p1 + 1) = x2 := ⟨_, rfl⟩
  -- the class
  have hcl : ((¬ isd lt nl (fr + 1) = 0 ∧ chr lt nl p1 = 44 ∧ ¬ isd lt nl (p1 + 1) = 0 ∧ chr lt nl p2 = 59 ∧ ¬ o_X7_within_r x1 0 11 = 0 ∧ ¬ o_X7_within_r x2 1 9 = 0) ∧ t = (nI (p2 + 1), nI 2, upd (upd nu 0 x1) 1 x2)) ∨ (¬ (¬ isd lt nl (fr + 1) = 0 ∧ chr lt nl p1 = 44 ∧ ¬ isd lt nl (p1 + 1) = 0 ∧ chr lt nl p2 = 59 ∧ ¬ o_X7_within_r x1 0 11 = 0 ∧ ¬ o_X7_within_r x2 1 9 = 0) ∧ t.1 = -4) := by
    rcases ch_mid lt nu nu am (nI fr) hnl (n := 5) (i := fr + 1) (a := 0) (by omega) (by decide) fr rfl (by omega) (fun nu' => by rw [hc, so_s lt nu' (nI nl) 1 (by decide), if_neg (by decide)]) hR with ⟨⟨d1, d2⟩, hR2⟩ | ⟨d, e⟩
    · rw [hp1] at d2 hR2
      rw [hx1] at hR2
      have h := ch_end lt nu (upd nu 0 x1) am (nI fr) hnl (n := 4) (i := p1 + 1) (a := 1) (by omega) (by decide) fr rfl (by omega) (fun nu' a' h1 h2 => by rw [hc, so_s lt nu' (nI nl) a' h2, if_neg (by omega)]) hR2
      rw [hp2, hx2, hc, so_s lt _ (nI nl) 2 (by decide), if_pos rfl, show upd (upd nu 0 x1) 1 x2 0 = x1 from rfl, show upd (upd nu 0 x1) 1 x2 1 = x2 from rfl] at h
      have hii : (¬ (if o_X7_within_r x1 0 11 = 0 then (0 : Int32) else (if o_X7_within_r x2 1 9 = 0 then 0 else 1)) = 0) ↔ (¬ o_X7_within_r x1 0 11 = 0 ∧ ¬ o_X7_within_r x2 1 9 = 0) := by
        by_cases q1 : o_X7_within_r x1 0 11 = 0
        · rw [if_pos q1]; exact ⟨fun z => absurd rfl z, fun z => absurd q1 z.1⟩
        · rw [if_neg q1]
          by_cases q2 : o_X7_within_r x2 1 9 = 0
          · rw [if_pos q2]; exact ⟨fun z => absurd rfl z, fun z => absurd q2 z.2⟩
          · rw [if_neg q2]; exact ⟨fun _ => ⟨q1, q2⟩, fun _ => by decide⟩
      rw [hii] at h
      rcases h with ⟨⟨e1, e2, e3, e4⟩, e5⟩ | ⟨e1, e2⟩
      · exact Or.inl ⟨⟨d1, d2, e1, e2, e3, e4⟩, e5⟩
      · exact Or.inr ⟨fun z => e1 ⟨z.2.2.1, z.2.2.2.1, z.2.2.2.2.1, z.2.2.2.2.2⟩, e2⟩
    · rw [hp1] at d
      exact Or.inr ⟨fun z => d ⟨z.1, z.2.1⟩, e⟩
  have hcr : (¬ isd lt nl (fr + 1) = 0 ∧ chr lt nl p1 = 44 ∧ ¬ isd lt nl (p1 + 1) = 0 ∧ chr lt nl p2 = 59 ∧ ¬ o_X7_within_r x1 0 11 = 0 ∧ ¬ o_X7_within_r x2 1 9 = 0) ↔ (okn lt nl (fr + 1) 0 11 ∧ chr lt nl p1 = 44 ∧ okn lt nl (p1 + 1) 1 9 ∧ chr lt nl p2 = 59) := by
    constructor
    · intro ⟨z1, z2, z3, z4, z5, z6⟩
      exact ⟨(okn_of cm_no (by rw [hp1]; exact z2) z1).mpr (by rw [hx1]; exact z5), z2, (okn_of sd_no (by rw [hp2]; exact z4) z3).mpr (by rw [hx2]; exact z6), z4⟩
    · intro ⟨z1, z2, z3, z4⟩
      exact ⟨z1.1.1, z2, z3.1.1, z4, by rw [← hx1]; exact z1.2, by rw [← hx2]; exact z3.2⟩
  rw [hcr] at hcl
  -- the reference
  rcases num_di hst (by omega) hw 0 11 with ⟨o1, n1, n2, n3⟩ | ⟨o1, n1⟩
  · rw [hp1] at n2
    rw [hx1] at n3
    rcases more_di (v := o_X8_number_v v0 tx 0 11) (tx := tx) (fun _ => n2) (by omega) (Or.inl n1) 1 9 with ⟨-, o2, o3, m1, m2, m3⟩ | ⟨o2, m1⟩
    · rw [hp2] at m2
      rw [hx2] at m3
      have hj := j40_e m1 m2
      by_cases hs : chr lt nl p2 = 59
      · rcases hcl with ⟨-, rfl⟩ | ⟨q, -⟩
        · refine Or.inr ⟨p2 + 1, by omega, chr_lt (by decide) hs, rfl, by rw [hj, if_pos hs], by rw [m2.2.1, nI_1], ?_⟩
          obtain ⟨f3, f4, f5, f6, f7, f8, f9, f10, f11, f12, f13, f14⟩ := hF
          have k3 := (more_keep (o_X8_number_v v0 tx 0 11) tx 1 9).2.2.2.1
          have k4 := (more_keep (o_X8_number_v v0 tx 0 11) tx 1 9).2.2.2.2.1
          have k5 := (more_keep (o_X8_number_v v0 tx 0 11) tx 1 9).2.2.2.2.2.1
          have g0 : o_X7_cell_r 4 (upd (upd nu 0 x1) 1 x2) 0 = x1 := c40 _ 0 (by decide) 0 rfl
          have g1 : o_X7_cell_r 4 (upd (upd nu 0 x1) 1 x2) 1 = x2 := c40 _ 1 (by decide) 1 rfl
          obtain ⟨m, hm, em⟩ := w_nat (n := 11) (by decide) (by decide) o1.2
          rw [hx1] at em
          dsimp only
          unfold o_X7_layItem_4_2 o_X7_layItem_4_3 o_X7_layItem_5 o_X7_layItem_6 o_X7_layItem_g o_X8_item_1 o_X8_item_2
          simp only [if_neg (show ¬ (115 : Int32) = 100 by decide), if_neg (show ¬ (115 : Int32) = 104 by decide), if_neg (show ¬ (115 : Int32) = 108 by decide), if_neg (show ¬ (115 : Int32) = 114 by decide), if_true]
          refine ⟨k3.trans f3, k4.trans f4, f5, f6, fun j hj12 => ?_, by rw [k5]; exact f8, f9, f10, f11, f12, f13, f14⟩
          unfold j_X8_item_1_0
          rw [if_pos m1, m3, n3, g0, g1, em, set_eq sun x2 (by omega) (by decide), nI_clamp (by omega)]
          show (if j = m then x2 else sun j) = (if j = m then x2 else mw j)
          rw [f7 j hj12]
        · exact absurd ⟨o1, o2, o3, hs⟩ q
      · rcases hcl with ⟨q, -⟩ | ⟨-, q⟩
        · exact absurd q.2.2.2 hs
        · exact Or.inl ⟨q, by rw [hj, if_neg hs]⟩
    · rcases hcl with ⟨q, -⟩ | ⟨-, q⟩
      · exact absurd ⟨n1, q.2.1, q.2.2.1⟩ o2
      · exact Or.inl ⟨q, j40_1 m1⟩
  · rcases hcl with ⟨q, -⟩ | ⟨-, q⟩
    · exact absurd q.1 o1
    · exact Or.inl ⟨q, j40_1 (more_w 1 9 (by rw [n1]; decide))⟩
set_option maxHeartbeats 4000000 in
theorem cl_h (lt nu : gT) (am : Int32) (nl fr p1 p2 p3 p4 : Nat) (x1 x2 x3 x4 : Int32) (hnl : nl ≤ 200) (hfr : fr < nl) (hc : chr lt nl fr = 104) (t : Int32 × Int32 × gT) (hR : F_X2_readItem lt nu (nI nl) am (nI fr) 6 (nI (fr + 1)) (nI 0) nu = some t) (hp1 : nxt lt nl (fr + 1) = p1) (hp2 : nxt lt nl (p1 + 1) = p2) (hp3 : nxt lt nl (p2 + 1) = p3) (hp4 : nxt lt nl (p3 + 1) = p4) (hx1 : vnl lt nl (fr + 1) = x1) (hx2 : vnl lt nl (p1 + 1) = x2) (hx3 : vnl lt nl (p2 + 1) = x3) (hx4 : vnl lt nl (p3 + 1) = x4) :
    ((¬ isd lt nl (fr + 1) = 0 ∧ chr lt nl p1 = 44 ∧ ¬ isd lt nl (p1 + 1) = 0 ∧ chr lt nl p2 = 44 ∧ ¬ isd lt nl (p2 + 1) = 0 ∧ chr lt nl p3 = 44 ∧ ¬ isd lt nl (p3 + 1) = 0 ∧ chr lt nl p4 = 59 ∧ ¬ o_X7_within_r x1 0 1 = 0 ∧ ¬ o_X7_within_r x2 0 4 = 0 ∧ ¬ o_X7_within_r x3 0 40 = 0) ∧ t = (nI (p4 + 1), nI 4, upd (upd (upd (upd nu 0 x1) 1 x2) 2 x3) 3 x4)) ∨ (¬ (¬ isd lt nl (fr + 1) = 0 ∧ chr lt nl p1 = 44 ∧ ¬ isd lt nl (p1 + 1) = 0 ∧ chr lt nl p2 = 44 ∧ ¬ isd lt nl (p2 + 1) = 0 ∧ chr lt nl p3 = 44 ∧ ¬ isd lt nl (p3 + 1) = 0 ∧ chr lt nl p4 = 59 ∧ ¬ o_X7_within_r x1 0 1 = 0 ∧ ¬ o_X7_within_r x2 0 4 = 0 ∧ ¬ o_X7_within_r x3 0 40 = 0) ∧ t.1 = -4) := by
  have b1 : p1 ≤ fr + 3 := by rw [← hp1]; exact nxt_le
  have b2 : p2 ≤ p1 + 3 := by rw [← hp2]; exact nxt_le
  have b3 : p3 ≤ p2 + 3 := by rw [← hp3]; exact nxt_le
  have hso : ∀ (a : Nat), a + 1 ≤ 3 → ∀ nu', o_X2_isSo_r lt nu' (nI nl) (nI (a + 1)) (chr lt nl fr) = 0 := fun a ha nu' => by rw [hc, so_h lt nu' (nI nl) (a + 1) (by omega), if_neg (by omega)]
  rcases ch_mid lt nu nu am (nI fr) hnl (n := 5) (i := fr + 1) (a := 0) (by omega) (by decide) fr rfl (by omega) (hso 0 (by decide)) hR with ⟨⟨d1, d2⟩, hR2⟩ | ⟨d, e⟩
  · rw [hp1] at d2 hR2
    rw [hx1] at hR2
    rcases ch_mid lt nu (upd nu 0 x1) am (nI fr) hnl (n := 4) (i := p1 + 1) (a := 1) (by omega) (by decide) fr rfl (by omega) (hso 1 (by decide)) hR2 with ⟨⟨d3, d4⟩, hR3⟩ | ⟨d, e⟩
    · rw [hp2] at d4 hR3
      rw [hx2] at hR3
      rcases ch_mid lt nu (upd (upd nu 0 x1) 1 x2) am (nI fr) hnl (n := 3) (i := p2 + 1) (a := 2) (by omega) (by decide) fr rfl (by omega) (hso 2 (by decide)) hR3 with ⟨⟨d5, d6⟩, hR4⟩ | ⟨d, e⟩
      · rw [hp3] at d6 hR4
        rw [hx3] at hR4
        have h := ch_end lt nu (upd (upd (upd nu 0 x1) 1 x2) 2 x3) am (nI fr) hnl (n := 2) (i := p3 + 1) (a := 3) (by omega) (by decide) fr rfl (by omega) (fun nu' a' h1 h2 => absurd h2 (by omega)) hR4
        rw [hp4, hx4, hc, so_h lt _ (nI nl) 4 (by decide), if_pos rfl, show (upd (upd (upd (upd nu 0 x1) 1 x2) 2 x3) 3 x4) 0 = x1 from rfl, show (upd (upd (upd (upd nu 0 x1) 1 x2) 2 x3) 3 x4) 1 = x2 from rfl, show (upd (upd (upd (upd nu 0 x1) 1 x2) 2 x3) 3 x4) 2 = x3 from rfl] at h
        have hii : (¬ (if o_X7_within_r x1 0 1 = 0 then (0 : Int32) else (if o_X7_within_r x2 0 4 = 0 then 0 else (if o_X7_within_r x3 0 40 = 0 then 0 else 1))) = 0) ↔ (¬ o_X7_within_r x1 0 1 = 0 ∧ ¬ o_X7_within_r x2 0 4 = 0 ∧ ¬ o_X7_within_r x3 0 40 = 0) := by
          by_cases q1 : o_X7_within_r x1 0 1 = 0
          · rw [if_pos q1]; exact ⟨fun z => absurd rfl z, fun z => absurd q1 z.1⟩
          · rw [if_neg q1]
            by_cases q2 : o_X7_within_r x2 0 4 = 0
            · rw [if_pos q2]; exact ⟨fun z => absurd rfl z, fun z => absurd q2 z.2.1⟩
            · rw [if_neg q2]
              by_cases q3 : o_X7_within_r x3 0 40 = 0
              · rw [if_pos q3]; exact ⟨fun z => absurd rfl z, fun z => absurd q3 z.2.2⟩
              · rw [if_neg q3]; exact ⟨fun _ => ⟨q1, q2, q3⟩, fun _ => by decide⟩
        rw [hii] at h
        rcases h with ⟨⟨e1, e2, e3, e4, e5⟩, e6⟩ | ⟨e1, e2⟩
        · exact Or.inl ⟨⟨d1, d2, d3, d4, d5, d6, e1, e2, e3, e4, e5⟩, e6⟩
        · exact Or.inr ⟨fun ⟨_, _, _, _, _, _, z7, z8, z9, z10, z11⟩ => e1 ⟨z7, z8, z9, z10, z11⟩, e2⟩
      · rw [hp3] at d
        exact Or.inr ⟨fun ⟨_, _, _, _, z5, z6, _⟩ => d ⟨z5, z6⟩, e⟩
    · rw [hp2] at d
      exact Or.inr ⟨fun ⟨_, _, z3, z4, _⟩ => d ⟨z3, z4⟩, e⟩
  · rw [hp1] at d
    exact Or.inr ⟨fun ⟨z1, z2, _⟩ => d ⟨z1, z2⟩, e⟩
set_option maxHeartbeats 8000000 in
theorem it_h (lt nu tx : gT) (am : Int32) (nl fr : Nat) (len need : Int32) (sun dry g v0 mw sl : gT) (hst : rst v0 tx lt nl (fr + 1)) (hfr : fr < nl) (hw : v0 11 = 0) (hF : FR len need sun dry g v0 mw sl) (hc : chr lt nl fr = 104) : itd lt nu tx am nl fr len need sun dry g v0 mw sl 104 := by
  have hnl := hst.2.2.2.1
  have hR := RI_F lt nu am nl fr
  have hiv : o_X8_item_v v0 mw sl tx 104 = o_X8_more_v (o_X8_more_v (o_X8_more_v (o_X8_number_v v0 tx 0 1) tx 0 4) tx 0 40) tx 0 99 := by
    unfold o_X8_item_v
    rw [if_neg (show ¬ (104 : Int32) = 108 by decide), if_pos rfl]
    rfl
  unfold itd
  rw [hiv]
  generalize RI lt nu (nI nl) am (nI fr) = t at hR ⊢
  obtain ⟨p1, hp1⟩ : ∃ p1, nxt lt nl (fr + 1) = p1 := ⟨_, rfl⟩
  obtain ⟨p2, hp2⟩ : ∃ p2, nxt lt nl (p1 + 1) = p2 := ⟨_, rfl⟩
  obtain ⟨p3, hp3⟩ : ∃ p3, nxt lt nl (p2 + 1) = p3 := ⟨_, rfl⟩
  obtain ⟨p4, hp4⟩ : ∃ p4, nxt lt nl (p3 + 1) = p4 := ⟨_, rfl⟩
  have b1 : p1 ≤ fr + 3 := by rw [← hp1]; exact nxt_le
  have b1' : fr + 2 ≤ p1 := by rw [← hp1]; exact nxt_ge
  have b2 : p2 ≤ p1 + 3 := by rw [← hp2]; exact nxt_le
  have b2' : p1 + 2 ≤ p2 := by rw [← hp2]; exact nxt_ge
  have b3 : p3 ≤ p2 + 3 := by rw [← hp3]; exact nxt_le
  have b3' : p2 + 2 ≤ p3 := by rw [← hp3]; exact nxt_ge
  have b4 : p4 ≤ p3 + 3 := by rw [← hp4]; exact nxt_le
  have b4' : p3 + 2 ≤ p4 := by rw [← hp4]; exact nxt_ge
  obtain ⟨x1, hx1⟩ : ∃ x1, vnl lt nl (fr + 1) = x1 := ⟨_, rfl⟩
  obtain ⟨x2, hx2⟩ : ∃ x2, vnl lt nl (p1 + 1) = x2 := ⟨_, rfl⟩
  obtain ⟨x3, hx3⟩ : ∃ x3, vnl lt nl (p2 + 1) = x3 := ⟨_, rfl⟩
  obtain ⟨x4, hx4⟩ : ∃ x4, vnl lt nl (p3 + 1) = x4 := ⟨_, rfl⟩
  have hcl := cl_h lt nu am nl fr p1 p2 p3 p4 x1 x2 x3 x4 hnl hfr hc t hR hp1 hp2 hp3 hp4 hx1 hx2 hx3 hx4
  have hcr : (¬ isd lt nl (fr + 1) = 0 ∧ chr lt nl p1 = 44 ∧ ¬ isd lt nl (p1 + 1) = 0 ∧ chr lt nl p2 = 44 ∧ ¬ isd lt nl (p2 + 1) = 0 ∧ chr lt nl p3 = 44 ∧ ¬ isd lt nl (p3 + 1) = 0 ∧ chr lt nl p4 = 59 ∧ ¬ o_X7_within_r x1 0 1 = 0 ∧ ¬ o_X7_within_r x2 0 4 = 0 ∧ ¬ o_X7_within_r x3 0 40 = 0) ↔ (okn lt nl (fr + 1) 0 1 ∧ chr lt nl p1 = 44 ∧ okn lt nl (p1 + 1) 0 4 ∧ chr lt nl p2 = 44 ∧ okn lt nl (p2 + 1) 0 40 ∧ chr lt nl p3 = 44 ∧ okn lt nl (p3 + 1) 0 99 ∧ chr lt nl p4 = 59) := by
    constructor
    · intro ⟨z1, z2, z3, z4, z5, z6, z7, z8, z9, z10, z11⟩
      exact ⟨(okn_of cm_no (by rw [hp1]; exact z2) z1).mpr (by rw [hx1]; exact z9), z2, (okn_of cm_no (by rw [hp2]; exact z4) z3).mpr (by rw [hx2]; exact z10), z4, (okn_of cm_no (by rw [hp3]; exact z6) z5).mpr (by rw [hx3]; exact z11), z6, (okn_of sd_no (by rw [hp4]; exact z8) z7).mpr (vnl_99 z7), z8⟩
    · intro ⟨z1, z2, z3, z4, z5, z6, z7, z8⟩
      exact ⟨z1.1.1, z2, z3.1.1, z4, z5.1.1, z6, z7.1.1, z8, by rw [← hx1]; exact z1.2, by rw [← hx2]; exact z3.2, by rw [← hx3]; exact z5.2⟩
  rw [hcr] at hcl
  rcases num_di hst (by omega) hw 0 1 with ⟨o1, n1, n2, n3⟩ | ⟨o1, n1⟩
  · rw [hp1] at n2
    rw [hx1] at n3
    generalize hN1 : o_X8_number_v v0 tx 0 1 = N1 at n1 n2 ⊢
    rcases more_di (v := N1) (tx := tx) (fun _ => n2) (by omega) (Or.inl n1) 0 4 with ⟨-, q1, q2, m1, m2, m3⟩ | ⟨q1, m1⟩
    · rw [hp2] at m2
      rw [hx2] at m3
      generalize hN2 : o_X8_more_v N1 tx 0 4 = N2 at m1 m2 ⊢
      rcases more_di (v := N2) (tx := tx) (fun _ => m2) (by omega) (Or.inl m1) 0 40 with ⟨-, q3, q4, r1, r2, r3⟩ | ⟨q3, r1⟩
      · rw [hp3] at r2
        rw [hx3] at r3
        generalize hN3 : o_X8_more_v N2 tx 0 40 = N3 at r1 r2 ⊢
        rcases more_di (v := N3) (tx := tx) (fun _ => r2) (by omega) (Or.inl r1) 0 99 with ⟨-, q5, q6, s1, s2, s3⟩ | ⟨q5, s1⟩
        · rw [hp4] at s2
          rw [hx4] at s3
          have hj := j40_e s1 s2
          by_cases hs : chr lt nl p4 = 59
          · rcases hcl with ⟨-, rfl⟩ | ⟨q, -⟩
            · refine Or.inr ⟨p4 + 1, by omega, chr_lt (by decide) hs, rfl, by rw [hj, if_pos hs], by rw [s2.2.1, nI_1], ?_⟩
              obtain ⟨f3, f4, f5, f6, f7, f8, f9, f10, f11, f12, f13, f14⟩ := hF
              have k3 : o_X8_more_v N3 tx 0 99 3 = v0 3 := by
                rw [(more_keep N3 tx 0 99).2.2.2.1, ← hN3, (more_keep N2 tx 0 40).2.2.2.1, ← hN2, (more_keep N1 tx 0 4).2.2.2.1, ← hN1]; rfl
              have k4 : o_X8_more_v N3 tx 0 99 4 = v0 4 := by
                rw [(more_keep N3 tx 0 99).2.2.2.2.1, ← hN3, (more_keep N2 tx 0 40).2.2.2.2.1, ← hN2, (more_keep N1 tx 0 4).2.2.2.2.1, ← hN1]; rfl
              have k5 : o_X8_more_v N3 tx 0 99 5 = v0 5 := by
                rw [(more_keep N3 tx 0 99).2.2.2.2.2.1, ← hN3, (more_keep N2 tx 0 40).2.2.2.2.2.1, ← hN2, (more_keep N1 tx 0 4).2.2.2.2.2.1, ← hN1]; rfl
              have g0 : o_X7_cell_r 4 (upd (upd (upd (upd nu 0 x1) 1 x2) 2 x3) 3 x4) 0 = x1 := c40 _ 0 (by decide) 0 rfl
              have g1 : o_X7_cell_r 4 (upd (upd (upd (upd nu 0 x1) 1 x2) 2 x3) 3 x4) 1 = x2 := c40 _ 1 (by decide) 1 rfl
              have g2 : o_X7_cell_r 4 (upd (upd (upd (upd nu 0 x1) 1 x2) 2 x3) 3 x4) 2 = x3 := c40 _ 2 (by decide) 2 rfl
              have g3 : o_X7_cell_r 4 (upd (upd (upd (upd nu 0 x1) 1 x2) 2 x3) 3 x4) 3 = x4 := c40 _ 3 (by decide) 3 rfl
              have w1 : x1 = 0 ∨ x1 = 1 := by
                obtain ⟨m, hm, em⟩ := w_nat (n := 1) (by decide) (by decide) o1.2
                rw [hx1] at em
                rcases (show m = 0 ∨ m = 1 by omega) with z | z <;> subst z
                · exact Or.inl em
                · exact Or.inr em
              have w2 : mB 4 x2 := by have := w_rng q2.2; rw [hx2] at this; exact this
              have w3 : mB 40 x3 := by have := w_rng q4.2; rw [hx3] at this; exact this
              have hs1 : o_X8_item_2 v0 mw sl tx 104 = upd (upd (upd sl ((143 + x1).toNatClampNeg) x2) ((145 + x1).toNatClampNeg) x3) ((149 + x1).toNatClampNeg) x4 := by
                unfold o_X8_item_2 o_X8_hedgeItem_1
                rw [if_neg (show ¬ (104 : Int32) = 108 by decide), if_pos rfl, hN1, hN2, hN3, if_pos s1, n3, m3, r3, s3]
              dsimp only
              rw [hs1]
              unfold o_X7_layItem_4_2 o_X7_layItem_4_3 o_X7_layItem_5 o_X7_layItem_6 o_X7_layItem_g o_X8_item_1
              simp only [if_neg (show ¬ (104 : Int32) = 100 by decide), if_neg (show ¬ (104 : Int32) = 108 by decide), if_true]
              rw [g0, g1, g2, g3]
              obtain ⟨e0, e1, e2, e3, e4, e5, e6, e7, e8, e9, e10, e11, e12⟩ := f9
              obtain ⟨y0, y1, y2, y3, y4, y5, y6, y7⟩ := f10
              have h12 := e12.trans (lz0 f11 f12 f6)
              rcases w1 with z | z <;> subst z
              · rw [if_pos rfl]
                exact ⟨k3.trans f3, k4.trans f4, f5, f6, f7, fun j hj => by rw [k5]; exact f8 j hj, ⟨rfl, e1, rfl, e3, e4.trans f13, e5, rfl, e7, e8.trans f11, e9, e10, e11, h12.trans (lz0 (g := mixG (mkG12 (o_X1_begin_0_0 g x2 x3 x4) (o_X1_begin_0_1 g x2 x3 x4) 0 (o_X1_begin_0_3 g x2 x3 x4) 0 (g 5) (g 6) (g 7) (g 8) (g 9) (g 10) (g 11)) g) rfl f12 f6).symm⟩, ⟨w2, y1, w3, y3, y4, z_00, y6, Or.inl f6⟩, rfl, f12, rfl, f14⟩
              · rw [if_neg (show ¬ (1 : Int32) = 0 by decide)]
                exact ⟨k3.trans f3, k4.trans f4, f5, f6, f7, fun j hj => by rw [k5]; exact f8 j hj, ⟨e0, rfl, e2, rfl, e4, e5.trans f14, e6, rfl, e8, e9.trans f12, e10, e11, h12.trans (lz0 (g := mixG (mkG12 (g 0) (g 1) (g 2) (g 3) (g 4) (o_X1_begin_0_0 (fun k => g (k + 5)) x2 x3 x4) (o_X1_begin_0_1 (fun k => g (k + 5)) x2 x3 x4) 0 (o_X1_begin_0_3 (fun k => g (k + 5)) x2 x3 x4) 0 (g 10) (g 11)) g) f11 rfl f6).symm⟩, ⟨y0, w2, y2, w3, y4, y5, z_00, Or.inr f6⟩, f11, rfl, f13, rfl⟩
            · exact absurd ⟨o1, q1, q2, q3, q4, q5, q6, hs⟩ q
          · rcases hcl with ⟨⟨_, _, _, _, _, _, _, z8⟩, -⟩ | ⟨-, q⟩
            · exact absurd z8 hs
            · exact Or.inl ⟨q, by rw [hj, if_neg hs]⟩
        · rcases hcl with ⟨⟨_, _, _, _, _, z6, z7, _⟩, -⟩ | ⟨-, q⟩
          · exact absurd ⟨r1, z6, z7⟩ q5
          · exact Or.inl ⟨q, j40_1 s1⟩
      · rcases hcl with ⟨⟨_, _, _, z4, z5, _⟩, -⟩ | ⟨-, q⟩
        · exact absurd ⟨m1, z4, z5⟩ q3
        · exact Or.inl ⟨q, j40_1 (more_w 0 99 (by rw [r1]; decide))⟩
    · rcases hcl with ⟨⟨_, z2, z3, _⟩, -⟩ | ⟨-, q⟩
      · exact absurd ⟨n1, z2, z3⟩ q1
      · exact Or.inl ⟨q, j40_1 (more_w 0 99 (by rw [more_w 0 40 (by rw [m1]; decide)]; decide))⟩
  · rcases hcl with ⟨q, -⟩ | ⟨-, q⟩
    · exact absurd q.1 o1
    · exact Or.inl ⟨q, j40_1 (more_w 0 99 (by rw [more_w 0 40 (by rw [more_w 0 4 (by rw [n1]; decide)]; decide)]; decide))⟩
theorem it_o (lt nu tx : gT) (am : Int32) (nl fr : Nat) (len need : Int32) (sun dry g v0 mw sl : gT) (hst : rst v0 tx lt nl (fr + 1)) (hfr : fr < nl) (c : Int32) (hc : chr lt nl fr = c) (h1 : ¬ c = 100) (h2 : ¬ c = 104) (h3 : ¬ c = 108) (h4 : ¬ c = 114) (h5 : ¬ c = 115) (h6 : ¬ c = 119) : itd lt nu tx am nl fr len need sun dry g v0 mw sl c := by
  have hnl := hst.2.2.2.1
  have hR := RI_F lt nu am nl fr
  refine Or.inl ⟨cs_no lt nu am (nI fr) hnl fr rfl (by omega) 6 (fr + 1) 0 nu _ (by omega) (by decide) (fun nu' a' _ _ => by rw [hc]; exact so_o lt nu' _ _ c h1 h2 h3 h4 h5 h6) hR, j40_1 ?_⟩
  unfold o_X8_item_v
  rw [if_neg h3, if_neg h2, if_neg h5, if_neg h6, if_neg h1, if_neg h4]
  rfl
theorem it_all (lt nu tx : gT) (am : Int32) (nl fr : Nat) (len need : Int32) (sun dry g v0 mw sl : gT) (hst : rst v0 tx lt nl (fr + 1)) (hfr : fr < nl) (hw : v0 11 = 0) (hF : FR len need sun dry g v0 mw sl) (c : Int32) (hc : chr lt nl fr = c) : itd lt nu tx am nl fr len need sun dry g v0 mw sl c := by
  by_cases h1 : c = 100
  · subst h1; exact it_d lt nu tx am nl fr len need sun dry g v0 mw sl hst hfr hw hF hc
  by_cases h2 : c = 104
  · subst h2; exact it_h lt nu tx am nl fr len need sun dry g v0 mw sl hst hfr hw hF hc
  by_cases h3 : c = 108
  · subst h3; exact it_l lt nu tx am nl fr len need sun dry g v0 mw sl hst hfr hw hF hc
  by_cases h4 : c = 114
  · subst h4; exact it_r lt nu tx am nl fr len need sun dry g v0 mw sl hst hfr hw hF hc
  by_cases h5 : c = 115
  · subst h5; exact it_s lt nu tx am nl fr len need sun dry g v0 mw sl hst hfr hw hF hc
  by_cases h6 : c = 119
  · subst h6; exact it_w lt nu tx am nl fr len need sun dry g v0 mw sl hst hfr hw hF hc
  exact it_o lt nu tx am nl fr len need sun dry g v0 mw sl hst hfr c hc h1 h2 h3 h4 h5 h6
