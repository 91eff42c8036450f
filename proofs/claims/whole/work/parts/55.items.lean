/-- a chain of numbers: one that must be followed by another -/
theorem ch_mid (lt nu u2 : gT) (am fr_ : Int32) {nl i a n : Nat} (hn : nl ≤ 200) (hi : i < 900) (ha : a < 4) (fr : Nat) (hf : fr_ = nI fr) (hf2 : fr < 1000) {t : Int32 × Int32 × gT} (hso : ∀ nu', o_X2_isSo_r lt nu' (nI nl) (nI (a + 1)) (chr lt nl fr) = 0) (h : F_X2_readItem lt nu (nI nl) am fr_ (n + 1) (nI i) (nI a) u2 = some t) :
    ((¬ isd lt nl i = 0 ∧ chr lt nl (nxt lt nl i) = 44) ∧ F_X2_readItem lt nu (nI nl) am fr_ n (nI (nxt lt nl i + 1)) (nI (a + 1)) (upd u2 a (vnl lt nl i)) = some t) ∨ (¬ (¬ isd lt nl i = 0 ∧ chr lt nl (nxt lt nl i) = 44) ∧ t.1 = -4) := by
  rw [cs_step lt nu u2 am fr_ hn (by omega) ha fr hf hf2] at h
  by_cases c1 : isd lt nl i = 0
  · rw [if_pos c1] at h; cases h; exact Or.inr ⟨fun q => q.1 c1, rfl⟩
  · rw [if_neg c1] at h
    by_cases c2 : chr lt nl (nxt lt nl i) = 59
    · rw [if_pos c2, if_pos (hso _)] at h; cases h
      exact Or.inr ⟨fun q => by rw [c2] at q; exact absurd q.2 (by decide), rfl⟩
    · rw [if_neg c2] at h
      by_cases c3 : chr lt nl (nxt lt nl i) = 44
      · rw [if_pos c3] at h; exact Or.inl ⟨⟨c1, c3⟩, h⟩
      · rw [if_neg c3] at h; cases h; exact Or.inr ⟨fun q => c3 q.2, rfl⟩
/-- the last number of an item -/
theorem ch_end (lt nu u2 : gT) (am fr_ : Int32) {nl i a n : Nat} (hn : nl ≤ 200) (hi : i + 3 * n < 900) (ha : a < 4) (fr : Nat) (hf : fr_ = nI fr) (hf2 : fr < 1000) {t : Int32 × Int32 × gT} (hso : ∀ (nu' : gT) (a' : Nat), a + 1 < a' → a' ≤ 4 → o_X2_isSo_r lt nu' (nI nl) (nI a') (chr lt nl fr) = 0) (h : F_X2_readItem lt nu (nI nl) am fr_ (n + 1) (nI i) (nI a) u2 = some t) :
    ((¬ isd lt nl i = 0 ∧ chr lt nl (nxt lt nl i) = 59 ∧ ¬ o_X2_isSo_r lt (upd u2 a (vnl lt nl i)) (nI nl) (nI (a + 1)) (chr lt nl fr) = 0) ∧ t = (nI (nxt lt nl i + 1), nI (a + 1), upd u2 a (vnl lt nl i))) ∨ (¬ (¬ isd lt nl i = 0 ∧ chr lt nl (nxt lt nl i) = 59 ∧ ¬ o_X2_isSo_r lt (upd u2 a (vnl lt nl i)) (nI nl) (nI (a + 1)) (chr lt nl fr) = 0) ∧ t.1 = -4) := by
  rw [cs_step lt nu u2 am fr_ hn (by omega) ha fr hf hf2] at h
  by_cases c1 : isd lt nl i = 0
  · rw [if_pos c1] at h; cases h; exact Or.inr ⟨fun q => q.1 c1, rfl⟩
  · rw [if_neg c1] at h
    by_cases c2 : chr lt nl (nxt lt nl i) = 59
    · rw [if_pos c2] at h
      by_cases c4 : o_X2_isSo_r lt (upd u2 a (vnl lt nl i)) (nI nl) (nI (a + 1)) (chr lt nl fr) = 0
      · rw [if_pos c4] at h; cases h; exact Or.inr ⟨fun q => q.2.2 c4, rfl⟩
      · rw [if_neg c4] at h; cases h; exact Or.inl ⟨⟨c1, c2, c4⟩, rfl⟩
    · rw [if_neg c2] at h
      refine Or.inr ⟨fun q => c2 q.2.1, ?_⟩
      by_cases c3 : chr lt nl (nxt lt nl i) = 44
      · rw [if_pos c3] at h
        have := nxt_le (lt := lt) (nl := nl) (i := i)
        exact cs_no lt nu am fr_ hn fr hf hf2 n (nxt lt nl i + 1) (a + 1) _ t (by omega) (by omega) hso h
      · rw [if_neg c3] at h; cases h; rfl
/-- what the text has told so far, on both sides -/
def FR (len need : Int32) (sun dry g u mw sl : gT) : Prop :=
  u 3 = len ∧ u 4 = need ∧ mB 6 need ∧ 0 < need ∧ (∀ j, j < 12 → sun j = mw j) ∧ (∀ j, j < 12 → (if dry j = 1 then (1 : Int32) else 0) = if bt (u 5) j = true then 1 else 0) ∧ en 143 sl g need ∧ gd 0 g need ∧ g 4 = 0 ∧ g 9 = 0 ∧ g 2 = 0 ∧ g 7 = 0
theorem lz0 {g : gT} {need : Int32} (h4 : g 4 = 0) (h9 : g 9 = 0) (hn : 0 < need) : lz g need = -4 := by
  unfold lz
  rw [h4, h9, if_pos hn, if_pos hn]
theorem sd_no : o_X7_within_r 59 48 57 = 0 := by decide
theorem cm_no : o_X7_within_r 44 48 57 = 0 := by decide
/-- the state behind the letter of an item, and how the item ends -/
abbrev j40 (w tx : gT) : Int32 := if w 11 = 0 then (if o_X8_next_r w tx = 59 then 0 else 1) else 1
theorem j40_1 {w tx : gT} (h : w 11 = 1) : j40 w tx = 1 := by
  unfold j40
  rw [h, if_neg (by decide)]
theorem j40_e {w tx lt : gT} {nl p : Nat} (h : w 11 = 0) (hr : rst w tx lt nl p) : j40 w tx = if chr lt nl p = 59 then 0 else 1 := by
  unfold j40
  rw [if_pos h]
  simp only [nx_ch hr 59 (by decide) (by decide)]
def itd (lt nu tx : gT) (am : Int32) (nl fr : Nat) (len need : Int32) (sun dry g v0 mw sl : gT) (c : Int32) : Prop :=
  ((RI lt nu (nI nl) am (nI fr)).1 = -4 ∧ j40 (o_X8_item_v v0 mw sl tx c) tx = 1) ∨
  (∃ j, fr < j ∧ j ≤ nl ∧ (RI lt nu (nI nl) am (nI fr)).1 = nI j ∧ j40 (o_X8_item_v v0 mw sl tx c) tx = 0 ∧ o_X8_item_v v0 mw sl tx c 9 + 1 = nI j ∧
    FR (o_X7_layItem_4_2 g sun dry len need (RI lt nu (nI nl) am (nI fr)).2.2 c) (o_X7_layItem_4_3 g sun dry len need (RI lt nu (nI nl) am (nI fr)).2.2 c) (o_X7_layItem_5 g sun dry len need (RI lt nu (nI nl) am (nI fr)).2.2 c) (o_X7_layItem_6 g sun dry len need (RI lt nu (nI nl) am (nI fr)).2.2 c) (o_X7_layItem_g g sun dry len need (RI lt nu (nI nl) am (nI fr)).2.2 c) (o_X8_item_v v0 mw sl tx c) (o_X8_item_1 v0 mw sl tx c) (o_X8_item_2 v0 mw sl tx c))
theorem RI_F (lt nu : gT) (am : Int32) (nl fr : Nat) : F_X2_readItem lt nu (nI nl) am (nI fr) 6 (nI (fr + 1)) (nI 0) nu = some (RI lt nu (nI nl) am (nI fr)) := by
  have h := RI_eq lt nu (nI nl) am (nI fr)
  unfold O_X2_readItem at h
  rw [nI_1] at h
  generalize RI lt nu (nI nl) am (nI fr) = t at h ⊢
  rw [nI_0]
  exact h
theorem c40 (f : gT) (a : Nat) (ha : a < 4) (x : Int32) (hx : x = nI a) : o_X7_cell_r 4 f x = f a := by rw [hx, cell_eq f ha (by decide)]
theorem v99 : ∀ a b : Fin 10, (¬ o_X7_within_r (nI (48 + a.val) - 48) 0 99 = 0) ∧ ¬ o_X7_within_r ((nI (48 + a.val) - 48) * 10 + (nI (48 + b.val) - 48)) 0 99 = 0 := by decide +kernel
theorem vnl_99 {lt : gT} {nl i : Nat} (hd : ¬ isd lt nl i = 0) : ¬ o_X7_within_r (vnl lt nl i) 0 99 = 0 := by
  obtain ⟨a, e⟩ := isd_fig hd
  unfold vnl
  rw [e]
  by_cases c : isd lt nl (i + 1) = 0
  · rw [if_pos c]; exact (v99 a 0).1
  · rw [if_neg c]
    obtain ⟨b, e2⟩ := isd_fig c
    rw [e2]; exact (v99 a b).2
theorem a_ne {a b : Nat} (ha : a < 100) (hb : b < 100) (h : a ≠ b) : ¬ nI a = nI b := fun e => h ((nI_eq (by omega) (by omega)).mp e)
theorem so_l (lt nu : gT) (sz : Int32) (a : Nat) (ha : a ≤ 4) : o_X2_isSo_r lt nu sz (nI a) 108 = if a = 1 then (if o_X7_within_r (nu 0) 1 40 = 0 then 0 else 1) else 0 := by
  unfold o_X2_isSo_r
  rw [if_neg (show ¬ (108 : Int32) = 100 by decide), if_neg (show ¬ (108 : Int32) = 104 by decide), if_pos rfl]
  by_cases q : a = 1
  · subst q
    rw [if_pos (show nI 1 = 1 from rfl), if_pos rfl]
    unfold o_X2_number_r
    rw [c40 nu 0 (by decide) 0 rfl]
  · rw [if_neg (show ¬ nI a = 1 from a_ne (by omega) (by decide) q), if_neg q]
theorem iv_l (v0 mw sl tx : gT) : o_X8_item_v v0 mw sl tx 108 = (mkG15 ((o_X8_number_v v0 tx 1 40) 0) ((o_X8_number_v v0 tx 1 40) 1) ((o_X8_number_v v0 tx 1 40) 2) ((o_X8_number_r v0 tx 1 40)) ((o_X8_number_v v0 tx 1 40) 4) ((o_X8_number_v v0 tx 1 40) 5) ((o_X8_number_v v0 tx 1 40) 6) ((o_X8_number_v v0 tx 1 40) 7) ((o_X8_number_v v0 tx 1 40) 8) ((o_X8_number_v v0 tx 1 40) 9) ((o_X8_number_v v0 tx 1 40) 10) ((o_X8_number_v v0 tx 1 40) 11) ((o_X8_number_v v0 tx 1 40) 12) ((o_X8_number_v v0 tx 1 40) 13) ((o_X8_number_v v0 tx 1 40) 14)) := by
  unfold o_X8_item_v
  rw [if_pos rfl]
set_option maxHeartbeats 4000000 in
theorem it_l (lt nu tx : gT) (am : Int32) (nl fr : Nat) (len need : Int32) (sun dry g v0 mw sl : gT) (hst : rst v0 tx lt nl (fr + 1)) (hfr : fr < nl) (hw : v0 11 = 0) (hF : FR len need sun dry g v0 mw sl) (hc : chr lt nl fr = 108) : itd lt nu tx am nl fr len need sun dry g v0 mw sl 108 := by
  have hnl := hst.2.2.2.1
  have hR := RI_F lt nu am nl fr
  unfold itd
  generalize RI lt nu (nI nl) am (nI fr) = t at hR ⊢
  have h := ch_end lt nu nu am (nI fr) hnl (n := 5) (i := fr + 1) (a := 0) (by omega) (by decide) fr rfl (by omega) (fun nu' a' h1 h2 => by rw [hc, so_l lt nu' (nI nl) a' h2, if_neg (by omega)]) hR
  rw [hc, so_l lt _ (nI nl) 1 (by decide), if_pos rfl, show upd nu 0 (vnl lt nl (fr + 1)) 0 = vnl lt nl (fr + 1) from if_pos rfl] at h
  have hiff : (¬ isd lt nl (fr + 1) = 0 ∧ chr lt nl (nxt lt nl (fr + 1)) = 59 ∧ ¬ (if o_X7_within_r (vnl lt nl (fr + 1)) 1 40 = 0 then (0 : Int32) else 1) = 0) ↔ (okn lt nl (fr + 1) 1 40 ∧ chr lt nl (nxt lt nl (fr + 1)) = 59) := by
    constructor
    · intro q
      refine ⟨(okn_of sd_no q.2.1 q.1).mpr ?_, q.2.1⟩
      intro z; exact q.2.2 (if_pos z)
    · intro q
      refine ⟨q.1.1.1, q.2, ?_⟩
      rw [if_neg q.1.2]; decide
  rw [hiff] at h
  rw [iv_l]
  by_cases ho : okn lt nl (fr + 1) 1 40
  · obtain ⟨ka, kb, kr⟩ := num_ok hst (by omega) hw 1 40 ho
    have hrw : rst (mkG15 ((o_X8_number_v v0 tx 1 40) 0) ((o_X8_number_v v0 tx 1 40) 1) ((o_X8_number_v v0 tx 1 40) 2) ((o_X8_number_r v0 tx 1 40)) ((o_X8_number_v v0 tx 1 40) 4) ((o_X8_number_v v0 tx 1 40) 5) ((o_X8_number_v v0 tx 1 40) 6) ((o_X8_number_v v0 tx 1 40) 7) ((o_X8_number_v v0 tx 1 40) 8) ((o_X8_number_v v0 tx 1 40) 9) ((o_X8_number_v v0 tx 1 40) 10) ((o_X8_number_v v0 tx 1 40) 11) ((o_X8_number_v v0 tx 1 40) 12) ((o_X8_number_v v0 tx 1 40) 13) ((o_X8_number_v v0 tx 1 40) 14)) tx lt nl (nxt lt nl (fr + 1)) := ⟨hst.1, kb, hst.2.2.1, hnl, by have := nxt_le (lt := lt) (nl := nl) (i := fr + 1); omega⟩
    have hj : j40 (mkG15 ((o_X8_number_v v0 tx 1 40) 0) ((o_X8_number_v v0 tx 1 40) 1) ((o_X8_number_v v0 tx 1 40) 2) ((o_X8_number_r v0 tx 1 40)) ((o_X8_number_v v0 tx 1 40) 4) ((o_X8_number_v v0 tx 1 40) 5) ((o_X8_number_v v0 tx 1 40) 6) ((o_X8_number_v v0 tx 1 40) 7) ((o_X8_number_v v0 tx 1 40) 8) ((o_X8_number_v v0 tx 1 40) 9) ((o_X8_number_v v0 tx 1 40) 10) ((o_X8_number_v v0 tx 1 40) 11) ((o_X8_number_v v0 tx 1 40) 12) ((o_X8_number_v v0 tx 1 40) 13) ((o_X8_number_v v0 tx 1 40) 14)) tx = if chr lt nl (nxt lt nl (fr + 1)) = 59 then 0 else 1 := j40_e ka hrw
    by_cases hs : chr lt nl (nxt lt nl (fr + 1)) = 59
    · rcases h with ⟨-, rfl⟩ | ⟨q, -⟩
      · refine Or.inr ⟨nxt lt nl (fr + 1) + 1, by have := nxt_ge (lt := lt) (nl := nl) (i := fr + 1); omega, chr_lt (by decide) hs, rfl, by rw [hj, if_pos hs], ?_, ?_⟩
        · show o_X8_number_v v0 tx 1 40 9 + 1 = nI (nxt lt nl (fr + 1) + 1)
          rw [kb, nI_1]
        · obtain ⟨f3, f4, f5, f6, f7, f8, f9, f10, f11, f12, f13, f14⟩ := hF
          have hcell : o_X7_cell_r 4 (upd nu 0 (vnl lt nl (fr + 1))) 0 = vnl lt nl (fr + 1) := (c40 _ 0 (by decide) 0 rfl).trans (if_pos rfl)
          dsimp only
          unfold o_X7_layItem_4_2 o_X7_layItem_4_3 o_X7_layItem_5 o_X7_layItem_6 o_X7_layItem_g o_X8_item_1 o_X8_item_2
          rw [if_neg (show ¬ (108 : Int32) = 100 by decide), if_neg (show ¬ (108 : Int32) = 104 by decide), if_pos rfl, if_neg (show ¬ (108 : Int32) = 100 by decide), if_neg (show ¬ (108 : Int32) = 104 by decide), if_pos rfl, if_neg (show ¬ (108 : Int32) = 100 by decide), if_neg (show ¬ (108 : Int32) = 104 by decide), if_pos rfl, if_neg (show ¬ (108 : Int32) = 100 by decide), if_neg (show ¬ (108 : Int32) = 100 by decide), if_neg (show ¬ (108 : Int32) = 104 by decide), if_pos rfl, if_pos rfl, if_pos rfl, hcell]
          exact ⟨kr, f4, f5, f6, f7, f8, f9, f10, f11, f12, f13, f14⟩
      · exact absurd ⟨ho, hs⟩ q
    · rcases h with ⟨q, -⟩ | ⟨-, q⟩
      · exact absurd q.2 hs
      · exact Or.inl ⟨q, by rw [hj, if_neg hs]⟩
  · rcases h with ⟨q, -⟩ | ⟨-, q⟩
    · exact absurd q.1 ho
    · exact Or.inl ⟨q, j40_1 (num_no hst (by omega) 1 40 (fun z => ho z.2))⟩
theorem so_w (lt nu : gT) (sz : Int32) (a : Nat) (ha : a ≤ 4) : o_X2_isSo_r lt nu sz (nI a) 119 = if a = 1 then 1 else 0 := by
  unfold o_X2_isSo_r
  rw [if_neg (show ¬ (119 : Int32) = 100 by decide), if_neg (show ¬ (119 : Int32) = 104 by decide), if_neg (show ¬ (119 : Int32) = 108 by decide), if_neg (show ¬ (119 : Int32) = 114 by decide), if_neg (show ¬ (119 : Int32) = 115 by decide), if_pos rfl]
  by_cases q : a = 1
  · subst q
    rw [if_pos (show nI 1 = 1 from rfl), if_pos rfl]

  · rw [if_neg (show ¬ nI a = 1 from a_ne (by omega) (by decide) q), if_neg q]
theorem iv_w (v0 mw sl tx : gT) : o_X8_item_v v0 mw sl tx 119 = (o_X8_number_v v0 tx 0 99) := by
  unfold o_X8_item_v
  rw [if_neg (show ¬ (119 : Int32) = 108 by decide), if_neg (show ¬ (119 : Int32) = 104 by decide), if_neg (show ¬ (119 : Int32) = 115 by decide), if_pos rfl]
set_option maxHeartbeats 4000000 in
theorem it_w (lt nu tx : gT) (am : Int32) (nl fr : Nat) (len need : Int32) (sun dry g v0 mw sl : gT) (hst : rst v0 tx lt nl (fr + 1)) (hfr : fr < nl) (hw : v0 11 = 0) (hF : FR len need sun dry g v0 mw sl) (hc : chr lt nl fr = 119) : itd lt nu tx am nl fr len need sun dry g v0 mw sl 119 := by
  have hnl := hst.2.2.2.1
  have hR := RI_F lt nu am nl fr
  unfold itd
  generalize RI lt nu (nI nl) am (nI fr) = t at hR ⊢
  have h := ch_end lt nu nu am (nI fr) hnl (n := 5) (i := fr + 1) (a := 0) (by omega) (by decide) fr rfl (by omega) (fun nu' a' h1 h2 => by rw [hc, so_w lt nu' (nI nl) a' h2, if_neg (by omega)]) hR
  rw [hc, so_w lt _ (nI nl) 1 (by decide), if_pos rfl] at h
  have hiff : (¬ isd lt nl (fr + 1) = 0 ∧ chr lt nl (nxt lt nl (fr + 1)) = 59 ∧ ¬ (1 : Int32) = 0) ↔ (okn lt nl (fr + 1) 0 99 ∧ chr lt nl (nxt lt nl (fr + 1)) = 59) := by
    constructor
    · intro q
      refine ⟨(okn_of sd_no q.2.1 q.1).mpr ?_, q.2.1⟩
      exact vnl_99 q.1
    · intro q
      refine ⟨q.1.1.1, q.2, ?_⟩
      decide
  rw [hiff] at h
  rw [iv_w]
  by_cases ho : okn lt nl (fr + 1) 0 99
  · obtain ⟨ka, kb, kr⟩ := num_ok hst (by omega) hw 0 99 ho
    have hrw : rst (o_X8_number_v v0 tx 0 99) tx lt nl (nxt lt nl (fr + 1)) := ⟨hst.1, kb, hst.2.2.1, hnl, by have := nxt_le (lt := lt) (nl := nl) (i := fr + 1); omega⟩
    have hj : j40 (o_X8_number_v v0 tx 0 99) tx = if chr lt nl (nxt lt nl (fr + 1)) = 59 then 0 else 1 := j40_e ka hrw
    by_cases hs : chr lt nl (nxt lt nl (fr + 1)) = 59
    · rcases h with ⟨-, rfl⟩ | ⟨q, -⟩
      · refine Or.inr ⟨nxt lt nl (fr + 1) + 1, by have := nxt_ge (lt := lt) (nl := nl) (i := fr + 1); omega, chr_lt (by decide) hs, rfl, by rw [hj, if_pos hs], ?_, ?_⟩
        · show o_X8_number_v v0 tx 0 99 9 + 1 = nI (nxt lt nl (fr + 1) + 1)
          rw [kb, nI_1]
        · obtain ⟨f3, f4, f5, f6, f7, f8, f9, f10, f11, f12, f13, f14⟩ := hF
          have hcell : o_X7_cell_r 4 (upd nu 0 (vnl lt nl (fr + 1))) 0 = vnl lt nl (fr + 1) := (c40 _ 0 (by decide) 0 rfl).trans (if_pos rfl)
          dsimp only
          unfold o_X7_layItem_4_2 o_X7_layItem_4_3 o_X7_layItem_5 o_X7_layItem_6 o_X7_layItem_g o_X8_item_1 o_X8_item_2
          rw [if_neg (show ¬ (119 : Int32) = 100 by decide), if_neg (show ¬ (119 : Int32) = 104 by decide), if_neg (show ¬ (119 : Int32) = 108 by decide), if_neg (show ¬ (119 : Int32) = 100 by decide), if_neg (show ¬ (119 : Int32) = 104 by decide), if_neg (show ¬ (119 : Int32) = 108 by decide), if_neg (show ¬ (119 : Int32) = 114 by decide), if_neg (show ¬ (119 : Int32) = 100 by decide), if_neg (show ¬ (119 : Int32) = 104 by decide), if_neg (show ¬ (119 : Int32) = 108 by decide), if_neg (show ¬ (119 : Int32) = 114 by decide), if_neg (show ¬ (119 : Int32) = 115 by decide), if_neg (show ¬ (119 : Int32) = 100 by decide), if_neg (show ¬ (119 : Int32) = 100 by decide), if_neg (show ¬ (119 : Int32) = 104 by decide), if_neg (show ¬ (119 : Int32) = 108 by decide), if_neg (show ¬ (119 : Int32) = 114 by decide), if_neg (show ¬ (119 : Int32) = 115 by decide), if_pos rfl, if_neg (show ¬ (119 : Int32) = 108 by decide), if_neg (show ¬ (119 : Int32) = 104 by decide), if_neg (show ¬ (119 : Int32) = 115 by decide), if_neg (show ¬ (119 : Int32) = 108 by decide), if_neg (show ¬ (119 : Int32) = 104 by decide), if_neg (show ¬ (119 : Int32) = 115 by decide), if_pos rfl, hcell]
          refine ⟨f3, f4, f5, f6, f7, f8, ?_, f10, f11, f12, f13, f14⟩
          rw [kr]
          obtain ⟨e0, e1, e2, e3, e4, e5, e6, e7, e8, e9, e10, e11, e12⟩ := f9
          exact ⟨e0, e1, e2, e3, e4, e5, e6, e7, e8, e9, rfl, e11, e12⟩
      · exact absurd ⟨ho, hs⟩ q
    · rcases h with ⟨q, -⟩ | ⟨-, q⟩
      · exact absurd q.2 hs
      · exact Or.inl ⟨q, by rw [hj, if_neg hs]⟩
  · rcases h with ⟨q, -⟩ | ⟨-, q⟩
    · exact absurd q.1 ho
    · exact Or.inl ⟨q, j40_1 (num_no hst (by omega) 0 99 (fun z => ho z.2))⟩
theorem so_d (lt nu : gT) (sz : Int32) (a : Nat) (ha : a ≤ 4) : o_X2_isSo_r lt nu sz (nI a) 100 = if a = 1 then (if o_X7_within_r (nu 0) 0 11 = 0 then 0 else 1) else 0 := by
  unfold o_X2_isSo_r
  rw [if_pos rfl]
  by_cases q : a = 1
  · subst q
    rw [if_pos (show nI 1 = 1 from rfl), if_pos rfl]
    unfold o_X2_number_r
    rw [c40 nu 0 (by decide) 0 rfl]
  · rw [if_neg (show ¬ nI a = 1 from a_ne (by omega) (by decide) q), if_neg q]
theorem iv_d (v0 mw sl tx : gT) : o_X8_item_v v0 mw sl tx 100 = (mkG15 ((o_X8_number_v v0 tx 0 11) 0) ((o_X8_number_v v0 tx 0 11) 1) ((o_X8_number_v v0 tx 0 11) 2) ((o_X8_number_v v0 tx 0 11) 3) ((o_X8_number_v v0 tx 0 11) 4) (((o_X8_number_v v0 tx 0 11) 5) ||| (j_X8_item_0_0 v0 mw sl tx 100)) ((o_X8_number_v v0 tx 0 11) 6) ((o_X8_number_v v0 tx 0 11) 7) ((o_X8_number_v v0 tx 0 11) 8) ((o_X8_number_v v0 tx 0 11) 9) ((o_X8_number_v v0 tx 0 11) 10) ((o_X8_number_v v0 tx 0 11) 11) ((o_X8_number_v v0 tx 0 11) 12) ((o_X8_number_v v0 tx 0 11) 13) ((o_X8_number_v v0 tx 0 11) 14)) := by
  unfold o_X8_item_v
  rw [if_neg (show ¬ (100 : Int32) = 108 by decide), if_neg (show ¬ (100 : Int32) = 104 by decide), if_neg (show ¬ (100 : Int32) = 115 by decide), if_neg (show ¬ (100 : Int32) = 119 by decide), if_pos rfl]
set_option maxHeartbeats 4000000 in
theorem it_d (lt nu tx : gT) (am : Int32) (nl fr : Nat) (len need : Int32) (sun dry g v0 mw sl : gT) (hst : rst v0 tx lt nl (fr + 1)) (hfr : fr < nl) (hw : v0 11 = 0) (hF : FR len need sun dry g v0 mw sl) (hc : chr lt nl fr = 100) : itd lt nu tx am nl fr len need sun dry g v0 mw sl 100 := by
  have hnl := hst.2.2.2.1
  have hR := RI_F lt nu am nl fr
  unfold itd
  generalize RI lt nu (nI nl) am (nI fr) = t at hR ⊢
  have h := ch_end lt nu nu am (nI fr) hnl (n := 5) (i := fr + 1) (a := 0) (by omega) (by decide) fr rfl (by omega) (fun nu' a' h1 h2 => by rw [hc, so_d lt nu' (nI nl) a' h2, if_neg (by omega)]) hR
  rw [hc, so_d lt _ (nI nl) 1 (by decide), if_pos rfl, show upd nu 0 (vnl lt nl (fr + 1)) 0 = vnl lt nl (fr + 1) from if_pos rfl] at h
  have hiff : (¬ isd lt nl (fr + 1) = 0 ∧ chr lt nl (nxt lt nl (fr + 1)) = 59 ∧ ¬ (if o_X7_within_r (vnl lt nl (fr + 1)) 0 11 = 0 then (0 : Int32) else 1) = 0) ↔ (okn lt nl (fr + 1) 0 11 ∧ chr lt nl (nxt lt nl (fr + 1)) = 59) := by
    constructor
    · intro q
      refine ⟨(okn_of sd_no q.2.1 q.1).mpr ?_, q.2.1⟩
      intro z; exact q.2.2 (if_pos z)
    · intro q
      refine ⟨q.1.1.1, q.2, ?_⟩
      rw [if_neg q.1.2]; decide
  rw [hiff] at h
  rw [iv_d]
  by_cases ho : okn lt nl (fr + 1) 0 11
  · obtain ⟨ka, kb, kr⟩ := num_ok hst (by omega) hw 0 11 ho
    have hrw : rst (mkG15 ((o_X8_number_v v0 tx 0 11) 0) ((o_X8_number_v v0 tx 0 11) 1) ((o_X8_number_v v0 tx 0 11) 2) ((o_X8_number_v v0 tx 0 11) 3) ((o_X8_number_v v0 tx 0 11) 4) (((o_X8_number_v v0 tx 0 11) 5) ||| (j_X8_item_0_0 v0 mw sl tx 100)) ((o_X8_number_v v0 tx 0 11) 6) ((o_X8_number_v v0 tx 0 11) 7) ((o_X8_number_v v0 tx 0 11) 8) ((o_X8_number_v v0 tx 0 11) 9) ((o_X8_number_v v0 tx 0 11) 10) ((o_X8_number_v v0 tx 0 11) 11) ((o_X8_number_v v0 tx 0 11) 12) ((o_X8_number_v v0 tx 0 11) 13) ((o_X8_number_v v0 tx 0 11) 14)) tx lt nl (nxt lt nl (fr + 1)) := ⟨hst.1, kb, hst.2.2.1, hnl, by have := nxt_le (lt := lt) (nl := nl) (i := fr + 1); omega⟩
    have hj : j40 (mkG15 ((o_X8_number_v v0 tx 0 11) 0) ((o_X8_number_v v0 tx 0 11) 1) ((o_X8_number_v v0 tx 0 11) 2) ((o_X8_number_v v0 tx 0 11) 3) ((o_X8_number_v v0 tx 0 11) 4) (((o_X8_number_v v0 tx 0 11) 5) ||| (j_X8_item_0_0 v0 mw sl tx 100)) ((o_X8_number_v v0 tx 0 11) 6) ((o_X8_number_v v0 tx 0 11) 7) ((o_X8_number_v v0 tx 0 11) 8) ((o_X8_number_v v0 tx 0 11) 9) ((o_X8_number_v v0 tx 0 11) 10) ((o_X8_number_v v0 tx 0 11) 11) ((o_X8_number_v v0 tx 0 11) 12) ((o_X8_number_v v0 tx 0 11) 13) ((o_X8_number_v v0 tx 0 11) 14)) tx = if chr lt nl (nxt lt nl (fr + 1)) = 59 then 0 else 1 := j40_e ka hrw
    by_cases hs : chr lt nl (nxt lt nl (fr + 1)) = 59
    · rcases h with ⟨-, rfl⟩ | ⟨q, -⟩
      · refine Or.inr ⟨nxt lt nl (fr + 1) + 1, by have := nxt_ge (lt := lt) (nl := nl) (i := fr + 1); omega, chr_lt (by decide) hs, rfl, by rw [hj, if_pos hs], ?_, ?_⟩
        · show o_X8_number_v v0 tx 0 11 9 + 1 = nI (nxt lt nl (fr + 1) + 1)
          rw [kb, nI_1]
        · obtain ⟨f3, f4, f5, f6, f7, f8, f9, f10, f11, f12, f13, f14⟩ := hF
          have hcell : o_X7_cell_r 4 (upd nu 0 (vnl lt nl (fr + 1))) 0 = vnl lt nl (fr + 1) := (c40 _ 0 (by decide) 0 rfl).trans (if_pos rfl)
          dsimp only
          unfold o_X7_layItem_4_2 o_X7_layItem_4_3 o_X7_layItem_5 o_X7_layItem_6 o_X7_layItem_g o_X8_item_1 o_X8_item_2
          rw [if_pos rfl, if_pos rfl, if_pos rfl, if_pos rfl, if_pos rfl, if_neg (show ¬ (100 : Int32) = 108 by decide), if_neg (show ¬ (100 : Int32) = 104 by decide), if_neg (show ¬ (100 : Int32) = 115 by decide), if_neg (show ¬ (100 : Int32) = 108 by decide), if_neg (show ¬ (100 : Int32) = 104 by decide), if_neg (show ¬ (100 : Int32) = 115 by decide), if_neg (show ¬ (100 : Int32) = 119 by decide), hcell]
          obtain ⟨m, hm, em⟩ := w_nat (n := 11) (by decide) (by decide) ho.2
          refine ⟨f3, f4, f5, f6, f7, fun j hj12 => ?_, f9, f10, f11, f12, f13, f14⟩
          show (if o_X7_setCell_0 12 dry (vnl lt nl (fr + 1)) 1 j = 1 then (1 : Int32) else 0) = if bt ((v0 5) ||| (j_X8_item_0_0 v0 mw sl tx 100)) j = true then 1 else 0
          unfold j_X8_item_0_0
          rw [if_pos ka, kr, em, set_eq dry 1 (by omega) (by decide), b_or, bt_sh ⟨j, hj12⟩ ⟨m, by omega⟩]
          show (if (if j = m then (1 : Int32) else dry j) = 1 then (1 : Int32) else 0) = if (bt (v0 5) j || decide (j = m)) = true then 1 else 0
          by_cases q : j = m
          · rw [if_pos q, decide_eq_true q, Bool.or_true]; rfl
          · rw [if_neg q, decide_eq_false q, Bool.or_false]; exact f8 j hj12
      · exact absurd ⟨ho, hs⟩ q
    · rcases h with ⟨q, -⟩ | ⟨-, q⟩
      · exact absurd q.2 hs
      · exact Or.inl ⟨q, by rw [hj, if_neg hs]⟩
  · rcases h with ⟨q, -⟩ | ⟨-, q⟩
    · exact absurd q.1 ho
    · exact Or.inl ⟨q, j40_1 (num_no hst (by omega) 0 11 (fun z => ho z.2))⟩
theorem so_r (lt nu : gT) (sz : Int32) (a : Nat) (ha : a ≤ 4) : o_X2_isSo_r lt nu sz (nI a) 114 = if a = 1 then (if o_X7_within_r (nu 0) 1 6 = 0 then 0 else 1) else 0 := by
  unfold o_X2_isSo_r
  rw [if_neg (show ¬ (114 : Int32) = 100 by decide), if_neg (show ¬ (114 : Int32) = 104 by decide), if_neg (show ¬ (114 : Int32) = 108 by decide), if_pos rfl]
  by_cases q : a = 1
  · subst q
    rw [if_pos (show nI 1 = 1 from rfl), if_pos rfl]
    unfold o_X2_number_r
    rw [c40 nu 0 (by decide) 0 rfl]
  · rw [if_neg (show ¬ nI a = 1 from a_ne (by omega) (by decide) q), if_neg q]
theorem iv_r (v0 mw sl tx : gT) : o_X8_item_v v0 mw sl tx 114 = (mkG15 ((o_X8_number_v v0 tx 1 6) 0) ((o_X8_number_v v0 tx 1 6) 1) ((o_X8_number_v v0 tx 1 6) 2) ((o_X8_number_v v0 tx 1 6) 3) ((o_X8_number_r v0 tx 1 6)) ((o_X8_number_v v0 tx 1 6) 5) ((o_X8_number_v v0 tx 1 6) 6) ((o_X8_number_v v0 tx 1 6) 7) ((o_X8_number_v v0 tx 1 6) 8) ((o_X8_number_v v0 tx 1 6) 9) ((o_X8_number_v v0 tx 1 6) 10) ((o_X8_number_v v0 tx 1 6) 11) ((o_X8_number_v v0 tx 1 6) 12) ((o_X8_number_v v0 tx 1 6) 13) ((o_X8_number_v v0 tx 1 6) 14)) := by
  unfold o_X8_item_v
  rw [if_neg (show ¬ (114 : Int32) = 108 by decide), if_neg (show ¬ (114 : Int32) = 104 by decide), if_neg (show ¬ (114 : Int32) = 115 by decide), if_neg (show ¬ (114 : Int32) = 119 by decide), if_neg (show ¬ (114 : Int32) = 100 by decide), if_pos rfl]
set_option maxHeartbeats 4000000 in
theorem it_r (lt nu tx : gT) (am : Int32) (nl fr : Nat) (len need : Int32) (sun dry g v0 mw sl : gT) (hst : rst v0 tx lt nl (fr + 1)) (hfr : fr < nl) (hw : v0 11 = 0) (hF : FR len need sun dry g v0 mw sl) (hc : chr lt nl fr = 114) : itd lt nu tx am nl fr len need sun dry g v0 mw sl 114 := by
  have hnl := hst.2.2.2.1
  have hR := RI_F lt nu am nl fr
  unfold itd
  generalize RI lt nu (nI nl) am (nI fr) = t at hR ⊢
  have h := ch_end lt nu nu am (nI fr) hnl (n := 5) (i := fr + 1) (a := 0) (by omega) (by decide) fr rfl (by omega) (fun nu' a' h1 h2 => by rw [hc, so_r lt nu' (nI nl) a' h2, if_neg (by omega)]) hR
  rw [hc, so_r lt _ (nI nl) 1 (by decide), if_pos rfl, show upd nu 0 (vnl lt nl (fr + 1)) 0 = vnl lt nl (fr + 1) from if_pos rfl] at h
  have hiff : (¬ isd lt nl (fr + 1) = 0 ∧ chr lt nl (nxt lt nl (fr + 1)) = 59 ∧ ¬ (if o_X7_within_r (vnl lt nl (fr + 1)) 1 6 = 0 then (0 : Int32) else 1) = 0) ↔ (okn lt nl (fr + 1) 1 6 ∧ chr lt nl (nxt lt nl (fr + 1)) = 59) := by
    constructor
    · intro q
      refine ⟨(okn_of sd_no q.2.1 q.1).mpr ?_, q.2.1⟩
      intro z; exact q.2.2 (if_pos z)
    · intro q
      refine ⟨q.1.1.1, q.2, ?_⟩
      rw [if_neg q.1.2]; decide
  rw [hiff] at h
  rw [iv_r]
  by_cases ho : okn lt nl (fr + 1) 1 6
  · obtain ⟨ka, kb, kr⟩ := num_ok hst (by omega) hw 1 6 ho
    have hrw : rst (mkG15 ((o_X8_number_v v0 tx 1 6) 0) ((o_X8_number_v v0 tx 1 6) 1) ((o_X8_number_v v0 tx 1 6) 2) ((o_X8_number_v v0 tx 1 6) 3) ((o_X8_number_r v0 tx 1 6)) ((o_X8_number_v v0 tx 1 6) 5) ((o_X8_number_v v0 tx 1 6) 6) ((o_X8_number_v v0 tx 1 6) 7) ((o_X8_number_v v0 tx 1 6) 8) ((o_X8_number_v v0 tx 1 6) 9) ((o_X8_number_v v0 tx 1 6) 10) ((o_X8_number_v v0 tx 1 6) 11) ((o_X8_number_v v0 tx 1 6) 12) ((o_X8_number_v v0 tx 1 6) 13) ((o_X8_number_v v0 tx 1 6) 14)) tx lt nl (nxt lt nl (fr + 1)) := ⟨hst.1, kb, hst.2.2.1, hnl, by have := nxt_le (lt := lt) (nl := nl) (i := fr + 1); omega⟩
    have hj : j40 (mkG15 ((o_X8_number_v v0 tx 1 6) 0) ((o_X8_number_v v0 tx 1 6) 1) ((o_X8_number_v v0 tx 1 6) 2) ((o_X8_number_v v0 tx 1 6) 3) ((o_X8_number_r v0 tx 1 6)) ((o_X8_number_v v0 tx 1 6) 5) ((o_X8_number_v v0 tx 1 6) 6) ((o_X8_number_v v0 tx 1 6) 7) ((o_X8_number_v v0 tx 1 6) 8) ((o_X8_number_v v0 tx 1 6) 9) ((o_X8_number_v v0 tx 1 6) 10) ((o_X8_number_v v0 tx 1 6) 11) ((o_X8_number_v v0 tx 1 6) 12) ((o_X8_number_v v0 tx 1 6) 13) ((o_X8_number_v v0 tx 1 6) 14)) tx = if chr lt nl (nxt lt nl (fr + 1)) = 59 then 0 else 1 := j40_e ka hrw
    by_cases hs : chr lt nl (nxt lt nl (fr + 1)) = 59
    · rcases h with ⟨-, rfl⟩ | ⟨q, -⟩
      · refine Or.inr ⟨nxt lt nl (fr + 1) + 1, by have := nxt_ge (lt := lt) (nl := nl) (i := fr + 1); omega, chr_lt (by decide) hs, rfl, by rw [hj, if_pos hs], ?_, ?_⟩
        · show o_X8_number_v v0 tx 1 6 9 + 1 = nI (nxt lt nl (fr + 1) + 1)
          rw [kb, nI_1]
        · obtain ⟨f3, f4, f5, f6, f7, f8, f9, f10, f11, f12, f13, f14⟩ := hF
          have hcell : o_X7_cell_r 4 (upd nu 0 (vnl lt nl (fr + 1))) 0 = vnl lt nl (fr + 1) := (c40 _ 0 (by decide) 0 rfl).trans (if_pos rfl)
          dsimp only
          unfold o_X7_layItem_4_2 o_X7_layItem_4_3 o_X7_layItem_5 o_X7_layItem_6 o_X7_layItem_g o_X8_item_1 o_X8_item_2
          rw [if_neg (show ¬ (114 : Int32) = 100 by decide), if_neg (show ¬ (114 : Int32) = 104 by decide), if_neg (show ¬ (114 : Int32) = 108 by decide), if_neg (show ¬ (114 : Int32) = 100 by decide), if_neg (show ¬ (114 : Int32) = 104 by decide), if_neg (show ¬ (114 : Int32) = 108 by decide), if_pos rfl, if_neg (show ¬ (114 : Int32) = 100 by decide), if_neg (show ¬ (114 : Int32) = 104 by decide), if_neg (show ¬ (114 : Int32) = 108 by decide), if_pos rfl, if_neg (show ¬ (114 : Int32) = 100 by decide), if_neg (show ¬ (114 : Int32) = 100 by decide), if_neg (show ¬ (114 : Int32) = 104 by decide), if_neg (show ¬ (114 : Int32) = 108 by decide), if_pos rfl, if_neg (show ¬ (114 : Int32) = 108 by decide), if_neg (show ¬ (114 : Int32) = 104 by decide), if_neg (show ¬ (114 : Int32) = 115 by decide), if_neg (show ¬ (114 : Int32) = 108 by decide), if_neg (show ¬ (114 : Int32) = 104 by decide), if_neg (show ¬ (114 : Int32) = 115 by decide), if_neg (show ¬ (114 : Int32) = 119 by decide), hcell]
          have hb := w_rng ho.2
          rw [show (1 : Int32).toInt = 1 from by decide, show (6 : Int32).toInt = 6 from by decide] at hb
          have hpos : 0 < vnl lt nl (fr + 1) := by rw [Int32.lt_iff_toInt_lt, show (0 : Int32).toInt = 0 from by decide]; omega
          obtain ⟨e0, e1, e2, e3, e4, e5, e6, e7, e8, e9, e10, e11, e12⟩ := f9
          obtain ⟨b0, b1, b2, b3, b4, b5, b6, b7⟩ := f10
          exact ⟨f3, kr, ⟨by omega, hb.2⟩, hpos, f7, f8, ⟨e0, e1, e2, e3, e4, e5, e6, e7, e8, e9, e10, e11, e12.trans ((lz0 f11 f12 f6).trans (lz0 f11 f12 hpos).symm)⟩, ⟨b0, b1, b2, b3, b4, b5, b6, Or.inl (by rw [f11]; exact hpos)⟩, f11, f12, f13, f14⟩
      · exact absurd ⟨ho, hs⟩ q
    · rcases h with ⟨q, -⟩ | ⟨-, q⟩
      · exact absurd q.2 hs
      · exact Or.inl ⟨q, by rw [hj, if_neg hs]⟩
  · rcases h with ⟨q, -⟩ | ⟨-, q⟩
    · exact absurd q.1 ho
    · exact Or.inl ⟨q, j40_1 (num_no hst (by omega) 1 6 (fun z => ho z.2))⟩
