theorem play_7 {Bd : Int} (sun dry : gT) (len need : Int32) (g fl fr wk : gT) (si mo at_ : Int32) (M : Nat) (h1 : 1 ≤ M) (hM : M ≤ 3) (hg : gd Bd g need) (hB : Bd + 10 < 2000000000) (hN : gnx (nx sun dry len need) need) (hl : lz g need = -4) :
    o_X7_bestLead_d0_r (o_X3_begin_1 fl fr si mo at_ g 0 (nI M) 0) fr (o_X3_begin_0_4 fl fr si mo at_ g 0 (nI M) 0) (o_X3_begin_0_5 fl fr si mo at_ g 0 (nI M) 0) (o_X3_begin_0_6 fl fr si mo at_ g 0 (nI M) 0) wk sun dry len need = rm (nx sun dry len need) (ld need) M (cg g) ∧ o_X7_cell_r 5 (o_X7_bestLead_d0_2 (o_X3_begin_1 fl fr si mo at_ g 0 (nI M) 0) fr (o_X3_begin_0_4 fl fr si mo at_ g 0 (nI M) 0) (o_X3_begin_0_5 fl fr si mo at_ g 0 (nI M) 0) (o_X3_begin_0_6 fl fr si mo at_ g 0 (nI M) 0) wk sun dry len need) 0 = am5 (fun a => mx5 1 (fun b => rm (nx sun dry len need) (ld need) (M - 1) (nx sun dry len need (cg g) (nI a) (nI b))) 5) 5 := by
  have hlev : lev (o_X3_begin_1 fl fr si mo at_ g 0 (nI M) 0) 0 = cg g := lev_store (d := 0) g fl (by decide)
  have h := bl_0 sun dry len need 0 0 M hM (Nat.zero_le _) (o_X3_begin_1 fl fr si mo at_ g 0 (nI M) 0) fr wk (B := Bd) (by rw [hlev]; exact cg_gd hg) hB hN
  rw [hlev] at h
  obtain ⟨⟨r1, -, -⟩, r4⟩ := h
  have r1' := r1
  rw [hlev, Nat.sub_zero] at r1'
  refine ⟨r1', ?_⟩
  rw [show (0 : Int32) = nI 0 from rfl, cell_eq _ (by decide) (by decide)]
  exact r4 (by omega) hl
set_option maxHeartbeats 2000000 in
theorem q_play {Bd : Int} {lt g sun dry pf kf fs ft fh v ms sl tx f1 f2 f3 : Nat → Int32} {sz len need psz ksz : Int32} {zk na nk nl : Nat} (fl fr wk bs : Nat → Int32) (si mo at_ n what : Int32) (hI : Inv Bd lt sz g sun dry len need pf psz kf ksz fs ft fh zk v ms sl tx f1 f2 f3 na nk nl) (hB : Bd < 1000000) : o_X7_play_r g fl fr si mo at_ wk sun dry len need n what = o_X8_play_r v ms sl bs n what ∧ Inv (Bd + 24) lt sz g sun dry len need pf psz kf ksz fs ft fh zk (o_X8_play_v v ms sl bs n what) ms (o_X8_play_2 v ms sl bs n what) tx f1 f2 f3 na nk nl := by
  have hI' := hI
  obtain ⟨hs, he, hg, hp, p1, p2, p3, hk, k1, k2, k3, t1, t2, t3, t4, z1, z2, z3⟩ := hI'
  unfold o_X7_play_r o_X8_play_r o_X8_play_v o_X8_play_2
  rw [w_13, w_01]
  by_cases c1 : o_X7_within_r n 1 3 = 0
  · simp only [if_pos c1]; exact ⟨trivial, hI.le (by omega)⟩
  by_cases c2 : o_X7_within_r what 0 1 = 0
  · simp only [if_neg c1, if_pos c2]; exact ⟨trivial, hI.le (by omega)⟩
  rw [e_over (v := v) (b := 0) (sun := sun) (dry := dry) (len := len) he]
  by_cases c3 : o_X7_isOver_r g sun dry len need = 0
  · have hn : n = 1 ∨ n = 2 ∨ n = 3 := z_123 (by rw [w_13]; exact c1)
    rcases hn with r | r | r <;> subst r
    · simp only [if_neg c1, if_neg c2, if_pos c3, if_true]
      obtain ⟨p1', p2'⟩ := play_7 sun dry len need g fl fr wk si mo at_ 1 (by decide) (by decide) hg (by omega) (gnx_of hs) (e_over0 c3)
      obtain ⟨r1, r2, r3, r4⟩ := pr_1 v ms sl bs g sun dry len need 1 what hs he hg hB
      have p1'' : o_X7_bestLead_d0_r (o_X3_begin_1 fl fr si mo at_ g 0 1 0) fr (o_X3_begin_0_4 fl fr si mo at_ g 0 1 0) (o_X3_begin_0_5 fl fr si mo at_ g 0 1 0) (o_X3_begin_0_6 fl fr si mo at_ g 0 1 0) wk sun dry len need = rm (nx sun dry len need) (ld need) 1 (cg g) := p1'
      have p2'' : o_X7_cell_r 5 (o_X7_bestLead_d0_2 (o_X3_begin_1 fl fr si mo at_ g 0 1 0) fr (o_X3_begin_0_4 fl fr si mo at_ g 0 1 0) (o_X3_begin_0_5 fl fr si mo at_ g 0 1 0) (o_X3_begin_0_6 fl fr si mo at_ g 0 1 0) wk sun dry len need) 0 = am5 (fun a => mx5 1 (fun b => rm (nx sun dry len need) (ld need) 0 (nx sun dry len need (cg g) (nI a) (nI b))) 5) 5 := p2'
      rw [p1'', p2'', r1, r2]
      exact ⟨rfl, (hI.le (by omega)).tried r4 (r3 0 (by decide)) (r3 1 (by decide)) (r3 2 (by decide)) (r3 6 (by decide)) (r3 7 (by decide)) (r3 8 (by decide)) (r3 12 (by decide))⟩
    · simp only [if_neg c1, if_neg c2, if_pos c3, if_true, if_neg (show ¬ (2 : Int32) = 1 by decide)]
      obtain ⟨p1', p2'⟩ := play_7 sun dry len need g fl fr wk si mo at_ 2 (by decide) (by decide) hg (by omega) (gnx_of hs) (e_over0 c3)
      obtain ⟨r1, r2, r3, r4⟩ := pr_2 v ms sl bs g sun dry len need 2 what hs he hg hB
      have p1'' : o_X7_bestLead_d0_r (o_X3_begin_1 fl fr si mo at_ g 0 2 0) fr (o_X3_begin_0_4 fl fr si mo at_ g 0 2 0) (o_X3_begin_0_5 fl fr si mo at_ g 0 2 0) (o_X3_begin_0_6 fl fr si mo at_ g 0 2 0) wk sun dry len need = rm (nx sun dry len need) (ld need) 2 (cg g) := p1'
      have p2'' : o_X7_cell_r 5 (o_X7_bestLead_d0_2 (o_X3_begin_1 fl fr si mo at_ g 0 2 0) fr (o_X3_begin_0_4 fl fr si mo at_ g 0 2 0) (o_X3_begin_0_5 fl fr si mo at_ g 0 2 0) (o_X3_begin_0_6 fl fr si mo at_ g 0 2 0) wk sun dry len need) 0 = am5 (fun a => mx5 1 (fun b => rm (nx sun dry len need) (ld need) 1 (nx sun dry len need (cg g) (nI a) (nI b))) 5) 5 := p2'
      rw [p1'', p2'', r1, r2]
      exact ⟨rfl, (hI.le (by omega)).tried r4 (r3 0 (by decide)) (r3 1 (by decide)) (r3 2 (by decide)) (r3 6 (by decide)) (r3 7 (by decide)) (r3 8 (by decide)) (r3 12 (by decide))⟩
    · simp only [if_neg c1, if_neg c2, if_pos c3, if_neg (show ¬ (3 : Int32) = 1 by decide), if_neg (show ¬ (3 : Int32) = 2 by decide)]
      obtain ⟨p1', p2'⟩ := play_7 sun dry len need g fl fr wk si mo at_ 3 (by decide) (by decide) hg (by omega) (gnx_of hs) (e_over0 c3)
      obtain ⟨r1, r2, r3, r4⟩ := pr_3 v ms sl bs g sun dry len need 3 what hs he hg hB
      have p1'' : o_X7_bestLead_d0_r (o_X3_begin_1 fl fr si mo at_ g 0 3 0) fr (o_X3_begin_0_4 fl fr si mo at_ g 0 3 0) (o_X3_begin_0_5 fl fr si mo at_ g 0 3 0) (o_X3_begin_0_6 fl fr si mo at_ g 0 3 0) wk sun dry len need = rm (nx sun dry len need) (ld need) 3 (cg g) := p1'
      have p2'' : o_X7_cell_r 5 (o_X7_bestLead_d0_2 (o_X3_begin_1 fl fr si mo at_ g 0 3 0) fr (o_X3_begin_0_4 fl fr si mo at_ g 0 3 0) (o_X3_begin_0_5 fl fr si mo at_ g 0 3 0) (o_X3_begin_0_6 fl fr si mo at_ g 0 3 0) wk sun dry len need) 0 = am5 (fun a => mx5 1 (fun b => rm (nx sun dry len need) (ld need) 2 (nx sun dry len need (cg g) (nI a) (nI b))) 5) 5 := p2'
      rw [p1'', p2'', r1, r2]
      exact ⟨rfl, (hI.le (by omega)).tried r4 (r3 0 (by decide)) (r3 1 (by decide)) (r3 2 (by decide)) (r3 6 (by decide)) (r3 7 (by decide)) (r3 8 (by decide)) (r3 12 (by decide))⟩
  · simp only [if_neg c1, if_neg c2, if_neg c3]; exact ⟨trivial, hI.le (by omega)⟩
