/-- what holds between two calls: the class's rows beside the reference's -/
def Inv (Bd : Int) (lt : Nat → Int32) (sz : Int32) (g : Nat → Int32) (sun : Nat → Int32) (dry : Nat → Int32) (len : Int32) (need : Int32) (pf : Nat → Int32) (psz : Int32) (kf : Nat → Int32) (ksz : Int32) (fs : Nat → Int32) (ft : Nat → Int32) (fh : Nat → Int32) (zk : Nat) (v : Nat → Int32) (ms : Nat → Int32) (sl : Nat → Int32) (tx : Nat → Int32) (f1 : Nat → Int32) (f2 : Nat → Int32) (f3 : Nat → Int32) (na : Nat) (nk : Nat) (nl : Nat) : Prop :=
  es v ms sun dry len need ∧ en 0 sl g need ∧ gd Bd g need ∧ stk 1 Bd pf sl need na ∧ psz = nI na ∧ v 6 = nI na ∧ na ≤ 8 ∧ stk 9 Bd kf sl need nk ∧ ksz = nI nk ∧ v 7 = nI nk ∧ nk ≤ 2 ∧ sz = nI nl ∧ v 8 = nI nl ∧ nl ≤ 200 ∧ (∀ j, j < nl → lt j = tx j ∧ mB 127 (lt j)) ∧ v 12 = nI zk ∧ zk ≤ 6 ∧ ∀ j, j < zk → f1 j = fs j ∧ f2 j = ft j ∧ f3 j = fh j ∧ (fs j = 0 ∨ fs j = 1)
theorem Inv.le {Bd : Int} {lt g sun dry pf kf fs ft fh v ms sl tx f1 f2 f3 : Nat → Int32} {sz len need psz ksz : Int32} {zk na nk nl : Nat} {C : Int} (hI : Inv Bd lt sz g sun dry len need pf psz kf ksz fs ft fh zk v ms sl tx f1 f2 f3 na nk nl) (h : Bd ≤ C) : Inv C lt sz g sun dry len need pf psz kf ksz fs ft fh zk v ms sl tx f1 f2 f3 na nk nl := by
  obtain ⟨hs, he, hg, hp, p1, p2, p3, hk, k1, k2, k3, t1, t2, t3, t4, z1, z2, z3⟩ := hI
  exact ⟨hs, he, hg.le h, hp.le h, p1, p2, p3, hk.le h, k1, k2, k3, t1, t2, t3, t4, z1, z2, z3⟩
/-- calls that try: the slots from 143 on, and the reference's own scraps, are free -/
theorem Inv.tried {Bd : Int} {lt g sun dry pf kf fs ft fh v ms sl tx f1 f2 f3 : Nat → Int32} {sz len need psz ksz : Int32} {zk na nk nl : Nat} {v' sl' : Nat → Int32} (hI : Inv Bd lt sz g sun dry len need pf psz kf ksz fs ft fh zk v ms sl tx f1 f2 f3 na nk nl) (hl : ∀ j, j < 143 → sl' j = sl j) (w0 : v' 0 = v 0) (w1 : v' 1 = v 1) (w2 : v' 2 = v 2) (w6 : v' 6 = v 6) (w7 : v' 7 = v 7) (w8 : v' 8 = v 8) (w12 : v' 12 = v 12) : Inv Bd lt sz g sun dry len need pf psz kf ksz fs ft fh zk v' ms sl' tx f1 f2 f3 na nk nl := by
  obtain ⟨hs, he, hg, hp, p1, p2, p3, hk, k1, k2, k3, t1, t2, t3, t4, z1, z2, z3⟩ := hI
  exact ⟨hs.to w0 w1 w2, he.low (by omega) hl, hg, hp.low (by omega) hl, p1, w6.trans p2, p3, hk.low (by omega) hl, k1, w7.trans k2, k3, t1, w8.trans t2, t3, t4, w12.trans z1, z2, z3⟩
theorem zkn_lt {na : Nat} (h : na < 8) : zkn na = na + 1 := by unfold zkn; rw [if_neg (by omega)]
theorem nI_12 (n : Nat) : nI n * 12 = nI (12 * n) := by rw [show (12 : Int32) = nI 12 from rfl, pk_mul, Nat.mul_comm]
theorem push_eq {Bd : Int} {v sl pf g : Nat → Int32} {need : Int32} {na : Nat} (hp : stk 1 Bd pf sl need na) (p2 : v 6 = nI na) (p3 : na ≤ 8) (he : en 0 sl g need) (hg : gd Bd g need) :
    stk 1 Bd (o_X4_push_1 96 pf g 8 (nI na)) (o_X8_known_1 v sl na) need (zkn na) ∧ o_X4_push_0_2 96 pf g 8 (nI na) = nI (zkn na) ∧ o_X8_known_v v sl na 6 = nI (zkn na) ∧ en 0 (o_X8_known_1 v sl na) g need ∧ (∀ j, 117 ≤ j → o_X8_known_1 v sl na j = sl j) := by
  unfold o_X4_push_1 o_X4_push_0_2 o_X8_known_1 o_X8_known_v j_X4_push_0_0 j_X4_push_0_1 j_X8_known_1_0 j_X8_known_1_1
  rw [p2]
  by_cases c : na < 8
  · have c1 : nI na < 8 := (nI_ltI (a := na) (b := 8) (by omega) (by decide)).mpr c
    have c2 : ¬ nI na = 8 := fun e => by
      have := (nI_eq (a := na) (b := 8) (by omega) (by decide)).mp e
      omega
    rw [if_pos c1, if_pos c1, if_neg c2, if_neg c2, zkn_lt c, nI_12]
    refine ⟨?_, nI_1 na, nI_1 na, ?_, fun j hj => ?_⟩
    · have h := hp.push (N := 96) (by decide) (by omega) (by decide) he hg
      rw [Nat.add_comm 1 na] at h
      exact h
    · exact he.of (fun i hi => by unfold cp13; rw [if_neg (by omega)])
    · unfold cp13; rw [if_neg (by omega)]
  · obtain rfl : na = 8 := by omega
    have c1 : ¬ nI 8 < 8 := by decide
    rw [if_neg c1, if_neg c1, if_pos (show nI 8 = 8 from rfl), if_pos (show nI 8 = 8 from rfl)]
    have e1 : o_X4_dropOldest_0_2 96 pf 8 (nI 8) = nI 7 := (by decide : (8 : Int32) - 1 = nI 7)
    have hz : zkn 8 = 8 := rfl
    rw [e1, hz, nI_12]
    have h7 : stk 1 Bd (o_X4_dropOldest_1 96 pf 8 (nI 8)) (L_X8_known_0 v sl 8 91) need 7 := by
      intro i hi
      have h := hp (i + 1) (by omega)
      have q : ∀ k, k < 12 → (fun k => o_X4_dropOldest_1 96 pf 8 (nI 8) (12 * i + k)) k = (fun k => pf (12 * (i + 1) + k)) k := fun k hk => by
        show o_X4_dropOldest_1 96 pf 8 (nI 8) (12 * i + k) = pf (12 * (i + 1) + k)
        unfold o_X4_dropOldest_1
        rw [drop_eq pf 8 (nI 8) (by decide) (96 - 12) (by decide), if_pos (by omega)]
        exact congrArg pf (by omega)
      refine ⟨(h.1.of (fun k hk => ?_)).g q, h.2.g q⟩
      rw [known_eq, if_pos (by omega)]
      exact congrArg sl (by omega)
    have e0 : en 0 (L_X8_known_0 v sl 8 91) g need := he.of (fun i hi => by rw [known_eq, if_neg (by omega)])
    refine ⟨h7.push (N := 96) (by decide) (by omega) (by decide) e0 hg, rfl, rfl, ?_, fun j hj => ?_⟩
    · exact e0.of (fun i hi => by unfold cp13; rw [if_neg (by omega)])
    · unfold cp13; rw [if_neg (by omega), known_eq, if_neg (by omega)]
theorem kv (v sl : Nat → Int32) (na : Nat) : o_X8_known_v v sl na 0 = v 0 ∧ o_X8_known_v v sl na 1 = v 1 ∧ o_X8_known_v v sl na 2 = v 2 ∧ o_X8_known_v v sl na 7 = v 7 ∧ o_X8_known_v v sl na 8 = v 8 ∧ o_X8_known_v v sl na 12 = v 12 := ⟨rfl, rfl, rfl, rfl, rfl, rfl⟩
theorem w_kind (x : Int32) : o_X8_in_r x.toInt64 0 4 = o_X7_isKind_r x := w_in x 0 4
theorem w_deed (x : Int32) : o_X8_in_r x.toInt64 0 4 = o_X7_isDeed_r x := w_in x 0 4
theorem w_01 (x : Int32) : o_X8_in_r x.toInt64 0 1 = o_X7_within_r x 0 1 := w_in x 0 1
theorem w_02 (x : Int32) : o_X8_in_r x.toInt64 0 2 = o_X7_within_r x 0 2 := w_in x 0 2
theorem w_05 (x : Int32) : o_X8_in_r x.toInt64 0 5 = o_X7_within_r x 0 5 := w_in x 0 5
theorem w_06 (x : Int32) : o_X8_in_r x.toInt64 0 6 = o_X7_within_r x 0 6 := w_in x 0 6
theorem w_07 (x : Int32) : o_X8_in_r x.toInt64 0 7 = o_X7_within_r x 0 7 := w_in x 0 7
theorem w_10 (x : Int32) : o_X8_in_r x.toInt64 0 10 = o_X7_within_r x 0 10 := w_in x 0 10
theorem w_36 (x : Int32) : o_X8_in_r x.toInt64 0 36 = o_X7_within_r x 0 36 := w_in x 0 36
theorem w_60 (x : Int32) : o_X8_in_r x.toInt64 0 60 = o_X7_within_r x 0 60 := w_in x 0 60
theorem w_99 (x : Int32) : o_X8_in_r x.toInt64 0 99 = o_X7_within_r x 0 99 := w_in x 0 99
theorem w_9999 (x : Int32) : o_X8_in_r x.toInt64 0 9999 = o_X7_within_r x 0 9999 := w_in x 0 9999
theorem w_13 (x : Int32) : o_X8_in_r x.toInt64 1 3 = o_X7_within_r x 1 3 := w_in x 1 3
theorem w_15 (x : Int32) : o_X8_in_r x.toInt64 1 5 = o_X7_within_r x 1 5 := w_in x 1 5
theorem w_124 (x : Int32) : o_X8_in_r x.toInt64 1 24 = o_X7_within_r x 1 24 := w_in x 1 24
theorem w_140 (x : Int32) : o_X8_in_r x.toInt64 1 40 = o_X7_within_r x 1 40 := w_in x 1 40
theorem w_32 (x : Int32) : o_X8_in_r x.toInt64 32 126 = o_X7_within_r x 32 126 := w_in x 32 126

set_option maxHeartbeats 2000000 in
theorem q_act {Bd : Int} {lt g sun dry pf kf fs ft fh v ms sl tx f1 f2 f3 : Nat → Int32} {sz len need psz ksz : Int32} {zk na nk nl : Nat} (da db : Int32) (hI : Inv Bd lt sz g sun dry len need pf psz kf ksz fs ft fh zk v ms sl tx f1 f2 f3 na nk nl) (hB : Bd < 1000000) : o_X7_act_r g sun dry len need pf 8 psz da db = o_X8_act_r v ms sl da db na ∧ ∃ nb, Inv (Bd + 24) lt sz (o_X7_act_g g sun dry len need pf 8 psz da db) sun dry len need (o_X7_act_8 g sun dry len need pf 8 psz da db) (o_X7_act_7_2 g sun dry len need pf 8 psz da db) kf ksz fs ft fh zk (o_X8_act_v v ms sl da db na) ms (o_X8_act_2 v ms sl da db na) tx f1 f2 f3 nb nk nl := by
  have hI' := hI
  obtain ⟨hs, he, hg, hp, p1, p2, p3, hk, k1, k2, k3, t1, t2, t3, t4, z1, z2, z3⟩ := hI'
  subst p1
  unfold o_X7_act_r o_X8_act_r o_X7_act_g o_X7_act_8 o_X7_act_7_2 o_X8_act_v o_X8_act_2
  rw [w_deed, w_deed]
  by_cases c1 : o_X7_isDeed_r da = 0
  · simp only [if_pos c1]; exact ⟨trivial, na, hI.le (by omega)⟩
  by_cases c2 : o_X7_isDeed_r db = 0
  · simp only [if_neg c1, if_pos c2]; exact ⟨trivial, na, hI.le (by omega)⟩
  rw [e_over (v := v) (b := 0) (sun := sun) (dry := dry) (len := len) he]
  by_cases c3 : o_X7_isOver_r g sun dry len need = 0
  · simp only [if_neg c1, if_neg c2, if_pos c3]
    obtain ⟨a1, a2, a3, a4, a5⟩ := push_eq (v := v) hp p2 p3 he hg
    obtain ⟨b1, b2, b3, b4⟩ := to_0 (o_X8_known_v v sl na) ms (o_X8_known_1 v sl na) g sun dry len need da db (hs.to rfl rfl rfl) a4 hg (by omega)
    refine ⟨(b4 (e_over0 c3)).symm, zkn na, hs.to rfl rfl rfl, b1, b2.le (by omega), (a1.le (by omega)).on (fun j h1 h2 => hi_told _ _ _ _ _ (by omega)), a2, a3, zkn_le p3, (hk.le (by omega)).on (fun j h1 h2 => (hi_told _ _ _ _ _ (by omega)).trans (a5 j (by omega))), k1, k2, k3, t1, t2, t3, t4, z1, z2, z3⟩
  · simp only [if_neg c1, if_neg c2, if_neg c3]; exact ⟨trivial, na, hI.le (by omega)⟩
set_option maxHeartbeats 2000000 in
theorem q_pass {Bd : Int} {lt g sun dry pf kf fs ft fh v ms sl tx f1 f2 f3 : Nat → Int32} {sz len need psz ksz : Int32} {zk na nk nl : Nat} (n : Int32) (hI : Inv Bd lt sz g sun dry len need pf psz kf ksz fs ft fh zk v ms sl tx f1 f2 f3 na nk nl) (hB : Bd < 1000000) : o_X7_pass_r g sun dry len need pf 8 psz n = o_X8_pass_r v ms sl n na ∧ ∃ nb, Inv (Bd + 24) lt sz (o_X7_pass_g g sun dry len need pf 8 psz n) sun dry len need (o_X7_pass_8 g sun dry len need pf 8 psz n) (o_X7_pass_7_2 g sun dry len need pf 8 psz n) kf ksz fs ft fh zk (o_X8_pass_v v ms sl n na) ms (o_X8_pass_2 v ms sl n na) tx f1 f2 f3 nb nk nl := by
  have hI' := hI
  obtain ⟨hs, he, hg, hp, p1, p2, p3, hk, k1, k2, k3, t1, t2, t3, t4, z1, z2, z3⟩ := hI'
  subst p1
  unfold o_X7_pass_r o_X8_pass_r o_X7_pass_g o_X7_pass_8 o_X7_pass_7_2 o_X8_pass_v o_X8_pass_2
  rw [w_124]
  by_cases c1 : o_X7_within_r n 1 24 = 0
  · simp only [if_pos c1]; exact ⟨trivial, na, hI.le (by omega)⟩
  rw [e_over (v := v) (b := 0) (sun := sun) (dry := dry) (len := len) he]
  have hn : n.toNatClampNeg ≤ 24 := z_in3 (a := 1) (b := 24) (by decide) rfl (by rw [w_124]; exact c1)
  by_cases c3 : o_X7_isOver_r g sun dry len need = 0
  · simp only [if_neg c1, if_pos c3]
    obtain ⟨a1, a2, a3, a4, a5⟩ := push_eq (v := v) hp p2 p3 he hg
    obtain ⟨b1, b2, b3⟩ := id_0 v v ms sl g sun dry len need n n na n.toNatClampNeg (hs.to rfl rfl rfl) a4 hg n.toNatClampNeg (by omega)
    rw [if_pos (Int32.not_lt.mp b3.nn)]
    refine ⟨b1.2.2.2.2.2.2.2.2.2.2.2.1.symm, zkn na, hs.to rfl rfl rfl, b1, b2.le (by omega), (a1.le (by omega)).on (fun j h1 h2 => hi_pass _ _ _ _ _ (by omega) _), a2, a3, zkn_le p3, (hk.le (by omega)).on (fun j h1 h2 => (hi_pass _ _ _ _ _ (by omega) _).trans (a5 j (by omega))), k1, k2, k3, t1, t2, t3, t4, z1, z2, z3⟩
  · simp only [if_neg c1, if_neg c3]; exact ⟨trivial, na, hI.le (by omega)⟩
set_option maxHeartbeats 2000000 in
theorem q_plant {Bd : Int} {lt g sun dry pf kf fs ft fh v ms sl tx f1 f2 f3 : Nat → Int32} {sz len need psz ksz : Int32} {zk na nk nl : Nat} (p kd : Int32) (hI : Inv Bd lt sz g sun dry len need pf psz kf ksz fs ft fh zk v ms sl tx f1 f2 f3 na nk nl) (hB : Bd < 1000000) : o_X7_plant_r g sun dry len need pf 8 psz p kd = o_X8_plant_r v sl p kd na ∧ ∃ nb, Inv (Bd + 24) lt sz (o_X7_plant_g g sun dry len need pf 8 psz p kd) sun dry len need (o_X7_plant_8 g sun dry len need pf 8 psz p kd) (o_X7_plant_7_2 g sun dry len need pf 8 psz p kd) kf ksz fs ft fh zk (o_X8_plant_v v sl p kd na) ms (o_X8_plant_1 v sl p kd na) tx f1 f2 f3 nb nk nl := by
  have hI' := hI
  obtain ⟨hs, he, hg, hp, p1, p2, p3, hk, k1, k2, k3, t1, t2, t3, t4, z1, z2, z3⟩ := hI'
  subst p1
  unfold o_X7_plant_r o_X8_plant_r o_X7_plant_g o_X7_plant_8 o_X7_plant_7_2 o_X8_plant_v o_X8_plant_1
  rw [w_one, w_kind]
  by_cases c1 : o_X7_isSide_r p = 0
  · simp only [if_pos c1]; exact ⟨trivial, na, hI.le (by omega)⟩
  by_cases c2 : o_X7_isKind_r kd = 0
  · simp only [if_neg c1, if_pos c2]; exact ⟨trivial, na, hI.le (by omega)⟩
  have hkd : mB 4 kd := by
    have h := z_in32 (x := kd) (lo := 0) (hi := 4) (by rw [w_kind]; exact c2)
    exact h
  rw [e_over (v := v) (b := 0) (sun := sun) (dry := dry) (len := len) he]
  obtain ⟨a1, a2, a3, a4, a5⟩ := push_eq (v := v) hp p2 p3 he hg
  obtain ⟨e0, e1, e2, e3, e4, e5, e6, e7, e8, e9, e10, e11, e12⟩ := he
  obtain ⟨f0, f1', f2', f3', f4, f5, f6, f7, f8, f9, f10, f11, f12⟩ := id a4
  obtain ⟨g0, g1, g2, g3, g4, g5, g6, g7⟩ := hg
  have m1 : mB 40 (1 : Int32) := ⟨by decide, by decide⟩
  by_cases c0 : p = 0
  · rw [show sl 6 = g 3 from e6]
    by_cases c3 : o_X7_isOver_r g sun dry len need = 0
    · by_cases c4 : (5 : Int32) ≤ g 3
      · simp only [if_neg c1, if_neg c2, if_pos c0, if_pos c3, if_pos c4]
        refine ⟨by show g 3 - 5 = o_X8_known_1 v sl na 6 - 5; rw [show o_X8_known_1 v sl na 6 = g 3 from f6], zkn na, hs.to rfl rfl rfl, ⟨rfl, f1', rfl, f3', rfl, f5, by show o_X8_known_1 v sl na 6 - 5 = g 3 - 5; rw [show o_X8_known_1 v sl na 6 = g 3 from f6], f7, f8, f9, f10, f11, f12⟩, ⟨hkd, g1, m1, g3, ⟨g4.1, by have := g4.2; show (g 11).toInt ≤ Bd + 24; omega⟩, g5, g6, g7⟩, (a1.le (by omega)).on (fun j h1 h2 => by simp only [upd, show j ≠ 6 from by omega, show j ≠ 0 from by omega, show j ≠ 2 from by omega, show j ≠ 4 from by omega, if_false]), a2, a3, zkn_le p3, (hk.le (by omega)).on (fun j h1 h2 => by simp only [upd, show j ≠ 6 from by omega, show j ≠ 0 from by omega, show j ≠ 2 from by omega, show j ≠ 4 from by omega, if_false]; exact a5 j (by omega)), k1, k2, k3, t1, t2, t3, t4, z1, z2, z3⟩
      · simp only [if_neg c1, if_neg c2, if_pos c0, if_pos c3, if_neg c4]; exact ⟨trivial, na, hI.le (by omega)⟩
    · simp only [if_neg c1, if_neg c2, if_pos c0, if_neg c3]; exact ⟨trivial, na, hI.le (by omega)⟩
  · rw [show sl 7 = g 8 from e7]
    by_cases c3 : o_X7_isOver_r g sun dry len need = 0
    · by_cases c4 : (5 : Int32) ≤ g 8
      · simp only [if_neg c1, if_neg c2, if_neg c0, if_pos c3, if_pos c4]
        refine ⟨by show g 8 - 5 = o_X8_known_1 v sl na 7 - 5; rw [show o_X8_known_1 v sl na 7 = g 8 from f7], zkn na, hs.to rfl rfl rfl, ⟨f0, rfl, f2', rfl, f4, rfl, f6, by show o_X8_known_1 v sl na 7 - 5 = g 8 - 5; rw [show o_X8_known_1 v sl na 7 = g 8 from f7], f8, f9, f10, f11, f12⟩, ⟨g0, hkd, g2, m1, ⟨g4.1, by have := g4.2; show (g 11).toInt ≤ Bd + 24; omega⟩, g5, g6, g7⟩, (a1.le (by omega)).on (fun j h1 h2 => by simp only [upd, show j ≠ 7 from by omega, show j ≠ 1 from by omega, show j ≠ 3 from by omega, show j ≠ 5 from by omega, if_false]), a2, a3, zkn_le p3, (hk.le (by omega)).on (fun j h1 h2 => by simp only [upd, show j ≠ 7 from by omega, show j ≠ 1 from by omega, show j ≠ 3 from by omega, show j ≠ 5 from by omega, if_false]; exact a5 j (by omega)), k1, k2, k3, t1, t2, t3, t4, z1, z2, z3⟩
      · simp only [if_neg c1, if_neg c2, if_neg c0, if_pos c3, if_neg c4]; exact ⟨trivial, na, hI.le (by omega)⟩
    · simp only [if_neg c1, if_neg c2, if_neg c0, if_neg c3]; exact ⟨trivial, na, hI.le (by omega)⟩
theorem nI_z {n : Nat} (h : n < 2 ^ 31) : (nI n = 0) = (n = 0) := propext (nI_eq (b := 0) h (by decide))
theorem nI_p {n : Nat} (h : n ≠ 0) : nI n - 1 = nI (n - 1) := by
  obtain ⟨k, rfl⟩ : ∃ k, n = k + 1 := ⟨n - 1, by omega⟩
  exact nI_pred k
set_option maxHeartbeats 2000000 in
theorem q_undo {Bd : Int} {lt g sun dry pf kf fs ft fh v ms sl tx f1 f2 f3 : Nat → Int32} {sz len need psz ksz : Int32} {zk na nk nl : Nat}  (hI : Inv Bd lt sz g sun dry len need pf psz kf ksz fs ft fh zk v ms sl tx f1 f2 f3 na nk nl) (hB : Bd < 1000000) : o_X7_undo_r g pf 8 psz = o_X8_undo_r v sl na ∧ ∃ nb, Inv (Bd + 24) lt sz (o_X7_undo_g g pf 8 psz) sun dry len need pf (o_X7_undo_4_2 g pf 8 psz) kf ksz fs ft fh zk (o_X8_undo_v v sl na) ms (o_X8_undo_1 v sl na) tx f1 f2 f3 nb nk nl := by
  have hI' := hI
  obtain ⟨hs, he, hg, hp, p1, p2, p3, hk, k1, k2, k3, t1, t2, t3, t4, z1, z2, z3⟩ := hI'
  subst p1
  unfold o_X7_undo_r o_X8_undo_r o_X7_undo_g o_X7_undo_4_2 o_X8_undo_v o_X8_undo_1 o_X4_pop_0_2 o_X4_pop_g
  rw [p2]
  by_cases c : nI na = 0
  · simp only [if_pos c]; exact ⟨trivial, na, hI.le (by omega)⟩
  have c' : na ≠ 0 := fun e => c (by rw [e]; rfl)
  have c2 : ¬ nI na ≤ 0 := nI_nle (by omega) (by omega)
  simp only [if_neg c, if_neg c2]
  obtain ⟨r1, r2⟩ := hp (na - 1) (by omega)
  have q : ∀ k, k < 12 → o_X0_restore_g 96 g pf ((nI na - 1) * 12) k = (fun k => pf (12 * (na - 1) + k)) k := fun k hk => by rw [nI_p c', nI_12]; exact rest_in g pf (by omega) (by decide) hk
  refine ⟨trivial, na - 1, hs.to rfl rfl rfl, ?_, (r2.g q).le (by omega), ((hp.pre (by omega)).le (by omega)).on (fun j h1 h2 => ?_), nI_p c', nI_p c', by omega, (hk.le (by omega)).on (fun j h1 h2 => ?_), k1, k2, k3, t1, t2, t3, t4, z1, z2, z3⟩
  · have e := r1.cp (b := 0)
    rw [show 13 * (1 + (na - 1)) = 13 * na by omega] at e
    exact e.g q
  · unfold cp13; rw [if_neg (by omega)]
  · unfold cp13; rw [if_neg (by omega)]
set_option maxHeartbeats 2000000 in
theorem q_keep {Bd : Int} {lt g sun dry pf kf fs ft fh v ms sl tx f1 f2 f3 : Nat → Int32} {sz len need psz ksz : Int32} {zk na nk nl : Nat}  (hI : Inv Bd lt sz g sun dry len need pf psz kf ksz fs ft fh zk v ms sl tx f1 f2 f3 na nk nl) (hB : Bd < 1000000) : o_X7_keep_r g kf 2 ksz = o_X8_keep_r v sl nk ∧ ∃ nb, Inv (Bd + 24) lt sz g sun dry len need pf psz (o_X7_keep_5 g kf 2 ksz) (o_X7_keep_4_2 g kf 2 ksz) fs ft fh zk (o_X8_keep_v v sl nk) ms (o_X8_keep_1 v sl nk) tx f1 f2 f3 na nb nl := by
  have hI' := hI
  obtain ⟨hs, he, hg, hp, p1, p2, p3, hk, k1, k2, k3, t1, t2, t3, t4, z1, z2, z3⟩ := hI'
  subst k1
  unfold o_X7_keep_r o_X8_keep_r o_X7_keep_5 o_X7_keep_4_2 o_X8_keep_v o_X8_keep_1 o_X4_push_0_2 o_X4_push_1 j_X4_push_0_0 j_X4_push_0_1
  rw [k2]
  by_cases c : nk = 2
  · subst c
    simp only [if_neg (show ¬ nI 2 < 2 by decide), if_pos (show nI 2 = 2 from rfl)]
    exact ⟨trivial, 2, hI.le (by omega)⟩
  have c1 : nI nk < 2 := (nI_ltI (a := nk) (b := 2) (by omega) (by decide)).mpr (by omega)
  have c2 : ¬ nI nk = 2 := fun e => c ((nI_eq (a := nk) (b := 2) (by omega) (by decide)).mp e)
  simp only [if_pos c1, if_neg c2]
  refine ⟨trivial, nk + 1, hs.to rfl rfl rfl, he.of (fun i hi => ?_), hg.le (by omega), (hp.le (by omega)).on (fun j h1 h2 => ?_), p1, p2, p3, ?_, nI_1 nk, nI_1 nk, by omega, t1, t2, t3, t4, z1, z2, z3⟩
  · unfold cp13; rw [if_neg (by omega)]
  · unfold cp13; rw [if_neg (by omega)]
  · rw [nI_12]
    exact (hk.push (N := 24) (by decide) (by omega) (by decide) he hg).le (by omega)
set_option maxHeartbeats 2000000 in
theorem q_back {Bd : Int} {lt g sun dry pf kf fs ft fh v ms sl tx f1 f2 f3 : Nat → Int32} {sz len need psz ksz : Int32} {zk na nk nl : Nat}  (hI : Inv Bd lt sz g sun dry len need pf psz kf ksz fs ft fh zk v ms sl tx f1 f2 f3 na nk nl) (hB : Bd < 1000000) : o_X7_back_r g pf 8 psz kf 2 ksz = o_X8_back_r v sl nk ∧ ∃ na2 nb, Inv (Bd + 24) lt sz (o_X7_back_g g pf 8 psz kf 2 ksz) sun dry len need pf (o_X7_back_4_2 g pf 8 psz kf 2 ksz) kf (o_X7_back_6_2 g pf 8 psz kf 2 ksz) fs ft fh zk (o_X8_back_v v sl nk) ms (o_X8_back_1 v sl nk) tx f1 f2 f3 na2 nb nl := by
  have hI' := hI
  obtain ⟨hs, he, hg, hp, p1, p2, p3, hk, k1, k2, k3, t1, t2, t3, t4, z1, z2, z3⟩ := hI'
  subst k1
  unfold o_X7_back_r o_X8_back_r o_X7_back_g o_X7_back_4_2 o_X7_back_6_2 o_X8_back_v o_X8_back_1 o_X4_pop_0_2 o_X4_pop_g
  rw [k2]
  by_cases c : nI nk = 0
  · simp only [if_pos c]; exact ⟨trivial, na, nk, hI.le (by omega)⟩
  have c' : nk ≠ 0 := fun e => c (by rw [e]; rfl)
  have c2 : ¬ nI nk ≤ 0 := nI_nle (by omega) (by omega)
  simp only [if_neg c, if_neg c2]
  obtain ⟨r1, r2⟩ := hk (nk - 1) (by omega)
  have q : ∀ k, k < 12 → o_X0_restore_g 24 g kf ((nI nk - 1) * 12) k = (fun k => kf (12 * (nk - 1) + k)) k := fun k hk => by rw [nI_p c', nI_12]; exact rest_in g kf (by omega) (by decide) hk
  refine ⟨trivial, 0, nk - 1, hs.to rfl rfl rfl, ?_, (r2.g q).le (by omega), fun i hi => absurd hi (by omega), rfl, rfl, by omega, ((hk.pre (by omega)).le (by omega)).on (fun j h1 h2 => ?_), nI_p c', nI_p c', by omega, t1, t2, t3, t4, z1, z2, z3⟩
  · exact (r1.cp (b := 0)).g q
  · unfold cp13; rw [if_neg (by omega)]
