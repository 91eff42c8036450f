/-- the reference's numbers at its start -/
def rv0 : Nat → Int32 := fun k => match k with | 0 => 10 | 1 => 2 | 2 => 192 | _ => 0
theorem es_of {v ms sun dry : Nat → Int32} {len need : Int32} (h1 : v 0 = len) (h2 : v 1 = need) (h3 : ∀ k : Fin 12, sun k.val = ms k.val) (h4 : mB 6 need) (h5 : 0 < need) (h6 : ∀ k : Fin 12, (if dry k.val = 1 then (1 : Int32) else 0) = (if ((v 2 >>> (nI k.val &&& 31)) &&& 1) = 1 then 1 else 0)) : es v ms sun dry len need :=
  ⟨h1, h2, fun j hj => h3 ⟨j, hj⟩, h4, h5, fun j hj => h6 ⟨j, hj⟩⟩
theorem lp_1 : rv0 0 = ((LPF (zLt 67) (fun _ => 0) (nI 67) 0 (fun _ => 0) (fun _ => 0) 0 0 (fun _ => 0)).2.2.1) := by decide +kernel
theorem lp_2 : rv0 1 = ((LPF (zLt 67) (fun _ => 0) (nI 67) 0 (fun _ => 0) (fun _ => 0) 0 0 (fun _ => 0)).2.2.2.1) := by decide +kernel
theorem lp_3 : ∀ k : Fin 12, ((LPF (zLt 67) (fun _ => 0) (nI 67) 0 (fun _ => 0) (fun _ => 0) 0 0 (fun _ => 0)).2.2.2.2.1) k.val = (upd (upd (upd (upd (upd (upd (upd (upd (upd (upd (upd (upd (fun _ => 0) 0 2) 1 3) 2 5) 3 5) 4 5) 5 8) 6 9) 7 8) 8 5) 9 5) 10 5) 11 2) k.val := by decide +kernel
theorem lp_4 : mB 6 ((LPF (zLt 67) (fun _ => 0) (nI 67) 0 (fun _ => 0) (fun _ => 0) 0 0 (fun _ => 0)).2.2.2.1) := by unfold mB; decide +kernel
theorem lp_5 : 0 < ((LPF (zLt 67) (fun _ => 0) (nI 67) 0 (fun _ => 0) (fun _ => 0) 0 0 (fun _ => 0)).2.2.2.1) := by decide +kernel
theorem lp_6 : ∀ k : Fin 12, (if ((LPF (zLt 67) (fun _ => 0) (nI 67) 0 (fun _ => 0) (fun _ => 0) 0 0 (fun _ => 0)).2.2.2.2.2.1) k.val = 1 then (1 : Int32) else 0) = (if ((rv0 2 >>> (nI k.val &&& 31)) &&& 1) = 1 then 1 else 0) := by decide +kernel
theorem lp_es : es rv0 (upd (upd (upd (upd (upd (upd (upd (upd (upd (upd (upd (upd (fun _ => 0) 0 2) 1 3) 2 5) 3 5) 4 5) 5 8) 6 9) 7 8) 8 5) 9 5) 10 5) 11 2) ((LPF (zLt 67) (fun _ => 0) (nI 67) 0 (fun _ => 0) (fun _ => 0) 0 0 (fun _ => 0)).2.2.2.2.1) ((LPF (zLt 67) (fun _ => 0) (nI 67) 0 (fun _ => 0) (fun _ => 0) 0 0 (fun _ => 0)).2.2.2.2.2.1) ((LPF (zLt 67) (fun _ => 0) (nI 67) 0 (fun _ => 0) (fun _ => 0) 0 0 (fun _ => 0)).2.2.1) ((LPF (zLt 67) (fun _ => 0) (nI 67) 0 (fun _ => 0) (fun _ => 0) 0 0 (fun _ => 0)).2.2.2.1) := es_of lp_1 lp_2 lp_3 lp_4 lp_5 lp_6
set_option maxRecDepth 100000 in
set_option maxHeartbeats 4000000 in
theorem lp_en : en 0 (upd (upd (upd (upd (upd (upd (upd (fun _ => 0) 1 4) 2 3) 3 5) 6 25) 7 30) 10 9) 12 (-4)) ((LPF (zLt 67) (fun _ => 0) (nI 67) 0 (fun _ => 0) (fun _ => 0) 0 0 (fun _ => 0)).2.2.2.2.2.2) ((LPF (zLt 67) (fun _ => 0) (nI 67) 0 (fun _ => 0) (fun _ => 0) 0 0 (fun _ => 0)).2.2.2.1) := by
  unfold en lz
  decide +kernel
set_option maxRecDepth 100000 in
set_option maxHeartbeats 4000000 in
theorem lp_gd : gd 0 ((LPF (zLt 67) (fun _ => 0) (nI 67) 0 (fun _ => 0) (fun _ => 0) 0 0 (fun _ => 0)).2.2.2.2.2.2) ((LPF (zLt 67) (fun _ => 0) (nI 67) 0 (fun _ => 0) (fun _ => 0) 0 0 (fun _ => 0)).2.2.2.1) := by
  unfold gd mB
  decide +kernel
theorem inv0 : Inv 0 (zLt 67) 0 ((LPF (zLt 67) (fun _ => 0) (nI 67) 0 (fun _ => 0) (fun _ => 0) 0 0 (fun _ => 0)).2.2.2.2.2.2) ((LPF (zLt 67) (fun _ => 0) (nI 67) 0 (fun _ => 0) (fun _ => 0) 0 0 (fun _ => 0)).2.2.2.2.1) ((LPF (zLt 67) (fun _ => 0) (nI 67) 0 (fun _ => 0) (fun _ => 0) 0 0 (fun _ => 0)).2.2.2.2.2.1) ((LPF (zLt 67) (fun _ => 0) (nI 67) 0 (fun _ => 0) (fun _ => 0) 0 0 (fun _ => 0)).2.2.1) ((LPF (zLt 67) (fun _ => 0) (nI 67) 0 (fun _ => 0) (fun _ => 0) 0 0 (fun _ => 0)).2.2.2.1) (fun _ => 0) 0 (fun _ => 0) 0 (fun _ => 0) (fun _ => 0) (fun _ => 0) 0 rv0 (upd (upd (upd (upd (upd (upd (upd (upd (upd (upd (upd (upd (fun _ => 0) 0 2) 1 3) 2 5) 3 5) 4 5) 5 8) 6 9) 7 8) 8 5) 9 5) 10 5) 11 2) (upd (upd (upd (upd (upd (upd (upd (fun _ => 0) 1 4) 2 3) 3 5) 6 25) 7 30) 10 9) 12 (-4)) (fun _ => 0) (fun _ => 0) (fun _ => 0) (fun _ => 0) 0 0 0 :=
  ⟨lp_es, lp_en, lp_gd, fun i hi => absurd hi (Nat.not_lt_zero i), rfl, rfl, Nat.zero_le _, fun i hi => absurd hi (Nat.not_lt_zero i), rfl, rfl, Nat.zero_le _, rfl, rfl, Nat.zero_le _, fun j hj => absurd hj (Nat.not_lt_zero j), rfl, Nat.zero_le _, fun j hj => absurd hj (Nat.not_lt_zero j)⟩
