def ini (q : Nat) : Int32 := if q % 2 = 0 then (-9999) else 9999
def btr (q : Nat) (x y : Int32) : Int32 := if q % 2 = 0 then (if y < x then x else y) else (if x < y then x else y)
def fo (q : Nat) (x : Int32) (bs : gT) : gT := upd bs q (btr q x (bs q))
def upf (d : Nat → Nat) : Nat → Int32 → gT × Int32 → gT × Int32
  | 0, x, s => (fo 0 x s.1, if s.1 0 < x then nI (d 0) else s.2)
  | q + 1, x, s => if d (q + 1) = 4 then upf d q (fo (q + 1) x s.1 (q + 1)) (upd (fo (q + 1) x s.1) (q + 1) (ini (q + 1)), s.2) else (fo (q + 1) x s.1, s.2)
def mx5 (q : Nat) (f : Nat → Int32) : Nat → Int32
  | 0 => ini q
  | k + 1 => btr q (f k) (mx5 q f k)
def am5 (f : Nat → Int32) : Nat → Int32
  | 0 => 0
  | k + 1 => if mx5 0 f k < f k then nI k else am5 f k
def itr (F : Nat → gT × Int32 → gT × Int32) : Nat → Nat → gT × Int32 → gT × Int32
  | 0, _, s => s
  | j + 1, k, s => itr F j (k + 1) (F k s)
theorem itr_app (F : Nat → gT × Int32 → gT × Int32) : ∀ (a b k : Nat) (s : gT × Int32), itr F (a + b) k s = itr F b (k + a) (itr F a k s) := by
  intro a
  induction a with
  | zero => intro b k s; rw [Nat.zero_add]; rfl
  | succ a ih =>
    intro b k s
    rw [show a + 1 + b = (a + b) + 1 by omega, itr, itr, ih b (k + 1), show k + 1 + a = k + (a + 1) by omega]
theorem itr_mul (F : Nat → gT × Int32 → gT × Int32) (n : Nat) : ∀ (j e : Nat) (s : gT × Int32), itr F (j * n) (e * n) s = itr (fun e s => itr F n (e * n) s) j e s := by
  intro j
  induction j with
  | zero => intro e s; rw [Nat.zero_mul]; rfl
  | succ j ih =>
    intro e s
    rw [Nat.succ_mul, Nat.add_comm (j * n) n, itr_app, itr, show e * n + n = (e + 1) * n by rw [Nat.succ_mul], ih (e + 1)]
theorem upf_cong {d d' : Nat → Nat} : ∀ (q : Nat) (x : Int32) (s : gT × Int32), (∀ i, i ≤ q → d i = d' i) → upf d q x s = upf d' q x s := by
  intro q
  induction q with
  | zero => intro x s h; rw [upf, upf, h 0 (by omega)]
  | succ q ih =>
    intro x s h
    rw [upf, upf, h (q + 1) (by omega)]
    by_cases c : d' (q + 1) = 4
    · rw [if_pos c, if_pos c]; exact ih _ _ (fun i hi => h i (by omega))
    · rw [if_neg c, if_neg c]
theorem upf_hi (d : Nat → Nat) : ∀ (q : Nat) (x : Int32) (s : gT × Int32) (j : Nat), q < j → (upf d q x s).1 j = s.1 j := by
  intro q
  induction q with
  | zero => intro x s j hj; exact if_neg (by omega)
  | succ q ih =>
    intro x s j hj
    rw [upf]
    split
    · rw [ih _ _ j (by omega)]
      show upd (fo (q + 1) x s.1) (q + 1) (ini (q + 1)) j = s.1 j
      rw [show upd (fo (q + 1) x s.1) (q + 1) (ini (q + 1)) j = fo (q + 1) x s.1 j from if_neg (by omega)]
      exact if_neg (by omega)
    · exact if_neg (by omega)
/-- the value of a node of a tree of p plies, r of them left, by the values of its leaves -/
def vpl (p : Nat) (V : Nat → Int32) : Nat → Nat → Int32
  | 0, pre => V pre
  | r + 1, pre => mx5 (p - (r + 1)) (fun e => vpl p V r (pre * 5 + e)) 5
theorem dg_last {q pre e : Nat} (he : e < 5) : dg (q + 1) (pre * 5 + e) q = e := by
  unfold dg
  rw [Nat.sub_self, Nat.pow_zero, Nat.div_one]
  omega
theorem dg_pre {q pre e i : Nat} (he : e < 5) (hi : i < q) : dg (q + 1) (pre * 5 + e) i = dg q pre i := by
  unfold dg
  rw [show q + 1 - (i + 1) = (q - (i + 1)) + 1 by omega, Nat.pow_succ, Nat.mul_comm (5 ^ (q - (i + 1))) 5, ← Nat.div_div_eq_div_mul, show (pre * 5 + e) / 5 = pre by omega]
theorem fo_at (q : Nat) (x : Int32) (bs : gT) : fo q x bs q = btr q x (bs q) := if_pos rfl
theorem fo_no (q : Nat) (x : Int32) (bs : gT) {j : Nat} (h : j ≠ q) : fo q x bs j = bs j := if_neg h
def stpF (p : Nat) (V : Nat → Int32) (k : Nat) (s : gT × Int32) : gT × Int32 := upf (dg p k) (p - 1) (V k) s
set_option maxHeartbeats 2000000 in
theorem blk (p : Nat) (V : Nat → Int32) : ∀ (r pre : Nat) (s : gT × Int32), r < p → (∀ j, p - r ≤ j → j < p → s.1 j = ini j) → itr (stpF p V) (5 ^ r) (pre * 5 ^ r) s = upf (dg (p - r) pre) (p - r - 1) (vpl p V r pre) s := by
  intro r
  induction r with
  | zero =>
    intro pre s hr _
    rw [Nat.pow_zero, Nat.mul_one]
    rfl
  | succ r ih =>
    intro pre s hr hs
    obtain ⟨q, hq⟩ : ∃ q, p - (r + 1) = q + 1 := ⟨p - (r + 1) - 1, by omega⟩
    have hpr : p - r = q + 1 + 1 := by omega
    have ih' : ∀ (e : Nat) (s : gT × Int32), (∀ j, q + 1 + 1 ≤ j → j < p → s.1 j = ini j) → itr (stpF p V) (5 ^ r) (e * 5 ^ r) s = upf (dg (q + 1 + 1) e) (q + 1) (vpl p V r e) s := fun e s h => by
      have := ih e s (by omega) (by rw [hpr]; exact h)
      rw [hpr] at this
      exact this
    have step : ∀ (e : Nat) (s : gT × Int32), e < 4 → (∀ j, q + 1 + 1 ≤ j → j < p → s.1 j = ini j) → itr (stpF p V) (5 ^ r) ((pre * 5 + e) * 5 ^ r) s = (fo (q + 1) (vpl p V r (pre * 5 + e)) s.1, s.2) := fun e s he h => by
      rw [ih' _ s h, upf, dg_last (by omega), if_neg (by omega)]
    have hfo : ∀ (x : Int32) (s : gT), (∀ j, q + 1 + 1 ≤ j → j < p → s j = ini j) → ∀ j, q + 1 + 1 ≤ j → j < p → fo (q + 1) x s j = ini j := fun x s h j h1 h2 => (fo_no _ _ _ (by omega)).trans (h j h1 h2)
    have h0 : ∀ j, q + 1 + 1 ≤ j → j < p → s.1 j = ini j := fun j h1 h2 => hs j (by omega) h2
    have hsq : s.1 (q + 1) = ini (q + 1) := hs (q + 1) (by omega) (by omega)
    rw [show 5 ^ (r + 1) = 5 * 5 ^ r by rw [Nat.pow_succ, Nat.mul_comm], ← Nat.mul_assoc, itr_mul]
    rw [hq, Nat.add_sub_cancel]
    have e1 := step 0 s (by decide) h0
    rw [Nat.add_zero] at e1
    rw [itr, e1, itr, step 1 _ (by decide) (hfo _ _ h0), itr, show pre * 5 + 1 + 1 = pre * 5 + 2 from rfl, step 2 _ (by decide) (hfo _ _ (hfo _ _ h0)), itr, show pre * 5 + 2 + 1 = pre * 5 + 3 from rfl, step 3 _ (by decide) (hfo _ _ (hfo _ _ (hfo _ _ h0))), itr, show pre * 5 + 3 + 1 = pre * 5 + 4 from rfl, ih' _ _ (hfo _ _ (hfo _ _ (hfo _ _ (hfo _ _ h0)))), itr, upf, dg_last (by decide), if_pos rfl]
    dsimp only
    rw [vpl, hq]
    rw [upf_cong (d := dg (q + 1 + 1) (pre * 5 + 4)) (d' := dg (q + 1) pre) q _ _ (fun i hi => dg_pre (by decide) (by omega))]
    have hv : fo (q + 1) (vpl p V r (pre * 5 + 4)) (fo (q + 1) (vpl p V r (pre * 5 + 3)) (fo (q + 1) (vpl p V r (pre * 5 + 2)) (fo (q + 1) (vpl p V r (pre * 5 + 1)) (fo (q + 1) (vpl p V r (pre * 5)) s.1)))) (q + 1) = mx5 (q + 1) (fun e => vpl p V r (pre * 5 + e)) 5 := by
      rw [fo_at, fo_at, fo_at, fo_at, fo_at, hsq]
      rfl
    have hb : upd (fo (q + 1) (vpl p V r (pre * 5 + 4)) (fo (q + 1) (vpl p V r (pre * 5 + 3)) (fo (q + 1) (vpl p V r (pre * 5 + 2)) (fo (q + 1) (vpl p V r (pre * 5 + 1)) (fo (q + 1) (vpl p V r (pre * 5)) s.1))))) (q + 1) (ini (q + 1)) = s.1 := by
      funext j
      by_cases c : j = q + 1
      · subst c
        exact (if_pos rfl).trans hsq.symm
      · refine (if_neg c).trans ?_
        rw [fo_no _ _ _ c, fo_no _ _ _ c, fo_no _ _ _ c, fo_no _ _ _ c, fo_no _ _ _ c]
    rw [hv, hb]
set_option maxHeartbeats 2000000 in
theorem root (p : Nat) (V : Nat → Int32) (hp : 1 ≤ p) (s : gT × Int32) (hs : ∀ j, j < p → s.1 j = ini j) (h2 : s.2 = 0) : (itr (stpF p V) (5 ^ p) 0 s).1 0 = mx5 0 (fun e => vpl p V (p - 1) e) 5 ∧ (itr (stpF p V) (5 ^ p) 0 s).2 = am5 (fun e => vpl p V (p - 1) e) 5 := by
  obtain ⟨r, rfl⟩ : ∃ r, p = r + 1 := ⟨p - 1, by omega⟩
  rw [Nat.add_sub_cancel]
  have step : ∀ (e : Nat) (s : gT × Int32), e < 5 → (∀ j, 1 ≤ j → j < r + 1 → s.1 j = ini j) → itr (stpF (r + 1) V) (5 ^ r) (e * 5 ^ r) s = (fo 0 (vpl (r + 1) V r e) s.1, if s.1 0 < vpl (r + 1) V r e then nI e else s.2) := fun e s he h => by
    have := blk (r + 1) V r e s (by omega) (fun j h1 h3 => h j (by omega) h3)
    rw [show r + 1 - r - 1 = 0 by omega, show r + 1 - r = 0 + 1 by omega] at this
    rw [this, upf]
    have hd : dg (0 + 1) e 0 = e := by
      have := dg_last (q := 0) (pre := 0) he
      rw [show 0 * 5 + e = e by omega] at this
      exact this
    rw [hd]
  have hfo : ∀ (x : Int32) (s : gT), (∀ j, 1 ≤ j → j < r + 1 → s j = ini j) → ∀ j, 1 ≤ j → j < r + 1 → fo 0 x s j = ini j := fun x s h j h1 h2 => (fo_no _ _ _ (by omega)).trans (h j h1 h2)
  have h0 : ∀ j, 1 ≤ j → j < r + 1 → s.1 j = ini j := fun j h1 h3 => hs j h3
  have hm := itr_mul (stpF (r + 1) V) (5 ^ r) 5 0 s
  rw [Nat.zero_mul] at hm
  rw [show 5 ^ (r + 1) = 5 * 5 ^ r by rw [Nat.pow_succ, Nat.mul_comm], hm]
  rw [itr, step 0 s (by decide) h0, itr, step 1 _ (by decide) (hfo _ _ h0), itr, step 2 _ (by decide) (hfo _ _ (hfo _ _ h0)), itr, step 3 _ (by decide) (hfo _ _ (hfo _ _ (hfo _ _ h0))), itr, step 4 _ (by decide) (hfo _ _ (hfo _ _ (hfo _ _ (hfo _ _ h0)))), itr]
  dsimp only
  have h00 : s.1 0 = ini 0 := hs 0 (by omega)
  simp only [fo_at, h00, h2]
  exact ⟨rfl, rfl⟩
/-- how far the first is ahead -/
def ld (need : Int32) (c : gT) : Int32 := if lz c need = 0 then (c 1 - c 6) - 100 else if lz c need = 1 then (c 1 - c 6) + 100 else c 1 - c 6
def rnP (N : gT → Int32 → Int32 → gT) : Nat → Nat → gT → gT
  | 0, _, c => c
  | n + 1, k, c => rnP N n (k % 5 ^ (2 * n)) (N c (nI (k / 5 ^ (2 * n) / 5)) (nI (k / 5 ^ (2 * n) % 5)))
def rm (N : gT → Int32 → Int32 → gT) (L : gT → Int32) : Nat → gT → Int32
  | 0, c => L c
  | n + 1, c => mx5 0 (fun a => mx5 1 (fun b => rm N L n (N c (nI a) (nI b))) 5) 5
theorem btr_par {q q' : Nat} (h : q % 2 = q' % 2) (x y : Int32) : btr q x y = btr q' x y := by unfold btr; rw [h]
theorem mx5_par {q q' : Nat} (h : q % 2 = q' % 2) (f : Nat → Int32) : ∀ k, mx5 q f k = mx5 q' f k := by
  intro k
  induction k with
  | zero => show ini q = ini q'; unfold ini; rw [h]
  | succ k ih => rw [mx5, mx5, ih, btr_par h]
theorem mx5_cong {q : Nat} {f f' : Nat → Int32} : ∀ k, (∀ i, i < k → f i = f' i) → mx5 q f k = mx5 q f' k := by
  intro k
  induction k with
  | zero => intro _; rfl
  | succ k ih => intro h; rw [mx5, mx5, ih (fun i hi => h i (by omega)), h k (by omega)]
theorem am5_cong {f f' : Nat → Int32} : ∀ k, (∀ i, i < k → f i = f' i) → am5 f k = am5 f' k := by
  intro k
  induction k with
  | zero => intro _; rfl
  | succ k ih => intro h; rw [am5, am5, ih (fun i hi => h i (by omega)), h k (by omega), mx5_cong k (fun i hi => h i (by omega))]
theorem rnP_step (N : gT → Int32 → Int32 → gT) (n a b rest : Nat) (c : gT) (hb : b < 5) (hr : rest < 5 ^ (2 * n)) : rnP N (n + 1) ((a * 5 + b) * 5 ^ (2 * n) + rest) c = rnP N n rest (N c (nI a) (nI b)) := by
  have hp : 0 < 5 ^ (2 * n) := Nat.pow_pos (by decide)
  have e1 : ((a * 5 + b) * 5 ^ (2 * n) + rest) / 5 ^ (2 * n) = a * 5 + b := by rw [Nat.mul_comm, Nat.mul_add_div hp, Nat.div_eq_of_lt hr, Nat.add_zero]
  have e2 : ((a * 5 + b) * 5 ^ (2 * n) + rest) % 5 ^ (2 * n) = rest := by rw [Nat.mul_comm, Nat.mul_add_mod, Nat.mod_eq_of_lt hr]
  rw [rnP, e1, e2, show (a * 5 + b) / 5 = a by omega, show (a * 5 + b) % 5 = b by omega]
theorem vp_rm (N : gT → Int32 → Int32 → gT) (L : gT → Int32) (p : Nat) (V : Nat → Int32) : ∀ (n pre : Nat) (c : gT), 2 * n ≤ p → p % 2 = 0 → (∀ rest, rest < 5 ^ (2 * n) → V (pre * 5 ^ (2 * n) + rest) = L (rnP N n rest c)) → vpl p V (2 * n) pre = rm N L n c := by
  intro n
  induction n with
  | zero =>
    intro pre c _ _ h
    have := h 0 (by decide)
    rw [Nat.mul_zero, Nat.pow_zero, Nat.mul_one, Nat.add_zero] at this
    exact this
  | succ n ih =>
    intro pre c hn hp h
    rw [show 2 * (n + 1) = 2 * n + 1 + 1 by omega, vpl, rm, mx5_par (q' := 0) (by omega)]
    refine mx5_cong 5 (fun a ha => ?_)
    rw [vpl, mx5_par (q' := 1) (by omega)]
    refine mx5_cong 5 (fun b hb => ?_)
    refine ih ((pre * 5 + a) * 5 + b) (N c (nI a) (nI b)) (by omega) hp (fun rest hr => ?_)
    have hlt : (a * 5 + b) * 5 ^ (2 * n) + rest < 5 ^ (2 * (n + 1)) := by
      rw [show 2 * (n + 1) = 2 * n + 2 by omega, Nat.pow_add, Nat.mul_comm (5 ^ (2 * n))]
      have : (a * 5 + b) * 5 ^ (2 * n) ≤ 24 * 5 ^ (2 * n) := Nat.mul_le_mul_right _ (by omega)
      have e5 : 5 ^ 2 * 5 ^ (2 * n) = 24 * 5 ^ (2 * n) + 5 ^ (2 * n) := by rw [show 5 ^ 2 = 24 + 1 by decide, Nat.add_mul, Nat.one_mul]
      omega
    have hh := h ((a * 5 + b) * 5 ^ (2 * n) + rest) hlt
    rw [rnP_step N n a b rest c hb hr] at hh
    rw [← hh]
    congr 1
    rw [show 2 * (n + 1) = 2 * n + 2 by omega, Nat.pow_add, ← Nat.add_assoc]
    congr 1
    rw [show (pre * 5 + a) * 5 + b = pre * 25 + (a * 5 + b) by omega, Nat.add_mul]
    congr 1
    rw [Nat.mul_comm (5 ^ (2 * n)), ← Nat.mul_assoc]

