/-- behind a maker: its cells, some at new places -/
def zO2 (E : zE) (A : Nat → Prop) (w1 : (Nat → Nat) → va_W) : Array Value → State → Outcome → State → Prop := fun _ st oc t => oc = .returned none ∧ (∃ q : Nat → Nat, va_P E.1 vwCl (w1 q) t.heap ∧ va_D A (w1 q)) ∧ va_F A st t
abbrev zR2 (fr lo mc ms : Nat) : Room := { frames := fr, cells := mc, slots := ms, locals := lo }
def zQ2 (E : zE) (A : Nat → Prop) (below : List Frame) (args : Array Value) (s : State) (mc ms : Nat) (w1 : (Nat → Nat) → va_W) : State → Prop := MQ below (zO2 E A w1) args s mc ms A
/-- a constructor y: it makes mc cells of ms slots, and leaves w1 q -/
def HN (l : Launch) (E : zE) (y : MethodName) (cc : ByteArray) (nL : Nat) (fr lo mc ms : Nat) (as : List Value) (wc : va_W) (w1 : (Nat → Nat) → va_W) : Prop :=
  ∀ sz : Nat, Met l y (Cond.code y cc nL none :: wsL_law) (zR2 fr lo mc ms) (zI E as wc sz) (zO2 E (va_A wc sz) w1) mc ms (va_A wc sz)
theorem HN.of {l : Launch} {E : zE} {y : MethodName} {cc : ByteArray} {nL : Nat} {fr lo mc ms : Nat} {as : List Value} {wc : va_W} {w1 : (Nat → Nat) → va_W} {own : String} (hy : plainFor y = true) (hc : y.cls = own) (hy2 : y.name = "<init>") (hlen : (lg_sl as).length ≤ nL)
    (body : ∀ (p : Program) (e : Env) (s : State) (m : MethodId) (args : Array Value) (below : List Frame) (meth : Method) (c : Code) (A : Nat → Prop) (ls : Array Slot) (H : Heap) (locs : List Loc) (Q : State → Prop), zC E p s m args c cc nL own A → meth.sig.returnType = none → meth.locks = false → meth.name = "<init>" → zG E A s.heap wc H locs → lv_has ls nL (lv_args 0 as) → Q = zQ2 E A below args s mc ms w1 →
      W p l e (zR2 fr lo mc ms) s m args below meth c H locs 0 0 Q (F0 m 0 ls [])) : HN l E y cc nL fr lo mc ms as wc w1 := by
  intro sz
  refine z_ofW (cc := cc) (maxL := nL) (ret := none) hy rfl ?_
  intro p e s m args below meth c s₁ B hml hv
  obtain ⟨rfl, hsz, hP, hK, hD0, hT⟩ := hv
  subst hsz
  have hts : ∀ w ∈ wsL_law, w.before as.toArray s = true := fun w hw => atoms_spec (ws := Cond.code y cc nL none :: wsL_law) B.pre w (List.mem_cons_of_mem _ hw)
  have hown : s.vm.findClass own = some m.cls := hc ▸ findClass_of_methodNamed B.named
  have hin : meth.name = "<init>" := (name_of_methodNamed B.named B.method).1.trans hy2
  have hl := lv_entry as (n := nL) hlen
  rw [lg_entry_eq]
  exact body p e s m as.toArray below meth c (va_A wc s.heap.size) _ _ _ _ ⟨⟨B.exec, B.bytes, hml, hown, hts⟩, hK, hT, fun q h => Or.inr h⟩ B.returns B.notSynchronized hin ⟨hP, hD0.self, va_S.rf⟩ hl rfl
section Z9
variable {E : zE} {p : Program} {l : Launch} {e : Env} {R : Room} {s : State} {m : MethodId} {args : Array Value} {below : List Frame} {meth : Method} {c : Code} {H : Heap} {locs : List Loc} {cells slots : Nat} {Q : State → Prop}
variable {cc : ByteArray} {nL : Nat} {own : String} {A : Nat → Prop} {pc : Nat} {ls : Array Slot} {rest st0 : List Value} {ws wc : va_W} {w1 : (Nat → Nat) → va_W} {a : Nat} {H0 : Heap}
theorem z_vret2 (C : zC E p s m args c cc nL own A) (hr : meth.sig.returnType = none) (hlk : meth.locks = false) (hG : zG E A s.heap ws H locs) (hdg : decode cc pc = .ok (.return_, 1)) (q : Nat → Nat) (hw : ws = w1 q) :
    W p l e R s m args below meth c H locs cells slots (zQ2 E A below args s cells slots w1) (F0 m pc ls []) :=
  W.vret C.1.1 C.1.2.1 hr (fun t ht _ => ⟨rfl, ⟨q, by rw [ht, ← hw]; exact hG.1, by rw [← hw]; exact hG.2.1⟩, hG.2.2.F ht⟩) hG.2.2.2.2 hdg hlk
theorem z_obj (C : zC E p s m args c cc nL own A) {lv : List (Nat × Value)} (hl : lv_has ls nL lv) {index : Nat} (hlink : Cond.methodLink own index objectInit ∈ wsL_law) (hdg : decode cc pc = .ok (.invokespecial index, 3)) (hf : 1 ≤ R.frames) (ho : 20 ≤ R.locals) (hW : (rest.map fun v => v.category).sum ≤ 8)
    (kk : W p l e R s m args below meth c H locs cells slots Q (F0 m (pc + 3) ls rest)) : W p l e R s m args below meth c H locs cells slots Q (F0 m pc ls (.ref a :: rest)) :=
  W.objInit C.1.1 C.1.2.1 C.1.2.2.2.1 (C.1.2.2.2.2 _ hlink) (C.1.2.2.2.2 _ (inr1 _ (List.mem_of_getElem? (i := 10) rfl))) (C.1.2.2.2.2 _ (inr1 _ (List.mem_of_getElem? (i := 11) rfl))) rfl (by rw [C.1.2.2.1]; exact hl.1) rfl hdg hf (by show 2 * 0 + _ + 12 ≤ _; omega) kk
theorem z_newI (C : zC E p s m args c cc nL own A) (hG : zG E A s.heap ws H locs) {n : Int32} {N : Nat} (hn : ¬ n < 0) (hN : n.toNatClampNeg = N) (hb : N * 4 ≤ 536870912) (hcells : cells + 1 ≤ R.cells) (hslots : slots + N ≤ R.slots) (hdg : decode cc pc = .ok (.newarray .int, 2))
    (kk : ∀ (q : Nat) (H1 : Heap), zG E A s.heap (ws ++ [(q, .inl (E.2.1.1, N, .inl (fun _ => 0)))]) H1 locs → W p l e R s m args below meth c H1 locs (cells + 1) (slots + N) Q (F0 m (pc + 2) ls (.ref q :: rest))) : W p l e R s m args below meth c H locs cells slots Q (F0 m pc ls (.int n :: rest)) := by
  refine va_newa (atype := .int) (ty := .int) (a0 := (N, .inl (fun _ => 0))) C.1.1 C.1.2.1 (C.1.2.2.2.2 _ (inr2 _ (List.mem_of_getElem? (i := 18) rfl))) rfl C.2.1.1 hG.1 hG.2.1 hG.2.2 C.2.2.2 (fun cA => rfl) hn hN hb hcells hslots hdg (fun q cA H1 hK hP hD hS => ?_)
  have h1 : va_RA s cA .int := (hK.2 2 (cA, .int) rfl).2
  have h2 : va_RA s E.2.1.1 .int := (hK.2 0 (E.2.1.1, .int) rfl).2
  have e : cA = E.2.1.1 := Option.some.inj (Eq.trans (Eq.symm h1) h2)
  subst e
  exact kk q H1 ⟨hP, hD, hS⟩
theorem z_newB (C : zC E p s m args c cc nL own A) (hG : zG E A s.heap ws H locs) {n : Int32} {N : Nat} (hn : ¬ n < 0) (hN : n.toNatClampNeg = N) (hb : N * 1 ≤ 536870912) (hcells : cells + 1 ≤ R.cells) (hslots : slots + N ≤ R.slots) (hdg : decode cc pc = .ok (.newarray .byte, 2))
    (kk : ∀ (q : Nat) (H1 : Heap), zG E A s.heap (ws ++ [(q, .inl (E.2.1.2, N, .inl (fun _ => 0)))]) H1 locs → W p l e R s m args below meth c H1 locs (cells + 1) (slots + N) Q (F0 m (pc + 2) ls (.ref q :: rest))) : W p l e R s m args below meth c H locs cells slots Q (F0 m pc ls (.int n :: rest)) := by
  refine va_newa (atype := .byte) (ty := .byte) (a0 := (N, .inl (fun _ => 0))) C.1.1 C.1.2.1 (C.1.2.2.2.2 _ (inr10 _ (List.mem_of_getElem? (i := 4) rfl))) rfl C.2.1.1 hG.1 hG.2.1 hG.2.2 C.2.2.2 (fun cA => rfl) hn hN hb hcells hslots hdg (fun q cA H1 hK hP hD hS => ?_)
  have h1 : va_RA s cA .byte := (hK.2 2 (cA, .byte) rfl).2
  have h2 : va_RA s E.2.1.2 .byte := (hK.2 1 (E.2.1.2, .byte) rfl).2
  have e : cA = E.2.1.2 := Option.some.inj (Eq.trans (Eq.symm h1) h2)
  subst e
  exact kk q H1 ⟨hP, hD, hS⟩
theorem z_new (C : zC E p s m args c cc nL own A) (hG : zG E A s.heap ws H locs) {Cn : String} {T : u_T} {N ci index : Nat} (hin : ∀ w ∈ u_ws Cn T N, w ∈ wsL_law) (ty0 : Nat → FieldType) (hty : ∀ k, k < N → parseFieldDescriptor (T k).2.2.1 = some (ty0 k)) (hc : vwCl[ci]? = some (Cn, T, N)) (hcl : Cond.classLink own index Cn ∈ wsL_law) (hinst : Cond.instantiable Cn N ∈ wsL_law) (hini : Cond.initialized Cn ∈ wsL_law) {fs : List Value} (hfs : ∀ j, j < N → defaultValue (ty0 j) = vp_V fs j) (hcells : cells + 1 ≤ R.cells) (hslots : slots + N ≤ R.slots) (hdg : decode cc pc = .ok (.new index, 3))
    (kk : ∀ (q : Nat) (H1 : Heap), zG E A s.heap (ws ++ [(q, .inr (ci, fs))]) H1 locs → W p l e R s m args below meth c H1 locs (cells + 1) (slots + N) Q (F0 m (pc + 3) ls (.ref q :: rest))) : W p l e R s m args below meth c H locs cells slots Q (F0 m pc ls rest) :=
  va_new C.1.1 C.1.2.1 C.1.2.2.2.2 hin ty0 hty C.1.2.2.2.1 (C.1.2.2.2.2 _ hcl) (C.1.2.2.2.2 _ hinst) (C.1.2.2.2.2 _ hini) C.2.1.1 hG.1 hG.2.1 hG.2.2 C.2.2.2 hc hfs hcells hslots hdg (fun q H1 hP hD hS => kk q H1 ⟨hP, hD, hS⟩)
/-- behind a call of a maker: what it doesn't reach stands first, then its cells -/
theorem z_back2 (C : zC E p s m args c cc nL own A) (hG : zG E A s.heap ws H locs) {mc ms : Nat} (isC isR : List Nat) {wr : va_W} (hC : isC.map (fun i => ws[i]?) = wc.map some) (hR : isR.map (fun i => ws[i]?) = wr.map some) (hn : va_nd isR = true) (hdis : ∀ i ∈ isR, i ∉ isC) {a0 : Array Value} (hr : va_Run p l e R s m args below meth c H locs cells slots mc ms (F0 m pc ls st0) rest (zO2 E (va_A wc H.size) w1 a0) (va_A wc H.size))
    (kk : ∀ (q : Nat → Nat) (H1 : Heap) (locs1 : List Loc), zG E A s.heap (wr ++ w1 q) H1 locs1 → W p l e R s m args below meth c H1 locs1 (cells + mc) (slots + ms) Q (F0 m (pc + 3) ls rest)) : W p l e R s m args below meth c H locs cells slots Q (F0 m pc ls st0) := by
  intro T hT X
  obtain ⟨v', st₀, t, T', L, h0, X', hL, e1, e2, ⟨hv, ⟨q, hP1, hD1⟩, hz, hk⟩, st⟩ := hr T hT X
  cases hv
  rw [h0] at hz hk
  have hF := va_free hG.2.1 hG.2.2 C.2.2.2 isC hC
  obtain ⟨hP2, hD2⟩ := va_join hG.1 hG.2.1 isC isR hC hR hn hdis hk hF hP1 hD1
  have hS := hG.2.2
  obtain ⟨t2, a1, b1⟩ := kk q T'.heap (locs ++ L) ⟨by rw [e1]; exact hP2, hD2, Nat.le_trans hS.1 (by rw [e1]; exact hz), fun x h1 h2 => by rw [e1, hk x (Nat.lt_of_lt_of_le h1 hS.1) (fun z => h2 (hF x z))]; exact hS.2.1 x h1 h2, fun x hx => by
      rcases List.mem_append.mp hx with h | h
      · exact hS.2.2 x h
      · exact hF _ (hL x h)⟩ T' rfl X'
  exact ⟨t2, st t2 a1, b1⟩
variable {y : MethodName} {bytes : ByteArray} {maxL n index fr lo mc ms : Nat} {As : List Value} {b : Nat} {host : String}
theorem z_callI (C : zC E p s m args c cc nL own A) (hcode : Cond.code y bytes maxL none ∈ wsL_law) (hini : Cond.initialized y.cls ∈ wsL_law) (hlink : Cond.methodLink own index y ∈ wsL_law) (hinst : Cond.instanceMethod y ∈ wsL_law) (hy : y.name = "<init>") (hd : zD y n) (hdg : decode cc pc = .ok (.invokespecial index, 3)) (hM : HN l E y bytes maxL fr lo mc ms (.ref b :: As) wc w1) {lv : List (Nat × Value)} (hl : lv_has ls nL lv) (hG : zG E A s.heap ws H locs) (isC isR : List Nat) (hnC : va_nd isC = true) {wr : va_W} (hC : isC.map (fun i => ws[i]?) = wc.map some) (hR : isR.map (fun i => ws[i]?) = wr.map some) (hn : va_nd isR = true) (hdis : ∀ i ∈ isR, i ∉ isC) (hAs : As.length = n) (hst : st0 = As.reverse ++ .ref b :: rest) (hW : (rest.map fun v => v.category).sum ≤ 8) (hRm : fr + 1 ≤ R.frames ∧ 8 + (maxL + 11) + lo ≤ R.locals) (hf : cells + mc ≤ R.cells ∧ slots + ms ≤ R.slots)
    (kk : ∀ (q : Nat → Nat) (H1 : Heap) (locs1 : List Loc), zG E A s.heap (wr ++ w1 q) H1 locs1 → W p l e R s m args below meth c H1 locs1 (cells + mc) (slots + ms) Q (F0 m (pc + 3) ls rest)) : W p l e R s m args below meth c H locs cells slots Q (F0 m pc ls st0) :=
  z_back2 C hG isC isR hC hR hn hdis (va_runI (mc := mc) (ms := ms) C.1 (hM H.size) ⟨callB_of n C.1.2.2.2.2 (zGood hcode) rfl rfl rfl (C.1.2.2.2.2 _ hini) (C.1.2.2.2.2 _ hlink) hd hRm, hy, C.1.2.2.2.2 _ hinst⟩ ⟨zI.blind, z_pre C hG isC hnC hC⟩ rfl hAs hl.1 hst (lv_room hW) hdg hf) kk
theorem z_callIN (C : zC E p s m args c cc nL own A) (hcode : Cond.code y bytes maxL none ∈ wsL_law) (hini : Cond.initialized y.cls ∈ wsL_law) (hlink : (own, index, y, host) ∈ zNests) (hinst : Cond.instanceMethod y ∈ wsL_law) (hy : y.name = "<init>") (hd : zD y n) (hdg : decode cc pc = .ok (.invokespecial index, 3)) (hM : HN l E y bytes maxL fr lo mc ms (.ref b :: As) wc w1) {lv : List (Nat × Value)} (hl : lv_has ls nL lv) (hG : zG E A s.heap ws H locs) (isC isR : List Nat) (hnC : va_nd isC = true) {wr : va_W} (hC : isC.map (fun i => ws[i]?) = wc.map some) (hR : isR.map (fun i => ws[i]?) = wr.map some) (hn : va_nd isR = true) (hdis : ∀ i ∈ isR, i ∉ isC) (hAs : As.length = n) (hst : st0 = As.reverse ++ .ref b :: rest) (hW : (rest.map fun v => v.category).sum ≤ 8) (hRm : fr + 1 ≤ R.frames ∧ 8 + (maxL + 11) + lo ≤ R.locals) (hf : cells + mc ≤ R.cells ∧ slots + ms ≤ R.slots)
    (kk : ∀ (q : Nat → Nat) (H1 : Heap) (locs1 : List Loc), zG E A s.heap (wr ++ w1 q) H1 locs1 → W p l e R s m args below meth c H1 locs1 (cells + mc) (slots + ms) Q (F0 m (pc + 3) ls rest)) : W p l e R s m args below meth c H locs cells slots Q (F0 m pc ls st0) :=
  z_back2 C hG isC isR hC hR hn hdis (va_runIN (mc := mc) (ms := ms) C.1 (hM H.size) ⟨va_cnB n C.1.2.2.2.2 (zGood hcode) rfl rfl rfl (C.2.1.2.1 _ hlink) (C.1.2.2.2.2 _ hini) hd hRm, hy, C.1.2.2.2.2 _ hinst⟩ ⟨zI.blind, z_pre C hG isC hnC hC⟩ rfl hAs hl.1 hst (lv_room hW) hdg hf) kk
end Z9
