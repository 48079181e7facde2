/-! the one form of all contracts here: a world of cells before, a value and a world of cells after -/
abbrev TY (cyI cyZ : ClassId) : List (ClassId × FieldType) := [(cyI, .int), (cyZ, .boolean)]
def KX (D : va_G) (cyI cyZ : ClassId) (U : State) : Prop := va_K D vwCl (TY cyI cyZ) U ∧ ∀ w ∈ NW, va_Nw w U
theorem nw_form : ∀ w ∈ NW, ∃ (a : String) (i : Nat) (x : MethodName) (h : String), w = Cond.methodLinkNest a i x h := by
  intro w hw
  simp only [NW, List.mem_cons, List.not_mem_nil, or_false] at hw
  rcases hw with rfl | rfl | rfl | rfl | rfl | rfl | rfl | rfl | rfl | rfl <;> exact ⟨_, _, _, _, rfl⟩
theorem KX.warm {D : va_G} {cyI cyZ : ClassId} {s U : State} (hW : s.WarmedH U.vm) (h : KX D cyI cyZ s) : KX D cyI cyZ U := by
  refine ⟨va_K.moved hW.alike h.1, fun w hw => ?_⟩
  have h2 := h.2 w hw
  obtain ⟨a, i, x, hh, rfl⟩ := nw_form w hw
  exact va_Nw.warmM hW h2
theorem KX.call {D : va_G} {cyI cyZ : ClassId} {U : State} {g : JFrame} {mk : MethodId} {a : Array Value} (h : KX D cyI cyZ U) : KX D cyI cyZ (U.calling g mk a) := by
  refine ⟨va_K.moved (u := U) (U := U.calling g mk a) (Vm.Alike.refl U.vm) h.1, fun w hw => ?_⟩
  have h2 := h.2 w hw
  obtain ⟨a, i, x, hh, rfl⟩ := nw_form w hw
  exact va_Nw.same rfl rfl h2
def QX (D : va_G) (A : Nat → Prop) (ov : Option Value) (V : va_W) : Array Value → State → Outcome → State → Prop := fun _ st oc t => (oc = .returned ov ∧ va_P D vwCl V t.heap ∧ va_D A V) ∧ va_F A st t
def PX (D : va_G) (cyI cyZ : ClassId) (args : List Value) (V : va_W) (sz : Nat) : Array Value → State → Prop := va_Pc args (fun U => U.heap.size = sz ∧ va_P D vwCl V U.heap ∧ KX D cyI cyZ U ∧ va_D (fun _ => True) V)
def CT (l : Launch) (D : va_G) (cyI cyZ : ClassId) (y : MethodName) (cc : ByteArray) (nl : Nat) (ret : Option FieldType) (rm : Room) (args : List Value) (V : va_W) (ov : Option Value) (V' : va_W) : Prop :=
  ∀ sz : Nat, Met l y (Cond.code y cc nl ret :: BW) rm (PX D cyI cyZ args V sz) (QX D (va_A V sz) ov V') rm.cells rm.slots (va_A V sz)
def CX (p : Program) (s : State) (m : MethodId) (meth : Method) (c : Code) (D : va_G) (cyI cyZ : ClassId) (A : Nat → Prop) (y : MethodName) (cc : ByteArray) (nl : Nat) (ret : Option FieldType) (args : Array Value) : Prop :=
  p.tables.exec = Jvm.exec ∧ c.code = cc ∧ meth.sig.returnType = ret ∧ c.maxLocals = nl ∧ (∀ w ∈ BW, w.before args s = true) ∧ s.vm.findClass y.cls = some m.cls ∧ meth.locks = false ∧ meth.name = y.name ∧ KX D cyI cyZ s ∧ (∀ q, s.heap.size ≤ q → A q)
theorem ct_intro {l : Launch} {D : va_G} {cyI cyZ : ClassId} {y : MethodName} {cc : ByteArray} {nl : Nat} {ret : Option FieldType} {rm : Room} {args : List Value} {V : va_W} {ov : Option Value} {V' : va_W} (hy : plainName y.cls = true) (hlen : (lg_sl args).length ≤ nl)
    (body : ∀ (p : Program) (e : Env) (s : State) (m : MethodId) (below : List Frame) (meth : Method) (c : Code) (A : Nat → Prop) (ls : Array Slot), CX p s m meth c D cyI cyZ A y cc nl ret args.toArray → va_P D vwCl V s.heap → va_D A V → va_S A s.heap s.heap [] → lv_has ls nl (lv_args 0 args) →
      W p l e rm s m args.toArray below meth c s.heap [] 0 0 (MQ below (QX D A ov V') args.toArray s rm.cells rm.slots A) (F0 m 0 ls [])) : CT l D cyI cyZ y cc nl ret rm args V ov V' := by
  intro sz
  refine Met.ofW (cc := cc) (maxL := nl) (ret := ret) hy rfl ?_
  intro p e s m args' below meth c s₁ B hml hv
  obtain ⟨rfl, hsz, hP, hK, hD0⟩ := hv
  have hts := atoms_spec (ws := Cond.code y cc nl ret :: BW) B.pre
  have hown : s.vm.findClass y.cls = some m.cls := findClass_of_methodNamed B.named
  have hin : meth.name = y.name := (name_of_methodNamed B.named B.method).1
  subst hsz
  have hD := hD0.self (sz := s.heap.size)
  rw [lg_entry_eq]
  exact body p e s m below meth c _ _ ⟨B.exec, B.bytes, B.returns, hml, fun w h => hts w (List.mem_cons_of_mem _ h), hown, B.notSynchronized, hin, hK, fun q h => Or.inr h⟩ hP hD va_S.rf (lv_entry args hlen)
theorem va_Psub {D : va_G} {ws wc : va_W} {H : Heap} (hP : va_P D vwCl ws H) (is : List Nat) (hC : is.map (fun i => ws[i]?) = wc.map some) : va_P D vwCl wc H := by
  intro k q hq
  have h1 : (is.map (fun i => ws[i]?))[k]? = some (some q) := by rw [hC, List.getElem?_map, hq]; rfl
  rw [List.getElem?_map] at h1
  cases hi : is[k]? with
  | none => rw [hi] at h1; cases h1
  | some i => rw [hi] at h1; exact hP i q (Option.some.inj h1)
section CTR
variable {p : Program} {l : Launch} {e : Env} {R : Room} {s : State} {m : MethodId} {args : Array Value} {below : List Frame} {meth : Method} {c : Code} {H : Heap} {locs : List Loc} {cells slots : Nat} {Q : State → Prop}
variable {D : va_G} {cyI cyZ : ClassId} {A : Nat → Prop} {y0 : MethodName} {cc : ByteArray} {nl : Nat} {ret0 : Option FieldType} {pc : Nat} {ls : Array Slot} {rest : List Value} {V V3 : va_W} {a : Nat}
theorem va_callx {A1 : Nat → Prop} {H0 : Heap} {mc ms : Nat} {free : Addr → Prop} {st0 : List Value} {ov : Option Value} {V' : va_W} {ar : Array Value} (hr : va_Run p l e R s m args below meth c H locs cells slots mc ms (F0 m pc ls st0) rest (QX D A1 ov V' ar) free) (hS : va_S A H0 H locs) (hA : ∀ q, q < H.size → A1 q → A q) (hf : ∀ q, free q → A q)
    (kk : ∀ (H1 : Heap) (locs1 : List Loc), va_P D vwCl V' H1 → va_D A1 V' → (∀ q : Nat, q < H.size → ¬ A1 q → H1[q]? = H[q]?) → va_S A H0 H1 locs1 → W p l e R s m args below meth c H1 locs1 (cells + mc) (slots + ms) Q (F0 m (pc + 3) ls (ov.toList ++ rest))) : W p l e R s m args below meth c H locs cells slots Q (F0 m pc ls st0) := by
  intro T hT X
  obtain ⟨v, st₀, t, T', L, h0, X', hL, e1, e2, ⟨⟨hv, hp, hd⟩, hz, hk⟩, st⟩ := hr T hT X
  cases hv
  rw [h0] at hz hk
  obtain ⟨t2, a1, b1⟩ := kk T'.heap (locs ++ L) (by rw [e1]; exact hp) hd (fun q h1 h2 => by rw [e1]; exact hk q h1 h2)
    ⟨Nat.le_trans hS.1 (by rw [e1]; exact hz), fun q h1 h2 => by rw [e1, hk q (Nat.lt_of_lt_of_le h1 hS.1) (fun z => h2 (hA q (Nat.lt_of_lt_of_le h1 hS.1) z))]; exact hS.2.1 q h1 h2, fun q hq => by
      rcases List.mem_append.mp hq with h | h
      · exact hS.2.2 q h
      · exact hf _ (hL q h)⟩ T' rfl X'
  exact ⟨t2, st t2 a1, b1⟩
theorem ct_words {y : MethodName} {bytes : ByteArray} {maxL : Nat} {ret : Option FieldType} (m5 : Cond.code y bytes maxL ret ∈ BW) : GoodIn BW (Cond.code y bytes maxL ret :: BW) := by
  intro w h
  rcases List.mem_cons.mp h with rfl | h
  · exact bw_good _ m5
  · exact bw_good _ h
variable {own : String} {idx : Nat} {y : MethodName} {bytes : ByteArray} {maxL n : Nat} {ret : Option FieldType} {rm2 : Room} {V2 w1 : va_W} {ov : Option Value} {As : List Value} {b : Nat}
/-- how the caller's world behind a call is put together: of each place, the callee's cell or its own -/
def okX (isC : List Nat) (isX : List (Bool × Nat)) : Bool := (List.range isX.length).all (fun k => match isX[k]? with
  | some q => cond q.1 (isC[q.2]? == some k) (q.2 == k && !isC.contains k)
  | none => false)
def FrOk (V V2 w1 V3 : va_W) (isC : List Nat) (isX : List (Bool × Nat)) : Prop := isC.map (fun i => V[i]?) = V2.map some ∧ isX.map (fun q => cond q.1 (w1[q.2]?) (V[q.2]?)) = V3.map some ∧ (va_nd isC && okX isC isX) = true
theorem frok_get {V w1 V3 : va_W} {isC : List Nat} {isX : List (Bool × Nat)} (h2 : isX.map (fun q => cond q.1 (w1[q.2]?) (V[q.2]?)) = V3.map some) (h3 : okX isC isX = true) (k : Nat) (q : Nat × va_E) (hq : V3[k]? = some q) : (∃ j : Nat, isC[j]? = some k ∧ w1[j]? = some q) ∨ (k ∉ isC ∧ V[k]? = some q) := by
  have h1 : (isX.map (fun q => cond q.1 (w1[q.2]?) (V[q.2]?)))[k]? = some (some q) := by rw [h2, List.getElem?_map, hq]; rfl
  rw [List.getElem?_map] at h1
  cases hx : isX[k]? with
  | none => rw [hx] at h1; cases h1
  | some x =>
    rw [hx] at h1
    have h4 := Option.some.inj h1
    have hl : k < isX.length := (List.getElem?_eq_some_iff.mp hx).1
    have h5 := List.all_eq_true.mp h3 k (List.mem_range.mpr hl)
    simp only [hx] at h5
    obtain ⟨b, j⟩ := x
    cases b with
    | true =>
      simp only [cond_true, beq_iff_eq] at h4 h5
      exact Or.inl ⟨j, h5, h4⟩
    | false =>
      simp only [cond_false, Bool.and_eq_true, beq_iff_eq, Bool.not_eq_true', List.contains_eq_mem, decide_eq_false_iff_not] at h4 h5
      obtain ⟨e, h6⟩ := h5
      subst e
      exact Or.inr ⟨h6, h4⟩
theorem ct_pre (cx : CX p s m meth c D cyI cyZ A y0 cc nl ret0 args) {asv : List Value} (hPc : va_P D vwCl V2 H) {A' : Nat → Prop} (hDc : va_D A' V2) : FrameBlind (PX D cyI cyZ asv V2 H.size) ∧ ∀ U : State, U.heap = H → s.WarmedH U.vm → PX D cyI cyZ asv V2 H.size asv.toArray U :=
  ⟨fun a U g mk q => by obtain ⟨q0, q1, qP, qK, qD⟩ := q; exact ⟨q0, q1, qP, qK.call, qD⟩, fun U hU hW => ⟨rfl, by rw [hU], by rw [hU]; exact hPc, cx.2.2.2.2.2.2.2.2.1.warm hW, hDc.weaken (fun _ _ _ _ => trivial)⟩⟩
theorem ct_after {isC : List Nat} {isX : List (Bool × Nat)} (hP : va_P D vwCl V H) (hD : va_D A V) (fr : FrOk V V2 w1 V3 isC isX) {H1 : Heap} (hk : ∀ q : Nat, q < H.size → ¬ va_A V2 H.size q → H1[q]? = H[q]?) (hF : ∀ q, va_A V2 H.size q → A q) (hP1 : va_P D vwCl w1 H1) (hD1 : va_D (va_A V2 H.size) w1) : va_P D vwCl V3 H1 ∧ va_D A V3 := by
  obtain ⟨f1, f3, f4⟩ := fr
  simp only [Bool.and_eq_true] at f4
  have key := fun (k : Nat) (q : Nat × va_E) => frok_get f3 f4.2 k q
  have at' : ∀ (k : Nat) (q : Nat × va_E), V2[k]? = some q → ∃ i : Nat, isC[k]? = some i ∧ V[i]? = some q := by
    intro k q hq
    have h1 : (isC.map (fun i => V[i]?))[k]? = some (some q) := by rw [f1, List.getElem?_map, hq]; rfl
    rw [List.getElem?_map] at h1
    cases hi : isC[k]? with
    | none => rw [hi] at h1; cases h1
    | some i => rw [hi] at h1; exact ⟨i, rfl, Option.some.inj h1⟩
  have apart : ∀ (k : Nat) (q : Nat × va_E), k ∉ isC → V[k]? = some q → q.1 < H.size ∧ ¬ va_A V2 H.size q.1 := by
    intro k q hkn hq
    have hl := (hP k q hq).lt
    refine ⟨hl, fun h => ?_⟩
    rcases h with ⟨k2, e, h⟩ | h
    · obtain ⟨i, h3, h4⟩ := at' k2 (q.1, e) h
      have hij := hD.1 k i q (q.1, e) hq h4 rfl
      subst hij
      exact hkn (List.mem_of_getElem? h3)
    · omega
  refine ⟨fun k q hq => ?_, fun i j x y hi hj hxy => ?_, fun k q hq => ?_⟩
  · rcases key k q hq with ⟨j, -, h2⟩ | ⟨h1, h2⟩
    · exact hP1 j q h2
    · exact (hP k q h2).kept (hk q.1 (apart k q h1 h2).1 (apart k q h1 h2).2)
  · rcases key i x hi with ⟨a1, h1, h2⟩ | ⟨h1, h2⟩ <;> rcases key j y hj with ⟨a2, g1, g2⟩ | ⟨g1, g2⟩
    · have := hD1.1 a1 a2 x y h2 g2 hxy
      subst this
      exact Option.some.inj (h1.symm.trans g1)
    · exact absurd (by rw [← hxy]; exact hD1.2 a1 x h2) (apart j y g1 g2).2
    · exact absurd (by rw [hxy]; exact hD1.2 a2 y g2) (apart i x h1 h2).2
    · exact hD.1 i j x y h2 g2 hxy
  · rcases key k q hq with ⟨j, -, h2⟩ | ⟨h1, h2⟩
    · exact hF _ (hD1.2 j q h2)
    · exact hD.2 k q h2
theorem ct_callV {C : String} {ci : Nat} {fs : List Value} {tT : u_T} {tN : Nat} {st1 : List Value} (cx : CX p s m meth c D cyI cyZ A y0 cc nl ret0 args) (hC : CT l D cyI cyZ y bytes maxL ret rm2 (.ref b :: As) V2 ov w1) (hP : va_P D vwCl V H) (hD : va_D A V) (hS : va_S A s.heap H locs)
    (isC : List Nat) (isX : List (Bool × Nat)) (fr : FrOk V V2 w1 V3 isC isX) (hrv : V2[0]? = some (b, .inr (ci, fs))) (hcl : vwCl[ci]? = some (C, tT, tN)) (m1 : Cond.methodLink y0.cls idx y ∈ BW) (m2 : Cond.instanceMethod y ∈ BW) (m3 : Cond.selects C y y ∈ BW) (m4 : Cond.initialized y.cls ∈ BW) (m5 : Cond.code y bytes maxL ret ∈ BW)
    (hd : y.cls ≠ "java/lang/invoke/MethodHandle" ∧ y.cls ≠ "java/lang/invoke/VarHandle" ∧ (parseMethodDescriptor y.desc).map (fun d => d.parameters.length) = some As.length) (hR : (Nat.ble (rm2.frames + 1) R.frames && Nat.ble (8 + (maxL + 11) + rm2.locals) R.locals && Nat.ble (cells + rm2.cells) R.cells && Nat.ble (slots + rm2.slots) R.slots) = true) (hsz : ls.size = nl) (hroom : Nat.ble ((rest.map fun v => v.category).sum) 8 = true) (hdg : decode cc pc = .ok (.invokevirtual idx, 3)) (hst : ov.toList ++ rest = st1)
    (kk : ∀ (H1 : Heap) (locs1 : List Loc), va_P D vwCl V3 H1 → va_D A V3 → va_S A s.heap H1 locs1 → W p l e R s m args below meth c H1 locs1 (cells + rm2.cells) (slots + rm2.slots) Q (F0 m (pc + 3) ls st1)) : W p l e R s m args below meth c H locs cells slots Q (F0 m pc ls (As.reverse ++ .ref b :: rest)) := by
  obtain ⟨hx, hb, hr, hml, hts, hown, hlocks, hnm, hK, hA⟩ := id cx
  simp only [Bool.and_eq_true, Nat.ble_eq] at hR
  have hPc := va_Psub hP isC fr.1
  have f4 := fr.2.2
  simp only [Bool.and_eq_true] at f4
  have hDc := hD.sub isC f4.1 fr.1
  have hFc := va_free (wc := V2) hD hS hA isC fr.1
  subst hst
  have pr := ct_pre cx (asv := .ref b :: As) hPc hDc
  refine va_callx (va_runV (As := As) (rest := rest) ⟨hx, hb, hml, hown, hts⟩ (hC H.size) ⟨callB_of As.length hts (ct_words m5) rfl rfl rfl (hts _ m4) (hts _ m1) hd ⟨hR.1.1.1, hR.1.1.2⟩, hts _ m2, hts _ m3⟩ ⟨pr.1, va_recv hK.1 hPc hcl hrv, pr.2⟩ rfl rfl hsz rfl (lv_room (Nat.le_of_ble_eq_true hroom)) hdg ⟨hR.1.2, hR.2⟩) hS (fun q _ h => hFc q h) hFc (fun H1 locs1 hP1 hD1 hk1 hS1 => ?_)
  obtain ⟨hP2, hD2⟩ := ct_after hP hD fr hk1 hFc hP1 hD1
  exact kk H1 locs1 hP2 hD2 hS1
theorem ct_callS {st1 : List Value} (cx : CX p s m meth c D cyI cyZ A y0 cc nl ret0 args) (hC : CT l D cyI cyZ y bytes maxL ret rm2 As V2 ov w1) (hP : va_P D vwCl V H) (hD : va_D A V) (hS : va_S A s.heap H locs)
    (isC : List Nat) (isX : List (Bool × Nat)) (fr : FrOk V V2 w1 V3 isC isX) (m1 : Cond.methodLink y0.cls idx y ∈ BW) (m2 : Cond.static y ∈ BW) (m4 : Cond.initialized y.cls ∈ BW) (m5 : Cond.code y bytes maxL ret ∈ BW)
    (hd : y.cls ≠ "java/lang/invoke/MethodHandle" ∧ y.cls ≠ "java/lang/invoke/VarHandle" ∧ (parseMethodDescriptor y.desc).map (fun d => d.parameters.length) = some As.length) (hR : (Nat.ble (rm2.frames + 1) R.frames && Nat.ble (8 + (maxL + 11) + rm2.locals) R.locals && Nat.ble (cells + rm2.cells) R.cells && Nat.ble (slots + rm2.slots) R.slots) = true) (hsz : ls.size = nl) (hroom : Nat.ble ((rest.map fun v => v.category).sum) 8 = true) (hdg : decode cc pc = .ok (.invokestatic idx, 3)) (hst : ov.toList ++ rest = st1)
    (kk : ∀ (H1 : Heap) (locs1 : List Loc), va_P D vwCl V3 H1 → va_D A V3 → va_S A s.heap H1 locs1 → W p l e R s m args below meth c H1 locs1 (cells + rm2.cells) (slots + rm2.slots) Q (F0 m (pc + 3) ls st1)) : W p l e R s m args below meth c H locs cells slots Q (F0 m pc ls (As.reverse ++ rest)) := by
  obtain ⟨hx, hb, hr, hml, hts, hown, hlocks, hnm, hK, hA⟩ := id cx
  simp only [Bool.and_eq_true, Nat.ble_eq] at hR
  have hPc := va_Psub hP isC fr.1
  have f4 := fr.2.2
  simp only [Bool.and_eq_true] at f4
  have hDc := hD.sub isC f4.1 fr.1
  have hFc := va_free (wc := V2) hD hS hA isC fr.1
  subst hst
  have pr := ct_pre cx (asv := As) hPc hDc
  refine va_callx (va_runS (As := As) (rest := rest) ⟨hx, hb, hml, hown, hts⟩ (hC H.size) ⟨callB_of As.length hts (ct_words m5) rfl rfl rfl (hts _ m4) (hts _ m1) hd ⟨hR.1.1.1, hR.1.1.2⟩, hts _ m2⟩ pr rfl rfl hsz rfl (lv_room (Nat.le_of_ble_eq_true hroom)) hdg ⟨hR.1.2, hR.2⟩) hS (fun q _ h => hFc q h) hFc (fun H1 locs1 hP1 hD1 hk1 hS1 => ?_)
  obtain ⟨hP2, hD2⟩ := ct_after hP hD fr hk1 hFc hP1 hD1
  exact kk H1 locs1 hP2 hD2 hS1
theorem ct_callI {st1 : List Value} (cx : CX p s m meth c D cyI cyZ A y0 cc nl ret0 args) (hC : CT l D cyI cyZ y bytes maxL none rm2 (.ref b :: As) V2 none w1) (hP : va_P D vwCl V H) (hD : va_D A V) (hS : va_S A s.heap H locs)
    (isC : List Nat) (isX : List (Bool × Nat)) (fr : FrOk V V2 w1 V3 isC isX) (m1 : Cond.methodLink y0.cls idx y ∈ BW) (m2 : Cond.instanceMethod y ∈ BW) (m4 : Cond.initialized y.cls ∈ BW) (m5 : Cond.code y bytes maxL none ∈ BW)
    (hd : y.name = "<init>" ∧ y.cls ≠ "java/lang/invoke/MethodHandle" ∧ y.cls ≠ "java/lang/invoke/VarHandle" ∧ (parseMethodDescriptor y.desc).map (fun d => d.parameters.length) = some As.length) (hR : (Nat.ble (rm2.frames + 1) R.frames && Nat.ble (8 + (maxL + 11) + rm2.locals) R.locals && Nat.ble (cells + rm2.cells) R.cells && Nat.ble (slots + rm2.slots) R.slots) = true) (hsz : ls.size = nl) (hroom : Nat.ble ((rest.map fun v => v.category).sum) 8 = true) (hdg : decode cc pc = .ok (.invokespecial idx, 3))
    (kk : ∀ (H1 : Heap) (locs1 : List Loc), va_P D vwCl V3 H1 → va_D A V3 → va_S A s.heap H1 locs1 → W p l e R s m args below meth c H1 locs1 (cells + rm2.cells) (slots + rm2.slots) Q (F0 m (pc + 3) ls rest)) : W p l e R s m args below meth c H locs cells slots Q (F0 m pc ls (As.reverse ++ .ref b :: rest)) := by
  obtain ⟨hx, hb, hr, hml, hts, hown, hlocks, hnm, hK, hA⟩ := id cx
  simp only [Bool.and_eq_true, Nat.ble_eq] at hR
  have hPc := va_Psub hP isC fr.1
  have f4 := fr.2.2
  simp only [Bool.and_eq_true] at f4
  have hDc := hD.sub isC f4.1 fr.1
  have hFc := va_free (wc := V2) hD hS hA isC fr.1
  have pr := ct_pre cx (asv := .ref b :: As) hPc hDc
  refine va_callx (va_runI (As := As) (rest := rest) ⟨hx, hb, hml, hown, hts⟩ (hC H.size) ⟨callB_of As.length hts (ct_words m5) rfl rfl rfl (hts _ m4) (hts _ m1) hd.2 ⟨hR.1.1.1, hR.1.1.2⟩, hd.1, hts _ m2⟩ pr rfl rfl hsz rfl (lv_room (Nat.le_of_ble_eq_true hroom)) hdg ⟨hR.1.2, hR.2⟩) hS (fun q _ h => hFc q h) hFc (fun H1 locs1 hP1 hD1 hk1 hS1 => ?_)
  obtain ⟨hP2, hD2⟩ := ct_after hP hD fr hk1 hFc hP1 hD1
  exact kk H1 locs1 hP2 hD2 hS1
theorem ct_callIN {host : String} {st1 : List Value} (cx : CX p s m meth c D cyI cyZ A y0 cc nl ret0 args) (hC : CT l D cyI cyZ y bytes maxL none rm2 (.ref b :: As) V2 none w1) (hP : va_P D vwCl V H) (hD : va_D A V) (hS : va_S A s.heap H locs)
    (isC : List Nat) (isX : List (Bool × Nat)) (fr : FrOk V V2 w1 V3 isC isX) (m1 : Cond.methodLinkNest y0.cls idx y host ∈ NW) (m2 : Cond.instanceMethod y ∈ BW) (m4 : Cond.initialized y.cls ∈ BW) (m5 : Cond.code y bytes maxL none ∈ BW)
    (hd : y.name = "<init>" ∧ y.cls ≠ "java/lang/invoke/MethodHandle" ∧ y.cls ≠ "java/lang/invoke/VarHandle" ∧ (parseMethodDescriptor y.desc).map (fun d => d.parameters.length) = some As.length) (hR : (Nat.ble (rm2.frames + 1) R.frames && Nat.ble (8 + (maxL + 11) + rm2.locals) R.locals && Nat.ble (cells + rm2.cells) R.cells && Nat.ble (slots + rm2.slots) R.slots) = true) (hsz : ls.size = nl) (hroom : Nat.ble ((rest.map fun v => v.category).sum) 8 = true) (hdg : decode cc pc = .ok (.invokespecial idx, 3))
    (kk : ∀ (H1 : Heap) (locs1 : List Loc), va_P D vwCl V3 H1 → va_D A V3 → va_S A s.heap H1 locs1 → W p l e R s m args below meth c H1 locs1 (cells + rm2.cells) (slots + rm2.slots) Q (F0 m (pc + 3) ls rest)) : W p l e R s m args below meth c H locs cells slots Q (F0 m pc ls (As.reverse ++ .ref b :: rest)) := by
  obtain ⟨hx, hb, hr, hml, hts, hown, hlocks, hnm, hK, hA⟩ := id cx
  simp only [Bool.and_eq_true, Nat.ble_eq] at hR
  have hPc := va_Psub hP isC fr.1
  have f4 := fr.2.2
  simp only [Bool.and_eq_true] at f4
  have hDc := hD.sub isC f4.1 fr.1
  have hFc := va_free (wc := V2) hD hS hA isC fr.1
  have pr := ct_pre cx (asv := .ref b :: As) hPc hDc
  refine va_callx (va_runIN (As := As) (rest := rest) ⟨hx, hb, hml, hown, hts⟩ (hC H.size) ⟨va_cnB As.length hts (ct_words m5) rfl rfl rfl (hK.2 _ m1) (hts _ m4) hd.2 ⟨hR.1.1.1, hR.1.1.2⟩, hd.1, hts _ m2⟩ pr rfl rfl hsz rfl (lv_room (Nat.le_of_ble_eq_true hroom)) hdg ⟨hR.1.2, hR.2⟩) hS (fun q _ h => hFc q h) hFc (fun H1 locs1 hP1 hD1 hk1 hS1 => ?_)
  obtain ⟨hP2, hD2⟩ := ct_after hP hD fr hk1 hFc hP1 hD1
  exact kk H1 locs1 hP2 hD2 hS1
theorem ct_get {C : String} {T : u_T} {N ci : Nat} {fs : List Value} {v : Value} (cx : CX p s m meth c D cyI cyZ A y0 cc nl ret0 args) (hP : va_P D vwCl V H) (q0 : Nat) (he : V[q0]? = some (a, .inr (ci, fs))) (hc : vwCl[ci]? = some (C, T, N)) (hin : ∀ w ∈ u_ws C T N, w ∈ BW) (k : Nat) (hk : Nat.blt k N = true) (hm : Cond.fieldLink y0.cls idx (T k).1 (T k).2.1 (T k).2.2.1 ∈ BW) (hv : fs[k]? = some v) (hdg : decode cc pc = .ok (.getfield idx, 3))
    (kk : W p l e R s m args below meth c H locs cells slots Q (F0 m (pc + 3) ls (v :: rest))) : W p l e R s m args below meth c H locs cells slots Q (F0 m pc ls (.ref a :: rest)) := by
  obtain ⟨hx, hb, hr, hml, hts, hown, hlocks, hnm, hK, hA⟩ := cx
  exact va_get hx hb hts hin hown hK.1 hP q0 he hc k (Nat.le_of_ble_eq_true hk) (hts _ hm) (fun _ h => h) hv hdg kk
theorem ct_put {C : String} {T : u_T} {N ci : Nat} {fs : List Value} {v : Value} {ty0 : Nat → FieldType} (cx : CX p s m meth c D cyI cyZ A y0 cc nl ret0 args) (hP : va_P D vwCl V H) (hD : va_D A V) (hS : va_S A s.heap H locs) (q0 : Nat) (he : V[q0]? = some (a, .inr (ci, fs))) (hc : vwCl[ci]? = some (C, T, N)) (hin : ∀ w ∈ u_ws C T N, w ∈ BW) (hty : ∀ k, k < N → parseFieldDescriptor (T k).2.2.1 = some (ty0 k)) (hnm : ∀ a, a < N → ∀ b, b < N → a ≠ b → (T a).2.1 ≠ (T b).2.1) (k : Nat) (hk : Nat.blt k N = true) (hm : Cond.fieldLink y0.cls idx (T k).1 (T k).2.1 (T k).2.2.1 ∈ BW) (hfin : (T k).2.2.2 = false) (hn : narrow (ty0 k) v = v) (hfit : fits (ty0 k) v = true) (hl : Nat.blt k fs.length = true) (hdg : decode cc pc = .ok (.putfield idx, 3)) (h3 : V.set q0 (a, .inr (ci, fs.set k v)) = V3)
    (kk : ∀ (H1 : Heap) (locs1 : List Loc), va_P D vwCl V3 H1 → va_D A V3 → va_S A s.heap H1 locs1 → W p l e R s m args below meth c H1 locs1 cells slots Q (F0 m (pc + 3) ls rest)) : W p l e R s m args below meth c H locs cells slots Q (F0 m pc ls (v :: .ref a :: rest)) := by
  obtain ⟨hx, hb, hr, hml, hts, hown, hlocks, hnm2, hK, hA⟩ := cx
  subst h3
  exact va_put hx hb hts hin ty0 hty hnm hown hK.1 hP hD hS q0 he hc k (Nat.le_of_ble_eq_true hk) (hts _ hm) (fun _ h => h) hfin (hty k (Nat.le_of_ble_eq_true hk)) hn hfit (Nat.le_of_ble_eq_true hl) hdg kk
theorem ct_putF {C : String} {T : u_T} {N ci : Nat} {fs : List Value} {v : Value} {ty0 : Nat → FieldType} (cx : CX p s m meth c D cyI cyZ A y0 cc nl ret0 args) (hP : va_P D vwCl V H) (hD : va_D A V) (hS : va_S A s.heap H locs) (q0 : Nat) (he : V[q0]? = some (a, .inr (ci, fs))) (hc : vwCl[ci]? = some (C, T, N)) (hin : ∀ w ∈ u_ws C T N, w ∈ BW) (hty : ∀ k, k < N → parseFieldDescriptor (T k).2.2.1 = some (ty0 k)) (hnm : ∀ a, a < N → ∀ b, b < N → a ≠ b → (T a).2.1 ≠ (T b).2.1) (k : Nat) (hk : Nat.blt k N = true) (hm : Cond.fieldLink y0.cls idx (T k).1 (T k).2.1 (T k).2.2.1 ∈ BW) (hfin : (T k).2.2.2 = true) (hi : y0.name = "<init>") (hdc : (T k).1 = y0.cls) (hn : narrow (ty0 k) v = v) (hfit : fits (ty0 k) v = true) (hl : Nat.blt k fs.length = true) (hdg : decode cc pc = .ok (.putfield idx, 3)) (h3 : V.set q0 (a, .inr (ci, fs.set k v)) = V3)
    (kk : ∀ (H1 : Heap) (locs1 : List Loc), va_P D vwCl V3 H1 → va_D A V3 → va_S A s.heap H1 locs1 → W p l e R s m args below meth c H1 locs1 cells slots Q (F0 m (pc + 3) ls rest)) : W p l e R s m args below meth c H locs cells slots Q (F0 m pc ls (v :: .ref a :: rest)) := by
  obtain ⟨hx, hb, hr, hml, hts, hown, hlocks, hnm2, hK, hA⟩ := cx
  subst h3
  exact va_putF hx hb hts hin ty0 hty hnm hown hK.1 hP hD hS q0 he hc k (Nat.le_of_ble_eq_true hk) (hts _ hm) (fun _ h => h) hfin (hnm2.trans hi) hdc (hty k (Nat.le_of_ble_eq_true hk)) hn hfit (Nat.le_of_ble_eq_true hl) hdg kk
theorem ct_iald {N : Nat} {f : Nat → Int32} {i : Int32} (cx : CX p s m meth c D cyI cyZ A y0 cc nl ret0 args) (hP : va_P D vwCl V H) (q0 : Nat) (he : V[q0]? = some (a, .inl (cyI, N, .inl f))) (hin : vp_in i N) (hdg : decode cc pc = .ok (.iaload, 1))
    (kk : W p l e R s m args below meth c H locs cells slots Q (F0 m (pc + 1) ls (.int (f i.toNatClampNeg) :: rest))) : W p l e R s m args below meth c H locs cells slots Q (F0 m pc ls (.int i :: .ref a :: rest)) := by
  obtain ⟨hx, hb, hr, hml, hts, hown, hlocks, hnm, hK, hA⟩ := cx
  exact va_iald hx hb hK.1 hP q0 0 he rfl hin hdg kk
theorem ct_zald {N : Nat} {f : Nat → Int32} {i : Int32} (cx : CX p s m meth c D cyI cyZ A y0 cc nl ret0 args) (hP : va_P D vwCl V H) (q0 : Nat) (he : V[q0]? = some (a, .inl (cyZ, N, .inl f))) (hin : vp_in i N) (hdg : decode cc pc = .ok (.baload, 1))
    (kk : W p l e R s m args below meth c H locs cells slots Q (F0 m (pc + 1) ls (.int (f i.toNatClampNeg) :: rest))) : W p l e R s m args below meth c H locs cells slots Q (F0 m pc ls (.int i :: .ref a :: rest)) := by
  obtain ⟨hx, hb, hr, hml, hts, hown, hlocks, hnm, hK, hA⟩ := cx
  exact va_zald hx hb hK.1 hP q0 1 he rfl hin hdg kk
theorem ct_iast {N : Nat} {f : Nat → Int32} {i x : Int32} (cx : CX p s m meth c D cyI cyZ A y0 cc nl ret0 args) (hP : va_P D vwCl V H) (hD : va_D A V) (hS : va_S A s.heap H locs) (q0 : Nat) (he : V[q0]? = some (a, .inl (cyI, N, .inl f))) (hin : vp_in i N) (hdg : decode cc pc = .ok (.iastore, 1)) (h3 : V.set q0 (a, .inl (cyI, N, .inl (upd f i.toNatClampNeg x))) = V3)
    (kk : ∀ (H1 : Heap) (locs1 : List Loc), va_P D vwCl V3 H1 → va_D A V3 → va_S A s.heap H1 locs1 → W p l e R s m args below meth c H1 locs1 cells slots Q (F0 m (pc + 1) ls rest)) : W p l e R s m args below meth c H locs cells slots Q (F0 m pc ls (.int x :: .int i :: .ref a :: rest)) := by
  obtain ⟨hx, hb, hr, hml, hts, hown, hlocks, hnm, hK, hA⟩ := cx
  subst h3
  exact va_iast hx hb hK.1 hP hD hS q0 0 he rfl hin hdg kk
theorem ct_zast {N : Nat} {f : Nat → Int32} {i x : Int32} (cx : CX p s m meth c D cyI cyZ A y0 cc nl ret0 args) (hP : va_P D vwCl V H) (hD : va_D A V) (hS : va_S A s.heap H locs) (q0 : Nat) (he : V[q0]? = some (a, .inl (cyZ, N, .inl f))) (hin : vp_in i N) (hn : vp_nar .boolean x = x) (hdg : decode cc pc = .ok (.bastore, 1)) (h3 : V.set q0 (a, .inl (cyZ, N, .inl (upd f i.toNatClampNeg x))) = V3)
    (kk : ∀ (H1 : Heap) (locs1 : List Loc), va_P D vwCl V3 H1 → va_D A V3 → va_S A s.heap H1 locs1 → W p l e R s m args below meth c H1 locs1 cells slots Q (F0 m (pc + 1) ls rest)) : W p l e R s m args below meth c H locs cells slots Q (F0 m pc ls (.int x :: .int i :: .ref a :: rest)) := by
  obtain ⟨hx, hb, hr, hml, hts, hown, hlocks, hnm, hK, hA⟩ := cx
  subst h3
  refine va_zast hx hb hK.1 hP hD hS q0 1 he rfl hin hdg ?_
  rw [hn]
  exact kk
theorem ct_alen {x : vp_A} {v : Int32} (cx : CX p s m meth c D cyI cyZ A y0 cc nl ret0 args) (hP : va_P D vwCl V H) (q0 : Nat) (he : V[q0]? = some (a, .inl (cyI, x))) (hv : Int32.ofNat x.1 = v) (hdg : decode cc pc = .ok (.arraylength, 1))
    (kk : W p l e R s m args below meth c H locs cells slots Q (F0 m (pc + 1) ls (.int v :: rest))) : W p l e R s m args below meth c H locs cells slots Q (F0 m pc ls (.ref a :: rest)) := by
  obtain ⟨hx, hb, hr, hml, hts, hown, hlocks, hnm, hK, hA⟩ := cx
  exact va_alen hx hb hK.1 hP q0 0 he (ty := .int) rfl hv hdg kk
theorem ct_iret {v : Int32} (cx : CX p s m meth c D cyI cyZ A y0 cc nl (some .int) args) (hP : va_P D vwCl V H) (hD : va_D A V) (hS : va_S A s.heap H locs) (hdg : decode cc pc = .ok (.ireturn, 1)) : W p l e R s m args below meth c H locs cells slots (MQ below (QX D A (some (.int v)) V) args s cells slots A) (F0 m pc ls [.int v]) := by
  obtain ⟨hx, hb, hr, hml, hts, hown, hlocks, hnm, hK, hA⟩ := cx
  exact W.iret hx hb hr (fun t ht hW => ⟨⟨rfl, by rw [ht]; exact hP, hD⟩, hS.F ht⟩) hS.2.2 hdg hlocks
theorem ct_zret {v : Int32} (cx : CX p s m meth c D cyI cyZ A y0 cc nl (some .boolean) args) (hP : va_P D vwCl V H) (hD : va_D A V) (hS : va_S A s.heap H locs) (hn : narrow .boolean (.int v) = .int v) (hdg : decode cc pc = .ok (.ireturn, 1)) : W p l e R s m args below meth c H locs cells slots (MQ below (QX D A (some (.int v)) V) args s cells slots A) (F0 m pc ls [.int v]) := by
  obtain ⟨hx, hb, hr, hml, hts, hown, hlocks, hnm, hK, hA⟩ := cx
  exact W.zret hx hb hr hn (fun t ht hW => ⟨⟨rfl, by rw [ht]; exact hP, hD⟩, hS.F ht⟩) hS.2.2 hdg hlocks
theorem ct_vret (cx : CX p s m meth c D cyI cyZ A y0 cc nl none args) (hP : va_P D vwCl V H) (hD : va_D A V) (hS : va_S A s.heap H locs) (hdg : decode cc pc = .ok (.return_, 1)) : W p l e R s m args below meth c H locs cells slots (MQ below (QX D A none V) args s cells slots A) (F0 m pc ls []) := by
  obtain ⟨hx, hb, hr, hml, hts, hown, hlocks, hnm, hK, hA⟩ := cx
  exact W.vret hx hb hr (fun t ht hW => ⟨⟨rfl, by rw [ht]; exact hP, hD⟩, hS.F ht⟩) hS.2.2 hdg hlocks
theorem ct_aret {v : Value} {C : String} (cx : CX p s m meth c D cyI cyZ A y0 cc nl (some (.object C)) args) (hP : va_P D vwCl V H) (hD : va_D A V) (hS : va_S A s.heap H locs) (hv : v = .null ∨ ∃ a, v = .ref a) (hdg : decode cc pc = .ok (.areturn, 1)) : W p l e R s m args below meth c H locs cells slots (MQ below (QX D A (some v) V) args s cells slots A) (F0 m pc ls [v]) := by
  obtain ⟨hx, hb, hr, hml, hts, hown, hlocks, hnm, hK, hA⟩ := cx
  exact W.aret hx hb hr (Or.inl ⟨_, rfl⟩) hv (fun t ht hW => ⟨⟨rfl, by rw [ht]; exact hP, hD⟩, hS.F ht⟩) hS.2.2 hdg hlocks
theorem ct_new {C : String} {T : u_T} {N ci : Nat} {fs : List Value} {ty0 : Nat → FieldType} (cx : CX p s m meth c D cyI cyZ A y0 cc nl ret0 args) (hP : va_P D vwCl V H) (hD : va_D A V) (hS : va_S A s.heap H locs) (hin : ∀ w ∈ u_ws C T N, w ∈ BW) (hty : ∀ k, k < N → parseFieldDescriptor (T k).2.2.1 = some (ty0 k)) (m1 : Cond.classLink y0.cls idx C ∈ BW) (m2 : Cond.instantiable C N ∈ BW) (m3 : Cond.initialized C ∈ BW) (hc : vwCl[ci]? = some (C, T, N)) (hfs : ((List.range N).all fun j => decide (defaultValue (ty0 j) = vp_V fs j)) = true) (hR : (Nat.ble (cells + 1) R.cells && Nat.ble (slots + N) R.slots) = true) (hdg : decode cc pc = .ok (.new idx, 3))
    (kk : ∀ (q : Nat) (H1 : Heap), va_P D vwCl (V ++ [(q, .inr (ci, fs))]) H1 → va_D A (V ++ [(q, .inr (ci, fs))]) → va_S A s.heap H1 locs → W p l e R s m args below meth c H1 locs (cells + 1) (slots + N) Q (F0 m (pc + 3) ls (.ref q :: rest))) : W p l e R s m args below meth c H locs cells slots Q (F0 m pc ls rest) := by
  obtain ⟨hx, hb, hr, hml, hts, hown, hlocks, hnm, hK, hA⟩ := cx
  simp only [Bool.and_eq_true, Nat.ble_eq] at hR
  exact va_new hx hb hts hin ty0 hty hown (hts _ m1) (hts _ m2) (hts _ m3) hK.1 hP hD hS hA hc (fun j hj => of_decide_eq_true (List.all_eq_true.mp hfs j (List.mem_range.mpr hj))) hR.1 hR.2 hdg kk
theorem ct_newI {n : Int32} {N' : Nat} (cx : CX p s m meth c D cyI cyZ A y0 cc nl ret0 args) (hP : va_P D vwCl V H) (hD : va_D A V) (hS : va_S A s.heap H locs) (m1 : Cond.arrayClass .int ∈ BW) (hn : ¬ n < 0) (hN : n.toNatClampNeg = N') (hsm : Nat.ble N' 100000 = true) (hR : (Nat.ble (cells + 1) R.cells && Nat.ble (slots + N') R.slots) = true) (hdg : decode cc pc = .ok (.newarray .int, 2))
    (kk : ∀ (q : Nat) (H1 : Heap), va_P D vwCl (V ++ [(q, .inl (cyI, N', .inl (fun _ => 0)))]) H1 → va_D A (V ++ [(q, .inl (cyI, N', .inl (fun _ => 0)))]) → va_S A s.heap H1 locs → W p l e R s m args below meth c H1 locs (cells + 1) (slots + N') Q (F0 m (pc + 2) ls (.ref q :: rest))) : W p l e R s m args below meth c H locs cells slots Q (F0 m pc ls (.int n :: rest)) := by
  obtain ⟨hx, hb, hr, hml, hts, hown, hlocks, hnm, hK, hA⟩ := cx
  simp only [Bool.and_eq_true, Nat.ble_eq] at hR
  have hs2 := Nat.le_of_ble_eq_true hsm
  refine va_newa (atype := .int) hx hb (hts _ m1) (ty := .int) rfl hK.1 hP hD hS hA (a0 := (N', .inl (fun _ => 0))) (fun cA => rfl) hn hN (by show N' * 4 ≤ _; omega) hR.1 hR.2 hdg fun q cA H1 hK2 hP2 hD2 hS2 => ?_
  have e1 := (hK.1.2 0 _ rfl).2
  have e2 := (hK2.2 2 _ rfl).2
  have e : cA = cyI := Option.some.inj (e2.symm.trans e1)
  subst e
  exact kk q H1 hP2 hD2 hS2
theorem ct_newZ {n : Int32} {N' : Nat} (cx : CX p s m meth c D cyI cyZ A y0 cc nl ret0 args) (hP : va_P D vwCl V H) (hD : va_D A V) (hS : va_S A s.heap H locs) (m1 : Cond.arrayClass .boolean ∈ BW) (hn : ¬ n < 0) (hN : n.toNatClampNeg = N') (hsm : Nat.ble N' 100000 = true) (hR : (Nat.ble (cells + 1) R.cells && Nat.ble (slots + N') R.slots) = true) (hdg : decode cc pc = .ok (.newarray .boolean, 2))
    (kk : ∀ (q : Nat) (H1 : Heap), va_P D vwCl (V ++ [(q, .inl (cyZ, N', .inl (fun _ => 0)))]) H1 → va_D A (V ++ [(q, .inl (cyZ, N', .inl (fun _ => 0)))]) → va_S A s.heap H1 locs → W p l e R s m args below meth c H1 locs (cells + 1) (slots + N') Q (F0 m (pc + 2) ls (.ref q :: rest))) : W p l e R s m args below meth c H locs cells slots Q (F0 m pc ls (.int n :: rest)) := by
  obtain ⟨hx, hb, hr, hml, hts, hown, hlocks, hnm, hK, hA⟩ := cx
  simp only [Bool.and_eq_true, Nat.ble_eq] at hR
  have hs2 := Nat.le_of_ble_eq_true hsm
  refine va_newa (atype := .boolean) hx hb (hts _ m1) (ty := .boolean) rfl hK.1 hP hD hS hA (a0 := (N', .inl (fun _ => 0))) (fun cA => rfl) hn hN (by show N' * 1 ≤ _; omega) hR.1 hR.2 hdg fun q cA H1 hK2 hP2 hD2 hS2 => ?_
  have e1 := (hK.1.2 1 _ rfl).2
  have e2 := (hK2.2 2 _ rfl).2
  have e : cA = cyZ := Option.some.inj (e2.symm.trans e1)
  subst e
  exact kk q H1 hP2 hD2 hS2
theorem ct_obj (cx : CX p s m meth c D cyI cyZ A y0 cc nl ret0 args) (m1 : Cond.methodLink y0.cls idx objectInit ∈ BW) (m2 : Cond.instanceMethod objectInit ∈ BW) (m3 : Cond.code objectInit ⟨#[0xb1]⟩ 1 none ∈ BW) (hsz : ls.size = nl) (hR : (Nat.ble 1 R.frames && Nat.ble ((rest.map fun v => v.category).sum + 12) R.locals) = true) (hdg : decode cc pc = .ok (.invokespecial idx, 3))
    (kk : W p l e R s m args below meth c H locs cells slots Q (F0 m (pc + 3) ls rest)) : W p l e R s m args below meth c H locs cells slots Q (F0 m pc ls (.ref a :: rest)) := by
  obtain ⟨hx, hb, hr, hml, hts, hown, hlocks, hnm, hK, hA⟩ := cx
  simp only [Bool.and_eq_true, Nat.ble_eq] at hR
  exact W.objInit hx hb hown (hts _ m1) (hts _ m2) (hts _ m3) rfl (by rw [hml]; exact hsz) rfl hdg hR.1 (by show 2 * 0 + _ + 12 ≤ _; omega) kk
theorem ct_max (cx : CX p s m meth c D cyI cyZ A y0 cc nl ret0 args) (m1 : Cond.methodLink y0.cls idx Lib.Math.max.name ∈ BW) (m2 : Cond.static Lib.Math.max.name ∈ BW) (m3 : Cond.initialized "java/lang/Math" ∈ BW) (m4 : Cond.code Lib.Math.max.name Lib.Math.max.code 2 (some .int) ∈ BW) (hsz : ls.size = nl) (hR : (Nat.ble 1 R.frames && Nat.ble ((rest.map fun v => v.category).sum + 13) R.locals && Nat.ble cells R.cells && Nat.ble slots R.slots) = true) {x y : Int32} (hdg : decode cc pc = .ok (.invokestatic idx, 3))
    (kk : W p l e R s m args below meth c H locs cells slots Q (F0 m (pc + 3) ls (.int (if x < y then y else x) :: rest))) : W p l e R s m args below meth c H locs cells slots Q (F0 m pc ls (.int y :: .int x :: rest)) := by
  obtain ⟨hx, hb, hr, hml, hts, hown, hlocks, hnm, hK, hA⟩ := cx
  simp only [Bool.and_eq_true, Nat.ble_eq] at hR
  exact va_mmax hx hb (by rw [hml]; exact hsz.symm) hown (hts _ m1) (hts _ m2) (hts _ m3) (hts _ m4) hR.1.1.1 hR.1.1.2 hR.1.2 hR.2 hdg kk
end CTR
theorem vp_of {x M : Int32} {n : Nat} (h0 : ¬ x < 0 ∨ 0 ≤ x) (h1 : ¬ M ≤ x ∨ x < M) (hM : M.toInt = (n : Int)) : vp_in x n := by
  rw [vp_in_iff]
  simp only [Int32.lt_iff_toInt_lt, Int32.le_iff_toInt_le, hM] at h0 h1
  have e0 : (0 : Int32).toInt = 0 := rfl
  rw [e0] at h0
  omega
