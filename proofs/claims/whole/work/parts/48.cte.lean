/-! contracts of constructors: the world behind them has new cells, whose addresses are some -/
def QE (D : va_G) (A : Nat → Prop) (Wf : (Nat → Nat) → va_W) : Array Value → State → Outcome → State → Prop := fun a st oc t => ∃ ad : Nat → Nat, QX D A none (Wf ad) a st oc t
def CTE (l : Launch) (D : va_G) (cyI cyZ : ClassId) (y : MethodName) (cc : ByteArray) (nl : Nat) (rm : Room) (args : List Value) (V : va_W) (Wf : (Nat → Nat) → va_W) : Prop :=
  ∀ sz : Nat, Met l y (Cond.code y cc nl none :: BW) rm (PX D cyI cyZ args V sz) (QE D (va_A V sz) Wf) rm.cells rm.slots (va_A V sz)
theorem ct_introE {l : Launch} {D : va_G} {cyI cyZ : ClassId} {y : MethodName} {cc : ByteArray} {nl : Nat} {rm : Room} {args : List Value} {V : va_W} {Wf : (Nat → Nat) → va_W} (hy : plainName y.cls = true) (hlen : (lg_sl args).length ≤ nl)
    (body : ∀ (p : Program) (e : Env) (s : State) (m : MethodId) (below : List Frame) (meth : Method) (c : Code) (A : Nat → Prop) (ls : Array Slot), CX p s m meth c D cyI cyZ A y cc nl none args.toArray → va_P D vwCl V s.heap → va_D A V → va_S A s.heap s.heap [] → lv_has ls nl (lv_args 0 args) →
      W p l e rm s m args.toArray below meth c s.heap [] 0 0 (MQ below (QE D A Wf) args.toArray s rm.cells rm.slots A) (F0 m 0 ls [])) : CTE l D cyI cyZ y cc nl rm args V Wf := by
  intro sz
  refine Met.ofW (cc := cc) (maxL := nl) (ret := none) hy rfl ?_
  intro p e s m args' below meth c s₁ B hml hv
  obtain ⟨rfl, hsz, hP, hK, hD0⟩ := hv
  have hts := atoms_spec (ws := Cond.code y cc nl none :: BW) B.pre
  have hown : s.vm.findClass y.cls = some m.cls := findClass_of_methodNamed B.named
  have hin : meth.name = y.name := (name_of_methodNamed B.named B.method).1
  subst hsz
  have hD := hD0.self (sz := s.heap.size)
  rw [lg_entry_eq]
  exact body p e s m below meth c _ _ ⟨B.exec, B.bytes, B.returns, hml, fun w h => hts w (List.mem_cons_of_mem _ h), hown, B.notSynchronized, hin, hK, fun q h => Or.inr h⟩ hP hD va_S.rf (lv_entry args hlen)
section CTRE
variable {p : Program} {l : Launch} {e : Env} {R : Room} {s : State} {m : MethodId} {args : Array Value} {below : List Frame} {meth : Method} {c : Code} {H : Heap} {locs : List Loc} {cells slots : Nat} {Q : State → Prop}
variable {D : va_G} {cyI cyZ : ClassId} {A : Nat → Prop} {y0 : MethodName} {cc : ByteArray} {nl : Nat} {ret0 : Option FieldType} {pc : Nat} {ls : Array Slot} {rest : List Value} {V V0 : va_W}
theorem va_callxE {A1 : Nat → Prop} {H0 : Heap} {mc ms : Nat} {free : Addr → Prop} {st0 : List Value} {Wf : (Nat → Nat) → va_W} {ar : Array Value} (hr : va_Run p l e R s m args below meth c H locs cells slots mc ms (F0 m pc ls st0) rest (QE D A1 Wf ar) free) (hS : va_S A H0 H locs) (hA : ∀ q, q < H.size → A1 q → A q) (hf : ∀ q, free q → A q)
    (kk : ∀ (ad : Nat → Nat) (H1 : Heap) (locs1 : List Loc), va_P D vwCl (Wf ad) H1 → va_D A1 (Wf ad) → (∀ q : Nat, q < H.size → ¬ A1 q → H1[q]? = H[q]?) → va_S A H0 H1 locs1 → W p l e R s m args below meth c H1 locs1 (cells + mc) (slots + ms) Q (F0 m (pc + 3) ls rest)) : W p l e R s m args below meth c H locs cells slots Q (F0 m pc ls st0) := by
  intro T hT X
  obtain ⟨v, st₀, t, T', L, h0, X', hL, e1, e2, ⟨ad, ⟨⟨hv, hp, hd⟩, hz, hk⟩⟩, st⟩ := hr T hT X
  cases hv
  rw [h0] at hz hk
  obtain ⟨t2, a1, b1⟩ := kk ad T'.heap (locs ++ L) (by rw [e1]; exact hp) hd (fun q h1 h2 => by rw [e1]; exact hk q h1 h2)
    ⟨Nat.le_trans hS.1 (by rw [e1]; exact hz), fun q h1 h2 => by rw [e1, hk q (Nat.lt_of_lt_of_le h1 hS.1) (fun z => h2 (hA q (Nat.lt_of_lt_of_le h1 hS.1) z))]; exact hS.2.1 q h1 h2, fun q hq => by
      rcases List.mem_append.mp hq with h | h
      · exact hS.2.2 q h
      · exact hf _ (hL q h)⟩ T' rfl X'
  exact ⟨t2, st t2 a1, b1⟩
theorem at_app {x y : va_W} {k : Nat} {q : Nat × va_E} (h : (x ++ y)[k]? = some q) : x[k]? = some q ∨ (x.length ≤ k ∧ y[k - x.length]? = some q) := by
  by_cases c : k < x.length
  · rw [List.getElem?_append_left c] at h
    exact Or.inl h
  · rw [List.getElem?_append_right (by omega)] at h
    exact Or.inr ⟨by omega, h⟩
theorem ct_afterE {b : Nat} {e0 e1 : va_E} {nw : va_W} (hP : va_P D vwCl (V0 ++ [(b, e0)]) H) (hD : va_D A (V0 ++ [(b, e0)])) {H1 : Heap} (hk : ∀ q : Nat, q < H.size → ¬ va_A [(b, e0)] H.size q → H1[q]? = H[q]?) (hF : ∀ q, va_A [(b, e0)] H.size q → A q) (hP1 : va_P D vwCl ((b, e1) :: nw) H1) (hD1 : va_D (va_A [(b, e0)] H.size) ((b, e1) :: nw)) : va_P D vwCl (V0 ++ (b, e1) :: nw) H1 ∧ va_D A (V0 ++ (b, e1) :: nw) := by
  have inV : ∀ (k : Nat) (q : Nat × va_E), V0[k]? = some q → (V0 ++ [(b, e0)])[k]? = some q := by
    intro k q h
    have hl : k < V0.length := (List.getElem?_eq_some_iff.mp h).1
    rw [List.getElem?_append_left hl]
    exact h
  have hb : (V0 ++ [(b, e0)])[V0.length]? = some (b, e0) := by
    rw [List.getElem?_append_right (Nat.le_refl _), Nat.sub_self]
    rfl
  have one : ∀ (q : Nat), (∃ (k : Nat) (e : va_E), ([(b, e0)] : va_W)[k]? = some (q, e)) → q = b := by
    rintro q ⟨k, e, h⟩
    cases k with
    | zero =>
      have h2 := Option.some.inj h
      exact (congrArg Prod.fst h2).symm
    | succ k => cases h
  have apart : ∀ (k : Nat) (q : Nat × va_E), V0[k]? = some q → q.1 < H.size ∧ ¬ va_A [(b, e0)] H.size q.1 := by
    intro k q h
    have hl := (hP k q (inV k q h)).lt
    refine ⟨hl, fun z => ?_⟩
    rcases z with z | z
    · have hq := one _ z
      have := hD.1 k V0.length q (b, e0) (inV k q h) hb hq
      have hl2 : k < V0.length := (List.getElem?_eq_some_iff.mp h).1
      omega
    · omega
  refine ⟨fun k q hq => ?_, fun i j x y hi hj hxy => ?_, fun k q hq => ?_⟩
  · rcases at_app hq with h | ⟨-, h⟩
    · exact (hP k q (inV k q h)).kept (hk q.1 (apart k q h).1 (apart k q h).2)
    · exact hP1 _ q h
  · rcases at_app hi with h | ⟨h0, h⟩ <;> rcases at_app hj with g | ⟨g0, g⟩
    · exact hD.1 i j x y (inV i x h) (inV j y g) hxy
    · exact absurd (by rw [hxy]; exact hD1.2 _ y g) (apart i x h).2
    · exact absurd (by rw [← hxy]; exact hD1.2 _ x h) (apart j y g).2
    · have := hD1.1 _ _ x y h g hxy
      omega
  · rcases at_app hq with h | ⟨-, h⟩
    · exact hD.2 k q (inV k q h)
    · exact hF _ (hD1.2 _ q h)
theorem ct_vretE {Wf : (Nat → Nat) → va_W} (ad : Nat → Nat) (cx : CX p s m meth c D cyI cyZ A y0 cc nl none args) (hP : va_P D vwCl (Wf ad) H) (hD : va_D A (Wf ad)) (hS : va_S A s.heap H locs) (hdg : decode cc pc = .ok (.return_, 1)) : W p l e R s m args below meth c H locs cells slots (MQ below (QE D A Wf) args s cells slots A) (F0 m pc ls []) := by
  obtain ⟨hx, hb, hr, hml, hts, hown, hlocks, hnm, hK, hA⟩ := cx
  exact W.vret hx hb hr (fun t ht hW => ⟨ad, ⟨rfl, by rw [ht]; exact hP, hD⟩, hS.F ht⟩) hS.2.2 hdg hlocks
variable {idx : Nat} {y : MethodName} {bytes : ByteArray} {maxL n : Nat} {rm2 : Room} {As : List Value} {b : Nat}
theorem ct_callIE {e0 : va_E} {e1 : (Nat → Nat) → va_E} {nw : (Nat → Nat) → va_W} (cx : CX p s m meth c D cyI cyZ A y0 cc nl ret0 args) (hC : CTE l D cyI cyZ y bytes maxL rm2 (.ref b :: As) [(b, e0)] (fun ad => (b, e1 ad) :: nw ad)) (V0 : va_W) (hP : va_P D vwCl (V0 ++ [(b, e0)]) H) (hD : va_D A (V0 ++ [(b, e0)])) (hS : va_S A s.heap H locs)
    (m1 : Cond.methodLink y0.cls idx y ∈ BW) (m2 : Cond.instanceMethod y ∈ BW) (m4 : Cond.initialized y.cls ∈ BW) (m5 : Cond.code y bytes maxL none ∈ BW)
    (hd : y.name = "<init>" ∧ y.cls ≠ "java/lang/invoke/MethodHandle" ∧ y.cls ≠ "java/lang/invoke/VarHandle" ∧ (parseMethodDescriptor y.desc).map (fun d => d.parameters.length) = some As.length) (hR : (Nat.ble (rm2.frames + 1) R.frames && Nat.ble (8 + (maxL + 11) + rm2.locals) R.locals && Nat.ble (cells + rm2.cells) R.cells && Nat.ble (slots + rm2.slots) R.slots) = true) (hsz : ls.size = nl) (hroom : Nat.ble ((rest.map fun v => v.category).sum) 8 = true) (hdg : decode cc pc = .ok (.invokespecial idx, 3))
    (kk : ∀ (ad : Nat → Nat) (H1 : Heap) (locs1 : List Loc), va_P D vwCl (V0 ++ (b, e1 ad) :: nw ad) H1 → va_D A (V0 ++ (b, e1 ad) :: nw ad) → va_S A s.heap H1 locs1 → W p l e R s m args below meth c H1 locs1 (cells + rm2.cells) (slots + rm2.slots) Q (F0 m (pc + 3) ls rest)) : W p l e R s m args below meth c H locs cells slots Q (F0 m pc ls (As.reverse ++ .ref b :: rest)) := by
  obtain ⟨hx, hb, hr, hml, hts, hown, hlocks, hnm, hK, hA⟩ := id cx
  simp only [Bool.and_eq_true, Nat.ble_eq] at hR
  have hC0 : [V0.length].map (fun i => (V0 ++ [(b, e0)])[i]?) = ([(b, e0)] : va_W).map some := by
    simp
  have hPc := va_Psub hP [V0.length] hC0
  have hDc : va_D A [(b, e0)] := hD.sub [V0.length] rfl hC0
  have hFc := va_free (wc := [(b, e0)]) hD hS hA [V0.length] hC0
  have pr := ct_pre cx (asv := .ref b :: As) hPc hDc
  refine va_callxE (va_runI (As := As) (rest := rest) ⟨hx, hb, hml, hown, hts⟩ (hC H.size) ⟨callB_of As.length hts (ct_words m5) rfl rfl rfl (hts _ m4) (hts _ m1) hd.2 ⟨hR.1.1.1, hR.1.1.2⟩, hd.1, hts _ m2⟩ pr rfl rfl hsz rfl (lv_room (Nat.le_of_ble_eq_true hroom)) hdg ⟨hR.1.2, hR.2⟩) hS (fun q _ h => hFc q h) hFc (fun ad H1 locs1 hP1 hD1 hk1 hS1 => ?_)
  obtain ⟨hP2, hD2⟩ := ct_afterE hP hD hk1 hFc hP1 hD1
  exact kk ad H1 locs1 hP2 hD2 hS1
theorem ct_callINE {host : String} {e0 : va_E} {e1 : (Nat → Nat) → va_E} {nw : (Nat → Nat) → va_W} (cx : CX p s m meth c D cyI cyZ A y0 cc nl ret0 args) (hC : CTE l D cyI cyZ y bytes maxL rm2 (.ref b :: As) [(b, e0)] (fun ad => (b, e1 ad) :: nw ad)) (V0 : va_W) (hP : va_P D vwCl (V0 ++ [(b, e0)]) H) (hD : va_D A (V0 ++ [(b, e0)])) (hS : va_S A s.heap H locs)
    (m1 : Cond.methodLinkNest y0.cls idx y host ∈ NW) (m2 : Cond.instanceMethod y ∈ BW) (m4 : Cond.initialized y.cls ∈ BW) (m5 : Cond.code y bytes maxL none ∈ BW)
    (hd : y.name = "<init>" ∧ y.cls ≠ "java/lang/invoke/MethodHandle" ∧ y.cls ≠ "java/lang/invoke/VarHandle" ∧ (parseMethodDescriptor y.desc).map (fun d => d.parameters.length) = some As.length) (hR : (Nat.ble (rm2.frames + 1) R.frames && Nat.ble (8 + (maxL + 11) + rm2.locals) R.locals && Nat.ble (cells + rm2.cells) R.cells && Nat.ble (slots + rm2.slots) R.slots) = true) (hsz : ls.size = nl) (hroom : Nat.ble ((rest.map fun v => v.category).sum) 8 = true) (hdg : decode cc pc = .ok (.invokespecial idx, 3))
    (kk : ∀ (ad : Nat → Nat) (H1 : Heap) (locs1 : List Loc), va_P D vwCl (V0 ++ (b, e1 ad) :: nw ad) H1 → va_D A (V0 ++ (b, e1 ad) :: nw ad) → va_S A s.heap H1 locs1 → W p l e R s m args below meth c H1 locs1 (cells + rm2.cells) (slots + rm2.slots) Q (F0 m (pc + 3) ls rest)) : W p l e R s m args below meth c H locs cells slots Q (F0 m pc ls (As.reverse ++ .ref b :: rest)) := by
  obtain ⟨hx, hb, hr, hml, hts, hown, hlocks, hnm, hK, hA⟩ := id cx
  simp only [Bool.and_eq_true, Nat.ble_eq] at hR
  have hC0 : [V0.length].map (fun i => (V0 ++ [(b, e0)])[i]?) = ([(b, e0)] : va_W).map some := by
    simp
  have hPc := va_Psub hP [V0.length] hC0
  have hDc : va_D A [(b, e0)] := hD.sub [V0.length] rfl hC0
  have hFc := va_free (wc := [(b, e0)]) hD hS hA [V0.length] hC0
  have pr := ct_pre cx (asv := .ref b :: As) hPc hDc
  refine va_callxE (va_runIN (As := As) (rest := rest) ⟨hx, hb, hml, hown, hts⟩ (hC H.size) ⟨va_cnB As.length hts (ct_words m5) rfl rfl rfl (hK.2 _ m1) (hts _ m4) hd.2 ⟨hR.1.1.1, hR.1.1.2⟩, hd.1, hts _ m2⟩ pr rfl rfl hsz rfl (lv_room (Nat.le_of_ble_eq_true hroom)) hdg ⟨hR.1.2, hR.2⟩) hS (fun q _ h => hFc q h) hFc (fun ad H1 locs1 hP1 hD1 hk1 hS1 => ?_)
  obtain ⟨hP2, hD2⟩ := ct_afterE hP hD hk1 hFc hP1 hD1
  exact kk ad H1 locs1 hP2 hD2 hS1
end CTRE
