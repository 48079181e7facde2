theorem ite_cg {α : Type} {c d : Prop} [Decidable c] [Decidable d] {a a2 b b2 : α} (h : c ↔ d) (hx : a = a2) (hy : b = b2) : (if c then a else b) = (if d then a2 else b2) := by
  by_cases k : c
  · rw [if_pos k, if_pos (h.mp k), hx]
  · rw [if_neg k, if_neg (fun q => k (h.mpr q)), hy]
theorem SHR.push {M : Nat} {n : Int32} {f z : Nat → Int32} {m : Int32} {e y : Nat → Int32} {o : Nat} {un v : Int32} {uf E : Nat → Int32} (h : SHR M n f z m e y o) (hM : M ≤ 80) (hn : n.toInt < (M : Int)) (hi : IR un uf v E) : SHR M (n + 1) (stoF (24 * n.toInt.toNat) 0 un.toInt.toNat uf f) (upd z n.toNatClampNeg un) (m + 1) (stoF (24 * (o + n.toInt.toNat)) 0 v.toInt.toNat E e) (upd y (o + n.toInt.toNat) v) o := by
  obtain ⟨rfl, hb, hk⟩ := h
  obtain ⟨rfl, h24, hc⟩ := hi
  have e1 := inc_i (n := 80) hb.1 (by omega) (by omega)
  refine ⟨rfl, by rw [e1]; omega, fun i hi => ?_⟩
  rw [e1] at hi
  by_cases c : i = n.toInt.toNat
  · subst c
    refine ⟨?_, ?_, fun k hk2 => ?_⟩
    · rw [tN, upd_s, upd_s]
    · rw [upd_s]
      exact h24
    · rw [upd_s] at hk2
      have a := hc k hk2
      have e2 : stoF (24 * n.toInt.toNat) 0 un.toInt.toNat uf f (24 * n.toInt.toNat + k) = uf k := by
        simp only [stoF]
        rw [if_pos (by omega), Nat.add_sub_cancel_left]
      have e3 : stoF (24 * (o + n.toInt.toNat)) 0 un.toInt.toNat E e (24 * (o + n.toInt.toNat) + k) = E k := by
        simp only [stoF]
        rw [if_pos (by omega), Nat.add_sub_cancel_left]
      show stoF (24 * n.toInt.toNat) 0 un.toInt.toNat uf f (24 * n.toInt.toNat + k) = stoF (24 * (o + n.toInt.toNat)) 0 un.toInt.toNat E e (24 * (o + n.toInt.toNat) + k) ∧ 0 ≤ (stoF (24 * (o + n.toInt.toNat)) 0 un.toInt.toNat E e (24 * (o + n.toInt.toNat) + k)).toInt ∧ (stoF (24 * (o + n.toInt.toNat)) 0 un.toInt.toNat E e (24 * (o + n.toInt.toNat) + k)).toInt ≤ 255
      rw [e2, e3]
      exact a
  · have hi2 : (i : Int) < n.toInt := by omega
    obtain ⟨a1, a2, a3⟩ := hk i hi2
    refine ⟨?_, ?_, fun k hk2 => ?_⟩
    · rw [tN, upd_n _ _ c, upd_n _ _ (by omega)]
      exact a1
    · rw [upd_n _ _ (by omega)]
      exact a2
    · rw [upd_n _ _ (by omega)] at hk2
      have e2 : stoF (24 * n.toInt.toNat) 0 un.toInt.toNat uf f (24 * i + k) = f (24 * i + k) := by
        simp only [stoF]
        rw [if_neg (by omega)]
      have e3 : stoF (24 * (o + n.toInt.toNat)) 0 un.toInt.toNat E e (24 * (o + i) + k) = e (24 * (o + i) + k) := by
        simp only [stoF]
        rw [if_neg (by omega)]
      show stoF (24 * n.toInt.toNat) 0 un.toInt.toNat uf f (24 * i + k) = stoF (24 * (o + n.toInt.toNat)) 0 un.toInt.toNat E e (24 * (o + i) + k) ∧ 0 ≤ (stoF (24 * (o + n.toInt.toNat)) 0 un.toInt.toNat E e (24 * (o + i) + k)).toInt ∧ (stoF (24 * (o + n.toInt.toNat)) 0 un.toInt.toNat E e (24 * (o + i) + k)).toInt ≤ 255
      rw [e2, e3]
      exact a3 k hk2
def RW (b : Nat) (S : Nat → Nat → Prop) (ff E : Nat → Int32) : Prop := ∀ f w, w < 5 → S f w → ff (5 * f + w) = E (5 * (20 * b + f) + w)
theorem RW.up {b : Nat} {S : Nat → Nat → Prop} {ff E : Nat → Int32} (h : RW b S ff E) {n w0 : Nat} (hw : w0 < 5) {v v' : Int32} (hv : v = v') : RW b (fun f w => S f w ∨ (f = n ∧ w = w0)) (upd ff (5 * n + w0) v) (upd E (5 * (20 * b + n) + w0) v') := by
  intro f w hw2 hs
  by_cases c : f = n ∧ w = w0
  · rw [c.1, c.2, upd_s, upd_s, hv]
  · rw [upd_n _ _ (by omega), upd_n _ _ (by omega)]
    rcases hs with hs | hs
    · exact h f w hw2 hs
    · exact absurd hs c
theorem ix5 {i w : Int32} {j : Nat} (hi : 0 ≤ i.toInt ∧ i.toInt < 40) (hw : w.toInt = (j : Int)) (hj : j < 5) : ((i * (5 : Int32)) + w).toNatClampNeg = 5 * i.toInt.toNat + j := by
  rw [Int32.mul_comm, tN, mad_i (k := 5) rfl (by omega) (by omega) (by omega), hw]
  omega
theorem ix5' {i w : Int32} {j : Nat} (hi : 0 ≤ i.toInt ∧ i.toInt < 40) (hw : w.toInt = (j : Int)) (hj : j < 5) : (((5 : Int32) * i) + w).toNatClampNeg = 5 * i.toInt.toNat + j := by
  rw [tN, mad_i (k := 5) rfl (by omega) (by omega) (by omega), hw]
  omega
theorem ix50 {i : Int32} (hi : 0 ≤ i.toInt ∧ i.toInt < 40) : ((5 : Int32) * i).toNatClampNeg = 5 * i.toInt.toNat := by
  rw [tN, (lit_m (c := 5) (x := i) (k := 5) rfl (by omega) (by omega)).1]
  omega
theorem f20_i {bi i : Int32} {b : Nat} (hb : bi.toInt = (b : Int)) (hb1 : b < 2) (hi : 0 ≤ i.toInt ∧ i.toInt ≤ 20) : ((20 : Int32) * bi + i).toInt = 20 * b + i.toInt := by
  rw [mad_i (k := 20) rfl (by omega) (by omega) (by omega), hb]
  rfl
theorem has3 {i : Int32} {f : Nat → Int32} {sn : Int32} {sf sz : Nat → Int32} (h : 0 ≤ i.toInt ∧ i.toInt < sn.toInt) (hs : sn.toInt ≤ 20) : ¬ r_X3_has i f sn sf sz = 0 := by
  unfold r_X3_has
  have z : (0 : Int32).toInt = 0 := rfl
  have e20 : (20 : Int32).toInt = 20 := rfl
  rw [if_neg (show ¬ i < 0 by simp only [sg_lt]; omega), if_neg (show ¬ 20 ≤ i by simp only [sg_le]; omega), if_neg (show ¬ sn ≤ i by simp only [sg_le]; omega)]
  decide
theorem match_sim {b : Nat} {bi i : Int32} {ff : Nat → Int32} {sn : Int32} {sf sz : Nat → Int32} {tg : Nat → Int32} {tF : Nat → Nat → Int32} {g : Nat → Int32} {F : Nat → Nat → Int32} (hb : bi.toInt = (b : Int)) (hb1 : b < 2) (hT : TR tg tF g F) (hi : 0 ≤ i.toInt ∧ i.toInt < sn.toInt) (hs : sn.toInt ≤ 20) (hF : FRW b ff sn (F 34)) : r_X3_matches i ff sn sf sz tg tF = r_X9_shows ((20 : Int32) * bi + i) g F := by
  unfold r_X3_matches r_X9_shows
  have ef := f20_i hb hb1 (i := i) (by omega)
  have hf : 0 ≤ ((20 : Int32) * bi + i).toInt ∧ ((20 : Int32) * bi + i).toInt < 40 := by rw [ef]; omega
  have en : ((20 : Int32) * bi + i).toInt.toNat = 20 * b + i.toInt.toNat := by rw [ef]; omega
  have hk := fun w hw => hF i.toInt.toNat (by omega) w hw
  rw [if_neg (has3 hi hs), ix5 (j := 0) (by omega) rfl (by omega), ix5 (j := 1) (by omega) rfl (by omega), ix5 (j := 2) (by omega) rfl (by omega), ix5 (j := 3) (by omega) rfl (by omega), ix50 hf, ix5' (j := 1) hf rfl (by omega), ix5' (j := 2) hf rfl (by omega), ix5' (j := 3) hf rfl (by omega), en, hk 0 (by omega), hk 1 (by omega), hk 2 (by omega), hk 3 (by omega), oc_sim hT 0, oc_sim hT 1, hT.1, hT.2.2.1, Nat.add_zero]
  exact ite_cg eq_comm (ite_cg eq_comm (ite_cg eq_comm (ite_cg eq_comm rfl rfl) rfl) rfl) rfl
/-- what the other bench sees: nothing -/
def OB (b : Nat) (F F' : Nat → Nat → Int32) : Prop := (∀ k, k ≠ b → F' 30 k = F 30 k) ∧ (∀ k, k ≠ b → F' 32 k = F 32 k) ∧ (∀ k, k ≠ b → F' 33 k = F 33 k) ∧ (∀ i, (i < 960 * b ∨ 960 * b + 960 ≤ i) → F' 28 i = F 28 i) ∧ (∀ i, (i < 40 * b ∨ 40 * b + 40 ≤ i) → F' 29 i = F 29 i) ∧ (∀ i, (i < 1600 * b ∨ 1600 * b + 1600 ≤ i) → F' 31 i = F 31 i) ∧ (∀ i, (i < 100 * b ∨ 100 * b + 100 ≤ i) → F' 34 i = F 34 i) ∧ (∀ i, (i < 480 * b ∨ 480 * b + 480 ≤ i) → F' 35 i = F 35 i) ∧ (∀ i, (i < 20 * b ∨ 20 * b + 20 ≤ i) → F' 36 i = F 36 i)
theorem OB.refl {b : Nat} {F : Nat → Nat → Int32} : OB b F F := ⟨fun _ _ => rfl, fun _ _ => rfl, fun _ _ => rfl, fun _ _ => rfl, fun _ _ => rfl, fun _ _ => rfl, fun _ _ => rfl, fun _ _ => rfl, fun _ _ => rfl⟩
theorem OB.trans {b : Nat} {F G H : Nat → Nat → Int32} (h : OB b F G) (k : OB b G H) : OB b F H := by
  obtain ⟨a1, a2, a3, a4, a5, a6, a7, a8, a9⟩ := h
  obtain ⟨b1, b2, b3, b4, b5, b6, b7, b8, b9⟩ := k
  exact ⟨fun i hi => (b1 i hi).trans (a1 i hi), fun i hi => (b2 i hi).trans (a2 i hi), fun i hi => (b3 i hi).trans (a3 i hi), fun i hi => (b4 i hi).trans (a4 i hi), fun i hi => (b5 i hi).trans (a5 i hi), fun i hi => (b6 i hi).trans (a6 i hi), fun i hi => (b7 i hi).trans (a7 i hi), fun i hi => (b8 i hi).trans (a8 i hi), fun i hi => (b9 i hi).trans (a9 i hi)⟩
theorem BR.other {b c : Nat} {T T' : Int} {cv : Nat → Int32} {tr pn : Int32} {pf pz ff : Nat → Int32} {fsn : Int32} {fsf fsz : Nat → Int32} {F F' : Nat → Nat → Int32} (h : BR c T cv tr pn pf pz ff fsn fsf fsz F) (hT : T ≤ T') (o : OB b F F') (hbc : c ≠ b) (hb : b < 2) (hc : c < 2) : BR c T' cv tr pn pf pz ff fsn fsf fsz F' := by
  obtain ⟨o1, o2, o3, o4, o5, o6, o7, o8, o9⟩ := o
  obtain ⟨⟨a1, a2, a3⟩, ⟨b1, b2, b3⟩, ⟨c1, c2, c3⟩, d, e⟩ := h
  refine ⟨⟨by rw [o2 c hbc]; exact a1, a2, by omega⟩, ⟨by rw [o1 c hbc]; exact b1, by rw [o1 c hbc]; exact b2, ?_⟩, ⟨by rw [o3 c hbc]; exact c1, by rw [o3 c hbc]; exact c2, ?_⟩, ?_, ?_⟩
  · rw [o1 c hbc]
    intro i hi
    obtain ⟨x1, x2, x3⟩ := b3 i hi
    have e1 : F' 29 (40 * c + i) = F 29 (40 * c + i) := o5 _ (by omega)
    refine ⟨by rw [e1]; exact x1, by rw [e1]; exact x2, fun k hk => ?_⟩
    rw [e1] at hk
    have e2 : F' 28 (24 * (40 * c + i) + k) = F 28 (24 * (40 * c + i) + k) := o4 _ (by omega)
    show pf _ = F' 28 _ ∧ 0 ≤ (F' 28 _).toInt ∧ (F' 28 _).toInt ≤ 255
    rw [e2]
    exact x3 k hk
  · rw [o3 c hbc]
    intro i hi
    obtain ⟨x1, x2, x3⟩ := c3 i hi
    have e1 : F' 36 (20 * c + i) = F 36 (20 * c + i) := o9 _ (by omega)
    refine ⟨by rw [e1]; exact x1, by rw [e1]; exact x2, fun k hk => ?_⟩
    rw [e1] at hk
    have e2 : F' 35 (24 * (20 * c + i) + k) = F 35 (24 * (20 * c + i) + k) := o8 _ (by omega)
    show fsf _ = F' 35 _ ∧ 0 ≤ (F' 35 _).toInt ∧ (F' 35 _).toInt ≤ 255
    rw [e2]
    exact x3 k hk
  · intro f hf w hw
    have hf20 : fsn.toInt ≤ 20 := by rw [c1]; exact c2.2
    rw [o7 _ (by omega)]
    exact d f hf w hw
  · intro k hk
    obtain ⟨v, v1, v2, v3, v4⟩ := e k hk
    exact ⟨v, v1, v2, v3, fun x hx => by rw [o6 _ (by omega)]; exact v4 x hx⟩
/-- what the faults' part of a try leaves -/
def FQ (b : Nat) (G : Nat → Nat → Int32) (r : Int32 × (Nat → Int32) × Int32 × (Nat → Int32) × (Nat → Int32)) (t : Int32 × (Nat → Nat → Int32)) : Prop := ((r.1 = 0 ∧ t.1 = 0) ∨ (r.1 = 1 ∧ t.1 = 2)) ∧ SHR 20 r.2.2.1 r.2.2.2.1 r.2.2.2.2 (t.2 33 b) (t.2 35) (t.2 36) (20 * b) ∧ FRW b r.2.1 r.2.2.1 (t.2 34) ∧ OB b G t.2 ∧ (∀ k, k ∉ [33, 34, 35, 36] → t.2 k = G k)
theorem toN_add1 {n : Int32} (h : 0 ≤ n.toInt ∧ n.toInt ≤ 80) : (n + 1).toInt = n.toInt + 1 := inc_i (n := 80) h.1 h.2 (by omega)
theorem flt_app {b : Nat} {bi : Int32} {ff : Nat → Int32} {sn : Int32} {sf sz : Nat → Int32} {tg : Nat → Int32} {tF : Nat → Nat → Int32} {un : Int32} {uf : Nat → Int32} {g : Nat → Int32} {G : Nat → Nat → Int32} (hb : bi.toInt = (b : Int)) (hb1 : b < 2) (hT : TR tg tF g G) (hI : IR un uf (g 10) (G 9)) (hS : SHR 20 sn sf sz (G 33 b) (G 35) (G 36) (20 * b)) (hF : FRW b ff sn (G 34)) (fu : Nat) (x2 : Int32) (hx : ((20 : Int32) * bi + G 33 bi.toNatClampNeg) ≤ x2) : FQ b G (r_X3_append ff sn sf sz tg tF un uf) (g_X9_comes__5 g G bi (fu + 1) x2) := by
  have hbn : bi.toNatClampNeg = b := by rw [tN, hb]; omega
  have hS0 := hS
  obtain ⟨h1, h2, h3⟩ := hS
  have z : (0 : Int32).toInt = 0 := rfl
  have e20 : (20 : Int32).toInt = 20 := rfl
  unfold r_X3_append g_X9_comes__5
  rw [if_pos hx, if_neg (show ¬ sn < 0 by rw [h1]; simp only [sg_lt]; omega), hbn]
  by_cases c : G 33 b = 20
  · rw [if_pos c, if_pos (show (20 : Int32) ≤ sn by rw [h1, c]; decide)]
    exact ⟨Or.inl ⟨rfl, rfl⟩, hS0, hF, OB.refl, fun _ _ => rfl⟩
  · have hlt := ne20 c h2
    have hsn : 0 ≤ sn.toInt ∧ sn.toInt < 20 := by rw [h1]; exact hlt
    have h24 := hI.2.1
    have hun : 0 ≤ un.toInt ∧ un.toInt ≤ 24 := by rw [hI.1]; exact h24
    rw [if_neg c, if_neg (show ¬ (20 : Int32) ≤ sn by rw [h1]; simp only [sg_le]; omega)]
    dsimp only
    rw [sapp_cl (M := 20) (by omega) (by omega) hun, if_neg (show ¬ (1 : Int32) = 0 by decide)]
    have ef := f20_i hb hb1 (i := G 33 b) (by omega)
    have hf : 0 ≤ ((20 : Int32) * bi + G 33 b).toInt ∧ ((20 : Int32) * bi + G 33 b).toInt < 40 := by rw [ef]; omega
    have en : ((20 : Int32) * bi + G 33 b).toInt.toNat = 20 * b + sn.toInt.toNat := by rw [ef, h1]; omega
    rw [cl_comes_157 g bi _ hf rfl (by omega) _ _ _ (by omega) (by omega), hbn]
    rw [ix5 (j := 0) (by omega) rfl (by omega), ix5 (j := 1) (by omega) rfl (by omega), ix5 (j := 2) (by omega) rfl (by omega), ix5 (j := 3) (by omega) rfl (by omega), ix5 (j := 4) (by omega) rfl (by omega), ix50 hf, ix5' (j := 1) hf rfl (by omega), ix5' (j := 2) hf rfl (by omega), ix5' (j := 3) hf rfl (by omega), ix5' (j := 4) hf rfl (by omega)]
    rw [show ((20 : Int32) * bi + G 33 b).toNatClampNeg = 20 * b + sn.toInt.toNat by rw [tN]; exact en, en]
    refine ⟨Or.inr ⟨rfl, rfl⟩, ?_, ?_, ?_, ?_⟩
    · have q := hS0.push (by omega) (by omega) hI
      show SHR 20 (sn + 1) (stoF (24 * sn.toInt.toNat) 0 un.toInt.toNat uf sf) (upd sz sn.toNatClampNeg un) (upd (G 33) b (G 33 b + 1) b) (stoF (24 * (20 * b + sn.toInt.toNat)) 0 (g 10).toInt.toNat (G 9) (G 35)) (upd (G 36) (20 * b + sn.toInt.toNat) (g 10)) (20 * b)
      rw [upd_s]
      exact q
    · show FRW b (upd (upd (upd (upd (upd ff (5 * sn.toInt.toNat + 0) (tg 5)) (5 * sn.toInt.toNat + 1) (tg 6)) (5 * sn.toInt.toNat + 2) (r_X7_openCall 0 tg tF)) (5 * sn.toInt.toNat + 3) (r_X7_openCall 1 tg tF)) (5 * sn.toInt.toNat + 4) 1) (sn + 1) (upd (upd (upd (upd (upd (G 34) (5 * (20 * b + sn.toInt.toNat)) (g 15)) (5 * (20 * b + sn.toInt.toNat) + 1) (g 16)) (5 * (20 * b + sn.toInt.toNat) + 2) (r_X9_openAt 0 g G)) (5 * (20 * b + sn.toInt.toNat) + 3) (r_X9_openAt 1 g G)) (5 * (20 * b + sn.toInt.toNat) + 4) 1)
      have q0 : RW b (fun f _ => (f : Int) < sn.toInt) ff (G 34) := fun f w hw hs => hF f hs w hw
      have q5 := ((((q0.up (n := sn.toInt.toNat) (w0 := 0) (by omega) hT.1).up (n := sn.toInt.toNat) (w0 := 1) (by omega) hT.2.2.1).up (n := sn.toInt.toNat) (w0 := 2) (by omega) (oc_sim hT 0)).up (n := sn.toInt.toNat) (w0 := 3) (by omega) (oc_sim hT 1)).up (n := sn.toInt.toNat) (w0 := 4) (v := 1) (v' := 1) (by omega) rfl
      intro f hf2 w hw
      rw [toN_add1 (by omega)] at hf2
      refine q5 f w hw ?_
      by_cases c2 : (f : Int) < sn.toInt
      · exact Or.inl (Or.inl (Or.inl (Or.inl (Or.inl c2))))
      · have c3 : f = sn.toInt.toNat := by omega
        rcases (show w = 0 ∨ w = 1 ∨ w = 2 ∨ w = 3 ∨ w = 4 by omega) with d | d | d | d | d
        · exact Or.inl (Or.inl (Or.inl (Or.inl (Or.inr ⟨c3, d⟩))))
        · exact Or.inl (Or.inl (Or.inl (Or.inr ⟨c3, d⟩)))
        · exact Or.inl (Or.inl (Or.inr ⟨c3, d⟩))
        · exact Or.inl (Or.inr ⟨c3, d⟩)
        · exact Or.inr ⟨c3, d⟩
    · refine ⟨fun _ _ => rfl, fun _ _ => rfl, fun k hk => ?_, fun _ _ => rfl, fun _ _ => rfl, fun _ _ => rfl, fun i hi => ?_, fun i hi => ?_, fun i hi => ?_⟩
      · show upd (G 33) b (G 33 b + 1) k = _
        exact upd_n _ _ hk
      · show upd (upd (upd (upd (upd (G 34) (5 * (20 * b + sn.toInt.toNat)) (g 15)) (5 * (20 * b + sn.toInt.toNat) + 1) (g 16)) (5 * (20 * b + sn.toInt.toNat) + 2) (r_X9_openAt 0 g G)) (5 * (20 * b + sn.toInt.toNat) + 3) (r_X9_openAt 1 g G)) (5 * (20 * b + sn.toInt.toNat) + 4) 1 i = _
        rw [upd_n _ _ (by omega), upd_n _ _ (by omega), upd_n _ _ (by omega), upd_n _ _ (by omega), upd_n _ _ (by omega)]
      · show stoF (24 * (20 * b + sn.toInt.toNat)) 0 (g 10).toInt.toNat (G 9) (G 35) i = _
        simp only [stoF]
        rw [if_neg (by omega)]
      · show upd (G 36) (20 * b + sn.toInt.toNat) (g 10) i = _
        exact upd_n _ _ (by omega)
    · intro k hk
      simp only [List.mem_cons, List.not_mem_nil, or_false, not_or] at hk
      obtain ⟨k1, k2, k3, k4⟩ := hk
      simp only [va_up]
      rw [if_neg k1, if_neg k3, if_neg k4, if_neg k2, if_neg k2, if_neg k2, if_neg k2, if_neg k2]
theorem flt_loop {b : Nat} {bi : Int32} {ff : Nat → Int32} {sn : Int32} {sf sz : Nat → Int32} {tg : Nat → Int32} {tF : Nat → Nat → Int32} {un : Int32} {uf : Nat → Int32} {g : Nat → Int32} {G : Nat → Nat → Int32} (hb : bi.toInt = (b : Int)) (hb1 : b < 2) (hT : TR tg tF g G) (hI : IR un uf (g 10) (G 9)) (hS : SHR 20 sn sf sz (G 33 b) (G 35) (G 36) (20 * b)) (hF : FRW b ff sn (G 34)) : ∀ (fu fv j : Nat), 20 - j < fu → (j : Int) ≤ sn.toInt → 60 - (20 * b + j) < fv → FQ b G (g_X3_take_11 ff sn sf sz tg tF un uf fu j) (g_X9_comes__5 g G bi fv ((20 : Int32) * bi + nI j))
  | 0, _, _, h, _, _ => absurd h (Nat.not_lt_zero _)
  | _, 0, _, _, _, h => absurd h (Nat.not_lt_zero _)
  | fu + 1, fv + 1, j, hm, hj, hv => by
    have hbn : bi.toNatClampNeg = b := by rw [tN, hb]; omega
    have h1 := hS.1
    have h2 := hS.2.1
    have e20 : (20 : Int32).toInt = 20 := rfl
    have hs20 : sn.toInt ≤ 20 := by rw [h1]; exact h2.2
    have ej := nI_toInt (n := j) (by omega)
    have ex := f20_i hb hb1 (i := nI j) (by omega)
    have es := f20_i hb hb1 (i := G 33 b) (by omega)
    unfold g_X3_take_11
    by_cases c : sn ≤ nI j
    · rw [if_pos c]
      dsimp only
      refine flt_app hb hb1 hT hI hS hF fv _ ?_
      rw [hbn]
      simp only [sg_le] at c ⊢
      rw [es, ex, ← h1]
      omega
    · have c2 := c
      simp only [sg_le] at c2
      have hmt := match_sim (sf := sf) (sz := sz) hb hb1 hT (i := nI j) (by omega) hs20 hF
      rw [if_neg c, if_neg (show ¬ (20 : Int32) ≤ nI j by simp only [sg_le]; omega), hmt]
      unfold g_X9_comes__5
      rw [if_neg (show ¬ ((20 : Int32) * bi + G 33 bi.toNatClampNeg) ≤ ((20 : Int32) * bi + nI j) by rw [hbn]; simp only [sg_le]; rw [es, ex, ← h1]; omega)]
      by_cases d : r_X9_shows ((20 : Int32) * bi + nI j) g G = 0
      · rw [if_pos d, if_pos d, show (20 : Int32) * bi + nI j + 1 = (20 : Int32) * bi + nI (j + 1) by rw [← nI_1, Int32.add_assoc]]
        exact flt_loop hb hb1 hT hI hS hF fu fv (j + 1) (by omega) (by omega) (by omega)
      · rw [if_neg d, if_neg d]
        have hf : 0 ≤ ((20 : Int32) * bi + nI j).toInt ∧ ((20 : Int32) * bi + nI j).toInt < 40 := by rw [ex]; omega
        rw [ix5 (j := 4) (by omega) rfl (by omega), ix5' (j := 4) hf rfl (by omega), show ((20 : Int32) * bi + nI j).toInt.toNat = 20 * b + j by rw [ex]; omega, show (nI j).toInt.toNat = j by omega]
        have hk := hF j (by omega) 4 (by omega)
        have q0 : RW b (fun f _ => (f : Int) < sn.toInt) ff (G 34) := fun f w hw hs => hF f hs w hw
        have q1 := q0.up (n := j) (w0 := 4) (v := ff (5 * j + 4) + 1) (v' := G 34 (5 * (20 * b + j) + 4) + 1) (by omega) (by rw [hk])
        refine ⟨Or.inl ⟨rfl, rfl⟩, hS, fun f hf2 w hw => q1 f w hw (Or.inl hf2), ⟨fun _ _ => rfl, fun _ _ => rfl, fun _ _ => rfl, fun _ _ => rfl, fun _ _ => rfl, fun _ _ => rfl, fun i hi => ?_, fun _ _ => rfl, fun _ _ => rfl⟩, fun k hk2 => ?_⟩
        · show upd (G 34) (5 * (20 * b + j) + 4) (G 34 (5 * (20 * b + j) + 4) + 1) i = _
          exact upd_n _ _ (by omega)
        · simp only [List.mem_cons, List.not_mem_nil, or_false, not_or] at hk2
          exact va_up_ne _ _ hk2.2.1
/-- the faults take a run, on both sides alike -/
theorem flt_sim {b : Nat} {bi : Int32} {ff : Nat → Int32} {sn : Int32} {sf sz : Nat → Int32} {tg : Nat → Int32} {tF : Nat → Nat → Int32} {un : Int32} {uf : Nat → Int32} {g : Nat → Int32} {G : Nat → Nat → Int32} (hb : bi.toInt = (b : Int)) (hb1 : b < 2) (hT : TR tg tF g G) (hI : IR un uf (g 10) (G 9)) (hS : SHR 20 sn sf sz (G 33 b) (G 35) (G 36) (20 * b)) (hF : FRW b ff sn (G 34)) : (g 15 = 0 → FQ b G (r_X3_take ff sn sf sz tg tF un uf) (0, G)) ∧ (¬ g 15 = 0 → FQ b G (r_X3_take ff sn sf sz tg tF un uf) (r_X9_comes_ bi g G)) := by
  unfold r_X3_take r_X9_comes_
  rw [hT.1]
  constructor
  · intro c
    rw [if_pos c]
    exact ⟨Or.inl ⟨rfl, rfl⟩, hS, hF, OB.refl, fun _ _ => rfl⟩
  · intro c
    rw [if_neg c]
    have e : ((20 : Int32) * bi).toInt = 20 * b := by
      rw [(lit_m (c := 20) (x := bi) (k := 20) rfl (by omega) (by omega)).1, hb]
      rfl
    have q := flt_loop hb hb1 hT hI hS hF (20 - 0 + 1) ((60 - ((20 : Int32) * bi).toInt).toNat + 1) 0 (by omega) (by have := hS.2.1; rw [hS.1]; omega) (by rw [e]; omega)
    rw [show (20 : Int32) * bi + nI 0 = (20 : Int32) * bi by rw [show nI 0 = 0 from rfl]; simp] at q
    exact q
/-- the reference's try, behind its run -/
def trb (bi : Int32) (g : Nat → Int32) (F : Nat → Nat → Int32) : Int32 × (Nat → Int32) × (Nat → Nat → Int32) := if ((g_X9_tries_18 g bi (160 - 0 + 1) (va_up F 32 (upd (F 32) bi.toNatClampNeg (((F 32) bi.toNatClampNeg) + (1 : Int32)))) (0 : Int32) 0).2.1) = (0 : Int32) then (if (g 15) = (0 : Int32) then ((0 : Int32), g, (g_X9_tries_18 g bi (160 - 0 + 1) (va_up F 32 (upd (F 32) bi.toNatClampNeg (((F 32) bi.toNatClampNeg) + (1 : Int32)))) (0 : Int32) 0).1) else let u_14 : Int32 × (Nat → Nat → Int32) := r_X9_comes_ bi g ((g_X9_tries_18 g bi (160 - 0 + 1) (va_up F 32 (upd (F 32) bi.toNatClampNeg (((F 32) bi.toNatClampNeg) + (1 : Int32)))) (0 : Int32) 0).1); ((0 : Int32) + u_14.1, g, u_14.2)) else if (40 : Int32) ≤ ((((g_X9_tries_18 g bi (160 - 0 + 1) (va_up F 32 (upd (F 32) bi.toNatClampNeg (((F 32) bi.toNatClampNeg) + (1 : Int32)))) (0 : Int32) 0).1) 30) bi.toNatClampNeg) then (if (g 15) = (0 : Int32) then ((0 : Int32), g, (g_X9_tries_18 g bi (160 - 0 + 1) (va_up F 32 (upd (F 32) bi.toNatClampNeg (((F 32) bi.toNatClampNeg) + (1 : Int32)))) (0 : Int32) 0).1) else let u_19 : Int32 × (Nat → Nat → Int32) := r_X9_comes_ bi g ((g_X9_tries_18 g bi (160 - 0 + 1) (va_up F 32 (upd (F 32) bi.toNatClampNeg (((F 32) bi.toNatClampNeg) + (1 : Int32)))) (0 : Int32) 0).1); ((0 : Int32) + u_19.1, g, u_19.2)) else if (g 15) = (0 : Int32) then ((1 : Int32), g, va_up ((g_X9_tries_129 g bi ((g_X9_tries_18 g bi (160 - 0 + 1) (va_up F 32 (upd (F 32) bi.toNatClampNeg (((F 32) bi.toNatClampNeg) + (1 : Int32)))) (0 : Int32) 0).2.1) (0 : Int32) (((40 : Int32) * bi) + ((((g_X9_tries_18 g bi (160 - 0 + 1) (va_up F 32 (upd (F 32) bi.toNatClampNeg (((F 32) bi.toNatClampNeg) + (1 : Int32)))) (0 : Int32) 0).1) 30) bi.toNatClampNeg)) (24 - 0 + 1) (va_up ((g_X9_tries_18 g bi (160 - 0 + 1) (va_up F 32 (upd (F 32) bi.toNatClampNeg (((F 32) bi.toNatClampNeg) + (1 : Int32)))) (0 : Int32) 0).1) 29 (upd (((g_X9_tries_18 g bi (160 - 0 + 1) (va_up F 32 (upd (F 32) bi.toNatClampNeg (((F 32) bi.toNatClampNeg) + (1 : Int32)))) (0 : Int32) 0).1) 29) ((((40 : Int32) * bi) + ((((g_X9_tries_18 g bi (160 - 0 + 1) (va_up F 32 (upd (F 32) bi.toNatClampNeg (((F 32) bi.toNatClampNeg) + (1 : Int32)))) (0 : Int32) 0).1) 30) bi.toNatClampNeg)).toNatClampNeg) (g 10))) 0).1) 30 (upd (((g_X9_tries_129 g bi ((g_X9_tries_18 g bi (160 - 0 + 1) (va_up F 32 (upd (F 32) bi.toNatClampNeg (((F 32) bi.toNatClampNeg) + (1 : Int32)))) (0 : Int32) 0).2.1) (0 : Int32) (((40 : Int32) * bi) + ((((g_X9_tries_18 g bi (160 - 0 + 1) (va_up F 32 (upd (F 32) bi.toNatClampNeg (((F 32) bi.toNatClampNeg) + (1 : Int32)))) (0 : Int32) 0).1) 30) bi.toNatClampNeg)) (24 - 0 + 1) (va_up ((g_X9_tries_18 g bi (160 - 0 + 1) (va_up F 32 (upd (F 32) bi.toNatClampNeg (((F 32) bi.toNatClampNeg) + (1 : Int32)))) (0 : Int32) 0).1) 29 (upd (((g_X9_tries_18 g bi (160 - 0 + 1) (va_up F 32 (upd (F 32) bi.toNatClampNeg (((F 32) bi.toNatClampNeg) + (1 : Int32)))) (0 : Int32) 0).1) 29) ((((40 : Int32) * bi) + ((((g_X9_tries_18 g bi (160 - 0 + 1) (va_up F 32 (upd (F 32) bi.toNatClampNeg (((F 32) bi.toNatClampNeg) + (1 : Int32)))) (0 : Int32) 0).1) 30) bi.toNatClampNeg)).toNatClampNeg) (g 10))) 0).1) 30) bi.toNatClampNeg (((((g_X9_tries_129 g bi ((g_X9_tries_18 g bi (160 - 0 + 1) (va_up F 32 (upd (F 32) bi.toNatClampNeg (((F 32) bi.toNatClampNeg) + (1 : Int32)))) (0 : Int32) 0).2.1) (0 : Int32) (((40 : Int32) * bi) + ((((g_X9_tries_18 g bi (160 - 0 + 1) (va_up F 32 (upd (F 32) bi.toNatClampNeg (((F 32) bi.toNatClampNeg) + (1 : Int32)))) (0 : Int32) 0).1) 30) bi.toNatClampNeg)) (24 - 0 + 1) (va_up ((g_X9_tries_18 g bi (160 - 0 + 1) (va_up F 32 (upd (F 32) bi.toNatClampNeg (((F 32) bi.toNatClampNeg) + (1 : Int32)))) (0 : Int32) 0).1) 29 (upd (((g_X9_tries_18 g bi (160 - 0 + 1) (va_up F 32 (upd (F 32) bi.toNatClampNeg (((F 32) bi.toNatClampNeg) + (1 : Int32)))) (0 : Int32) 0).1) 29) ((((40 : Int32) * bi) + ((((g_X9_tries_18 g bi (160 - 0 + 1) (va_up F 32 (upd (F 32) bi.toNatClampNeg (((F 32) bi.toNatClampNeg) + (1 : Int32)))) (0 : Int32) 0).1) 30) bi.toNatClampNeg)).toNatClampNeg) (g 10))) 0).1) 30) bi.toNatClampNeg) + (1 : Int32)))) else let u_25 : Int32 × (Nat → Nat → Int32) := r_X9_comes_ bi g (va_up ((g_X9_tries_129 g bi ((g_X9_tries_18 g bi (160 - 0 + 1) (va_up F 32 (upd (F 32) bi.toNatClampNeg (((F 32) bi.toNatClampNeg) + (1 : Int32)))) (0 : Int32) 0).2.1) (0 : Int32) (((40 : Int32) * bi) + ((((g_X9_tries_18 g bi (160 - 0 + 1) (va_up F 32 (upd (F 32) bi.toNatClampNeg (((F 32) bi.toNatClampNeg) + (1 : Int32)))) (0 : Int32) 0).1) 30) bi.toNatClampNeg)) (24 - 0 + 1) (va_up ((g_X9_tries_18 g bi (160 - 0 + 1) (va_up F 32 (upd (F 32) bi.toNatClampNeg (((F 32) bi.toNatClampNeg) + (1 : Int32)))) (0 : Int32) 0).1) 29 (upd (((g_X9_tries_18 g bi (160 - 0 + 1) (va_up F 32 (upd (F 32) bi.toNatClampNeg (((F 32) bi.toNatClampNeg) + (1 : Int32)))) (0 : Int32) 0).1) 29) ((((40 : Int32) * bi) + ((((g_X9_tries_18 g bi (160 - 0 + 1) (va_up F 32 (upd (F 32) bi.toNatClampNeg (((F 32) bi.toNatClampNeg) + (1 : Int32)))) (0 : Int32) 0).1) 30) bi.toNatClampNeg)).toNatClampNeg) (g 10))) 0).1) 30 (upd (((g_X9_tries_129 g bi ((g_X9_tries_18 g bi (160 - 0 + 1) (va_up F 32 (upd (F 32) bi.toNatClampNeg (((F 32) bi.toNatClampNeg) + (1 : Int32)))) (0 : Int32) 0).2.1) (0 : Int32) (((40 : Int32) * bi) + ((((g_X9_tries_18 g bi (160 - 0 + 1) (va_up F 32 (upd (F 32) bi.toNatClampNeg (((F 32) bi.toNatClampNeg) + (1 : Int32)))) (0 : Int32) 0).1) 30) bi.toNatClampNeg)) (24 - 0 + 1) (va_up ((g_X9_tries_18 g bi (160 - 0 + 1) (va_up F 32 (upd (F 32) bi.toNatClampNeg (((F 32) bi.toNatClampNeg) + (1 : Int32)))) (0 : Int32) 0).1) 29 (upd (((g_X9_tries_18 g bi (160 - 0 + 1) (va_up F 32 (upd (F 32) bi.toNatClampNeg (((F 32) bi.toNatClampNeg) + (1 : Int32)))) (0 : Int32) 0).1) 29) ((((40 : Int32) * bi) + ((((g_X9_tries_18 g bi (160 - 0 + 1) (va_up F 32 (upd (F 32) bi.toNatClampNeg (((F 32) bi.toNatClampNeg) + (1 : Int32)))) (0 : Int32) 0).1) 30) bi.toNatClampNeg)).toNatClampNeg) (g 10))) 0).1) 30) bi.toNatClampNeg (((((g_X9_tries_129 g bi ((g_X9_tries_18 g bi (160 - 0 + 1) (va_up F 32 (upd (F 32) bi.toNatClampNeg (((F 32) bi.toNatClampNeg) + (1 : Int32)))) (0 : Int32) 0).2.1) (0 : Int32) (((40 : Int32) * bi) + ((((g_X9_tries_18 g bi (160 - 0 + 1) (va_up F 32 (upd (F 32) bi.toNatClampNeg (((F 32) bi.toNatClampNeg) + (1 : Int32)))) (0 : Int32) 0).1) 30) bi.toNatClampNeg)) (24 - 0 + 1) (va_up ((g_X9_tries_18 g bi (160 - 0 + 1) (va_up F 32 (upd (F 32) bi.toNatClampNeg (((F 32) bi.toNatClampNeg) + (1 : Int32)))) (0 : Int32) 0).1) 29 (upd (((g_X9_tries_18 g bi (160 - 0 + 1) (va_up F 32 (upd (F 32) bi.toNatClampNeg (((F 32) bi.toNatClampNeg) + (1 : Int32)))) (0 : Int32) 0).1) 29) ((((40 : Int32) * bi) + ((((g_X9_tries_18 g bi (160 - 0 + 1) (va_up F 32 (upd (F 32) bi.toNatClampNeg (((F 32) bi.toNatClampNeg) + (1 : Int32)))) (0 : Int32) 0).1) 30) bi.toNatClampNeg)).toNatClampNeg) (g 10))) 0).1) 30) bi.toNatClampNeg) + (1 : Int32)))); ((1 : Int32) + u_25.1, g, u_25.2)
theorem tries_eq (bi : Int32) (g : Nat → Int32) (F : Nat → Nat → Int32) : r_X9_tries bi g F = trb bi (r_X9_goThrough g F).1 (r_X9_goThrough g F).2 := rfl
