/-- a shelf of the class is a part of the reference's rows -/
def SHR (M : Nat) (n : Int32) (f z : Nat → Int32) (m : Int32) (e y : Nat → Int32) (o : Nat) : Prop := n = m ∧ (0 ≤ m.toInt ∧ m.toInt ≤ (M : Int)) ∧ ∀ i : Nat, (i : Int) < m.toInt → IR (z i) (fun k => f (24 * i + k)) (y (o + i)) (fun k => e (24 * (o + i) + k))
def CV (b : Nat) (cv C : Nat → Int32) : Prop := ∀ k, k < 160 → ∃ v, v < 1024 ∧ cv k = nI v ∧ v.testBit 0 = false ∧ ∀ d, d < 10 → C (1600 * b + 10 * k + d) = if v.testBit d then (1 : Int32) else 0
def FRW (b : Nat) (ff : Nat → Int32) (n : Int32) (E : Nat → Int32) : Prop := ∀ f : Nat, (f : Int) < n.toInt → ∀ w, w < 5 → ff (5 * f + w) = E (5 * (20 * b + f) + w)
/-- a bench of the class is one of the reference's -/
def BR (b : Nat) (T : Int) (cv : Nat → Int32) (tr pn : Int32) (pf pz ff : Nat → Int32) (fsn : Int32) (fsf fsz : Nat → Int32) (F : Nat → Nat → Int32) : Prop := (tr = F 32 b ∧ 0 ≤ tr.toInt ∧ tr.toInt ≤ T) ∧ SHR 40 pn pf pz (F 30 b) (F 28) (F 29) (40 * b) ∧ SHR 20 fsn fsf fsz (F 33 b) (F 35) (F 36) (20 * b) ∧ FRW b ff fsn (F 34) ∧ CV b cv (F 31)
theorem BR.of {b : Nat} {T T' : Int} {cv : Nat → Int32} {tr pn : Int32} {pf pz ff : Nat → Int32} {fsn : Int32} {fsf fsz : Nat → Int32} {F F' : Nat → Nat → Int32} (h : BR b T cv tr pn pf pz ff fsn fsf fsz F) (hT : T ≤ T') (h28 : F' 28 = F 28) (h29 : F' 29 = F 29) (h30 : F' 30 = F 30) (h31 : F' 31 = F 31) (h32 : F' 32 = F 32) (h33 : F' 33 = F 33) (h34 : F' 34 = F 34) (h35 : F' 35 = F 35) (h36 : F' 36 = F 36) : BR b T' cv tr pn pf pz ff fsn fsf fsz F' := by
  unfold BR at h ⊢
  rw [h28, h29, h30, h31, h32, h33, h34, h35, h36]
  obtain ⟨⟨a, b, c⟩, d⟩ := h
  exact ⟨⟨a, b, by omega⟩, d⟩
theorem bit_all : ((List.range 1024).all fun v => (List.range 10).all fun d => (decide (((nI v >>> (nI d &&& 31)) &&& (1 : Int32)) = (if v.testBit d then (1 : Int32) else 0)) && decide ((nI v ||| ((1 : Int32) <<< (nI d &&& 31))) = nI (v ||| 2 ^ d)) && decide (v ||| 2 ^ d < 1024))) = true := by decide +kernel
theorem bit_one {v d : Nat} (hv : v < 1024) (hd : d < 10) : ((nI v >>> (nI d &&& 31)) &&& (1 : Int32)) = (if v.testBit d then (1 : Int32) else 0) ∧ (nI v ||| ((1 : Int32) <<< (nI d &&& 31))) = nI (v ||| 2 ^ d) ∧ v ||| 2 ^ d < 1024 := by
  have h := List.all_eq_true.mp (List.all_eq_true.mp bit_all v (List.mem_range.mpr hv)) d (List.mem_range.mpr hd)
  simp only [Bool.and_eq_true, decide_eq_true_eq] at h
  exact ⟨h.1.1, h.1.2, h.2⟩
theorem shr_h {x : Int32} (h : 0 ≤ x.toInt) : x >>> ((1 : Int32) &&& 31) = x / (2 : Int32) := by
  apply Int32.toInt_inj.mp
  rw [half_i h, pk_shr x _ 1 (by decide), Int.shiftRight_eq_div_pow]
  rfl
theorem dg_sim (t : Int32) : ∀ (fu : Nat) (x1 x2 : Int32), 0 ≤ x2.toInt → g_X0_digitsOf_4 t fu x1 x2 = g_X9_digits_4 t fu x1 x2
  | 0, _, _, _ => rfl
  | fu + 1, x1, x2, h => by
    unfold g_X0_digitsOf_4 g_X9_digits_4
    rw [shr_h h, dg_sim t fu (x1 + 1) (x2 / 2) (by rw [half_i h]; omega)]
theorem dg_eq {t : Int32} (h : 0 ≤ t.toInt) : r_X0_digitsOf t = r_X9_digits t := dg_sim t _ _ _ h
theorem dg_1 {t : Int32} (h : 0 < t.toInt) (h4 : t.toInt ≤ 400) : ∃ d, 0 < d ∧ d < 10 ∧ r_X9_digits t = nI d := by
  have q := dg_9 h4
  have z : (0 : Int32).toInt = 0 := rfl
  have q1 : 1 ≤ (r_X9_digits t).toInt := by
    unfold r_X9_digits g_X9_digits_4
    rw [if_neg (show ¬ t ≤ 0 by simp only [sg_le]; omega)]
    have e1 : ((0 : Int32) + 1).toInt = 1 := rfl
    have hh := half_i (x := t) (by omega)
    have lo : ∀ (fu : Nat) (x1 x2 : Int32), x2.toInt.toNat < fu → x2.toInt ≤ 200 → 0 ≤ x2.toInt → 1 ≤ x1.toInt → x1.toInt + 10 ≤ 100 → 1 ≤ (g_X9_digits_4 t fu x1 x2).toInt := by
      intro fu x1 x2 a0 a1 a2 a3 a4
      have b : ∀ (n fu : Nat) (x1 x2 : Int32), x2.toInt < 2 ^ n → x2.toInt.toNat < fu → (1 ≤ x1.toInt ∧ x1.toInt + n ≤ 100) → 1 ≤ (g_X9_digits_4 t fu x1 x2).toInt := by
        intro n
        induction n with
        | zero =>
          intro fu x1 x2 b1 b2 b3
          cases fu with
          | zero => exact absurd b2 (Nat.not_lt_zero _)
          | succ fu =>
            unfold g_X9_digits_4
            rw [if_pos (show x2 ≤ 0 by simp only [sg_le]; omega)]
            exact b3.1
        | succ n ih =>
          intro fu x1 x2 b1 b2 b3
          cases fu with
          | zero => exact absurd b2 (Nat.not_lt_zero _)
          | succ fu =>
            unfold g_X9_digits_4
            by_cases c : x2 ≤ 0
            · rw [if_pos c]
              exact b3.1
            · rw [if_neg c]
              simp only [sg_le] at c
              have e2 := half_i (x := x2) (by omega)
              have e3 := inc_i (x := x1) (n := 100) (by omega) (by omega) (by omega)
              have e4 : (2 : Int) ^ (n + 1) = 2 * 2 ^ n := by rw [Int.pow_succ]; omega
              exact ih fu (x1 + 1) (x2 / 2) (by rw [e2]; omega) (by rw [e2]; omega) (by rw [e3]; omega)
      exact b 9 fu x1 x2 (by omega) a0 (by omega)
    exact lo _ _ _ (by rw [hh]; omega) (by rw [hh]; omega) (by rw [hh]; omega) (by rw [e1]; omega) (by rw [e1]; omega)
  refine ⟨(r_X9_digits t).toInt.toNat, by omega, by omega, (nI_self (by omega)).symm⟩
theorem ixc {bi : Int32} {b j d : Nat} (hb : bi.toInt = (b : Int)) (hb1 : b < 2) (hj : j < 160) (hd : d < 10) : ((((1600 : Int32) * bi) + ((10 : Int32) * (nI j))) + (nI d)).toNatClampNeg = 1600 * b + 10 * j + d := by
  have ej := nI_toInt (n := j) (by omega)
  have ed := nI_toInt (n := d) (by omega)
  have a1 := (lit_m (c := 1600) (x := bi) (k := 1600) rfl (by omega) (by omega)).1
  have a2 := (lit_m (c := 10) (x := nI j) (k := 10) rfl (by omega) (by omega)).1
  have a3 : ((1600 : Int32) * bi + (10 : Int32) * nI j).toInt = 1600 * b + 10 * j := by
    rw [fb_addI (by rw [a1, a2]; omega) (by rw [a1, a2]; omega), a1, a2, hb, ej]
    rfl
  rw [tN, fb_addI (by rw [a3]; omega) (by rw [a3]; omega), a3, ed]
  omega
theorem cvr {cv : Nat → Int32} {tr pn : Int32} {pf pz ff : Nat → Int32} {fsn : Int32} {fsf fsz : Nat → Int32} {j v d : Nat} (hj : j < 160) (hv : v < 1024) (hd : 0 < d ∧ d < 10) (hc : cv j = nI v) : r_X0_covers (nI j) (nI d) cv tr pn pf pz ff fsn fsf fsz = if v.testBit d then (1 : Int32) else 0 := by
  unfold r_X0_covers r_X7_isBranch r_X0_isDigits
  have ej := nI_toInt (n := j) (by omega)
  have ed := nI_toInt (n := d) (by omega)
  have z : (0 : Int32).toInt = 0 := rfl
  have e1 : (1 : Int32).toInt = 1 := rfl
  have e9 : (9 : Int32).toInt = 9 := rfl
  have e160 : (160 : Int32).toInt = 160 := rfl
  rw [if_neg (show ¬ nI j < 0 by simp only [sg_lt]; omega), if_neg (show ¬ 160 ≤ nI j by simp only [sg_le]; omega), if_neg (show ¬ (1 : Int32) = 0 by decide), if_neg (show ¬ nI d < 1 by simp only [sg_lt]; omega), if_neg (show ¬ 9 < nI d by simp only [sg_lt]; omega), if_neg (show ¬ (1 : Int32) = 0 by decide), nI_clamp (by omega), hc, (bit_one hv hd.2).1]
  cases v.testBit d
  · rfl
  · rfl
theorem CV.set {b : Nat} {cv C : Nat → Int32} (h : CV b cv C) {j v d : Nat} (hj : j < 160) (hv : v < 1024) (hd : 0 < d ∧ d < 10) (hc : cv j = nI v) (h0 : v.testBit 0 = false) (hC : ∀ e, e < 10 → C (1600 * b + 10 * j + e) = if v.testBit e then (1 : Int32) else 0) : CV b (upd cv j (cv j ||| ((1 : Int32) <<< (nI d &&& 31)))) (upd C (1600 * b + 10 * j + d) 1) := by
  intro k hk
  by_cases c : k = j
  · subst c
    refine ⟨v ||| 2 ^ d, (bit_one hv hd.2).2.2, ?_, ?_, ?_⟩
    · rw [upd_s, hc, (bit_one hv hd.2).2.1]
    · rw [Nat.testBit_or, h0, Nat.testBit_two_pow]
      simp
      omega
    · intro e he
      rw [Nat.testBit_or, Nat.testBit_two_pow]
      by_cases q : e = d
      · subst q
        rw [upd_s]
        simp
      · rw [upd_n _ _ (by omega), hC e he]
        have : decide (d = e) = false := by simp; omega
        rw [this, Bool.or_false]
  · obtain ⟨w, a1, a2, a3, a4⟩ := h k hk
    refine ⟨w, a1, by rw [upd_n _ _ c]; exact a2, a3, fun e he => ?_⟩
    rw [upd_n _ _ (by omega)]
    exact a4 e he
/-- the cover takes a run's reaches, on both sides alike -/
theorem cov_sim (tr pn : Int32) (pf pz ff : Nat → Int32) (fsn : Int32) (fsf fsz : Nat → Int32) (tg : Nat → Int32) (tF : Nat → Nat → Int32) (g : Nat → Int32) (bi : Int32) {b : Nat} (hb : bi.toInt = (b : Int)) (hb1 : b < 2) : ∀ (fu : Nat) (cv : Nat → Int32) (F : Nat → Nat → Int32) (x2 : Int32) (j : Nat), 160 - j < fu → j ≤ 160 → CV b cv (F 31) → Ag 160 (tF 3) (F 19) → (∀ k, k < 160 → 0 ≤ (F 19 k).toInt ∧ (F 19 k).toInt ≤ 400) → (g_X0_reachFurther_4 tr pn pf pz ff fsn fsf fsz tg tF fu cv x2 j).1 = (g_X9_tries_18 g bi fu F x2 j).2.1 ∧ ∃ C, (g_X9_tries_18 g bi fu F x2 j).1 = va_up F 31 C ∧ CV b (g_X0_reachFurther_4 tr pn pf pz ff fsn fsf fsz tg tF fu cv x2 j).2 C ∧ ∀ i, (i < 1600 * b ∨ 1600 * b + 1600 ≤ i) → C i = F 31 i
  | 0, _, _, _, _, h, _, _, _, _ => absurd h (Nat.not_lt_zero _)
  | fu + 1, cv, F, x2, j, h, hj, hC, hA, hT => by
    unfold g_X0_reachFurther_4 g_X9_tries_18
    by_cases c : (160 : Int32) ≤ nI j
    · rw [if_pos c, if_pos c]
      exact ⟨rfl, F 31, (vup_id F 31).symm, hC, fun _ _ => rfl⟩
    · have hl := lt_160 c hj
      have ej := nI_toInt (n := j) (by omega)
      rw [if_neg c, if_neg c]
      have ht : r_X7_turnsOf (nI j) tg tF = F 19 j := by
        unfold r_X7_turnsOf r_X7_isBranch
        have z : (0 : Int32).toInt = 0 := rfl
        have e160 : (160 : Int32).toInt = 160 := rfl
        rw [if_neg (show ¬ nI j < 0 by simp only [sg_lt]; omega), if_neg (show ¬ 160 ≤ nI j by simp only [sg_le]; omega), if_neg (by decide), nI_clamp (by omega)]
        exact hA j hl
      rw [ht]
      have hTj := hT j hl
      have z : (0 : Int32).toInt = 0 := rfl
      by_cases d : F 19 j = 0
      · rw [if_pos (show F 19 j ≤ 0 by rw [d]; decide), if_pos d]
        exact cov_sim tr pn pf pz ff fsn fsf fsz tg tF g bi hb hb1 fu cv F x2 (j + 1) (by omega) (by omega) hC hA hT
      · have hpos : 0 < (F 19 j).toInt := n_pos d hTj.1
        rw [if_neg (show ¬ F 19 j ≤ 0 by simp only [sg_le]; omega), if_neg d, dg_eq hTj.1]
        obtain ⟨dd, d1, d2, d3⟩ := dg_1 hpos hTj.2
        obtain ⟨v, v1, v2, v3, v4⟩ := hC j hl
        rw [d3, ixc hb hb1 hl d2, cvr hl v1 ⟨d1, d2⟩ v2, v4 dd d2]
        cases hbit : v.testBit dd
        · rw [if_pos (show (if false = true then (1 : Int32) else 0) = 0 from rfl), if_pos (show (if false = true then (1 : Int32) else 0) = 0 from rfl)]
          have hC2 := hC.set hl v1 ⟨d1, d2⟩ v2 v3 v4
          have ih := cov_sim tr pn pf pz ff fsn fsf fsz tg tF g bi hb hb1 fu (upd cv j (cv j ||| ((1 : Int32) <<< (nI dd &&& 31)))) (va_up F 31 (upd (F 31) (1600 * b + 10 * j + dd) 1)) 1 (j + 1) (by omega) (by omega) hC2 hA hT
          obtain ⟨i1, C, i2, i3, i4⟩ := ih
          refine ⟨i1, C, by rw [i2, vup_vup], i3, fun i hi => ?_⟩
          rw [i4 i hi]
          exact upd_n _ _ (by omega)
        · rw [if_neg (show ¬ (if true = true then (1 : Int32) else 0) = 0 by decide), if_neg (show ¬ (if true = true then (1 : Int32) else 0) = 0 by decide)]
          exact cov_sim tr pn pf pz ff fsn fsf fsz tg tF g bi hb hb1 fu cv F x2 (j + 1) (by omega) (by omega) hC hA hT
