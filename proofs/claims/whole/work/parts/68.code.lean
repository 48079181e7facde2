theorem wit (x m : Int32) : r_X5_isWithin x m = r_X9_in x 0 m := rfl
theorem nB (x : Int32) : r_X5_namesB x = r_X9_hasB x := by
  unfold r_X5_namesB r_X9_hasB r_X9_in
  have e1 : (1 : Int32).toInt = 1 := rfl
  have e5 : (5 : Int32).toInt = 5 := rfl
  have e6 : (6 : Int32).toInt = 6 := rfl
  have e7 : (7 : Int32).toInt = 7 := rfl
  have e8 : (8 : Int32).toInt = 8 := rfl
  have e9 : (9 : Int32).toInt = 9 := rfl
  have e12 : (12 : Int32).toInt = 12 := rfl
  have ei : ∀ y : Int32, x = y ↔ x.toInt = y.toInt := fun y => ⟨fun h => by rw [h], fun h => Int32.toInt_inj.mp h⟩
  simp only [sg_lt, ei, e1, e5, e6, e7, e8, e9, e12]
  by_cases c1 : x.toInt < 1
  · rw [if_pos c1, if_pos c1, if_pos rfl, if_neg (by omega), if_pos (show x.toInt < 9 by omega), if_pos rfl]
  · rw [if_neg c1, if_neg c1]
    by_cases c2 : 12 < x.toInt
    · rw [if_pos c2, if_pos (show 5 < x.toInt by omega), if_pos rfl, if_neg (by omega), if_neg (show ¬ x.toInt < 9 by omega), if_pos c2, if_pos rfl]
    · rw [if_neg c2]
      by_cases c3 : 5 < x.toInt
      · rw [if_pos c3, if_pos rfl]
        by_cases c6 : x.toInt = 6
        · rw [if_pos c6, if_neg (by omega), if_pos (show x.toInt < 9 by omega), if_pos rfl]
        · rw [if_neg c6]
          by_cases c8 : x.toInt = 8
          · rw [if_pos c8, if_neg (by omega), if_pos (show x.toInt < 9 by omega), if_pos rfl]
          · rw [if_neg c8]
            by_cases c7 : x.toInt = 7
            · rw [if_pos c7]
            · rw [if_neg c7, if_neg (show ¬ x.toInt < 9 by omega), if_neg c2, if_neg (show ¬ (1 : Int32) = 0 by decide)]
      · rw [if_neg c3, if_neg (show ¬ (1 : Int32) = 0 by decide), if_neg (by omega), if_neg (by omega)]
def FC (g : Nat → Int32) (F : Nat → Nat → Int32) (t : Int32 × (Nat → Int32) × (Nat → Nat → Int32)) (x : Int32) (y : Int32 × (Nat → Int32) × (Nat → Nat → Int32)) : Prop := (x = 0 → y = (-2, g, F)) ∧ (¬ x = 0 → y = t)
theorem fc_ite {g : Nat → Int32} {F : Nat → Nat → Int32} {t : Int32 × (Nat → Int32) × (Nat → Nat → Int32)} {c : Prop} [Decidable c] {a b : Int32} {a2 b2 : Int32 × (Nat → Int32) × (Nat → Nat → Int32)} (ha : c → FC g F t a a2) (hb : ¬ c → FC g F t b b2) : FC g F t (if c then a else b) (if c then a2 else b2) := by
  by_cases h : c
  · rw [if_pos h, if_pos h]
    exact ha h
  · rw [if_neg h, if_neg h]
    exact hb h
def ctail (op va vb vc : Int32) (g : Nat → Int32) (F : Nat → Nat → Int32) : Int32 × (Nat → Int32) × (Nat → Nat → Int32) := if (((F 32) 0) + ((F 32) 1)) ≤ (0 : Int32) then (if (g 5) = (80 : Int32) then ((-4 : Int32), g, F) else (((g 5) + (1 : Int32)) - (1 : Int32), upd g 5 ((g 5) + (1 : Int32)), va_up (va_up (va_up (va_up F 1 (upd (F 1) ((g 5).toNatClampNeg) op)) 2 (upd (F 2) ((g 5).toNatClampNeg) va)) 3 (upd (F 3) ((g 5).toNatClampNeg) vb)) 4 (upd (F 4) ((g 5).toNatClampNeg) vc))) else ((-3 : Int32), g, F)
theorem code_cl (op va vb vc : Int32) (g : Nat → Int32) (F : Nat → Nat → Int32) : FC g F (ctail op va vb vc g F) (r_X5_fits op va vb vc) (r_X9_code op va vb vc g F) := by
  unfold r_X5_fits r_X9_code
  simp only [wit, nB, show ∀ x, r_X5_namesA x = r_X9_hasA x from fun _ => rfl, show ∀ x, r_X5_namesC x = r_X9_in x 11 14 from fun _ => rfl]
  repeat' (refine fc_ite (fun _ => ?_) (fun _ => ?_))
  all_goals first
    | exact ⟨fun _ => rfl, fun k => absurd rfl k⟩
    | exact ⟨fun k => absurd k (by decide), fun _ => rfl⟩
def FA (op va vb : Int32) (x : Int32) : Prop := ¬ x = 0 → (0 ≤ op.toInt ∧ op.toInt ≤ 17) ∧ (0 ≤ va.toInt ∧ va.toInt < 8) ∧ (¬ op = 0 → 0 ≤ vb.toInt ∧ vb.toInt < 8)
theorem fa_c {op va vb vc : Int32} (h : (0 ≤ op.toInt ∧ op.toInt ≤ 17) ∧ (0 ≤ va.toInt ∧ va.toInt < 8) ∧ (¬ op = 0 → 0 ≤ vb.toInt ∧ vb.toInt < 8)) : FA op va vb (if (r_X5_namesC op) = (0 : Int32) then (if (r_X5_isWithin vc (0 : Int32)) = (0 : Int32) then (0 : Int32) else (1 : Int32)) else if (r_X5_isWithin vc (79 : Int32)) = (0 : Int32) then (0 : Int32) else (1 : Int32)) := fun _ => h
theorem wi_b {x m : Int32} (h : ¬ r_X5_isWithin x m = 0) : 0 ≤ x.toInt ∧ x.toInt ≤ m.toInt := in_b (lo := 0) h (by decide) (Int.le_refl _)
theorem fits_f (op va vb vc : Int32) : FA op va vb (r_X5_fits op va vb vc) := by
  unfold r_X5_fits
  have z : (0 : Int32).toInt = 0 := rfl
  have e7 : (7 : Int32).toInt = 7 := rfl
  have e17 : (17 : Int32).toInt = 17 := rfl
  have q0 : FA op va vb 0 := fun k => absurd rfl k
  refine P_ite (FA op va vb) (fun _ => q0) (fun c1 => ?_)
  have w1 := wi_b c1
  refine P_ite (FA op va vb) (fun _ => ?_) (fun _ => ?_)
  · refine P_ite (FA op va vb) (fun _ => q0) (fun c3 => ?_)
    have w3 := wi_b c3
    refine P_ite (FA op va vb) (fun c4 => fa_c ⟨by omega, by omega, fun k => absurd c4 k⟩) (fun _ => ?_)
    refine P_ite (FA op va vb) (fun _ => ?_) (fun _ => ?_)
    · refine P_ite (FA op va vb) (fun _ => q0) (fun c6 => ?_)
      have w6 := wi_b c6
      exact fa_c ⟨by omega, by omega, fun _ => by omega⟩
    · refine P_ite (FA op va vb) (fun _ => q0) (fun c6 => ?_)
      have w6 := wi_b c6
      exact fa_c ⟨by omega, by omega, fun _ => by omega⟩
  · refine P_ite (FA op va vb) (fun _ => q0) (fun c3 => ?_)
    have w3 := wi_b c3
    refine P_ite (FA op va vb) (fun c4 => fa_c ⟨by omega, by omega, fun k => absurd c4 k⟩) (fun _ => ?_)
    refine P_ite (FA op va vb) (fun _ => ?_) (fun _ => ?_)
    · refine P_ite (FA op va vb) (fun _ => q0) (fun c6 => ?_)
      have w6 := wi_b c6
      exact fa_c ⟨by omega, by omega, fun _ => by omega⟩
    · refine P_ite (FA op va vb) (fun _ => q0) (fun c6 => ?_)
      have w6 := wi_b c6
      exact fa_c ⟨by omega, by omega, fun _ => by omega⟩
theorem ix4 {n w : Int32} {j : Nat} (hn : 0 ≤ n.toInt ∧ n.toInt < 80) (hw : w.toInt = (j : Int)) (hj : j < 4) : ((n * (4 : Int32)) + w).toNatClampNeg = 4 * n.toInt.toNat + j := by
  rw [Int32.mul_comm, tN, mad_i (k := 4) rfl (by omega) (by omega) (by omega), hw]
  omega
theorem PR.push {pn : Int32} {pf : Nat → Int32} {g : Nat → Int32} {F : Nat → Nat → Int32} (h : PR pn pf g F) {op va vb vc : Int32} (h80 : (g 5).toInt < 80) (hf : (0 ≤ op.toInt ∧ op.toInt ≤ 17) ∧ (0 ≤ va.toInt ∧ va.toInt < 8) ∧ (¬ op = 0 → 0 ≤ vb.toInt ∧ vb.toInt < 8)) : PR (pn + 1) (upd (upd (upd (upd pf (4 * pn.toInt.toNat + 0) op) (4 * pn.toInt.toNat + 1) va) (4 * pn.toInt.toNat + 2) vb) (4 * pn.toInt.toNat + 3) vc) (upd g 5 ((g 5) + (1 : Int32))) (va_up (va_up (va_up (va_up F 1 (upd (F 1) ((g 5).toNatClampNeg) op)) 2 (upd (F 2) ((g 5).toNatClampNeg) va)) 3 (upd (F 3) ((g 5).toNatClampNeg) vb)) 4 (upd (F 4) ((g 5).toNatClampNeg) vc)) := by
  obtain ⟨rfl, b, w, o, k⟩ := h
  have e := inc_i (n := 80) b.1 (by omega) (by omega)
  refine ⟨rfl, ?_, ?_, ?_, ?_⟩
  · show 0 ≤ (g 5 + 1).toInt ∧ (g 5 + 1).toInt ≤ 80
    rw [e]
    omega
  · intro j
    show (0 ≤ (upd (F 2) ((g 5).toNatClampNeg) va j).toInt ∧ (upd (F 2) ((g 5).toNatClampNeg) va j).toInt < 8) ∧ (¬ upd (F 1) ((g 5).toNatClampNeg) op j = 0 → 0 ≤ (upd (F 3) ((g 5).toNatClampNeg) vb j).toInt ∧ (upd (F 3) ((g 5).toNatClampNeg) vb j).toInt < 8)
    by_cases c : j = (g 5).toNatClampNeg
    · rw [c, upd_s, upd_s, upd_s]
      exact ⟨hf.2.1, hf.2.2⟩
    · rw [upd_n _ _ c, upd_n _ _ c, upd_n _ _ c]
      exact w j
  · exact upd_r (f := F 1) o _ _ hf.1
  · intro j hj
    have hj : (j : Int) < (g 5 + 1).toInt := hj
    rw [e] at hj
    show upd _ _ _ (4 * j) = upd (F 1) ((g 5).toNatClampNeg) op j ∧ upd _ _ _ (4 * j + 1) = upd (F 2) ((g 5).toNatClampNeg) va j ∧ upd _ _ _ (4 * j + 2) = upd (F 3) ((g 5).toNatClampNeg) vb j ∧ upd _ _ _ (4 * j + 3) = upd (F 4) ((g 5).toNatClampNeg) vc j
    rw [tN]
    by_cases c : j = (g 5).toInt.toNat
    · rw [c]
      refine ⟨?_, ?_, ?_, ?_⟩
      · rw [upd_n _ _ (by omega), upd_n _ _ (by omega), upd_n _ _ (by omega)]
        exact (upd_s _ _ _).trans (upd_s _ _ _).symm
      · rw [upd_n _ _ (by omega), upd_n _ _ (by omega)]
        exact (upd_s _ _ _).trans (upd_s _ _ _).symm
      · rw [upd_n _ _ (by omega)]
        exact (upd_s _ _ _).trans (upd_s _ _ _).symm
      · exact (upd_s _ _ _).trans (upd_s _ _ _).symm
    · rw [upd_n _ _ c, upd_n _ _ c, upd_n _ _ c, upd_n _ _ c]
      have hk := k j (by omega)
      refine ⟨?_, ?_, ?_, ?_⟩
      · rw [upd_n _ _ (by omega), upd_n _ _ (by omega), upd_n _ _ (by omega), upd_n _ _ (by omega)]
        exact hk.1
      · rw [upd_n _ _ (by omega), upd_n _ _ (by omega), upd_n _ _ (by omega), upd_n _ _ (by omega)]
        exact hk.2.1
      · rw [upd_n _ _ (by omega), upd_n _ _ (by omega), upd_n _ _ (by omega), upd_n _ _ (by omega)]
        exact hk.2.2.1
      · rw [upd_n _ _ (by omega), upd_n _ _ (by omega), upd_n _ _ (by omega), upd_n _ _ (by omega)]
        exact hk.2.2.2
theorem J_code {g : Nat → Int32} {F G : Nat → Nat → Int32} (h : J g F) {v : Int32} (hv : 0 ≤ v.toInt ∧ v.toInt ≤ 80) (hw : WF G) (h29 : G 29 = F 29) (h30 : G 30 = F 30) (h33 : G 33 = F 33) (h36 : G 36 = F 36) : J (upd g 5 v) G := ⟨hv, h.p8, h.p10, h.p14, h.p23, h.p38, hw, by rw [h29]; exact h.q29, by rw [h30]; exact h.q30, by rw [h33]; exact h.q33, by rw [h36]; exact h.q36⟩
theorem t_code {T : Int} {rf : Int32} {pn : Int32} {pf : Nat → Int32} {tn : Int32} {tf : Nat → Int32} {sn : Int32} {lg : Nat → Int32} {lF : Nat → Nat → Int32} {bcv : Nat → Int32} {btr : Int32} {bpn : Int32} {bpf : Nat → Int32} {bpz : Nat → Int32} {bff : Nat → Int32} {bfsn : Int32} {bfsf : Nat → Int32} {bfsz : Nat → Int32} {dcv : Nat → Int32} {dtr : Int32} {dpn : Int32} {dpf : Nat → Int32} {dpz : Nat → Int32} {dff : Nat → Int32} {dfsn : Int32} {dfsf : Nat → Int32} {dfsz : Nat → Int32} {cmn : Int32} {ctn : Int32} {kk : Int32} {knn : Int32} {ktn : Int32} {g : Nat → Int32} {F : Nat → Nat → Int32} (hR : RR T rf pn pf tn tf sn lg lF bcv btr bpn bpf bpz bff bfsn bfsf bfsz dcv dtr dpn dpf dpz dff dfsn dfsf dfsz cmn ctn kk knn ktn g F) (hT : T ≤ 1000000) (op va vb vc : Int32) : (r_X8_code op va vb vc rf pn pf bcv btr bpn bpf bpz bff bfsn bfsf bfsz dcv dtr dpn dpf dpz dff dfsn dfsf dfsz).1 = (r_X9_code op va vb vc g F).1 ∧ RR (T + 60) rf ((r_X8_code op va vb vc rf pn pf bcv btr bpn bpf bpz bff bfsn bfsf bfsz dcv dtr dpn dpf dpz dff dfsn dfsf dfsz).2.1) ((r_X8_code op va vb vc rf pn pf bcv btr bpn bpf bpz bff bfsn bfsf bfsz dcv dtr dpn dpf dpz dff dfsn dfsf dfsz).2.2) tn tf sn lg lF bcv btr bpn bpf bpz bff bfsn bfsf bfsz dcv dtr dpn dpf dpz dff dfsn dfsf dfsz cmn ctn kk knn ktn ((r_X9_code op va vb vc g F).2.1) ((r_X9_code op va vb vc g F).2.2) := by
  obtain ⟨r1, r2, r3, r4, r5, r6, r7, r8, r9⟩ := hR
  have fc := code_cl op va vb vc g F
  have ff := fits_f op va vb vc
  unfold r_X8_code
  by_cases c : r_X5_fits op va vb vc = 0
  · rw [if_pos c, fc.1 c]
    exact ⟨rfl, r1, r2, r3, r4, r5.of (by omega) rfl rfl rfl rfl rfl rfl rfl rfl rfl, r6.of (by omega) rfl rfl rfl rfl rfl rfl rfl rfl rfl, r7, r8, r9⟩
  · rw [if_neg c, fc.2 c]
    have hf := ff c
    unfold ctail
    obtain ⟨b1, b2, b3⟩ := r5.1
    obtain ⟨d1, d2, d3⟩ := r6.1
    have z : (0 : Int32).toInt = 0 := rfl
    have es : (F 32 0 + F 32 1).toInt = btr.toInt + dtr.toInt := by
      rw [← b1, ← d1, fb_addI (by omega) (by omega)]
    by_cases c2 : (0 : Int32) < btr
    · rw [if_pos c2, if_neg (show ¬ F 32 0 + F 32 1 ≤ 0 by simp only [sg_le, sg_lt] at *; rw [es]; omega)]
      exact ⟨rfl, r1, r2, r3, r4, r5.of (by omega) rfl rfl rfl rfl rfl rfl rfl rfl rfl, r6.of (by omega) rfl rfl rfl rfl rfl rfl rfl rfl rfl, r7, r8, r9⟩
    · rw [if_neg c2]
      by_cases c3 : dtr ≤ (0 : Int32)
      · rw [if_pos c3, if_pos (show F 32 0 + F 32 1 ≤ 0 by simp only [sg_le, sg_lt] at *; rw [es]; omega)]
        dsimp only
        have hp := r2.1
        have hb := r2.2.1
        have e80 : (80 : Int32).toInt = 80 := rfl
        unfold r_X5_append
        rw [if_neg (show ¬ pn < 0 by rw [hp]; simp only [sg_lt]; omega)]
        by_cases c4 : g 5 = 80
        · rw [if_pos c4, if_neg (show ¬ pn < 80 by rw [hp, c4]; decide)]
          dsimp only
          rw [if_pos rfl]
          exact ⟨rfl, r1, r2, r3, r4, r5.of (by omega) rfl rfl rfl rfl rfl rfl rfl rfl rfl, r6.of (by omega) rfl rfl rfl rfl rfl rfl rfl rfl rfl, r7, r8, r9⟩
        · have h5 : (g 5).toInt < 80 := by
            have : (g 5).toInt ≠ 80 := fun e => c4 (Int32.toInt_inj.mp e)
            omega
          have hpn : 0 ≤ pn.toInt ∧ pn.toInt < 80 := by rw [hp]; omega
          rw [if_neg c4, if_pos (show pn < 80 by simp only [sg_lt]; omega)]
          dsimp only
          rw [if_neg (show ¬ (1 : Int32) = 0 by decide), ix4 (j := 0) hpn rfl (by omega), ix4 (j := 1) hpn rfl (by omega), ix4 (j := 2) hpn rfl (by omega), ix4 (j := 3) hpn rfl (by omega)]
          have hP := r2.push (vc := vc) h5 hf
          refine ⟨by rw [hp], r1, hP, r3, r4.of rfl rfl rfl rfl rfl rfl rfl rfl, r5.of (by omega) rfl rfl rfl rfl rfl rfl rfl rfl rfl, r6.of (by omega) rfl rfl rfl rfl rfl rfl rfl rfl rfl, r7, r8, J_code r9 hP.2.1 hP.2.2.1 rfl rfl rfl rfl⟩
      · rw [if_neg c3, if_neg (show ¬ F 32 0 + F 32 1 ≤ 0 by simp only [sg_le, sg_lt] at *; rw [es]; omega)]
        exact ⟨rfl, r1, r2, r3, r4, r5.of (by omega) rfl rfl rfl rfl rfl rfl rfl rfl rfl, r6.of (by omega) rfl rfl rfl rfl rfl rfl rfl rfl rfl, r7, r8, r9⟩
