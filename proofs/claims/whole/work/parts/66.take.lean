theorem TR.of {tg : Nat → Int32} {tF : Nat → Nat → Int32} {g : Nat → Int32} {F G : Nat → Nat → Int32} (h : TR tg tF g F) (h11 : G 11 = F 11) (h13 : G 13 = F 13) (h19 : G 19 = F 19) : TR tg tF g G := by
  unfold TR at h ⊢
  rw [h11, h13, h19]
  exact h
/-- what a try leaves -/
def TQ (b : Nat) (T : Int) (g : Nat → Int32) (F : Nat → Nat → Int32) (r : Int32 × (Nat → Int32) × Int32 × Int32 × (Nat → Int32) × (Nat → Int32) × (Nat → Int32) × Int32 × (Nat → Int32) × (Nat → Int32)) (t : Int32 × (Nat → Int32) × (Nat → Nat → Int32)) : Prop := r.1 = t.1 ∧ t.2.1 = g ∧ BR b (T + 1) r.2.1 r.2.2.1 r.2.2.2.1 r.2.2.2.2.1 r.2.2.2.2.2.1 r.2.2.2.2.2.2.1 r.2.2.2.2.2.2.2.1 r.2.2.2.2.2.2.2.2.1 r.2.2.2.2.2.2.2.2.2 t.2.2 ∧ OB b F t.2.2 ∧ (∀ k, k ∉ [28, 29, 30, 31, 32, 33, 34, 35, 36] → t.2.2 k = F k)
theorem tq_fin {b : Nat} {T : Int} {F G : Nat → Nat → Int32} {cv : Nat → Int32} {tr pn : Int32} {pf pz : Nat → Int32} {r : Int32 × (Nat → Int32) × Int32 × (Nat → Int32) × (Nat → Int32)} {t : Int32 × (Nat → Nat → Int32)} (hq : FQ b G r t) (htr : tr = G 32 b ∧ 0 ≤ tr.toInt ∧ tr.toInt ≤ T + 1) (hP : SHR 40 pn pf pz (G 30 b) (G 28) (G 29) (40 * b)) (hC : CV b cv (G 31)) (hO : OB b F G) (hk : ∀ k, k ∉ [28, 29, 30, 31, 32, 33, 34, 35, 36] → G k = F k) : BR b (T + 1) cv tr pn pf pz r.2.1 r.2.2.1 r.2.2.2.1 r.2.2.2.2 t.2 ∧ OB b F t.2 ∧ (∀ k, k ∉ [28, 29, 30, 31, 32, 33, 34, 35, 36] → t.2 k = F k) := by
  obtain ⟨-, q2, q3, q4, q5⟩ := hq
  refine ⟨⟨?_, ?_, q2, q3, ?_⟩, hO.trans q4, fun k h => ?_⟩
  · rw [q5 32 (by decide)]
    exact htr
  · rw [q5 30 (by decide), q5 28 (by decide), q5 29 (by decide)]
    exact hP
  · rw [q5 31 (by decide)]
    exact hC
  · rw [q5 k (fun e => h (by
      simp only [List.mem_cons, List.not_mem_nil, or_false] at e ⊢
      omega))]
    exact hk k h
/-- how the answer of the faults is added -/
theorem tq_ans {b : Nat} {T : Int} {g : Nat → Int32} {F G : Nat → Nat → Int32} {cv : Nat → Int32} {tr pn : Int32} {pf pz : Nat → Int32} {r : Int32 × (Nat → Int32) × Int32 × (Nat → Int32) × (Nat → Int32)} {bi : Int32} {how : Int32} (hq0 : g 15 = 0 → FQ b G r (0, G)) (hq1 : ¬ g 15 = 0 → FQ b G r (r_X9_comes_ bi g G)) (htr : tr = G 32 b ∧ 0 ≤ tr.toInt ∧ tr.toInt ≤ T + 1) (hP : SHR 40 pn pf pz (G 30 b) (G 28) (G 29) (40 * b)) (hC : CV b cv (G 31)) (hO : OB b F G) (hk : ∀ k, k ∉ [28, 29, 30, 31, 32, 33, 34, 35, 36] → G k = F k) : TQ b T g F (if r.1 = 0 then (how, cv, tr, pn, pf, pz, r.2.1, r.2.2.1, r.2.2.2.1, r.2.2.2.2) else (how + 2, cv, tr, pn, pf, pz, r.2.1, r.2.2.1, r.2.2.2.1, r.2.2.2.2)) (if g 15 = 0 then (how, g, G) else (how + (r_X9_comes_ bi g G).1, g, (r_X9_comes_ bi g G).2)) := by
  by_cases c : g 15 = 0
  · rw [if_pos c]
    have q := hq0 c
    have f := tq_fin q htr hP hC hO hk
    rcases q.1 with ⟨a, -⟩ | ⟨-, a⟩
    · rw [if_pos a]
      exact ⟨rfl, rfl, f.1, f.2.1, f.2.2⟩
    · exact absurd a (show ¬ (0 : Int32) = 2 by decide)
  · rw [if_neg c]
    have q := hq1 c
    have f := tq_fin q htr hP hC hO hk
    generalize r_X9_comes_ bi g G = t at q f ⊢
    rcases q.1 with ⟨a, e⟩ | ⟨a, e⟩
    · rw [if_pos a, e]
      exact ⟨(add0 how).symm, rfl, f.1, f.2.1, f.2.2⟩
    · rw [if_neg (by rw [a]; decide), e]
      exact ⟨rfl, rfl, f.1, f.2.1, f.2.2⟩
set_option maxHeartbeats 4000000 in
/-- a bench takes a run, on both sides alike -/
theorem take_sim {b : Nat} {T : Int} {bi : Int32} {cv : Nat → Int32} {tr pn : Int32} {pf pz ff : Nat → Int32} {fsn : Int32} {fsf fsz : Nat → Int32} {tg : Nat → Int32} {tF : Nat → Nat → Int32} {un : Int32} {uf : Nat → Int32} {g : Nat → Int32} {F : Nat → Nat → Int32} (hb : bi.toInt = (b : Int)) (hb1 : b < 2) (hT : TR tg tF g F) (hI : IR un uf (g 10) (F 9)) (hB : BR b T cv tr pn pf pz ff fsn fsf fsz F) (ht : ∀ k, k < 160 → 0 ≤ (F 19 k).toInt ∧ (F 19 k).toInt ≤ 400) (hT2 : T ≤ 1000000000) : TQ b T g F (r_X0_take cv tr pn pf pz ff fsn fsf fsz tg tF un uf) (trb bi g F) := by
  have hbn : bi.toNatClampNeg = b := by rw [tN, hb]; omega
  obtain ⟨⟨t1, t2, t3⟩, hP, hS, hF, hC⟩ := hB
  obtain ⟨c1, C, c2, c3, c4⟩ := cov_sim (tr + 1) pn pf pz ff fsn fsf fsz tg tF g bi hb hb1 (160 - 0 + 1) cv (va_up F 32 (upd (F 32) bi.toNatClampNeg (F 32 bi.toNatClampNeg + (1 : Int32)))) (0 : Int32) 0 (by omega) (by omega) hC hT.2.2.2.2.1 ht
  unfold r_X0_take trb r_X0_reachFurther
  dsimp only
  rw [c2, ← c1]
  generalize g_X0_reachFurther_4 (tr + 1) pn pf pz ff fsn fsf fsz tg tF (160 - 0 + 1) cv (0 : Int32) 0 = rr at c1 c3 ⊢
  obtain ⟨G, hG⟩ : ∃ G, G = va_up (va_up F 32 (upd (F 32) bi.toNatClampNeg (F 32 bi.toNatClampNeg + (1 : Int32)))) 31 C := ⟨_, rfl⟩
  rw [← hG, hbn]
  rw [hbn] at hG
  have g30 : G 30 = F 30 := by rw [hG]; rfl
  have g28 : G 28 = F 28 := by rw [hG]; rfl
  have g29 : G 29 = F 29 := by rw [hG]; rfl
  have g33 : G 33 = F 33 := by rw [hG]; rfl
  have g34 : G 34 = F 34 := by rw [hG]; rfl
  have g35 : G 35 = F 35 := by rw [hG]; rfl
  have g36 : G 36 = F 36 := by rw [hG]; rfl
  have g31 : G 31 = C := by rw [hG]; rfl
  have g32 : G 32 = upd (F 32) b (F 32 b + 1) := by rw [hG]; rfl
  have gk : ∀ k, k ∉ [28, 29, 30, 31, 32, 33, 34, 35, 36] → G k = F k := by
    intro k hk
    simp only [List.mem_cons, List.not_mem_nil, or_false, not_or] at hk
    rw [hG, va_up_ne _ _ hk.2.2.2.1, va_up_ne _ _ hk.2.2.2.2.1]
  have hO : OB b F G := by
    refine ⟨fun k _ => by rw [g30], fun k hk => ?_, fun k _ => by rw [g33], fun i _ => by rw [g28], fun i _ => by rw [g29], fun i hi => ?_, fun i _ => by rw [g34], fun i _ => by rw [g35], fun i _ => by rw [g36]⟩
    · rw [g32]
      exact upd_n _ _ hk
    · rw [g31]
      exact c4 i hi
  have htr : tr + 1 = G 32 b ∧ 0 ≤ (tr + 1).toInt ∧ (tr + 1).toInt ≤ T + 1 := by
    have e := inc_i (x := tr) (n := T) t2 t3 (by omega)
    refine ⟨by rw [g32, upd_s, t1], by rw [e]; omega, by rw [e]; omega⟩
  have hC2 : CV b rr.2 (G 31) := by rw [g31]; exact c3
  have hT3 : TR tg tF g G := hT.of (gk 11 (by decide)) (gk 13 (by decide)) (gk 19 (by decide))
  have hI3 : IR un uf (g 10) (G 9) := hI.of rfl (gk 9 (by decide))
  have hP3 : SHR 40 pn pf pz (G 30 b) (G 28) (G 29) (40 * b) := by rw [g30, g28, g29]; exact hP
  have hS3 : SHR 20 fsn fsf fsz (G 33 b) (G 35) (G 36) (20 * b) := by rw [g33, g35, g36]; exact hS
  have hF3 : FRW b ff fsn (G 34) := by rw [g34]; exact hF
  have fl := flt_sim (ff := ff) hb hb1 hT3 hI3 hS3 hF3
  by_cases c : rr.1 = 0
  · rw [if_pos c, if_pos c]
    exact tq_ans fl.1 fl.2 htr hP3 hC2 hO gk
  · rw [if_neg c, if_neg c]
    have e40 : (40 : Int32).toInt = 40 := rfl
    have hp0 := hP3.1
    have hp1 := hP3.2.1
    by_cases d : (40 : Int32) ≤ G 30 b
    · have d2 := d
      simp only [sg_le] at d2
      rw [if_pos d, sapp_full (M := 40) (by rw [hp0]; omega) (by omega)]
      dsimp only
      rw [if_pos rfl]
      exact tq_ans fl.1 fl.2 htr hP3 hC2 hO gk
    · have d2 := lt_40 d hp1.1
      have hun : 0 ≤ un.toInt ∧ un.toInt ≤ 24 := by rw [hI3.1]; exact hI3.2.1
      rw [if_neg d, sapp_cl (M := 40) (by rw [hp0]; omega) (by omega) hun]
      dsimp only
      rw [if_neg (show ¬ (1 : Int32) = 0 by decide)]
      have ef : ((40 : Int32) * bi + G 30 b).toInt = 40 * b + (G 30 b).toInt := by
        rw [mad_i (k := 40) rfl (by omega) (by omega) (by omega), hb]
        rfl
      have en : ((40 : Int32) * bi + G 30 b).toInt.toNat = 40 * b + pn.toInt.toNat := by rw [ef, hp0]; omega
      have h24 := hI3.2.1
      rw [tr129 g bi _ _ _ (by rw [ef]; omega) rfl (by omega) _ _ _ (by omega) (by omega)]
      rw [show ((40 : Int32) * bi + G 30 b).toNatClampNeg = 40 * b + pn.toInt.toNat by rw [tN]; exact en, en]
      obtain ⟨Z, hZ⟩ : ∃ Z, Z = va_up G 29 (upd (G 29) (40 * b + pn.toInt.toNat) (g 10)) := ⟨_, rfl⟩
      rw [← hZ]
      have z9 : Z 9 = G 9 := by rw [hZ]; rfl
      have z28 : Z 28 = G 28 := by rw [hZ]; rfl
      rw [z9, z28]
      obtain ⟨Y, hY⟩ : ∃ Y, Y = va_up Z 28 (stoF (24 * (40 * b + pn.toInt.toNat)) 0 (g 10).toInt.toNat (G 9) (G 28)) := ⟨_, rfl⟩
      rw [← hY]
      have y30 : Y 30 = G 30 := by rw [hY, hZ]; rfl
      rw [y30]
      obtain ⟨X, hX⟩ : ∃ X, X = va_up Y 30 (upd (G 30) b (G 30 b + 1)) := ⟨_, rfl⟩
      rw [← hX]
      have x30 : X 30 = upd (G 30) b (G 30 b + 1) := by rw [hX]; rfl
      have x28 : X 28 = stoF (24 * (40 * b + pn.toInt.toNat)) 0 (g 10).toInt.toNat (G 9) (G 28) := by rw [hX, hY]; rfl
      have x29 : X 29 = upd (G 29) (40 * b + pn.toInt.toNat) (g 10) := by rw [hX, hY, hZ]; rfl
      have xk : ∀ k, k ∉ [28, 29, 30] → X k = G k := by
        intro k hk
        simp only [List.mem_cons, List.not_mem_nil, or_false, not_or] at hk
        rw [hX, va_up_ne _ _ hk.2.2, hY, va_up_ne _ _ hk.1, hZ, va_up_ne _ _ hk.2.1]
      have hO2 : OB b F X := by
        refine hO.trans ⟨fun k hk => ?_, fun k _ => by rw [xk 32 (by decide)], fun k _ => by rw [xk 33 (by decide)], fun i hi => ?_, fun i hi => ?_, fun i _ => by rw [xk 31 (by decide)], fun i _ => by rw [xk 34 (by decide)], fun i _ => by rw [xk 35 (by decide)], fun i _ => by rw [xk 36 (by decide)]⟩
        · rw [x30]
          exact upd_n _ _ hk
        · rw [x28]
          simp only [stoF]
          have : pn.toInt < 40 := by rw [hp0]; omega
          rw [if_neg (by omega)]
        · rw [x29]
          have : pn.toInt < 40 := by rw [hp0]; omega
          exact upd_n _ _ (by omega)
      have hX4 : TR tg tF g X := hT3.of (xk 11 (by decide)) (xk 13 (by decide)) (xk 19 (by decide))
      have hI4 : IR un uf (g 10) (X 9) := hI3.of rfl (xk 9 (by decide))
      have hS4 : SHR 20 fsn fsf fsz (X 33 b) (X 35) (X 36) (20 * b) := by rw [xk 33 (by decide), xk 35 (by decide), xk 36 (by decide)]; exact hS3
      have hF4 : FRW b ff fsn (X 34) := by rw [xk 34 (by decide)]; exact hF3
      have fl4 := flt_sim (ff := ff) hb hb1 hX4 hI4 hS4 hF4
      have hP4 : SHR 40 (pn + 1) (stoF (24 * pn.toInt.toNat) 0 un.toInt.toNat uf pf) (upd pz pn.toNatClampNeg un) (X 30 b) (X 28) (X 29) (40 * b) := by
        rw [x30, x28, x29, upd_s]
        exact hP3.push (by omega) (by rw [hp0]; omega) hI3
      have q := tq_ans (T := T) (how := (0 : Int32) + 1) fl4.1 fl4.2 (by rw [xk 32 (by decide)]; exact htr) hP4 (by rw [xk 31 (by decide)]; exact hC2) hO2 (fun k hk => by rw [xk k (fun e => hk (by simp only [List.mem_cons, List.not_mem_nil, or_false] at e ⊢; omega))]; exact gk k hk)
      exact q
