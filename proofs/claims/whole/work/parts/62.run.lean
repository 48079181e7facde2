/-- a run that has ended, in the class and in the reference -/
def TR (cg : Nat → Int32) (cF : Nat → Nat → Int32) (g : Nat → Int32) (F : Nat → Nat → Int32) : Prop := cg 5 = g 15 ∧ cg 7 = g 17 ∧ cg 6 = g 16 ∧ Ag 8 (cF 0) (F 11) ∧ Ag 160 (cF 3) (F 19) ∧ ((g 15 = 0 ∧ cg 4 = 0 ∧ g 16 = -1) ∨ (¬ g 15 = 0 ∧ cg 4 = g 14)) ∧ (0 ≤ (g 14).toInt ∧ (g 14).toInt ≤ 8) ∧ (∀ k : Nat, (k : Int) < (g 14).toInt → cF 2 k = F 13 k)
theorem tr_end {un : Int32} {cg : Nat → Int32} {cF : Nat → Nat → Int32} {g : Nat → Int32} {F : Nat → Nat → Int32} (h : SB un cg cF g F) (h7 : cg 7 = g 17) (h5 : cg 5 = g 15) (h6 : (g 15 = 0 ∧ cg 6 = -1) ∨ (¬ g 15 = 0 ∧ cg 6 = g 16)) : TR (cend cg cF).1 (cend cg cF).2 (if g 15 = 0 then (upd g 16 (-1 : Int32), F) else (g, F)).1 (if g 15 = 0 then (upd g 16 (-1 : Int32), F) else (g, F)).2 := by
  obtain ⟨a, b, c, d, e, f, k⟩ := h
  unfold cend
  by_cases z : g 15 = 0
  · rw [if_pos z, if_pos (h5.trans z)]
    refine ⟨h5, h7, ?_, d, f, Or.inl ⟨z, rfl, rfl⟩, b, fun j hj => (k j hj).1⟩
    rcases h6 with ⟨-, w⟩ | ⟨w, -⟩
    · exact w
    · exact absurd z w
  · rw [if_neg z, if_neg (by rw [h5]; exact z)]
    refine ⟨h5, h7, ?_, d, f, Or.inr ⟨z, a⟩, b, fun j hj => (k j hj).1⟩
    rcases h6 with ⟨w, -⟩ | ⟨-, w⟩
    · exact absurd w z
    · exact w
theorem op_cases {x : Int32} (h : 0 ≤ x.toInt ∧ x.toInt ≤ 17) : x = 0 ∨ x = 1 ∨ x = 2 ∨ x = 3 ∨ x = 4 ∨ x = 5 ∨ x = 6 ∨ x = 7 ∨ x = 8 ∨ x = 9 ∨ x = 10 ∨ x = 11 ∨ x = 12 ∨ x = 13 ∨ x = 14 ∨ x = 15 ∨ x = 16 ∨ x = 17 := by
  have key : ∀ (n : Int32), x.toInt = n.toInt → x = n := fun n e => Int32.toInt_inj.mp e
  have e : x.toInt = 0 ∨ x.toInt = 1 ∨ x.toInt = 2 ∨ x.toInt = 3 ∨ x.toInt = 4 ∨ x.toInt = 5 ∨ x.toInt = 6 ∨ x.toInt = 7 ∨ x.toInt = 8 ∨ x.toInt = 9 ∨ x.toInt = 10 ∨ x.toInt = 11 ∨ x.toInt = 12 ∨ x.toInt = 13 ∨ x.toInt = 14 ∨ x.toInt = 15 ∨ x.toInt = 16 ∨ x.toInt = 17 := by omega
  rcases e with e | e | e | e | e | e | e | e | e | e | e | e | e | e | e | e | e | e
  · exact Or.inl (key 0 e)
  · exact Or.inr (Or.inl (key 1 e))
  · exact Or.inr (Or.inr (Or.inl (key 2 e)))
  · exact Or.inr (Or.inr (Or.inr (Or.inl (key 3 e))))
  · exact Or.inr (Or.inr (Or.inr (Or.inr (Or.inl (key 4 e)))))
  · exact Or.inr (Or.inr (Or.inr (Or.inr (Or.inr (Or.inl (key 5 e))))))
  · exact Or.inr (Or.inr (Or.inr (Or.inr (Or.inr (Or.inr (Or.inl (key 6 e)))))))
  · exact Or.inr (Or.inr (Or.inr (Or.inr (Or.inr (Or.inr (Or.inr (Or.inl (key 7 e))))))))
  · exact Or.inr (Or.inr (Or.inr (Or.inr (Or.inr (Or.inr (Or.inr (Or.inr (Or.inl (key 8 e)))))))))
  · exact Or.inr (Or.inr (Or.inr (Or.inr (Or.inr (Or.inr (Or.inr (Or.inr (Or.inr (Or.inl (key 9 e))))))))))
  · exact Or.inr (Or.inr (Or.inr (Or.inr (Or.inr (Or.inr (Or.inr (Or.inr (Or.inr (Or.inr (Or.inl (key 10 e)))))))))))
  · exact Or.inr (Or.inr (Or.inr (Or.inr (Or.inr (Or.inr (Or.inr (Or.inr (Or.inr (Or.inr (Or.inr (Or.inl (key 11 e))))))))))))
  · exact Or.inr (Or.inr (Or.inr (Or.inr (Or.inr (Or.inr (Or.inr (Or.inr (Or.inr (Or.inr (Or.inr (Or.inr (Or.inl (key 12 e)))))))))))))
  · exact Or.inr (Or.inr (Or.inr (Or.inr (Or.inr (Or.inr (Or.inr (Or.inr (Or.inr (Or.inr (Or.inr (Or.inr (Or.inr (Or.inl (key 13 e))))))))))))))
  · exact Or.inr (Or.inr (Or.inr (Or.inr (Or.inr (Or.inr (Or.inr (Or.inr (Or.inr (Or.inr (Or.inr (Or.inr (Or.inr (Or.inr (Or.inl (key 14 e)))))))))))))))
  · exact Or.inr (Or.inr (Or.inr (Or.inr (Or.inr (Or.inr (Or.inr (Or.inr (Or.inr (Or.inr (Or.inr (Or.inr (Or.inr (Or.inr (Or.inr (Or.inl (key 15 e))))))))))))))))
  · exact Or.inr (Or.inr (Or.inr (Or.inr (Or.inr (Or.inr (Or.inr (Or.inr (Or.inr (Or.inr (Or.inr (Or.inr (Or.inr (Or.inr (Or.inr (Or.inr (Or.inl (key 16 e)))))))))))))))))
  · exact Or.inr (Or.inr (Or.inr (Or.inr (Or.inr (Or.inr (Or.inr (Or.inr (Or.inr (Or.inr (Or.inr (Or.inr (Or.inr (Or.inr (Or.inr (Or.inr (Or.inr (key 17 e)))))))))))))))))
theorem st_all {un : Int32} {uf : Nat → Int32} {cg : Nat → Int32} {cF : Nat → Nat → Int32} {g : Nat → Int32} {F : Nat → Nat → Int32} {pl : Int32} (h : SB un cg cF g F) (hg : cg 11 = 1) (h9 : cg 9 = pl) (h5 : cg 5 = 0) (h15 : g 15 = 0) (h6 : cg 6 = -1) (hp : 0 ≤ pl.toInt ∧ pl.toInt < 80) (h8 : (cg 8).toInt ≤ 400) (hI : IR un uf (g 10) (F 9)) (hw : WF F) (hop : 0 ≤ (F 1 pl.toNatClampNeg).toInt ∧ (F 1 pl.toNatClampNeg).toInt ≤ 17) : SIM un cg (cstep (F 1 pl.toNatClampNeg) (F 2 pl.toNatClampNeg) (F 3 pl.toNatClampNeg) (F 4 pl.toNatClampNeg) (upd cg 10 (cg 9 + (1 : Int32))) cF un uf) (r_X9_does pl g F) := by
  have hA := (hw pl.toNatClampNeg).1
  have hB := (hw pl.toNatClampNeg).2
  rcases op_cases hop with e | e | e | e | e | e | e | e | e | e | e | e | e | e | e | e | e | e
  · rw [show cstep (F 1 pl.toNatClampNeg) = cstep (0 : Int32) from congrArg cstep e]
    exact st_0 (un := un) (uf := uf) h hg h9 h5 h15 h6 hp h8 hI hA e
  · rw [show cstep (F 1 pl.toNatClampNeg) = cstep (1 : Int32) from congrArg cstep e]
    exact st_1 (un := un) (uf := uf) h hg h9 h5 h15 h6 hp h8 hI hA (hB (by rw [e]; decide)) e
  · rw [show cstep (F 1 pl.toNatClampNeg) = cstep (2 : Int32) from congrArg cstep e]
    exact st_2 (un := un) (uf := uf) h hg h9 h5 h15 h6 hp h8 hI hA (hB (by rw [e]; decide)) e
  · rw [show cstep (F 1 pl.toNatClampNeg) = cstep (3 : Int32) from congrArg cstep e]
    exact st_3 (un := un) (uf := uf) h hg h9 h5 h15 h6 hp h8 hI hA (hB (by rw [e]; decide)) e
  · rw [show cstep (F 1 pl.toNatClampNeg) = cstep (4 : Int32) from congrArg cstep e]
    exact st_4 (un := un) (uf := uf) h hg h9 h5 h15 h6 hp h8 hI hA (hB (by rw [e]; decide)) e
  · rw [show cstep (F 1 pl.toNatClampNeg) = cstep (5 : Int32) from congrArg cstep e]
    exact st_5 (un := un) (uf := uf) h hg h9 h5 h15 h6 hp h8 hI hA (hB (by rw [e]; decide)) e
  · rw [show cstep (F 1 pl.toNatClampNeg) = cstep (6 : Int32) from congrArg cstep e]
    exact st_6 (un := un) (uf := uf) h hg h9 h5 h15 h6 hp h8 hI hA (hB (by rw [e]; decide)) e
  · rw [show cstep (F 1 pl.toNatClampNeg) = cstep (7 : Int32) from congrArg cstep e]
    exact st_7 (un := un) (uf := uf) h hg h9 h5 h15 h6 hp h8 hI hA (hB (by rw [e]; decide)) e
  · rw [show cstep (F 1 pl.toNatClampNeg) = cstep (8 : Int32) from congrArg cstep e]
    exact st_8 (un := un) (uf := uf) h hg h9 h5 h15 h6 hp h8 hI hA (hB (by rw [e]; decide)) e
  · rw [show cstep (F 1 pl.toNatClampNeg) = cstep (9 : Int32) from congrArg cstep e]
    exact st_9 (un := un) (uf := uf) h hg h9 h5 h15 h6 hp h8 hI hA (hB (by rw [e]; decide)) e
  · rw [show cstep (F 1 pl.toNatClampNeg) = cstep (10 : Int32) from congrArg cstep e]
    exact st_10 (un := un) (uf := uf) h hg h9 h5 h15 h6 hp h8 hI hA (hB (by rw [e]; decide)) e
  · rw [show cstep (F 1 pl.toNatClampNeg) = cstep (11 : Int32) from congrArg cstep e]
    exact st_11 (un := un) (uf := uf) h hg h9 h5 h15 h6 hp h8 hI hA (hB (by rw [e]; decide)) e
  · rw [show cstep (F 1 pl.toNatClampNeg) = cstep (12 : Int32) from congrArg cstep e]
    exact st_12 (un := un) (uf := uf) h hg h9 h5 h15 h6 hp h8 hI hA (hB (by rw [e]; decide)) e
  · rw [show cstep (F 1 pl.toNatClampNeg) = cstep (13 : Int32) from congrArg cstep e]
    exact st_13 (un := un) (uf := uf) h hg h9 h5 h15 h6 hp h8 hI hA (hB (by rw [e]; decide)) e
  · rw [show cstep (F 1 pl.toNatClampNeg) = cstep (14 : Int32) from congrArg cstep e]
    exact st_14 (un := un) (uf := uf) h hg h9 h5 h15 h6 hp h8 hI hA (hB (by rw [e]; decide)) e
  · rw [show cstep (F 1 pl.toNatClampNeg) = cstep (15 : Int32) from congrArg cstep e]
    exact st_15 (un := un) (uf := uf) h hg h9 h5 h15 h6 hp h8 hI hA (hB (by rw [e]; decide)) e
  · rw [show cstep (F 1 pl.toNatClampNeg) = cstep (16 : Int32) from congrArg cstep e]
    exact st_16 (un := un) (uf := uf) h hg h9 h5 h15 h6 hp h8 hI hA (hB (by rw [e]; decide)) e
  · rw [show cstep (F 1 pl.toNatClampNeg) = cstep (17 : Int32) from congrArg cstep e]
    exact st_17 (un := un) (uf := uf) h hg h9 h5 h15 h6 hp h8 hI hA (hB (by rw [e]; decide)) e
theorem on_0 {cg : Nat → Int32} {cF : Nat → Nat → Int32} {pn : Int32} {pf : Nat → Int32} : (r_X7_isOn cg cF pn pf = 0) ↔ (cg 11 = 0 ∨ cg 9 < 0 ∨ pn ≤ cg 9) := by
  unfold r_X7_isOn
  by_cases a : cg 11 = 0
  · rw [if_pos a]
    exact ⟨fun _ => Or.inl a, fun _ => rfl⟩
  · rw [if_neg a]
    by_cases b : r_X5_has (cg 9) pn pf = 0
    · rw [if_pos b]
      exact ⟨fun _ => Or.inr (has_on.mp b), fun _ => rfl⟩
    · rw [if_neg b]
      exact ⟨fun q => absurd q (by decide), fun q => by rcases q with q | q; exact absurd q a; exact absurd (has_on.mpr q) b⟩
theorem IR.of {n : Int32} {f : Nat → Int32} {m m' : Int32} {e e' : Nat → Int32} (h : IR n f m e) (hm : m' = m) (he : e' = e) : IR n f m' e' := by
  rw [hm, he]
  exact h
theorem run_sim (pn : Int32) (pf : Nat → Int32) (un : Int32) (uf : Nat → Int32) : ∀ (fu : Nat) (cg : Nat → Int32) (cF : Nat → Nat → Int32) (g : Nat → Int32) (F : Nat → Nat → Int32) (x1 : Int32), (400 - (cg 7).toInt).toNat < fu → (0 ≤ (cg 7).toInt ∧ (cg 7).toInt ≤ 400) → cg 7 = g 17 → (cg 8).toInt ≤ (cg 7).toInt → SB un cg cF g F → MO cg g x1 → PR pn pf g F → IR un uf (g 10) (F 9) → TR (g_X7_execute_9 pn pf un uf fu cg cF).1 (g_X7_execute_9 pn pf un uf fu cg cF).2 (g_X9_goThrough_91 fu g F x1).1 (g_X9_goThrough_91 fu g F x1).2
  | 0, _, _, _, _, _, h, _, _, _, _, _, _, _ => absurd h (Nat.not_lt_zero _)
  | fu + 1, cg, cF, g, F, x1, hmu, hb7, h7, h8, hS, hM, hR, hI => by
    rw [ex_eq]
    unfold g_X9_goThrough_91
    dsimp only
    rcases hM with ⟨m11, m1, m9, m5, m15, m6⟩ | ⟨m11, m1, m5, m6⟩
    · rw [if_neg (show ¬ x1 = 0 by rw [m1]; decide)]
      have fin := tr_end hS h7 (m5.trans m15.symm) (Or.inl ⟨m15, m6⟩)
      have hpn := hR.1
      by_cases a : g 16 < 0
      · have ho : r_X7_isOn cg cF pn pf = 0 := on_0.mpr (Or.inr (Or.inl (by rw [m9]; exact a)))
        rw [if_pos ho, if_pos ho, if_pos a]
        exact P_ite (fun t : (Nat → Int32) × (Nat → Nat → Int32) => TR t.1 t.2 _ _) (fun _ => fin) (fun _ => fin)
      · rw [if_neg a]
        by_cases b : g 5 ≤ g 16
        · have ho : r_X7_isOn cg cF pn pf = 0 := on_0.mpr (Or.inr (Or.inr (by rw [m9, hpn]; exact b)))
          rw [if_pos ho, if_pos ho, if_pos b]
          exact P_ite (fun t : (Nat → Int32) × (Nat → Nat → Int32) => TR t.1 t.2 _ _) (fun _ => fin) (fun _ => fin)
        · have ho : ¬ r_X7_isOn cg cF pn pf = 0 := fun q => by
            rcases on_0.mp q with q | q | q
            · rw [m11] at q; exact absurd q (by decide)
            · rw [m9] at q; exact a q
            · rw [m9, hpn] at q; exact b q
          rw [if_neg ho, if_neg ho, if_neg b]
          by_cases c : g 17 = 400
          · rw [if_pos (show (400 : Int32) ≤ cg 7 by rw [h7, c]; decide), if_pos c]
            obtain ⟨s1, s2, s3, s4, s5, s6, s7⟩ := hS
            unfold cend
            rw [if_neg (show ¬ r_X7_fail 5 cg cF 5 = 0 from (show ¬ (5 : Int32) = 0 by decide))]
            exact ⟨rfl, h7, m9, s4, s6, Or.inr ⟨(show ¬ (5 : Int32) = 0 by decide), s1⟩, s2, fun j hj => (s7 j hj).1⟩
          · have hc7 : ¬ (400 : Int32) ≤ cg 7 := by
              intro q
              apply c
              rw [← h7]
              apply Int32.toInt_inj.mp
              simp only [sg_le] at q
              have e4 : (400 : Int32).toInt = 400 := rfl
              omega
            rw [if_neg hc7, if_neg c]
            have hp := hp_of a b hR.2.1
            have hpp : 0 ≤ (cg 9).toInt ∧ (cg 9).toInt < pn.toInt := by
              rw [m9, hpn]
              simp only [sg_le] at b
              omega
            have h80 : pn.toInt ≤ 80 := by rw [hpn]; exact hR.2.1.2
            have hk := hR.2.2.2.2 (g 16).toNatClampNeg (by rw [tN]; simp only [sg_le] at b; omega)
            rw [part_in (j := 0) hpp h80 rfl (by omega), part_in (j := 1) hpp h80 rfl (by omega), part_in (j := 2) hpp h80 rfl (by omega), part_in (j := 3) hpp h80 rfl (by omega), m9, Nat.add_zero, hk.1, hk.2.1, hk.2.2.1, hk.2.2.2]
            have q := st_all (g := upd g 17 (g 17 + 1)) (uf := uf) hS m11 m9 m5 m15 m6 hp (by omega) hI hR.2.2.1 (hR.2.2.2.1 _)
            have hE := does_pe (g 16) (upd g 17 (g 17 + 1)) F
            rw [m9] at q
            generalize cstep (F 1 (g 16).toNatClampNeg) (F 2 (g 16).toNatClampNeg) (F 3 (g 16).toNatClampNeg) (F 4 (g 16).toNatClampNeg) (upd cg 10 (g 16 + 1)) cF un uf = u at q ⊢
            generalize r_X9_does (g 16) (upd g 17 (g 17 + 1)) F = t at q hE ⊢
            obtain ⟨q1, q2, q3, q4⟩ := q
            have fr := hE.1
            have e17 : t.2.1 17 = g 17 + 1 := fr.1 17 (by decide)
            have e5 : t.2.1 5 = g 5 := fr.1 5 (by decide)
            have e10 : t.2.1 10 = g 10 := fr.1 10 (by decide)
            have s7 : stp u 7 = cg 7 + 1 := by
              show u.1 7 + 1 = _
              rw [q3]
            have i7 := inc_i (n := 400) hb7.1 hb7.2 (by omega)
            have c400 : (cg 7).toInt < 400 := by
              simp only [sg_le] at hc7
              have e4 : (400 : Int32).toInt = 400 := rfl
              omega
            have s8 : (stp u 8).toInt ≤ (cg 7).toInt + 1 := by
              show (u.1 8).toInt ≤ _
              rcases q4 with w | w
              · rw [w]; omega
              · rw [w, inc_i (n := 400) hS.2.2.1.1 (by omega) (by omega)]
                omega
            exact run_sim pn pf un uf fu (stp u) u.2 t.2.1 t.2.2 t.1 (by rw [s7, i7]; omega) (by rw [s7, i7]; omega) (by rw [s7, e17, h7]) (by rw [s7, i7]; exact s8) q1 q2 (hR.of e5 (fr.2 1 (by decide)) (fr.2 2 (by decide)) (fr.2 3 (by decide)) (fr.2 4 (by decide))) (hI.of e10 (fr.2 9 (by decide)))
    · have ho : r_X7_isOn cg cF pn pf = 0 := on_0.mpr (Or.inl m11)
      rw [if_pos ho, if_pos ho, if_pos m1]
      have fin := tr_end hS h7 m5 m6
      exact P_ite (fun t : (Nat → Int32) × (Nat → Nat → Int32) => TR t.1 t.2 _ _) (fun _ => fin) (fun _ => fin)
theorem fill_g (NN : Nat) (hN : NN ≤ 2000) (v : Int32) : ∀ (fu : Nat) (f : Nat → Int32) (j : Nat), NN - j < fu → j ≤ NN → g_J7_fill_53178_5 NN v (nI NN) fu f j = cpyF j NN (fun _ => v) f
  | 0, _, _, h, _ => absurd h (Nat.not_lt_zero _)
  | fu + 1, f, j, h, hj => by
    unfold g_J7_fill_53178_5
    by_cases c : NN ≤ j
    · rw [if_pos (by rw [nI_leI (by omega) (by omega)]; exact c), cpyF_end c]
    · rw [if_neg (by rw [nI_leI (by omega) (by omega)]; exact c), fill_g NN hN v fu _ _ (by omega) (by omega)]
      exact cpyF_step (by omega) (fun _ => v) f
theorem fill_cl {NN : Nat} (hN : NN ≤ 2000) (v : Int32) (f : Nat → Int32) : r_J7_fill_53178 v NN f = cpy NN (fun _ => v) f := by
  unfold r_J7_fill_53178
  rw [fill_g NN hN v _ _ _ (by omega) (by omega), cpyF_0]
theorem reset_cl (g : Nat → Int32) (F : Nat → Nat → Int32) : r_X7_reset g F = (upd (upd (upd (upd (upd (upd g 4 (0 : Int32)) 5 (0 : Int32)) 6 (-1 : Int32)) 8 (0 : Int32)) 9 (0 : Int32)) 11 (1 : Int32), va_up (va_up (va_up F 0 (cpy 8 (fun _ => (0 : Int32)) (F 0))) 1 (cpy 16 (fun _ => (0 : Int32)) (F 1))) 3 (cpy 160 (fun _ => (0 : Int32)) (F 3))) := by
  unfold r_X7_reset
  dsimp only
  rw [fill_cl (by omega), fill_cl (by omega), fill_cl (by omega), vup_vup, vup_vup, vup_vup]
theorem ex_401 (x : Nat → Int32) : (400 - ((upd x 7 (0 : Int32)) 7).toInt).toNat + 1 = 401 := by
  rw [upd_s]
  rfl
theorem exec_cl (pn : Int32) (pf : Nat → Int32) (un : Int32) (uf : Nat → Int32) (cg : Nat → Int32) (cF : Nat → Nat → Int32) : r_X7_execute cg cF pn pf un uf = g_X7_execute_9 pn pf un uf 401 (upd (r_X7_reset cg cF).1 7 (0 : Int32)) (r_X7_reset cg cF).2 := by
  unfold r_X7_execute
  dsimp only
  rw [ex_401]
theorem exec_sim {pn : Int32} {pf : Nat → Int32} {un : Int32} {uf : Nat → Int32} {g : Nat → Int32} {F : Nat → Nat → Int32} (hR : PR pn pf g F) (hI : IR un uf (g 10) (F 9)) (cg : Nat → Int32) (cF : Nat → Nat → Int32) : TR (r_X7_execute cg cF pn pf un uf).1 (r_X7_execute cg cF pn pf un uf).2 (r_X9_goThrough g F).1 (r_X9_goThrough g F).2 := by
  rw [cl_goThrough, exec_cl, reset_cl]
  dsimp only
  refine run_sim pn pf un uf 401 _ _ (st9g g) (st9F F) 1 ?_ ?_ ?_ ?_ ?_ ?_ ?_ ?_
  · show (400 - (0 : Int32).toInt).toNat < 401
    decide
  · show 0 ≤ (0 : Int32).toInt ∧ (0 : Int32).toInt ≤ 400
    decide
  · rfl
  · show (0 : Int32).toInt ≤ (0 : Int32).toInt
    decide
  · refine ⟨rfl, (show 0 ≤ (0 : Int32).toInt ∧ (0 : Int32).toInt ≤ 8 by decide), ?_, ?_, ?_, ?_, ?_⟩
    · show RD (0 : Int32) (0 : Int32) un
      refine ⟨by decide, ?_⟩
      have z : (0 : Int32).toInt = 0 := rfl
      have hu := hI.2.1
      rw [← hI.1] at hu
      by_cases w : un.toInt = 0
      · refine Or.inr ⟨by omega, ?_⟩
        apply Int32.toInt_inj.mp
        rw [w, z]
      · exact Or.inl ⟨by omega, rfl⟩
    · intro k hk
      show cpy 8 (fun _ => 0) (cF 0) k = cpy 8 (fun _ => 0) (F 11) k
      rw [cpy_lt hk, cpy_lt hk]
    · intro k hk
      show cpy 16 (fun _ => 0) (cF 1) k = cpy 16 (fun _ => 0) (F 12) k
      rw [cpy_lt hk, cpy_lt hk]
    · intro k hk
      show cpy 160 (fun _ => 0) (cF 3) k = cpy 160 (fun _ => 0) (F 19) k
      rw [cpy_lt hk, cpy_lt hk]
    · intro k hk
      have hk : (k : Int) < (0 : Int32).toInt := hk
      have z : (0 : Int32).toInt = 0 := rfl
      omega
  · exact Or.inl ⟨rfl, rfl, rfl, rfl, rfl, rfl⟩
  · exact hR.of rfl rfl rfl rfl rfl
  · exact hI
theorem oc_sim {cg : Nat → Int32} {cF : Nat → Nat → Int32} {g : Nat → Int32} {F : Nat → Nat → Int32} (h : TR cg cF g F) (i : Int32) : r_X7_openCall i cg cF = r_X9_openAt i g F := by
  obtain ⟨-, -, -, -, -, h4, hb, hk⟩ := h
  have z : (0 : Int32).toInt = 0 := rfl
  have e1 : (1 : Int32).toInt = 1 := rfl
  have e8 : (8 : Int32).toInt = 8 := rfl
  have ed : (g 14 - 1).toInt = (g 14).toInt - 1 := by rw [fb_subI (by rw [e1]; omega) (by rw [e1]; omega), e1]
  unfold r_X7_openCall r_X9_openAt r_X9_in
  rcases h4 with ⟨a, b, -⟩ | ⟨a, b⟩
  · rw [if_pos a, b]
    by_cases c : i < 0
    · rw [if_pos c]
    · rw [if_neg c, if_pos (show (0 : Int32) ≤ i by simp only [sg_lt, sg_le] at *; omega)]
  · rw [if_neg a, b]
    by_cases c : i < 0
    · rw [if_pos c, if_pos c, if_pos rfl]
    · rw [if_neg c, if_neg c]
      by_cases d : g 14 ≤ i
      · rw [if_pos d, if_pos (show g 14 - 1 < i by simp only [sg_lt, sg_le] at *; omega), if_pos rfl]
      · rw [if_neg d, if_pos (show g 14 ≤ 8 by simp only [sg_le]; omega), if_neg (show ¬ g 14 - 1 < i by simp only [sg_lt, sg_le] at *; omega), if_neg (by decide)]
        have ei : (g 14 - 1 - i).toInt = (g 14).toInt - 1 - i.toInt := by
          simp only [sg_lt, sg_le] at c d
          rw [fb_subI (by rw [ed]; omega) (by rw [ed]; omega), ed]
        apply hk
        rw [tN, ei]
        simp only [sg_lt, sg_le] at c d
        omega
