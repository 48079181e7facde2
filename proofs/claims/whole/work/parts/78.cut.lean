/-- the cut so far, in both -/
def CQ (g0 : Nat → Int32) (F0 : Nat → Nat → Int32) (k nn : Int32) (nf : Nat → Int32) (g : Nat → Int32) (F : Nat → Nat → Int32) : Prop := k = g 39 ∧ IR nn nf (g 38) (F 37) ∧ Fr [10, 14, 15, 16, 17, 18, 38, 39] [9, 11, 12, 13, 19, 37] g0 F0 g F ∧ J g F
theorem fr_w {g g' : Nat → Int32} {F F' : Nat → Nat → Int32} (f : Fr [10, 14, 15, 16, 17, 18, 38, 39] [9, 11, 12, 13, 19, 37] g F g' F') : Fr [8, 10, 14, 15, 16, 17, 18, 20, 21, 22, 23, 24, 38, 39] [7, 9, 11, 12, 13, 19, 25, 26, 27, 37] g F g' F' := f.mono (by decide) (by decide)
theorem tri_sim {b : Nat} {bi fi : Int32} {pn : Int32} {pf qf : Nat → Int32} {qsn : Int32} {qsf qsz : Nat → Int32} {g0 : Nat → Int32} {F0 : Nat → Nat → Int32} (hb : bi.toInt = (b : Int)) (hb1 : b < 2) (hP : PR pn pf g0 F0) (hF : FRW b qf qsn (F0 34)) (hfi : 0 ≤ fi.toInt ∧ fi.toInt < qsn.toInt) (hq : qsn.toInt ≤ 20) {k nn : Int32} {nf : Nat → Int32} {g : Nat → Int32} {F : Nat → Nat → Int32} (hc : CQ g0 F0 k nn nf g F) {v : (Nat → Int32) × (Nat → Nat → Int32)} (fv : Fr [10] [9] g F v.1 v.2) (jv : J v.1 v.2) {tn : Int32} {tf : Nat → Int32} (hI : IR tn tf (v.1 10) (v.2 9)) (rg : Nat → Int32) (rF : Nat → Nat → Int32) : (r_X2_trialShows fi k nn nf tn tf rg rF pn pf qf qsn qsf qsz).1 = (r_X9_holds ((20 : Int32) * bi + fi) v.1 v.2).1 ∧ CQ g0 F0 (r_X2_trialShows fi k nn nf tn tf rg rF pn pf qf qsn qsf qsz).2.1 (r_X2_trialShows fi k nn nf tn tf rg rF pn pf qf qsn qsf qsz).2.2.1 (r_X2_trialShows fi k nn nf tn tf rg rF pn pf qf qsn qsf qsz).2.2.2.1 (r_X9_holds ((20 : Int32) * bi + fi) v.1 v.2).2.1 (r_X9_holds ((20 : Int32) * bi + fi) v.1 v.2).2.2 := by
  obtain ⟨c1, c2, c3, c4⟩ := hc
  have f0 : Fr [10, 14, 15, 16, 17, 18, 38, 39] [9, 11, 12, 13, 19, 37] g0 F0 v.1 v.2 := c3.trans (fv.mono (by decide) (by decide))
  have hP2 : PR pn pf v.1 v.2 := hP.fr (fr_w f0)
  have q1 := exec_sim hP2 hI rg rF
  have jg := jv.goThrough
  have gk := go_kept v.1 v.2 jv
  have gf := (goThrough_gt v.1 v.2 jv.p10).1
  unfold r_X2_trialShows r_X9_holds
  dsimp only
  generalize r_X7_execute rg rF pn pf tn tf = u at q1 ⊢
  generalize r_X9_goThrough v.1 v.2 = w at q1 jg gk gf ⊢
  have f1 : Fr [10, 14, 15, 16, 17, 18, 38, 39] [9, 11, 12, 13, 19, 37] g0 F0 w.1 w.2 := f0.trans (gf.mono (by decide) (by decide))
  have hF2 : FRW b qf qsn (w.2 34) := by rw [f1.2 34 (by decide)]; exact hF
  have q2 : TR u.1 u.2 (upd w.1 39 (w.1 39 + 1)) w.2 := q1
  have mt := match_sim (sf := qsf) (sz := qsz) hb hb1 q2 hfi hq hF2
  rw [mt]
  have j39 := jg.u 39 (w.1 39 + 1) (by decide)
  have e39 : w.1 39 = g 39 := by rw [gk.2.2.1]; exact fv.1 39 (by decide)
  have f2 : Fr [10, 14, 15, 16, 17, 18, 38, 39] [9, 11, 12, 13, 19, 37] g0 F0 (upd w.1 39 (w.1 39 + 1)) w.2 := Fr.u (by decide) f1
  by_cases d : r_X9_shows ((20 : Int32) * bi + fi) (upd w.1 39 (w.1 39 + 1)) w.2 = 0
  · rw [if_pos d, if_pos d]
    refine ⟨rfl, ?_, ?_, f2, j39⟩
    · show k + 1 = upd w.1 39 (w.1 39 + 1) 39
      rw [upd_s, e39, c1]
    · show IR nn nf (upd w.1 39 (w.1 39 + 1) 38) (w.2 37)
      rw [upd_n _ _ (by decide), gk.2.2.2.2.2.1, gk.2.2.2.2.2.2, fv.1 38 (by decide), fv.2 37 (by decide)]
      exact c2
  · rw [if_neg d, if_neg d]
    have hI2 : IR tn tf ((upd w.1 39 (w.1 39 + 1)) 10) (w.2 9) := by
      rw [upd_n _ _ (by decide), gk.2.2.2.1, gk.2.2.2.2.1]
      exact hI
    rw [copy_cl c2.rng.1 hI2.rng, cl_toBest _ _ (b24 j39.p10)]
    have jb := j39.toBest
    rw [cl_toBest _ _ (b24 j39.p10)] at jb
    refine ⟨rfl, ?_, ?_, Fr.v (by decide) (Fr.u (by decide) f2), jb⟩
    · show k + 1 = upd (upd w.1 39 (w.1 39 + 1)) 38 ((upd w.1 39 (w.1 39 + 1)) 10) 39
      rw [upd_n _ _ (by decide), upd_s, e39, c1]
    · show IR tn (cpy tn.toInt.toNat tf nf) (upd (upd w.1 39 (w.1 39 + 1)) 38 ((upd w.1 39 (w.1 39 + 1)) 10) 38) (va_up w.2 37 (cpy ((upd w.1 39 (w.1 39 + 1)) 10).toInt.toNat (w.2 9) (w.2 37)) 37)
      rw [upd_s, va_up_self]
      exact (hI2.cp2 nf).cp (w.2 37)
theorem best_in {k nn : Int32} {nf : Nat → Int32} {g0 g : Nat → Int32} {F0 F : Nat → Nat → Int32} (hc : CQ g0 F0 k nn nf g F) : IR nn nf ((r_X9_fromBest g F).1 10) ((r_X9_fromBest g F).2 9) ∧ Fr [10] [9] g F (r_X9_fromBest g F).1 (r_X9_fromBest g F).2 ∧ (r_X9_fromBest g F).1 10 = g 38 ∧ (r_X9_fromBest g F).2 9 = cpy (g 38).toInt.toNat (F 37) (F 9) := by
  obtain ⟨c1, c2, c3, c4⟩ := hc
  rw [cl_fromBest g F (b24 c4.p38)]
  refine ⟨?_, Fr.v (by decide) (Fr.u (by decide) Fr.refl), rfl, rfl⟩
  show IR nn nf (g 38) (cpy (g 38).toInt.toNat (F 37) (F 9))
  exact c2.cp _
/-- pieces left out, one after the other -/
theorem lv27 {b : Nat} {bi fi : Int32} {pn : Int32} {pf qf : Nat → Int32} {qsn : Int32} {qsf qsz : Nat → Int32} {g0 : Nat → Int32} {F0 : Nat → Nat → Int32} (hb : bi.toInt = (b : Int)) (hb1 : b < 2) (hP : PR pn pf g0 F0) (hF : FRW b qf qsn (F0 34)) (hfi : 0 ≤ fi.toInt ∧ fi.toInt < qsn.toInt) (hq : qsn.toInt ≤ 20) (hJ0 : 0 ≤ ((20 : Int32) * bi + fi).toInt ∧ ((20 : Int32) * bi + fi).toInt < 40) {x5 : Int32} (h5 : 1 ≤ x5.toInt ∧ x5.toInt ≤ 12) : ∀ (fu fv j : Nat) (k nn : Int32) (nf : Nat → Int32) (tn : Int32) (tf rg : Nat → Int32) (rF : Nat → Nat → Int32) (x4 x6 : Int32) (g : Nat → Int32) (F : Nat → Nat → Int32), 24 - j < fu → j ≤ 24 → ((g 38).toInt - x6.toInt).toNat < fv → (0 ≤ x6.toInt ∧ x6.toInt ≤ 40) → (g 38).toInt - x6.toInt ≤ 24 - j → 0 ≤ tn.toInt → CQ g0 F0 k nn nf g F → CQ g0 F0 (g_X2_leaveOut_27 pn pf qf qsn qsf qsz fi x5 fu k nn nf tn tf rg rF x4 x6 j).1 (g_X2_leaveOut_27 pn pf qf qsn qsf qsz fi x5 fu k nn nf tn tf rg rF x4 x6 j).2.1 (g_X2_leaveOut_27 pn pf qf qsn qsf qsz fi x5 fu k nn nf tn tf rg rF x4 x6 j).2.2.1 (g_X9_leavesOut_18 ((20 : Int32) * bi + fi) x5 fv g F x4 x6).1 (g_X9_leavesOut_18 ((20 : Int32) * bi + fi) x5 fv g F x4 x6).2.1 ∧ (g_X2_leaveOut_27 pn pf qf qsn qsf qsz fi x5 fu k nn nf tn tf rg rF x4 x6 j).2.2.2.2.2.2.2.1 = (g_X9_leavesOut_18 ((20 : Int32) * bi + fi) x5 fv g F x4 x6).2.2.1 ∧ 0 ≤ (g_X2_leaveOut_27 pn pf qf qsn qsf qsz fi x5 fu k nn nf tn tf rg rF x4 x6 j).2.2.2.1.toInt
  | 0, _, _, _, _, _, _, _, _, _, _, _, _, _, h, _, _, _, _, _, _ => absurd h (Nat.not_lt_zero _)
  | _, 0, _, _, _, _, _, _, _, _, _, _, _, _, _, _, h, _, _, _, _ => absurd h (Nat.not_lt_zero _)
  | fu + 1, fv + 1, j, k, nn, nf, tn, tf, rg, rF, x4, x6, g, F, h1, hj, h2, h6, hr, ht, hc => by
    have hn := hc.2.1.1
    have hJ := hc.2.2.2
    have h38 := hJ.p38
    have ej := nI_toInt (n := j) (by omega)
    have e24 : (24 : Int32).toInt = 24 := rfl
    rw [g_X2_leaveOut_27, g_X9_leavesOut_18]
    by_cases c : g 38 ≤ x6
    · rw [if_pos c]
      have c3 : nn ≤ x6 := by rw [hn]; exact c
      by_cases c2 : (24 : Int32) ≤ nI j
      · rw [if_pos c2]
        exact ⟨hc, rfl, ht⟩
      · rw [if_neg c2, if_pos c3]
        exact ⟨hc, rfl, ht⟩
    · have c0 := c
      simp only [sg_le] at c0
      rw [if_neg c, if_neg (show ¬ (24 : Int32) ≤ nI j by simp only [sg_le]; omega), if_neg (show ¬ nn ≤ x6 by rw [hn]; exact c)]
      dsimp only
      obtain ⟨b1, b2, b3, b4⟩ := best_in hc
      have jb := hJ.fromBest
      generalize h1e : r_X9_fromBest g F = v at b1 b2 b3 b4 jb ⊢
      have q := lo_m h6 h5 jb.p10 (by rw [b3]; exact c)
      have ho : 0 ≤ x6.toInt ∧ x6.toInt < nn.toInt := by rw [hn]; omega
      have fin : ∀ M : Int32, (0 ≤ M.toInt ∧ M.toInt ≤ (v.1 10).toInt) → 0 < M.toInt → x6.toInt + M.toInt ≤ (v.1 10).toInt → ((x6.toInt + x5.toInt ≤ (v.1 10).toInt ∧ M = x5) ∨ ((v.1 10).toInt < x6.toInt + x5.toInt ∧ M.toInt = (v.1 10).toInt - x6.toInt)) → CQ g0 F0 ((if (r_X2_trialShows fi k nn nf (r_X4_copyParts x6 (x6 + x5) tn tf nn nf).1 (r_X4_copyParts x6 (x6 + x5) tn tf nn nf).2 rg rF pn pf qf qsn qsf qsz).1 = (0 : Int32) then g_X2_leaveOut_27 pn pf qf qsn qsf qsz fi x5 fu (r_X2_trialShows fi k nn nf (r_X4_copyParts x6 (x6 + x5) tn tf nn nf).1 (r_X4_copyParts x6 (x6 + x5) tn tf nn nf).2 rg rF pn pf qf qsn qsf qsz).2.1 (r_X2_trialShows fi k nn nf (r_X4_copyParts x6 (x6 + x5) tn tf nn nf).1 (r_X4_copyParts x6 (x6 + x5) tn tf nn nf).2 rg rF pn pf qf qsn qsf qsz).2.2.1 (r_X2_trialShows fi k nn nf (r_X4_copyParts x6 (x6 + x5) tn tf nn nf).1 (r_X4_copyParts x6 (x6 + x5) tn tf nn nf).2 rg rF pn pf qf qsn qsf qsz).2.2.2.1 (r_X4_copyParts x6 (x6 + x5) tn tf nn nf).1 (r_X4_copyParts x6 (x6 + x5) tn tf nn nf).2 (r_X2_trialShows fi k nn nf (r_X4_copyParts x6 (x6 + x5) tn tf nn nf).1 (r_X4_copyParts x6 (x6 + x5) tn tf nn nf).2 rg rF pn pf qf qsn qsf qsz).2.2.2.2.1 (r_X2_trialShows fi k nn nf (r_X4_copyParts x6 (x6 + x5) tn tf nn nf).1 (r_X4_copyParts x6 (x6 + x5) tn tf nn nf).2 rg rF pn pf qf qsn qsf qsz).2.2.2.2.2 x4 (x6 + x5) (j + 1) else g_X2_leaveOut_27 pn pf qf qsn qsf qsz fi x5 fu (r_X2_trialShows fi k nn nf (r_X4_copyParts x6 (x6 + x5) tn tf nn nf).1 (r_X4_copyParts x6 (x6 + x5) tn tf nn nf).2 rg rF pn pf qf qsn qsf qsz).2.1 (r_X2_trialShows fi k nn nf (r_X4_copyParts x6 (x6 + x5) tn tf nn nf).1 (r_X4_copyParts x6 (x6 + x5) tn tf nn nf).2 rg rF pn pf qf qsn qsf qsz).2.2.1 (r_X2_trialShows fi k nn nf (r_X4_copyParts x6 (x6 + x5) tn tf nn nf).1 (r_X4_copyParts x6 (x6 + x5) tn tf nn nf).2 rg rF pn pf qf qsn qsf qsz).2.2.2.1 (r_X4_copyParts x6 (x6 + x5) tn tf nn nf).1 (r_X4_copyParts x6 (x6 + x5) tn tf nn nf).2 (r_X2_trialShows fi k nn nf (r_X4_copyParts x6 (x6 + x5) tn tf nn nf).1 (r_X4_copyParts x6 (x6 + x5) tn tf nn nf).2 rg rF pn pf qf qsn qsf qsz).2.2.2.2.1 (r_X2_trialShows fi k nn nf (r_X4_copyParts x6 (x6 + x5) tn tf nn nf).1 (r_X4_copyParts x6 (x6 + x5) tn tf nn nf).2 rg rF pn pf qf qsn qsf qsz).2.2.2.2.2 (1 : Int32) x6 (j + 1))).1 ((if (r_X2_trialShows fi k nn nf (r_X4_copyParts x6 (x6 + x5) tn tf nn nf).1 (r_X4_copyParts x6 (x6 + x5) tn tf nn nf).2 rg rF pn pf qf qsn qsf qsz).1 = (0 : Int32) then g_X2_leaveOut_27 pn pf qf qsn qsf qsz fi x5 fu (r_X2_trialShows fi k nn nf (r_X4_copyParts x6 (x6 + x5) tn tf nn nf).1 (r_X4_copyParts x6 (x6 + x5) tn tf nn nf).2 rg rF pn pf qf qsn qsf qsz).2.1 (r_X2_trialShows fi k nn nf (r_X4_copyParts x6 (x6 + x5) tn tf nn nf).1 (r_X4_copyParts x6 (x6 + x5) tn tf nn nf).2 rg rF pn pf qf qsn qsf qsz).2.2.1 (r_X2_trialShows fi k nn nf (r_X4_copyParts x6 (x6 + x5) tn tf nn nf).1 (r_X4_copyParts x6 (x6 + x5) tn tf nn nf).2 rg rF pn pf qf qsn qsf qsz).2.2.2.1 (r_X4_copyParts x6 (x6 + x5) tn tf nn nf).1 (r_X4_copyParts x6 (x6 + x5) tn tf nn nf).2 (r_X2_trialShows fi k nn nf (r_X4_copyParts x6 (x6 + x5) tn tf nn nf).1 (r_X4_copyParts x6 (x6 + x5) tn tf nn nf).2 rg rF pn pf qf qsn qsf qsz).2.2.2.2.1 (r_X2_trialShows fi k nn nf (r_X4_copyParts x6 (x6 + x5) tn tf nn nf).1 (r_X4_copyParts x6 (x6 + x5) tn tf nn nf).2 rg rF pn pf qf qsn qsf qsz).2.2.2.2.2 x4 (x6 + x5) (j + 1) else g_X2_leaveOut_27 pn pf qf qsn qsf qsz fi x5 fu (r_X2_trialShows fi k nn nf (r_X4_copyParts x6 (x6 + x5) tn tf nn nf).1 (r_X4_copyParts x6 (x6 + x5) tn tf nn nf).2 rg rF pn pf qf qsn qsf qsz).2.1 (r_X2_trialShows fi k nn nf (r_X4_copyParts x6 (x6 + x5) tn tf nn nf).1 (r_X4_copyParts x6 (x6 + x5) tn tf nn nf).2 rg rF pn pf qf qsn qsf qsz).2.2.1 (r_X2_trialShows fi k nn nf (r_X4_copyParts x6 (x6 + x5) tn tf nn nf).1 (r_X4_copyParts x6 (x6 + x5) tn tf nn nf).2 rg rF pn pf qf qsn qsf qsz).2.2.2.1 (r_X4_copyParts x6 (x6 + x5) tn tf nn nf).1 (r_X4_copyParts x6 (x6 + x5) tn tf nn nf).2 (r_X2_trialShows fi k nn nf (r_X4_copyParts x6 (x6 + x5) tn tf nn nf).1 (r_X4_copyParts x6 (x6 + x5) tn tf nn nf).2 rg rF pn pf qf qsn qsf qsz).2.2.2.2.1 (r_X2_trialShows fi k nn nf (r_X4_copyParts x6 (x6 + x5) tn tf nn nf).1 (r_X4_copyParts x6 (x6 + x5) tn tf nn nf).2 rg rF pn pf qf qsn qsf qsz).2.2.2.2.2 (1 : Int32) x6 (j + 1))).2.1 ((if (r_X2_trialShows fi k nn nf (r_X4_copyParts x6 (x6 + x5) tn tf nn nf).1 (r_X4_copyParts x6 (x6 + x5) tn tf nn nf).2 rg rF pn pf qf qsn qsf qsz).1 = (0 : Int32) then g_X2_leaveOut_27 pn pf qf qsn qsf qsz fi x5 fu (r_X2_trialShows fi k nn nf (r_X4_copyParts x6 (x6 + x5) tn tf nn nf).1 (r_X4_copyParts x6 (x6 + x5) tn tf nn nf).2 rg rF pn pf qf qsn qsf qsz).2.1 (r_X2_trialShows fi k nn nf (r_X4_copyParts x6 (x6 + x5) tn tf nn nf).1 (r_X4_copyParts x6 (x6 + x5) tn tf nn nf).2 rg rF pn pf qf qsn qsf qsz).2.2.1 (r_X2_trialShows fi k nn nf (r_X4_copyParts x6 (x6 + x5) tn tf nn nf).1 (r_X4_copyParts x6 (x6 + x5) tn tf nn nf).2 rg rF pn pf qf qsn qsf qsz).2.2.2.1 (r_X4_copyParts x6 (x6 + x5) tn tf nn nf).1 (r_X4_copyParts x6 (x6 + x5) tn tf nn nf).2 (r_X2_trialShows fi k nn nf (r_X4_copyParts x6 (x6 + x5) tn tf nn nf).1 (r_X4_copyParts x6 (x6 + x5) tn tf nn nf).2 rg rF pn pf qf qsn qsf qsz).2.2.2.2.1 (r_X2_trialShows fi k nn nf (r_X4_copyParts x6 (x6 + x5) tn tf nn nf).1 (r_X4_copyParts x6 (x6 + x5) tn tf nn nf).2 rg rF pn pf qf qsn qsf qsz).2.2.2.2.2 x4 (x6 + x5) (j + 1) else g_X2_leaveOut_27 pn pf qf qsn qsf qsz fi x5 fu (r_X2_trialShows fi k nn nf (r_X4_copyParts x6 (x6 + x5) tn tf nn nf).1 (r_X4_copyParts x6 (x6 + x5) tn tf nn nf).2 rg rF pn pf qf qsn qsf qsz).2.1 (r_X2_trialShows fi k nn nf (r_X4_copyParts x6 (x6 + x5) tn tf nn nf).1 (r_X4_copyParts x6 (x6 + x5) tn tf nn nf).2 rg rF pn pf qf qsn qsf qsz).2.2.1 (r_X2_trialShows fi k nn nf (r_X4_copyParts x6 (x6 + x5) tn tf nn nf).1 (r_X4_copyParts x6 (x6 + x5) tn tf nn nf).2 rg rF pn pf qf qsn qsf qsz).2.2.2.1 (r_X4_copyParts x6 (x6 + x5) tn tf nn nf).1 (r_X4_copyParts x6 (x6 + x5) tn tf nn nf).2 (r_X2_trialShows fi k nn nf (r_X4_copyParts x6 (x6 + x5) tn tf nn nf).1 (r_X4_copyParts x6 (x6 + x5) tn tf nn nf).2 rg rF pn pf qf qsn qsf qsz).2.2.2.2.1 (r_X2_trialShows fi k nn nf (r_X4_copyParts x6 (x6 + x5) tn tf nn nf).1 (r_X4_copyParts x6 (x6 + x5) tn tf nn nf).2 rg rF pn pf qf qsn qsf qsz).2.2.2.2.2 (1 : Int32) x6 (j + 1))).2.2.1 ((if (r_X9_holds ((20 : Int32) * bi + fi) (r_X9_leaveOut x6 M v.1 v.2).1 (r_X9_leaveOut x6 M v.1 v.2).2).1 = (0 : Int32) then g_X9_leavesOut_18 ((20 : Int32) * bi + fi) x5 fv (r_X9_holds ((20 : Int32) * bi + fi) (r_X9_leaveOut x6 M v.1 v.2).1 (r_X9_leaveOut x6 M v.1 v.2).2).2.1 (r_X9_holds ((20 : Int32) * bi + fi) (r_X9_leaveOut x6 M v.1 v.2).1 (r_X9_leaveOut x6 M v.1 v.2).2).2.2 x4 (x6 + x5) else g_X9_leavesOut_18 ((20 : Int32) * bi + fi) x5 fv (r_X9_holds ((20 : Int32) * bi + fi) (r_X9_leaveOut x6 M v.1 v.2).1 (r_X9_leaveOut x6 M v.1 v.2).2).2.1 (r_X9_holds ((20 : Int32) * bi + fi) (r_X9_leaveOut x6 M v.1 v.2).1 (r_X9_leaveOut x6 M v.1 v.2).2).2.2 (1 : Int32) x6)).1 ((if (r_X9_holds ((20 : Int32) * bi + fi) (r_X9_leaveOut x6 M v.1 v.2).1 (r_X9_leaveOut x6 M v.1 v.2).2).1 = (0 : Int32) then g_X9_leavesOut_18 ((20 : Int32) * bi + fi) x5 fv (r_X9_holds ((20 : Int32) * bi + fi) (r_X9_leaveOut x6 M v.1 v.2).1 (r_X9_leaveOut x6 M v.1 v.2).2).2.1 (r_X9_holds ((20 : Int32) * bi + fi) (r_X9_leaveOut x6 M v.1 v.2).1 (r_X9_leaveOut x6 M v.1 v.2).2).2.2 x4 (x6 + x5) else g_X9_leavesOut_18 ((20 : Int32) * bi + fi) x5 fv (r_X9_holds ((20 : Int32) * bi + fi) (r_X9_leaveOut x6 M v.1 v.2).1 (r_X9_leaveOut x6 M v.1 v.2).2).2.1 (r_X9_holds ((20 : Int32) * bi + fi) (r_X9_leaveOut x6 M v.1 v.2).1 (r_X9_leaveOut x6 M v.1 v.2).2).2.2 (1 : Int32) x6)).2.1 ∧ ((if (r_X2_trialShows fi k nn nf (r_X4_copyParts x6 (x6 + x5) tn tf nn nf).1 (r_X4_copyParts x6 (x6 + x5) tn tf nn nf).2 rg rF pn pf qf qsn qsf qsz).1 = (0 : Int32) then g_X2_leaveOut_27 pn pf qf qsn qsf qsz fi x5 fu (r_X2_trialShows fi k nn nf (r_X4_copyParts x6 (x6 + x5) tn tf nn nf).1 (r_X4_copyParts x6 (x6 + x5) tn tf nn nf).2 rg rF pn pf qf qsn qsf qsz).2.1 (r_X2_trialShows fi k nn nf (r_X4_copyParts x6 (x6 + x5) tn tf nn nf).1 (r_X4_copyParts x6 (x6 + x5) tn tf nn nf).2 rg rF pn pf qf qsn qsf qsz).2.2.1 (r_X2_trialShows fi k nn nf (r_X4_copyParts x6 (x6 + x5) tn tf nn nf).1 (r_X4_copyParts x6 (x6 + x5) tn tf nn nf).2 rg rF pn pf qf qsn qsf qsz).2.2.2.1 (r_X4_copyParts x6 (x6 + x5) tn tf nn nf).1 (r_X4_copyParts x6 (x6 + x5) tn tf nn nf).2 (r_X2_trialShows fi k nn nf (r_X4_copyParts x6 (x6 + x5) tn tf nn nf).1 (r_X4_copyParts x6 (x6 + x5) tn tf nn nf).2 rg rF pn pf qf qsn qsf qsz).2.2.2.2.1 (r_X2_trialShows fi k nn nf (r_X4_copyParts x6 (x6 + x5) tn tf nn nf).1 (r_X4_copyParts x6 (x6 + x5) tn tf nn nf).2 rg rF pn pf qf qsn qsf qsz).2.2.2.2.2 x4 (x6 + x5) (j + 1) else g_X2_leaveOut_27 pn pf qf qsn qsf qsz fi x5 fu (r_X2_trialShows fi k nn nf (r_X4_copyParts x6 (x6 + x5) tn tf nn nf).1 (r_X4_copyParts x6 (x6 + x5) tn tf nn nf).2 rg rF pn pf qf qsn qsf qsz).2.1 (r_X2_trialShows fi k nn nf (r_X4_copyParts x6 (x6 + x5) tn tf nn nf).1 (r_X4_copyParts x6 (x6 + x5) tn tf nn nf).2 rg rF pn pf qf qsn qsf qsz).2.2.1 (r_X2_trialShows fi k nn nf (r_X4_copyParts x6 (x6 + x5) tn tf nn nf).1 (r_X4_copyParts x6 (x6 + x5) tn tf nn nf).2 rg rF pn pf qf qsn qsf qsz).2.2.2.1 (r_X4_copyParts x6 (x6 + x5) tn tf nn nf).1 (r_X4_copyParts x6 (x6 + x5) tn tf nn nf).2 (r_X2_trialShows fi k nn nf (r_X4_copyParts x6 (x6 + x5) tn tf nn nf).1 (r_X4_copyParts x6 (x6 + x5) tn tf nn nf).2 rg rF pn pf qf qsn qsf qsz).2.2.2.2.1 (r_X2_trialShows fi k nn nf (r_X4_copyParts x6 (x6 + x5) tn tf nn nf).1 (r_X4_copyParts x6 (x6 + x5) tn tf nn nf).2 rg rF pn pf qf qsn qsf qsz).2.2.2.2.2 (1 : Int32) x6 (j + 1))).2.2.2.2.2.2.2.1 = ((if (r_X9_holds ((20 : Int32) * bi + fi) (r_X9_leaveOut x6 M v.1 v.2).1 (r_X9_leaveOut x6 M v.1 v.2).2).1 = (0 : Int32) then g_X9_leavesOut_18 ((20 : Int32) * bi + fi) x5 fv (r_X9_holds ((20 : Int32) * bi + fi) (r_X9_leaveOut x6 M v.1 v.2).1 (r_X9_leaveOut x6 M v.1 v.2).2).2.1 (r_X9_holds ((20 : Int32) * bi + fi) (r_X9_leaveOut x6 M v.1 v.2).1 (r_X9_leaveOut x6 M v.1 v.2).2).2.2 x4 (x6 + x5) else g_X9_leavesOut_18 ((20 : Int32) * bi + fi) x5 fv (r_X9_holds ((20 : Int32) * bi + fi) (r_X9_leaveOut x6 M v.1 v.2).1 (r_X9_leaveOut x6 M v.1 v.2).2).2.1 (r_X9_holds ((20 : Int32) * bi + fi) (r_X9_leaveOut x6 M v.1 v.2).1 (r_X9_leaveOut x6 M v.1 v.2).2).2.2 (1 : Int32) x6)).2.2.1 ∧ 0 ≤ ((if (r_X2_trialShows fi k nn nf (r_X4_copyParts x6 (x6 + x5) tn tf nn nf).1 (r_X4_copyParts x6 (x6 + x5) tn tf nn nf).2 rg rF pn pf qf qsn qsf qsz).1 = (0 : Int32) then g_X2_leaveOut_27 pn pf qf qsn qsf qsz fi x5 fu (r_X2_trialShows fi k nn nf (r_X4_copyParts x6 (x6 + x5) tn tf nn nf).1 (r_X4_copyParts x6 (x6 + x5) tn tf nn nf).2 rg rF pn pf qf qsn qsf qsz).2.1 (r_X2_trialShows fi k nn nf (r_X4_copyParts x6 (x6 + x5) tn tf nn nf).1 (r_X4_copyParts x6 (x6 + x5) tn tf nn nf).2 rg rF pn pf qf qsn qsf qsz).2.2.1 (r_X2_trialShows fi k nn nf (r_X4_copyParts x6 (x6 + x5) tn tf nn nf).1 (r_X4_copyParts x6 (x6 + x5) tn tf nn nf).2 rg rF pn pf qf qsn qsf qsz).2.2.2.1 (r_X4_copyParts x6 (x6 + x5) tn tf nn nf).1 (r_X4_copyParts x6 (x6 + x5) tn tf nn nf).2 (r_X2_trialShows fi k nn nf (r_X4_copyParts x6 (x6 + x5) tn tf nn nf).1 (r_X4_copyParts x6 (x6 + x5) tn tf nn nf).2 rg rF pn pf qf qsn qsf qsz).2.2.2.2.1 (r_X2_trialShows fi k nn nf (r_X4_copyParts x6 (x6 + x5) tn tf nn nf).1 (r_X4_copyParts x6 (x6 + x5) tn tf nn nf).2 rg rF pn pf qf qsn qsf qsz).2.2.2.2.2 x4 (x6 + x5) (j + 1) else g_X2_leaveOut_27 pn pf qf qsn qsf qsz fi x5 fu (r_X2_trialShows fi k nn nf (r_X4_copyParts x6 (x6 + x5) tn tf nn nf).1 (r_X4_copyParts x6 (x6 + x5) tn tf nn nf).2 rg rF pn pf qf qsn qsf qsz).2.1 (r_X2_trialShows fi k nn nf (r_X4_copyParts x6 (x6 + x5) tn tf nn nf).1 (r_X4_copyParts x6 (x6 + x5) tn tf nn nf).2 rg rF pn pf qf qsn qsf qsz).2.2.1 (r_X2_trialShows fi k nn nf (r_X4_copyParts x6 (x6 + x5) tn tf nn nf).1 (r_X4_copyParts x6 (x6 + x5) tn tf nn nf).2 rg rF pn pf qf qsn qsf qsz).2.2.2.1 (r_X4_copyParts x6 (x6 + x5) tn tf nn nf).1 (r_X4_copyParts x6 (x6 + x5) tn tf nn nf).2 (r_X2_trialShows fi k nn nf (r_X4_copyParts x6 (x6 + x5) tn tf nn nf).1 (r_X4_copyParts x6 (x6 + x5) tn tf nn nf).2 rg rF pn pf qf qsn qsf qsz).2.2.2.2.1 (r_X2_trialShows fi k nn nf (r_X4_copyParts x6 (x6 + x5) tn tf nn nf).1 (r_X4_copyParts x6 (x6 + x5) tn tf nn nf).2 rg rF pn pf qf qsn qsf qsz).2.2.2.2.2 (1 : Int32) x6 (j + 1))).2.2.2.1.toInt := by
        intro M m1 m2 m3 m4
        have lv := leave_sim (M := M) (s := x5) (mf := tf) b1 ht ho (by omega) m4
        have jl := J_X9_leaveOut x6 M v.1 v.2 jb (by omega) m1
        have fl : Fr [10] [9] g F (r_X9_leaveOut x6 M v.1 v.2).1 (r_X9_leaveOut x6 M v.1 v.2).2 := by
          rw [cl_leaveOut x6 M v.1 v.2 jb.p10 (by omega) (by have := jb.p10; omega)]
          exact Fr.v (by decide) (Fr.u (by decide) b2)
        have l10 : (r_X9_leaveOut x6 M v.1 v.2).1 10 = v.1 10 - M ∧ (r_X9_leaveOut x6 M v.1 v.2).2 9 = shl x6.toInt.toNat M.toInt.toNat (v.1 10).toInt.toNat (v.2 9) := by
          rw [cl_leaveOut x6 M v.1 v.2 jb.p10 (by omega) (by have := jb.p10; omega)]
          exact ⟨rfl, rfl⟩
        have T := fun u3 h3 => lo_tr3 ((20 : Int32) * bi + fi) g F hJ x6 M h1e.symm (u2 := r_X9_leaveOut x6 M v.1 v.2) (u3 := u3) rfl h3 h6.1 m2 m3
        generalize r_X9_leaveOut x6 M v.1 v.2 = w at jl fl l10 T ⊢
        generalize r_X4_copyParts x6 (x6 + x5) tn tf nn nf = z at lv ⊢
        have ts := tri_sim hb hb1 hP hF hfi hq (qsf := qsf) (qsz := qsz) hc fl jl (by rw [l10.1, l10.2]; exact lv) rg rF
        have T2 := T _ rfl
        generalize r_X9_holds ((20 : Int32) * bi + fi) w.1 w.2 = t at ts T2 ⊢
        generalize r_X2_trialShows fi k nn nf z.1 z.2 rg rF pn pf qf qsn qsf qsz = s at ts ⊢
        rw [ts.1]
        by_cases d : t.1 = 0
        · rw [if_pos d, if_pos d]
          have bf := lo_bf T2 d c h6 h5 h38.2 h2
          have e38 : t.2.1 38 = g 38 := by
            rcases T2 with ⟨-, a, -⟩ | ⟨a, -, -⟩
            · exact a
            · exact absurd (a.symm.trans d) (by decide)
          have ea := add_i (n := 0) (x := x6) (y := x5) (by omega) (by omega)
          exact lv27 hb hb1 hP hF hfi hq hJ0 h5 fu fv (j + 1) _ _ _ _ _ _ _ _ _ _ _ (by omega) (by omega) bf.1 bf.2 (by rw [e38, ea]; omega) lv.rng.1 ts.2
        · rw [if_neg d, if_neg d]
          have bs := lo_bs (C := True) T2 d c h2
          have e38 : (t.2.1 38).toInt < (g 38).toInt := by
            rcases T2 with ⟨a, -, -⟩ | ⟨-, a, -⟩
            · exact absurd a d
            · exact a
          exact lv27 hb hb1 hP hF hfi hq hJ0 h5 fu fv (j + 1) _ _ _ _ _ _ _ _ _ _ _ (by omega) (by omega) bs h6 (by omega) lv.rng.1 ts.2
      by_cases d : x6 + x5 ≤ v.1 10
      · rw [if_pos d]
        have qd := q.2.1 d
        simp only [sg_le] at d
        rw [add_i (n := 0) (by omega) (by omega)] at d
        exact fin x5 qd.2.1 qd.2.2.1 qd.2.2.2 (Or.inl ⟨d, rfl⟩)
      · rw [if_neg d]
        have qd := q.1 d
        simp only [sg_le] at d
        rw [add_i (n := 0) (by omega) (by omega)] at d
        exact fin (v.1 10 - x6) qd.2.1 qd.2.2.1 qd.2.2.2 (Or.inr ⟨by omega, sub_i jb.p10.1 h6.1⟩)
