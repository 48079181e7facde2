theorem lv16 {b : Nat} {bi fi : Int32} {pn : Int32} {pf qf : Nat → Int32} {qsn : Int32} {qsf qsz : Nat → Int32} {g0 : Nat → Int32} {F0 : Nat → Nat → Int32} (hb : bi.toInt = (b : Int)) (hb1 : b < 2) (hP : PR pn pf g0 F0) (hF : FRW b qf qsn (F0 34)) (hfi : 0 ≤ fi.toInt ∧ fi.toInt < qsn.toInt) (hq : qsn.toInt ≤ 20) (hJ0 : 0 ≤ ((20 : Int32) * bi + fi).toInt ∧ ((20 : Int32) * bi + fi).toInt < 40) : ∀ (fu fv : Nat) (k nn : Int32) (nf : Nat → Int32) (tn : Int32) (tf rg : Nat → Int32) (rF : Nat → Nat → Int32) (x4 x5 : Int32) (g : Nat → Int32) (F : Nat → Nat → Int32), x5.toInt.toNat < fu → x5.toInt.toNat < fv → (0 ≤ x5.toInt ∧ x5.toInt ≤ 12) → 0 ≤ tn.toInt → CQ g0 F0 k nn nf g F → CQ g0 F0 (g_X2_leaveOut_16 pn pf qf qsn qsf qsz fi fu k nn nf tn tf rg rF x4 x5).2.1 (g_X2_leaveOut_16 pn pf qf qsn qsf qsz fi fu k nn nf tn tf rg rF x4 x5).2.2.1 (g_X2_leaveOut_16 pn pf qf qsn qsf qsz fi fu k nn nf tn tf rg rF x4 x5).2.2.2.1 (g_X9_leavesOut_11 ((20 : Int32) * bi + fi) fv g F x4 x5).2.1 (g_X9_leavesOut_11 ((20 : Int32) * bi + fi) fv g F x4 x5).2.2 ∧ (g_X2_leaveOut_16 pn pf qf qsn qsf qsz fi fu k nn nf tn tf rg rF x4 x5).1 = (g_X9_leavesOut_11 ((20 : Int32) * bi + fi) fv g F x4 x5).1 ∧ 0 ≤ (g_X2_leaveOut_16 pn pf qf qsn qsf qsz fi fu k nn nf tn tf rg rF x4 x5).2.2.2.2.1.toInt
  | 0, _, _, _, _, _, _, _, _, _, _, _, _, h, _, _, _, _ => absurd h (Nat.not_lt_zero _)
  | _, 0, _, _, _, _, _, _, _, _, _, _, _, _, h, _, _, _ => absurd h (Nat.not_lt_zero _)
  | fu + 1, fv + 1, k, nn, nf, tn, tf, rg, rF, x4, x5, g, F, h1, h2, h5, ht, hc => by
    rw [g_X2_leaveOut_16, g_X9_leavesOut_11]
    by_cases c : x5 ≤ 0
    · rw [if_pos c, if_pos c]
      exact ⟨hc, rfl, ht⟩
    · rw [if_neg c, if_neg c]
      have h38 := hc.2.2.2.p38
      have z : (0 : Int32).toInt = 0 := rfl
      have q := lv27 hb hb1 hP hF hfi hq (qsf := qsf) (qsz := qsz) hJ0 (hs_1 c h5) (24 - 0 + 1) (((g 38).toInt - (0 : Int32).toInt).toNat + 1) 0 k nn nf tn tf rg rF x4 0 g F (by omega) (by omega) (by omega) (by decide) (by rw [z]; omega) ht hc
      generalize g_X2_leaveOut_27 pn pf qf qsn qsf qsz fi x5 (24 - 0 + 1) k nn nf tn tf rg rF x4 (0 : Int32) 0 = u at q ⊢
      generalize g_X9_leavesOut_18 ((20 : Int32) * bi + fi) x5 (((g 38).toInt - (0 : Int32).toInt).toNat + 1) g F x4 (0 : Int32) = v at q ⊢
      have hs := hv_s c h5
      rw [q.2.1]
      exact lv16 hb hb1 hP hF hfi hq hJ0 fu fv _ _ _ _ _ _ _ _ _ _ _ (by omega) (by omega) hs.1 q.2.2 q.1
theorem leave_all {b : Nat} {bi fi : Int32} {pn : Int32} {pf qf : Nat → Int32} {qsn : Int32} {qsf qsz : Nat → Int32} {g0 : Nat → Int32} {F0 : Nat → Nat → Int32} (hb : bi.toInt = (b : Int)) (hb1 : b < 2) (hP : PR pn pf g0 F0) (hF : FRW b qf qsn (F0 34)) (hfi : 0 ≤ fi.toInt ∧ fi.toInt < qsn.toInt) (hq : qsn.toInt ≤ 20) (hJ0 : 0 ≤ ((20 : Int32) * bi + fi).toInt ∧ ((20 : Int32) * bi + fi).toInt < 40) {k nn : Int32} {nf : Nat → Int32} {tn : Int32} (tf rg : Nat → Int32) (rF : Nat → Nat → Int32) {g : Nat → Int32} {F : Nat → Nat → Int32} (ht : 0 ≤ tn.toInt) (hc : CQ g0 F0 k nn nf g F) : CQ g0 F0 (r_X2_leaveOut fi k nn nf tn tf rg rF pn pf qf qsn qsf qsz).2.1 (r_X2_leaveOut fi k nn nf tn tf rg rF pn pf qf qsn qsf qsz).2.2.1 (r_X2_leaveOut fi k nn nf tn tf rg rF pn pf qf qsn qsf qsz).2.2.2.1 (r_X9_leavesOut ((20 : Int32) * bi + fi) g F).2.1 (r_X9_leavesOut ((20 : Int32) * bi + fi) g F).2.2 ∧ (r_X2_leaveOut fi k nn nf tn tf rg rF pn pf qf qsn qsf qsz).1 = (r_X9_leavesOut ((20 : Int32) * bi + fi) g F).1 ∧ 0 ≤ (r_X2_leaveOut fi k nn nf tn tf rg rF pn pf qf qsn qsf qsz).2.2.2.2.1.toInt := by
  unfold r_X2_leaveOut r_X9_leavesOut
  have hn := hc.2.1.1
  rw [hn]
  exact lv16 hb hb1 hP hF hfi hq hJ0 _ _ _ _ _ _ _ _ _ _ _ _ _ (Nat.lt_succ_self _) (Nat.lt_succ_self _) (hv_0 hc.2.2.2.p38) ht (by rw [hn] at hc; exact hc)
/-- the flag of the class and that of the reference -/
def FL (a x y : Int32) : Prop := (x = 0 ∧ y = a) ∨ (x = 1 ∧ y = 1)
/-- the reference's middle loop, behind its inner one -/
def mid15 (fi : Int32) (i fm : Nat) (x2 : Int32) (t : (Nat → Int32) × (Nat → Nat → Int32) × Int32 × Nat) : (Nat → Int32) × (Nat → Nat → Int32) × Int32 × Int32 := if x2 = (0 : Int32) then (if t.2.2.1 = (0 : Int32) then g_X9_lessens_15 fi i fm t.1 t.2.1 (0 : Int32) t.2.2.1 else g_X9_lessens_15 fi i fm t.1 t.2.1 (1 : Int32) t.2.2.1) else g_X9_lessens_15 fi i fm t.1 t.2.1 (1 : Int32) t.2.2.1
theorem mid_0 {fi : Int32} {i fm : Nat} {x2 : Int32} (hx : x2 = 0 ∨ x2 = 1) {g : Nat → Int32} {F : Nat → Nat → Int32} {w : Nat} : mid15 fi i (fm + 1) x2 (g, F, 0, w) = (g, F, x2, 0) := by
  unfold mid15
  dsimp only
  rcases hx with rfl | rfl
  · rw [if_pos rfl, if_pos rfl, g_X9_lessens_15, if_pos rfl]
  · rw [if_neg (by decide), g_X9_lessens_15, if_pos rfl]
theorem mid_1 {fi : Int32} {i fm : Nat} {x2 : Int32} {g : Nat → Int32} {F : Nat → Nat → Int32} {w : Nat} : mid15 fi i (fm + 1) x2 (g, F, 1, w) = mid15 fi i fm 1 (g_X9_lessens_26 fi 1 i (3 - 0 + 1) g F 0 0) := by
  have e : g_X9_lessens_15 fi i (fm + 1) g F 1 1 = mid15 fi i fm 1 (g_X9_lessens_26 fi 1 i (3 - 0 + 1) g F 0 0) := by
    rw [g_X9_lessens_15, if_neg (by decide), if_neg (by decide)]
    unfold mid15
    rw [if_neg (by decide)]
  unfold mid15
  dsimp only
  by_cases c : x2 = 0
  · rw [if_pos c, if_neg (by decide), e]
    unfold mid15
    rfl
  · rw [if_neg c, e]
    unfold mid15
    rfl
/-- where nothing can be lessened -/
theorem in_skip (fi x2 : Int32) (i : Nat) (g : Nat → Int32) (F : Nat → Nat → Int32) (h0 : F 37 i = 0) : ∀ (fu w : Nat), 3 - w < fu → w ≤ 3 → g_X9_lessens_26 fi x2 i fu g F 0 w = (g, F, 0, 3)
  | 0, _, h, _ => absurd h (Nat.not_lt_zero _)
  | fu + 1, w, h, hw => by
    rw [g_X9_lessens_26]
    by_cases c : (3 : Int32) ≤ nI w
    · have c2 := (le_nI (by omega)).mp c
      have e3 : (3 : Int32).toInt.toNat = 3 := rfl
      obtain rfl : w = 3 := by omega
      rw [if_pos c]
    · have hw3 := nI_ltN (N := 3) c hw
      have ih := in_skip fi x2 i g F h0 fu (w + 1) (by omega) (by omega)
      rw [if_neg c, if_pos rfl, h0, ih, if_neg (show ¬ (0 : Int32) < 0 by decide), if_neg (show ¬ (0 : Int32) / 2 < 0 by decide), if_neg (show ¬ (0 : Int32) / 2 < 0 by decide), if_pos (show (0 : Int32) - 1 < 0 by decide)]
      by_cases d : nI w = 0
      · rw [if_pos d]
      · rw [if_neg d]
        by_cases d1 : nI w = 1
        · rw [if_pos d1]
        · rw [if_neg d1]
/-- one byte lessened, as far as it goes -/
theorem ls9 {b : Nat} {bi fi : Int32} {pn : Int32} {pf qf : Nat → Int32} {qsn : Int32} {qsf qsz : Nat → Int32} {g0 : Nat → Int32} {F0 : Nat → Nat → Int32} (hb : bi.toInt = (b : Int)) (hb1 : b < 2) (hP : PR pn pf g0 F0) (hF : FRW b qf qsn (F0 34)) (hfi : 0 ≤ fi.toInt ∧ fi.toInt < qsn.toInt) (hq : qsn.toInt ≤ 20) (hJ0 : 0 ≤ ((20 : Int32) * bi + fi).toInt ∧ ((20 : Int32) * bi + fi).toInt < 40) {a : Int32} (ha : a = 0 ∨ a = 1) {i : Nat} (hi : i < 24) : ∀ (fu fm w j : Nat) (k nn : Int32) (nf : Nat → Int32) (tn : Int32) (tf rg : Nat → Int32) (rF : Nat → Nat → Int32) (x5 x2 : Int32) (g : Nat → Int32) (F : Nat → Nat → Int32), 768 - j < fu → j ≤ 768 → w ≤ 3 → 2 * (F 37 i).toInt.toNat < fm → (j + 3 * (F 37 i).toInt.toNat ≤ 768 + w) → (i : Int) < (g 38).toInt → 0 ≤ tn.toInt → FL a x5 x2 → CQ g0 F0 k nn nf g F → CQ g0 F0 (g_X2_lessen_9 pn pf qf qsn qsf qsz fi (nI i) fu k nn nf tn tf rg rF x5 (nI w) j).2.1 (g_X2_lessen_9 pn pf qf qsn qsf qsz fi (nI i) fu k nn nf tn tf rg rF x5 (nI w) j).2.2.1 (g_X2_lessen_9 pn pf qf qsn qsf qsz fi (nI i) fu k nn nf tn tf rg rF x5 (nI w) j).2.2.2.1 (mid15 ((20 : Int32) * bi + fi) i fm x2 (g_X9_lessens_26 ((20 : Int32) * bi + fi) x2 i (3 - w + 1) g F 0 w)).1 (mid15 ((20 : Int32) * bi + fi) i fm x2 (g_X9_lessens_26 ((20 : Int32) * bi + fi) x2 i (3 - w + 1) g F 0 w)).2.1 ∧ FL a (g_X2_lessen_9 pn pf qf qsn qsf qsz fi (nI i) fu k nn nf tn tf rg rF x5 (nI w) j).1 (mid15 ((20 : Int32) * bi + fi) i fm x2 (g_X9_lessens_26 ((20 : Int32) * bi + fi) x2 i (3 - w + 1) g F 0 w)).2.2.1 ∧ 0 ≤ (g_X2_lessen_9 pn pf qf qsn qsf qsz fi (nI i) fu k nn nf tn tf rg rF x5 (nI w) j).2.2.2.2.1.toInt
  | 0, _, _, _, _, _, _, _, _, _, _, _, _, _, _, h, _, _, _, _, _, _, _, _ => absurd h (Nat.not_lt_zero _)
  | _, 0, _, _, _, _, _, _, _, _, _, _, _, _, _, _, _, _, h, _, _, _, _, _ => absurd h (Nat.not_lt_zero _)
  | fu + 1, fm + 1, w, j, k, nn, nf, tn, tf, rg, rF, x5, x2, g, F, h1, hj, hw, hm, hB, hlt, ht, hfl, hc => by
    have hx2 : x2 = 0 ∨ x2 = 1 := by
      rcases hfl with ⟨-, e⟩ | ⟨-, e⟩
      · rw [e]; exact ha
      · exact Or.inr e
    have hn := hc.2.1.1
    have hJ := hc.2.2.2
    have h38 := hJ.p38
    have ei := nI_toInt (n := i) (by omega)
    have hir := hc.2.1.2.2 i hlt
    have eg : r_X4_get (nI i) nn nf = F 37 i := by
      rw [get_cl (by rw [hn]; omega) (by rw [hn]; exact h38.2), nI_clamp (by omega)]
      exact hir.1
    have ej := nI_toInt (n := j) (by omega)
    have ew := nI_toInt (n := w) (by omega)
    have e768 : (768 : Int32).toInt = 768 := rfl
    have e3 : (3 : Int32).toInt = 3 := rfl
    have z0 : (0 : Int32).toInt = 0 := rfl
    by_cases c : F 37 i = 0
    · rw [in_skip ((20 : Int32) * bi + fi) x2 i g F c (3 - w + 1) w (by omega) hw, mid_0 hx2]
      rw [g_X2_lessen_9, eg, if_pos (show F 37 i ≤ 0 by rw [c]; decide)]
      by_cases d : (768 : Int32) ≤ nI j
      · rw [if_pos d]
        exact ⟨hc, hfl, ht⟩
      · rw [if_neg d]
        by_cases d3 : (3 : Int32) ≤ nI w
        · rw [if_pos d3]
          exact ⟨hc, hfl, ht⟩
        · rw [if_neg d3]
          exact ⟨hc, hfl, ht⟩
    · have hp := n_pos c hir.2.1
      by_cases d : w = 3
      · subst d
        rw [g_X2_lessen_9, eg, if_pos (show (3 : Int32) ≤ nI 3 by decide), g_X9_lessens_26, if_pos (show (3 : Int32) ≤ nI 3 by decide), mid_0 hx2]
        by_cases d : (768 : Int32) ≤ nI j
        · rw [if_pos d]
          exact ⟨hc, hfl, ht⟩
        · rw [if_neg d]
          exact ⟨hc, hfl, ht⟩
      · have hw3 : w < 3 := by omega
        have hj2 : j < 768 := by omega
        rw [g_X2_lessen_9, eg, if_neg (show ¬ (768 : Int32) ≤ nI j by simp only [sg_le]; omega), if_neg (show ¬ (3 : Int32) ≤ nI w by simp only [sg_le]; omega), if_neg (show ¬ F 37 i ≤ 0 by simp only [sg_le]; omega)]
        dsimp only
        rw [copy_cl ht hc.2.1.rng]
        dsimp only
        rw [put_cl (by rw [hn]; omega) (by rw [hn]; exact h38.2)]
        obtain ⟨b1, b2, b3, b4⟩ := best_in hc
        have jb := hJ.fromBest
        -- the value that is tried
        obtain ⟨y, hy⟩ : ∃ y, y = r_X2_lesser (F 37 i) (nI w) := ⟨_, rfl⟩
        have hyb : ¬ y < (0 : Int32) ∧ y < F 37 i ∧ g_X9_lessens_26 ((20 : Int32) * bi + fi) x2 i (3 - w + 1) g F 0 w = g_X9_lessens_26 ((20 : Int32) * bi + fi) x2 i (3 - w) (r_X9_holds ((20 : Int32) * bi + fi) (r_X9_fromBest g F).1 (va_up (r_X9_fromBest g F).2 9 (upd ((r_X9_fromBest g F).2 9) i y))).2.1 (r_X9_holds ((20 : Int32) * bi + fi) (r_X9_fromBest g F).1 (va_up (r_X9_fromBest g F).2 9 (upd ((r_X9_fromBest g F).2 9) i y))).2.2 (r_X9_holds ((20 : Int32) * bi + fi) (r_X9_fromBest g F).1 (va_up (r_X9_fromBest g F).2 9 (upd ((r_X9_fromBest g F).2 9) i y))).1 (w + 1) := by
          rw [g_X9_lessens_26, if_neg (show ¬ (3 : Int32) ≤ nI w by simp only [sg_le]; omega), if_pos rfl]
          unfold r_X2_lesser at hy
          rcases (show w = 0 ∨ w = 1 ∨ w = 2 by omega) with rfl | rfl | rfl
          · rw [if_pos (show nI 0 = 0 from rfl)] at hy
            rw [hy]
            refine ⟨by decide, by simp only [sg_lt]; omega, ?_⟩
            rw [if_pos (show nI 0 = 0 from rfl), if_pos (show (0 : Int32) < F 37 i by simp only [sg_lt]; omega)]
          · rw [if_neg (show ¬ nI 1 = 0 by decide), if_pos (show nI 1 = 1 from rfl)] at hy
            have hh := half_i (x := F 37 i) (by omega)
            rw [hy]
            have l0 : ¬ F 37 i / 2 < 0 := by simp only [sg_lt]; rw [hh]; omega
            have l1 : F 37 i / 2 < F 37 i := by simp only [sg_lt]; rw [hh]; omega
            refine ⟨l0, l1, ?_⟩
            rw [if_neg (show ¬ nI 1 = 0 by decide), if_pos (show nI 1 = 1 from rfl), if_neg l0, if_pos l1]
          · rw [if_neg (show ¬ nI 2 = 0 by decide), if_neg (show ¬ nI 2 = 1 by decide)] at hy
            have e1 : (1 : Int32).toInt = 1 := rfl
            have hh := sub_i (x := F 37 i) (y := 1) (by omega) (by decide)
            rw [hy]
            have l0 : ¬ F 37 i - 1 < 0 := by simp only [sg_lt]; rw [hh]; omega
            have l1 : F 37 i - 1 < F 37 i := by simp only [sg_lt]; rw [hh]; omega
            refine ⟨l0, l1, ?_⟩
            rw [if_neg (show ¬ nI 2 = 0 by decide), if_neg (show ¬ nI 2 = 1 by decide), if_neg l0, if_pos l1]
        obtain ⟨y1, y2, y3⟩ := hyb
        rw [y3, ← hy]
        have yb := y1
        have yb2 := y2
        simp only [sg_lt] at yb yb2
        have LE := le_tr3 ((20 : Int32) * bi + fi) g F hJ i y (u1 := r_X9_fromBest g F) rfl rfl hlt y1 y2
        generalize r_X9_fromBest g F = v at b1 b2 b3 b4 jb LE ⊢
        have jv := jb.v 9 (upd (v.2 9) i y) (by decide)
        have hI : IR nn (upd (cpy nn.toInt.toNat nf tf) (nI i).toNatClampNeg y) (v.1 10) ((va_up v.2 9 (upd (v.2 9) i y)) 9) := by
          rw [va_up_self, nI_clamp (by omega)]
          exact (b1.cp2 tf).put i rfl ⟨by omega, by omega⟩
        have ts := tri_sim hb hb1 hP hF hfi hq (qsf := qsf) (qsz := qsz) (v := (v.1, va_up v.2 9 (upd (v.2 9) i y))) hc (Fr.v (by decide) b2) jv hI rg rF
        dsimp only at ts
        generalize r_X9_holds ((20 : Int32) * bi + fi) v.1 (va_up v.2 9 (upd (v.2 9) i y)) = t at ts LE ⊢
        generalize r_X2_trialShows fi k nn nf nn (upd (cpy nn.toInt.toNat nf tf) (nI i).toNatClampNeg y) rg rF pn pf qf qsn qsf qsz = s at ts ⊢
        rw [ts.1]
        rcases LE with ⟨l1, l2, l3⟩ | ⟨l1, l2, l3, -⟩
        · rw [l1, if_pos rfl, nI_1]
          have q := ls9 hb hb1 hP hF hfi hq (qsf := qsf) (qsz := qsz) hJ0 ha hi fu (fm + 1) (w + 1) (j + 1) s.2.1 s.2.2.1 s.2.2.2.1 nn (upd (cpy nn.toInt.toNat nf tf) (nI i).toNatClampNeg y) s.2.2.2.2.1 s.2.2.2.2.2 x5 x2 t.2.1 t.2.2 (by omega) (by omega) (by omega) (by rw [l3]; exact hm) (by rw [l3]; omega) (by rw [l2]; exact hlt) hc.2.1.rng.1 hfl ts.2
          rw [show 3 - (w + 1) + 1 = 3 - w by omega] at q
          exact q
        · rw [l1, if_neg (show ¬ (1 : Int32) = 0 by decide), show 3 - w = (3 - w - 1) + 1 by omega, ls_end, mid_1]
          have q := ls9 hb hb1 hP hF hfi hq (qsf := qsf) (qsz := qsz) hJ0 ha hi fu fm 0 (j + 1) s.2.1 s.2.2.1 s.2.2.2.1 nn (upd (cpy nn.toInt.toNat nf tf) (nI i).toNatClampNeg y) s.2.2.2.2.1 s.2.2.2.2.2 1 1 t.2.1 t.2.2 (by omega) (by omega) (by omega) (by omega) (by omega) (by rw [l2]; exact hlt) hc.2.1.rng.1 (Or.inr ⟨rfl, rfl⟩) ts.2
          exact q
