theorem or_b {x y : Int32} (hx : x = 0 ∨ x = 1) (hy : y = 0 ∨ y = 1) : (x ||| y) = if y = 0 then x else 1 := by
  rcases hx with rfl | rfl <;> rcases hy with rfl | rfl <;> decide
/-- all bytes lessened -/
theorem ls47 {b : Nat} {bi fi : Int32} {pn : Int32} {pf qf : Nat → Int32} {qsn : Int32} {qsf qsz : Nat → Int32} {g0 : Nat → Int32} {F0 : Nat → Nat → Int32} (hb : bi.toInt = (b : Int)) (hb1 : b < 2) (hP : PR pn pf g0 F0) (hF : FRW b qf qsn (F0 34)) (hfi : 0 ≤ fi.toInt ∧ fi.toInt < qsn.toInt) (hq : qsn.toInt ≤ 20) (hJ0 : 0 ≤ ((20 : Int32) * bi + fi).toInt ∧ ((20 : Int32) * bi + fi).toInt < 40) {l x5 : Int32} (hl : l = 0 ∨ l = 1) : ∀ (fu fv i : Nat) (k nn : Int32) (nf : Nat → Int32) (tn : Int32) (tf rg : Nat → Int32) (rF : Nat → Nat → Int32) (x4 x2 : Int32) (g : Nat → Int32) (F : Nat → Nat → Int32), 24 - i < fu → 24 - i < fv → i ≤ 24 → (x2 = 0 ∨ x2 = 1) → x4 = (if x2 = 0 then l else 1) → 0 ≤ tn.toInt → CQ g0 F0 k nn nf g F → CQ g0 F0 (g_X2_shrink_47 pn pf qf qsn qsf qsz fi x5 fu k nn nf tn tf rg rF x4 i).1 (g_X2_shrink_47 pn pf qf qsn qsf qsz fi x5 fu k nn nf tn tf rg rF x4 i).2.1 (g_X2_shrink_47 pn pf qf qsn qsf qsz fi x5 fu k nn nf tn tf rg rF x4 i).2.2.1 (g_X9_lessens_4 ((20 : Int32) * bi + fi) fv g F x2 i).2.1 (g_X9_lessens_4 ((20 : Int32) * bi + fi) fv g F x2 i).2.2 ∧ ((g_X9_lessens_4 ((20 : Int32) * bi + fi) fv g F x2 i).1 = 0 ∨ (g_X9_lessens_4 ((20 : Int32) * bi + fi) fv g F x2 i).1 = 1) ∧ (g_X2_shrink_47 pn pf qf qsn qsf qsz fi x5 fu k nn nf tn tf rg rF x4 i).2.2.2.2.2.2.2.1 = (if (g_X9_lessens_4 ((20 : Int32) * bi + fi) fv g F x2 i).1 = 0 then l else 1) ∧ 0 ≤ (g_X2_shrink_47 pn pf qf qsn qsf qsz fi x5 fu k nn nf tn tf rg rF x4 i).2.2.2.1.toInt
  | 0, _, _, _, _, _, _, _, _, _, _, _, _, _, h, _, _, _, _, _, _ => absurd h (Nat.not_lt_zero _)
  | _, 0, _, _, _, _, _, _, _, _, _, _, _, _, _, h, _, _, _, _, _ => absurd h (Nat.not_lt_zero _)
  | fu + 1, fv + 1, i, k, nn, nf, tn, tf, rg, rF, x4, x2, g, F, h1, h2, hi, hx2, hx4, ht, hc => by
    have hn := hc.2.1.1
    have h38 := hc.2.2.2.p38
    rw [g_X2_shrink_47, g_X9_lessens_4, hn]
    by_cases c : g 38 ≤ nI i
    · rw [if_pos c, if_pos c]
      rw [hn] at hc
      exact ⟨hc, hx2, hx4, ht⟩
    · rw [if_neg c, if_neg c]
      dsimp only
      have hlt := lt_i c hi
      have hby := hc.2.1.2.2 i hlt
      rw [hn] at hc
      have q := ls9 hb hb1 hP hF hfi hq (qsf := qsf) (qsz := qsz) hJ0 (a := x2) hx2 (i := i) (by omega) (768 - 0 + 1) (2 * (F 37 i).toInt.toNat + (if (1 : Int32) = (0 : Int32) then 0 else 1)) 0 0 k (g 38) nf tn tf rg rF 0 x2 g F (by omega) (by omega) (by omega) (by rw [if_neg (by decide)]; omega) (by omega) hlt ht (Or.inl ⟨rfl, rfl⟩) hc
      have e15 : g_X9_lessens_15 ((20 : Int32) * bi + fi) i (2 * ((F 37) i).toInt.toNat + (if (1 : Int32) = (0 : Int32) then 0 else 1) + 1) g F x2 (1 : Int32) = mid15 ((20 : Int32) * bi + fi) i (2 * (F 37 i).toInt.toNat + (if (1 : Int32) = (0 : Int32) then 0 else 1)) x2 (g_X9_lessens_26 ((20 : Int32) * bi + fi) x2 i (3 - 0 + 1) g F 0 0) := by
        rw [g_X9_lessens_15, if_neg (by decide)]
        rfl
      rw [e15]
      have eL : r_X2_lessen fi (nI i) k (g 38) nf tn tf rg rF pn pf qf qsn qsf qsz = g_X2_lessen_9 pn pf qf qsn qsf qsz fi (nI i) (768 - 0 + 1) k (g 38) nf tn tf rg rF 0 (nI 0) 0 := rfl
      rw [eL]
      generalize g_X2_lessen_9 pn pf qf qsn qsf qsz fi (nI i) (768 - 0 + 1) k (g 38) nf tn tf rg rF 0 (nI 0) 0 = u at q ⊢
      generalize mid15 ((20 : Int32) * bi + fi) i (2 * (F 37 i).toInt.toNat + (if (1 : Int32) = (0 : Int32) then 0 else 1)) x2 (g_X9_lessens_26 ((20 : Int32) * bi + fi) x2 i (3 - 0 + 1) g F 0 0) = v at q ⊢
      obtain ⟨q1, q2, q3⟩ := q
      have hx4b : x4 = 0 ∨ x4 = 1 := by
        rw [hx4]
        rcases hx2 with e | e
        · rw [if_pos e]; exact hl
        · rw [if_neg (by rw [e]; decide)]; exact Or.inr rfl
      have step : (v.2.2.1 = 0 ∨ v.2.2.1 = 1) ∧ (x4 ||| u.1) = (if v.2.2.1 = 0 then l else 1) := by
        rcases q2 with ⟨a, e⟩ | ⟨a, e⟩
        · rw [a, e, or_b hx4b (Or.inl rfl), if_pos rfl]
          exact ⟨hx2, hx4⟩
        · rw [a, e, or_b hx4b (Or.inr rfl), if_neg (by decide), if_neg (by decide)]
          exact ⟨Or.inr rfl, rfl⟩
      exact ls47 hb hb1 hP hF hfi hq hJ0 hl fu fv (i + 1) _ _ _ _ _ _ _ _ _ _ _ (by omega) (by omega) (by omega) step.1 step.2 q3 q1
theorem bst_le {g : Nat → Int32} {F : Nat → Nat → Int32} (hz : (g 38).toInt ≤ 24) (hb : ∀ k : Nat, (k : Int) < (g 38).toInt → (F 37 k).toInt ≤ 255) : bst g F ≤ 24 * 256 := by
  have h : ∀ n : Nat, n ≤ 24 → (n : Int) ≤ (g 38).toInt ∨ n = 0 → msr n (F 37) ≤ n * 256 := by
    intro n
    induction n with
    | zero => intro _ _; exact Nat.le_refl _
    | succ n ih =>
      intro h1 h2
      have h3 : ((n + 1 : Nat) : Int) ≤ (g 38).toInt := by
        rcases h2 with h | h
        · exact h
        · exact absurd h (Nat.succ_ne_zero _)
      have := ih (by omega) (Or.inl (by omega))
      have hk := hb n (by omega)
      show msr n (F 37) + (F 37 n).toInt.toNat + 1 ≤ (n + 1) * 256
      omega
  unfold bst
  have h2 := h (g 38).toInt.toNat (by omega) (by omega)
  have h3 : (g 38).toInt.toNat ≤ 24 := by omega
  exact Nat.le_trans h2 (Nat.mul_le_mul_right 256 h3)
set_option maxRecDepth 100000 in
/-- the rounds of a cut -/
theorem ct23 {b : Nat} {bi fi : Int32} {pn : Int32} {pf qf : Nat → Int32} {qsn : Int32} {qsf qsz : Nat → Int32} {g0 : Nat → Int32} {F0 : Nat → Nat → Int32} (hb : bi.toInt = (b : Int)) (hb1 : b < 2) (hP : PR pn pf g0 F0) (hF : FRW b qf qsn (F0 34)) (hfi : 0 ≤ fi.toInt ∧ fi.toInt < qsn.toInt) (hq : qsn.toInt ≤ 20) (hJ0 : 0 ≤ ((20 : Int32) * bi + fi).toInt ∧ ((20 : Int32) * bi + fi).toInt < 40) : ∀ (fu fv j : Nat) (k nn : Int32) (nf : Nat → Int32) (tn : Int32) (tf rg : Nat → Int32) (rF : Nat → Nat → Int32) (x4 : Int32) (g : Nat → Int32) (F : Nat → Nat → Int32), 1000000 - j < fu → j ≤ 1000000 → 2 * bst g F + (if x4 = 0 then 0 else 1) < fv → j + bst g F + (if x4 = 0 then 0 else 1) ≤ 7000 → (x4 = 0 ∨ x4 = 1) → 0 ≤ tn.toInt → CQ g0 F0 k nn nf g F → ∃ g' F', CQ g0 F0 (g_X2_shrink_23 pn pf qf qsn qsf qsz fi fu k nn nf tn tf rg rF x4 j).1 (g_X2_shrink_23 pn pf qf qsn qsf qsz fi fu k nn nf tn tf rg rF x4 j).2.1 (g_X2_shrink_23 pn pf qf qsn qsf qsz fi fu k nn nf tn tf rg rF x4 j).2.2.1 g' F' ∧ g_X9_cut_35 bi fi ((20 : Int32) * bi + fi) fv g F x4 = r_X9_toTape (r_X9_fromBest g' F').1 (r_X9_fromBest g' F').2 ∧ 0 ≤ (g_X2_shrink_23 pn pf qf qsn qsf qsz fi fu k nn nf tn tf rg rF x4 j).2.2.2.1.toInt
  | 0, _, _, _, _, _, _, _, _, _, _, _, _, h, _, _, _, _, _, _ => absurd h (Nat.not_lt_zero _)
  | _, 0, _, _, _, _, _, _, _, _, _, _, _, _, _, h, _, _, _, _ => absurd h (Nat.not_lt_zero _)
  | fu + 1, fv + 1, j, k, nn, nf, tn, tf, rg, rF, x4, g, F, h1, hj, hm, hB, hx, ht, hc => by
    have ej := nI_toInt (n := j) (by omega)
    have e6 : (1000000 : Int32).toInt = 1000000 := rfl
    rw [g_X2_shrink_23, g_X9_cut_35]
    have hj2 : ¬ (1000000 : Int32) ≤ nI j := by
      simp only [sg_le]
      omega
    rw [if_neg hj2]
    by_cases c : x4 = 0
    · rw [if_pos c, if_pos c]
      exact ⟨g, F, hc, rfl, ht⟩
    · rw [if_neg c, if_neg c]
      dsimp only
      have hJ := hc.2.2.2
      have p1 := JP_leavesOut ((20 : Int32) * bi + fi) g F hJ hJ0
      have q1 := leave_all hb hb1 hP hF hfi hq (qsf := qsf) (qsz := qsz) hJ0 tf rg rF ht hc
      generalize r_X2_leaveOut fi k nn nf tn tf rg rF pn pf qf qsn qsf qsz = u at q1 ⊢
      generalize r_X9_leavesOut ((20 : Int32) * bi + fi) g F = v at q1 p1 ⊢
      have p2 := JP_lessens ((20 : Int32) * bi + fi) v.2.1 v.2.2 p1.1 hJ0
      have hv1 : v.1 = 0 ∨ v.1 = 1 := by
        rcases p1.2 with ⟨a, -⟩ | ⟨a, -⟩
        · exact Or.inl a
        · exact Or.inr a
      have q2 := ls47 hb hb1 hP hF hfi hq (qsf := qsf) (qsz := qsz) hJ0 (l := v.1) (x5 := nI j) hv1 (24 - 0 + 1) (24 - 0 + 1) 0 u.2.1 u.2.2.1 u.2.2.2.1 u.2.2.2.2.1 u.2.2.2.2.2.1 u.2.2.2.2.2.2.1 u.2.2.2.2.2.2.2 u.1 0 v.2.1 v.2.2 (by omega) (by omega) (by omega) (Or.inl rfl) (by rw [if_pos rfl]; exact q1.2.1) q1.2.2 q1.1
      have e4 : r_X9_lessens ((20 : Int32) * bi + fi) v.2.1 v.2.2 = g_X9_lessens_4 ((20 : Int32) * bi + fi) (24 - 0 + 1) v.2.1 v.2.2 0 0 := rfl
      rw [e4] at p2 ⊢
      generalize g_X9_lessens_4 ((20 : Int32) * bi + fi) (24 - 0 + 1) v.2.1 v.2.2 0 0 = w at q2 p2 ⊢
      generalize g_X2_shrink_47 pn pf qf qsn qsf qsz fi (nI j) (24 - 0 + 1) u.2.1 u.2.2.1 u.2.2.2.1 u.2.2.2.2.1 u.2.2.2.2.2.1 u.2.2.2.2.2.2.1 u.2.2.2.2.2.2.2 u.1 0 = z at q2 ⊢
      obtain ⟨s1, s2, s3, s4⟩ := q2
      have cm := cut_mu p1.2 p2.2 c hm
      have bd : (w.1 = 0 → bst w.2.1 w.2.2 + (if v.1 = 0 then 0 else 1) ≤ bst g F) ∧ (¬ w.1 = 0 → bst w.2.1 w.2.2 + 1 ≤ bst g F) := by
        rcases p1.2 with ⟨a1, a2, a3⟩ | ⟨a1, a2, -⟩
        · have ea := bst_eq a2 a3
          rcases p2.2 with ⟨d1, d2, d3⟩ | ⟨d1, d2, -⟩
          · have ed := bst_eq d2 d3
            refine ⟨fun _ => ?_, fun kq => absurd d1 kq⟩
            rw [if_pos a1]
            omega
          · exact ⟨fun kq => absurd (d1.symm.trans kq) (by decide), fun _ => by omega⟩
        · rcases p2.2 with ⟨d1, d2, d3⟩ | ⟨d1, d2, -⟩
          · have ed := bst_eq d2 d3
            refine ⟨fun _ => ?_, fun kq => absurd d1 kq⟩
            rw [if_neg (by rw [a1]; decide)]
            omega
          · exact ⟨fun kq => absurd (d1.symm.trans kq) (by decide), fun _ => by omega⟩
      rw [if_neg c] at hB
      by_cases d : w.1 = 0
      · rw [if_pos d] at s3
        rw [if_pos d, s3]
        exact ct23 hb hb1 hP hF hfi hq hJ0 fu fv (j + 1) _ _ _ _ _ _ _ v.1 w.2.1 w.2.2 (by omega) (by omega) (cm.1 d) (by have := bd.1 d; omega) hv1 s4 s1
      · rw [if_neg d] at s3
        rw [if_neg d, s3]
        exact ct23 hb hb1 hP hF hfi hq hJ0 fu fv (j + 1) _ _ _ _ _ _ _ 1 w.2.1 w.2.2 (by omega) (by omega) (cm.2 d) (by have := bd.2 d; rw [if_neg (by decide)]; omega) (Or.inr rfl) s4 s1
theorem t_cut_0 {T : Int} {rf : Int32} {pn : Int32} {pf : Nat → Int32} {tn : Int32} {tf : Nat → Int32} {sn : Int32} {lg : Nat → Int32} {lF : Nat → Nat → Int32} {bcv : Nat → Int32} {btr : Int32} {bpn : Int32} {bpf : Nat → Int32} {bpz : Nat → Int32} {bff : Nat → Int32} {bfsn : Int32} {bfsf : Nat → Int32} {bfsz : Nat → Int32} {dcv : Nat → Int32} {dtr : Int32} {dpn : Int32} {dpf : Nat → Int32} {dpz : Nat → Int32} {dff : Nat → Int32} {dfsn : Int32} {dfsf : Nat → Int32} {dfsz : Nat → Int32} {cmn : Int32} {ctn : Int32} {kk : Int32} {knn : Int32} {ktn : Int32} {g : Nat → Int32} {F : Nat → Nat → Int32} {knf ktf krg : Nat → Int32} {krF : Nat → Nat → Int32} (hR : RR T rf pn pf tn tf sn lg lF bcv btr bpn bpf bpz bff bfsn bfsf bfsz dcv dtr dpn dpf dpz dff dfsn dfsf dfsz cmn ctn kk knn ktn g F) (hT : T ≤ 1000000) (fi : Int32) : (r_X8_cut_0 fi rf pn pf tn tf bcv btr bpn bpf bpz bff bfsn bfsf bfsz kk knn knf ktn ktf krg krF).1 = (r_X9_cut (0 : Int32) fi g F).1 ∧ RR (T + 60) rf pn pf ((r_X8_cut_0 fi rf pn pf tn tf bcv btr bpn bpf bpz bff bfsn bfsf bfsz kk knn knf ktn ktf krg krF).2.1) ((r_X8_cut_0 fi rf pn pf tn tf bcv btr bpn bpf bpz bff bfsn bfsf bfsz kk knn knf ktn ktf krg krF).2.2.1) sn lg lF bcv btr bpn bpf bpz bff bfsn bfsf bfsz dcv dtr dpn dpf dpz dff dfsn dfsf dfsz cmn ctn ((r_X8_cut_0 fi rf pn pf tn tf bcv btr bpn bpf bpz bff bfsn bfsf bfsz kk knn knf ktn ktf krg krF).2.2.2.1) ((r_X8_cut_0 fi rf pn pf tn tf bcv btr bpn bpf bpz bff bfsn bfsf bfsz kk knn knf ktn ktf krg krF).2.2.2.2.1) ((r_X8_cut_0 fi rf pn pf tn tf bcv btr bpn bpf bpz bff bfsn bfsf bfsz kk knn knf ktn ktf krg krF).2.2.2.2.2.2.1) ((r_X9_cut (0 : Int32) fi g F).2.1) ((r_X9_cut (0 : Int32) fi g F).2.2) := by
  obtain ⟨r1, r2, r3, r4, r5, r6, r7, r8, r9⟩ := hR
  have hR0 : RR T rf pn pf tn tf sn lg lF bcv btr bpn bpf bpz bff bfsn bfsf bfsz dcv dtr dpn dpf dpz dff dfsn dfsf dfsz cmn ctn kk knn ktn g F := ⟨r1, r2, r3, r4, r5, r6, r7, r8, r9⟩
  have sh := r5.2.2.1
  have hF := r5.2.2.2.1
  have hh := has3i (f := bff) (sf := bfsf) (sz := bfsz) (i := fi) sh.1 sh.2.1
  unfold r_X8_cut_0 r_X9_cut
  by_cases c : r_X3_has fi bff bfsn bfsf bfsz = 0
  · rw [if_pos c, if_pos ((isF_b (b := 0) rfl (by decide)).mpr (hh.1.mp c))]
    exact ⟨rfl, hR0.le (by omega)⟩
  · rw [if_neg c, if_neg (fun k => c (hh.1.mpr ((isF_b (b := 0) rfl (by decide)).mp k)))]
    dsimp only
    have hi := hh.2 c
    have hn20 : bfsn.toInt ≤ 20 := by rw [sh.1]; exact sh.2.1.2
    have hg := sh_get sh hi
    have ei : ((20 : Int32) * (0 : Int32) + fi).toInt = ((20 * 0 + fi.toInt.toNat : Nat) : Int) := by
      rw [mad_i (k := 20) rfl (by omega) (by decide) (by omega)]
      show (20 : Int) * 0 + _ = _
      omega
    have en : ((20 : Int32) * (0 : Int32) + fi).toNatClampNeg = 20 * 0 + fi.toInt.toNat := by rw [tN, ei]; rfl
    have hJ0 : 0 ≤ ((20 : Int32) * (0 : Int32) + fi).toInt ∧ ((20 : Int32) * (0 : Int32) + fi).toInt < 40 := by rw [ei]; omega
    have j39 := r9.u 39 (0 : Int32) (by decide)
    have j1 := J_X9_fromFirst ((20 : Int32) * (0 : Int32) + fi) (upd g 39 (0 : Int32)) F j39 hJ0
    have hI : IR (bfsz fi.toNatClampNeg) (cpy (bfsz fi.toNatClampNeg).toInt.toNat (fun k => bfsf (24 * fi.toInt.toNat + k)) knf) ((r_X9_fromFirst ((20 : Int32) * (0 : Int32) + fi) (upd g 39 (0 : Int32)) F).1 10) ((r_X9_fromFirst ((20 : Int32) * (0 : Int32) + fi) (upd g 39 (0 : Int32)) F).2 9) := by
      rw [cl_fromFirst _ _ F (b24 (r9.q36 _))]
      show IR _ _ (F 36 ((20 : Int32) * (0 : Int32) + fi).toNatClampNeg) (cpy (F 36 ((20 : Int32) * (0 : Int32) + fi).toNatClampNeg).toInt.toNat (fun k => F 35 ((24 : Int32) * ((20 : Int32) * (0 : Int32) + fi) + nI k).toNatClampNeg) (F 9))
      rw [en]
      exact ((tape_of hg _ (fun k hk => by rw [ix24n ei (by omega) hk])).cp2 knf).cp (F 9)
    have fF : Fr [10, 14, 15, 16, 17, 18, 38, 39] [9, 11, 12, 13, 19, 37] (upd g 39 (0 : Int32)) F (r_X9_fromFirst ((20 : Int32) * (0 : Int32) + fi) (upd g 39 (0 : Int32)) F).1 (r_X9_fromFirst ((20 : Int32) * (0 : Int32) + fi) (upd g 39 (0 : Int32)) F).2 := by
      rw [cl_fromFirst _ _ F (b24 (r9.q36 _))]
      exact Fr.v (by decide) (Fr.u (by decide) Fr.refl)
    have f39 : (r_X9_fromFirst ((20 : Int32) * (0 : Int32) + fi) (upd g 39 (0 : Int32)) F).1 39 = 0 := by
      rw [cl_fromFirst _ _ F (b24 (r9.q36 _))]
      rfl
    unfold r_X2_shrink
    dsimp only
    rw [copyTo_cl (M := 20) hi hn20 (by omega) (by rw [hg.1]; exact hg.2.1) r7.2.2.2.1.1]
    generalize r_X9_fromFirst ((20 : Int32) * (0 : Int32) + fi) (upd g 39 (0 : Int32)) F = v at j1 hI fF f39 ⊢
    have j2 := j1.toBest
    have hcq : CQ (upd g 39 (0 : Int32)) F 0 (bfsz fi.toNatClampNeg) (cpy (bfsz fi.toNatClampNeg).toInt.toNat (fun k => bfsf (24 * fi.toInt.toNat + k)) knf) (r_X9_toBest v.1 v.2).1 (r_X9_toBest v.1 v.2).2 := by
      refine ⟨?_, ?_, ?_, j2⟩
      · rw [cl_toBest v.1 v.2 (b24 j1.p10)]
        show (0 : Int32) = upd v.1 38 (v.1 10) 39
        rw [upd_n _ _ (by decide), f39]
      · rw [cl_toBest v.1 v.2 (b24 j1.p10)]
        show IR _ _ (upd v.1 38 (v.1 10) 38) (va_up v.2 37 (cpy (v.1 10).toInt.toNat (v.2 9) (v.2 37)) 37)
        rw [upd_s, va_up_self]
        exact hI.cp _
      · refine fF.trans ?_
        rw [cl_toBest v.1 v.2 (b24 j1.p10)]
        exact Fr.v (by decide) (Fr.u (by decide) Fr.refl)
    generalize r_X9_toBest v.1 v.2 = w at j2 hcq ⊢
    have bl := bst_le j2.p38.2 (fun k hk => (hcq.2.1.2.2 k hk).2.2)
    have P39 : PR pn pf (upd g 39 (0 : Int32)) F := r2.of rfl rfl rfl rfl rfl
    obtain ⟨g', F', q1, q2, q3⟩ := ct23 (b := 0) (bi := (0 : Int32)) (qsf := bfsf) (qsz := bfsz) rfl (by decide) P39 hF hi hn20 hJ0 (1000000 - 0 + 1) (2 * bst w.1 w.2 + (if (1 : Int32) = (0 : Int32) then 0 else 1) + 1) 0 0 _ _ ktn ktf krg krF 1 w.1 w.2 (by omega) (by omega) (Nat.lt_succ_self _) (by rw [if_neg (by decide)]; omega) (Or.inr rfl) r7.2.2.2.2 hcq
    rw [q2]
    generalize g_X2_shrink_23 pn pf bff bfsn bfsf bfsz fi (1000000 - 0 + 1) 0 (bfsz fi.toNatClampNeg) (cpy (bfsz fi.toNatClampNeg).toInt.toNat (fun k => bfsf (24 * fi.toInt.toNat + k)) knf) ktn ktf krg krF 1 0 = z at q1 q3 ⊢
    have jq := q1.2.2.2
    obtain ⟨b1, b2, b3, b4⟩ := best_in q1
    have jb := jq.fromBest
    have fq := q1.2.2.1
    have k1 := q1.1
    have kr := q1.2.1.rng
    rw [copy_cl r3.rng.1 kr]
    generalize r_X9_fromBest g' F' = y at b1 b2 b3 b4 jb ⊢
    have tt := to_tape (b1.cp2 tf) jb
    have jt := jb.toTape
    have l2 : Fr [8] [7] y.1 y.2 (r_X9_toTape y.1 y.2).2.1 (r_X9_toTape y.1 y.2).2.2 := by
      rw [cl_toTape y.1 y.2 (b24 jb.p10)]
      exact Fr.v (by decide) (Fr.u (by decide) Fr.refl)
    generalize r_X9_toTape y.1 y.2 = t at tt jt l2 ⊢
    have f8 : Fr [8, 10, 14, 15, 16, 17, 18, 38, 39] [7, 9, 11, 12, 13, 19, 37] g F t.2.1 t.2.2 := (((Fr.u (by decide) Fr.refl).trans (fq.mono (by decide) (by decide))).trans (b2.mono (by decide) (by decide))).trans (l2.mono (by decide) (by decide))
    have fw : Fr [8, 10, 14, 15, 16, 17, 18, 20, 21, 22, 23, 24, 38, 39] [7, 9, 11, 12, 13, 19, 25, 26, 27, 37] g F t.2.1 t.2.2 := f8.mono (by decide) (by decide)
    refine ⟨tt.1.symm, by rw [f8.1 6 (by decide)]; exact r1, r2.fr fw, tt.2.1, r4.of (f8.1 20 (by decide)) (f8.1 21 (by decide)) (f8.1 22 (by decide)) (f8.1 23 (by decide)) (f8.1 24 (by decide)) (f8.2 25 (by decide)) (f8.2 26 (by decide)) (f8.2 27 (by decide)), r5.fr (by omega) fw, r6.fr (by omega) fw, ⟨r7.1, r7.2.1, r7.2.2.1, kr, q3⟩, ?_, jt⟩
    rw [tt.2.2, b2.1 39 (by decide)]
    exact k1
theorem t_cut_1 {T : Int} {rf : Int32} {pn : Int32} {pf : Nat → Int32} {tn : Int32} {tf : Nat → Int32} {sn : Int32} {lg : Nat → Int32} {lF : Nat → Nat → Int32} {bcv : Nat → Int32} {btr : Int32} {bpn : Int32} {bpf : Nat → Int32} {bpz : Nat → Int32} {bff : Nat → Int32} {bfsn : Int32} {bfsf : Nat → Int32} {bfsz : Nat → Int32} {dcv : Nat → Int32} {dtr : Int32} {dpn : Int32} {dpf : Nat → Int32} {dpz : Nat → Int32} {dff : Nat → Int32} {dfsn : Int32} {dfsf : Nat → Int32} {dfsz : Nat → Int32} {cmn : Int32} {ctn : Int32} {kk : Int32} {knn : Int32} {ktn : Int32} {g : Nat → Int32} {F : Nat → Nat → Int32} {knf ktf krg : Nat → Int32} {krF : Nat → Nat → Int32} (hR : RR T rf pn pf tn tf sn lg lF bcv btr bpn bpf bpz bff bfsn bfsf bfsz dcv dtr dpn dpf dpz dff dfsn dfsf dfsz cmn ctn kk knn ktn g F) (hT : T ≤ 1000000) (fi : Int32) : (r_X8_cut_1 fi rf pn pf tn tf dcv dtr dpn dpf dpz dff dfsn dfsf dfsz kk knn knf ktn ktf krg krF).1 = (r_X9_cut (1 : Int32) fi g F).1 ∧ RR (T + 60) rf pn pf ((r_X8_cut_1 fi rf pn pf tn tf dcv dtr dpn dpf dpz dff dfsn dfsf dfsz kk knn knf ktn ktf krg krF).2.1) ((r_X8_cut_1 fi rf pn pf tn tf dcv dtr dpn dpf dpz dff dfsn dfsf dfsz kk knn knf ktn ktf krg krF).2.2.1) sn lg lF bcv btr bpn bpf bpz bff bfsn bfsf bfsz dcv dtr dpn dpf dpz dff dfsn dfsf dfsz cmn ctn ((r_X8_cut_1 fi rf pn pf tn tf dcv dtr dpn dpf dpz dff dfsn dfsf dfsz kk knn knf ktn ktf krg krF).2.2.2.1) ((r_X8_cut_1 fi rf pn pf tn tf dcv dtr dpn dpf dpz dff dfsn dfsf dfsz kk knn knf ktn ktf krg krF).2.2.2.2.1) ((r_X8_cut_1 fi rf pn pf tn tf dcv dtr dpn dpf dpz dff dfsn dfsf dfsz kk knn knf ktn ktf krg krF).2.2.2.2.2.2.1) ((r_X9_cut (1 : Int32) fi g F).2.1) ((r_X9_cut (1 : Int32) fi g F).2.2) := by
  obtain ⟨r1, r2, r3, r4, r5, r6, r7, r8, r9⟩ := hR
  have hR0 : RR T rf pn pf tn tf sn lg lF bcv btr bpn bpf bpz bff bfsn bfsf bfsz dcv dtr dpn dpf dpz dff dfsn dfsf dfsz cmn ctn kk knn ktn g F := ⟨r1, r2, r3, r4, r5, r6, r7, r8, r9⟩
  have sh := r6.2.2.1
  have hF := r6.2.2.2.1
  have hh := has3i (f := dff) (sf := dfsf) (sz := dfsz) (i := fi) sh.1 sh.2.1
  unfold r_X8_cut_1 r_X9_cut
  by_cases c : r_X3_has fi dff dfsn dfsf dfsz = 0
  · rw [if_pos c, if_pos ((isF_b (b := 1) rfl (by decide)).mpr (hh.1.mp c))]
    exact ⟨rfl, hR0.le (by omega)⟩
  · rw [if_neg c, if_neg (fun k => c (hh.1.mpr ((isF_b (b := 1) rfl (by decide)).mp k)))]
    dsimp only
    have hi := hh.2 c
    have hn20 : dfsn.toInt ≤ 20 := by rw [sh.1]; exact sh.2.1.2
    have hg := sh_get sh hi
    have ei : ((20 : Int32) * (1 : Int32) + fi).toInt = ((20 * 1 + fi.toInt.toNat : Nat) : Int) := by
      rw [mad_i (k := 20) rfl (by omega) (by decide) (by omega)]
      show (20 : Int) * 1 + _ = _
      omega
    have en : ((20 : Int32) * (1 : Int32) + fi).toNatClampNeg = 20 * 1 + fi.toInt.toNat := by rw [tN, ei]; rfl
    have hJ0 : 0 ≤ ((20 : Int32) * (1 : Int32) + fi).toInt ∧ ((20 : Int32) * (1 : Int32) + fi).toInt < 40 := by rw [ei]; omega
    have j39 := r9.u 39 (0 : Int32) (by decide)
    have j1 := J_X9_fromFirst ((20 : Int32) * (1 : Int32) + fi) (upd g 39 (0 : Int32)) F j39 hJ0
    have hI : IR (dfsz fi.toNatClampNeg) (cpy (dfsz fi.toNatClampNeg).toInt.toNat (fun k => dfsf (24 * fi.toInt.toNat + k)) knf) ((r_X9_fromFirst ((20 : Int32) * (1 : Int32) + fi) (upd g 39 (0 : Int32)) F).1 10) ((r_X9_fromFirst ((20 : Int32) * (1 : Int32) + fi) (upd g 39 (0 : Int32)) F).2 9) := by
      rw [cl_fromFirst _ _ F (b24 (r9.q36 _))]
      show IR _ _ (F 36 ((20 : Int32) * (1 : Int32) + fi).toNatClampNeg) (cpy (F 36 ((20 : Int32) * (1 : Int32) + fi).toNatClampNeg).toInt.toNat (fun k => F 35 ((24 : Int32) * ((20 : Int32) * (1 : Int32) + fi) + nI k).toNatClampNeg) (F 9))
      rw [en]
      exact ((tape_of hg _ (fun k hk => by rw [ix24n ei (by omega) hk])).cp2 knf).cp (F 9)
    have fF : Fr [10, 14, 15, 16, 17, 18, 38, 39] [9, 11, 12, 13, 19, 37] (upd g 39 (0 : Int32)) F (r_X9_fromFirst ((20 : Int32) * (1 : Int32) + fi) (upd g 39 (0 : Int32)) F).1 (r_X9_fromFirst ((20 : Int32) * (1 : Int32) + fi) (upd g 39 (0 : Int32)) F).2 := by
      rw [cl_fromFirst _ _ F (b24 (r9.q36 _))]
      exact Fr.v (by decide) (Fr.u (by decide) Fr.refl)
    have f39 : (r_X9_fromFirst ((20 : Int32) * (1 : Int32) + fi) (upd g 39 (0 : Int32)) F).1 39 = 0 := by
      rw [cl_fromFirst _ _ F (b24 (r9.q36 _))]
      rfl
    unfold r_X2_shrink
    dsimp only
    rw [copyTo_cl (M := 20) hi hn20 (by omega) (by rw [hg.1]; exact hg.2.1) r7.2.2.2.1.1]
    generalize r_X9_fromFirst ((20 : Int32) * (1 : Int32) + fi) (upd g 39 (0 : Int32)) F = v at j1 hI fF f39 ⊢
    have j2 := j1.toBest
    have hcq : CQ (upd g 39 (0 : Int32)) F 0 (dfsz fi.toNatClampNeg) (cpy (dfsz fi.toNatClampNeg).toInt.toNat (fun k => dfsf (24 * fi.toInt.toNat + k)) knf) (r_X9_toBest v.1 v.2).1 (r_X9_toBest v.1 v.2).2 := by
      refine ⟨?_, ?_, ?_, j2⟩
      · rw [cl_toBest v.1 v.2 (b24 j1.p10)]
        show (0 : Int32) = upd v.1 38 (v.1 10) 39
        rw [upd_n _ _ (by decide), f39]
      · rw [cl_toBest v.1 v.2 (b24 j1.p10)]
        show IR _ _ (upd v.1 38 (v.1 10) 38) (va_up v.2 37 (cpy (v.1 10).toInt.toNat (v.2 9) (v.2 37)) 37)
        rw [upd_s, va_up_self]
        exact hI.cp _
      · refine fF.trans ?_
        rw [cl_toBest v.1 v.2 (b24 j1.p10)]
        exact Fr.v (by decide) (Fr.u (by decide) Fr.refl)
    generalize r_X9_toBest v.1 v.2 = w at j2 hcq ⊢
    have bl := bst_le j2.p38.2 (fun k hk => (hcq.2.1.2.2 k hk).2.2)
    have P39 : PR pn pf (upd g 39 (0 : Int32)) F := r2.of rfl rfl rfl rfl rfl
    obtain ⟨g', F', q1, q2, q3⟩ := ct23 (b := 1) (bi := (1 : Int32)) (qsf := dfsf) (qsz := dfsz) rfl (by decide) P39 hF hi hn20 hJ0 (1000000 - 0 + 1) (2 * bst w.1 w.2 + (if (1 : Int32) = (0 : Int32) then 0 else 1) + 1) 0 0 _ _ ktn ktf krg krF 1 w.1 w.2 (by omega) (by omega) (Nat.lt_succ_self _) (by rw [if_neg (by decide)]; omega) (Or.inr rfl) r7.2.2.2.2 hcq
    rw [q2]
    generalize g_X2_shrink_23 pn pf dff dfsn dfsf dfsz fi (1000000 - 0 + 1) 0 (dfsz fi.toNatClampNeg) (cpy (dfsz fi.toNatClampNeg).toInt.toNat (fun k => dfsf (24 * fi.toInt.toNat + k)) knf) ktn ktf krg krF 1 0 = z at q1 q3 ⊢
    have jq := q1.2.2.2
    obtain ⟨b1, b2, b3, b4⟩ := best_in q1
    have jb := jq.fromBest
    have fq := q1.2.2.1
    have k1 := q1.1
    have kr := q1.2.1.rng
    rw [copy_cl r3.rng.1 kr]
    generalize r_X9_fromBest g' F' = y at b1 b2 b3 b4 jb ⊢
    have tt := to_tape (b1.cp2 tf) jb
    have jt := jb.toTape
    have l2 : Fr [8] [7] y.1 y.2 (r_X9_toTape y.1 y.2).2.1 (r_X9_toTape y.1 y.2).2.2 := by
      rw [cl_toTape y.1 y.2 (b24 jb.p10)]
      exact Fr.v (by decide) (Fr.u (by decide) Fr.refl)
    generalize r_X9_toTape y.1 y.2 = t at tt jt l2 ⊢
    have f8 : Fr [8, 10, 14, 15, 16, 17, 18, 38, 39] [7, 9, 11, 12, 13, 19, 37] g F t.2.1 t.2.2 := (((Fr.u (by decide) Fr.refl).trans (fq.mono (by decide) (by decide))).trans (b2.mono (by decide) (by decide))).trans (l2.mono (by decide) (by decide))
    have fw : Fr [8, 10, 14, 15, 16, 17, 18, 20, 21, 22, 23, 24, 38, 39] [7, 9, 11, 12, 13, 19, 25, 26, 27, 37] g F t.2.1 t.2.2 := f8.mono (by decide) (by decide)
    refine ⟨tt.1.symm, by rw [f8.1 6 (by decide)]; exact r1, r2.fr fw, tt.2.1, r4.of (f8.1 20 (by decide)) (f8.1 21 (by decide)) (f8.1 22 (by decide)) (f8.1 23 (by decide)) (f8.1 24 (by decide)) (f8.2 25 (by decide)) (f8.2 26 (by decide)) (f8.2 27 (by decide)), r5.fr (by omega) fw, r6.fr (by omega) fw, ⟨r7.1, r7.2.1, r7.2.2.1, kr, q3⟩, ?_, jt⟩
    rw [tt.2.2, b2.1 39 (by decide)]
    exact k1
