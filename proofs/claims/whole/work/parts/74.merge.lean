theorem mg_0 {T : Int} {rf : Int32} {pn : Int32} {pf : Nat → Int32} {tn : Int32} {tf : Nat → Int32} {sn : Int32} {lg : Nat → Int32} {lF : Nat → Nat → Int32} {bcv : Nat → Int32} {btr : Int32} {bpn : Int32} {bpf : Nat → Int32} {bpz : Nat → Int32} {bff : Nat → Int32} {bfsn : Int32} {bfsf : Nat → Int32} {bfsz : Nat → Int32} {dcv : Nat → Int32} {dtr : Int32} {dpn : Int32} {dpf : Nat → Int32} {dpz : Nat → Int32} {dff : Nat → Int32} {dfsn : Int32} {dfsf : Nat → Int32} {dfsz : Nat → Int32} {cmn : Int32} {ctn : Int32} {kk : Int32} {knn : Int32} {ktn : Int32} {g : Nat → Int32} {F : Nat → Nat → Int32} {un : Int32} {uf : Nat → Int32} {v : (Nat → Int32) × (Nat → Nat → Int32)} (og : Nat → Int32) (oF : Nat → Nat → Int32) (hR : RR T rf pn pf tn tf sn lg lF bcv btr bpn bpf bpz bff bfsn bfsf bfsz dcv dtr dpn dpf dpz dff dfsn dfsf dfsz cmn ctn kk knn ktn g F) (hT : T ≤ 10000000) (l0 : Fr [10] [9] g F v.1 v.2) (j1 : J v.1 v.2) (hI : IR un uf (v.1 10) (v.2 9)) : (r_X0_take bcv btr bpn bpf bpz bff bfsn bfsf bfsz (r_X7_execute og oF pn pf un uf).1 (r_X7_execute og oF pn pf un uf).2 un uf).1 = (r_X9_tries (0 : Int32) v.1 v.2).1 ∧ RR (T + 1) rf pn pf tn tf (un) lg lF ((r_X0_take bcv btr bpn bpf bpz bff bfsn bfsf bfsz (r_X7_execute og oF pn pf un uf).1 (r_X7_execute og oF pn pf un uf).2 un uf).2.1) ((r_X0_take bcv btr bpn bpf bpz bff bfsn bfsf bfsz (r_X7_execute og oF pn pf un uf).1 (r_X7_execute og oF pn pf un uf).2 un uf).2.2.1) ((r_X0_take bcv btr bpn bpf bpz bff bfsn bfsf bfsz (r_X7_execute og oF pn pf un uf).1 (r_X7_execute og oF pn pf un uf).2 un uf).2.2.2.1) ((r_X0_take bcv btr bpn bpf bpz bff bfsn bfsf bfsz (r_X7_execute og oF pn pf un uf).1 (r_X7_execute og oF pn pf un uf).2 un uf).2.2.2.2.1) ((r_X0_take bcv btr bpn bpf bpz bff bfsn bfsf bfsz (r_X7_execute og oF pn pf un uf).1 (r_X7_execute og oF pn pf un uf).2 un uf).2.2.2.2.2.1) ((r_X0_take bcv btr bpn bpf bpz bff bfsn bfsf bfsz (r_X7_execute og oF pn pf un uf).1 (r_X7_execute og oF pn pf un uf).2 un uf).2.2.2.2.2.2.1) ((r_X0_take bcv btr bpn bpf bpz bff bfsn bfsf bfsz (r_X7_execute og oF pn pf un uf).1 (r_X7_execute og oF pn pf un uf).2 un uf).2.2.2.2.2.2.2.1) ((r_X0_take bcv btr bpn bpf bpz bff bfsn bfsf bfsz (r_X7_execute og oF pn pf un uf).1 (r_X7_execute og oF pn pf un uf).2 un uf).2.2.2.2.2.2.2.2.1) ((r_X0_take bcv btr bpn bpf bpz bff bfsn bfsf bfsz (r_X7_execute og oF pn pf un uf).1 (r_X7_execute og oF pn pf un uf).2 un uf).2.2.2.2.2.2.2.2.2) dcv dtr dpn dpf dpz dff dfsn dfsf dfsz cmn ctn kk knn ktn ((r_X9_tries (0 : Int32) v.1 v.2).2.1) ((r_X9_tries (0 : Int32) v.1 v.2).2.2) ∧ OB 0 F (r_X9_tries (0 : Int32) v.1 v.2).2.2 := by
  obtain ⟨r1, r2, r3, r4, r5, r6, r7, r8, r9⟩ := hR
  have f1 : Fr [8, 10, 14, 15, 16, 17, 18, 20, 21, 22, 23, 24, 38, 39] [7, 9, 11, 12, 13, 19, 25, 26, 27, 37] g F v.1 v.2 := l0.mono (by decide) (by decide)
  have jt := J_X9_tries (0 : Int32) v.1 v.2 j1 (by decide)
  rw [tries_eq] at jt ⊢
  have f2 := fr_go v.1 v.2 j1
  have g2 := (goThrough_gt v.1 v.2 j1.p10).1
  have gt := (goThrough_gt v.1 v.2 j1.p10).2.2
  have k2 := go_kept v.1 v.2 j1
  have q1 := exec_sim (r2.fr f1) hI og oF
  generalize r_X7_execute og oF pn pf un uf = u at q1 ⊢
  generalize r_X9_goThrough v.1 v.2 = w at q1 f2 k2 g2 gt jt ⊢
  have f := f1.trans f2
  have tk := take_sim (b := 0) (bi := (0 : Int32)) (un := un) (uf := uf) rfl (by decide) q1 (by rw [k2.2.2.2.1, k2.2.2.2.2.1]; exact hI) (r5.fr (Int.le_refl T) f) gt (by omega)
  generalize trb (0 : Int32) w.1 w.2 = t at tk jt ⊢
  generalize r_X0_take bcv btr bpn bpf bpz bff bfsn bfsf bfsz u.1 u.2 un uf = r at tk ⊢
  obtain ⟨t1, t2, t3, t4, t5⟩ := tk
  have ot := (r6.fr (Int.le_refl T) f).other (T' := T + 1) (by omega) t4 (by decide) (by decide) (by decide)
  have fo : OB 0 F w.2 := ⟨fun k _ => by rw [f.2 30 (by decide)], fun k _ => by rw [f.2 32 (by decide)], fun k _ => by rw [f.2 33 (by decide)], fun k _ => by rw [f.2 28 (by decide)], fun k _ => by rw [f.2 29 (by decide)], fun k _ => by rw [f.2 31 (by decide)], fun k _ => by rw [f.2 34 (by decide)], fun k _ => by rw [f.2 35 (by decide)], fun k _ => by rw [f.2 36 (by decide)]⟩
  refine ⟨t1, ⟨?_, (r2.fr f).of (by rw [t2]) (t5 1 (by decide)) (t5 2 (by decide)) (t5 3 (by decide)) (t5 4 (by decide)), ?_, ?_, t3, ot, ⟨hI.rng.1, r7.2⟩, ?_, jt⟩, fo.trans t4⟩
  · rw [t2, f.1 6 (by decide)]
    exact r1
  · rw [t2, t5 7 (by decide), k2.1, k2.2.1, l0.1 8 (by decide), l0.2 7 (by decide)]
    exact r3
  · refine (r4.of (l0.1 20 (by decide)) (l0.1 21 (by decide)) (l0.1 22 (by decide)) (l0.1 23 (by decide)) (l0.1 24 (by decide)) (l0.2 25 (by decide)) (l0.2 26 (by decide)) (l0.2 27 (by decide))).of ?_ ?_ ?_ ?_ ?_ ?_ ?_ ?_
    · rw [t2]; exact g2.1 20 (by decide)
    · rw [t2]; exact g2.1 21 (by decide)
    · rw [t2]; exact g2.1 22 (by decide)
    · rw [t2]; exact g2.1 23 (by decide)
    · rw [t2]; exact g2.1 24 (by decide)
    · rw [t5 25 (by decide)]; exact g2.2 25 (by decide)
    · rw [t5 26 (by decide)]; exact g2.2 26 (by decide)
    · rw [t5 27 (by decide)]; exact g2.2 27 (by decide)
  · rw [t2, k2.2.2.1, l0.1 39 (by decide)]
    exact r8
theorem ml_p0 {T : Int} {rf : Int32} {pn : Int32} {pf : Nat → Int32} {tn : Int32} {tf : Nat → Int32} {lg : Nat → Int32} {lF : Nat → Nat → Int32} {dcv : Nat → Int32} {dtr : Int32} {dpn : Int32} {dpf : Nat → Int32} {dpz : Nat → Int32} {dff : Nat → Int32} {dfsn : Int32} {dfsf : Nat → Int32} {dfsz : Nat → Int32} {cmn : Int32} {ctn : Int32} {kk : Int32} {knn : Int32} {ktn : Int32} (hT : T ≤ 5000000) : ∀ (fu fv j : Nat) (sn : Int32) (sf og : Nat → Int32) (oF : Nat → Nat → Int32) (bcv : Nat → Int32) (btr : Int32) (bpn : Int32) (bpf : Nat → Int32) (bpz : Nat → Int32) (bff : Nat → Int32) (bfsn : Int32) (bfsf : Nat → Int32) (bfsz : Nat → Int32) (x3 x3r : Int32) (g : Nat → Int32) (F : Nat → Nat → Int32), (dpn.toInt - j).toNat < fu → 40 - j < fv → j ≤ 40 → x3 = x3r → RR (T + j) rf pn pf tn tf sn lg lF bcv btr bpn bpf bpz bff bfsn bfsf bfsz dcv dtr dpn dpf dpz dff dfsn dfsf dfsz cmn ctn kk knn ktn g F → (g_X8_takeAll_0_5 rf pn pf dpn dpf dpz 40 fu sn sf og oF bcv btr bpn bpf bpz bff bfsn bfsf bfsz x3 (nI j)).1 = (g_X9_merge_20 (0 : Int32) (1 : Int32) fv g F x3r j).2.2.1 ∧ RR (T + 40) rf pn pf tn tf ((g_X8_takeAll_0_5 rf pn pf dpn dpf dpz 40 fu sn sf og oF bcv btr bpn bpf bpz bff bfsn bfsf bfsz x3 (nI j)).2.1) lg lF ((g_X8_takeAll_0_5 rf pn pf dpn dpf dpz 40 fu sn sf og oF bcv btr bpn bpf bpz bff bfsn bfsf bfsz x3 (nI j)).2.2.2.2.2.1) ((g_X8_takeAll_0_5 rf pn pf dpn dpf dpz 40 fu sn sf og oF bcv btr bpn bpf bpz bff bfsn bfsf bfsz x3 (nI j)).2.2.2.2.2.2.1) ((g_X8_takeAll_0_5 rf pn pf dpn dpf dpz 40 fu sn sf og oF bcv btr bpn bpf bpz bff bfsn bfsf bfsz x3 (nI j)).2.2.2.2.2.2.2.1) ((g_X8_takeAll_0_5 rf pn pf dpn dpf dpz 40 fu sn sf og oF bcv btr bpn bpf bpz bff bfsn bfsf bfsz x3 (nI j)).2.2.2.2.2.2.2.2.1) ((g_X8_takeAll_0_5 rf pn pf dpn dpf dpz 40 fu sn sf og oF bcv btr bpn bpf bpz bff bfsn bfsf bfsz x3 (nI j)).2.2.2.2.2.2.2.2.2.1) ((g_X8_takeAll_0_5 rf pn pf dpn dpf dpz 40 fu sn sf og oF bcv btr bpn bpf bpz bff bfsn bfsf bfsz x3 (nI j)).2.2.2.2.2.2.2.2.2.2.1) ((g_X8_takeAll_0_5 rf pn pf dpn dpf dpz 40 fu sn sf og oF bcv btr bpn bpf bpz bff bfsn bfsf bfsz x3 (nI j)).2.2.2.2.2.2.2.2.2.2.2.1) ((g_X8_takeAll_0_5 rf pn pf dpn dpf dpz 40 fu sn sf og oF bcv btr bpn bpf bpz bff bfsn bfsf bfsz x3 (nI j)).2.2.2.2.2.2.2.2.2.2.2.2.1) ((g_X8_takeAll_0_5 rf pn pf dpn dpf dpz 40 fu sn sf og oF bcv btr bpn bpf bpz bff bfsn bfsf bfsz x3 (nI j)).2.2.2.2.2.2.2.2.2.2.2.2.2) dcv dtr dpn dpf dpz dff dfsn dfsf dfsz cmn ctn kk knn ktn ((g_X9_merge_20 (0 : Int32) (1 : Int32) fv g F x3r j).1) ((g_X9_merge_20 (0 : Int32) (1 : Int32) fv g F x3r j).2.1)
  | 0, _, _, _, _, _, _, _, _, _, _, _, _, _, _, _, _, _, _, _, h, _, _, _, _ => absurd h (Nat.not_lt_zero _)
  | _, 0, _, _, _, _, _, _, _, _, _, _, _, _, _, _, _, _, _, _, _, h, _, _, _ => absurd h (Nat.not_lt_zero _)
  | fu + 1, fv + 1, j, sn, sf, og, oF, bcv, btr, bpn, bpf, bpz, bff, bfsn, bfsf, bfsz, x3, x3r, g, F, h1, h2, hj, hx, hR => by
    have hR0 := hR
    obtain ⟨r1, r2, r3, r4, r5, r6, r7, r8, r9⟩ := hR
    have sh := r6.2.1
    have hn := sh.1
    have hb := sh.2.1
    have ej := nI_toInt (n := j) (by omega)
    rw [g_X8_takeAll_0_5, g_X9_merge_20, show (1 : Int32).toNatClampNeg = 1 from rfl, ← hn]
    by_cases c : dpn ≤ nI j
    · rw [if_pos c, if_pos c]
      exact ⟨hx, hR0.le (by omega)⟩
    · rw [if_neg c, if_neg c]
      dsimp only
      have c2 := c
      simp only [sg_le] at c2
      have hi : 0 ≤ (nI j).toInt ∧ (nI j).toInt < dpn.toInt := by omega
      have hg := sh_get sh hi
      have hjn : (nI j).toInt.toNat = j := by omega
      have hmx : dpn.toInt ≤ 40 := by rw [hn]; exact hb.2
      rw [copyTo_cl (M := 40) hi hmx (by omega) (by rw [hg.1]; exact hg.2.1) r7.1]
      have ei : ((40 : Int32) * (1 : Int32) + nI j).toInt = ((40 * 1 + j : Nat) : Int) := by
        rw [mad_i (k := 40) rfl (by omega) (by decide) (by omega), ej]
        show (40 : Int) * 1 + _ = _
        omega
      have en : ((40 : Int32) * (1 : Int32) + nI j).toNatClampNeg = 40 * 1 + j := by rw [tN, ei]; rfl
      have j1 := J_X9_fromPool ((40 : Int32) * (1 : Int32) + nI j) g F r9 (by rw [ei]; omega)
      have l0 : Fr [10] [9] g F (r_X9_fromPool ((40 : Int32) * (1 : Int32) + nI j) g F).1 (r_X9_fromPool ((40 : Int32) * (1 : Int32) + nI j) g F).2 := by
        rw [cl_fromPool _ g F (b24 (r9.q29 _))]
        exact Fr.v (by decide) (Fr.u (by decide) Fr.refl)
      have hI : IR (dpz (nI j).toNatClampNeg) (cpy (dpz (nI j).toNatClampNeg).toInt.toNat (fun k => dpf (24 * (nI j).toInt.toNat + k)) sf) ((r_X9_fromPool ((40 : Int32) * (1 : Int32) + nI j) g F).1 10) ((r_X9_fromPool ((40 : Int32) * (1 : Int32) + nI j) g F).2 9) := by
        rw [cl_fromPool _ g F (b24 (r9.q29 _))]
        show IR _ _ (F 29 ((40 : Int32) * (1 : Int32) + nI j).toNatClampNeg) (cpy (F 29 ((40 : Int32) * (1 : Int32) + nI j).toNatClampNeg).toInt.toNat (fun k => F 28 ((24 : Int32) * ((40 : Int32) * (1 : Int32) + nI j) + nI k).toNatClampNeg) (F 9))
        rw [en]
        rw [hjn] at hg ⊢
        exact ((tape_of hg _ (fun k hk => by rw [ix24n ei (by omega) hk])).cp2 sf).cp (F 9)
      generalize r_X9_fromPool ((40 : Int32) * (1 : Int32) + nI j) g F = v at j1 l0 hI ⊢
      have m := mg_0 og oF hR0 (by omega) l0 j1 hI
      generalize r_X7_execute og oF pn pf (dpz (nI j).toNatClampNeg) (cpy (dpz (nI j).toNatClampNeg).toInt.toNat (fun k => dpf (24 * (nI j).toInt.toNat + k)) sf) = u at m ⊢
      generalize r_X0_take bcv btr bpn bpf bpz bff bfsn bfsf bfsz u.1 u.2 (dpz (nI j).toNatClampNeg) (cpy (dpz (nI j).toNatClampNeg).toInt.toNat (fun k => dpf (24 * (nI j).toInt.toNat + k)) sf) = r at m ⊢
      generalize r_X9_tries (0 : Int32) v.1 v.2 = t at m ⊢
      rw [nI_1]
      exact ml_p0 hT fu fv (j + 1) _ _ _ _ _ _ _ _ _ _ _ _ _ _ _ t.2.1 t.2.2 (by omega) (by omega) (by omega) (by rw [hx, m.1]) (m.2.1.le (by omega))
theorem ml_f0 {T : Int} {rf : Int32} {pn : Int32} {pf : Nat → Int32} {tn : Int32} {tf : Nat → Int32} {lg : Nat → Int32} {lF : Nat → Nat → Int32} {dcv : Nat → Int32} {dtr : Int32} {dpn : Int32} {dpf : Nat → Int32} {dpz : Nat → Int32} {dff : Nat → Int32} {dfsn : Int32} {dfsf : Nat → Int32} {dfsz : Nat → Int32} {cmn : Int32} {ctn : Int32} {kk : Int32} {knn : Int32} {ktn : Int32} (hT : T ≤ 5000000) : ∀ (fu fv j : Nat) (sn : Int32) (sf og : Nat → Int32) (oF : Nat → Nat → Int32) (bcv : Nat → Int32) (btr : Int32) (bpn : Int32) (bpf : Nat → Int32) (bpz : Nat → Int32) (bff : Nat → Int32) (bfsn : Int32) (bfsf : Nat → Int32) (bfsz : Nat → Int32) (x3 x3r : Int32) (g : Nat → Int32) (F : Nat → Nat → Int32), (dfsn.toInt - j).toNat < fu → 20 - j < fv → j ≤ 20 → x3 = x3r → RR (T + j) rf pn pf tn tf sn lg lF bcv btr bpn bpf bpz bff bfsn bfsf bfsz dcv dtr dpn dpf dpz dff dfsn dfsf dfsz cmn ctn kk knn ktn g F → (g_X8_takeAll_0_5 rf pn pf dfsn dfsf dfsz 20 fu sn sf og oF bcv btr bpn bpf bpz bff bfsn bfsf bfsz x3 (nI j)).1 = (g_X9_merge_61 (0 : Int32) (1 : Int32) fv g F x3r j).1 ∧ RR (T + 20) rf pn pf tn tf ((g_X8_takeAll_0_5 rf pn pf dfsn dfsf dfsz 20 fu sn sf og oF bcv btr bpn bpf bpz bff bfsn bfsf bfsz x3 (nI j)).2.1) lg lF ((g_X8_takeAll_0_5 rf pn pf dfsn dfsf dfsz 20 fu sn sf og oF bcv btr bpn bpf bpz bff bfsn bfsf bfsz x3 (nI j)).2.2.2.2.2.1) ((g_X8_takeAll_0_5 rf pn pf dfsn dfsf dfsz 20 fu sn sf og oF bcv btr bpn bpf bpz bff bfsn bfsf bfsz x3 (nI j)).2.2.2.2.2.2.1) ((g_X8_takeAll_0_5 rf pn pf dfsn dfsf dfsz 20 fu sn sf og oF bcv btr bpn bpf bpz bff bfsn bfsf bfsz x3 (nI j)).2.2.2.2.2.2.2.1) ((g_X8_takeAll_0_5 rf pn pf dfsn dfsf dfsz 20 fu sn sf og oF bcv btr bpn bpf bpz bff bfsn bfsf bfsz x3 (nI j)).2.2.2.2.2.2.2.2.1) ((g_X8_takeAll_0_5 rf pn pf dfsn dfsf dfsz 20 fu sn sf og oF bcv btr bpn bpf bpz bff bfsn bfsf bfsz x3 (nI j)).2.2.2.2.2.2.2.2.2.1) ((g_X8_takeAll_0_5 rf pn pf dfsn dfsf dfsz 20 fu sn sf og oF bcv btr bpn bpf bpz bff bfsn bfsf bfsz x3 (nI j)).2.2.2.2.2.2.2.2.2.2.1) ((g_X8_takeAll_0_5 rf pn pf dfsn dfsf dfsz 20 fu sn sf og oF bcv btr bpn bpf bpz bff bfsn bfsf bfsz x3 (nI j)).2.2.2.2.2.2.2.2.2.2.2.1) ((g_X8_takeAll_0_5 rf pn pf dfsn dfsf dfsz 20 fu sn sf og oF bcv btr bpn bpf bpz bff bfsn bfsf bfsz x3 (nI j)).2.2.2.2.2.2.2.2.2.2.2.2.1) ((g_X8_takeAll_0_5 rf pn pf dfsn dfsf dfsz 20 fu sn sf og oF bcv btr bpn bpf bpz bff bfsn bfsf bfsz x3 (nI j)).2.2.2.2.2.2.2.2.2.2.2.2.2) dcv dtr dpn dpf dpz dff dfsn dfsf dfsz cmn ctn kk knn ktn ((g_X9_merge_61 (0 : Int32) (1 : Int32) fv g F x3r j).2.1) ((g_X9_merge_61 (0 : Int32) (1 : Int32) fv g F x3r j).2.2)
  | 0, _, _, _, _, _, _, _, _, _, _, _, _, _, _, _, _, _, _, _, h, _, _, _, _ => absurd h (Nat.not_lt_zero _)
  | _, 0, _, _, _, _, _, _, _, _, _, _, _, _, _, _, _, _, _, _, _, h, _, _, _ => absurd h (Nat.not_lt_zero _)
  | fu + 1, fv + 1, j, sn, sf, og, oF, bcv, btr, bpn, bpf, bpz, bff, bfsn, bfsf, bfsz, x3, x3r, g, F, h1, h2, hj, hx, hR => by
    have hR0 := hR
    obtain ⟨r1, r2, r3, r4, r5, r6, r7, r8, r9⟩ := hR
    have sh := r6.2.2.1
    have hn := sh.1
    have hb := sh.2.1
    have ej := nI_toInt (n := j) (by omega)
    rw [g_X8_takeAll_0_5, g_X9_merge_61, show (1 : Int32).toNatClampNeg = 1 from rfl, ← hn]
    by_cases c : dfsn ≤ nI j
    · rw [if_pos c, if_pos c]
      exact ⟨hx, hR0.le (by omega)⟩
    · rw [if_neg c, if_neg c]
      dsimp only
      have c2 := c
      simp only [sg_le] at c2
      have hi : 0 ≤ (nI j).toInt ∧ (nI j).toInt < dfsn.toInt := by omega
      have hg := sh_get sh hi
      have hjn : (nI j).toInt.toNat = j := by omega
      have hmx : dfsn.toInt ≤ 20 := by rw [hn]; exact hb.2
      rw [copyTo_cl (M := 20) hi hmx (by omega) (by rw [hg.1]; exact hg.2.1) r7.1]
      have ei : ((20 : Int32) * (1 : Int32) + nI j).toInt = ((20 * 1 + j : Nat) : Int) := by
        rw [mad_i (k := 20) rfl (by omega) (by decide) (by omega), ej]
        show (20 : Int) * 1 + _ = _
        omega
      have en : ((20 : Int32) * (1 : Int32) + nI j).toNatClampNeg = 20 * 1 + j := by rw [tN, ei]; rfl
      have j1 := J_X9_fromFirst ((20 : Int32) * (1 : Int32) + nI j) g F r9 (by rw [ei]; omega)
      have l0 : Fr [10] [9] g F (r_X9_fromFirst ((20 : Int32) * (1 : Int32) + nI j) g F).1 (r_X9_fromFirst ((20 : Int32) * (1 : Int32) + nI j) g F).2 := by
        rw [cl_fromFirst _ g F (b24 (r9.q36 _))]
        exact Fr.v (by decide) (Fr.u (by decide) Fr.refl)
      have hI : IR (dfsz (nI j).toNatClampNeg) (cpy (dfsz (nI j).toNatClampNeg).toInt.toNat (fun k => dfsf (24 * (nI j).toInt.toNat + k)) sf) ((r_X9_fromFirst ((20 : Int32) * (1 : Int32) + nI j) g F).1 10) ((r_X9_fromFirst ((20 : Int32) * (1 : Int32) + nI j) g F).2 9) := by
        rw [cl_fromFirst _ g F (b24 (r9.q36 _))]
        show IR _ _ (F 36 ((20 : Int32) * (1 : Int32) + nI j).toNatClampNeg) (cpy (F 36 ((20 : Int32) * (1 : Int32) + nI j).toNatClampNeg).toInt.toNat (fun k => F 35 ((24 : Int32) * ((20 : Int32) * (1 : Int32) + nI j) + nI k).toNatClampNeg) (F 9))
        rw [en]
        rw [hjn] at hg ⊢
        exact ((tape_of hg _ (fun k hk => by rw [ix24n ei (by omega) hk])).cp2 sf).cp (F 9)
      generalize r_X9_fromFirst ((20 : Int32) * (1 : Int32) + nI j) g F = v at j1 l0 hI ⊢
      have m := mg_0 og oF hR0 (by omega) l0 j1 hI
      generalize r_X7_execute og oF pn pf (dfsz (nI j).toNatClampNeg) (cpy (dfsz (nI j).toNatClampNeg).toInt.toNat (fun k => dfsf (24 * (nI j).toInt.toNat + k)) sf) = u at m ⊢
      generalize r_X0_take bcv btr bpn bpf bpz bff bfsn bfsf bfsz u.1 u.2 (dfsz (nI j).toNatClampNeg) (cpy (dfsz (nI j).toNatClampNeg).toInt.toNat (fun k => dfsf (24 * (nI j).toInt.toNat + k)) sf) = r at m ⊢
      generalize r_X9_tries (0 : Int32) v.1 v.2 = t at m ⊢
      rw [nI_1]
      exact ml_f0 hT fu fv (j + 1) _ _ _ _ _ _ _ _ _ _ _ _ _ _ _ t.2.1 t.2.2 (by omega) (by omega) (by omega) (by rw [hx, m.1]) (m.2.1.le (by omega))
theorem x3_0 (rf pn : Int32) (pf : Nat → Int32) (vn : Int32) (vf vz : Nat → Int32) (VM : Nat) (a : Int32) : ∀ (fu : Nat) (sn : Int32) (sf og : Nat → Int32) (oF : Nat → Nat → Int32) (bcv : Nat → Int32) (btr : Int32) (bpn : Int32) (bpf : Nat → Int32) (bpz : Nat → Int32) (bff : Nat → Int32) (bfsn : Int32) (bfsf : Nat → Int32) (bfsz : Nat → Int32) (x3 x4 : Int32), (vn.toInt - x4.toInt).toNat < fu → g_X8_takeAll_0_5 rf pn pf vn vf vz VM fu sn sf og oF bcv btr bpn bpf bpz bff bfsn bfsf bfsz (a + x3) x4 = (a + (g_X8_takeAll_0_5 rf pn pf vn vf vz VM fu sn sf og oF bcv btr bpn bpf bpz bff bfsn bfsf bfsz x3 x4).1, (g_X8_takeAll_0_5 rf pn pf vn vf vz VM fu sn sf og oF bcv btr bpn bpf bpz bff bfsn bfsf bfsz x3 x4).2)
  | 0, _, _, _, _, _, _, _, _, _, _, _, _, _, _, _, h => absurd h (Nat.not_lt_zero _)
  | fu + 1, sn, sf, og, oF, bcv, btr, bpn, bpf, bpz, bff, bfsn, bfsf, bfsz, x3, x4, h => by
    rw [g_X8_takeAll_0_5, g_X8_takeAll_0_5]
    by_cases c : vn ≤ x4
    · rw [if_pos c, if_pos c]
    · rw [if_neg c, if_neg c]
      dsimp only
      rw [Int32.add_assoc]
      exact x3_0 rf pn pf vn vf vz VM a fu _ _ _ _ _ _ _ _ _ _ _ _ _ _ _ (mu_up c h)
theorem t_merge_0 {T : Int} {rf : Int32} {pn : Int32} {pf : Nat → Int32} {tn : Int32} {tf : Nat → Int32} {sn : Int32} {lg : Nat → Int32} {lF : Nat → Nat → Int32} {bcv : Nat → Int32} {btr : Int32} {bpn : Int32} {bpf : Nat → Int32} {bpz : Nat → Int32} {bff : Nat → Int32} {bfsn : Int32} {bfsf : Nat → Int32} {bfsz : Nat → Int32} {dcv : Nat → Int32} {dtr : Int32} {dpn : Int32} {dpf : Nat → Int32} {dpz : Nat → Int32} {dff : Nat → Int32} {dfsn : Int32} {dfsf : Nat → Int32} {dfsz : Nat → Int32} {cmn : Int32} {ctn : Int32} {kk : Int32} {knn : Int32} {ktn : Int32} {g : Nat → Int32} {F : Nat → Nat → Int32} {sf og : Nat → Int32} {oF : Nat → Nat → Int32} (hR : RR T rf pn pf tn tf sn lg lF bcv btr bpn bpf bpz bff bfsn bfsf bfsz dcv dtr dpn dpf dpz dff dfsn dfsf dfsz cmn ctn kk knn ktn g F) (hT : T ≤ 1000000) : (r_X8_merge_0 rf pn pf sn sf og oF bcv btr bpn bpf bpz bff bfsn bfsf bfsz dcv dtr dpn dpf dpz dff dfsn dfsf dfsz).1 = (r_X9_merge (0 : Int32) g F).1 ∧ RR (T + 60) rf pn pf tn tf ((r_X8_merge_0 rf pn pf sn sf og oF bcv btr bpn bpf bpz bff bfsn bfsf bfsz dcv dtr dpn dpf dpz dff dfsn dfsf dfsz).2.1) lg lF ((r_X8_merge_0 rf pn pf sn sf og oF bcv btr bpn bpf bpz bff bfsn bfsf bfsz dcv dtr dpn dpf dpz dff dfsn dfsf dfsz).2.2.2.2.2.1) ((r_X8_merge_0 rf pn pf sn sf og oF bcv btr bpn bpf bpz bff bfsn bfsf bfsz dcv dtr dpn dpf dpz dff dfsn dfsf dfsz).2.2.2.2.2.2.1) ((r_X8_merge_0 rf pn pf sn sf og oF bcv btr bpn bpf bpz bff bfsn bfsf bfsz dcv dtr dpn dpf dpz dff dfsn dfsf dfsz).2.2.2.2.2.2.2.1) ((r_X8_merge_0 rf pn pf sn sf og oF bcv btr bpn bpf bpz bff bfsn bfsf bfsz dcv dtr dpn dpf dpz dff dfsn dfsf dfsz).2.2.2.2.2.2.2.2.1) ((r_X8_merge_0 rf pn pf sn sf og oF bcv btr bpn bpf bpz bff bfsn bfsf bfsz dcv dtr dpn dpf dpz dff dfsn dfsf dfsz).2.2.2.2.2.2.2.2.2.1) ((r_X8_merge_0 rf pn pf sn sf og oF bcv btr bpn bpf bpz bff bfsn bfsf bfsz dcv dtr dpn dpf dpz dff dfsn dfsf dfsz).2.2.2.2.2.2.2.2.2.2.1) ((r_X8_merge_0 rf pn pf sn sf og oF bcv btr bpn bpf bpz bff bfsn bfsf bfsz dcv dtr dpn dpf dpz dff dfsn dfsf dfsz).2.2.2.2.2.2.2.2.2.2.2.1) ((r_X8_merge_0 rf pn pf sn sf og oF bcv btr bpn bpf bpz bff bfsn bfsf bfsz dcv dtr dpn dpf dpz dff dfsn dfsf dfsz).2.2.2.2.2.2.2.2.2.2.2.2.1) ((r_X8_merge_0 rf pn pf sn sf og oF bcv btr bpn bpf bpz bff bfsn bfsf bfsz dcv dtr dpn dpf dpz dff dfsn dfsf dfsz).2.2.2.2.2.2.2.2.2.2.2.2.2) dcv dtr dpn dpf dpz dff dfsn dfsf dfsz cmn ctn kk knn ktn ((r_X9_merge (0 : Int32) g F).2.1) ((r_X9_merge (0 : Int32) g F).2.2) := by
  obtain ⟨r1, r2, r3, r4, r5, r6, r7, r8, r9⟩ := hR
  have hR0 : RR T rf pn pf tn tf sn lg lF bcv btr bpn bpf bpz bff bfsn bfsf bfsz dcv dtr dpn dpf dpz dff dfsn dfsf dfsz cmn ctn kk knn ktn g F := ⟨r1, r2, r3, r4, r5, r6, r7, r8, r9⟩
  have z : (0 : Int32).toInt = 0 := rfl
  unfold r_X8_merge_0 r_X9_merge r_X8_takeAll_0
  rw [if_neg (show ¬ r_X9_in (0 : Int32) 0 1 = 0 by decide), show (1 : Int32) - (0 : Int32) = 1 from rfl]
  dsimp only
  have m1 := ml_p0 (T := T) (by omega) ((dpn.toInt - (0 : Int32).toInt).toNat + 1) (40 - 0 + 1) 0 sn sf og oF bcv btr bpn bpf bpz bff bfsn bfsf bfsz 0 0 g F (by rw [z]; omega) (by omega) (by omega) rfl (hR0.le (by omega))
  rw [show nI 0 = (0 : Int32) from rfl] at m1
  generalize g_X8_takeAll_0_5 rf pn pf dpn dpf dpz 40 ((dpn.toInt - (0 : Int32).toInt).toNat + 1) sn sf og oF bcv btr bpn bpf bpz bff bfsn bfsf bfsz 0 0 = u at m1 ⊢
  generalize g_X9_merge_20 (0 : Int32) (1 : Int32) (40 - 0 + 1) g F 0 0 = v at m1 ⊢
  have m2 := ml_f0 (T := T + 40) (by omega) ((dfsn.toInt - (0 : Int32).toInt).toNat + 1) (20 - 0 + 1) 0 _ u.2.2.1 u.2.2.2.1 u.2.2.2.2.1 _ _ _ _ _ _ _ _ _ (u.1 + 0) v.2.2.1 v.1 v.2.1 (by rw [z]; omega) (by omega) (by omega) (by rw [add0]; exact m1.1) (m1.2.le (by omega))
  rw [show nI 0 = (0 : Int32) from rfl, x3_0 _ _ _ _ _ _ _ _ _ _ _ _ _ _ _ _ _ _ _ _ _ _ _ _ (by omega)] at m2
  exact ⟨m2.1, m2.2.le (by omega)⟩
theorem mg_1 {T : Int} {rf : Int32} {pn : Int32} {pf : Nat → Int32} {tn : Int32} {tf : Nat → Int32} {sn : Int32} {lg : Nat → Int32} {lF : Nat → Nat → Int32} {bcv : Nat → Int32} {btr : Int32} {bpn : Int32} {bpf : Nat → Int32} {bpz : Nat → Int32} {bff : Nat → Int32} {bfsn : Int32} {bfsf : Nat → Int32} {bfsz : Nat → Int32} {dcv : Nat → Int32} {dtr : Int32} {dpn : Int32} {dpf : Nat → Int32} {dpz : Nat → Int32} {dff : Nat → Int32} {dfsn : Int32} {dfsf : Nat → Int32} {dfsz : Nat → Int32} {cmn : Int32} {ctn : Int32} {kk : Int32} {knn : Int32} {ktn : Int32} {g : Nat → Int32} {F : Nat → Nat → Int32} {un : Int32} {uf : Nat → Int32} {v : (Nat → Int32) × (Nat → Nat → Int32)} (og : Nat → Int32) (oF : Nat → Nat → Int32) (hR : RR T rf pn pf tn tf sn lg lF bcv btr bpn bpf bpz bff bfsn bfsf bfsz dcv dtr dpn dpf dpz dff dfsn dfsf dfsz cmn ctn kk knn ktn g F) (hT : T ≤ 10000000) (l0 : Fr [10] [9] g F v.1 v.2) (j1 : J v.1 v.2) (hI : IR un uf (v.1 10) (v.2 9)) : (r_X0_take dcv dtr dpn dpf dpz dff dfsn dfsf dfsz (r_X7_execute og oF pn pf un uf).1 (r_X7_execute og oF pn pf un uf).2 un uf).1 = (r_X9_tries (1 : Int32) v.1 v.2).1 ∧ RR (T + 1) rf pn pf tn tf (un) lg lF bcv btr bpn bpf bpz bff bfsn bfsf bfsz ((r_X0_take dcv dtr dpn dpf dpz dff dfsn dfsf dfsz (r_X7_execute og oF pn pf un uf).1 (r_X7_execute og oF pn pf un uf).2 un uf).2.1) ((r_X0_take dcv dtr dpn dpf dpz dff dfsn dfsf dfsz (r_X7_execute og oF pn pf un uf).1 (r_X7_execute og oF pn pf un uf).2 un uf).2.2.1) ((r_X0_take dcv dtr dpn dpf dpz dff dfsn dfsf dfsz (r_X7_execute og oF pn pf un uf).1 (r_X7_execute og oF pn pf un uf).2 un uf).2.2.2.1) ((r_X0_take dcv dtr dpn dpf dpz dff dfsn dfsf dfsz (r_X7_execute og oF pn pf un uf).1 (r_X7_execute og oF pn pf un uf).2 un uf).2.2.2.2.1) ((r_X0_take dcv dtr dpn dpf dpz dff dfsn dfsf dfsz (r_X7_execute og oF pn pf un uf).1 (r_X7_execute og oF pn pf un uf).2 un uf).2.2.2.2.2.1) ((r_X0_take dcv dtr dpn dpf dpz dff dfsn dfsf dfsz (r_X7_execute og oF pn pf un uf).1 (r_X7_execute og oF pn pf un uf).2 un uf).2.2.2.2.2.2.1) ((r_X0_take dcv dtr dpn dpf dpz dff dfsn dfsf dfsz (r_X7_execute og oF pn pf un uf).1 (r_X7_execute og oF pn pf un uf).2 un uf).2.2.2.2.2.2.2.1) ((r_X0_take dcv dtr dpn dpf dpz dff dfsn dfsf dfsz (r_X7_execute og oF pn pf un uf).1 (r_X7_execute og oF pn pf un uf).2 un uf).2.2.2.2.2.2.2.2.1) ((r_X0_take dcv dtr dpn dpf dpz dff dfsn dfsf dfsz (r_X7_execute og oF pn pf un uf).1 (r_X7_execute og oF pn pf un uf).2 un uf).2.2.2.2.2.2.2.2.2) cmn ctn kk knn ktn ((r_X9_tries (1 : Int32) v.1 v.2).2.1) ((r_X9_tries (1 : Int32) v.1 v.2).2.2) ∧ OB 1 F (r_X9_tries (1 : Int32) v.1 v.2).2.2 := by
  obtain ⟨r1, r2, r3, r4, r5, r6, r7, r8, r9⟩ := hR
  have f1 : Fr [8, 10, 14, 15, 16, 17, 18, 20, 21, 22, 23, 24, 38, 39] [7, 9, 11, 12, 13, 19, 25, 26, 27, 37] g F v.1 v.2 := l0.mono (by decide) (by decide)
  have jt := J_X9_tries (1 : Int32) v.1 v.2 j1 (by decide)
  rw [tries_eq] at jt ⊢
  have f2 := fr_go v.1 v.2 j1
  have g2 := (goThrough_gt v.1 v.2 j1.p10).1
  have gt := (goThrough_gt v.1 v.2 j1.p10).2.2
  have k2 := go_kept v.1 v.2 j1
  have q1 := exec_sim (r2.fr f1) hI og oF
  generalize r_X7_execute og oF pn pf un uf = u at q1 ⊢
  generalize r_X9_goThrough v.1 v.2 = w at q1 f2 k2 g2 gt jt ⊢
  have f := f1.trans f2
  have tk := take_sim (b := 1) (bi := (1 : Int32)) (un := un) (uf := uf) rfl (by decide) q1 (by rw [k2.2.2.2.1, k2.2.2.2.2.1]; exact hI) (r6.fr (Int.le_refl T) f) gt (by omega)
  generalize trb (1 : Int32) w.1 w.2 = t at tk jt ⊢
  generalize r_X0_take dcv dtr dpn dpf dpz dff dfsn dfsf dfsz u.1 u.2 un uf = r at tk ⊢
  obtain ⟨t1, t2, t3, t4, t5⟩ := tk
  have ot := (r5.fr (Int.le_refl T) f).other (T' := T + 1) (by omega) t4 (by decide) (by decide) (by decide)
  have fo : OB 1 F w.2 := ⟨fun k _ => by rw [f.2 30 (by decide)], fun k _ => by rw [f.2 32 (by decide)], fun k _ => by rw [f.2 33 (by decide)], fun k _ => by rw [f.2 28 (by decide)], fun k _ => by rw [f.2 29 (by decide)], fun k _ => by rw [f.2 31 (by decide)], fun k _ => by rw [f.2 34 (by decide)], fun k _ => by rw [f.2 35 (by decide)], fun k _ => by rw [f.2 36 (by decide)]⟩
  refine ⟨t1, ⟨?_, (r2.fr f).of (by rw [t2]) (t5 1 (by decide)) (t5 2 (by decide)) (t5 3 (by decide)) (t5 4 (by decide)), ?_, ?_, ot, t3, ⟨hI.rng.1, r7.2⟩, ?_, jt⟩, fo.trans t4⟩
  · rw [t2, f.1 6 (by decide)]
    exact r1
  · rw [t2, t5 7 (by decide), k2.1, k2.2.1, l0.1 8 (by decide), l0.2 7 (by decide)]
    exact r3
  · refine (r4.of (l0.1 20 (by decide)) (l0.1 21 (by decide)) (l0.1 22 (by decide)) (l0.1 23 (by decide)) (l0.1 24 (by decide)) (l0.2 25 (by decide)) (l0.2 26 (by decide)) (l0.2 27 (by decide))).of ?_ ?_ ?_ ?_ ?_ ?_ ?_ ?_
    · rw [t2]; exact g2.1 20 (by decide)
    · rw [t2]; exact g2.1 21 (by decide)
    · rw [t2]; exact g2.1 22 (by decide)
    · rw [t2]; exact g2.1 23 (by decide)
    · rw [t2]; exact g2.1 24 (by decide)
    · rw [t5 25 (by decide)]; exact g2.2 25 (by decide)
    · rw [t5 26 (by decide)]; exact g2.2 26 (by decide)
    · rw [t5 27 (by decide)]; exact g2.2 27 (by decide)
  · rw [t2, k2.2.2.1, l0.1 39 (by decide)]
    exact r8
theorem ml_p1 {T : Int} {rf : Int32} {pn : Int32} {pf : Nat → Int32} {tn : Int32} {tf : Nat → Int32} {lg : Nat → Int32} {lF : Nat → Nat → Int32} {bcv : Nat → Int32} {btr : Int32} {bpn : Int32} {bpf : Nat → Int32} {bpz : Nat → Int32} {bff : Nat → Int32} {bfsn : Int32} {bfsf : Nat → Int32} {bfsz : Nat → Int32} {cmn : Int32} {ctn : Int32} {kk : Int32} {knn : Int32} {ktn : Int32} (hT : T ≤ 5000000) : ∀ (fu fv j : Nat) (sn : Int32) (sf og : Nat → Int32) (oF : Nat → Nat → Int32) (dcv : Nat → Int32) (dtr : Int32) (dpn : Int32) (dpf : Nat → Int32) (dpz : Nat → Int32) (dff : Nat → Int32) (dfsn : Int32) (dfsf : Nat → Int32) (dfsz : Nat → Int32) (x3 x3r : Int32) (g : Nat → Int32) (F : Nat → Nat → Int32), (bpn.toInt - j).toNat < fu → 40 - j < fv → j ≤ 40 → x3 = x3r → RR (T + j) rf pn pf tn tf sn lg lF bcv btr bpn bpf bpz bff bfsn bfsf bfsz dcv dtr dpn dpf dpz dff dfsn dfsf dfsz cmn ctn kk knn ktn g F → (g_X8_takeAll_1_5 rf pn pf bpn bpf bpz 40 fu sn sf og oF dcv dtr dpn dpf dpz dff dfsn dfsf dfsz x3 (nI j)).1 = (g_X9_merge_20 (1 : Int32) (0 : Int32) fv g F x3r j).2.2.1 ∧ RR (T + 40) rf pn pf tn tf ((g_X8_takeAll_1_5 rf pn pf bpn bpf bpz 40 fu sn sf og oF dcv dtr dpn dpf dpz dff dfsn dfsf dfsz x3 (nI j)).2.1) lg lF bcv btr bpn bpf bpz bff bfsn bfsf bfsz ((g_X8_takeAll_1_5 rf pn pf bpn bpf bpz 40 fu sn sf og oF dcv dtr dpn dpf dpz dff dfsn dfsf dfsz x3 (nI j)).2.2.2.2.2.1) ((g_X8_takeAll_1_5 rf pn pf bpn bpf bpz 40 fu sn sf og oF dcv dtr dpn dpf dpz dff dfsn dfsf dfsz x3 (nI j)).2.2.2.2.2.2.1) ((g_X8_takeAll_1_5 rf pn pf bpn bpf bpz 40 fu sn sf og oF dcv dtr dpn dpf dpz dff dfsn dfsf dfsz x3 (nI j)).2.2.2.2.2.2.2.1) ((g_X8_takeAll_1_5 rf pn pf bpn bpf bpz 40 fu sn sf og oF dcv dtr dpn dpf dpz dff dfsn dfsf dfsz x3 (nI j)).2.2.2.2.2.2.2.2.1) ((g_X8_takeAll_1_5 rf pn pf bpn bpf bpz 40 fu sn sf og oF dcv dtr dpn dpf dpz dff dfsn dfsf dfsz x3 (nI j)).2.2.2.2.2.2.2.2.2.1) ((g_X8_takeAll_1_5 rf pn pf bpn bpf bpz 40 fu sn sf og oF dcv dtr dpn dpf dpz dff dfsn dfsf dfsz x3 (nI j)).2.2.2.2.2.2.2.2.2.2.1) ((g_X8_takeAll_1_5 rf pn pf bpn bpf bpz 40 fu sn sf og oF dcv dtr dpn dpf dpz dff dfsn dfsf dfsz x3 (nI j)).2.2.2.2.2.2.2.2.2.2.2.1) ((g_X8_takeAll_1_5 rf pn pf bpn bpf bpz 40 fu sn sf og oF dcv dtr dpn dpf dpz dff dfsn dfsf dfsz x3 (nI j)).2.2.2.2.2.2.2.2.2.2.2.2.1) ((g_X8_takeAll_1_5 rf pn pf bpn bpf bpz 40 fu sn sf og oF dcv dtr dpn dpf dpz dff dfsn dfsf dfsz x3 (nI j)).2.2.2.2.2.2.2.2.2.2.2.2.2) cmn ctn kk knn ktn ((g_X9_merge_20 (1 : Int32) (0 : Int32) fv g F x3r j).1) ((g_X9_merge_20 (1 : Int32) (0 : Int32) fv g F x3r j).2.1)
  | 0, _, _, _, _, _, _, _, _, _, _, _, _, _, _, _, _, _, _, _, h, _, _, _, _ => absurd h (Nat.not_lt_zero _)
  | _, 0, _, _, _, _, _, _, _, _, _, _, _, _, _, _, _, _, _, _, _, h, _, _, _ => absurd h (Nat.not_lt_zero _)
  | fu + 1, fv + 1, j, sn, sf, og, oF, dcv, dtr, dpn, dpf, dpz, dff, dfsn, dfsf, dfsz, x3, x3r, g, F, h1, h2, hj, hx, hR => by
    have hR0 := hR
    obtain ⟨r1, r2, r3, r4, r5, r6, r7, r8, r9⟩ := hR
    have sh := r5.2.1
    have hn := sh.1
    have hb := sh.2.1
    have ej := nI_toInt (n := j) (by omega)
    rw [g_X8_takeAll_1_5, g_X9_merge_20, show (0 : Int32).toNatClampNeg = 0 from rfl, ← hn]
    by_cases c : bpn ≤ nI j
    · rw [if_pos c, if_pos c]
      exact ⟨hx, hR0.le (by omega)⟩
    · rw [if_neg c, if_neg c]
      dsimp only
      have c2 := c
      simp only [sg_le] at c2
      have hi : 0 ≤ (nI j).toInt ∧ (nI j).toInt < bpn.toInt := by omega
      have hg := sh_get sh hi
      have hjn : (nI j).toInt.toNat = j := by omega
      have hmx : bpn.toInt ≤ 40 := by rw [hn]; exact hb.2
      rw [copyTo_cl (M := 40) hi hmx (by omega) (by rw [hg.1]; exact hg.2.1) r7.1]
      have ei : ((40 : Int32) * (0 : Int32) + nI j).toInt = ((40 * 0 + j : Nat) : Int) := by
        rw [mad_i (k := 40) rfl (by omega) (by decide) (by omega), ej]
        show (40 : Int) * 0 + _ = _
        omega
      have en : ((40 : Int32) * (0 : Int32) + nI j).toNatClampNeg = 40 * 0 + j := by rw [tN, ei]; rfl
      have j1 := J_X9_fromPool ((40 : Int32) * (0 : Int32) + nI j) g F r9 (by rw [ei]; omega)
      have l0 : Fr [10] [9] g F (r_X9_fromPool ((40 : Int32) * (0 : Int32) + nI j) g F).1 (r_X9_fromPool ((40 : Int32) * (0 : Int32) + nI j) g F).2 := by
        rw [cl_fromPool _ g F (b24 (r9.q29 _))]
        exact Fr.v (by decide) (Fr.u (by decide) Fr.refl)
      have hI : IR (bpz (nI j).toNatClampNeg) (cpy (bpz (nI j).toNatClampNeg).toInt.toNat (fun k => bpf (24 * (nI j).toInt.toNat + k)) sf) ((r_X9_fromPool ((40 : Int32) * (0 : Int32) + nI j) g F).1 10) ((r_X9_fromPool ((40 : Int32) * (0 : Int32) + nI j) g F).2 9) := by
        rw [cl_fromPool _ g F (b24 (r9.q29 _))]
        show IR _ _ (F 29 ((40 : Int32) * (0 : Int32) + nI j).toNatClampNeg) (cpy (F 29 ((40 : Int32) * (0 : Int32) + nI j).toNatClampNeg).toInt.toNat (fun k => F 28 ((24 : Int32) * ((40 : Int32) * (0 : Int32) + nI j) + nI k).toNatClampNeg) (F 9))
        rw [en]
        rw [hjn] at hg ⊢
        exact ((tape_of hg _ (fun k hk => by rw [ix24n ei (by omega) hk])).cp2 sf).cp (F 9)
      generalize r_X9_fromPool ((40 : Int32) * (0 : Int32) + nI j) g F = v at j1 l0 hI ⊢
      have m := mg_1 og oF hR0 (by omega) l0 j1 hI
      generalize r_X7_execute og oF pn pf (bpz (nI j).toNatClampNeg) (cpy (bpz (nI j).toNatClampNeg).toInt.toNat (fun k => bpf (24 * (nI j).toInt.toNat + k)) sf) = u at m ⊢
      generalize r_X0_take dcv dtr dpn dpf dpz dff dfsn dfsf dfsz u.1 u.2 (bpz (nI j).toNatClampNeg) (cpy (bpz (nI j).toNatClampNeg).toInt.toNat (fun k => bpf (24 * (nI j).toInt.toNat + k)) sf) = r at m ⊢
      generalize r_X9_tries (1 : Int32) v.1 v.2 = t at m ⊢
      rw [nI_1]
      exact ml_p1 hT fu fv (j + 1) _ _ _ _ _ _ _ _ _ _ _ _ _ _ _ t.2.1 t.2.2 (by omega) (by omega) (by omega) (by rw [hx, m.1]) (m.2.1.le (by omega))
theorem ml_f1 {T : Int} {rf : Int32} {pn : Int32} {pf : Nat → Int32} {tn : Int32} {tf : Nat → Int32} {lg : Nat → Int32} {lF : Nat → Nat → Int32} {bcv : Nat → Int32} {btr : Int32} {bpn : Int32} {bpf : Nat → Int32} {bpz : Nat → Int32} {bff : Nat → Int32} {bfsn : Int32} {bfsf : Nat → Int32} {bfsz : Nat → Int32} {cmn : Int32} {ctn : Int32} {kk : Int32} {knn : Int32} {ktn : Int32} (hT : T ≤ 5000000) : ∀ (fu fv j : Nat) (sn : Int32) (sf og : Nat → Int32) (oF : Nat → Nat → Int32) (dcv : Nat → Int32) (dtr : Int32) (dpn : Int32) (dpf : Nat → Int32) (dpz : Nat → Int32) (dff : Nat → Int32) (dfsn : Int32) (dfsf : Nat → Int32) (dfsz : Nat → Int32) (x3 x3r : Int32) (g : Nat → Int32) (F : Nat → Nat → Int32), (bfsn.toInt - j).toNat < fu → 20 - j < fv → j ≤ 20 → x3 = x3r → RR (T + j) rf pn pf tn tf sn lg lF bcv btr bpn bpf bpz bff bfsn bfsf bfsz dcv dtr dpn dpf dpz dff dfsn dfsf dfsz cmn ctn kk knn ktn g F → (g_X8_takeAll_1_5 rf pn pf bfsn bfsf bfsz 20 fu sn sf og oF dcv dtr dpn dpf dpz dff dfsn dfsf dfsz x3 (nI j)).1 = (g_X9_merge_61 (1 : Int32) (0 : Int32) fv g F x3r j).1 ∧ RR (T + 20) rf pn pf tn tf ((g_X8_takeAll_1_5 rf pn pf bfsn bfsf bfsz 20 fu sn sf og oF dcv dtr dpn dpf dpz dff dfsn dfsf dfsz x3 (nI j)).2.1) lg lF bcv btr bpn bpf bpz bff bfsn bfsf bfsz ((g_X8_takeAll_1_5 rf pn pf bfsn bfsf bfsz 20 fu sn sf og oF dcv dtr dpn dpf dpz dff dfsn dfsf dfsz x3 (nI j)).2.2.2.2.2.1) ((g_X8_takeAll_1_5 rf pn pf bfsn bfsf bfsz 20 fu sn sf og oF dcv dtr dpn dpf dpz dff dfsn dfsf dfsz x3 (nI j)).2.2.2.2.2.2.1) ((g_X8_takeAll_1_5 rf pn pf bfsn bfsf bfsz 20 fu sn sf og oF dcv dtr dpn dpf dpz dff dfsn dfsf dfsz x3 (nI j)).2.2.2.2.2.2.2.1) ((g_X8_takeAll_1_5 rf pn pf bfsn bfsf bfsz 20 fu sn sf og oF dcv dtr dpn dpf dpz dff dfsn dfsf dfsz x3 (nI j)).2.2.2.2.2.2.2.2.1) ((g_X8_takeAll_1_5 rf pn pf bfsn bfsf bfsz 20 fu sn sf og oF dcv dtr dpn dpf dpz dff dfsn dfsf dfsz x3 (nI j)).2.2.2.2.2.2.2.2.2.1) ((g_X8_takeAll_1_5 rf pn pf bfsn bfsf bfsz 20 fu sn sf og oF dcv dtr dpn dpf dpz dff dfsn dfsf dfsz x3 (nI j)).2.2.2.2.2.2.2.2.2.2.1) ((g_X8_takeAll_1_5 rf pn pf bfsn bfsf bfsz 20 fu sn sf og oF dcv dtr dpn dpf dpz dff dfsn dfsf dfsz x3 (nI j)).2.2.2.2.2.2.2.2.2.2.2.1) ((g_X8_takeAll_1_5 rf pn pf bfsn bfsf bfsz 20 fu sn sf og oF dcv dtr dpn dpf dpz dff dfsn dfsf dfsz x3 (nI j)).2.2.2.2.2.2.2.2.2.2.2.2.1) ((g_X8_takeAll_1_5 rf pn pf bfsn bfsf bfsz 20 fu sn sf og oF dcv dtr dpn dpf dpz dff dfsn dfsf dfsz x3 (nI j)).2.2.2.2.2.2.2.2.2.2.2.2.2) cmn ctn kk knn ktn ((g_X9_merge_61 (1 : Int32) (0 : Int32) fv g F x3r j).2.1) ((g_X9_merge_61 (1 : Int32) (0 : Int32) fv g F x3r j).2.2)
  | 0, _, _, _, _, _, _, _, _, _, _, _, _, _, _, _, _, _, _, _, h, _, _, _, _ => absurd h (Nat.not_lt_zero _)
  | _, 0, _, _, _, _, _, _, _, _, _, _, _, _, _, _, _, _, _, _, _, h, _, _, _ => absurd h (Nat.not_lt_zero _)
  | fu + 1, fv + 1, j, sn, sf, og, oF, dcv, dtr, dpn, dpf, dpz, dff, dfsn, dfsf, dfsz, x3, x3r, g, F, h1, h2, hj, hx, hR => by
    have hR0 := hR
    obtain ⟨r1, r2, r3, r4, r5, r6, r7, r8, r9⟩ := hR
    have sh := r5.2.2.1
    have hn := sh.1
    have hb := sh.2.1
    have ej := nI_toInt (n := j) (by omega)
    rw [g_X8_takeAll_1_5, g_X9_merge_61, show (0 : Int32).toNatClampNeg = 0 from rfl, ← hn]
    by_cases c : bfsn ≤ nI j
    · rw [if_pos c, if_pos c]
      exact ⟨hx, hR0.le (by omega)⟩
    · rw [if_neg c, if_neg c]
      dsimp only
      have c2 := c
      simp only [sg_le] at c2
      have hi : 0 ≤ (nI j).toInt ∧ (nI j).toInt < bfsn.toInt := by omega
      have hg := sh_get sh hi
      have hjn : (nI j).toInt.toNat = j := by omega
      have hmx : bfsn.toInt ≤ 20 := by rw [hn]; exact hb.2
      rw [copyTo_cl (M := 20) hi hmx (by omega) (by rw [hg.1]; exact hg.2.1) r7.1]
      have ei : ((20 : Int32) * (0 : Int32) + nI j).toInt = ((20 * 0 + j : Nat) : Int) := by
        rw [mad_i (k := 20) rfl (by omega) (by decide) (by omega), ej]
        show (20 : Int) * 0 + _ = _
        omega
      have en : ((20 : Int32) * (0 : Int32) + nI j).toNatClampNeg = 20 * 0 + j := by rw [tN, ei]; rfl
      have j1 := J_X9_fromFirst ((20 : Int32) * (0 : Int32) + nI j) g F r9 (by rw [ei]; omega)
      have l0 : Fr [10] [9] g F (r_X9_fromFirst ((20 : Int32) * (0 : Int32) + nI j) g F).1 (r_X9_fromFirst ((20 : Int32) * (0 : Int32) + nI j) g F).2 := by
        rw [cl_fromFirst _ g F (b24 (r9.q36 _))]
        exact Fr.v (by decide) (Fr.u (by decide) Fr.refl)
      have hI : IR (bfsz (nI j).toNatClampNeg) (cpy (bfsz (nI j).toNatClampNeg).toInt.toNat (fun k => bfsf (24 * (nI j).toInt.toNat + k)) sf) ((r_X9_fromFirst ((20 : Int32) * (0 : Int32) + nI j) g F).1 10) ((r_X9_fromFirst ((20 : Int32) * (0 : Int32) + nI j) g F).2 9) := by
        rw [cl_fromFirst _ g F (b24 (r9.q36 _))]
        show IR _ _ (F 36 ((20 : Int32) * (0 : Int32) + nI j).toNatClampNeg) (cpy (F 36 ((20 : Int32) * (0 : Int32) + nI j).toNatClampNeg).toInt.toNat (fun k => F 35 ((24 : Int32) * ((20 : Int32) * (0 : Int32) + nI j) + nI k).toNatClampNeg) (F 9))
        rw [en]
        rw [hjn] at hg ⊢
        exact ((tape_of hg _ (fun k hk => by rw [ix24n ei (by omega) hk])).cp2 sf).cp (F 9)
      generalize r_X9_fromFirst ((20 : Int32) * (0 : Int32) + nI j) g F = v at j1 l0 hI ⊢
      have m := mg_1 og oF hR0 (by omega) l0 j1 hI
      generalize r_X7_execute og oF pn pf (bfsz (nI j).toNatClampNeg) (cpy (bfsz (nI j).toNatClampNeg).toInt.toNat (fun k => bfsf (24 * (nI j).toInt.toNat + k)) sf) = u at m ⊢
      generalize r_X0_take dcv dtr dpn dpf dpz dff dfsn dfsf dfsz u.1 u.2 (bfsz (nI j).toNatClampNeg) (cpy (bfsz (nI j).toNatClampNeg).toInt.toNat (fun k => bfsf (24 * (nI j).toInt.toNat + k)) sf) = r at m ⊢
      generalize r_X9_tries (1 : Int32) v.1 v.2 = t at m ⊢
      rw [nI_1]
      exact ml_f1 hT fu fv (j + 1) _ _ _ _ _ _ _ _ _ _ _ _ _ _ _ t.2.1 t.2.2 (by omega) (by omega) (by omega) (by rw [hx, m.1]) (m.2.1.le (by omega))
theorem x3_1 (rf pn : Int32) (pf : Nat → Int32) (vn : Int32) (vf vz : Nat → Int32) (VM : Nat) (a : Int32) : ∀ (fu : Nat) (sn : Int32) (sf og : Nat → Int32) (oF : Nat → Nat → Int32) (dcv : Nat → Int32) (dtr : Int32) (dpn : Int32) (dpf : Nat → Int32) (dpz : Nat → Int32) (dff : Nat → Int32) (dfsn : Int32) (dfsf : Nat → Int32) (dfsz : Nat → Int32) (x3 x4 : Int32), (vn.toInt - x4.toInt).toNat < fu → g_X8_takeAll_1_5 rf pn pf vn vf vz VM fu sn sf og oF dcv dtr dpn dpf dpz dff dfsn dfsf dfsz (a + x3) x4 = (a + (g_X8_takeAll_1_5 rf pn pf vn vf vz VM fu sn sf og oF dcv dtr dpn dpf dpz dff dfsn dfsf dfsz x3 x4).1, (g_X8_takeAll_1_5 rf pn pf vn vf vz VM fu sn sf og oF dcv dtr dpn dpf dpz dff dfsn dfsf dfsz x3 x4).2)
  | 0, _, _, _, _, _, _, _, _, _, _, _, _, _, _, _, h => absurd h (Nat.not_lt_zero _)
  | fu + 1, sn, sf, og, oF, dcv, dtr, dpn, dpf, dpz, dff, dfsn, dfsf, dfsz, x3, x4, h => by
    rw [g_X8_takeAll_1_5, g_X8_takeAll_1_5]
    by_cases c : vn ≤ x4
    · rw [if_pos c, if_pos c]
    · rw [if_neg c, if_neg c]
      dsimp only
      rw [Int32.add_assoc]
      exact x3_1 rf pn pf vn vf vz VM a fu _ _ _ _ _ _ _ _ _ _ _ _ _ _ _ (mu_up c h)
theorem t_merge_1 {T : Int} {rf : Int32} {pn : Int32} {pf : Nat → Int32} {tn : Int32} {tf : Nat → Int32} {sn : Int32} {lg : Nat → Int32} {lF : Nat → Nat → Int32} {bcv : Nat → Int32} {btr : Int32} {bpn : Int32} {bpf : Nat → Int32} {bpz : Nat → Int32} {bff : Nat → Int32} {bfsn : Int32} {bfsf : Nat → Int32} {bfsz : Nat → Int32} {dcv : Nat → Int32} {dtr : Int32} {dpn : Int32} {dpf : Nat → Int32} {dpz : Nat → Int32} {dff : Nat → Int32} {dfsn : Int32} {dfsf : Nat → Int32} {dfsz : Nat → Int32} {cmn : Int32} {ctn : Int32} {kk : Int32} {knn : Int32} {ktn : Int32} {g : Nat → Int32} {F : Nat → Nat → Int32} {sf og : Nat → Int32} {oF : Nat → Nat → Int32} (hR : RR T rf pn pf tn tf sn lg lF bcv btr bpn bpf bpz bff bfsn bfsf bfsz dcv dtr dpn dpf dpz dff dfsn dfsf dfsz cmn ctn kk knn ktn g F) (hT : T ≤ 1000000) : (r_X8_merge_1 rf pn pf sn sf og oF bcv btr bpn bpf bpz bff bfsn bfsf bfsz dcv dtr dpn dpf dpz dff dfsn dfsf dfsz).1 = (r_X9_merge (1 : Int32) g F).1 ∧ RR (T + 60) rf pn pf tn tf ((r_X8_merge_1 rf pn pf sn sf og oF bcv btr bpn bpf bpz bff bfsn bfsf bfsz dcv dtr dpn dpf dpz dff dfsn dfsf dfsz).2.1) lg lF bcv btr bpn bpf bpz bff bfsn bfsf bfsz ((r_X8_merge_1 rf pn pf sn sf og oF bcv btr bpn bpf bpz bff bfsn bfsf bfsz dcv dtr dpn dpf dpz dff dfsn dfsf dfsz).2.2.2.2.2.1) ((r_X8_merge_1 rf pn pf sn sf og oF bcv btr bpn bpf bpz bff bfsn bfsf bfsz dcv dtr dpn dpf dpz dff dfsn dfsf dfsz).2.2.2.2.2.2.1) ((r_X8_merge_1 rf pn pf sn sf og oF bcv btr bpn bpf bpz bff bfsn bfsf bfsz dcv dtr dpn dpf dpz dff dfsn dfsf dfsz).2.2.2.2.2.2.2.1) ((r_X8_merge_1 rf pn pf sn sf og oF bcv btr bpn bpf bpz bff bfsn bfsf bfsz dcv dtr dpn dpf dpz dff dfsn dfsf dfsz).2.2.2.2.2.2.2.2.1) ((r_X8_merge_1 rf pn pf sn sf og oF bcv btr bpn bpf bpz bff bfsn bfsf bfsz dcv dtr dpn dpf dpz dff dfsn dfsf dfsz).2.2.2.2.2.2.2.2.2.1) ((r_X8_merge_1 rf pn pf sn sf og oF bcv btr bpn bpf bpz bff bfsn bfsf bfsz dcv dtr dpn dpf dpz dff dfsn dfsf dfsz).2.2.2.2.2.2.2.2.2.2.1) ((r_X8_merge_1 rf pn pf sn sf og oF bcv btr bpn bpf bpz bff bfsn bfsf bfsz dcv dtr dpn dpf dpz dff dfsn dfsf dfsz).2.2.2.2.2.2.2.2.2.2.2.1) ((r_X8_merge_1 rf pn pf sn sf og oF bcv btr bpn bpf bpz bff bfsn bfsf bfsz dcv dtr dpn dpf dpz dff dfsn dfsf dfsz).2.2.2.2.2.2.2.2.2.2.2.2.1) ((r_X8_merge_1 rf pn pf sn sf og oF bcv btr bpn bpf bpz bff bfsn bfsf bfsz dcv dtr dpn dpf dpz dff dfsn dfsf dfsz).2.2.2.2.2.2.2.2.2.2.2.2.2) cmn ctn kk knn ktn ((r_X9_merge (1 : Int32) g F).2.1) ((r_X9_merge (1 : Int32) g F).2.2) := by
  obtain ⟨r1, r2, r3, r4, r5, r6, r7, r8, r9⟩ := hR
  have hR0 : RR T rf pn pf tn tf sn lg lF bcv btr bpn bpf bpz bff bfsn bfsf bfsz dcv dtr dpn dpf dpz dff dfsn dfsf dfsz cmn ctn kk knn ktn g F := ⟨r1, r2, r3, r4, r5, r6, r7, r8, r9⟩
  have z : (0 : Int32).toInt = 0 := rfl
  unfold r_X8_merge_1 r_X9_merge r_X8_takeAll_1
  rw [if_neg (show ¬ r_X9_in (1 : Int32) 0 1 = 0 by decide), show (1 : Int32) - (1 : Int32) = 0 from rfl]
  dsimp only
  have m1 := ml_p1 (T := T) (by omega) ((bpn.toInt - (0 : Int32).toInt).toNat + 1) (40 - 0 + 1) 0 sn sf og oF dcv dtr dpn dpf dpz dff dfsn dfsf dfsz 0 0 g F (by rw [z]; omega) (by omega) (by omega) rfl (hR0.le (by omega))
  rw [show nI 0 = (0 : Int32) from rfl] at m1
  generalize g_X8_takeAll_1_5 rf pn pf bpn bpf bpz 40 ((bpn.toInt - (0 : Int32).toInt).toNat + 1) sn sf og oF dcv dtr dpn dpf dpz dff dfsn dfsf dfsz 0 0 = u at m1 ⊢
  generalize g_X9_merge_20 (1 : Int32) (0 : Int32) (40 - 0 + 1) g F 0 0 = v at m1 ⊢
  have m2 := ml_f1 (T := T + 40) (by omega) ((bfsn.toInt - (0 : Int32).toInt).toNat + 1) (20 - 0 + 1) 0 _ u.2.2.1 u.2.2.2.1 u.2.2.2.2.1 _ _ _ _ _ _ _ _ _ (u.1 + 0) v.2.2.1 v.1 v.2.1 (by rw [z]; omega) (by omega) (by omega) (by rw [add0]; exact m1.1) (m1.2.le (by omega))
  rw [show nI 0 = (0 : Int32) from rfl, x3_1 _ _ _ _ _ _ _ _ _ _ _ _ _ _ _ _ _ _ _ _ _ _ _ _ (by omega)] at m2
  exact ⟨m2.1, m2.2.le (by omega)⟩
