theorem RR.scr {T : Int} {rf : Int32} {pn : Int32} {pf : Nat → Int32} {tn : Int32} {tf : Nat → Int32} {sn : Int32} {lg : Nat → Int32} {lF : Nat → Nat → Int32} {bcv : Nat → Int32} {btr : Int32} {bpn : Int32} {bpf : Nat → Int32} {bpz : Nat → Int32} {bff : Nat → Int32} {bfsn : Int32} {bfsf : Nat → Int32} {bfsz : Nat → Int32} {dcv : Nat → Int32} {dtr : Int32} {dpn : Int32} {dpf : Nat → Int32} {dpz : Nat → Int32} {dff : Nat → Int32} {dfsn : Int32} {dfsf : Nat → Int32} {dfsz : Nat → Int32} {cmn : Int32} {ctn : Int32} {kk : Int32} {knn : Int32} {ktn : Int32} {g : Nat → Int32} {F : Nat → Nat → Int32} {sn2 : Int32} {g2 : Nat → Int32} {F2 : Nat → Nat → Int32} (hR : RR T rf pn pf tn tf sn lg lF bcv btr bpn bpf bpz bff bfsn bfsf bfsz dcv dtr dpn dpf dpz dff dfsn dfsf dfsz cmn ctn kk knn ktn g F) (f : Fr [10, 14, 15, 16, 17, 18, 38] [9, 11, 12, 13, 19, 37] g F g2 F2) (hJ : J g2 F2) (hs : 0 ≤ sn2.toInt) : RR T rf pn pf tn tf (sn2) lg lF bcv btr bpn bpf bpz bff bfsn bfsf bfsz dcv dtr dpn dpf dpz dff dfsn dfsf dfsz cmn ctn kk knn ktn g2 F2 := by
  obtain ⟨r1, r2, r3, r4, r5, r6, r7, r8, r9⟩ := hR
  have f2 : Fr [8, 10, 14, 15, 16, 17, 18, 20, 21, 22, 23, 24, 38, 39] [7, 9, 11, 12, 13, 19, 25, 26, 27, 37] g F g2 F2 := f.mono (by decide) (by decide)
  refine ⟨by rw [f.1 6 (by decide)]; exact r1, r2.fr f2, by rw [f.1 8 (by decide), f.2 7 (by decide)]; exact r3, r4.of (f.1 20 (by decide)) (f.1 21 (by decide)) (f.1 22 (by decide)) (f.1 23 (by decide)) (f.1 24 (by decide)) (f.2 25 (by decide)) (f.2 26 (by decide)) (f.2 27 (by decide)), r5.fr (Int.le_refl _) f2, r6.fr (Int.le_refl _) f2, ⟨hs, r7.2⟩, by rw [f.1 39 (by decide)]; exact r8, hJ⟩
theorem RR.le {T : Int} {rf : Int32} {pn : Int32} {pf : Nat → Int32} {tn : Int32} {tf : Nat → Int32} {sn : Int32} {lg : Nat → Int32} {lF : Nat → Nat → Int32} {bcv : Nat → Int32} {btr : Int32} {bpn : Int32} {bpf : Nat → Int32} {bpz : Nat → Int32} {bff : Nat → Int32} {bfsn : Int32} {bfsf : Nat → Int32} {bfsz : Nat → Int32} {dcv : Nat → Int32} {dtr : Int32} {dpn : Int32} {dpf : Nat → Int32} {dpz : Nat → Int32} {dff : Nat → Int32} {dfsn : Int32} {dfsf : Nat → Int32} {dfsz : Nat → Int32} {cmn : Int32} {ctn : Int32} {kk : Int32} {knn : Int32} {ktn : Int32} {g : Nat → Int32} {F : Nat → Nat → Int32} {T2 : Int} (hR : RR T rf pn pf tn tf sn lg lF bcv btr bpn bpf bpz bff bfsn bfsf bfsz dcv dtr dpn dpf dpz dff dfsn dfsf dfsz cmn ctn kk knn ktn g F) (h : T ≤ T2) : RR (T2) rf pn pf tn tf sn lg lF bcv btr bpn bpf bpz bff bfsn bfsf bfsz dcv dtr dpn dpf dpz dff dfsn dfsf dfsz cmn ctn kk knn ktn g F := by
  obtain ⟨r1, r2, r3, r4, r5, r6, r7, r8, r9⟩ := hR
  exact ⟨r1, r2, r3, r4, r5.le h, r6.le h, r7, r8, r9⟩
theorem RR.tape {T : Int} {rf : Int32} {pn : Int32} {pf : Nat → Int32} {tn : Int32} {tf : Nat → Int32} {sn : Int32} {lg : Nat → Int32} {lF : Nat → Nat → Int32} {bcv : Nat → Int32} {btr : Int32} {bpn : Int32} {bpf : Nat → Int32} {bpz : Nat → Int32} {bff : Nat → Int32} {bfsn : Int32} {bfsf : Nat → Int32} {bfsz : Nat → Int32} {dcv : Nat → Int32} {dtr : Int32} {dpn : Int32} {dpf : Nat → Int32} {dpz : Nat → Int32} {dff : Nat → Int32} {dfsn : Int32} {dfsf : Nat → Int32} {dfsz : Nat → Int32} {cmn : Int32} {ctn : Int32} {kk : Int32} {knn : Int32} {ktn : Int32} {g : Nat → Int32} {F : Nat → Nat → Int32} {tn2 : Int32} {tf2 : Nat → Int32} {g2 : Nat → Int32} {F2 : Nat → Nat → Int32} (hR : RR T rf pn pf tn tf sn lg lF bcv btr bpn bpf bpz bff bfsn bfsf bfsz dcv dtr dpn dpf dpz dff dfsn dfsf dfsz cmn ctn kk knn ktn g F) (f : Fr [8] [7] g F g2 F2) (hJ : J g2 F2) (hI : IR tn2 tf2 (g2 8) (F2 7)) : RR T rf pn pf (tn2) (tf2) sn lg lF bcv btr bpn bpf bpz bff bfsn bfsf bfsz dcv dtr dpn dpf dpz dff dfsn dfsf dfsz cmn ctn kk knn ktn g2 F2 := by
  obtain ⟨r1, r2, r3, r4, r5, r6, r7, r8, r9⟩ := hR
  have f2 : Fr [8, 10, 14, 15, 16, 17, 18, 20, 21, 22, 23, 24, 38, 39] [7, 9, 11, 12, 13, 19, 25, 26, 27, 37] g F g2 F2 := f.mono (by decide) (by decide)
  refine ⟨by rw [f.1 6 (by decide)]; exact r1, r2.fr f2, hI, r4.of (f.1 20 (by decide)) (f.1 21 (by decide)) (f.1 22 (by decide)) (f.1 23 (by decide)) (f.1 24 (by decide)) (f.2 25 (by decide)) (f.2 26 (by decide)) (f.2 27 (by decide)), r5.fr (Int.le_refl _) f2, r6.fr (Int.le_refl _) f2, r7, by rw [f.1 39 (by decide)]; exact r8, hJ⟩
/-- the small inputs, run in both -/
theorem single_sim {pn : Int32} {pf : Nat → Int32} {g : Nat → Int32} {F : Nat → Nat → Int32} (hP : PR pn pf g F) (hJ : J g F) {sn : Int32} (hs : 0 ≤ sn.toInt) (rf : Int32) (sf og : Nat → Int32) (oF : Nat → Nat → Int32) {j : Nat} (hj : j < 257) : TR (r_X8_probeSmallInput (nI j) rf pn pf sn sf og oF).2.2.1 (r_X8_probeSmallInput (nI j) rf pn pf sn sf og oF).2.2.2 (r_X9_single (nI j - 1) g F).1 (r_X9_single (nI j - 1) g F).2 ∧ IR (r_X8_probeSmallInput (nI j) rf pn pf sn sf og oF).1 (r_X8_probeSmallInput (nI j) rf pn pf sn sf og oF).2.1 ((r_X9_single (nI j - 1) g F).1 10) ((r_X9_single (nI j - 1) g F).2 9) ∧ Fr [10, 14, 15, 16, 17, 18, 38] [9, 11, 12, 13, 19, 37] g F (r_X9_single (nI j - 1) g F).1 (r_X9_single (nI j - 1) g F).2 := by
  have ej := nI_toInt (n := j) (by omega)
  have e1 : (1 : Int32).toInt = 1 := rfl
  have z : (0 : Int32).toInt = 0 := rfl
  have es : (nI j - 1).toInt = j - 1 := by rw [fb_subI (by rw [e1]; omega) (by rw [e1]; omega), e1, ej]
  unfold r_X8_probeSmallInput r_X9_single
  dsimp only
  rw [sh_0 hs]
  by_cases c : j = 0
  · rw [if_pos (show nI j ≤ 0 by simp only [sg_le]; omega), if_neg (show ¬ (0 : Int32) ≤ nI j - 1 by simp only [sg_le]; omega)]
    have hJ2 : J (upd g 10 (0 : Int32)) (va_up F 9 (upd (F 9) 0 (0 : Int32))) := (hJ.s10 _ (by decide)).v 9 _ (by decide)
    have hI : IR (0 : Int32) sf ((upd g 10 (0 : Int32)) 10) ((va_up F 9 (upd (F 9) 0 (0 : Int32))) 9) := ⟨rfl, by rw [upd_s]; decide, fun k hk => by
      rw [upd_s, z] at hk
      omega⟩
    have hP2 : PR pn pf (upd g 10 (0 : Int32)) (va_up F 9 (upd (F 9) 0 (0 : Int32))) := hP.of rfl rfl rfl rfl rfl
    have t := exec_sim hP2 hI og oF
    have k := go_kept _ _ hJ2
    have f : Fr [10, 14, 15, 16, 17, 18, 38] [9, 11, 12, 13, 19, 37] g F (upd g 10 (0 : Int32)) (va_up F 9 (upd (F 9) 0 (0 : Int32))) := Fr.v (by decide) (Fr.u (by decide) Fr.refl)
    have f2 := (goThrough_gt (upd g 10 (0 : Int32)) (va_up F 9 (upd (F 9) 0 (0 : Int32))) hJ2.p10).1
    generalize r_X7_execute og oF pn pf 0 sf = eu at t ⊢
    generalize r_X9_goThrough (upd g 10 (0 : Int32)) (va_up F 9 (upd (F 9) 0 (0 : Int32))) = gv at t k f2 ⊢
    exact ⟨t, by rw [k.2.2.2.1, k.2.2.2.2.1]; exact hI, f.trans (f2.mono (by decide) (by decide))⟩
  · rw [if_neg (show ¬ nI j ≤ 0 by simp only [sg_le]; omega), if_pos (show (0 : Int32) ≤ nI j - 1 by simp only [sg_le]; omega), ap_lt (n := 0) (by decide)]
    have hJ2 : J (upd g 10 (1 : Int32)) (va_up F 9 (upd (F 9) 0 (nI j - 1))) := (hJ.s10 _ (by decide)).v 9 _ (by decide)
    have hI : IR ((0 : Int32) + 1) (upd sf (0 : Int32).toNatClampNeg (nI j - 1)) ((upd g 10 (1 : Int32)) 10) ((va_up F 9 (upd (F 9) 0 (nI j - 1))) 9) := by
      refine ⟨by rw [upd_s]; rfl, by rw [upd_s]; decide, fun k hk => ?_⟩
      rw [upd_s, e1] at hk
      obtain rfl : k = 0 := by omega
      rw [va_up_self, show (0 : Int32).toNatClampNeg = 0 from rfl, upd_s, upd_s]
      exact ⟨rfl, by rw [es]; omega, by rw [es]; omega⟩
    have hP2 : PR pn pf (upd g 10 (1 : Int32)) (va_up F 9 (upd (F 9) 0 (nI j - 1))) := hP.of rfl rfl rfl rfl rfl
    have t := exec_sim hP2 hI og oF
    have k := go_kept _ _ hJ2
    have f : Fr [10, 14, 15, 16, 17, 18, 38] [9, 11, 12, 13, 19, 37] g F (upd g 10 (1 : Int32)) (va_up F 9 (upd (F 9) 0 (nI j - 1))) := Fr.v (by decide) (Fr.u (by decide) Fr.refl)
    have f2 := (goThrough_gt (upd g 10 (1 : Int32)) (va_up F 9 (upd (F 9) 0 (nI j - 1))) hJ2.p10).1
    generalize r_X7_execute og oF pn pf (0 + 1) (upd sf (0 : Int32).toNatClampNeg (nI j - 1)) = eu at t ⊢
    generalize r_X9_goThrough (upd g 10 (1 : Int32)) (va_up F 9 (upd (F 9) 0 (nI j - 1))) = gv at t k f2 ⊢
    exact ⟨t, by rw [k.2.2.2.1, k.2.2.2.2.1]; exact hI, f.trans (f2.mono (by decide) (by decide))⟩
theorem nI_pm (j : Nat) : nI j - 1 + 1 = nI (j + 1) - 1 := by
  rw [← nI_1, Int32.sub_add_cancel, Int32.add_sub_cancel]
theorem k256 {j : Nat} (hj : j ≤ 257) : ((257 : Int32) ≤ nI j ↔ j = 257) ∧ ((256 : Int32) ≤ nI j - 1 ↔ j = 257) := by
  have ej := nI_toInt (n := j) (by omega)
  have e1 : (1 : Int32).toInt = 1 := rfl
  have e6 : (256 : Int32).toInt = 256 := rfl
  have e7 : (257 : Int32).toInt = 257 := rfl
  have es : (nI j - 1).toInt = j - 1 := by rw [fb_subI (by rw [e1]; omega) (by rw [e1]; omega), e1, ej]
  simp only [sg_le]
  rw [es]
  omega
theorem least_l0 {T : Int} {rf : Int32} {pn : Int32} {pf : Nat → Int32} {tn : Int32} {tf : Nat → Int32} {lg : Nat → Int32} {lF : Nat → Nat → Int32} {bcv : Nat → Int32} {btr : Int32} {bpn : Int32} {bpf : Nat → Int32} {bpz : Nat → Int32} {bff : Nat → Int32} {bfsn : Int32} {bfsf : Nat → Int32} {bfsz : Nat → Int32} {dcv : Nat → Int32} {dtr : Int32} {dpn : Int32} {dpf : Nat → Int32} {dpz : Nat → Int32} {dff : Nat → Int32} {dfsn : Int32} {dfsf : Nat → Int32} {dfsz : Nat → Int32} {cmn : Int32} {ctn : Int32} {kk : Int32} {knn : Int32} {ktn : Int32} (fi : Int32) (hfi : 0 ≤ fi.toInt ∧ fi.toInt < bfsn.toInt) : ∀ (fu fv j : Nat) (sn : Int32) (sf og : Nat → Int32) (oF : Nat → Nat → Int32) (g : Nat → Int32) (F : Nat → Nat → Int32), 257 - j < fu → 257 - j < fv → j ≤ 257 → RR T rf pn pf tn tf sn lg lF bcv btr bpn bpf bpz bff bfsn bfsf bfsz dcv dtr dpn dpf dpz dff dfsn dfsf dfsz cmn ctn kk knn ktn g F → (g_X8_least_0_16 rf pn pf tn tf bcv btr bpn bpf bpz bff bfsn bfsf bfsz (0 : Int32) fi fu sn sf og oF j).1 = (g_X9_least_13 (0 : Int32) fi fv g F (nI j - 1)).1 ∧ RR T rf pn pf ((g_X8_least_0_16 rf pn pf tn tf bcv btr bpn bpf bpz bff bfsn bfsf bfsz (0 : Int32) fi fu sn sf og oF j).2.1) ((g_X8_least_0_16 rf pn pf tn tf bcv btr bpn bpf bpz bff bfsn bfsf bfsz (0 : Int32) fi fu sn sf og oF j).2.2.1) ((g_X8_least_0_16 rf pn pf tn tf bcv btr bpn bpf bpz bff bfsn bfsf bfsz (0 : Int32) fi fu sn sf og oF j).2.2.2.1) lg lF bcv btr bpn bpf bpz bff bfsn bfsf bfsz dcv dtr dpn dpf dpz dff dfsn dfsf dfsz cmn ctn kk knn ktn ((g_X9_least_13 (0 : Int32) fi fv g F (nI j - 1)).2.1) ((g_X9_least_13 (0 : Int32) fi fv g F (nI j - 1)).2.2)
  | 0, _, _, _, _, _, _, _, _, h, _, _, _ => absurd h (Nat.not_lt_zero _)
  | _, 0, _, _, _, _, _, _, _, _, h, _, _ => absurd h (Nat.not_lt_zero _)
  | fu + 1, fv + 1, j, sn, sf, og, oF, g, F, h1, h2, hj, hR => by
    have hR0 := hR
    obtain ⟨r1, r2, r3, r4, r5, r6, r7, r8, r9⟩ := hR
    rw [g_X8_least_0_16, g_X9_least_13]
    have kk2 := k256 hj
    by_cases c : j = 257
    · rw [if_pos (kk2.1.mpr c), if_pos (kk2.2.mpr c)]
      exact ⟨rfl, hR0⟩
    · rw [if_neg (fun q => c (kk2.1.mp q)), if_neg (fun q => c (kk2.2.mp q))]
      dsimp only
      have sm := single_sim r2 r9 r7.1 rf sf og oF (j := j) (by omega)
      have j2 := J_X9_single (nI j - 1) g F r9
      generalize r_X8_probeSmallInput (nI j) rf pn pf sn sf og oF = u at sm ⊢
      generalize r_X9_single (nI j - 1) g F = v at sm j2 ⊢
      obtain ⟨s1, s2, s3⟩ := sm
      have hR2 := hR0.scr s3 j2 s2.rng.1
      have m5 := hR2.2.2.2.2.1
      have mt := match_sim (sf := bfsf) (sz := bfsz) (bi := (0 : Int32)) (b := 0) (i := fi) rfl (by decide) s1 hfi (by rw [m5.2.2.1.1]; exact m5.2.2.1.2.1.2) m5.2.2.2.1
      rw [mt]
      by_cases d : r_X9_shows ((20 : Int32) * (0 : Int32) + fi) v.1 v.2 = 0
      · rw [if_pos d, if_pos d, nI_pm]
        exact least_l0  fi hfi fu fv (j + 1) u.1 u.2.1 u.2.2.1 u.2.2.2 v.1 v.2 (by omega) (by omega) (by omega) hR2
      · rw [if_neg d, if_neg d, copy_cl r3.rng.1 s2.rng]
        have tt := to_tape (s2.cp2 tf) j2
        have j3 := j2.toTape
        have l2 : Fr [8] [7] v.1 v.2 (r_X9_toTape v.1 v.2).2.1 (r_X9_toTape v.1 v.2).2.2 := by
          rw [cl_toTape v.1 v.2 (b24 j2.p10)]
          exact Fr.v (by decide) (Fr.u (by decide) Fr.refl)
        exact ⟨tt.1.symm, hR2.tape l2 j3 tt.2.1⟩
theorem t_least_0 {T : Int} {rf : Int32} {pn : Int32} {pf : Nat → Int32} {tn : Int32} {tf : Nat → Int32} {sn : Int32} {lg : Nat → Int32} {lF : Nat → Nat → Int32} {bcv : Nat → Int32} {btr : Int32} {bpn : Int32} {bpf : Nat → Int32} {bpz : Nat → Int32} {bff : Nat → Int32} {bfsn : Int32} {bfsf : Nat → Int32} {bfsz : Nat → Int32} {dcv : Nat → Int32} {dtr : Int32} {dpn : Int32} {dpf : Nat → Int32} {dpz : Nat → Int32} {dff : Nat → Int32} {dfsn : Int32} {dfsf : Nat → Int32} {dfsz : Nat → Int32} {cmn : Int32} {ctn : Int32} {kk : Int32} {knn : Int32} {ktn : Int32} {g : Nat → Int32} {F : Nat → Nat → Int32} {sf og : Nat → Int32} {oF : Nat → Nat → Int32} (hR : RR T rf pn pf tn tf sn lg lF bcv btr bpn bpf bpz bff bfsn bfsf bfsz dcv dtr dpn dpf dpz dff dfsn dfsf dfsz cmn ctn kk knn ktn g F) (hT : T ≤ 1000000) (fi : Int32) : (r_X8_least_0 fi rf pn pf tn tf sn sf og oF bcv btr bpn bpf bpz bff bfsn bfsf bfsz).1 = (r_X9_least (0 : Int32) fi g F).1 ∧ RR (T + 60) rf pn pf ((r_X8_least_0 fi rf pn pf tn tf sn sf og oF bcv btr bpn bpf bpz bff bfsn bfsf bfsz).2.1) ((r_X8_least_0 fi rf pn pf tn tf sn sf og oF bcv btr bpn bpf bpz bff bfsn bfsf bfsz).2.2.1) ((r_X8_least_0 fi rf pn pf tn tf sn sf og oF bcv btr bpn bpf bpz bff bfsn bfsf bfsz).2.2.2.1) lg lF bcv btr bpn bpf bpz bff bfsn bfsf bfsz dcv dtr dpn dpf dpz dff dfsn dfsf dfsz cmn ctn kk knn ktn ((r_X9_least (0 : Int32) fi g F).2.1) ((r_X9_least (0 : Int32) fi g F).2.2) := by
  obtain ⟨r1, r2, r3, r4, r5, r6, r7, r8, r9⟩ := hR
  have hR0 : RR T rf pn pf tn tf sn lg lF bcv btr bpn bpf bpz bff bfsn bfsf bfsz dcv dtr dpn dpf dpz dff dfsn dfsf dfsz cmn ctn kk knn ktn g F := ⟨r1, r2, r3, r4, r5, r6, r7, r8, r9⟩
  have sh := r5.2.2.1
  have hh := has3i (f := bff) (sf := bfsf) (sz := bfsz) (i := fi) sh.1 sh.2.1
  unfold r_X8_least_0 r_X9_least
  by_cases c : r_X3_has fi bff bfsn bfsf bfsz = 0
  · rw [if_pos c, if_pos ((isF_b (b := 0) rfl (by decide)).mpr (hh.1.mp c))]
    exact ⟨rfl, hR0.le (by omega)⟩
  · rw [if_neg c, if_neg (fun k => c (hh.1.mpr ((isF_b (b := 0) rfl (by decide)).mp k)))]
    have q := least_l0 fi (hh.2 c) (257 - 0 + 1) ((256 - (-1 : Int32).toInt).toNat + 1) 0 sn sf og oF g F (by omega) (by show 257 - 0 < (256 - (-1 : Int)).toNat + 1; omega) (by omega) hR0
    rw [show nI 0 - 1 = (-1 : Int32) from rfl] at q
    exact ⟨q.1, q.2.le (by omega)⟩
theorem least_l1 {T : Int} {rf : Int32} {pn : Int32} {pf : Nat → Int32} {tn : Int32} {tf : Nat → Int32} {lg : Nat → Int32} {lF : Nat → Nat → Int32} {bcv : Nat → Int32} {btr : Int32} {bpn : Int32} {bpf : Nat → Int32} {bpz : Nat → Int32} {bff : Nat → Int32} {bfsn : Int32} {bfsf : Nat → Int32} {bfsz : Nat → Int32} {dcv : Nat → Int32} {dtr : Int32} {dpn : Int32} {dpf : Nat → Int32} {dpz : Nat → Int32} {dff : Nat → Int32} {dfsn : Int32} {dfsf : Nat → Int32} {dfsz : Nat → Int32} {cmn : Int32} {ctn : Int32} {kk : Int32} {knn : Int32} {ktn : Int32} (fi : Int32) (hfi : 0 ≤ fi.toInt ∧ fi.toInt < dfsn.toInt) : ∀ (fu fv j : Nat) (sn : Int32) (sf og : Nat → Int32) (oF : Nat → Nat → Int32) (g : Nat → Int32) (F : Nat → Nat → Int32), 257 - j < fu → 257 - j < fv → j ≤ 257 → RR T rf pn pf tn tf sn lg lF bcv btr bpn bpf bpz bff bfsn bfsf bfsz dcv dtr dpn dpf dpz dff dfsn dfsf dfsz cmn ctn kk knn ktn g F → (g_X8_least_1_16 rf pn pf tn tf dcv dtr dpn dpf dpz dff dfsn dfsf dfsz (1 : Int32) fi fu sn sf og oF j).1 = (g_X9_least_13 (1 : Int32) fi fv g F (nI j - 1)).1 ∧ RR T rf pn pf ((g_X8_least_1_16 rf pn pf tn tf dcv dtr dpn dpf dpz dff dfsn dfsf dfsz (1 : Int32) fi fu sn sf og oF j).2.1) ((g_X8_least_1_16 rf pn pf tn tf dcv dtr dpn dpf dpz dff dfsn dfsf dfsz (1 : Int32) fi fu sn sf og oF j).2.2.1) ((g_X8_least_1_16 rf pn pf tn tf dcv dtr dpn dpf dpz dff dfsn dfsf dfsz (1 : Int32) fi fu sn sf og oF j).2.2.2.1) lg lF bcv btr bpn bpf bpz bff bfsn bfsf bfsz dcv dtr dpn dpf dpz dff dfsn dfsf dfsz cmn ctn kk knn ktn ((g_X9_least_13 (1 : Int32) fi fv g F (nI j - 1)).2.1) ((g_X9_least_13 (1 : Int32) fi fv g F (nI j - 1)).2.2)
  | 0, _, _, _, _, _, _, _, _, h, _, _, _ => absurd h (Nat.not_lt_zero _)
  | _, 0, _, _, _, _, _, _, _, _, h, _, _ => absurd h (Nat.not_lt_zero _)
  | fu + 1, fv + 1, j, sn, sf, og, oF, g, F, h1, h2, hj, hR => by
    have hR0 := hR
    obtain ⟨r1, r2, r3, r4, r5, r6, r7, r8, r9⟩ := hR
    rw [g_X8_least_1_16, g_X9_least_13]
    have kk2 := k256 hj
    by_cases c : j = 257
    · rw [if_pos (kk2.1.mpr c), if_pos (kk2.2.mpr c)]
      exact ⟨rfl, hR0⟩
    · rw [if_neg (fun q => c (kk2.1.mp q)), if_neg (fun q => c (kk2.2.mp q))]
      dsimp only
      have sm := single_sim r2 r9 r7.1 rf sf og oF (j := j) (by omega)
      have j2 := J_X9_single (nI j - 1) g F r9
      generalize r_X8_probeSmallInput (nI j) rf pn pf sn sf og oF = u at sm ⊢
      generalize r_X9_single (nI j - 1) g F = v at sm j2 ⊢
      obtain ⟨s1, s2, s3⟩ := sm
      have hR2 := hR0.scr s3 j2 s2.rng.1
      have m5 := hR2.2.2.2.2.2.1
      have mt := match_sim (sf := dfsf) (sz := dfsz) (bi := (1 : Int32)) (b := 1) (i := fi) rfl (by decide) s1 hfi (by rw [m5.2.2.1.1]; exact m5.2.2.1.2.1.2) m5.2.2.2.1
      rw [mt]
      by_cases d : r_X9_shows ((20 : Int32) * (1 : Int32) + fi) v.1 v.2 = 0
      · rw [if_pos d, if_pos d, nI_pm]
        exact least_l1  fi hfi fu fv (j + 1) u.1 u.2.1 u.2.2.1 u.2.2.2 v.1 v.2 (by omega) (by omega) (by omega) hR2
      · rw [if_neg d, if_neg d, copy_cl r3.rng.1 s2.rng]
        have tt := to_tape (s2.cp2 tf) j2
        have j3 := j2.toTape
        have l2 : Fr [8] [7] v.1 v.2 (r_X9_toTape v.1 v.2).2.1 (r_X9_toTape v.1 v.2).2.2 := by
          rw [cl_toTape v.1 v.2 (b24 j2.p10)]
          exact Fr.v (by decide) (Fr.u (by decide) Fr.refl)
        exact ⟨tt.1.symm, hR2.tape l2 j3 tt.2.1⟩
theorem t_least_1 {T : Int} {rf : Int32} {pn : Int32} {pf : Nat → Int32} {tn : Int32} {tf : Nat → Int32} {sn : Int32} {lg : Nat → Int32} {lF : Nat → Nat → Int32} {bcv : Nat → Int32} {btr : Int32} {bpn : Int32} {bpf : Nat → Int32} {bpz : Nat → Int32} {bff : Nat → Int32} {bfsn : Int32} {bfsf : Nat → Int32} {bfsz : Nat → Int32} {dcv : Nat → Int32} {dtr : Int32} {dpn : Int32} {dpf : Nat → Int32} {dpz : Nat → Int32} {dff : Nat → Int32} {dfsn : Int32} {dfsf : Nat → Int32} {dfsz : Nat → Int32} {cmn : Int32} {ctn : Int32} {kk : Int32} {knn : Int32} {ktn : Int32} {g : Nat → Int32} {F : Nat → Nat → Int32} {sf og : Nat → Int32} {oF : Nat → Nat → Int32} (hR : RR T rf pn pf tn tf sn lg lF bcv btr bpn bpf bpz bff bfsn bfsf bfsz dcv dtr dpn dpf dpz dff dfsn dfsf dfsz cmn ctn kk knn ktn g F) (hT : T ≤ 1000000) (fi : Int32) : (r_X8_least_1 fi rf pn pf tn tf sn sf og oF dcv dtr dpn dpf dpz dff dfsn dfsf dfsz).1 = (r_X9_least (1 : Int32) fi g F).1 ∧ RR (T + 60) rf pn pf ((r_X8_least_1 fi rf pn pf tn tf sn sf og oF dcv dtr dpn dpf dpz dff dfsn dfsf dfsz).2.1) ((r_X8_least_1 fi rf pn pf tn tf sn sf og oF dcv dtr dpn dpf dpz dff dfsn dfsf dfsz).2.2.1) ((r_X8_least_1 fi rf pn pf tn tf sn sf og oF dcv dtr dpn dpf dpz dff dfsn dfsf dfsz).2.2.2.1) lg lF bcv btr bpn bpf bpz bff bfsn bfsf bfsz dcv dtr dpn dpf dpz dff dfsn dfsf dfsz cmn ctn kk knn ktn ((r_X9_least (1 : Int32) fi g F).2.1) ((r_X9_least (1 : Int32) fi g F).2.2) := by
  obtain ⟨r1, r2, r3, r4, r5, r6, r7, r8, r9⟩ := hR
  have hR0 : RR T rf pn pf tn tf sn lg lF bcv btr bpn bpf bpz bff bfsn bfsf bfsz dcv dtr dpn dpf dpz dff dfsn dfsf dfsz cmn ctn kk knn ktn g F := ⟨r1, r2, r3, r4, r5, r6, r7, r8, r9⟩
  have sh := r6.2.2.1
  have hh := has3i (f := dff) (sf := dfsf) (sz := dfsz) (i := fi) sh.1 sh.2.1
  unfold r_X8_least_1 r_X9_least
  by_cases c : r_X3_has fi dff dfsn dfsf dfsz = 0
  · rw [if_pos c, if_pos ((isF_b (b := 1) rfl (by decide)).mpr (hh.1.mp c))]
    exact ⟨rfl, hR0.le (by omega)⟩
  · rw [if_neg c, if_neg (fun k => c (hh.1.mpr ((isF_b (b := 1) rfl (by decide)).mp k)))]
    have q := least_l1 fi (hh.2 c) (257 - 0 + 1) ((256 - (-1 : Int32).toInt).toNat + 1) 0 sn sf og oF g F (by omega) (by show 257 - 0 < (256 - (-1 : Int)).toNat + 1; omega) (by omega) hR0
    rw [show nI 0 - 1 = (-1 : Int32) from rfl] at q
    exact ⟨q.1, q.2.le (by omega)⟩
theorem unseen_l {T : Int} {rf : Int32} {pn : Int32} {pf : Nat → Int32} {tn : Int32} {tf : Nat → Int32} {lg : Nat → Int32} {lF : Nat → Nat → Int32} {bcv : Nat → Int32} {btr : Int32} {bpn : Int32} {bpf : Nat → Int32} {bpz : Nat → Int32} {bff : Nat → Int32} {bfsn : Int32} {bfsf : Nat → Int32} {bfsz : Nat → Int32} {dcv : Nat → Int32} {dtr : Int32} {dpn : Int32} {dpf : Nat → Int32} {dpz : Nat → Int32} {dff : Nat → Int32} {dfsn : Int32} {dfsf : Nat → Int32} {dfsz : Nat → Int32} {cmn : Int32} {ctn : Int32} {kk : Int32} {knn : Int32} {ktn : Int32} (br x2 : Int32) (hbr : 0 ≤ br.toInt ∧ br.toInt < 160) : ∀ (fu fv j : Nat) (sn : Int32) (sf og : Nat → Int32) (oF : Nat → Nat → Int32) (g : Nat → Int32) (F : Nat → Nat → Int32), 257 - j < fu → 257 - j < fv → j ≤ 257 → RR T rf pn pf tn tf sn lg lF bcv btr bpn bpf bpz bff bfsn bfsf bfsz dcv dtr dpn dpf dpz dff dfsn dfsf dfsz cmn ctn kk knn ktn g F → (g_X8_unseen_24 rf pn pf br fu sn sf og oF j).1 = (g_X9_unseen_42 br x2 fv g F (nI j - 1)).1 ∧ RR T rf pn pf tn tf ((g_X8_unseen_24 rf pn pf br fu sn sf og oF j).2.1) lg lF bcv btr bpn bpf bpz bff bfsn bfsf bfsz dcv dtr dpn dpf dpz dff dfsn dfsf dfsz cmn ctn kk knn ktn ((g_X9_unseen_42 br x2 fv g F (nI j - 1)).2.1) ((g_X9_unseen_42 br x2 fv g F (nI j - 1)).2.2)
  | 0, _, _, _, _, _, _, _, _, h, _, _, _ => absurd h (Nat.not_lt_zero _)
  | _, 0, _, _, _, _, _, _, _, _, h, _, _ => absurd h (Nat.not_lt_zero _)
  | fu + 1, fv + 1, j, sn, sf, og, oF, g, F, h1, h2, hj, hR => by
    have hR0 := hR
    obtain ⟨r1, r2, r3, r4, r5, r6, r7, r8, r9⟩ := hR
    rw [g_X8_unseen_24, g_X9_unseen_42]
    have kk2 := k256 hj
    by_cases c : j = 257
    · rw [if_pos (kk2.1.mpr c), if_pos (kk2.2.mpr c)]
      exact ⟨rfl, hR0⟩
    · rw [if_neg (fun q => c (kk2.1.mp q)), if_neg (fun q => c (kk2.2.mp q))]
      dsimp only
      have sm := single_sim r2 r9 r7.1 rf sf og oF (j := j) (by omega)
      have j2 := J_X9_single (nI j - 1) g F r9
      generalize r_X8_probeSmallInput (nI j) rf pn pf sn sf og oF = u at sm ⊢
      generalize r_X9_single (nI j - 1) g F = v at sm j2 ⊢
      obtain ⟨s1, s2, s3⟩ := sm
      have hR2 := hR0.scr s3 j2 s2.rng.1
      have et : r_X7_turnsOf br u.2.2.1 u.2.2.2 = v.2 19 br.toNatClampNeg := by
        unfold r_X7_turnsOf r_X7_isBranch
        have z : (0 : Int32).toInt = 0 := rfl
        have e160 : (160 : Int32).toInt = 160 := rfl
        rw [if_neg (show ¬ br < 0 by simp only [sg_lt]; omega), if_neg (show ¬ 160 ≤ br by simp only [sg_le]; omega), if_neg (by decide)]
        exact s1.2.2.2.2.1 _ (i_lt hbr)
      rw [et]
      by_cases d : v.2 19 br.toNatClampNeg ≤ 0
      · rw [if_pos d, if_pos d, nI_pm]
        exact unseen_l br x2 hbr fu fv (j + 1) u.1 u.2.1 u.2.2.1 u.2.2.2 v.1 v.2 (by omega) (by omega) (by omega) hR2
      · rw [if_neg d, if_neg d]
        exact ⟨rfl, hR2⟩
theorem t_unseen {T : Int} {rf : Int32} {pn : Int32} {pf : Nat → Int32} {tn : Int32} {tf : Nat → Int32} {sn : Int32} {lg : Nat → Int32} {lF : Nat → Nat → Int32} {bcv : Nat → Int32} {btr : Int32} {bpn : Int32} {bpf : Nat → Int32} {bpz : Nat → Int32} {bff : Nat → Int32} {bfsn : Int32} {bfsf : Nat → Int32} {bfsz : Nat → Int32} {dcv : Nat → Int32} {dtr : Int32} {dpn : Int32} {dpf : Nat → Int32} {dpz : Nat → Int32} {dff : Nat → Int32} {dfsn : Int32} {dfsf : Nat → Int32} {dfsz : Nat → Int32} {cmn : Int32} {ctn : Int32} {kk : Int32} {knn : Int32} {ktn : Int32} {g : Nat → Int32} {F : Nat → Nat → Int32} {sf og : Nat → Int32} {oF : Nat → Nat → Int32} (hR : RR T rf pn pf tn tf sn lg lF bcv btr bpn bpf bpz bff bfsn bfsf bfsz dcv dtr dpn dpf dpz dff dfsn dfsf dfsz cmn ctn kk knn ktn g F) (hT : T ≤ 1000000) (br : Int32) : (r_X8_unseen br rf pn pf sn sf og oF).1 = (r_X9_unseen br g F).1 ∧ RR (T + 60) rf pn pf tn tf ((r_X8_unseen br rf pn pf sn sf og oF).2.1) lg lF bcv btr bpn bpf bpz bff bfsn bfsf bfsz dcv dtr dpn dpf dpz dff dfsn dfsf dfsz cmn ctn kk knn ktn ((r_X9_unseen br g F).2.1) ((r_X9_unseen br g F).2.2) := by
  obtain ⟨r1, r2, r3, r4, r5, r6, r7, r8, r9⟩ := hR
  have hR0 : RR T rf pn pf tn tf sn lg lF bcv btr bpn bpf bpz bff bfsn bfsf bfsz dcv dtr dpn dpf dpz dff dfsn dfsf dfsz cmn ctn kk knn ktn g F := ⟨r1, r2, r3, r4, r5, r6, r7, r8, r9⟩
  have z : (0 : Int32).toInt = 0 := rfl
  have e160 : (160 : Int32).toInt = 160 := rfl
  have hp := r2.1
  have hb := r2.2.1
  unfold r_X8_unseen r_X9_unseen
  by_cases c : br < 0
  · have cb : r_X7_isBranch br = 0 := if_pos c
    rw [if_pos c, if_pos cb]
    exact ⟨rfl, hR0.le (by omega)⟩
  · rw [if_neg c]
    have c2 := c
    simp only [sg_lt] at c2
    have hh := half_i (x := br) (by omega)
    by_cases d : g 5 ≤ br / 2
    · rw [if_pos d]
      by_cases e : r_X7_isBranch br = 0
      · rw [if_pos e]
        exact ⟨rfl, hR0.le (by omega)⟩
      · have e2 : r_X5_branchesAt (br / 2) pn pf = 0 := by
          unfold r_X5_branchesAt r_X5_part
          rw [if_pos (show r_X5_has (br / 2) pn pf = 0 from has_on.mpr (Or.inr (by rw [hp]; exact d))), if_neg (by decide), if_neg (by decide)]
        rw [if_neg e, if_pos e2]
        exact ⟨rfl, hR0.le (by omega)⟩
    · rw [if_neg d]
      have d2 := d
      simp only [sg_le] at d2
      rw [hh] at d2
      have hbr : 0 ≤ br.toInt ∧ br.toInt < 160 := by omega
      have e : ¬ r_X7_isBranch br = 0 := by
        unfold r_X7_isBranch
        rw [if_neg c, if_neg (show ¬ 160 ≤ br by simp only [sg_le]; omega)]
        decide
      rw [if_neg e]
      have hpp : 0 ≤ (br / 2).toInt ∧ (br / 2).toInt < pn.toInt := by rw [hp, hh]; omega
      have h80 : pn.toInt ≤ 80 := by rw [hp]; exact hb.2
      have hk := r2.2.2.2.2 (br / 2).toNatClampNeg (by rw [tN, hh]; omega)
      have eo : r_X5_part (br / 2) 0 pn pf = F 1 (br / 2).toNatClampNeg := by
        rw [part_in (j := 0) hpp h80 rfl (by omega), Nat.add_zero]
        exact hk.1
      unfold r_X5_branchesAt
      rw [eo]
      have q := unseen_l br (br / 2) hbr (257 - 0 + 1) ((256 - (-1 : Int32).toInt).toNat + 1) 0 sn sf og oF g F (by omega) (by show 257 - 0 < (256 - (-1 : Int)).toNat + 1; omega) (by omega) hR0
      rw [show nI 0 - 1 = (-1 : Int32) from rfl] at q
      by_cases o1 : F 1 (br / 2).toNatClampNeg = 11
      · rw [if_pos o1, if_pos o1, if_neg (by decide)]
        exact ⟨q.1, q.2.le (by omega)⟩
      · rw [if_neg o1, if_neg o1]
        by_cases o2 : F 1 (br / 2).toNatClampNeg = 12
        · rw [if_pos o2, if_pos o2, if_neg (by decide)]
          exact ⟨q.1, q.2.le (by omega)⟩
        · rw [if_neg o2, if_neg o2, if_pos rfl]
          exact ⟨rfl, hR0.le (by omega)⟩
