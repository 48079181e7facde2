theorem IR.cp {n : Int32} {f : Nat → Int32} {m : Int32} {e : Nat → Int32} (h : IR n f m e) (e2 : Nat → Int32) : IR n f m (cpy m.toInt.toNat e e2) := by
  obtain ⟨a, b, c⟩ := h
  refine ⟨a, b, fun k hk => ?_⟩
  rw [cpy_lt (by omega)]
  exact c k hk
theorem IR.cp2 {n : Int32} {f : Nat → Int32} {m : Int32} {e : Nat → Int32} (h : IR n f m e) (f2 : Nat → Int32) : IR n (cpy n.toInt.toNat f f2) m e := by
  obtain ⟨a, b, c⟩ := h
  refine ⟨a, b, fun k hk => ?_⟩
  rw [cpy_lt (by rw [a]; omega)]
  exact c k hk
theorem fr_go (g : Nat → Int32) (F : Nat → Nat → Int32) (hJ : J g F) : Fr [8, 10, 14, 15, 16, 17, 18, 20, 21, 22, 23, 24, 38, 39] [7, 9, 11, 12, 13, 19, 25, 26, 27, 37] g F (r_X9_goThrough g F).1 (r_X9_goThrough g F).2 := (goThrough_gt g F hJ.p10).1.mono (by decide) (by decide)
theorem fr_fromTape (g : Nat → Int32) (F : Nat → Nat → Int32) (hJ : J g F) : Fr [8, 10, 14, 15, 16, 17, 18, 20, 21, 22, 23, 24, 38, 39] [7, 9, 11, 12, 13, 19, 25, 26, 27, 37] g F (r_X9_fromTape g F).1 (r_X9_fromTape g F).2 := by
  rw [cl_fromTape g F (b24 hJ.p8)]
  exact Fr.v (by decide) (Fr.u (by decide) Fr.refl)
theorem fr_toTape (g : Nat → Int32) (F : Nat → Nat → Int32) (hJ : J g F) : Fr [8, 10, 14, 15, 16, 17, 18, 20, 21, 22, 23, 24, 38, 39] [7, 9, 11, 12, 13, 19, 25, 26, 27, 37] g F (r_X9_toTape g F).2.1 (r_X9_toTape g F).2.2 := by
  rw [cl_toTape g F (b24 hJ.p10)]
  exact Fr.v (by decide) (Fr.u (by decide) Fr.refl)
theorem fr_fromBest (g : Nat → Int32) (F : Nat → Nat → Int32) (hJ : J g F) : Fr [8, 10, 14, 15, 16, 17, 18, 20, 21, 22, 23, 24, 38, 39] [7, 9, 11, 12, 13, 19, 25, 26, 27, 37] g F (r_X9_fromBest g F).1 (r_X9_fromBest g F).2 := by
  rw [cl_fromBest g F (b24 hJ.p38)]
  exact Fr.v (by decide) (Fr.u (by decide) Fr.refl)
theorem fr_toBest (g : Nat → Int32) (F : Nat → Nat → Int32) (hJ : J g F) : Fr [8, 10, 14, 15, 16, 17, 18, 20, 21, 22, 23, 24, 38, 39] [7, 9, 11, 12, 13, 19, 25, 26, 27, 37] g F (r_X9_toBest g F).1 (r_X9_toBest g F).2 := by
  rw [cl_toBest g F (b24 hJ.p10)]
  exact Fr.v (by decide) (Fr.u (by decide) Fr.refl)
theorem fr_fromPool (p0 : Int32) (g : Nat → Int32) (F : Nat → Nat → Int32) (hJ : J g F) : Fr [8, 10, 14, 15, 16, 17, 18, 20, 21, 22, 23, 24, 38, 39] [7, 9, 11, 12, 13, 19, 25, 26, 27, 37] g F (r_X9_fromPool p0 g F).1 (r_X9_fromPool p0 g F).2 := by
  rw [cl_fromPool p0 g F (b24 (hJ.q29 _))]
  exact Fr.v (by decide) (Fr.u (by decide) Fr.refl)
theorem fr_fromFirst (p0 : Int32) (g : Nat → Int32) (F : Nat → Nat → Int32) (hJ : J g F) : Fr [8, 10, 14, 15, 16, 17, 18, 20, 21, 22, 23, 24, 38, 39] [7, 9, 11, 12, 13, 19, 25, 26, 27, 37] g F (r_X9_fromFirst p0 g F).1 (r_X9_fromFirst p0 g F).2 := by
  rw [cl_fromFirst p0 g F (b24 (hJ.q36 _))]
  exact Fr.v (by decide) (Fr.u (by decide) Fr.refl)
theorem fr_keeps (g : Nat → Int32) (F : Nat → Nat → Int32) : Fr [8, 10, 14, 15, 16, 17, 18, 20, 21, 22, 23, 24, 38, 39] [7, 9, 11, 12, 13, 19, 25, 26, 27, 37] g F (r_X9_keeps g F).1 (r_X9_keeps g F).2 := by
  rw [cl_keeps]
  unfold kp9g kp9F
  exact Fr.v (by decide) (Fr.v (by decide) (Fr.v (by decide) (Fr.u (by decide) (Fr.u (by decide) (Fr.u (by decide) (Fr.u (by decide) (Fr.u (by decide) Fr.refl)))))))
theorem PR.fr {pn : Int32} {pf : Nat → Int32} {g g' : Nat → Int32} {F F' : Nat → Nat → Int32} (h : PR pn pf g F) (f : Fr [8, 10, 14, 15, 16, 17, 18, 20, 21, 22, 23, 24, 38, 39] [7, 9, 11, 12, 13, 19, 25, 26, 27, 37] g F g' F') : PR pn pf g' F' := h.of (f.1 5 (by decide)) (f.2 1 (by decide)) (f.2 2 (by decide)) (f.2 3 (by decide)) (f.2 4 (by decide))
theorem BR.fr {b : Nat} {T T' : Int} {cv : Nat → Int32} {tr pn : Int32} {pf pz ff : Nat → Int32} {fsn : Int32} {fsf fsz : Nat → Int32} {g g' : Nat → Int32} {F F' : Nat → Nat → Int32} (h : BR b T cv tr pn pf pz ff fsn fsf fsz F) (hT : T ≤ T') (f : Fr [8, 10, 14, 15, 16, 17, 18, 20, 21, 22, 23, 24, 38, 39] [7, 9, 11, 12, 13, 19, 25, 26, 27, 37] g F g' F') : BR b T' cv tr pn pf pz ff fsn fsf fsz F' := h.of hT (f.2 28 (by decide)) (f.2 29 (by decide)) (f.2 30 (by decide)) (f.2 31 (by decide)) (f.2 32 (by decide)) (f.2 33 (by decide)) (f.2 34 (by decide)) (f.2 35 (by decide)) (f.2 36 (by decide))
theorem keeps_15 (g : Nat → Int32) (F : Nat → Nat → Int32) : (r_X9_keeps g F).1 15 = g 15 ∧ (r_X9_keeps g F).1 39 = g 39 ∧ (r_X9_keeps g F).1 8 = g 8 ∧ (r_X9_keeps g F).2 7 = F 7 ∧ (r_X9_keeps g F).1 6 = g 6 := by
  rw [cl_keeps]
  unfold kp9g kp9F
  dsimp only
  refine ⟨?_, ?_, ?_, ?_, ?_⟩
  · rw [upd_n _ _ (by decide), upd_n _ _ (by decide), upd_n _ _ (by decide), upd_n _ _ (by decide), upd_n _ _ (by decide)]
  · rw [upd_n _ _ (by decide), upd_n _ _ (by decide), upd_n _ _ (by decide), upd_n _ _ (by decide), upd_n _ _ (by decide)]
  · rw [upd_n _ _ (by decide), upd_n _ _ (by decide), upd_n _ _ (by decide), upd_n _ _ (by decide), upd_n _ _ (by decide)]
  · rw [va_up_ne _ _ (by decide), va_up_ne _ _ (by decide), va_up_ne _ _ (by decide)]
  · rw [upd_n _ _ (by decide), upd_n _ _ (by decide), upd_n _ _ (by decide), upd_n _ _ (by decide), upd_n _ _ (by decide)]
theorem keeps_LR {cg : Nat → Int32} {cF : Nat → Nat → Int32} {g : Nat → Int32} {F : Nat → Nat → Int32} (h : TR cg cF g F) : LR cg cF (r_X9_keeps g F).1 (r_X9_keeps g F).2 := by
  rw [cl_keeps]
  exact keeps_sim h
/-- the tape's run, in both -/
theorem tape_run {pn : Int32} {pf : Nat → Int32} {tn : Int32} {tf : Nat → Int32} {g : Nat → Int32} {F : Nat → Nat → Int32} (hP : PR pn pf g F) (hI : IR tn tf (g 8) (F 7)) (hJ : J g F) (cg : Nat → Int32) (cF : Nat → Nat → Int32) : TR (r_X7_execute cg cF pn pf tn tf).1 (r_X7_execute cg cF pn pf tn tf).2 (r_X9_goThrough (r_X9_fromTape g F).1 (r_X9_fromTape g F).2).1 (r_X9_goThrough (r_X9_fromTape g F).1 (r_X9_fromTape g F).2).2 ∧ IR tn tf ((r_X9_fromTape g F).1 10) ((r_X9_fromTape g F).2 9) ∧ (r_X9_fromTape g F).1 8 = g 8 ∧ (r_X9_fromTape g F).2 7 = F 7 ∧ (r_X9_fromTape g F).1 39 = g 39 := by
  have h10 : (r_X9_fromTape g F).1 10 = g 8 := by rw [cl_fromTape g F (b24 hJ.p8)]; rfl
  have h9 : (r_X9_fromTape g F).2 9 = cpy (g 8).toInt.toNat (F 7) (F 9) := by rw [cl_fromTape g F (b24 hJ.p8)]; rfl
  have hI2 : IR tn tf ((r_X9_fromTape g F).1 10) ((r_X9_fromTape g F).2 9) := by
    rw [h10, h9]
    exact hI.cp _
  refine ⟨exec_sim (hP.fr (fr_fromTape g F hJ)) hI2 cg cF, hI2, ?_, ?_, ?_⟩
  · rw [cl_fromTape g F (b24 hJ.p8)]; rfl
  · rw [cl_fromTape g F (b24 hJ.p8)]; rfl
  · rw [cl_fromTape g F (b24 hJ.p8)]; rfl
theorem go_kept (g : Nat → Int32) (F : Nat → Nat → Int32) (hJ : J g F) : (r_X9_goThrough g F).1 8 = g 8 ∧ (r_X9_goThrough g F).2 7 = F 7 ∧ (r_X9_goThrough g F).1 39 = g 39 ∧ (r_X9_goThrough g F).1 10 = g 10 ∧ (r_X9_goThrough g F).2 9 = F 9 ∧ (r_X9_goThrough g F).1 38 = g 38 ∧ (r_X9_goThrough g F).2 37 = F 37 := by
  have f := (goThrough_gt g F hJ.p10).1
  exact ⟨f.1 8 (by decide), f.2 7 (by decide), f.1 39 (by decide), f.1 10 (by decide), f.2 9 (by decide), f.1 38 (by decide), f.2 37 (by decide)⟩
theorem t_run {T : Int} {rf : Int32} {pn : Int32} {pf : Nat → Int32} {tn : Int32} {tf : Nat → Int32} {sn : Int32} {lg : Nat → Int32} {lF : Nat → Nat → Int32} {bcv : Nat → Int32} {btr : Int32} {bpn : Int32} {bpf : Nat → Int32} {bpz : Nat → Int32} {bff : Nat → Int32} {bfsn : Int32} {bfsf : Nat → Int32} {bfsz : Nat → Int32} {dcv : Nat → Int32} {dtr : Int32} {dpn : Int32} {dpf : Nat → Int32} {dpz : Nat → Int32} {dff : Nat → Int32} {dfsn : Int32} {dfsf : Nat → Int32} {dfsz : Nat → Int32} {cmn : Int32} {ctn : Int32} {kk : Int32} {knn : Int32} {ktn : Int32} {g : Nat → Int32} {F : Nat → Nat → Int32} (hR : RR T rf pn pf tn tf sn lg lF bcv btr bpn bpf bpz bff bfsn bfsf bfsz dcv dtr dpn dpf dpz dff dfsn dfsf dfsz cmn ctn kk knn ktn g F) (hT : T ≤ 1000000) : (r_X8_run rf pn pf tn tf lg lF).1 = (r_X9_run g F).1 ∧ RR (T + 60) rf pn pf tn tf sn ((r_X8_run rf pn pf tn tf lg lF).2.1) ((r_X8_run rf pn pf tn tf lg lF).2.2) bcv btr bpn bpf bpz bff bfsn bfsf bfsz dcv dtr dpn dpf dpz dff dfsn dfsf dfsz cmn ctn kk knn ktn ((r_X9_run g F).2.1) ((r_X9_run g F).2.2) := by
  obtain ⟨r1, r2, r3, r4, r5, r6, r7, r8, r9⟩ := hR
  have q := tape_run r2 r3 r9 lg lF
  have j1 := r9.fromTape
  have f1 := fr_fromTape g F r9
  unfold r_X8_run r_X9_run
  dsimp only
  obtain ⟨q1, q2, q3, q4, q5⟩ := q
  generalize r_X9_fromTape g F = v at q1 q2 q3 q4 q5 j1 f1 ⊢
  have j2 := j1.goThrough
  have f2 := fr_go v.1 v.2 j1
  have k2 := go_kept v.1 v.2 j1
  generalize r_X9_goThrough v.1 v.2 = w at q1 j2 f2 k2 ⊢
  have j3 := j2.keeps
  have f3 := fr_keeps w.1 w.2
  have k3 := keeps_15 w.1 w.2
  have l3 := keeps_LR q1
  generalize r_X9_keeps w.1 w.2 = y at j3 f3 k3 l3 ⊢
  have f := (f1.trans f2).trans f3
  refine ⟨by rw [k3.1]; exact q1.1, by rw [f.1 6 (by decide)]; exact r1, r2.fr f, ?_, l3, r5.fr (by omega) f, r6.fr (by omega) f, r7, ?_, j3⟩
  · rw [k3.2.2.1, k3.2.2.2.1, k2.1, k2.2.1, q3, q4]
    exact r3
  · rw [k3.2.1, k2.2.2.1, q5]
    exact r8
theorem t_attempt_0 {T : Int} {rf : Int32} {pn : Int32} {pf : Nat → Int32} {tn : Int32} {tf : Nat → Int32} {sn : Int32} {lg : Nat → Int32} {lF : Nat → Nat → Int32} {bcv : Nat → Int32} {btr : Int32} {bpn : Int32} {bpf : Nat → Int32} {bpz : Nat → Int32} {bff : Nat → Int32} {bfsn : Int32} {bfsf : Nat → Int32} {bfsz : Nat → Int32} {dcv : Nat → Int32} {dtr : Int32} {dpn : Int32} {dpf : Nat → Int32} {dpz : Nat → Int32} {dff : Nat → Int32} {dfsn : Int32} {dfsf : Nat → Int32} {dfsz : Nat → Int32} {cmn : Int32} {ctn : Int32} {kk : Int32} {knn : Int32} {ktn : Int32} {g : Nat → Int32} {F : Nat → Nat → Int32} (hR : RR T rf pn pf tn tf sn lg lF bcv btr bpn bpf bpz bff bfsn bfsf bfsz dcv dtr dpn dpf dpz dff dfsn dfsf dfsz cmn ctn kk knn ktn g F) (hT : T ≤ 1000000) : (r_X8_attempt_0 rf pn pf tn tf lg lF bcv btr bpn bpf bpz bff bfsn bfsf bfsz).1 = (r_X9_attempt (0 : Int32) g F).1 ∧ RR (T + 60) rf pn pf tn tf sn ((r_X8_attempt_0 rf pn pf tn tf lg lF bcv btr bpn bpf bpz bff bfsn bfsf bfsz).2.1) ((r_X8_attempt_0 rf pn pf tn tf lg lF bcv btr bpn bpf bpz bff bfsn bfsf bfsz).2.2.1) ((r_X8_attempt_0 rf pn pf tn tf lg lF bcv btr bpn bpf bpz bff bfsn bfsf bfsz).2.2.2.1) ((r_X8_attempt_0 rf pn pf tn tf lg lF bcv btr bpn bpf bpz bff bfsn bfsf bfsz).2.2.2.2.1) ((r_X8_attempt_0 rf pn pf tn tf lg lF bcv btr bpn bpf bpz bff bfsn bfsf bfsz).2.2.2.2.2.1) ((r_X8_attempt_0 rf pn pf tn tf lg lF bcv btr bpn bpf bpz bff bfsn bfsf bfsz).2.2.2.2.2.2.1) ((r_X8_attempt_0 rf pn pf tn tf lg lF bcv btr bpn bpf bpz bff bfsn bfsf bfsz).2.2.2.2.2.2.2.1) ((r_X8_attempt_0 rf pn pf tn tf lg lF bcv btr bpn bpf bpz bff bfsn bfsf bfsz).2.2.2.2.2.2.2.2.1) ((r_X8_attempt_0 rf pn pf tn tf lg lF bcv btr bpn bpf bpz bff bfsn bfsf bfsz).2.2.2.2.2.2.2.2.2.1) ((r_X8_attempt_0 rf pn pf tn tf lg lF bcv btr bpn bpf bpz bff bfsn bfsf bfsz).2.2.2.2.2.2.2.2.2.2.1) ((r_X8_attempt_0 rf pn pf tn tf lg lF bcv btr bpn bpf bpz bff bfsn bfsf bfsz).2.2.2.2.2.2.2.2.2.2.2) dcv dtr dpn dpf dpz dff dfsn dfsf dfsz cmn ctn kk knn ktn ((r_X9_attempt (0 : Int32) g F).2.1) ((r_X9_attempt (0 : Int32) g F).2.2) := by
  obtain ⟨r1, r2, r3, r4, r5, r6, r7, r8, r9⟩ := hR
  have q := tape_run r2 r3 r9 lg lF
  have j1 := r9.fromTape
  have f1 := fr_fromTape g F r9
  have jt := J_X9_tries (0 : Int32) (r_X9_fromTape g F).1 (r_X9_fromTape g F).2 j1 (by decide)
  unfold r_X8_attempt_0 r_X9_attempt
  rw [if_neg (show ¬ r_X9_in (0 : Int32) 0 1 = 0 by decide)]
  dsimp only
  rw [tries_eq] at jt ⊢
  obtain ⟨q1, q2, q3, q4, q5⟩ := q
  generalize r_X9_fromTape g F = v at q1 q2 q3 q4 q5 j1 f1 jt ⊢
  have j2 := j1.goThrough
  have f2 := fr_go v.1 v.2 j1
  have k2 := go_kept v.1 v.2 j1
  have gt := (goThrough_gt v.1 v.2 j1.p10).2.2
  generalize r_X9_goThrough v.1 v.2 = w at q1 j2 f2 k2 gt jt ⊢
  generalize r_X7_execute lg lF pn pf tn tf = u at q1 ⊢
  have tk := take_sim (b := 0) (bi := (0 : Int32)) (un := tn) (uf := tf) rfl (by decide) q1 (by rw [k2.2.2.2.1, k2.2.2.2.2.1]; exact q2) (r5.fr (Int.le_refl T) (f1.trans f2)) gt (by omega)
  generalize trb (0 : Int32) w.1 w.2 = t at tk jt ⊢
  generalize r_X0_take bcv btr bpn bpf bpz bff bfsn bfsf bfsz u.1 u.2 tn tf = r at tk ⊢
  obtain ⟨t1, t2, t3, t4, t5⟩ := tk
  have j3 := jt.keeps
  have f3 := fr_keeps t.2.1 t.2.2
  have k3 := keeps_15 t.2.1 t.2.2
  have q1b : TR u.1 u.2 t.2.1 t.2.2 := by
    rw [t2]
    exact q1.of (t5 11 (by decide)) (t5 13 (by decide)) (t5 19 (by decide))
  have l3 := keeps_LR q1b
  generalize r_X9_keeps t.2.1 t.2.2 = y at j3 f3 k3 l3 ⊢
  have f := f1.trans f2
  have fp : PR pn pf t.2.1 t.2.2 := (r2.fr f).of (by rw [t2]) (t5 1 (by decide)) (t5 2 (by decide)) (t5 3 (by decide)) (t5 4 (by decide))
  have ot := (r6.fr (Int.le_refl T) f).other (T' := T + 60) (by omega) t4 (by decide) (by decide) (by decide)
  refine ⟨t1, ?_, fp.fr f3, ?_, l3, t3.fr (by omega) f3, ot.fr (Int.le_refl _) f3, r7, ?_, j3⟩
  · rw [f3.1 6 (by decide), t2, f.1 6 (by decide)]
    exact r1
  · rw [k3.2.2.1, k3.2.2.2.1, t2, t5 7 (by decide), k2.1, k2.2.1, q3, q4]
    exact r3
  · rw [k3.2.1, t2, k2.2.2.1, q5]
    exact r8
theorem t_attempt_1 {T : Int} {rf : Int32} {pn : Int32} {pf : Nat → Int32} {tn : Int32} {tf : Nat → Int32} {sn : Int32} {lg : Nat → Int32} {lF : Nat → Nat → Int32} {bcv : Nat → Int32} {btr : Int32} {bpn : Int32} {bpf : Nat → Int32} {bpz : Nat → Int32} {bff : Nat → Int32} {bfsn : Int32} {bfsf : Nat → Int32} {bfsz : Nat → Int32} {dcv : Nat → Int32} {dtr : Int32} {dpn : Int32} {dpf : Nat → Int32} {dpz : Nat → Int32} {dff : Nat → Int32} {dfsn : Int32} {dfsf : Nat → Int32} {dfsz : Nat → Int32} {cmn : Int32} {ctn : Int32} {kk : Int32} {knn : Int32} {ktn : Int32} {g : Nat → Int32} {F : Nat → Nat → Int32} (hR : RR T rf pn pf tn tf sn lg lF bcv btr bpn bpf bpz bff bfsn bfsf bfsz dcv dtr dpn dpf dpz dff dfsn dfsf dfsz cmn ctn kk knn ktn g F) (hT : T ≤ 1000000) : (r_X8_attempt_1 rf pn pf tn tf lg lF dcv dtr dpn dpf dpz dff dfsn dfsf dfsz).1 = (r_X9_attempt (1 : Int32) g F).1 ∧ RR (T + 60) rf pn pf tn tf sn ((r_X8_attempt_1 rf pn pf tn tf lg lF dcv dtr dpn dpf dpz dff dfsn dfsf dfsz).2.1) ((r_X8_attempt_1 rf pn pf tn tf lg lF dcv dtr dpn dpf dpz dff dfsn dfsf dfsz).2.2.1) bcv btr bpn bpf bpz bff bfsn bfsf bfsz ((r_X8_attempt_1 rf pn pf tn tf lg lF dcv dtr dpn dpf dpz dff dfsn dfsf dfsz).2.2.2.1) ((r_X8_attempt_1 rf pn pf tn tf lg lF dcv dtr dpn dpf dpz dff dfsn dfsf dfsz).2.2.2.2.1) ((r_X8_attempt_1 rf pn pf tn tf lg lF dcv dtr dpn dpf dpz dff dfsn dfsf dfsz).2.2.2.2.2.1) ((r_X8_attempt_1 rf pn pf tn tf lg lF dcv dtr dpn dpf dpz dff dfsn dfsf dfsz).2.2.2.2.2.2.1) ((r_X8_attempt_1 rf pn pf tn tf lg lF dcv dtr dpn dpf dpz dff dfsn dfsf dfsz).2.2.2.2.2.2.2.1) ((r_X8_attempt_1 rf pn pf tn tf lg lF dcv dtr dpn dpf dpz dff dfsn dfsf dfsz).2.2.2.2.2.2.2.2.1) ((r_X8_attempt_1 rf pn pf tn tf lg lF dcv dtr dpn dpf dpz dff dfsn dfsf dfsz).2.2.2.2.2.2.2.2.2.1) ((r_X8_attempt_1 rf pn pf tn tf lg lF dcv dtr dpn dpf dpz dff dfsn dfsf dfsz).2.2.2.2.2.2.2.2.2.2.1) ((r_X8_attempt_1 rf pn pf tn tf lg lF dcv dtr dpn dpf dpz dff dfsn dfsf dfsz).2.2.2.2.2.2.2.2.2.2.2) cmn ctn kk knn ktn ((r_X9_attempt (1 : Int32) g F).2.1) ((r_X9_attempt (1 : Int32) g F).2.2) := by
  obtain ⟨r1, r2, r3, r4, r5, r6, r7, r8, r9⟩ := hR
  have q := tape_run r2 r3 r9 lg lF
  have j1 := r9.fromTape
  have f1 := fr_fromTape g F r9
  have jt := J_X9_tries (1 : Int32) (r_X9_fromTape g F).1 (r_X9_fromTape g F).2 j1 (by decide)
  unfold r_X8_attempt_1 r_X9_attempt
  rw [if_neg (show ¬ r_X9_in (1 : Int32) 0 1 = 0 by decide)]
  dsimp only
  rw [tries_eq] at jt ⊢
  obtain ⟨q1, q2, q3, q4, q5⟩ := q
  generalize r_X9_fromTape g F = v at q1 q2 q3 q4 q5 j1 f1 jt ⊢
  have j2 := j1.goThrough
  have f2 := fr_go v.1 v.2 j1
  have k2 := go_kept v.1 v.2 j1
  have gt := (goThrough_gt v.1 v.2 j1.p10).2.2
  generalize r_X9_goThrough v.1 v.2 = w at q1 j2 f2 k2 gt jt ⊢
  generalize r_X7_execute lg lF pn pf tn tf = u at q1 ⊢
  have tk := take_sim (b := 1) (bi := (1 : Int32)) (un := tn) (uf := tf) rfl (by decide) q1 (by rw [k2.2.2.2.1, k2.2.2.2.2.1]; exact q2) (r6.fr (Int.le_refl T) (f1.trans f2)) gt (by omega)
  generalize trb (1 : Int32) w.1 w.2 = t at tk jt ⊢
  generalize r_X0_take dcv dtr dpn dpf dpz dff dfsn dfsf dfsz u.1 u.2 tn tf = r at tk ⊢
  obtain ⟨t1, t2, t3, t4, t5⟩ := tk
  have j3 := jt.keeps
  have f3 := fr_keeps t.2.1 t.2.2
  have k3 := keeps_15 t.2.1 t.2.2
  have q1b : TR u.1 u.2 t.2.1 t.2.2 := by
    rw [t2]
    exact q1.of (t5 11 (by decide)) (t5 13 (by decide)) (t5 19 (by decide))
  have l3 := keeps_LR q1b
  generalize r_X9_keeps t.2.1 t.2.2 = y at j3 f3 k3 l3 ⊢
  have f := f1.trans f2
  have fp : PR pn pf t.2.1 t.2.2 := (r2.fr f).of (by rw [t2]) (t5 1 (by decide)) (t5 2 (by decide)) (t5 3 (by decide)) (t5 4 (by decide))
  have ot := (r5.fr (Int.le_refl T) f).other (T' := T + 60) (by omega) t4 (by decide) (by decide) (by decide)
  refine ⟨t1, ?_, fp.fr f3, ?_, l3, ot.fr (Int.le_refl _) f3, t3.fr (by omega) f3, r7, ?_, j3⟩
  · rw [f3.1 6 (by decide), t2, f.1 6 (by decide)]
    exact r1
  · rw [k3.2.2.1, k3.2.2.2.1, t2, t5 7 (by decide), k2.1, k2.2.1, q3, q4]
    exact r3
  · rw [k3.2.1, t2, k2.2.2.1, q5]
    exact r8
