theorem ix24n {x : Int32} {k p : Nat} (hp : x.toInt = (p : Int)) (h80 : p < 80) (hk : k < 24) : ((24 : Int32) * x + nI k).toNatClampNeg = 24 * p + k := by
  rw [ix24 (by omega) hk, hp]
  rfl
theorem tape_of {n : Int32} {f : Nat → Int32} {m : Int32} {e : Nat → Int32} (h : IR n f m e) (e2 : Nat → Int32) (he : ∀ k, k < 24 → e k = e2 k) : IR n f m e2 := by
  obtain ⟨a, b, c⟩ := h
  refine ⟨a, b, fun k hk => ?_⟩
  rw [← he k (by omega)]
  exact c k hk
theorem sh_get {M : Nat} {n : Int32} {f z : Nat → Int32} {m : Int32} {e y : Nat → Int32} {o : Nat} (h : SHR M n f z m e y o) {i : Int32} (hi : 0 ≤ i.toInt ∧ i.toInt < n.toInt) : IR (z i.toNatClampNeg) (fun k => f (24 * i.toInt.toNat + k)) (y (o + i.toInt.toNat)) (fun k => e (24 * (o + i.toInt.toNat) + k)) := by
  rw [tN]
  exact h.2.2 i.toInt.toNat (by rw [← h.1]; omega)
theorem has6 {M : Nat} {i n m : Int32} {f z : Nat → Int32} (hn : n = m) (hb : 0 ≤ m.toInt ∧ m.toInt ≤ (M : Int)) (hM : M ≤ 80) : (r_X6_has i M n f z = 0 ↔ r_X9_in i 0 (m - 1) = 0) ∧ (¬ r_X6_has i M n f z = 0 → 0 ≤ i.toInt ∧ i.toInt < n.toInt) := by
  subst hn
  have z0 : (0 : Int32).toInt = 0 := rfl
  have e1 : (1 : Int32).toInt = 1 := rfl
  have es : (n - 1).toInt = n.toInt - 1 := by rw [fb_subI (by rw [e1]; omega) (by rw [e1]; omega), e1]
  unfold r_X6_has r_X9_in
  by_cases a : i < 0
  · rw [if_pos a, if_pos a]
    exact ⟨⟨fun _ => rfl, fun _ => rfl⟩, fun q => absurd rfl q⟩
  · rw [if_neg a, if_neg a]
    by_cases b : n ≤ i
    · rw [if_pos b, if_pos (show n - 1 < i by simp only [sg_lt, sg_le] at *; omega)]
      exact ⟨⟨fun _ => rfl, fun _ => rfl⟩, fun q => absurd rfl q⟩
    · rw [if_neg b, if_neg (show ¬ nI M ≤ i by simp only [sg_le] at *; rw [nI_toInt (by omega)]; omega), if_neg (show ¬ n - 1 < i by simp only [sg_lt, sg_le] at *; omega)]
      refine ⟨⟨fun q => absurd q (by decide), fun q => absurd q (by decide)⟩, fun _ => ?_⟩
      simp only [sg_lt, sg_le] at *
      omega
theorem has3i {i n m : Int32} {f sf sz : Nat → Int32} (hn : n = m) (hb : 0 ≤ m.toInt ∧ m.toInt ≤ 20) : (r_X3_has i f n sf sz = 0 ↔ r_X9_in i 0 (m - 1) = 0) ∧ (¬ r_X3_has i f n sf sz = 0 → 0 ≤ i.toInt ∧ i.toInt < n.toInt) := by
  subst hn
  have z0 : (0 : Int32).toInt = 0 := rfl
  have e1 : (1 : Int32).toInt = 1 := rfl
  have e20 : (20 : Int32).toInt = 20 := rfl
  have es : (n - 1).toInt = n.toInt - 1 := by rw [fb_subI (by rw [e1]; omega) (by rw [e1]; omega), e1]
  unfold r_X3_has r_X9_in
  by_cases a : i < 0
  · rw [if_pos a, if_pos a]
    exact ⟨⟨fun _ => rfl, fun _ => rfl⟩, fun q => absurd rfl q⟩
  · rw [if_neg a, if_neg a]
    by_cases c : (20 : Int32) ≤ i
    · rw [if_pos c, if_pos (show n - 1 < i by simp only [sg_lt, sg_le] at *; omega)]
      exact ⟨⟨fun _ => rfl, fun _ => rfl⟩, fun q => absurd rfl q⟩
    · rw [if_neg c]
      by_cases b : n ≤ i
      · rw [if_pos b, if_pos (show n - 1 < i by simp only [sg_lt, sg_le] at *; omega)]
        exact ⟨⟨fun _ => rfl, fun _ => rfl⟩, fun q => absurd rfl q⟩
      · rw [if_neg b, if_neg (show ¬ n - 1 < i by simp only [sg_lt, sg_le] at *; omega)]
        refine ⟨⟨fun q => absurd q (by decide), fun q => absurd q (by decide)⟩, fun _ => ?_⟩
        simp only [sg_lt, sg_le] at *
        omega
theorem isF_b {bi i : Int32} {b : Nat} {g : Nat → Int32} {F : Nat → Nat → Int32} (hb : bi.toInt = (b : Int)) (hb1 : b < 2) : r_X9_isFault bi i g F = 0 ↔ r_X9_in i 0 (F 33 b - 1) = 0 := by
  have hbn : bi.toNatClampNeg = b := by rw [tN, hb]; omega
  have hi : ¬ r_X9_in bi 0 1 = 0 := by
    have z0 : (0 : Int32).toInt = 0 := rfl
    have e1 : (1 : Int32).toInt = 1 := rfl
    unfold r_X9_in
    rw [if_neg (show ¬ bi < 0 by simp only [sg_lt]; omega), if_neg (show ¬ (1 : Int32) < bi by simp only [sg_lt]; omega)]
    decide
  unfold r_X9_isFault
  rw [if_neg hi, hbn]
  by_cases c : r_X9_in i 0 (F 33 b - 1) = 0
  · rw [if_pos c]
    exact ⟨fun _ => c, fun _ => rfl⟩
  · rw [if_neg c]
    exact ⟨fun k => absurd k (by decide), fun k => absurd k c⟩
/-- the tape is what the input was -/
theorem to_tape {n : Int32} {f : Nat → Int32} {g : Nat → Int32} {F : Nat → Nat → Int32} (hI : IR n f (g 10) (F 9)) (hJ : J g F) : (r_X9_toTape g F).1 = n ∧ IR n f ((r_X9_toTape g F).2.1 8) ((r_X9_toTape g F).2.2 7) ∧ (r_X9_toTape g F).2.1 39 = g 39 := by
  rw [cl_toTape g F (b24 hJ.p10)]
  refine ⟨hI.1.symm, ?_, rfl⟩
  show IR n f (g 10) (cpy (g 10).toInt.toNat (F 9) (F 7))
  exact hI.cp _
theorem t_pool_0 {T : Int} {rf : Int32} {pn : Int32} {pf : Nat → Int32} {tn : Int32} {tf : Nat → Int32} {sn : Int32} {lg : Nat → Int32} {lF : Nat → Nat → Int32} {bcv : Nat → Int32} {btr : Int32} {bpn : Int32} {bpf : Nat → Int32} {bpz : Nat → Int32} {bff : Nat → Int32} {bfsn : Int32} {bfsf : Nat → Int32} {bfsz : Nat → Int32} {dcv : Nat → Int32} {dtr : Int32} {dpn : Int32} {dpf : Nat → Int32} {dpz : Nat → Int32} {dff : Nat → Int32} {dfsn : Int32} {dfsf : Nat → Int32} {dfsz : Nat → Int32} {cmn : Int32} {ctn : Int32} {kk : Int32} {knn : Int32} {ktn : Int32} {g : Nat → Int32} {F : Nat → Nat → Int32} (hR : RR T rf pn pf tn tf sn lg lF bcv btr bpn bpf bpz bff bfsn bfsf bfsz dcv dtr dpn dpf dpz dff dfsn dfsf dfsz cmn ctn kk knn ktn g F) (hT : T ≤ 1000000) (i0 : Int32) : (r_X8_pool_0 i0 rf tn tf bcv btr bpn bpf bpz bff bfsn bfsf bfsz).1 = (r_X9_pool (0 : Int32) i0 g F).1 ∧ RR (T + 60) rf pn pf ((r_X8_pool_0 i0 rf tn tf bcv btr bpn bpf bpz bff bfsn bfsf bfsz).2.1) ((r_X8_pool_0 i0 rf tn tf bcv btr bpn bpf bpz bff bfsn bfsf bfsz).2.2) sn lg lF bcv btr bpn bpf bpz bff bfsn bfsf bfsz dcv dtr dpn dpf dpz dff dfsn dfsf dfsz cmn ctn kk knn ktn ((r_X9_pool (0 : Int32) i0 g F).2.1) ((r_X9_pool (0 : Int32) i0 g F).2.2) := by
  obtain ⟨r1, r2, r3, r4, r5, r6, r7, r8, r9⟩ := hR
  have sh := r5.2.1
  have hh := has6 (f := bpf) (z := bpz) (i := i0) sh.1 sh.2.1 (by omega)
  unfold r_X8_pool_0 r_X9_pool
  rw [if_neg (show ¬ r_X9_in (0 : Int32) 0 1 = 0 by decide), show (0 : Int32).toNatClampNeg = 0 from rfl]
  by_cases c : r_X6_has i0 40 bpn bpf bpz = 0
  · rw [if_pos c, if_pos (hh.1.mp c)]
    exact ⟨rfl, r1, r2, r3, r4, r5.le (by omega), r6.le (by omega), r7, r8, r9⟩
  · rw [if_neg c, if_neg (fun k => c (hh.1.mpr k))]
    dsimp only
    have hi := hh.2 c
    have hn24 : bpn.toInt ≤ 40 := by rw [sh.1]; exact sh.2.1.2
    have hg := sh_get sh hi
    have ht := r3.rng
    rw [copyTo_cl (M := 40) hi hn24 (by omega) (by rw [hg.1]; exact hg.2.1) ht.1]
    have ei : ((40 : Int32) * (0 : Int32) + i0).toInt = ((40 * 0 + i0.toInt.toNat : Nat) : Int) := by
      rw [mad_i (k := 40) rfl (by omega) (by decide) (by omega)]
      show (40 : Int) * 0 + _ = _
      omega
    have en : ((40 : Int32) * (0 : Int32) + i0).toNatClampNeg = 40 * 0 + i0.toInt.toNat := by rw [tN, ei]; rfl
    have j1 := J_X9_fromPool ((40 : Int32) * (0 : Int32) + i0) g F r9 (by rw [ei]; omega)
    have f1 := fr_fromPool ((40 : Int32) * (0 : Int32) + i0) g F r9
    have hI : IR (bpz i0.toNatClampNeg) (cpy (bpz i0.toNatClampNeg).toInt.toNat (fun k => bpf (24 * i0.toInt.toNat + k)) tf) ((r_X9_fromPool ((40 : Int32) * (0 : Int32) + i0) g F).1 10) ((r_X9_fromPool ((40 : Int32) * (0 : Int32) + i0) g F).2 9) := by
      rw [cl_fromPool _ g F (b24 (r9.q29 _))]
      show IR _ _ (F 29 ((40 : Int32) * (0 : Int32) + i0).toNatClampNeg) (cpy (F 29 ((40 : Int32) * (0 : Int32) + i0).toNatClampNeg).toInt.toNat (fun k => F 28 ((24 : Int32) * ((40 : Int32) * (0 : Int32) + i0) + nI k).toNatClampNeg) (F 9))
      rw [en]
      exact ((tape_of hg _ (fun k hk => by rw [ix24n ei (by omega) hk])).cp2 tf).cp (F 9)
    have e39 : (r_X9_fromPool ((40 : Int32) * (0 : Int32) + i0) g F).1 39 = g 39 := by rw [cl_fromPool _ g F (b24 (r9.q29 _))]; rfl
    have l0 : Fr [10] [9] g F (r_X9_fromPool ((40 : Int32) * (0 : Int32) + i0) g F).1 (r_X9_fromPool ((40 : Int32) * (0 : Int32) + i0) g F).2 := by
      rw [cl_fromPool _ g F (b24 (r9.q29 _))]
      exact Fr.v (by decide) (Fr.u (by decide) Fr.refl)
    generalize r_X9_fromPool ((40 : Int32) * (0 : Int32) + i0) g F = v at j1 f1 hI e39 l0 ⊢
    have tt := to_tape hI j1
    have j2 := j1.toTape
    have f2 := fr_toTape v.1 v.2 j1
    have l2 : Fr [8] [7] v.1 v.2 (r_X9_toTape v.1 v.2).2.1 (r_X9_toTape v.1 v.2).2.2 := by
      rw [cl_toTape v.1 v.2 (b24 j1.p10)]
      exact Fr.v (by decide) (Fr.u (by decide) Fr.refl)
    have l1 : LR lg lF v.1 v.2 := r4.of (l0.1 20 (by decide)) (l0.1 21 (by decide)) (l0.1 22 (by decide)) (l0.1 23 (by decide)) (l0.1 24 (by decide)) (l0.2 25 (by decide)) (l0.2 26 (by decide)) (l0.2 27 (by decide))
    generalize r_X9_toTape v.1 v.2 = w at tt j2 f2 l2 ⊢
    have f := f1.trans f2
    refine ⟨tt.1.symm, by rw [f.1 6 (by decide)]; exact r1, r2.fr f, tt.2.1, l1.of (l2.1 20 (by decide)) (l2.1 21 (by decide)) (l2.1 22 (by decide)) (l2.1 23 (by decide)) (l2.1 24 (by decide)) (l2.2 25 (by decide)) (l2.2 26 (by decide)) (l2.2 27 (by decide)), r5.fr (by omega) f, r6.fr (by omega) f, r7, by rw [tt.2.2, e39]; exact r8, j2⟩
theorem t_first_0 {T : Int} {rf : Int32} {pn : Int32} {pf : Nat → Int32} {tn : Int32} {tf : Nat → Int32} {sn : Int32} {lg : Nat → Int32} {lF : Nat → Nat → Int32} {bcv : Nat → Int32} {btr : Int32} {bpn : Int32} {bpf : Nat → Int32} {bpz : Nat → Int32} {bff : Nat → Int32} {bfsn : Int32} {bfsf : Nat → Int32} {bfsz : Nat → Int32} {dcv : Nat → Int32} {dtr : Int32} {dpn : Int32} {dpf : Nat → Int32} {dpz : Nat → Int32} {dff : Nat → Int32} {dfsn : Int32} {dfsf : Nat → Int32} {dfsz : Nat → Int32} {cmn : Int32} {ctn : Int32} {kk : Int32} {knn : Int32} {ktn : Int32} {g : Nat → Int32} {F : Nat → Nat → Int32} (hR : RR T rf pn pf tn tf sn lg lF bcv btr bpn bpf bpz bff bfsn bfsf bfsz dcv dtr dpn dpf dpz dff dfsn dfsf dfsz cmn ctn kk knn ktn g F) (hT : T ≤ 1000000) (fi : Int32) : (r_X8_first_0 fi rf tn tf bcv btr bpn bpf bpz bff bfsn bfsf bfsz).1 = (r_X9_first (0 : Int32) fi g F).1 ∧ RR (T + 60) rf pn pf ((r_X8_first_0 fi rf tn tf bcv btr bpn bpf bpz bff bfsn bfsf bfsz).2.1) ((r_X8_first_0 fi rf tn tf bcv btr bpn bpf bpz bff bfsn bfsf bfsz).2.2) sn lg lF bcv btr bpn bpf bpz bff bfsn bfsf bfsz dcv dtr dpn dpf dpz dff dfsn dfsf dfsz cmn ctn kk knn ktn ((r_X9_first (0 : Int32) fi g F).2.1) ((r_X9_first (0 : Int32) fi g F).2.2) := by
  obtain ⟨r1, r2, r3, r4, r5, r6, r7, r8, r9⟩ := hR
  have sh := r5.2.2.1
  have hh := has3i (f := bff) (sf := bfsf) (sz := bfsz) (i := fi) sh.1 sh.2.1
  unfold r_X8_first_0 r_X9_first
  by_cases c : r_X3_has fi bff bfsn bfsf bfsz = 0
  · rw [if_pos c, if_pos ((isF_b (b := 0) rfl (by decide)).mpr (hh.1.mp c))]
    exact ⟨rfl, r1, r2, r3, r4, r5.le (by omega), r6.le (by omega), r7, r8, r9⟩
  · rw [if_neg c, if_neg (fun k => c (hh.1.mpr ((isF_b (b := 0) rfl (by decide)).mp k)))]
    dsimp only
    have hi := hh.2 c
    have hn24 : bfsn.toInt ≤ 20 := by rw [sh.1]; exact sh.2.1.2
    have hg := sh_get sh hi
    have ht := r3.rng
    rw [copyTo_cl (M := 20) hi hn24 (by omega) (by rw [hg.1]; exact hg.2.1) ht.1]
    have ei : ((20 : Int32) * (0 : Int32) + fi).toInt = ((20 * 0 + fi.toInt.toNat : Nat) : Int) := by
      rw [mad_i (k := 20) rfl (by omega) (by decide) (by omega)]
      show (20 : Int) * 0 + _ = _
      omega
    have en : ((20 : Int32) * (0 : Int32) + fi).toNatClampNeg = 20 * 0 + fi.toInt.toNat := by rw [tN, ei]; rfl
    have j1 := J_X9_fromFirst ((20 : Int32) * (0 : Int32) + fi) g F r9 (by rw [ei]; omega)
    have f1 := fr_fromFirst ((20 : Int32) * (0 : Int32) + fi) g F r9
    have hI : IR (bfsz fi.toNatClampNeg) (cpy (bfsz fi.toNatClampNeg).toInt.toNat (fun k => bfsf (24 * fi.toInt.toNat + k)) tf) ((r_X9_fromFirst ((20 : Int32) * (0 : Int32) + fi) g F).1 10) ((r_X9_fromFirst ((20 : Int32) * (0 : Int32) + fi) g F).2 9) := by
      rw [cl_fromFirst _ g F (b24 (r9.q36 _))]
      show IR _ _ (F 36 ((20 : Int32) * (0 : Int32) + fi).toNatClampNeg) (cpy (F 36 ((20 : Int32) * (0 : Int32) + fi).toNatClampNeg).toInt.toNat (fun k => F 35 ((24 : Int32) * ((20 : Int32) * (0 : Int32) + fi) + nI k).toNatClampNeg) (F 9))
      rw [en]
      exact ((tape_of hg _ (fun k hk => by rw [ix24n ei (by omega) hk])).cp2 tf).cp (F 9)
    have e39 : (r_X9_fromFirst ((20 : Int32) * (0 : Int32) + fi) g F).1 39 = g 39 := by rw [cl_fromFirst _ g F (b24 (r9.q36 _))]; rfl
    have l0 : Fr [10] [9] g F (r_X9_fromFirst ((20 : Int32) * (0 : Int32) + fi) g F).1 (r_X9_fromFirst ((20 : Int32) * (0 : Int32) + fi) g F).2 := by
      rw [cl_fromFirst _ g F (b24 (r9.q36 _))]
      exact Fr.v (by decide) (Fr.u (by decide) Fr.refl)
    generalize r_X9_fromFirst ((20 : Int32) * (0 : Int32) + fi) g F = v at j1 f1 hI e39 l0 ⊢
    have tt := to_tape hI j1
    have j2 := j1.toTape
    have f2 := fr_toTape v.1 v.2 j1
    have l2 : Fr [8] [7] v.1 v.2 (r_X9_toTape v.1 v.2).2.1 (r_X9_toTape v.1 v.2).2.2 := by
      rw [cl_toTape v.1 v.2 (b24 j1.p10)]
      exact Fr.v (by decide) (Fr.u (by decide) Fr.refl)
    have l1 : LR lg lF v.1 v.2 := r4.of (l0.1 20 (by decide)) (l0.1 21 (by decide)) (l0.1 22 (by decide)) (l0.1 23 (by decide)) (l0.1 24 (by decide)) (l0.2 25 (by decide)) (l0.2 26 (by decide)) (l0.2 27 (by decide))
    generalize r_X9_toTape v.1 v.2 = w at tt j2 f2 l2 ⊢
    have f := f1.trans f2
    refine ⟨tt.1.symm, by rw [f.1 6 (by decide)]; exact r1, r2.fr f, tt.2.1, l1.of (l2.1 20 (by decide)) (l2.1 21 (by decide)) (l2.1 22 (by decide)) (l2.1 23 (by decide)) (l2.1 24 (by decide)) (l2.2 25 (by decide)) (l2.2 26 (by decide)) (l2.2 27 (by decide)), r5.fr (by omega) f, r6.fr (by omega) f, r7, by rw [tt.2.2, e39]; exact r8, j2⟩
theorem t_fault_0 {T : Int} {rf : Int32} {pn : Int32} {pf : Nat → Int32} {tn : Int32} {tf : Nat → Int32} {sn : Int32} {lg : Nat → Int32} {lF : Nat → Nat → Int32} {bcv : Nat → Int32} {btr : Int32} {bpn : Int32} {bpf : Nat → Int32} {bpz : Nat → Int32} {bff : Nat → Int32} {bfsn : Int32} {bfsf : Nat → Int32} {bfsz : Nat → Int32} {dcv : Nat → Int32} {dtr : Int32} {dpn : Int32} {dpf : Nat → Int32} {dpz : Nat → Int32} {dff : Nat → Int32} {dfsn : Int32} {dfsf : Nat → Int32} {dfsz : Nat → Int32} {cmn : Int32} {ctn : Int32} {kk : Int32} {knn : Int32} {ktn : Int32} {g : Nat → Int32} {F : Nat → Nat → Int32} (hR : RR T rf pn pf tn tf sn lg lF bcv btr bpn bpf bpz bff bfsn bfsf bfsz dcv dtr dpn dpf dpz dff dfsn dfsf dfsz cmn ctn kk knn ktn g F) (hT : T ≤ 1000000) (fi what : Int32) : r_X3_part fi what bff bfsn bfsf bfsz = r_X9_fault (0 : Int32) fi what g F := by
  obtain ⟨r1, r2, r3, r4, r5, r6, r7, r8, r9⟩ := hR
  have sh := r5.2.2.1
  have hF := r5.2.2.2.1
  have hh := has3i (f := bff) (sf := bfsf) (sz := bfsz) (i := fi) sh.1 sh.2.1
  unfold r_X3_part r_X9_fault
  by_cases c : r_X3_has fi bff bfsn bfsf bfsz = 0
  · rw [if_pos c, if_pos ((isF_b (b := 0) rfl (by decide)).mpr (hh.1.mp c))]
  · rw [if_neg c, if_neg (fun k => c (hh.1.mpr ((isF_b (b := 0) rfl (by decide)).mp k)))]
    have hi := hh.2 c
    have hn20 : bfsn.toInt ≤ 20 := by rw [sh.1]; exact sh.2.1.2
    have z0 : (0 : Int32).toInt = 0 := rfl
    have e4 : (4 : Int32).toInt = 4 := rfl
    have e5 : (5 : Int32).toInt = 5 := rfl
    unfold r_X9_in
    by_cases d : what < 0
    · rw [if_pos d, if_pos d, if_pos rfl]
    · rw [if_neg d, if_neg d]
      by_cases e : (5 : Int32) ≤ what
      · rw [if_pos e, if_pos (show (4 : Int32) < what by simp only [sg_le, sg_lt] at *; omega), if_pos rfl]
      · have d2 := d
        have e2 := e
        simp only [sg_le, sg_lt] at d2 e2
        rw [if_neg e, if_neg (show ¬ (4 : Int32) < what by simp only [sg_le, sg_lt] at *; omega), if_neg (by decide)]
        have ei : ((20 : Int32) * (0 : Int32) + fi).toInt = 20 * 0 + fi.toInt := f20_i (b := 0) rfl (by decide) (by omega)
        rw [ix5 (j := what.toInt.toNat) (by omega) (by omega) (by omega), ix5' (j := what.toInt.toNat) (by rw [ei]; omega) (by omega) (by omega), show ((20 : Int32) * (0 : Int32) + fi).toInt.toNat = 20 * 0 + fi.toInt.toNat by rw [ei]; omega]
        exact hF fi.toInt.toNat (by omega) what.toInt.toNat (by omega)
theorem t_pool_1 {T : Int} {rf : Int32} {pn : Int32} {pf : Nat → Int32} {tn : Int32} {tf : Nat → Int32} {sn : Int32} {lg : Nat → Int32} {lF : Nat → Nat → Int32} {bcv : Nat → Int32} {btr : Int32} {bpn : Int32} {bpf : Nat → Int32} {bpz : Nat → Int32} {bff : Nat → Int32} {bfsn : Int32} {bfsf : Nat → Int32} {bfsz : Nat → Int32} {dcv : Nat → Int32} {dtr : Int32} {dpn : Int32} {dpf : Nat → Int32} {dpz : Nat → Int32} {dff : Nat → Int32} {dfsn : Int32} {dfsf : Nat → Int32} {dfsz : Nat → Int32} {cmn : Int32} {ctn : Int32} {kk : Int32} {knn : Int32} {ktn : Int32} {g : Nat → Int32} {F : Nat → Nat → Int32} (hR : RR T rf pn pf tn tf sn lg lF bcv btr bpn bpf bpz bff bfsn bfsf bfsz dcv dtr dpn dpf dpz dff dfsn dfsf dfsz cmn ctn kk knn ktn g F) (hT : T ≤ 1000000) (i0 : Int32) : (r_X8_pool_1 i0 rf tn tf dcv dtr dpn dpf dpz dff dfsn dfsf dfsz).1 = (r_X9_pool (1 : Int32) i0 g F).1 ∧ RR (T + 60) rf pn pf ((r_X8_pool_1 i0 rf tn tf dcv dtr dpn dpf dpz dff dfsn dfsf dfsz).2.1) ((r_X8_pool_1 i0 rf tn tf dcv dtr dpn dpf dpz dff dfsn dfsf dfsz).2.2) sn lg lF bcv btr bpn bpf bpz bff bfsn bfsf bfsz dcv dtr dpn dpf dpz dff dfsn dfsf dfsz cmn ctn kk knn ktn ((r_X9_pool (1 : Int32) i0 g F).2.1) ((r_X9_pool (1 : Int32) i0 g F).2.2) := by
  obtain ⟨r1, r2, r3, r4, r5, r6, r7, r8, r9⟩ := hR
  have sh := r6.2.1
  have hh := has6 (f := dpf) (z := dpz) (i := i0) sh.1 sh.2.1 (by omega)
  unfold r_X8_pool_1 r_X9_pool
  rw [if_neg (show ¬ r_X9_in (1 : Int32) 0 1 = 0 by decide), show (1 : Int32).toNatClampNeg = 1 from rfl]
  by_cases c : r_X6_has i0 40 dpn dpf dpz = 0
  · rw [if_pos c, if_pos (hh.1.mp c)]
    exact ⟨rfl, r1, r2, r3, r4, r5.le (by omega), r6.le (by omega), r7, r8, r9⟩
  · rw [if_neg c, if_neg (fun k => c (hh.1.mpr k))]
    dsimp only
    have hi := hh.2 c
    have hn24 : dpn.toInt ≤ 40 := by rw [sh.1]; exact sh.2.1.2
    have hg := sh_get sh hi
    have ht := r3.rng
    rw [copyTo_cl (M := 40) hi hn24 (by omega) (by rw [hg.1]; exact hg.2.1) ht.1]
    have ei : ((40 : Int32) * (1 : Int32) + i0).toInt = ((40 * 1 + i0.toInt.toNat : Nat) : Int) := by
      rw [mad_i (k := 40) rfl (by omega) (by decide) (by omega)]
      show (40 : Int) * 1 + _ = _
      omega
    have en : ((40 : Int32) * (1 : Int32) + i0).toNatClampNeg = 40 * 1 + i0.toInt.toNat := by rw [tN, ei]; rfl
    have j1 := J_X9_fromPool ((40 : Int32) * (1 : Int32) + i0) g F r9 (by rw [ei]; omega)
    have f1 := fr_fromPool ((40 : Int32) * (1 : Int32) + i0) g F r9
    have hI : IR (dpz i0.toNatClampNeg) (cpy (dpz i0.toNatClampNeg).toInt.toNat (fun k => dpf (24 * i0.toInt.toNat + k)) tf) ((r_X9_fromPool ((40 : Int32) * (1 : Int32) + i0) g F).1 10) ((r_X9_fromPool ((40 : Int32) * (1 : Int32) + i0) g F).2 9) := by
      rw [cl_fromPool _ g F (b24 (r9.q29 _))]
      show IR _ _ (F 29 ((40 : Int32) * (1 : Int32) + i0).toNatClampNeg) (cpy (F 29 ((40 : Int32) * (1 : Int32) + i0).toNatClampNeg).toInt.toNat (fun k => F 28 ((24 : Int32) * ((40 : Int32) * (1 : Int32) + i0) + nI k).toNatClampNeg) (F 9))
      rw [en]
      exact ((tape_of hg _ (fun k hk => by rw [ix24n ei (by omega) hk])).cp2 tf).cp (F 9)
    have e39 : (r_X9_fromPool ((40 : Int32) * (1 : Int32) + i0) g F).1 39 = g 39 := by rw [cl_fromPool _ g F (b24 (r9.q29 _))]; rfl
    have l0 : Fr [10] [9] g F (r_X9_fromPool ((40 : Int32) * (1 : Int32) + i0) g F).1 (r_X9_fromPool ((40 : Int32) * (1 : Int32) + i0) g F).2 := by
      rw [cl_fromPool _ g F (b24 (r9.q29 _))]
      exact Fr.v (by decide) (Fr.u (by decide) Fr.refl)
    generalize r_X9_fromPool ((40 : Int32) * (1 : Int32) + i0) g F = v at j1 f1 hI e39 l0 ⊢
    have tt := to_tape hI j1
    have j2 := j1.toTape
    have f2 := fr_toTape v.1 v.2 j1
    have l2 : Fr [8] [7] v.1 v.2 (r_X9_toTape v.1 v.2).2.1 (r_X9_toTape v.1 v.2).2.2 := by
      rw [cl_toTape v.1 v.2 (b24 j1.p10)]
      exact Fr.v (by decide) (Fr.u (by decide) Fr.refl)
    have l1 : LR lg lF v.1 v.2 := r4.of (l0.1 20 (by decide)) (l0.1 21 (by decide)) (l0.1 22 (by decide)) (l0.1 23 (by decide)) (l0.1 24 (by decide)) (l0.2 25 (by decide)) (l0.2 26 (by decide)) (l0.2 27 (by decide))
    generalize r_X9_toTape v.1 v.2 = w at tt j2 f2 l2 ⊢
    have f := f1.trans f2
    refine ⟨tt.1.symm, by rw [f.1 6 (by decide)]; exact r1, r2.fr f, tt.2.1, l1.of (l2.1 20 (by decide)) (l2.1 21 (by decide)) (l2.1 22 (by decide)) (l2.1 23 (by decide)) (l2.1 24 (by decide)) (l2.2 25 (by decide)) (l2.2 26 (by decide)) (l2.2 27 (by decide)), r5.fr (by omega) f, r6.fr (by omega) f, r7, by rw [tt.2.2, e39]; exact r8, j2⟩
theorem t_first_1 {T : Int} {rf : Int32} {pn : Int32} {pf : Nat → Int32} {tn : Int32} {tf : Nat → Int32} {sn : Int32} {lg : Nat → Int32} {lF : Nat → Nat → Int32} {bcv : Nat → Int32} {btr : Int32} {bpn : Int32} {bpf : Nat → Int32} {bpz : Nat → Int32} {bff : Nat → Int32} {bfsn : Int32} {bfsf : Nat → Int32} {bfsz : Nat → Int32} {dcv : Nat → Int32} {dtr : Int32} {dpn : Int32} {dpf : Nat → Int32} {dpz : Nat → Int32} {dff : Nat → Int32} {dfsn : Int32} {dfsf : Nat → Int32} {dfsz : Nat → Int32} {cmn : Int32} {ctn : Int32} {kk : Int32} {knn : Int32} {ktn : Int32} {g : Nat → Int32} {F : Nat → Nat → Int32} (hR : RR T rf pn pf tn tf sn lg lF bcv btr bpn bpf bpz bff bfsn bfsf bfsz dcv dtr dpn dpf dpz dff dfsn dfsf dfsz cmn ctn kk knn ktn g F) (hT : T ≤ 1000000) (fi : Int32) : (r_X8_first_1 fi rf tn tf dcv dtr dpn dpf dpz dff dfsn dfsf dfsz).1 = (r_X9_first (1 : Int32) fi g F).1 ∧ RR (T + 60) rf pn pf ((r_X8_first_1 fi rf tn tf dcv dtr dpn dpf dpz dff dfsn dfsf dfsz).2.1) ((r_X8_first_1 fi rf tn tf dcv dtr dpn dpf dpz dff dfsn dfsf dfsz).2.2) sn lg lF bcv btr bpn bpf bpz bff bfsn bfsf bfsz dcv dtr dpn dpf dpz dff dfsn dfsf dfsz cmn ctn kk knn ktn ((r_X9_first (1 : Int32) fi g F).2.1) ((r_X9_first (1 : Int32) fi g F).2.2) := by
  obtain ⟨r1, r2, r3, r4, r5, r6, r7, r8, r9⟩ := hR
  have sh := r6.2.2.1
  have hh := has3i (f := dff) (sf := dfsf) (sz := dfsz) (i := fi) sh.1 sh.2.1
  unfold r_X8_first_1 r_X9_first
  by_cases c : r_X3_has fi dff dfsn dfsf dfsz = 0
  · rw [if_pos c, if_pos ((isF_b (b := 1) rfl (by decide)).mpr (hh.1.mp c))]
    exact ⟨rfl, r1, r2, r3, r4, r5.le (by omega), r6.le (by omega), r7, r8, r9⟩
  · rw [if_neg c, if_neg (fun k => c (hh.1.mpr ((isF_b (b := 1) rfl (by decide)).mp k)))]
    dsimp only
    have hi := hh.2 c
    have hn24 : dfsn.toInt ≤ 20 := by rw [sh.1]; exact sh.2.1.2
    have hg := sh_get sh hi
    have ht := r3.rng
    rw [copyTo_cl (M := 20) hi hn24 (by omega) (by rw [hg.1]; exact hg.2.1) ht.1]
    have ei : ((20 : Int32) * (1 : Int32) + fi).toInt = ((20 * 1 + fi.toInt.toNat : Nat) : Int) := by
      rw [mad_i (k := 20) rfl (by omega) (by decide) (by omega)]
      show (20 : Int) * 1 + _ = _
      omega
    have en : ((20 : Int32) * (1 : Int32) + fi).toNatClampNeg = 20 * 1 + fi.toInt.toNat := by rw [tN, ei]; rfl
    have j1 := J_X9_fromFirst ((20 : Int32) * (1 : Int32) + fi) g F r9 (by rw [ei]; omega)
    have f1 := fr_fromFirst ((20 : Int32) * (1 : Int32) + fi) g F r9
    have hI : IR (dfsz fi.toNatClampNeg) (cpy (dfsz fi.toNatClampNeg).toInt.toNat (fun k => dfsf (24 * fi.toInt.toNat + k)) tf) ((r_X9_fromFirst ((20 : Int32) * (1 : Int32) + fi) g F).1 10) ((r_X9_fromFirst ((20 : Int32) * (1 : Int32) + fi) g F).2 9) := by
      rw [cl_fromFirst _ g F (b24 (r9.q36 _))]
      show IR _ _ (F 36 ((20 : Int32) * (1 : Int32) + fi).toNatClampNeg) (cpy (F 36 ((20 : Int32) * (1 : Int32) + fi).toNatClampNeg).toInt.toNat (fun k => F 35 ((24 : Int32) * ((20 : Int32) * (1 : Int32) + fi) + nI k).toNatClampNeg) (F 9))
      rw [en]
      exact ((tape_of hg _ (fun k hk => by rw [ix24n ei (by omega) hk])).cp2 tf).cp (F 9)
    have e39 : (r_X9_fromFirst ((20 : Int32) * (1 : Int32) + fi) g F).1 39 = g 39 := by rw [cl_fromFirst _ g F (b24 (r9.q36 _))]; rfl
    have l0 : Fr [10] [9] g F (r_X9_fromFirst ((20 : Int32) * (1 : Int32) + fi) g F).1 (r_X9_fromFirst ((20 : Int32) * (1 : Int32) + fi) g F).2 := by
      rw [cl_fromFirst _ g F (b24 (r9.q36 _))]
      exact Fr.v (by decide) (Fr.u (by decide) Fr.refl)
    generalize r_X9_fromFirst ((20 : Int32) * (1 : Int32) + fi) g F = v at j1 f1 hI e39 l0 ⊢
    have tt := to_tape hI j1
    have j2 := j1.toTape
    have f2 := fr_toTape v.1 v.2 j1
    have l2 : Fr [8] [7] v.1 v.2 (r_X9_toTape v.1 v.2).2.1 (r_X9_toTape v.1 v.2).2.2 := by
      rw [cl_toTape v.1 v.2 (b24 j1.p10)]
      exact Fr.v (by decide) (Fr.u (by decide) Fr.refl)
    have l1 : LR lg lF v.1 v.2 := r4.of (l0.1 20 (by decide)) (l0.1 21 (by decide)) (l0.1 22 (by decide)) (l0.1 23 (by decide)) (l0.1 24 (by decide)) (l0.2 25 (by decide)) (l0.2 26 (by decide)) (l0.2 27 (by decide))
    generalize r_X9_toTape v.1 v.2 = w at tt j2 f2 l2 ⊢
    have f := f1.trans f2
    refine ⟨tt.1.symm, by rw [f.1 6 (by decide)]; exact r1, r2.fr f, tt.2.1, l1.of (l2.1 20 (by decide)) (l2.1 21 (by decide)) (l2.1 22 (by decide)) (l2.1 23 (by decide)) (l2.1 24 (by decide)) (l2.2 25 (by decide)) (l2.2 26 (by decide)) (l2.2 27 (by decide)), r5.fr (by omega) f, r6.fr (by omega) f, r7, by rw [tt.2.2, e39]; exact r8, j2⟩
theorem t_fault_1 {T : Int} {rf : Int32} {pn : Int32} {pf : Nat → Int32} {tn : Int32} {tf : Nat → Int32} {sn : Int32} {lg : Nat → Int32} {lF : Nat → Nat → Int32} {bcv : Nat → Int32} {btr : Int32} {bpn : Int32} {bpf : Nat → Int32} {bpz : Nat → Int32} {bff : Nat → Int32} {bfsn : Int32} {bfsf : Nat → Int32} {bfsz : Nat → Int32} {dcv : Nat → Int32} {dtr : Int32} {dpn : Int32} {dpf : Nat → Int32} {dpz : Nat → Int32} {dff : Nat → Int32} {dfsn : Int32} {dfsf : Nat → Int32} {dfsz : Nat → Int32} {cmn : Int32} {ctn : Int32} {kk : Int32} {knn : Int32} {ktn : Int32} {g : Nat → Int32} {F : Nat → Nat → Int32} (hR : RR T rf pn pf tn tf sn lg lF bcv btr bpn bpf bpz bff bfsn bfsf bfsz dcv dtr dpn dpf dpz dff dfsn dfsf dfsz cmn ctn kk knn ktn g F) (hT : T ≤ 1000000) (fi what : Int32) : r_X3_part fi what dff dfsn dfsf dfsz = r_X9_fault (1 : Int32) fi what g F := by
  obtain ⟨r1, r2, r3, r4, r5, r6, r7, r8, r9⟩ := hR
  have sh := r6.2.2.1
  have hF := r6.2.2.2.1
  have hh := has3i (f := dff) (sf := dfsf) (sz := dfsz) (i := fi) sh.1 sh.2.1
  unfold r_X3_part r_X9_fault
  by_cases c : r_X3_has fi dff dfsn dfsf dfsz = 0
  · rw [if_pos c, if_pos ((isF_b (b := 1) rfl (by decide)).mpr (hh.1.mp c))]
  · rw [if_neg c, if_neg (fun k => c (hh.1.mpr ((isF_b (b := 1) rfl (by decide)).mp k)))]
    have hi := hh.2 c
    have hn20 : dfsn.toInt ≤ 20 := by rw [sh.1]; exact sh.2.1.2
    have z0 : (0 : Int32).toInt = 0 := rfl
    have e4 : (4 : Int32).toInt = 4 := rfl
    have e5 : (5 : Int32).toInt = 5 := rfl
    unfold r_X9_in
    by_cases d : what < 0
    · rw [if_pos d, if_pos d, if_pos rfl]
    · rw [if_neg d, if_neg d]
      by_cases e : (5 : Int32) ≤ what
      · rw [if_pos e, if_pos (show (4 : Int32) < what by simp only [sg_le, sg_lt] at *; omega), if_pos rfl]
      · have d2 := d
        have e2 := e
        simp only [sg_le, sg_lt] at d2 e2
        rw [if_neg e, if_neg (show ¬ (4 : Int32) < what by simp only [sg_le, sg_lt] at *; omega), if_neg (by decide)]
        have ei : ((20 : Int32) * (1 : Int32) + fi).toInt = 20 * 1 + fi.toInt := f20_i (b := 1) rfl (by decide) (by omega)
        rw [ix5 (j := what.toInt.toNat) (by omega) (by omega) (by omega), ix5' (j := what.toInt.toNat) (by rw [ei]; omega) (by omega) (by omega), show ((20 : Int32) * (1 : Int32) + fi).toInt.toNat = 20 * 1 + fi.toInt.toNat by rw [ei]; omega]
        exact hF fi.toInt.toNat (by omega) what.toInt.toNat (by omega)
