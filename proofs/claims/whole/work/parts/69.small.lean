theorem BR.le {b : Nat} {T T' : Int} {cv : Nat → Int32} {tr pn : Int32} {pf pz ff : Nat → Int32} {fsn : Int32} {fsf fsz : Nat → Int32} {F : Nat → Nat → Int32} (h : BR b T cv tr pn pf pz ff fsn fsf fsz F) (hT : T ≤ T') : BR b T' cv tr pn pf pz ff fsn fsf fsz F := h.of hT rfl rfl rfl rfl rfl rfl rfl rfl rfl
theorem IR.rng {n : Int32} {f : Nat → Int32} {m : Int32} {e : Nat → Int32} (h : IR n f m e) : 0 ≤ n.toInt ∧ n.toInt ≤ 24 := by
  rw [h.1]
  exact h.2.1
theorem t_instruction {T : Int} {rf : Int32} {pn : Int32} {pf : Nat → Int32} {tn : Int32} {tf : Nat → Int32} {sn : Int32} {lg : Nat → Int32} {lF : Nat → Nat → Int32} {bcv : Nat → Int32} {btr : Int32} {bpn : Int32} {bpf : Nat → Int32} {bpz : Nat → Int32} {bff : Nat → Int32} {bfsn : Int32} {bfsf : Nat → Int32} {bfsz : Nat → Int32} {dcv : Nat → Int32} {dtr : Int32} {dpn : Int32} {dpf : Nat → Int32} {dpz : Nat → Int32} {dff : Nat → Int32} {dfsn : Int32} {dfsf : Nat → Int32} {dfsz : Nat → Int32} {cmn : Int32} {ctn : Int32} {kk : Int32} {knn : Int32} {ktn : Int32} {g : Nat → Int32} {F : Nat → Nat → Int32} (hR : RR T rf pn pf tn tf sn lg lF bcv btr bpn bpf bpz bff bfsn bfsf bfsz dcv dtr dpn dpf dpz dff dfsn dfsf dfsz cmn ctn kk knn ktn g F) (hT : T ≤ 1000000) (place what : Int32) : (r_X8_instruction place what rf pn pf).1 = (r_X9_instruction place what g F).1 ∧ RR (T + 60) ((r_X8_instruction place what rf pn pf).2) pn pf tn tf sn lg lF bcv btr bpn bpf bpz bff bfsn bfsf bfsz dcv dtr dpn dpf dpz dff dfsn dfsf dfsz cmn ctn kk knn ktn ((r_X9_instruction place what g F).2) F := by
  obtain ⟨r1, r2, r3, r4, r5, r6, r7, r8, r9⟩ := hR
  have z : (0 : Int32).toInt = 0 := rfl
  have e1 : (1 : Int32).toInt = 1 := rfl
  have hp := r2.1
  have hb := r2.2.1
  have ed : (g 5 - 1).toInt = (g 5).toInt - 1 := by rw [fb_subI (by rw [e1]; omega) (by rw [e1]; omega), e1]
  unfold r_X8_instruction r_X9_instruction
  by_cases c : r_X5_has place pn pf = 0
  · have c2 : r_X9_in place 0 (g 5 - 1) = 0 := by
      unfold r_X9_in
      rcases has_on.mp c with k | k
      · rw [if_pos k]
      · by_cases k2 : place < 0
        · rw [if_pos k2]
        · rw [if_neg k2, if_pos]
          rw [hp] at k
          simp only [sg_le, sg_lt] at *
          omega
    rw [if_pos c, if_pos c2]
    exact ⟨rfl, rfl, r2.of rfl rfl rfl rfl rfl, r3, r4.of rfl rfl rfl rfl rfl rfl rfl rfl, r5.le (by omega), r6.le (by omega), r7, r8, r9.u 6 _ (by decide)⟩
  · have c2 : ¬ r_X9_in place 0 (g 5 - 1) = 0 := by
      intro k
      apply c
      rw [has_on]
      unfold r_X9_in at k
      by_cases k2 : place < 0
      · exact Or.inl k2
      · rw [if_neg k2] at k
        by_cases k3 : g 5 - 1 < place
        · right
          rw [hp]
          simp only [sg_le, sg_lt] at *
          omega
        · rw [if_neg k3] at k
          exact absurd k (by decide)
    rw [if_neg c, if_neg c2]
    have hin := in_y c2
    simp only [sg_le] at hin
    have hpp : 0 ≤ place.toInt ∧ place.toInt < pn.toInt := by rw [hp]; omega
    have h80 : pn.toInt ≤ 80 := by rw [hp]; exact hb.2
    have hk := r2.2.2.2.2 place.toNatClampNeg (by rw [tN]; omega)
    have e4 : (4 : Int32).toInt = 4 := rfl
    have e3 : (3 : Int32).toInt = 3 := rfl
    by_cases d : r_X5_isPart what = 0
    · have d2 : r_X9_in what 0 3 = 0 := by
        unfold r_X5_isPart at d
        unfold r_X9_in
        by_cases k : what < 0
        · rw [if_pos k]
        · rw [if_neg k] at d ⊢
          by_cases k2 : (4 : Int32) ≤ what
          · rw [if_pos]
            simp only [sg_le, sg_lt] at *
            omega
          · rw [if_neg k2] at d
            exact absurd d (by decide)
      rw [if_pos d, if_pos d2]
      exact ⟨rfl, rfl, r2.of rfl rfl rfl rfl rfl, r3, r4.of rfl rfl rfl rfl rfl rfl rfl rfl, r5.le (by omega), r6.le (by omega), r7, r8, r9.u 6 _ (by decide)⟩
    · have d2 : ¬ r_X9_in what 0 3 = 0 := by
        intro k
        apply d
        unfold r_X5_isPart
        unfold r_X9_in at k
        by_cases k1 : what < 0
        · rw [if_pos k1]
        · rw [if_neg k1] at k ⊢
          by_cases k2 : (3 : Int32) < what
          · rw [if_pos]
            simp only [sg_le, sg_lt] at *
            omega
          · rw [if_neg k2] at k
            exact absurd k (by decide)
      rw [if_neg d, if_neg d2]
      have hw := in_b (a := 0) (b := 3) d2 (by decide) (by decide)
      have ew : ∀ n : Int32, what.toInt = n.toInt → what = n := fun n e => Int32.toInt_inj.mp e
      rcases (show what.toInt = 0 ∨ what.toInt = 1 ∨ what.toInt = 2 ∨ what.toInt = 3 by omega) with k | k | k | k
      · obtain rfl := ew 0 k
        rw [if_pos rfl, part_in (j := 0) hpp h80 rfl (by omega), Nat.add_zero, hk.1]
        exact ⟨rfl, rfl, r2.of rfl rfl rfl rfl rfl, r3, r4.of rfl rfl rfl rfl rfl rfl rfl rfl, r5.le (by omega), r6.le (by omega), r7, r8, r9.u 6 _ (by decide)⟩
      · obtain rfl := ew 1 k
        rw [if_neg (by decide), if_pos rfl, part_in (j := 1) hpp h80 rfl (by omega), hk.2.1]
        exact ⟨rfl, rfl, r2.of rfl rfl rfl rfl rfl, r3, r4.of rfl rfl rfl rfl rfl rfl rfl rfl, r5.le (by omega), r6.le (by omega), r7, r8, r9.u 6 _ (by decide)⟩
      · obtain rfl := ew 2 k
        rw [if_neg (by decide), if_neg (by decide), if_pos rfl, part_in (j := 2) hpp h80 rfl (by omega), hk.2.2.1]
        exact ⟨rfl, rfl, r2.of rfl rfl rfl rfl rfl, r3, r4.of rfl rfl rfl rfl rfl rfl rfl rfl, r5.le (by omega), r6.le (by omega), r7, r8, r9.u 6 _ (by decide)⟩
      · obtain rfl := ew 3 k
        rw [if_neg (by decide), if_neg (by decide), if_neg (by decide), part_in (j := 3) hpp h80 rfl (by omega), hk.2.2.2]
        exact ⟨rfl, rfl, r2.of rfl rfl rfl rfl rfl, r3, r4.of rfl rfl rfl rfl rfl rfl rfl rfl, r5.le (by omega), r6.le (by omega), r7, r8, r9.u 6 _ (by decide)⟩
theorem byte_in (b : Int32) : r_X4_isByte b = r_X9_in b 0 255 := by
  unfold r_X4_isByte r_X9_in
  refine ite_cg Iff.rfl rfl (ite_cg ?_ rfl rfl)
  have e1 : (256 : Int32).toInt = 256 := rfl
  have e2 : (255 : Int32).toInt = 255 := rfl
  simp only [sg_le, sg_lt]
  omega
theorem J.s8 {g : Nat → Int32} {F : Nat → Nat → Int32} (h : J g F) (v : Int32) (hv : 0 ≤ v.toInt ∧ v.toInt ≤ 24) : J (upd g 8 v) F := ⟨h.p5, hv, h.p10, h.p14, h.p23, h.p38, h.wf, h.q29, h.q30, h.q33, h.q36⟩
theorem t_feed {T : Int} {rf : Int32} {pn : Int32} {pf : Nat → Int32} {tn : Int32} {tf : Nat → Int32} {sn : Int32} {lg : Nat → Int32} {lF : Nat → Nat → Int32} {bcv : Nat → Int32} {btr : Int32} {bpn : Int32} {bpf : Nat → Int32} {bpz : Nat → Int32} {bff : Nat → Int32} {bfsn : Int32} {bfsf : Nat → Int32} {bfsz : Nat → Int32} {dcv : Nat → Int32} {dtr : Int32} {dpn : Int32} {dpf : Nat → Int32} {dpz : Nat → Int32} {dff : Nat → Int32} {dfsn : Int32} {dfsf : Nat → Int32} {dfsz : Nat → Int32} {cmn : Int32} {ctn : Int32} {kk : Int32} {knn : Int32} {ktn : Int32} {g : Nat → Int32} {F : Nat → Nat → Int32} (hR : RR T rf pn pf tn tf sn lg lF bcv btr bpn bpf bpz bff bfsn bfsf bfsz dcv dtr dpn dpf dpz dff dfsn dfsf dfsz cmn ctn kk knn ktn g F) (hT : T ≤ 1000000) (b0 : Int32) : (r_X8_feed b0 rf tn tf).1 = (r_X9_feed b0 g F).1 ∧ RR (T + 60) rf pn pf ((r_X8_feed b0 rf tn tf).2.1) ((r_X8_feed b0 rf tn tf).2.2) sn lg lF bcv btr bpn bpf bpz bff bfsn bfsf bfsz dcv dtr dpn dpf dpz dff dfsn dfsf dfsz cmn ctn kk knn ktn ((r_X9_feed b0 g F).2.1) ((r_X9_feed b0 g F).2.2) := by
  obtain ⟨r1, r2, r3, r4, r5, r6, r7, r8, r9⟩ := hR
  unfold r_X8_feed r_X9_feed
  rw [byte_in]
  by_cases c : r_X9_in b0 0 255 = 0
  · rw [if_pos c, if_pos c]
    exact ⟨rfl, r1, r2, r3, r4, r5.le (by omega), r6.le (by omega), r7, r8, r9⟩
  · rw [if_neg c, if_neg c]
    dsimp only
    have hb := in_b (a := 0) (b := 255) c (by decide) (by decide)
    have hn := r3.rng
    obtain ⟨i1, i2, i3⟩ := r3
    by_cases d : g 8 = 24
    · rw [if_pos d, ap_full (by rw [i1, d]; decide)]
      dsimp only
      rw [if_pos rfl]
      exact ⟨rfl, r1, r2, ⟨i1, i2, i3⟩, r4, r5.le (by omega), r6.le (by omega), r7, r8, r9⟩
    · have h24 : (g 8).toInt < 24 := by
        have : (g 8).toInt ≠ 24 := fun e => d (Int32.toInt_inj.mp e)
        omega
      have e := inc_i (n := 24) i2.1 i2.2 (by omega)
      rw [if_neg d, ap_lt (by rw [i1]; omega)]
      dsimp only
      rw [if_neg (show ¬ (1 : Int32) = 0 by decide)]
      refine ⟨by rw [i1], r1, r2.of rfl rfl rfl rfl rfl, ⟨?_, ?_, ?_⟩, r4.of rfl rfl rfl rfl rfl rfl rfl rfl, r5.of (by omega) rfl rfl rfl rfl rfl rfl rfl rfl rfl, r6.of (by omega) rfl rfl rfl rfl rfl rfl rfl rfl rfl, r7, r8, (r9.s8 _ (by rw [e]; omega)).v 7 _ (by decide)⟩
      · show tn + 1 = g 8 + 1
        rw [i1]
      · show 0 ≤ (g 8 + 1).toInt ∧ (g 8 + 1).toInt ≤ 24
        rw [e]
        omega
      · intro k hk
        have hk : (k : Int) < (g 8 + 1).toInt := hk
        rw [e] at hk
        show upd tf tn.toNatClampNeg b0 k = upd (F 7) (g 8).toNatClampNeg b0 k ∧ 0 ≤ (upd (F 7) (g 8).toNatClampNeg b0 k).toInt ∧ (upd (F 7) (g 8).toNatClampNeg b0 k).toInt ≤ 255
        rw [i1]
        by_cases q : k = (g 8).toNatClampNeg
        · rw [q, upd_s, upd_s]
          exact ⟨rfl, hb⟩
        · rw [upd_n _ _ q, upd_n _ _ q]
          rw [tN] at q
          exact i3 k (by omega)
theorem t_keep {T : Int} {rf : Int32} {pn : Int32} {pf : Nat → Int32} {tn : Int32} {tf : Nat → Int32} {sn : Int32} {lg : Nat → Int32} {lF : Nat → Nat → Int32} {bcv : Nat → Int32} {btr : Int32} {bpn : Int32} {bpf : Nat → Int32} {bpz : Nat → Int32} {bff : Nat → Int32} {bfsn : Int32} {bfsf : Nat → Int32} {bfsz : Nat → Int32} {dcv : Nat → Int32} {dtr : Int32} {dpn : Int32} {dpf : Nat → Int32} {dpz : Nat → Int32} {dff : Nat → Int32} {dfsn : Int32} {dfsf : Nat → Int32} {dfsz : Nat → Int32} {cmn : Int32} {ctn : Int32} {kk : Int32} {knn : Int32} {ktn : Int32} {g : Nat → Int32} {F : Nat → Nat → Int32} (hR : RR T rf pn pf tn tf sn lg lF bcv btr bpn bpf bpz bff bfsn bfsf bfsz dcv dtr dpn dpf dpz dff dfsn dfsf dfsz cmn ctn kk knn ktn g F) (hT : T ≤ 1000000) (n0 : Int32) : (r_X8_keep n0 rf tn tf).1 = (r_X9_keep n0 g F).1 ∧ RR (T + 60) rf pn pf ((r_X8_keep n0 rf tn tf).2) tf sn lg lF bcv btr bpn bpf bpz bff bfsn bfsf bfsz dcv dtr dpn dpf dpz dff dfsn dfsf dfsz cmn ctn kk knn ktn ((r_X9_keep n0 g F).2) F := by
  obtain ⟨r1, r2, r3, r4, r5, r6, r7, r8, r9⟩ := hR
  unfold r_X8_keep r_X9_keep r_X9_in
  have hn := r3.rng
  obtain ⟨i1, i2, i3⟩ := r3
  have z : (0 : Int32).toInt = 0 := rfl
  by_cases c : n0 < 0
  · rw [if_pos c, if_pos c, if_pos rfl]
    exact ⟨rfl, r1, r2, ⟨i1, i2, i3⟩, r4, r5.le (by omega), r6.le (by omega), r7, r8, r9⟩
  · rw [if_neg c, if_neg c]
    by_cases d : n0 ≤ tn
    · have d2 : ¬ g 8 < n0 := by rw [← i1]; simp only [sg_le, sg_lt] at *; omega
      have c2 := c
      have d3 := d
      simp only [sg_le, sg_lt] at c2 d3
      have es : r_X4_shorten n0 tn tf = n0 := by
        unfold r_X4_shorten
        rw [if_neg c]
        by_cases q : tn ≤ n0
        · rw [if_pos q]
          apply Int32.toInt_inj.mp
          simp only [sg_le] at q
          omega
        · rw [if_neg q]
      rw [if_pos d, if_neg d2, if_neg (show ¬ (1 : Int32) = 0 by decide)]
      dsimp only
      rw [es]
      refine ⟨rfl, r1, r2.of rfl rfl rfl rfl rfl, ⟨rfl, (show 0 ≤ n0.toInt ∧ n0.toInt ≤ 24 by omega), fun k hk => i3 k (by have hk : (k : Int) < n0.toInt := hk; rw [← i1]; omega)⟩, r4.of rfl rfl rfl rfl rfl rfl rfl rfl, r5.le (by omega), r6.le (by omega), r7, r8, r9.s8 _ (by omega)⟩
    · have d2 : g 8 < n0 := by rw [← i1]; simp only [sg_le, sg_lt] at *; omega
      rw [if_neg d, if_pos d2, if_pos rfl]
      exact ⟨rfl, r1, r2, ⟨i1, i2, i3⟩, r4, r5.le (by omega), r6.le (by omega), r7, r8, r9⟩
theorem t_at {T : Int} {rf : Int32} {pn : Int32} {pf : Nat → Int32} {tn : Int32} {tf : Nat → Int32} {sn : Int32} {lg : Nat → Int32} {lF : Nat → Nat → Int32} {bcv : Nat → Int32} {btr : Int32} {bpn : Int32} {bpf : Nat → Int32} {bpz : Nat → Int32} {bff : Nat → Int32} {bfsn : Int32} {bfsf : Nat → Int32} {bfsz : Nat → Int32} {dcv : Nat → Int32} {dtr : Int32} {dpn : Int32} {dpf : Nat → Int32} {dpz : Nat → Int32} {dff : Nat → Int32} {dfsn : Int32} {dfsf : Nat → Int32} {dfsz : Nat → Int32} {cmn : Int32} {ctn : Int32} {kk : Int32} {knn : Int32} {ktn : Int32} {g : Nat → Int32} {F : Nat → Nat → Int32} (hR : RR T rf pn pf tn tf sn lg lF bcv btr bpn bpf bpz bff bfsn bfsf bfsz dcv dtr dpn dpf dpz dff dfsn dfsf dfsz cmn ctn kk knn ktn g F) (hT : T ≤ 1000000) (i0 : Int32) : r_X8_at i0 rf tn tf = r_X9_at i0 g F := by
  obtain ⟨r1, r2, r3, r4, r5, r6, r7, r8, r9⟩ := hR
  unfold r_X8_at r_X9_at
  obtain ⟨i1, i2, i3⟩ := r3
  rw [i1]
  have q := in0 (x := i0) (uf := tf) i2
  by_cases c : r_X4_has i0 (g 8) tf = 0
  · rw [if_pos c, if_pos (q.1.mp c)]
  · have h := q.2 c
    rw [if_neg c, if_neg (fun k => c (q.1.mpr k)), h.2]
    exact (i3 _ (by rw [tN]; omega)).1
theorem t_told {T : Int} {rf : Int32} {pn : Int32} {pf : Nat → Int32} {tn : Int32} {tf : Nat → Int32} {sn : Int32} {lg : Nat → Int32} {lF : Nat → Nat → Int32} {bcv : Nat → Int32} {btr : Int32} {bpn : Int32} {bpf : Nat → Int32} {bpz : Nat → Int32} {bff : Nat → Int32} {bfsn : Int32} {bfsf : Nat → Int32} {bfsz : Nat → Int32} {dcv : Nat → Int32} {dtr : Int32} {dpn : Int32} {dpf : Nat → Int32} {dpz : Nat → Int32} {dff : Nat → Int32} {dfsn : Int32} {dfsf : Nat → Int32} {dfsz : Nat → Int32} {cmn : Int32} {ctn : Int32} {kk : Int32} {knn : Int32} {ktn : Int32} {g : Nat → Int32} {F : Nat → Nat → Int32} (hR : RR T rf pn pf tn tf sn lg lF bcv btr bpn bpf bpz bff bfsn bfsf bfsz dcv dtr dpn dpf dpz dff dfsn dfsf dfsz cmn ctn kk knn ktn g F) (hT : T ≤ 1000000) (what : Int32) : r_X8_told what rf lg lF = r_X9_told what g F := by
  obtain ⟨r1, r2, r3, r4, r5, r6, r7, r8, r9⟩ := hR
  obtain ⟨a1, a2, a3, a4, a5, a6, a7, a8⟩ := r4
  unfold r_X8_told r_X9_told
  rw [a1, a2, a3, a4, a5]
theorem t_called {T : Int} {rf : Int32} {pn : Int32} {pf : Nat → Int32} {tn : Int32} {tf : Nat → Int32} {sn : Int32} {lg : Nat → Int32} {lF : Nat → Nat → Int32} {bcv : Nat → Int32} {btr : Int32} {bpn : Int32} {bpf : Nat → Int32} {bpz : Nat → Int32} {bff : Nat → Int32} {bfsn : Int32} {bfsf : Nat → Int32} {bfsz : Nat → Int32} {dcv : Nat → Int32} {dtr : Int32} {dpn : Int32} {dpf : Nat → Int32} {dpz : Nat → Int32} {dff : Nat → Int32} {dfsn : Int32} {dfsf : Nat → Int32} {dfsz : Nat → Int32} {cmn : Int32} {ctn : Int32} {kk : Int32} {knn : Int32} {ktn : Int32} {g : Nat → Int32} {F : Nat → Nat → Int32} (hR : RR T rf pn pf tn tf sn lg lF bcv btr bpn bpf bpz bff bfsn bfsf bfsz dcv dtr dpn dpf dpz dff dfsn dfsf dfsz cmn ctn kk knn ktn g F) (hT : T ≤ 1000000) (i : Int32) : r_X7_openCall i lg lF = r_X9_called i g F := by
  obtain ⟨r1, r2, r3, r4, r5, r6, r7, r8, r9⟩ := hR
  exact r4.2.2.2.2.2.1 i
theorem t_register {T : Int} {rf : Int32} {pn : Int32} {pf : Nat → Int32} {tn : Int32} {tf : Nat → Int32} {sn : Int32} {lg : Nat → Int32} {lF : Nat → Nat → Int32} {bcv : Nat → Int32} {btr : Int32} {bpn : Int32} {bpf : Nat → Int32} {bpz : Nat → Int32} {bff : Nat → Int32} {bfsn : Int32} {bfsf : Nat → Int32} {bfsz : Nat → Int32} {dcv : Nat → Int32} {dtr : Int32} {dpn : Int32} {dpf : Nat → Int32} {dpz : Nat → Int32} {dff : Nat → Int32} {dfsn : Int32} {dfsf : Nat → Int32} {dfsz : Nat → Int32} {cmn : Int32} {ctn : Int32} {kk : Int32} {knn : Int32} {ktn : Int32} {g : Nat → Int32} {F : Nat → Nat → Int32} (hR : RR T rf pn pf tn tf sn lg lF bcv btr bpn bpf bpz bff bfsn bfsf bfsz dcv dtr dpn dpf dpz dff dfsn dfsf dfsz cmn ctn kk knn ktn g F) (hT : T ≤ 1000000) (r0 : Int32) : (r_X8_register r0 rf lg lF).1 = (r_X9_register r0 g F).1 ∧ RR (T + 60) ((r_X8_register r0 rf lg lF).2) pn pf tn tf sn lg lF bcv btr bpn bpf bpz bff bfsn bfsf bfsz dcv dtr dpn dpf dpz dff dfsn dfsf dfsz cmn ctn kk knn ktn ((r_X9_register r0 g F).2) F := by
  obtain ⟨r1, r2, r3, r4, r5, r6, r7, r8, r9⟩ := hR
  unfold r_X8_register r_X9_register
  have e : r_X7_isRegister r0 = r_X9_in r0 0 7 := by
    unfold r_X7_isRegister r_X9_in
    refine ite_cg Iff.rfl rfl (ite_cg ?_ rfl rfl)
    have e1 : (8 : Int32).toInt = 8 := rfl
    have e2 : (7 : Int32).toInt = 7 := rfl
    simp only [sg_le, sg_lt]
    omega
  rw [e]
  by_cases c : r_X9_in r0 0 7 = 0
  · rw [if_pos c, if_pos c]
    exact ⟨rfl, rfl, r2.of rfl rfl rfl rfl rfl, r3, r4.of rfl rfl rfl rfl rfl rfl rfl rfl, r5.le (by omega), r6.le (by omega), r7, r8, r9.u 6 _ (by decide)⟩
  · have hb := in_b (a := 0) (b := 7) c (by decide) (by decide)
    rw [if_neg c, if_neg c, val_in (by omega), r4.2.2.2.2.2.2.1 _ (i_lt (by omega))]
    exact ⟨rfl, rfl, r2.of rfl rfl rfl rfl rfl, r3, r4.of rfl rfl rfl rfl rfl rfl rfl rfl, r5.le (by omega), r6.le (by omega), r7, r8, r9.u 6 _ (by decide)⟩
theorem t_turns {T : Int} {rf : Int32} {pn : Int32} {pf : Nat → Int32} {tn : Int32} {tf : Nat → Int32} {sn : Int32} {lg : Nat → Int32} {lF : Nat → Nat → Int32} {bcv : Nat → Int32} {btr : Int32} {bpn : Int32} {bpf : Nat → Int32} {bpz : Nat → Int32} {bff : Nat → Int32} {bfsn : Int32} {bfsf : Nat → Int32} {bfsz : Nat → Int32} {dcv : Nat → Int32} {dtr : Int32} {dpn : Int32} {dpf : Nat → Int32} {dpz : Nat → Int32} {dff : Nat → Int32} {dfsn : Int32} {dfsf : Nat → Int32} {dfsz : Nat → Int32} {cmn : Int32} {ctn : Int32} {kk : Int32} {knn : Int32} {ktn : Int32} {g : Nat → Int32} {F : Nat → Nat → Int32} (hR : RR T rf pn pf tn tf sn lg lF bcv btr bpn bpf bpz bff bfsn bfsf bfsz dcv dtr dpn dpf dpz dff dfsn dfsf dfsz cmn ctn kk knn ktn g F) (hT : T ≤ 1000000) (br : Int32) : r_X8_turns br rf lg lF = r_X9_turns br g F := by
  obtain ⟨r1, r2, r3, r4, r5, r6, r7, r8, r9⟩ := hR
  unfold r_X8_turns r_X9_turns r_X7_turnsOf
  have e : r_X7_isBranch br = r_X9_in br 0 159 := by
    unfold r_X7_isBranch r_X9_in
    refine ite_cg Iff.rfl rfl (ite_cg ?_ rfl rfl)
    have e1 : (160 : Int32).toInt = 160 := rfl
    have e2 : (159 : Int32).toInt = 159 := rfl
    simp only [sg_le, sg_lt]
    omega
  rw [e]
  by_cases c : r_X9_in br 0 159 = 0
  · rw [if_pos c, if_pos c]
  · have hb := in_b (a := 0) (b := 159) c (by decide) (by decide)
    rw [if_neg c, if_neg c, if_neg c]
    exact r4.2.2.2.2.2.2.2 _ (i_lt (by omega))
