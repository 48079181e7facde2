section SIMT
variable {un : Int32} {uf : Nat → Int32} {cg : Nat → Int32} {cF : Nat → Nat → Int32} {g : Nat → Int32} {F : Nat → Nat → Int32} {pl : Int32}
theorem st_0 (h : SB un cg cF g F) (hg : cg 11 = 1) (h9 : cg 9 = pl) (h5 : cg 5 = 0) (h15 : g 15 = 0) (h6 : cg 6 = -1) (hp : 0 ≤ pl.toInt ∧ pl.toInt < 80) (h8 : (cg 8).toInt ≤ 400) (hI : IR un uf (g 10) (F 9)) (hA : 0 ≤ (F 2 pl.toNatClampNeg).toInt ∧ (F 2 pl.toNatClampNeg).toInt < 8) (hop : F 1 pl.toNatClampNeg = (0 : Int32)) : SIM un cg (cstep (0 : Int32) (F 2 pl.toNatClampNeg) (F 3 pl.toNatClampNeg) (F 4 pl.toNatClampNeg) (upd cg 10 (cg 9 + (1 : Int32))) cF un uf) (r_X9_does pl g F) := by
  unfold cstep r_X9_does
  rw [if_neg (show ¬ (5 : Int32) < 0 by decide)]
  rw [if_pos hop]
  unfold r_X7_reckon
  rw [if_pos rfl, put_in hA]
  exact sim_reg h hg h9 h5 h15 h6 rfl
theorem st_1 (h : SB un cg cF g F) (hg : cg 11 = 1) (h9 : cg 9 = pl) (h5 : cg 5 = 0) (h15 : g 15 = 0) (h6 : cg 6 = -1) (hp : 0 ≤ pl.toInt ∧ pl.toInt < 80) (h8 : (cg 8).toInt ≤ 400) (hI : IR un uf (g 10) (F 9)) (hA : 0 ≤ (F 2 pl.toNatClampNeg).toInt ∧ (F 2 pl.toNatClampNeg).toInt < 8) (hB : 0 ≤ (F 3 pl.toNatClampNeg).toInt ∧ (F 3 pl.toNatClampNeg).toInt < 8) (hop : F 1 pl.toNatClampNeg = (1 : Int32)) : SIM un cg (cstep (1 : Int32) (F 2 pl.toNatClampNeg) (F 3 pl.toNatClampNeg) (F 4 pl.toNatClampNeg) (upd cg 10 (cg 9 + (1 : Int32))) cF un uf) (r_X9_does pl g F) := by
  unfold cstep r_X9_does
  rw [if_neg (show ¬ (5 : Int32) < 1 by decide)]
  rw [if_neg (show ¬ F 1 pl.toNatClampNeg = (0 : Int32) by rw [hop]; decide), if_pos hop]
  unfold r_X7_reckon
  rw [if_neg (show ¬ (1 : Int32) = 0 by decide), if_pos rfl, val_in hB, put_in hA]
  exact sim_reg h hg h9 h5 h15 h6 (h.2.2.2.1 _ (i_lt hB))
theorem st_2 (h : SB un cg cF g F) (hg : cg 11 = 1) (h9 : cg 9 = pl) (h5 : cg 5 = 0) (h15 : g 15 = 0) (h6 : cg 6 = -1) (hp : 0 ≤ pl.toInt ∧ pl.toInt < 80) (h8 : (cg 8).toInt ≤ 400) (hI : IR un uf (g 10) (F 9)) (hA : 0 ≤ (F 2 pl.toNatClampNeg).toInt ∧ (F 2 pl.toNatClampNeg).toInt < 8) (hB : 0 ≤ (F 3 pl.toNatClampNeg).toInt ∧ (F 3 pl.toNatClampNeg).toInt < 8) (hop : F 1 pl.toNatClampNeg = (2 : Int32)) : SIM un cg (cstep (2 : Int32) (F 2 pl.toNatClampNeg) (F 3 pl.toNatClampNeg) (F 4 pl.toNatClampNeg) (upd cg 10 (cg 9 + (1 : Int32))) cF un uf) (r_X9_does pl g F) := by
  unfold cstep r_X9_does
  rw [if_neg (show ¬ (5 : Int32) < 2 by decide)]
  rw [if_neg (show ¬ F 1 pl.toNatClampNeg = (0 : Int32) by rw [hop]; decide), if_neg (show ¬ F 1 pl.toNatClampNeg = (1 : Int32) by rw [hop]; decide), if_pos hop]
  unfold r_X7_reckon
  rw [if_neg (show ¬ (2 : Int32) = 0 by decide), if_neg (show ¬ (2 : Int32) = 1 by decide), if_pos rfl, val_in hA, val_in hB, put_in hA]
  exact sim_reg h hg h9 h5 h15 h6 (by rw [(h.2.2.2.1 _ (i_lt hA)), (h.2.2.2.1 _ (i_lt hB))])
theorem st_3 (h : SB un cg cF g F) (hg : cg 11 = 1) (h9 : cg 9 = pl) (h5 : cg 5 = 0) (h15 : g 15 = 0) (h6 : cg 6 = -1) (hp : 0 ≤ pl.toInt ∧ pl.toInt < 80) (h8 : (cg 8).toInt ≤ 400) (hI : IR un uf (g 10) (F 9)) (hA : 0 ≤ (F 2 pl.toNatClampNeg).toInt ∧ (F 2 pl.toNatClampNeg).toInt < 8) (hB : 0 ≤ (F 3 pl.toNatClampNeg).toInt ∧ (F 3 pl.toNatClampNeg).toInt < 8) (hop : F 1 pl.toNatClampNeg = (3 : Int32)) : SIM un cg (cstep (3 : Int32) (F 2 pl.toNatClampNeg) (F 3 pl.toNatClampNeg) (F 4 pl.toNatClampNeg) (upd cg 10 (cg 9 + (1 : Int32))) cF un uf) (r_X9_does pl g F) := by
  unfold cstep r_X9_does
  rw [if_neg (show ¬ (5 : Int32) < 3 by decide)]
  rw [if_neg (show ¬ F 1 pl.toNatClampNeg = (0 : Int32) by rw [hop]; decide), if_neg (show ¬ F 1 pl.toNatClampNeg = (1 : Int32) by rw [hop]; decide), if_neg (show ¬ F 1 pl.toNatClampNeg = (2 : Int32) by rw [hop]; decide), if_pos hop]
  unfold r_X7_reckon
  rw [if_neg (show ¬ (3 : Int32) = 0 by decide), if_neg (show ¬ (3 : Int32) = 1 by decide), if_neg (show ¬ (3 : Int32) = 2 by decide), if_pos rfl, val_in hA, val_in hB, put_in hA]
  exact sim_reg h hg h9 h5 h15 h6 (by rw [(h.2.2.2.1 _ (i_lt hA)), (h.2.2.2.1 _ (i_lt hB))])
theorem st_4 (h : SB un cg cF g F) (hg : cg 11 = 1) (h9 : cg 9 = pl) (h5 : cg 5 = 0) (h15 : g 15 = 0) (h6 : cg 6 = -1) (hp : 0 ≤ pl.toInt ∧ pl.toInt < 80) (h8 : (cg 8).toInt ≤ 400) (hI : IR un uf (g 10) (F 9)) (hA : 0 ≤ (F 2 pl.toNatClampNeg).toInt ∧ (F 2 pl.toNatClampNeg).toInt < 8) (hB : 0 ≤ (F 3 pl.toNatClampNeg).toInt ∧ (F 3 pl.toNatClampNeg).toInt < 8) (hop : F 1 pl.toNatClampNeg = (4 : Int32)) : SIM un cg (cstep (4 : Int32) (F 2 pl.toNatClampNeg) (F 3 pl.toNatClampNeg) (F 4 pl.toNatClampNeg) (upd cg 10 (cg 9 + (1 : Int32))) cF un uf) (r_X9_does pl g F) := by
  unfold cstep r_X9_does
  rw [if_neg (show ¬ (5 : Int32) < 4 by decide)]
  rw [if_neg (show ¬ F 1 pl.toNatClampNeg = (0 : Int32) by rw [hop]; decide), if_neg (show ¬ F 1 pl.toNatClampNeg = (1 : Int32) by rw [hop]; decide), if_neg (show ¬ F 1 pl.toNatClampNeg = (2 : Int32) by rw [hop]; decide), if_neg (show ¬ F 1 pl.toNatClampNeg = (3 : Int32) by rw [hop]; decide), if_pos hop]
  unfold r_X7_reckon
  rw [if_neg (show ¬ (4 : Int32) = 0 by decide), if_neg (show ¬ (4 : Int32) = 1 by decide), if_neg (show ¬ (4 : Int32) = 2 by decide), if_neg (show ¬ (4 : Int32) = 3 by decide), if_pos rfl, val_in hA, val_in hB, put_in hA]
  exact sim_reg h hg h9 h5 h15 h6 (by rw [(h.2.2.2.1 _ (i_lt hA)), (h.2.2.2.1 _ (i_lt hB))])
theorem st_5 (h : SB un cg cF g F) (hg : cg 11 = 1) (h9 : cg 9 = pl) (h5 : cg 5 = 0) (h15 : g 15 = 0) (h6 : cg 6 = -1) (hp : 0 ≤ pl.toInt ∧ pl.toInt < 80) (h8 : (cg 8).toInt ≤ 400) (hI : IR un uf (g 10) (F 9)) (hA : 0 ≤ (F 2 pl.toNatClampNeg).toInt ∧ (F 2 pl.toNatClampNeg).toInt < 8) (hB : 0 ≤ (F 3 pl.toNatClampNeg).toInt ∧ (F 3 pl.toNatClampNeg).toInt < 8) (hop : F 1 pl.toNatClampNeg = (5 : Int32)) : SIM un cg (cstep (5 : Int32) (F 2 pl.toNatClampNeg) (F 3 pl.toNatClampNeg) (F 4 pl.toNatClampNeg) (upd cg 10 (cg 9 + (1 : Int32))) cF un uf) (r_X9_does pl g F) := by
  unfold cstep r_X9_does
  rw [if_neg (show ¬ (5 : Int32) < 5 by decide)]
  rw [if_neg (show ¬ F 1 pl.toNatClampNeg = (0 : Int32) by rw [hop]; decide), if_neg (show ¬ F 1 pl.toNatClampNeg = (1 : Int32) by rw [hop]; decide), if_neg (show ¬ F 1 pl.toNatClampNeg = (2 : Int32) by rw [hop]; decide), if_neg (show ¬ F 1 pl.toNatClampNeg = (3 : Int32) by rw [hop]; decide), if_neg (show ¬ F 1 pl.toNatClampNeg = (4 : Int32) by rw [hop]; decide), if_pos hop]
  unfold r_X7_reckon
  rw [if_neg (show ¬ (5 : Int32) = 0 by decide), if_neg (show ¬ (5 : Int32) = 1 by decide), if_neg (show ¬ (5 : Int32) = 2 by decide), if_neg (show ¬ (5 : Int32) = 3 by decide), if_neg (show ¬ (5 : Int32) = 4 by decide), val_in hA, val_in hB]
  show SIM un cg (if cF 0 (F 3 pl.toNatClampNeg).toNatClampNeg = 0 then _ else _) _
  rw [(h.2.2.2.1 _ (i_lt hB))]
  by_cases z : F 11 (F 3 pl.toNatClampNeg).toNatClampNeg = 0
  · rw [if_pos z, if_pos z]
    exact sim_fail h h9 1 (by decide)
  · rw [if_neg z, if_neg z, put_in hA]
    by_cases y : F 11 (F 3 pl.toNatClampNeg).toNatClampNeg = (-1 : Int32)
    · rw [if_pos y, y]
      exact sim_reg h hg h9 h5 h15 h6 (by rw [div_m1]; exact congrArg _ (h.2.2.2.1 _ (i_lt hA)))
    · rw [if_neg y]
      exact sim_reg h hg h9 h5 h15 h6 (by exact congrArg (· / _) (h.2.2.2.1 _ (i_lt hA)))
theorem st_6 (h : SB un cg cF g F) (hg : cg 11 = 1) (h9 : cg 9 = pl) (h5 : cg 5 = 0) (h15 : g 15 = 0) (h6 : cg 6 = -1) (hp : 0 ≤ pl.toInt ∧ pl.toInt < 80) (h8 : (cg 8).toInt ≤ 400) (hI : IR un uf (g 10) (F 9)) (hA : 0 ≤ (F 2 pl.toNatClampNeg).toInt ∧ (F 2 pl.toNatClampNeg).toInt < 8) (hB : 0 ≤ (F 3 pl.toNatClampNeg).toInt ∧ (F 3 pl.toNatClampNeg).toInt < 8) (hop : F 1 pl.toNatClampNeg = (6 : Int32)) : SIM un cg (cstep (6 : Int32) (F 2 pl.toNatClampNeg) (F 3 pl.toNatClampNeg) (F 4 pl.toNatClampNeg) (upd cg 10 (cg 9 + (1 : Int32))) cF un uf) (r_X9_does pl g F) := by
  unfold cstep r_X9_does
  rw [if_pos (show (5 : Int32) < 6 by decide), if_neg (show ¬ (8 : Int32) < 6 by decide)]
  rw [if_neg (show ¬ F 1 pl.toNatClampNeg = (0 : Int32) by rw [hop]; decide), if_neg (show ¬ F 1 pl.toNatClampNeg = (1 : Int32) by rw [hop]; decide), if_neg (show ¬ F 1 pl.toNatClampNeg = (2 : Int32) by rw [hop]; decide), if_neg (show ¬ F 1 pl.toNatClampNeg = (3 : Int32) by rw [hop]; decide), if_neg (show ¬ F 1 pl.toNatClampNeg = (4 : Int32) by rw [hop]; decide), if_neg (show ¬ F 1 pl.toNatClampNeg = (5 : Int32) by rw [hop]; decide), if_pos hop]
  unfold r_X7_readInput
  rw [if_pos rfl]
  show SIM un cg (if r_X4_has (cg 8) un uf = 0 then _ else _) _
  obtain ⟨rfl, hb, hf⟩ := hI
  have q := in0 (x := cg 8) (uf := uf) hb
  have hc := h.2.2.1
  by_cases z : r_X4_has (cg 8) (g 10) uf = 0
  · rw [if_pos z]
    have hz : (g 10).toInt ≤ (cg 8).toInt := by
      have := q.1.mp z
      by_cases w : (cg 8).toInt < (g 10).toInt
      · exfalso
        have z0 : (0 : Int32).toInt = 0 := rfl
        have e24 : (24 : Int32).toInt = 24 := rfl
        unfold r_X4_has at z
        rw [if_neg (show ¬ cg 8 < 0 by simp only [sg_lt]; have := hc.1; omega), if_neg (show ¬ g 10 ≤ cg 8 by simp only [sg_le]; omega), if_neg (show ¬ 24 ≤ cg 8 by simp only [sg_le]; omega)] at z
        exact absurd z (by decide)
      · omega
    have h18 : g 18 = g 10 := by
      rcases hc.2 with ⟨a, -⟩ | ⟨-, a⟩
      · omega
      · exact a
    rw [if_pos (show g 10 ≤ g 18 by rw [h18]; simp only [sg_le]; omega), put_in hA]
    exact sim_read h hg h9 h5 h15 h6 h8 hb rfl (Or.inr ⟨hz, rfl⟩)
  · rw [if_neg z]
    have hr := q.2 z
    have h18 : g 18 = cg 8 := by
      rcases hc.2 with ⟨-, a⟩ | ⟨a, -⟩
      · exact a
      · omega
    rw [if_neg (show ¬ g 10 ≤ g 18 by rw [h18]; simp only [sg_le]; omega)]
    show SIM (g 10) cg (upd (upd cg 10 (cg 9 + 1)) 8 (cg 8 + 1), r_X7_put (F 2 pl.toNatClampNeg) (r_X4_get (cg 8) (g 10) uf) _ cF) _
    rw [hr.2, put_in hA]
    exact sim_read h hg h9 h5 h15 h6 h8 hb (by rw [h18]; exact (hf _ (by rw [tN]; omega)).1) (Or.inl ⟨hr.1.2, rfl⟩)
theorem st_7 (h : SB un cg cF g F) (hg : cg 11 = 1) (h9 : cg 9 = pl) (h5 : cg 5 = 0) (h15 : g 15 = 0) (h6 : cg 6 = -1) (hp : 0 ≤ pl.toInt ∧ pl.toInt < 80) (h8 : (cg 8).toInt ≤ 400) (hI : IR un uf (g 10) (F 9)) (hA : 0 ≤ (F 2 pl.toNatClampNeg).toInt ∧ (F 2 pl.toNatClampNeg).toInt < 8) (hB : 0 ≤ (F 3 pl.toNatClampNeg).toInt ∧ (F 3 pl.toNatClampNeg).toInt < 8) (hop : F 1 pl.toNatClampNeg = (7 : Int32)) : SIM un cg (cstep (7 : Int32) (F 2 pl.toNatClampNeg) (F 3 pl.toNatClampNeg) (F 4 pl.toNatClampNeg) (upd cg 10 (cg 9 + (1 : Int32))) cF un uf) (r_X9_does pl g F) := by
  unfold cstep r_X9_does
  rw [if_pos (show (5 : Int32) < 7 by decide), if_neg (show ¬ (8 : Int32) < 7 by decide)]
  rw [if_neg (show ¬ F 1 pl.toNatClampNeg = (0 : Int32) by rw [hop]; decide), if_neg (show ¬ F 1 pl.toNatClampNeg = (1 : Int32) by rw [hop]; decide), if_neg (show ¬ F 1 pl.toNatClampNeg = (2 : Int32) by rw [hop]; decide), if_neg (show ¬ F 1 pl.toNatClampNeg = (3 : Int32) by rw [hop]; decide), if_neg (show ¬ F 1 pl.toNatClampNeg = (4 : Int32) by rw [hop]; decide), if_neg (show ¬ F 1 pl.toNatClampNeg = (5 : Int32) by rw [hop]; decide), if_neg (show ¬ F 1 pl.toNatClampNeg = (6 : Int32) by rw [hop]; decide), if_pos hop]
  unfold r_X7_readInput
  rw [if_neg (show ¬ (7 : Int32) = 6 by decide), if_neg (show ¬ (7 : Int32) = 8 by decide), val_in hB]
  show SIM un cg (if r_X4_has (cF 0 (F 3 pl.toNatClampNeg).toNatClampNeg) un uf = 0 then _ else _) _
  obtain ⟨rfl, hb, hf⟩ := hI
  rw [(h.2.2.2.1 _ (i_lt hB))]
  have q := in0 (x := F 11 (F 3 pl.toNatClampNeg).toNatClampNeg) (uf := uf) hb
  by_cases z : r_X4_has (F 11 (F 3 pl.toNatClampNeg).toNatClampNeg) (g 10) uf = 0
  · rw [if_pos z, if_pos (q.1.mp z)]
    exact sim_fail h h9 2 (by decide)
  · have hr := q.2 z
    rw [if_neg z, if_neg (fun w => z (q.1.mpr w)), put_in hA]
    exact sim_reg h hg h9 h5 h15 h6 (by rw [hr.2]; exact (hf _ (by rw [tN]; omega)).1)
theorem st_8 (h : SB un cg cF g F) (hg : cg 11 = 1) (h9 : cg 9 = pl) (h5 : cg 5 = 0) (h15 : g 15 = 0) (h6 : cg 6 = -1) (hp : 0 ≤ pl.toInt ∧ pl.toInt < 80) (h8 : (cg 8).toInt ≤ 400) (hI : IR un uf (g 10) (F 9)) (hA : 0 ≤ (F 2 pl.toNatClampNeg).toInt ∧ (F 2 pl.toNatClampNeg).toInt < 8) (hB : 0 ≤ (F 3 pl.toNatClampNeg).toInt ∧ (F 3 pl.toNatClampNeg).toInt < 8) (hop : F 1 pl.toNatClampNeg = (8 : Int32)) : SIM un cg (cstep (8 : Int32) (F 2 pl.toNatClampNeg) (F 3 pl.toNatClampNeg) (F 4 pl.toNatClampNeg) (upd cg 10 (cg 9 + (1 : Int32))) cF un uf) (r_X9_does pl g F) := by
  unfold cstep r_X9_does
  rw [if_pos (show (5 : Int32) < 8 by decide), if_neg (show ¬ (8 : Int32) < 8 by decide)]
  rw [if_neg (show ¬ F 1 pl.toNatClampNeg = (0 : Int32) by rw [hop]; decide), if_neg (show ¬ F 1 pl.toNatClampNeg = (1 : Int32) by rw [hop]; decide), if_neg (show ¬ F 1 pl.toNatClampNeg = (2 : Int32) by rw [hop]; decide), if_neg (show ¬ F 1 pl.toNatClampNeg = (3 : Int32) by rw [hop]; decide), if_neg (show ¬ F 1 pl.toNatClampNeg = (4 : Int32) by rw [hop]; decide), if_neg (show ¬ F 1 pl.toNatClampNeg = (5 : Int32) by rw [hop]; decide), if_neg (show ¬ F 1 pl.toNatClampNeg = (6 : Int32) by rw [hop]; decide), if_neg (show ¬ F 1 pl.toNatClampNeg = (7 : Int32) by rw [hop]; decide), if_pos hop]
  unfold r_X7_readInput
  rw [if_neg (show ¬ (8 : Int32) = 6 by decide), if_pos rfl, put_in hA]
  exact sim_reg h hg h9 h5 h15 h6 hI.1
theorem st_9 (h : SB un cg cF g F) (hg : cg 11 = 1) (h9 : cg 9 = pl) (h5 : cg 5 = 0) (h15 : g 15 = 0) (h6 : cg 6 = -1) (hp : 0 ≤ pl.toInt ∧ pl.toInt < 80) (h8 : (cg 8).toInt ≤ 400) (hI : IR un uf (g 10) (F 9)) (hA : 0 ≤ (F 2 pl.toNatClampNeg).toInt ∧ (F 2 pl.toNatClampNeg).toInt < 8) (hB : 0 ≤ (F 3 pl.toNatClampNeg).toInt ∧ (F 3 pl.toNatClampNeg).toInt < 8) (hop : F 1 pl.toNatClampNeg = (9 : Int32)) : SIM un cg (cstep (9 : Int32) (F 2 pl.toNatClampNeg) (F 3 pl.toNatClampNeg) (F 4 pl.toNatClampNeg) (upd cg 10 (cg 9 + (1 : Int32))) cF un uf) (r_X9_does pl g F) := by
  unfold cstep r_X9_does
  rw [if_pos (show (5 : Int32) < 9 by decide), if_pos (show (8 : Int32) < 9 by decide), if_neg (show ¬ (10 : Int32) < 9 by decide)]
  rw [if_neg (show ¬ F 1 pl.toNatClampNeg = (0 : Int32) by rw [hop]; decide), if_neg (show ¬ F 1 pl.toNatClampNeg = (1 : Int32) by rw [hop]; decide), if_neg (show ¬ F 1 pl.toNatClampNeg = (2 : Int32) by rw [hop]; decide), if_neg (show ¬ F 1 pl.toNatClampNeg = (3 : Int32) by rw [hop]; decide), if_neg (show ¬ F 1 pl.toNatClampNeg = (4 : Int32) by rw [hop]; decide), if_neg (show ¬ F 1 pl.toNatClampNeg = (5 : Int32) by rw [hop]; decide), if_neg (show ¬ F 1 pl.toNatClampNeg = (6 : Int32) by rw [hop]; decide), if_neg (show ¬ F 1 pl.toNatClampNeg = (7 : Int32) by rw [hop]; decide), if_neg (show ¬ F 1 pl.toNatClampNeg = (8 : Int32) by rw [hop]; decide), if_pos hop]
  unfold r_X7_useRow
  rw [if_pos rfl, val_in hA, val_in hB]
  show SIM un cg (if r_X7_isInRow (cF 0 (F 2 pl.toNatClampNeg).toNatClampNeg) = 0 then _ else (_, va_up cF 1 (upd (cF 1) (cF 0 (F 2 pl.toNatClampNeg).toNatClampNeg).toNatClampNeg _))) _
  rw [(h.2.2.2.1 _ (i_lt hA))]
  have q := row0 (x := F 11 (F 2 pl.toNatClampNeg).toNatClampNeg)
  by_cases z : r_X7_isInRow (F 11 (F 2 pl.toNatClampNeg).toNatClampNeg) = 0
  · rw [if_pos z, if_pos (q.1.mp z)]
    exact sim_fail h h9 2 (by decide)
  · rw [if_neg z, if_neg (fun w => z (q.1.mpr w))]
    exact sim_row h hg h9 h5 h15 h6 (h.2.2.2.1 _ (i_lt hB))
theorem st_10 (h : SB un cg cF g F) (hg : cg 11 = 1) (h9 : cg 9 = pl) (h5 : cg 5 = 0) (h15 : g 15 = 0) (h6 : cg 6 = -1) (hp : 0 ≤ pl.toInt ∧ pl.toInt < 80) (h8 : (cg 8).toInt ≤ 400) (hI : IR un uf (g 10) (F 9)) (hA : 0 ≤ (F 2 pl.toNatClampNeg).toInt ∧ (F 2 pl.toNatClampNeg).toInt < 8) (hB : 0 ≤ (F 3 pl.toNatClampNeg).toInt ∧ (F 3 pl.toNatClampNeg).toInt < 8) (hop : F 1 pl.toNatClampNeg = (10 : Int32)) : SIM un cg (cstep (10 : Int32) (F 2 pl.toNatClampNeg) (F 3 pl.toNatClampNeg) (F 4 pl.toNatClampNeg) (upd cg 10 (cg 9 + (1 : Int32))) cF un uf) (r_X9_does pl g F) := by
  unfold cstep r_X9_does
  rw [if_pos (show (5 : Int32) < 10 by decide), if_pos (show (8 : Int32) < 10 by decide), if_neg (show ¬ (10 : Int32) < 10 by decide)]
  rw [if_neg (show ¬ F 1 pl.toNatClampNeg = (0 : Int32) by rw [hop]; decide), if_neg (show ¬ F 1 pl.toNatClampNeg = (1 : Int32) by rw [hop]; decide), if_neg (show ¬ F 1 pl.toNatClampNeg = (2 : Int32) by rw [hop]; decide), if_neg (show ¬ F 1 pl.toNatClampNeg = (3 : Int32) by rw [hop]; decide), if_neg (show ¬ F 1 pl.toNatClampNeg = (4 : Int32) by rw [hop]; decide), if_neg (show ¬ F 1 pl.toNatClampNeg = (5 : Int32) by rw [hop]; decide), if_neg (show ¬ F 1 pl.toNatClampNeg = (6 : Int32) by rw [hop]; decide), if_neg (show ¬ F 1 pl.toNatClampNeg = (7 : Int32) by rw [hop]; decide), if_neg (show ¬ F 1 pl.toNatClampNeg = (8 : Int32) by rw [hop]; decide), if_neg (show ¬ F 1 pl.toNatClampNeg = (9 : Int32) by rw [hop]; decide), if_pos hop]
  unfold r_X7_useRow
  rw [if_neg (show ¬ (10 : Int32) = 9 by decide), val_in hB]
  show SIM un cg (if r_X7_isInRow (cF 0 (F 3 pl.toNatClampNeg).toNatClampNeg) = 0 then _ else (_, r_X7_put (F 2 pl.toNatClampNeg) (cF 1 (cF 0 (F 3 pl.toNatClampNeg).toNatClampNeg).toNatClampNeg) _ cF)) _
  rw [(h.2.2.2.1 _ (i_lt hB))]
  have q := row0 (x := F 11 (F 3 pl.toNatClampNeg).toNatClampNeg)
  by_cases z : r_X7_isInRow (F 11 (F 3 pl.toNatClampNeg).toNatClampNeg) = 0
  · rw [if_pos z, if_pos (q.1.mp z)]
    exact sim_fail h h9 2 (by decide)
  · rw [if_neg z, if_neg (fun w => z (q.1.mpr w)), put_in hA]
    exact sim_reg h hg h9 h5 h15 h6 (h.2.2.2.2.1 _ (i_lt (q.2 z)))
theorem st_11 (h : SB un cg cF g F) (hg : cg 11 = 1) (h9 : cg 9 = pl) (h5 : cg 5 = 0) (h15 : g 15 = 0) (h6 : cg 6 = -1) (hp : 0 ≤ pl.toInt ∧ pl.toInt < 80) (h8 : (cg 8).toInt ≤ 400) (hI : IR un uf (g 10) (F 9)) (hA : 0 ≤ (F 2 pl.toNatClampNeg).toInt ∧ (F 2 pl.toNatClampNeg).toInt < 8) (hB : 0 ≤ (F 3 pl.toNatClampNeg).toInt ∧ (F 3 pl.toNatClampNeg).toInt < 8) (hop : F 1 pl.toNatClampNeg = (11 : Int32)) : SIM un cg (cstep (11 : Int32) (F 2 pl.toNatClampNeg) (F 3 pl.toNatClampNeg) (F 4 pl.toNatClampNeg) (upd cg 10 (cg 9 + (1 : Int32))) cF un uf) (r_X9_does pl g F) := by
  unfold cstep r_X9_does
  rw [if_pos (show (5 : Int32) < 11 by decide), if_pos (show (8 : Int32) < 11 by decide), if_pos (show (10 : Int32) < 11 by decide), if_neg (show ¬ (13 : Int32) < 11 by decide)]
  rw [if_neg (show ¬ F 1 pl.toNatClampNeg = (0 : Int32) by rw [hop]; decide), if_neg (show ¬ F 1 pl.toNatClampNeg = (1 : Int32) by rw [hop]; decide), if_neg (show ¬ F 1 pl.toNatClampNeg = (2 : Int32) by rw [hop]; decide), if_neg (show ¬ F 1 pl.toNatClampNeg = (3 : Int32) by rw [hop]; decide), if_neg (show ¬ F 1 pl.toNatClampNeg = (4 : Int32) by rw [hop]; decide), if_neg (show ¬ F 1 pl.toNatClampNeg = (5 : Int32) by rw [hop]; decide), if_neg (show ¬ F 1 pl.toNatClampNeg = (6 : Int32) by rw [hop]; decide), if_neg (show ¬ F 1 pl.toNatClampNeg = (7 : Int32) by rw [hop]; decide), if_neg (show ¬ F 1 pl.toNatClampNeg = (8 : Int32) by rw [hop]; decide), if_neg (show ¬ F 1 pl.toNatClampNeg = (9 : Int32) by rw [hop]; decide), if_neg (show ¬ F 1 pl.toNatClampNeg = (10 : Int32) by rw [hop]; decide), if_pos hop]
  unfold r_X7_jump
  rw [if_neg (show ¬ (11 : Int32) = 13 by decide), if_pos rfl, val_in hA, val_in hB]
  show SIM un cg (if cF 0 (F 3 pl.toNatClampNeg).toNatClampNeg ≤ cF 0 (F 2 pl.toNatClampNeg).toNatClampNeg then _ else _) _
  rw [(h.2.2.2.1 _ (i_lt hB)), (h.2.2.2.1 _ (i_lt hA))]
  by_cases z : F 11 (F 3 pl.toNatClampNeg).toNatClampNeg ≤ F 11 (F 2 pl.toNatClampNeg).toNatClampNeg
  · rw [if_pos z, if_pos z]
    dsimp only
    rw [br0]
    have q := br_i (x := cg 9) (y := 0) (by rw [h9]; exact hp) (by decide)
    show SIM un cg (if r_X7_isBranch ((2 : Int32) * cg 9 + 0) = 0 then _ else (_, va_up cF 3 (upd (cF 3) ((2 : Int32) * cg 9 + 0).toNatClampNeg (cF 3 ((2 : Int32) * cg 9 + 0).toNatClampNeg + 1)))) _
    rw [if_neg q.1]
    rw [h9] at q ⊢
    have hh := sim_br0 h hg h9 h5 h15 h6 q.2
    rw [h9] at hh
    exact hh
  · rw [if_neg z, if_neg z]
    dsimp only
    rw [br1]
    have q := br_i (x := cg 9) (y := 1) (by rw [h9]; exact hp) (by decide)
    show SIM un cg (if r_X7_isBranch ((2 : Int32) * cg 9 + 1) = 0 then _ else (_, va_up cF 3 (upd (cF 3) ((2 : Int32) * cg 9 + 1).toNatClampNeg (cF 3 ((2 : Int32) * cg 9 + 1).toNatClampNeg + 1)))) _
    rw [if_neg q.1]
    rw [h9] at q ⊢
    have hh := sim_br1 (pl := pl) (x := F 4 pl.toNatClampNeg) h hg h5 h15 h6 q.2 rfl
    rw [h9] at hh
    exact hh
theorem st_12 (h : SB un cg cF g F) (hg : cg 11 = 1) (h9 : cg 9 = pl) (h5 : cg 5 = 0) (h15 : g 15 = 0) (h6 : cg 6 = -1) (hp : 0 ≤ pl.toInt ∧ pl.toInt < 80) (h8 : (cg 8).toInt ≤ 400) (hI : IR un uf (g 10) (F 9)) (hA : 0 ≤ (F 2 pl.toNatClampNeg).toInt ∧ (F 2 pl.toNatClampNeg).toInt < 8) (hB : 0 ≤ (F 3 pl.toNatClampNeg).toInt ∧ (F 3 pl.toNatClampNeg).toInt < 8) (hop : F 1 pl.toNatClampNeg = (12 : Int32)) : SIM un cg (cstep (12 : Int32) (F 2 pl.toNatClampNeg) (F 3 pl.toNatClampNeg) (F 4 pl.toNatClampNeg) (upd cg 10 (cg 9 + (1 : Int32))) cF un uf) (r_X9_does pl g F) := by
  unfold cstep r_X9_does
  rw [if_pos (show (5 : Int32) < 12 by decide), if_pos (show (8 : Int32) < 12 by decide), if_pos (show (10 : Int32) < 12 by decide), if_neg (show ¬ (13 : Int32) < 12 by decide)]
  rw [if_neg (show ¬ F 1 pl.toNatClampNeg = (0 : Int32) by rw [hop]; decide), if_neg (show ¬ F 1 pl.toNatClampNeg = (1 : Int32) by rw [hop]; decide), if_neg (show ¬ F 1 pl.toNatClampNeg = (2 : Int32) by rw [hop]; decide), if_neg (show ¬ F 1 pl.toNatClampNeg = (3 : Int32) by rw [hop]; decide), if_neg (show ¬ F 1 pl.toNatClampNeg = (4 : Int32) by rw [hop]; decide), if_neg (show ¬ F 1 pl.toNatClampNeg = (5 : Int32) by rw [hop]; decide), if_neg (show ¬ F 1 pl.toNatClampNeg = (6 : Int32) by rw [hop]; decide), if_neg (show ¬ F 1 pl.toNatClampNeg = (7 : Int32) by rw [hop]; decide), if_neg (show ¬ F 1 pl.toNatClampNeg = (8 : Int32) by rw [hop]; decide), if_neg (show ¬ F 1 pl.toNatClampNeg = (9 : Int32) by rw [hop]; decide), if_neg (show ¬ F 1 pl.toNatClampNeg = (10 : Int32) by rw [hop]; decide), if_neg (show ¬ F 1 pl.toNatClampNeg = (11 : Int32) by rw [hop]; decide), if_pos hop]
  unfold r_X7_jump
  rw [if_neg (show ¬ (12 : Int32) = 13 by decide), if_neg (show ¬ (12 : Int32) = 11 by decide), val_in hA, val_in hB]
  show SIM un cg (if cF 0 (F 2 pl.toNatClampNeg).toNatClampNeg = cF 0 (F 3 pl.toNatClampNeg).toNatClampNeg then _ else _) _
  rw [(h.2.2.2.1 _ (i_lt hA)), (h.2.2.2.1 _ (i_lt hB))]
  by_cases z : F 11 (F 2 pl.toNatClampNeg).toNatClampNeg = F 11 (F 3 pl.toNatClampNeg).toNatClampNeg
  · rw [if_pos z, if_pos z]
    dsimp only
    rw [br1]
    have q := br_i (x := cg 9) (y := 1) (by rw [h9]; exact hp) (by decide)
    show SIM un cg (if r_X7_isBranch ((2 : Int32) * cg 9 + 1) = 0 then _ else (_, va_up cF 3 (upd (cF 3) ((2 : Int32) * cg 9 + 1).toNatClampNeg (cF 3 ((2 : Int32) * cg 9 + 1).toNatClampNeg + 1)))) _
    rw [if_neg q.1]
    rw [h9] at q ⊢
    have hh := sim_br1 (pl := pl) (x := F 4 pl.toNatClampNeg) h hg h5 h15 h6 q.2 rfl
    rw [h9] at hh
    exact hh
  · rw [if_neg z, if_neg z]
    dsimp only
    rw [br0]
    have q := br_i (x := cg 9) (y := 0) (by rw [h9]; exact hp) (by decide)
    show SIM un cg (if r_X7_isBranch ((2 : Int32) * cg 9 + 0) = 0 then _ else (_, va_up cF 3 (upd (cF 3) ((2 : Int32) * cg 9 + 0).toNatClampNeg (cF 3 ((2 : Int32) * cg 9 + 0).toNatClampNeg + 1)))) _
    rw [if_neg q.1]
    rw [h9] at q ⊢
    have hh := sim_br0 h hg h9 h5 h15 h6 q.2
    rw [h9] at hh
    exact hh
theorem st_13 (h : SB un cg cF g F) (hg : cg 11 = 1) (h9 : cg 9 = pl) (h5 : cg 5 = 0) (h15 : g 15 = 0) (h6 : cg 6 = -1) (hp : 0 ≤ pl.toInt ∧ pl.toInt < 80) (h8 : (cg 8).toInt ≤ 400) (hI : IR un uf (g 10) (F 9)) (hA : 0 ≤ (F 2 pl.toNatClampNeg).toInt ∧ (F 2 pl.toNatClampNeg).toInt < 8) (hB : 0 ≤ (F 3 pl.toNatClampNeg).toInt ∧ (F 3 pl.toNatClampNeg).toInt < 8) (hop : F 1 pl.toNatClampNeg = (13 : Int32)) : SIM un cg (cstep (13 : Int32) (F 2 pl.toNatClampNeg) (F 3 pl.toNatClampNeg) (F 4 pl.toNatClampNeg) (upd cg 10 (cg 9 + (1 : Int32))) cF un uf) (r_X9_does pl g F) := by
  unfold cstep r_X9_does
  rw [if_pos (show (5 : Int32) < 13 by decide), if_pos (show (8 : Int32) < 13 by decide), if_pos (show (10 : Int32) < 13 by decide), if_neg (show ¬ (13 : Int32) < 13 by decide)]
  rw [if_neg (show ¬ F 1 pl.toNatClampNeg = (0 : Int32) by rw [hop]; decide), if_neg (show ¬ F 1 pl.toNatClampNeg = (1 : Int32) by rw [hop]; decide), if_neg (show ¬ F 1 pl.toNatClampNeg = (2 : Int32) by rw [hop]; decide), if_neg (show ¬ F 1 pl.toNatClampNeg = (3 : Int32) by rw [hop]; decide), if_neg (show ¬ F 1 pl.toNatClampNeg = (4 : Int32) by rw [hop]; decide), if_neg (show ¬ F 1 pl.toNatClampNeg = (5 : Int32) by rw [hop]; decide), if_neg (show ¬ F 1 pl.toNatClampNeg = (6 : Int32) by rw [hop]; decide), if_neg (show ¬ F 1 pl.toNatClampNeg = (7 : Int32) by rw [hop]; decide), if_neg (show ¬ F 1 pl.toNatClampNeg = (8 : Int32) by rw [hop]; decide), if_neg (show ¬ F 1 pl.toNatClampNeg = (9 : Int32) by rw [hop]; decide), if_neg (show ¬ F 1 pl.toNatClampNeg = (10 : Int32) by rw [hop]; decide), if_neg (show ¬ F 1 pl.toNatClampNeg = (11 : Int32) by rw [hop]; decide), if_neg (show ¬ F 1 pl.toNatClampNeg = (12 : Int32) by rw [hop]; decide), if_pos hop]
  unfold r_X7_jump
  rw [if_pos rfl]
  exact sim_jump h hg h5 h15 h6 rfl
theorem st_14 (h : SB un cg cF g F) (hg : cg 11 = 1) (h9 : cg 9 = pl) (h5 : cg 5 = 0) (h15 : g 15 = 0) (h6 : cg 6 = -1) (hp : 0 ≤ pl.toInt ∧ pl.toInt < 80) (h8 : (cg 8).toInt ≤ 400) (hI : IR un uf (g 10) (F 9)) (hA : 0 ≤ (F 2 pl.toNatClampNeg).toInt ∧ (F 2 pl.toNatClampNeg).toInt < 8) (hB : 0 ≤ (F 3 pl.toNatClampNeg).toInt ∧ (F 3 pl.toNatClampNeg).toInt < 8) (hop : F 1 pl.toNatClampNeg = (14 : Int32)) : SIM un cg (cstep (14 : Int32) (F 2 pl.toNatClampNeg) (F 3 pl.toNatClampNeg) (F 4 pl.toNatClampNeg) (upd cg 10 (cg 9 + (1 : Int32))) cF un uf) (r_X9_does pl g F) := by
  unfold cstep r_X9_does
  rw [if_pos (show (5 : Int32) < 14 by decide), if_pos (show (8 : Int32) < 14 by decide), if_pos (show (10 : Int32) < 14 by decide), if_pos (show (13 : Int32) < 14 by decide), if_pos rfl]
  rw [if_neg (show ¬ F 1 pl.toNatClampNeg = (0 : Int32) by rw [hop]; decide), if_neg (show ¬ F 1 pl.toNatClampNeg = (1 : Int32) by rw [hop]; decide), if_neg (show ¬ F 1 pl.toNatClampNeg = (2 : Int32) by rw [hop]; decide), if_neg (show ¬ F 1 pl.toNatClampNeg = (3 : Int32) by rw [hop]; decide), if_neg (show ¬ F 1 pl.toNatClampNeg = (4 : Int32) by rw [hop]; decide), if_neg (show ¬ F 1 pl.toNatClampNeg = (5 : Int32) by rw [hop]; decide), if_neg (show ¬ F 1 pl.toNatClampNeg = (6 : Int32) by rw [hop]; decide), if_neg (show ¬ F 1 pl.toNatClampNeg = (7 : Int32) by rw [hop]; decide), if_neg (show ¬ F 1 pl.toNatClampNeg = (8 : Int32) by rw [hop]; decide), if_neg (show ¬ F 1 pl.toNatClampNeg = (9 : Int32) by rw [hop]; decide), if_neg (show ¬ F 1 pl.toNatClampNeg = (10 : Int32) by rw [hop]; decide), if_neg (show ¬ F 1 pl.toNatClampNeg = (11 : Int32) by rw [hop]; decide), if_neg (show ¬ F 1 pl.toNatClampNeg = (12 : Int32) by rw [hop]; decide), if_neg (show ¬ F 1 pl.toNatClampNeg = (13 : Int32) by rw [hop]; decide), if_pos hop]
  unfold r_X7_openCallTo
  show SIM un cg (if cg 4 < 0 then _ else if cg 4 < 8 then (upd (upd (upd cg 10 (cg 9 + 1)) 4 (cg 4 + 1)) 10 _, va_up cF 2 (upd (cF 2) (cg 4).toNatClampNeg (cg 9))) else _) _
  have z0 : (0 : Int32).toInt = 0 := rfl
  have e8 : (8 : Int32).toInt = 8 := rfl
  have b := h.2.1
  have e4 := h.1
  rw [if_neg (show ¬ cg 4 < 0 by rw [e4]; simp only [sg_lt]; omega)]
  by_cases z : g 14 = 8
  · rw [if_neg (show ¬ cg 4 < 8 by rw [e4, z]; decide), if_pos z]
    exact sim_fail h h9 3 (by decide)
  · have ho := opc_i b z
    rw [if_pos (show cg 4 < 8 by rw [e4]; simp only [sg_lt]; omega), if_neg z]
    exact sim_call h hg h9 h5 h15 h6 hp rfl z
theorem st_15 (h : SB un cg cF g F) (hg : cg 11 = 1) (h9 : cg 9 = pl) (h5 : cg 5 = 0) (h15 : g 15 = 0) (h6 : cg 6 = -1) (hp : 0 ≤ pl.toInt ∧ pl.toInt < 80) (h8 : (cg 8).toInt ≤ 400) (hI : IR un uf (g 10) (F 9)) (hA : 0 ≤ (F 2 pl.toNatClampNeg).toInt ∧ (F 2 pl.toNatClampNeg).toInt < 8) (hB : 0 ≤ (F 3 pl.toNatClampNeg).toInt ∧ (F 3 pl.toNatClampNeg).toInt < 8) (hop : F 1 pl.toNatClampNeg = (15 : Int32)) : SIM un cg (cstep (15 : Int32) (F 2 pl.toNatClampNeg) (F 3 pl.toNatClampNeg) (F 4 pl.toNatClampNeg) (upd cg 10 (cg 9 + (1 : Int32))) cF un uf) (r_X9_does pl g F) := by
  unfold cstep r_X9_does
  rw [if_pos (show (5 : Int32) < 15 by decide), if_pos (show (8 : Int32) < 15 by decide), if_pos (show (10 : Int32) < 15 by decide), if_pos (show (13 : Int32) < 15 by decide), if_neg (show ¬ (15 : Int32) = 14 by decide), if_pos rfl]
  rw [if_neg (show ¬ F 1 pl.toNatClampNeg = (0 : Int32) by rw [hop]; decide), if_neg (show ¬ F 1 pl.toNatClampNeg = (1 : Int32) by rw [hop]; decide), if_neg (show ¬ F 1 pl.toNatClampNeg = (2 : Int32) by rw [hop]; decide), if_neg (show ¬ F 1 pl.toNatClampNeg = (3 : Int32) by rw [hop]; decide), if_neg (show ¬ F 1 pl.toNatClampNeg = (4 : Int32) by rw [hop]; decide), if_neg (show ¬ F 1 pl.toNatClampNeg = (5 : Int32) by rw [hop]; decide), if_neg (show ¬ F 1 pl.toNatClampNeg = (6 : Int32) by rw [hop]; decide), if_neg (show ¬ F 1 pl.toNatClampNeg = (7 : Int32) by rw [hop]; decide), if_neg (show ¬ F 1 pl.toNatClampNeg = (8 : Int32) by rw [hop]; decide), if_neg (show ¬ F 1 pl.toNatClampNeg = (9 : Int32) by rw [hop]; decide), if_neg (show ¬ F 1 pl.toNatClampNeg = (10 : Int32) by rw [hop]; decide), if_neg (show ¬ F 1 pl.toNatClampNeg = (11 : Int32) by rw [hop]; decide), if_neg (show ¬ F 1 pl.toNatClampNeg = (12 : Int32) by rw [hop]; decide), if_neg (show ¬ F 1 pl.toNatClampNeg = (13 : Int32) by rw [hop]; decide), if_neg (show ¬ F 1 pl.toNatClampNeg = (14 : Int32) by rw [hop]; decide), if_pos hop]
  by_cases z : g 14 = 0
  · rw [if_pos z]
    exact sim_ret0 h h5 h15 h6 z
  · rw [if_neg z]
    exact sim_ret h hg h5 h15 h6 z
theorem st_16 (h : SB un cg cF g F) (hg : cg 11 = 1) (h9 : cg 9 = pl) (h5 : cg 5 = 0) (h15 : g 15 = 0) (h6 : cg 6 = -1) (hp : 0 ≤ pl.toInt ∧ pl.toInt < 80) (h8 : (cg 8).toInt ≤ 400) (hI : IR un uf (g 10) (F 9)) (hA : 0 ≤ (F 2 pl.toNatClampNeg).toInt ∧ (F 2 pl.toNatClampNeg).toInt < 8) (hB : 0 ≤ (F 3 pl.toNatClampNeg).toInt ∧ (F 3 pl.toNatClampNeg).toInt < 8) (hop : F 1 pl.toNatClampNeg = (16 : Int32)) : SIM un cg (cstep (16 : Int32) (F 2 pl.toNatClampNeg) (F 3 pl.toNatClampNeg) (F 4 pl.toNatClampNeg) (upd cg 10 (cg 9 + (1 : Int32))) cF un uf) (r_X9_does pl g F) := by
  unfold cstep r_X9_does
  rw [if_pos (show (5 : Int32) < 16 by decide), if_pos (show (8 : Int32) < 16 by decide), if_pos (show (10 : Int32) < 16 by decide), if_pos (show (13 : Int32) < 16 by decide), if_neg (show ¬ (16 : Int32) = 14 by decide), if_neg (show ¬ (16 : Int32) = 15 by decide)]
  rw [if_neg (show ¬ F 1 pl.toNatClampNeg = (0 : Int32) by rw [hop]; decide), if_neg (show ¬ F 1 pl.toNatClampNeg = (1 : Int32) by rw [hop]; decide), if_neg (show ¬ F 1 pl.toNatClampNeg = (2 : Int32) by rw [hop]; decide), if_neg (show ¬ F 1 pl.toNatClampNeg = (3 : Int32) by rw [hop]; decide), if_neg (show ¬ F 1 pl.toNatClampNeg = (4 : Int32) by rw [hop]; decide), if_neg (show ¬ F 1 pl.toNatClampNeg = (5 : Int32) by rw [hop]; decide), if_neg (show ¬ F 1 pl.toNatClampNeg = (6 : Int32) by rw [hop]; decide), if_neg (show ¬ F 1 pl.toNatClampNeg = (7 : Int32) by rw [hop]; decide), if_neg (show ¬ F 1 pl.toNatClampNeg = (8 : Int32) by rw [hop]; decide), if_neg (show ¬ F 1 pl.toNatClampNeg = (9 : Int32) by rw [hop]; decide), if_neg (show ¬ F 1 pl.toNatClampNeg = (10 : Int32) by rw [hop]; decide), if_neg (show ¬ F 1 pl.toNatClampNeg = (11 : Int32) by rw [hop]; decide), if_neg (show ¬ F 1 pl.toNatClampNeg = (12 : Int32) by rw [hop]; decide), if_neg (show ¬ F 1 pl.toNatClampNeg = (13 : Int32) by rw [hop]; decide), if_neg (show ¬ F 1 pl.toNatClampNeg = (14 : Int32) by rw [hop]; decide), if_neg (show ¬ F 1 pl.toNatClampNeg = (15 : Int32) by rw [hop]; decide), if_pos hop]
  unfold r_X7_checkOrEnd
  rw [if_pos rfl, val_in hA]
  show SIM un cg (if cF 0 (F 2 pl.toNatClampNeg).toNatClampNeg = 0 then _ else _, cF) _
  rw [(h.2.2.2.1 _ (i_lt hA))]
  by_cases z : F 11 (F 2 pl.toNatClampNeg).toNatClampNeg = 0
  · rw [if_pos z, if_pos z]
    exact sim_fail h h9 4 (by decide)
  · rw [if_neg z, if_neg z]
    exact sim_same h hg h9 h5 h15 h6
theorem st_17 (h : SB un cg cF g F) (hg : cg 11 = 1) (h9 : cg 9 = pl) (h5 : cg 5 = 0) (h15 : g 15 = 0) (h6 : cg 6 = -1) (hp : 0 ≤ pl.toInt ∧ pl.toInt < 80) (h8 : (cg 8).toInt ≤ 400) (hI : IR un uf (g 10) (F 9)) (hA : 0 ≤ (F 2 pl.toNatClampNeg).toInt ∧ (F 2 pl.toNatClampNeg).toInt < 8) (hB : 0 ≤ (F 3 pl.toNatClampNeg).toInt ∧ (F 3 pl.toNatClampNeg).toInt < 8) (hop : F 1 pl.toNatClampNeg = (17 : Int32)) : SIM un cg (cstep (17 : Int32) (F 2 pl.toNatClampNeg) (F 3 pl.toNatClampNeg) (F 4 pl.toNatClampNeg) (upd cg 10 (cg 9 + (1 : Int32))) cF un uf) (r_X9_does pl g F) := by
  unfold cstep r_X9_does
  rw [if_pos (show (5 : Int32) < 17 by decide), if_pos (show (8 : Int32) < 17 by decide), if_pos (show (10 : Int32) < 17 by decide), if_pos (show (13 : Int32) < 17 by decide), if_neg (show ¬ (17 : Int32) = 14 by decide), if_neg (show ¬ (17 : Int32) = 15 by decide)]
  rw [if_neg (show ¬ F 1 pl.toNatClampNeg = (0 : Int32) by rw [hop]; decide), if_neg (show ¬ F 1 pl.toNatClampNeg = (1 : Int32) by rw [hop]; decide), if_neg (show ¬ F 1 pl.toNatClampNeg = (2 : Int32) by rw [hop]; decide), if_neg (show ¬ F 1 pl.toNatClampNeg = (3 : Int32) by rw [hop]; decide), if_neg (show ¬ F 1 pl.toNatClampNeg = (4 : Int32) by rw [hop]; decide), if_neg (show ¬ F 1 pl.toNatClampNeg = (5 : Int32) by rw [hop]; decide), if_neg (show ¬ F 1 pl.toNatClampNeg = (6 : Int32) by rw [hop]; decide), if_neg (show ¬ F 1 pl.toNatClampNeg = (7 : Int32) by rw [hop]; decide), if_neg (show ¬ F 1 pl.toNatClampNeg = (8 : Int32) by rw [hop]; decide), if_neg (show ¬ F 1 pl.toNatClampNeg = (9 : Int32) by rw [hop]; decide), if_neg (show ¬ F 1 pl.toNatClampNeg = (10 : Int32) by rw [hop]; decide), if_neg (show ¬ F 1 pl.toNatClampNeg = (11 : Int32) by rw [hop]; decide), if_neg (show ¬ F 1 pl.toNatClampNeg = (12 : Int32) by rw [hop]; decide), if_neg (show ¬ F 1 pl.toNatClampNeg = (13 : Int32) by rw [hop]; decide), if_neg (show ¬ F 1 pl.toNatClampNeg = (14 : Int32) by rw [hop]; decide), if_neg (show ¬ F 1 pl.toNatClampNeg = (15 : Int32) by rw [hop]; decide), if_neg (show ¬ F 1 pl.toNatClampNeg = (16 : Int32) by rw [hop]; decide)]
  unfold r_X7_checkOrEnd
  rw [if_neg (show ¬ (17 : Int32) = 16 by decide)]
  exact sim_end h h5 h15 h6
end SIMT
