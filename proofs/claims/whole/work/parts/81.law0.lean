theorem vp_s0 {j L : Nat} (hj : j + 5 ≤ L) (hL : L ≤ 2560) : vp_in (nI j) L := vp_in_nI (by omega) (by omega)
theorem vp_s1 {j L : Nat} (hj : j + 5 ≤ L) (hL : L ≤ 2560) : vp_in ((nI j) + (1 : Int32)) L := by
  rw [show (nI j) + (1 : Int32) = nI (j + 1) from nI_add j 1]
  exact vp_in_nI (by omega) (by omega)
theorem vp_s2 {j L : Nat} (hj : j + 5 ≤ L) (hL : L ≤ 2560) : vp_in ((nI j) + (2 : Int32)) L := by
  rw [show (nI j) + (2 : Int32) = nI (j + 2) from nI_add j 2]
  exact vp_in_nI (by omega) (by omega)
theorem vp_s3 {j L : Nat} (hj : j + 5 ≤ L) (hL : L ≤ 2560) : vp_in ((nI j) + (3 : Int32)) L := by
  rw [show (nI j) + (3 : Int32) = nI (j + 3) from nI_add j 3]
  exact vp_in_nI (by omega) (by omega)
theorem vp_s4 {j L : Nat} (hj : j + 5 ≤ L) (hL : L ≤ 2560) : vp_in ((nI j) + (4 : Int32)) L := by
  rw [show (nI j) + (4 : Int32) = nI (j + 4) from nI_add j 4]
  exact vp_in_nI (by omega) (by omega)
theorem rr_J {T : Int} {rf : Int32} {pn : Int32} {pf : Nat → Int32} {tn : Int32} {tf : Nat → Int32} {sn : Int32} {lg : Nat → Int32} {lF : Nat → Nat → Int32} {bcv : Nat → Int32} {btr : Int32} {bpn : Int32} {bpf : Nat → Int32} {bpz : Nat → Int32} {bff : Nat → Int32} {bfsn : Int32} {bfsf : Nat → Int32} {bfsz : Nat → Int32} {dcv : Nat → Int32} {dtr : Int32} {dpn : Int32} {dpf : Nat → Int32} {dpz : Nat → Int32} {dff : Nat → Int32} {dfsn : Int32} {dfsf : Nat → Int32} {dfsz : Nat → Int32} {cmn : Int32} {ctn : Int32} {kk : Int32} {knn : Int32} {ktn : Int32} {g : Nat → Int32} {F : Nat → Nat → Int32} (hR : RR T rf pn pf tn tf sn lg lF bcv btr bpn bpf bpz bff bfsn bfsf bfsz dcv dtr dpn dpf dpz dff dfsn dfsf dfsz cmn ctn kk knn ktn g F) : J g F := hR.2.2.2.2.2.2.2.2
theorem rr_nn {T : Int} {rf : Int32} {pn : Int32} {pf : Nat → Int32} {tn : Int32} {tf : Nat → Int32} {sn : Int32} {lg : Nat → Int32} {lF : Nat → Nat → Int32} {bcv : Nat → Int32} {btr : Int32} {bpn : Int32} {bpf : Nat → Int32} {bpz : Nat → Int32} {bff : Nat → Int32} {bfsn : Int32} {bfsf : Nat → Int32} {bfsz : Nat → Int32} {dcv : Nat → Int32} {dtr : Int32} {dpn : Int32} {dpf : Nat → Int32} {dpz : Nat → Int32} {dff : Nat → Int32} {dfsn : Int32} {dfsf : Nat → Int32} {dfsz : Nat → Int32} {cmn : Int32} {ctn : Int32} {kk : Int32} {knn : Int32} {ktn : Int32} {g : Nat → Int32} {F : Nat → Nat → Int32} (hR : RR T rf pn pf tn tf sn lg lF bcv btr bpn bpf bpz bff bfsn bfsf bfsz dcv dtr dpn dpf dpz dff dfsn dfsf dfsz cmn ctn kk knn ktn g F) : knn.toInt ≤ 24 := hR.2.2.2.2.2.2.1.2.2.2.1.2
theorem rr_hn {T : Int} {rf : Int32} {pn : Int32} {pf : Nat → Int32} {tn : Int32} {tf : Nat → Int32} {sn : Int32} {lg : Nat → Int32} {lF : Nat → Nat → Int32} {bcv : Nat → Int32} {btr : Int32} {bpn : Int32} {bpf : Nat → Int32} {bpz : Nat → Int32} {bff : Nat → Int32} {bfsn : Int32} {bfsf : Nat → Int32} {bfsz : Nat → Int32} {dcv : Nat → Int32} {dtr : Int32} {dpn : Int32} {dpf : Nat → Int32} {dpz : Nat → Int32} {dff : Nat → Int32} {dfsn : Int32} {dfsf : Nat → Int32} {dfsz : Nat → Int32} {cmn : Int32} {ctn : Int32} {kk : Int32} {knn : Int32} {ktn : Int32} {g : Nat → Int32} {F : Nat → Nat → Int32} (hR : RR T rf pn pf tn tf sn lg lF bcv btr bpn bpf bpz bff bfsn bfsf bfsz dcv dtr dpn dpf dpz dff dfsn dfsf dfsz cmn ctn kk knn ktn g F) : pn ≤ 80 := by
  have h := hR.2.1
  rw [h.1]
  simp only [sg_le]
  have e : (80 : Int32).toInt = 80 := rfl
  rw [e]
  exact h.2.1.2
theorem nb_in {z : Int32} (h0 : ¬ z = (0 : Int32)) (h1 : ¬ z = (1 : Int32)) : r_X9_in z 0 1 = 0 := by
  unfold r_X9_in
  have z0 : (0 : Int32).toInt = 0 := rfl
  have e1 : (1 : Int32).toInt = 1 := rfl
  have a0 : z.toInt ≠ 0 := fun e => h0 (Int32.toInt_inj.mp e)
  have a1 : z.toInt ≠ 1 := fun e => h1 (Int32.toInt_inj.mp e)
  by_cases c : z < 0
  · rw [if_pos c]
  · rw [if_neg c, if_pos]
    simp only [sg_lt] at *
    omega
theorem ne_change {z1 : Int32} {z2 z3 z4 : Int32} {g : Nat → Int32} {F : Nat → Nat → Int32} (h0 : ¬ z1 = (0 : Int32)) (h1 : ¬ z1 = (1 : Int32)) : r_X9_change z1 z2 z3 z4 g F = (-1, g, F) := by
  unfold r_X9_change
  rw [if_pos (nb_in h0 h1)]
theorem ne_attempt {z1 : Int32} {g : Nat → Int32} {F : Nat → Nat → Int32} (h0 : ¬ z1 = (0 : Int32)) (h1 : ¬ z1 = (1 : Int32)) : r_X9_attempt z1 g F = (-1, g, F) := by
  unfold r_X9_attempt
  rw [if_pos (nb_in h0 h1)]
theorem ne_pool {z1 : Int32} {z2 : Int32} {g : Nat → Int32} {F : Nat → Nat → Int32} (h0 : ¬ z1 = (0 : Int32)) (h1 : ¬ z1 = (1 : Int32)) : r_X9_pool z1 z2 g F = (-1, g, F) := by
  unfold r_X9_pool
  rw [if_pos (nb_in h0 h1)]
theorem ne_first {z1 : Int32} {z2 : Int32} {g : Nat → Int32} {F : Nat → Nat → Int32} (h0 : ¬ z1 = (0 : Int32)) (h1 : ¬ z1 = (1 : Int32)) : r_X9_first z1 z2 g F = (-1, g, F) := by
  unfold r_X9_first
  rw [if_pos (show r_X9_isFault z1 z2 g F = 0 from if_pos (nb_in h0 h1))]
theorem ne_cut {z1 : Int32} {z2 : Int32} {g : Nat → Int32} {F : Nat → Nat → Int32} (h0 : ¬ z1 = (0 : Int32)) (h1 : ¬ z1 = (1 : Int32)) : r_X9_cut z1 z2 g F = (-1, g, F) := by
  unfold r_X9_cut
  rw [if_pos (show r_X9_isFault z1 z2 g F = 0 from if_pos (nb_in h0 h1))]
theorem ne_least {z1 : Int32} {z2 : Int32} {g : Nat → Int32} {F : Nat → Nat → Int32} (h0 : ¬ z1 = (0 : Int32)) (h1 : ¬ z1 = (1 : Int32)) : r_X9_least z1 z2 g F = (-1, g, F) := by
  unfold r_X9_least
  rw [if_pos (show r_X9_isFault z1 z2 g F = 0 from if_pos (nb_in h0 h1))]
theorem ne_merge {z1 : Int32} {g : Nat → Int32} {F : Nat → Nat → Int32} (h0 : ¬ z1 = (0 : Int32)) (h1 : ¬ z1 = (1 : Int32)) : r_X9_merge z1 g F = (-1, g, F) := by
  unfold r_X9_merge
  rw [if_pos (nb_in h0 h1)]
theorem ne_about {z1 : Int32} {z2 : Int32} {g : Nat → Int32} {F : Nat → Nat → Int32} (h0 : ¬ z1 = (0 : Int32)) (h1 : ¬ z1 = (1 : Int32)) : r_X9_about z1 z2 g F = -1 := by
  unfold r_X9_about
  rw [if_pos (nb_in h0 h1)]
theorem ne_covered {z1 : Int32} {z2 z3 : Int32} {g : Nat → Int32} {F : Nat → Nat → Int32} (h0 : ¬ z1 = (0 : Int32)) (h1 : ¬ z1 = (1 : Int32)) : r_X9_covered z1 z2 z3 g F = -1 := by
  unfold r_X9_covered
  rw [if_pos (nb_in h0 h1)]
theorem ne_fault {z1 : Int32} {z2 z3 : Int32} {g : Nat → Int32} {F : Nat → Nat → Int32} (h0 : ¬ z1 = (0 : Int32)) (h1 : ¬ z1 = (1 : Int32)) : r_X9_fault z1 z2 z3 g F = -1 := by
  unfold r_X9_fault
  rw [if_pos (show r_X9_isFault z1 z2 g F = 0 from if_pos (nb_in h0 h1))]
