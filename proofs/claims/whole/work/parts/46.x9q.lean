def insF (a : Nat) (b : Int32) (t : Nat) (f : Nat → Int32) : Nat → Int32 := fun k => if k = a then b else if a < k ∧ k ≤ t then f (k - 1) else f k
theorem insF_end {a t : Nat} (h : t ≤ a) (b : Int32) (f : Nat → Int32) : insF a b t f = upd f a b := by
  funext k
  simp only [insF, upd]
  by_cases e : k = a
  · rw [if_pos e, if_pos e]
  · rw [if_neg e, if_neg e, if_neg (by omega)]
theorem insF_step {a t : Nat} (h : a < t) (b : Int32) (f : Nat → Int32) : insF a b (t - 1) (upd f t (f (t - 1))) = insF a b t f := by
  funext k
  simp only [insF, upd]
  by_cases e : k = a
  · rw [if_pos e, if_pos e]
  · rw [if_neg e, if_neg e]
    by_cases c : a < k ∧ k ≤ t - 1
    · rw [if_pos c, if_neg (by omega), if_pos (by omega)]
    · rw [if_neg c]
      by_cases d : k = t
      · rw [if_pos d, if_pos (by omega), d]
      · rw [if_neg d, if_neg (by omega)]
def sz1 (z : Int32) : Int32 := if (24 : Int32) ≤ z then (24 : Int32) else z + (1 : Int32)
theorem cl_comes_g (g : Nat → Int32) (a0 b0 : Int32) (ha : 0 ≤ a0.toInt ∧ a0.toInt < 24) : ∀ (fu : Nat) (F : Nat → Nat → Int32) (x3 : Int32), (0 ≤ x3.toInt ∧ x3.toInt ≤ 23) → x3.toInt.toNat < fu → g_X9_comes_26 g a0 b0 fu F x3 = (upd g 10 (sz1 (g 10)), va_up F 9 (insF a0.toInt.toNat b0 x3.toInt.toNat (F 9)))
  | 0, _, _, _, h => absurd h (Nat.not_lt_zero _)
  | fu + 1, F, x3, hx, h => by
    unfold g_X9_comes_26
    by_cases c : x3 ≤ a0
    · rw [if_pos c, insF_end (by simp only [sg_le] at c; omega)]
      unfold sz1
      by_cases d : (24 : Int32) ≤ g 10
      · rw [if_pos d, if_pos d]
        rfl
      · rw [if_neg d, if_neg d]
        rfl
    · have hl := cm1 c ha.1 hx.2
      have e1 : (x3 + (-1 : Int32)).toInt = x3.toInt - 1 := by
        have e2 : (-1 : Int32).toInt = -1 := rfl
        rw [fb_addI (by rw [e2]; omega) (by rw [e2]; omega), e2]
        omega
      have e3 : (x3 - (1 : Int32)).toInt = x3.toInt - 1 := by
        have e2 : (1 : Int32).toInt = 1 := rfl
        rw [fb_subI (by rw [e2]; omega) (by rw [e2]; omega), e2]
      simp only [sg_le] at c
      rw [if_neg (by simp only [sg_le]; exact c), cl_comes_g g a0 b0 ha fu _ _ (by rw [e1]; omega) (by rw [e1]; omega), vup_vup, e1]
      have e4 : (x3 - (1 : Int32)).toNatClampNeg = x3.toInt.toNat - 1 := by
        show (x3 - (1 : Int32)).toInt.toNat = _
        rw [e3]
        omega
      rw [e4, show (x3.toInt - 1).toNat = x3.toInt.toNat - 1 by omega]
      show (_, va_up F 9 (insF a0.toInt.toNat b0 (x3.toInt.toNat - 1) (upd (F 9) x3.toInt.toNat (F 9 (x3.toInt.toNat - 1))))) = _
      rw [insF_step (by omega)]
theorem cl_comes (a0 b0 : Int32) (g : Nat → Int32) (F : Nat → Nat → Int32) (h10 : 0 ≤ (g 10).toInt ∧ (g 10).toInt ≤ 24) (ha : 0 ≤ a0.toInt) : r_X9_comes a0 b0 g F = if a0 < (24 : Int32) then (upd g 10 (sz1 (g 10)), va_up F 9 (insF a0.toInt.toNat b0 (if (24 : Int32) ≤ g 10 then 23 else (g 10).toInt.toNat) (F 9))) else (g, F) := by
  unfold r_X9_comes
  by_cases c : a0 < (24 : Int32)
  · rw [if_pos c, if_pos c]
    have e24 : (24 : Int32).toInt = 24 := rfl
    have c2 := c
    simp only [sg_lt] at c2
    by_cases d : (24 : Int32) ≤ g 10
    · rw [if_pos d, if_pos d, cl_comes_g g a0 b0 (by omega) _ F (23 : Int32) (by decide) (by decide)]
      rfl
    · have d2 := d
      simp only [sg_le] at d2
      rw [if_neg d, if_neg d, cl_comes_g g a0 b0 (by omega) _ F (g 10) (by omega) (by omega)]
  · rw [if_neg c, if_neg c]
theorem sz1_b {z : Int32} (h : 0 ≤ z.toInt ∧ z.toInt ≤ 24) : 0 ≤ (sz1 z).toInt ∧ (sz1 z).toInt ≤ 24 := by
  unfold sz1
  by_cases d : (24 : Int32) ≤ z
  · rw [if_pos d]
    decide
  · rw [if_neg d, inc_i (n := 24) h.1 h.2 (by omega)]
    simp only [sg_le] at d
    have e24 : (24 : Int32).toInt = 24 := rfl
    omega
theorem J_X9_comes (a0 b0 : Int32) (g : Nat → Int32) (F : Nat → Nat → Int32) (hJ : J g F) (h0 : 0 ≤ a0.toInt) : J (r_X9_comes a0 b0 g F).1 (r_X9_comes a0 b0 g F).2 := by
  rw [cl_comes a0 b0 g F hJ.p10 h0]
  refine P_ite (fun t : (Nat → Int32) × (Nat → Nat → Int32) => J t.1 t.2) (fun _ => ?_) (fun _ => hJ)
  refine ⟨hJ.p5, hJ.p8, ?_, hJ.p14, hJ.p23, hJ.p38, hJ.wf, hJ.q29, hJ.q30, hJ.q33, hJ.q36⟩
  show 0 ≤ (sz1 (g 10)).toInt ∧ (sz1 (g 10)).toInt ≤ 24
  exact sz1_b hJ.p10
theorem J.s10 {g : Nat → Int32} {F : Nat → Nat → Int32} (h : J g F) (v : Int32) (hv : 0 ≤ v.toInt ∧ v.toInt ≤ 24) : J (upd g 10 v) F := ⟨h.p5, h.p8, hv, h.p14, h.p23, h.p38, h.wf, h.q29, h.q30, h.q33, h.q36⟩
/-- the remainder as the machine has it -/
theorem rem_i {x n : Int32} (hx : 0 ≤ x.toInt) (hn : 0 < n.toInt) : (x - x / n * n).toInt = x.toInt % n.toInt := by
  have h1 := fb_rng x
  have h2 := fb_rng n
  have hq : 0 ≤ x.toInt / n.toInt := Int.ediv_nonneg hx (by omega)
  have hd : x.toInt / n.toInt ≤ x.toInt := Int.ediv_le_self _ hx
  have he : n.toInt * (x.toInt / n.toInt) + x.toInt % n.toInt = x.toInt := Int.mul_ediv_add_emod _ _
  have hm : 0 ≤ x.toInt % n.toInt := Int.emod_nonneg _ (by omega)
  have hp : 0 ≤ n.toInt * (x.toInt / n.toInt) := Int.mul_nonneg (by omega) hq
  have e1 : (x / n).toInt = x.toInt / n.toInt := by
    rw [Int32.toInt_div, Int.tdiv_eq_ediv_of_nonneg hx, fb_bmod (by omega) (by omega)]
  have hmul : (x / n).toInt * n.toInt = x.toInt - x.toInt % n.toInt := by
    rw [e1, Int.mul_comm]
    omega
  have e2 : (x / n * n).toInt = x.toInt - x.toInt % n.toInt := by
    rw [fb_mulI (by rw [hmul]; omega) (by rw [hmul]; omega), hmul]
  rw [fb_subI (by rw [e2]; omega) (by rw [e2]; omega), e2]
  omega
theorem rem_b {x n : Int32} (hx : 0 ≤ x.toInt) (hn : 0 < n.toInt) : 0 ≤ (x - x / n * n).toInt ∧ (x - x / n * n).toInt < n.toInt := by
  rw [rem_i hx hn]
  exact ⟨Int.emod_nonneg _ (by omega), Int.emod_lt_of_pos _ hn⟩
theorem n_pos {n : Int32} (h : ¬ n = (0 : Int32)) (hn : 0 ≤ n.toInt) : 0 < n.toInt := by
  have : n.toInt ≠ 0 := fun e => h (Int32.toInt_inj.mp (by rw [e]; rfl))
  omega
theorem n1_ne {n : Int32} (hn : 0 ≤ n.toInt ∧ n.toInt ≤ 24) : ¬ n + (1 : Int32) = (0 : Int32) := by
  intro e
  have := inc_i (x := n) (n := 24) hn.1 hn.2 (by omega)
  rw [e] at this
  have z : (0 : Int32).toInt = 0 := rfl
  omega
theorem n1_b {x n : Int32} (hx : 0 ≤ x.toInt) (hn : 0 ≤ n.toInt ∧ n.toInt ≤ 24) : 0 ≤ (x - x / (n + (1 : Int32)) * (n + (1 : Int32))).toInt ∧ (x - x / (n + (1 : Int32)) * (n + (1 : Int32))).toInt ≤ n.toInt := by
  have e := inc_i (x := n) (n := 24) hn.1 hn.2 (by omega)
  have := rem_b (x := x) (n := n + 1) hx (by rw [e]; omega)
  rw [e] at this
  omega
theorem many_b {y : Int32} (hy : 0 ≤ y.toInt) : 1 ≤ ((1 : Int32) + (y - y / (4 : Int32) * (4 : Int32))).toInt ∧ ((1 : Int32) + (y - y / (4 : Int32) * (4 : Int32))).toInt ≤ 4 := by
  have h := rem_b (x := y) (n := 4) hy (by decide)
  have e4 : (4 : Int32).toInt = 4 := rfl
  have e1 : (1 : Int32).toInt = 1 := rfl
  rw [e4] at h
  rw [fb_addI (by rw [e1]; omega) (by rw [e1]; omega), e1]
  omega
theorem k_all {k : Int32} (h : ¬ r_X9_in k (0 : Int32) (6 : Int32) = 0) (h0 : ¬ k = (0 : Int32)) (h1 : ¬ k = (1 : Int32)) (h2 : ¬ k = (2 : Int32)) (h3 : ¬ k = (3 : Int32)) (h4 : ¬ k = (4 : Int32)) (h5 : ¬ k = (5 : Int32)) (h6 : ¬ k = (6 : Int32)) : False := by
  have hb := in_b (a := 0) (b := 6) h (by decide) (by decide)
  have e : ∀ (n : Int32) (m : Int), n.toInt = m → ¬ k = n → k.toInt ≠ m := fun n m hn hk e => hk (Int32.toInt_inj.mp (by rw [e, hn]))
  have a0 := e 0 0 rfl h0
  have a1 := e 1 1 rfl h1
  have a2 := e 2 2 rfl h2
  have a3 := e 3 3 rfl h3
  have a4 := e 4 4 rfl h4
  have a5 := e 5 5 rfl h5
  have a6 := e 6 6 rfl h6
  omega
theorem m24 {m n : Int32} (h : 0 ≤ m.toInt ∧ m.toInt < n.toInt) (hn : n.toInt ≤ 24) : vp_in m 24 := vp_bd h.1 (by omega)
theorem mm_b {m n k : Int32} (h : 0 ≤ m.toInt ∧ m.toInt < n.toInt) (hn : n.toInt ≤ 24) (hk : 1 ≤ k.toInt ∧ k.toInt ≤ 4) : (m + k ≤ n → (0 ≤ k.toInt ∧ k.toInt ≤ 24) ∧ (0 ≤ k.toInt ∧ k.toInt ≤ n.toInt) ∧ m.toInt + k.toInt ≤ 24) ∧ (¬ m + k ≤ n → (0 ≤ (n - m).toInt ∧ (n - m).toInt ≤ 24) ∧ (0 ≤ (n - m).toInt ∧ (n - m).toInt ≤ n.toInt) ∧ m.toInt + (n - m).toInt ≤ 24) ∧ (0 ≤ m.toInt ∧ m.toInt ≤ 24) := by
  simp only [sg_le]
  rw [sub_i (by omega) h.1, add_i (n := 0) (by omega) (by omega)]
  omega
theorem k3_b {m k : Int32} {j : Nat} (hm : 0 ≤ m.toInt ∧ m.toInt ≤ 24) (hk : 0 ≤ k.toInt ∧ k.toInt ≤ 24) (hs : m.toInt + k.toInt ≤ 24) (hj : j ≤ 24) (c : ¬ k ≤ nI j) : j < 24 ∧ vp_in (m + nI j) 24 ∧ 0 ≤ (m + k + nI j).toInt := by
  simp only [sg_le] at c
  have e := nI_toInt (n := j) (by omega)
  rw [e] at c
  have e1 := add_i (n := 0) (x := m) (y := nI j) (by omega) (by omega)
  have e2 := add_i (n := 0) (x := m) (y := k) (by omega) (by omega)
  have e3 := add_i (n := 0) (x := m + k) (y := nI j) (by omega) (by omega)
  refine ⟨by omega, vp_bd (by rw [e1]; omega) (by rw [e1]; omega), by rw [e3]; omega⟩
theorem vp_24x {x k : Int32} (h : 0 ≤ x.toInt ∧ x.toInt < 80) (hk : 0 ≤ k.toInt ∧ k.toInt < 24) : vp_in ((24 : Int32) * x + k) 1920 := by
  have := mad_i (c := 24) (x := x) (y := k) (k := 24) rfl (by omega) (by omega) (by omega)
  exact vp_bd (by rw [this]; omega) (by rw [this]; omega)
theorem k6_b {x z : Int32} (hx : 0 ≤ x.toInt ∧ x.toInt ≤ 24) (hz : z.toInt ≤ 24) (c : ¬ z ≤ x) : (0 ≤ x.toInt ∧ x.toInt < 24) ∧ (0 ≤ (x + (1 : Int32)).toInt ∧ (x + (1 : Int32)).toInt ≤ 24) ∧ (24 - (x + (1 : Int32)).toInt).toNat < (24 - x.toInt).toNat := by
  simp only [sg_le] at c
  rw [inc_i (n := 24) hx.1 hx.2 (by omega)]
  omega
