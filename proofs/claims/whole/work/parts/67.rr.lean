/-- what is told of the latest run -/
def LR (lg : Nat → Int32) (lF : Nat → Nat → Int32) (g : Nat → Int32) (F : Nat → Nat → Int32) : Prop := lg 5 = g 20 ∧ lg 6 = g 21 ∧ lg 4 = g 23 ∧ lg 7 = g 22 ∧ r_X7_branchesReached lg lF = g 24 ∧ (∀ i, r_X7_openCall i lg lF = r_X9_called i g F) ∧ Ag 8 (lF 0) (F 26) ∧ Ag 160 (lF 3) (F 27)
theorem called_of {i : Int32} {g g' : Nat → Int32} {F F' : Nat → Nat → Int32} (h23 : g' 23 = g 23) (h25 : F' 25 = F 25) : r_X9_called i g' F' = r_X9_called i g F := by
  unfold r_X9_called
  rw [h23, h25]
theorem LR.of {lg : Nat → Int32} {lF : Nat → Nat → Int32} {g g' : Nat → Int32} {F F' : Nat → Nat → Int32} (h : LR lg lF g F) (h20 : g' 20 = g 20) (h21 : g' 21 = g 21) (h22 : g' 22 = g 22) (h23 : g' 23 = g 23) (h24 : g' 24 = g 24) (h25 : F' 25 = F 25) (h26 : F' 26 = F 26) (h27 : F' 27 = F 27) : LR lg lF g' F' := by
  obtain ⟨a1, a2, a3, a4, a5, a6, a7, a8⟩ := h
  refine ⟨by rw [h20]; exact a1, by rw [h21]; exact a2, by rw [h23]; exact a3, by rw [h22]; exact a4, by rw [h24]; exact a5, fun i => ?_, by rw [h26]; exact a7, by rw [h27]; exact a8⟩
  rw [called_of h23 h25]
  exact a6 i
theorem br_sim (lg : Nat → Int32) (lF : Nat → Nat → Int32) (f : Nat → Int32) (hA : Ag 160 (lF 3) f) : ∀ (n fu : Nat) (j : Nat) (a : Int32), n < fu → n + j = 160 → g_X7_branchesReached_4 lg lF fu a j = bcnt f n j a
  | _, 0, _, _, h, _ => absurd h (Nat.not_lt_zero _)
  | 0, fu + 1, j, a, h, hj => by
    obtain rfl : j = 160 := by omega
    unfold g_X7_branchesReached_4
    rw [if_pos (by decide)]
    rfl
  | n + 1, fu + 1, j, a, h, hj => by
    unfold g_X7_branchesReached_4
    rw [if_neg (fun k => by have := (le_nI (by omega)).mp k; have e : (160 : Int32).toInt.toNat = 160 := rfl; omega), hA j (by omega)]
    show _ = bcnt f n (j + 1) (if f j ≤ 0 then a + 0 else a + 1)
    by_cases c : f j ≤ 0
    · rw [if_pos c, if_pos c, add0]
      exact br_sim lg lF f hA n fu (j + 1) a (by omega) (by omega)
    · rw [if_neg c, if_neg c]
      exact br_sim lg lF f hA n fu (j + 1) (a + 1) (by omega) (by omega)
theorem kp_20 (g : Nat → Int32) (F : Nat → Nat → Int32) : kp9g g F 20 = g 15 ∧ kp9g g F 21 = (if g 15 = 0 then (-1 : Int32) else g 16) ∧ kp9g g F 22 = g 17 ∧ kp9g g F 23 = (if g 15 = 0 then (0 : Int32) else g 14) ∧ kp9g g F 24 = bcnt (F 19) 160 0 (0 : Int32) := by
  unfold kp9g
  refine ⟨?_, ?_, ?_, ?_, ?_⟩
  · rw [upd_n _ _ (by decide), upd_n _ _ (by decide), upd_n _ _ (by decide), upd_n _ _ (by decide), upd_s]
  · rw [upd_n _ _ (by decide), upd_n _ _ (by decide), upd_n _ _ (by decide), upd_s]
  · rw [upd_n _ _ (by decide), upd_n _ _ (by decide), upd_s]
  · rw [upd_n _ _ (by decide), upd_s]
  · rw [upd_s]
theorem kp_25 (g : Nat → Int32) (F : Nat → Nat → Int32) : kp9F g F 25 = cpy 8 (fun k => r_X9_openAt (nI k) g F) (F 25) ∧ kp9F g F 26 = cpy 8 (F 11) (F 26) ∧ kp9F g F 27 = cpy 160 (F 19) (F 27) := by
  unfold kp9F
  refine ⟨?_, ?_, ?_⟩
  · rw [va_up_ne _ _ (by decide), va_up_ne _ _ (by decide), va_up_self]
  · rw [va_up_ne _ _ (by decide), va_up_self]
  · rw [va_up_self]
/-- a run that has ended is told alike -/
theorem keeps_sim {cg : Nat → Int32} {cF : Nat → Nat → Int32} {g : Nat → Int32} {F : Nat → Nat → Int32} (h : TR cg cF g F) : LR cg cF (kp9g g F) (kp9F g F) := by
  have hoc := fun i => oc_sim h i
  obtain ⟨a1, a2, a3, a4, a5, a6, a7, a8⟩ := h
  obtain ⟨k20, k21, k22, k23, k24⟩ := kp_20 g F
  obtain ⟨k25, k26, k27⟩ := kp_25 g F
  refine ⟨by rw [k20]; exact a1, ?_, ?_, by rw [k22]; exact a2, ?_, fun i => ?_, ?_, ?_⟩
  · rw [k21]
    rcases a6 with ⟨x, -, y⟩ | ⟨x, y⟩
    · rw [if_pos x, a3, y]
    · rw [if_neg x, a3]
  · rw [k23]
    rcases a6 with ⟨x, y, -⟩ | ⟨x, y⟩
    · rw [if_pos x, y]
    · rw [if_neg x, y]
  · rw [k24]
    exact br_sim cg cF (F 19) a5 160 _ 0 0 (by omega) (by omega)
  · rw [hoc i]
    have z : (0 : Int32).toInt = 0 := rfl
    have e1 : (1 : Int32).toInt = 1 := rfl
    have ed : (g 14 - 1).toInt = (g 14).toInt - 1 := by rw [fb_subI (by rw [e1]; omega) (by rw [e1]; omega), e1]
    unfold r_X9_called
    rw [k23, k25]
    by_cases c : g 15 = 0
    · rw [if_pos c, if_pos]
      · unfold r_X9_openAt
        rw [if_pos c]
      · unfold r_X9_in
        by_cases d : i < 0
        · rw [if_pos d]
        · rw [if_neg d, if_pos]
          simp only [sg_lt] at d ⊢
          have : ((0 : Int32) - 1).toInt = -1 := rfl
          omega
    · rw [if_neg c]
      by_cases d : r_X9_in i 0 (g 14 - 1) = 0
      · rw [if_pos d]
        unfold r_X9_openAt
        rw [if_neg c, if_pos d]
      · rw [if_neg d]
        have q := in_y d
        simp only [sg_le] at q
        rw [cpy_lt (by rw [tN]; omega), tN, nI_self (by omega)]
  · intro k hk
    rw [k26, cpy_lt hk]
    exact a4 k hk
  · intro k hk
    rw [k27, cpy_lt hk]
    exact a5 k hk
/-- the class's state is the reference's -/
def RR (T : Int) (rf pn : Int32) (pf : Nat → Int32) (tn : Int32) (tf : Nat → Int32) (sn : Int32) (lg : Nat → Int32) (lF : Nat → Nat → Int32) (bcv : Nat → Int32) (btr bpn : Int32) (bpf bpz bff : Nat → Int32) (bfsn : Int32) (bfsf bfsz : Nat → Int32) (dcv : Nat → Int32) (dtr dpn : Int32) (dpf dpz dff : Nat → Int32) (dfsn : Int32) (dfsf dfsz : Nat → Int32) (cmn ctn kk knn ktn : Int32) (g : Nat → Int32) (F : Nat → Nat → Int32) : Prop := rf = g 6 ∧ PR pn pf g F ∧ IR tn tf (g 8) (F 7) ∧ LR lg lF g F ∧ BR 0 T bcv btr bpn bpf bpz bff bfsn bfsf bfsz F ∧ BR 1 T dcv dtr dpn dpf dpz dff dfsn dfsf dfsz F ∧ (0 ≤ sn.toInt ∧ 0 ≤ cmn.toInt ∧ 0 ≤ ctn.toInt ∧ (0 ≤ knn.toInt ∧ knn.toInt ≤ 24) ∧ 0 ≤ ktn.toInt) ∧ kk = g 39 ∧ J g F
