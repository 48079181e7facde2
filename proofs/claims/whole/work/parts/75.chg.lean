/-! what a change does to an input, in the class and in the reference -/
theorem IR.put {n : Int32} {f : Nat → Int32} {m : Int32} {e : Nat → Int32} (h : IR n f m e) (i : Nat) {v w : Int32} (hv : v = w) (hb : 0 ≤ w.toInt ∧ w.toInt ≤ 255) : IR n (upd f i v) m (upd e i w) := by
  obtain ⟨a, b, c⟩ := h
  refine ⟨a, b, fun k hk => ?_⟩
  by_cases q : k = i
  · rw [q, upd_s, upd_s]
    exact ⟨hv, hb⟩
  · rw [upd_n _ _ q, upd_n _ _ q]
    exact c k hk
/-- what a piece left out leaves: of the class's two parts and of the reference's shift -/
theorem leave_sim {n : Int32} {f : Nat → Int32} {m : Int32} {e : Nat → Int32} (h : IR n f m e) {mn : Int32} {mf : Nat → Int32} (hm : 0 ≤ mn.toInt) {o s M : Int32} (ho : 0 ≤ o.toInt ∧ o.toInt < n.toInt) (hs : 1 ≤ s.toInt ∧ s.toInt ≤ 1000) (hM : (o.toInt + s.toInt ≤ m.toInt ∧ M = s) ∨ (m.toInt < o.toInt + s.toInt ∧ M.toInt = m.toInt - o.toInt)) : IR (r_X4_copyParts o (o + s) mn mf n f).1 (r_X4_copyParts o (o + s) mn mf n f).2 (m - M) (shl o.toInt.toNat M.toInt.toNat m.toInt.toNat e) := by
  obtain ⟨rfl, hb, hc⟩ := h
  have eo := add_i (n := 0) (x := o) (y := s) (by omega) (by omega)
  rw [parts_cl hm hb ho.1 (by rw [eo]; omega), eo]
  have hMb : 0 ≤ M.toInt ∧ o.toInt + M.toInt ≤ n.toInt := by
    rcases hM with ⟨a, rfl⟩ | ⟨a, b⟩
    · omega
    · omega
  have es := sub_i (x := n) (y := M) hb.1 hMb.1
  have e1 : min o.toInt.toNat n.toInt.toNat = o.toInt.toNat := by omega
  rw [e1]
  have e2 : o.toInt.toNat + min (n.toInt.toNat - (o.toInt + s.toInt).toNat) (24 - o.toInt.toNat) = (n - M).toInt.toNat := by
    rw [es]
    rcases hM with ⟨a, rfl⟩ | ⟨a, b⟩
    · omega
    · omega
  dsimp only
  refine ⟨?_, by rw [es]; omega, fun k hk => ?_⟩
  · rw [e2]
    exact nI_self (by rw [es]; omega)
  · rw [es] at hk
    have ek : mov o.toInt.toNat (o.toInt + s.toInt).toNat (min (n.toInt.toNat - (o.toInt + s.toInt).toNat) (24 - o.toInt.toNat)) f (cpy o.toInt.toNat f mf) k = shl o.toInt.toNat M.toInt.toNat n.toInt.toNat f k := by
      simp only [mov, shl, cpy]
      by_cases c : k < o.toInt.toNat
      · rw [if_neg (by omega), if_pos c, if_neg (by omega)]
      · rcases hM with ⟨a, rfl⟩ | ⟨a, b⟩
        · rw [if_pos (by omega), if_pos (by omega)]
          congr 1
          omega
        · omega
    rw [ek]
    simp only [shl]
    by_cases c : o.toInt.toNat ≤ k ∧ k + M.toInt.toNat < n.toInt.toNat
    · rw [if_pos c, if_pos c]
      exact hc _ (by omega)
    · rw [if_neg c, if_neg c]
      exact hc _ (by omega)
/-- the tape behind a change -/
def CHQ (g : Nat → Int32) (F : Nat → Nat → Int32) (n : Int32) (f : Nat → Int32) (t : Int32 × (Nat → Int32) × (Nat → Nat → Int32)) : Prop := n = t.1 ∧ IR n f (t.2.1 8) (t.2.2 7) ∧ Fr [8, 10] [7, 9] g F t.2.1 t.2.2 ∧ J t.2.1 t.2.2
theorem ch_tape {g : Nat → Int32} {F : Nat → Nat → Int32} {n : Int32} {f : Nat → Int32} {h : Nat → Int32} {H : Nat → Nat → Int32} (hI : IR n f (h 10) (H 9)) (hf : Fr [8, 10] [7, 9] g F h H) (hJ : J h H) : CHQ g F n f (r_X9_toTape h H) := by
  have tt := to_tape hI hJ
  refine ⟨tt.1.symm, tt.2.1, hf.trans ?_, hJ.toTape⟩
  rw [cl_toTape h H (b24 hJ.p10)]
  exact Fr.v (by decide) (Fr.u (by decide) Fr.refl)
theorem ch_self {g : Nat → Int32} {F : Nat → Nat → Int32} {n : Int32} {f : Nat → Int32} (hI : IR n f (g 8) (F 7)) (hJ : J g F) : CHQ g F n f (g 8, g, F) := ⟨hI.1, hI, Fr.refl, hJ⟩
theorem xor_all : ((List.range 256).all fun x => ((List.range 8).all fun k => decide (0 ≤ (nI x ^^^ ((1 : Int32) <<< (nI k &&& 31))).toInt ∧ (nI x ^^^ ((1 : Int32) <<< (nI k &&& 31))).toInt ≤ 255)) && decide (((nI x + 1) - (nI x + 1) / (256 : Int32) * (256 : Int32)) = ((nI x + 1) &&& 255)) && decide ((((nI x + 256) - 1) - ((nI x + 256) - 1) / (256 : Int32) * (256 : Int32)) = ((nI x + 255) &&& 255)) && decide (0 ≤ ((nI x + 1) &&& 255).toInt ∧ ((nI x + 1) &&& 255).toInt ≤ 255) && decide (0 ≤ ((nI x + 255) &&& 255).toInt ∧ ((nI x + 255) &&& 255).toInt ≤ 255)) = true := by decide +kernel
theorem xor_one {x : Int32} (hx : 0 ≤ x.toInt ∧ x.toInt ≤ 255) : (∀ k : Int32, 0 ≤ k.toInt ∧ k.toInt < 8 → 0 ≤ (x ^^^ ((1 : Int32) <<< (k &&& 31))).toInt ∧ (x ^^^ ((1 : Int32) <<< (k &&& 31))).toInt ≤ 255) ∧ ((x + 1) - (x + 1) / (256 : Int32) * (256 : Int32)) = ((x + 1) &&& 255) ∧ (((x + 256) - 1) - ((x + 256) - 1) / (256 : Int32) * (256 : Int32)) = ((x + 255) &&& 255) ∧ (0 ≤ ((x + 1) &&& 255).toInt ∧ ((x + 1) &&& 255).toInt ≤ 255) ∧ (0 ≤ ((x + 255) &&& 255).toInt ∧ ((x + 255) &&& 255).toInt ≤ 255) := by
  have h := List.all_eq_true.mp xor_all x.toInt.toNat (List.mem_range.mpr (by omega))
  simp only [Bool.and_eq_true, decide_eq_true_eq] at h
  rw [nI_self hx.1] at h
  refine ⟨fun k hk => ?_, h.1.1.1.2, h.1.1.2, h.1.2, h.2⟩
  have q := List.all_eq_true.mp h.1.1.1.1 k.toInt.toNat (List.mem_range.mpr (by omega))
  rw [nI_self hk.1] at q
  simp only [decide_eq_true_eq] at q
  exact q
/-- a byte that comes between -/
theorem come_sim {n : Int32} {f : Nat → Int32} {g : Nat → Int32} {F : Nat → Nat → Int32} (h : IR n f (g 10) (F 9)) (hJ : J g F) {mn tn : Int32} {mf tf : Nat → Int32} (hm : 0 ≤ mn.toInt) {a b : Int32} (ha : 0 ≤ a.toInt ∧ a.toInt ≤ n.toInt) (hb : 0 ≤ b.toInt ∧ b.toInt ≤ 255) : IR (r_X1_insert a b mn mf tn tf n f).2.2.1 (r_X1_insert a b mn mf tn tf n f).2.2.2 ((r_X9_comes a b g F).1 10) ((r_X9_comes a b g F).2 9) ∧ Fr [10] [9] g F (r_X9_comes a b g F).1 (r_X9_comes a b g F).2 ∧ 0 ≤ (r_X1_insert a b mn mf tn tf n f).1.toInt := by
  have hn := h.rng
  have h0 := h
  obtain ⟨e, hbn, hc⟩ := h
  have e24 : (24 : Int32).toInt.toNat = 24 := rfl
  have i24 : (24 : Int32).toInt = 24 := rfl
  have z0 : (0 : Int32).toInt.toNat = 0 := rfl
  unfold r_X1_insert
  dsimp only
  rw [sh_0 hm, ap_cl (fr := 0) (by decide) hn ha.1 (by decide), z0, show min (min a.toInt.toNat n.toInt.toNat - 0) (24 - 0) = a.toInt.toNat by omega, Nat.zero_add, nI_self ha.1, mov_cpy, cl_comes a b g F hJ.p10 ha.1]
  dsimp only
  by_cases c : a < (24 : Int32)
  · have c2 := c
    simp only [sg_lt] at c2
    have ei := inc_i (x := a) (n := 24) ha.1 (by omega) (by omega)
    rw [if_pos c, ap_lt (by omega)]
    dsimp only
    rw [ap_cl (n := a + 1) (by rw [ei]; omega) hn (by decide) ha.1, ei, e24, show (a.toInt + 1).toNat = a.toInt.toNat + 1 by omega]
    dsimp only
    have eN : a.toInt.toNat + 1 + min (min 24 n.toInt.toNat - a.toInt.toNat) (24 - (a.toInt.toNat + 1)) = min (n.toInt.toNat + 1) 24 := by omega
    have eN2 := nI_toInt (n := min (n.toInt.toNat + 1) 24) (by omega)
    rw [eN, copy_cl hn.1 (by rw [eN2]; omega), eN2]
    have es : (sz1 (g 10)).toInt = ((min (n.toInt.toNat + 1) 24 : Nat) : Int) := by
      unfold sz1
      rw [← e]
      by_cases d : (24 : Int32) ≤ n
      · rw [if_pos d]
        simp only [sg_le] at d
        omega
      · rw [if_neg d]
        simp only [sg_le] at d
        rw [inc_i (n := 24) hn.1 hn.2 (by omega)]
        omega
    refine ⟨⟨?_, ?_, fun k hk => ?_⟩, Fr.v (by decide) (Fr.u (by decide) Fr.refl), by omega⟩
    · show nI (min (n.toInt.toNat + 1) 24) = upd g 10 (sz1 (g 10)) 10
      rw [upd_s]
      apply Int32.toInt_inj.mp
      rw [eN2, es]
    · rw [upd_s, es]
      omega
    · rw [upd_s, es] at hk
      show cpy ((min (n.toInt.toNat + 1) 24 : Nat) : Int).toNat _ f k = va_up F 9 (insF a.toInt.toNat b (if (24 : Int32) ≤ g 10 then 23 else (g 10).toInt.toNat) (F 9)) 9 k ∧ 0 ≤ (va_up F 9 (insF a.toInt.toNat b (if (24 : Int32) ≤ g 10 then 23 else (g 10).toInt.toNat) (F 9)) 9 k).toInt ∧ (va_up F 9 (insF a.toInt.toNat b (if (24 : Int32) ≤ g 10 then 23 else (g 10).toInt.toNat) (F 9)) 9 k).toInt ≤ 255
      rw [va_up_self, cpy_lt (by omega)]
      simp only [mov, insF, upd, cpy]
      rw [tN]
      have hK : (if (24 : Int32) ≤ g 10 then 23 else (g 10).toInt.toNat) = min n.toInt.toNat 23 := by
        rw [← e]
        by_cases d : (24 : Int32) ≤ n
        · rw [if_pos d]
          simp only [sg_le] at d
          omega
        · rw [if_neg d]
          simp only [sg_le] at d
          omega
      rw [hK]
      rw [e] at *
      by_cases k1 : k = a.toInt.toNat
      · rw [if_neg (by omega), if_pos k1, if_pos k1]
        exact ⟨rfl, hb⟩
      · by_cases k2 : k < a.toInt.toNat
        · rw [if_neg (by omega), if_neg k1, if_pos k2, if_neg k1, if_neg (by omega)]
          exact hc k (by omega)
        · rw [if_pos (by omega), if_neg k1, if_pos (by omega), show a.toInt.toNat + (k - (a.toInt.toNat + 1)) = k - 1 by omega]
          exact hc (k - 1) (by omega)
  · have c2 := c
    simp only [sg_lt] at c2
    have ea : a = n := Int32.toInt_inj.mp (by omega)
    rw [if_neg c, ap_full (by omega)]
    dsimp only
    rw [ap_cl (n := a) (by omega) hn (by decide) ha.1, show min (min (24 : Int32).toInt.toNat n.toInt.toNat - a.toInt.toNat) (24 - a.toInt.toNat) = 0 by omega, mov_0, Nat.add_zero, nI_self ha.1]
    dsimp only
    rw [copy_cl hn.1 (by omega), ea]
    refine ⟨?_, Fr.refl, hn.1⟩
    obtain ⟨x1, x2, x3⟩ := h0
    refine ⟨x1, x2, fun k hk => ?_⟩
    dsimp only
    rw [cpy_lt (by rw [x1]; omega), cpy_lt (by rw [x1]; omega)]
    exact x3 k hk
