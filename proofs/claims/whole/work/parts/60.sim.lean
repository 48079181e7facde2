def Ag (n : Nat) (f e : Nat → Int32) : Prop := ∀ k, k < n → f k = e k
theorem Ag.up {n : Nat} {f e : Nat → Int32} (h : Ag n f e) (i : Nat) {v w : Int32} (hv : v = w) : Ag n (upd f i v) (upd e i w) := by
  intro k hk
  simp only [upd]
  rw [hv, h k hk]
theorem Ag.refl {n : Nat} {f : Nat → Int32} : Ag n f f := fun _ _ => rfl
theorem tN {x : Int32} : x.toNatClampNeg = x.toInt.toNat := rfl
theorem i_lt {x : Int32} {n : Nat} (h : 0 ≤ x.toInt ∧ x.toInt < n) : x.toNatClampNeg < n := by
  rw [tN]
  omega
/-- the program of the class is the reference's -/
def PR (pn : Int32) (pf : Nat → Int32) (g : Nat → Int32) (F : Nat → Nat → Int32) : Prop := pn = g 5 ∧ (0 ≤ (g 5).toInt ∧ (g 5).toInt ≤ 80) ∧ WF F ∧ (∀ k, 0 ≤ (F 1 k).toInt ∧ (F 1 k).toInt ≤ 17) ∧ ∀ k : Nat, (k : Int) < (g 5).toInt → pf (4 * k) = F 1 k ∧ pf (4 * k + 1) = F 2 k ∧ pf (4 * k + 2) = F 3 k ∧ pf (4 * k + 3) = F 4 k
theorem PR.of {pn : Int32} {pf : Nat → Int32} {g g' : Nat → Int32} {F F' : Nat → Nat → Int32} (h : PR pn pf g F) (h5 : g' 5 = g 5) (h1 : F' 1 = F 1) (h2 : F' 2 = F 2) (h3 : F' 3 = F 3) (h4 : F' 4 = F 4) : PR pn pf g' F' := by
  obtain ⟨a, b, c, d, e⟩ := h
  refine ⟨by rw [h5]; exact a, by rw [h5]; exact b, c.of h1 h2 h3, by rw [h1]; exact d, ?_⟩
  rw [h5, h1, h2, h3, h4]
  exact e
/-- an input of the class is one of the reference's -/
def IR (n : Int32) (f : Nat → Int32) (m : Int32) (e : Nat → Int32) : Prop := n = m ∧ (0 ≤ m.toInt ∧ m.toInt ≤ 24) ∧ ∀ k : Nat, (k : Int) < m.toInt → f k = e k ∧ 0 ≤ (e k).toInt ∧ (e k).toInt ≤ 255
theorem part_in {p w : Int32} {pn : Int32} {pf : Nat → Int32} {j : Nat} (hp : 0 ≤ p.toInt ∧ p.toInt < pn.toInt) (h80 : pn.toInt ≤ 80) (hw : w.toInt = (j : Int)) (hj : j < 4) : r_X5_part p w pn pf = pf (4 * p.toNatClampNeg + j) := by
  unfold r_X5_part r_X5_has r_X5_isPart
  have z : (0 : Int32).toInt = 0 := rfl
  have f4 : (4 : Int32).toInt = 4 := rfl
  rw [if_neg (show ¬ p < 0 by simp only [sg_lt]; omega), if_neg (show ¬ pn ≤ p by simp only [sg_le]; omega), if_neg (show ¬ (1 : Int32) = 0 by decide), if_neg (show ¬ w < 0 by simp only [sg_lt]; omega), if_neg (show ¬ 4 ≤ w by simp only [sg_le]; omega), if_neg (show ¬ (1 : Int32) = 0 by decide)]
  have e : (p * 4 + w).toNatClampNeg = 4 * p.toNatClampNeg + j := by
    have m4 : (p * 4).toInt = p.toInt * 4 := by
      rw [fb_mulI (by rw [f4]; omega) (by rw [f4]; omega), f4]
    rw [tN, tN, fb_addI (by rw [m4]; omega) (by rw [m4]; omega), m4, hw]
    omega
  rw [e]
theorem has_on {p pn : Int32} {pf : Nat → Int32} : (r_X5_has p pn pf = 0) ↔ (p < 0 ∨ pn ≤ p) := by
  unfold r_X5_has
  by_cases a : p < 0
  · rw [if_pos a]
    exact ⟨fun _ => Or.inl a, fun _ => rfl⟩
  · rw [if_neg a]
    by_cases b : pn ≤ p
    · rw [if_pos b]
      exact ⟨fun _ => Or.inr b, fun _ => rfl⟩
    · rw [if_neg b]
      exact ⟨fun k => absurd k (by decide), fun k => by rcases k with k | k; exact absurd k a; exact absurd k b⟩
/-- one step of the class's machine, before the next place is taken -/
def cstep (op a b c : Int32) (g : Nat → Int32) (F : Nat → Nat → Int32) (un : Int32) (uf : Nat → Int32) : (Nat → Int32) × (Nat → Nat → Int32) :=
  if (5 : Int32) < op then (if (8 : Int32) < op then (if (10 : Int32) < op then (if (13 : Int32) < op then (if op = (14 : Int32) then r_X7_openCallTo c g F else if op = (15 : Int32) then (r_X7_goBack g F, F) else (r_X7_checkOrEnd op a g F, F)) else r_X7_jump op a b c g F) else r_X7_useRow op a b g F) else r_X7_readInput op a b g F un uf) else r_X7_reckon op a b g F
def stp (u : (Nat → Int32) × (Nat → Nat → Int32)) : Nat → Int32 := upd (upd u.1 9 (u.1 10)) 7 (u.1 7 + (1 : Int32))
def cend (g : Nat → Int32) (F : Nat → Nat → Int32) : (Nat → Int32) × (Nat → Nat → Int32) := if (g 5) = (0 : Int32) then (upd g 4 (0 : Int32), F) else (g, F)
theorem ex_eq (pn : Int32) (pf : Nat → Int32) (un : Int32) (uf : Nat → Int32) (fu : Nat) (g : Nat → Int32) (F : Nat → Nat → Int32) : g_X7_execute_9 pn pf un uf (fu + 1) g F = if (400 : Int32) ≤ (g 7) then (if (r_X7_isOn g F pn pf) = (0 : Int32) then cend g F else cend (r_X7_fail (5 : Int32) g F) F) else if (r_X7_isOn g F pn pf) = (0 : Int32) then cend g F else g_X7_execute_9 pn pf un uf fu (stp (cstep (r_X5_part (g 9) (0 : Int32) pn pf) (r_X5_part (g 9) (1 : Int32) pn pf) (r_X5_part (g 9) (2 : Int32) pn pf) (r_X5_part (g 9) (3 : Int32) pn pf) (upd g 10 ((g 9) + (1 : Int32))) F un uf)) (cstep (r_X5_part (g 9) (0 : Int32) pn pf) (r_X5_part (g 9) (1 : Int32) pn pf) (r_X5_part (g 9) (2 : Int32) pn pf) (r_X5_part (g 9) (3 : Int32) pn pf) (upd g 10 ((g 9) + (1 : Int32))) F un uf).2 := by
  rw [g_X7_execute_9]
  unfold cend
  dsimp only
  generalize r_X5_part (g 9) (0 : Int32) pn pf = op
  by_cases h0 : (400 : Int32) ≤ g 7
  · rw [if_pos h0, if_pos h0]
  · rw [if_neg h0, if_neg h0]
    by_cases h1 : r_X7_isOn g F pn pf = 0
    · rw [if_pos h1, if_pos h1]
    · rw [if_neg h1, if_neg h1]
      unfold cstep
      by_cases c1 : (5 : Int32) < op
      · rw [if_pos c1, if_pos c1]
        by_cases c2 : (8 : Int32) < op
        · rw [if_pos c2, if_pos c2]
          by_cases c3 : (10 : Int32) < op
          · rw [if_pos c3, if_pos c3]
            by_cases c4 : (13 : Int32) < op
            · rw [if_pos c4, if_pos c4]
              by_cases c5 : op = (14 : Int32)
              · rw [if_pos c5, if_pos c5]
                rfl
              · rw [if_neg c5, if_neg c5]
                by_cases c6 : op = (15 : Int32)
                · rw [if_pos c6, if_pos c6]
                  rfl
                · rw [if_neg c6, if_neg c6]
                  rfl
            · rw [if_neg c4, if_neg c4]
              rfl
          · rw [if_neg c3, if_neg c3]
            rfl
        · rw [if_neg c2, if_neg c2]
          rfl
      · rw [if_neg c1, if_neg c1]
        rfl
theorem val_in {r : Int32} {g : Nat → Int32} {F : Nat → Nat → Int32} (h : 0 ≤ r.toInt ∧ r.toInt < 8) : r_X7_value r g F = F 0 r.toNatClampNeg := by
  unfold r_X7_value
  have z : (0 : Int32).toInt = 0 := rfl
  have f8 : (8 : Int32).toInt = 8 := rfl
  rw [if_neg (show ¬ r < 0 by simp only [sg_lt]; omega), if_neg (show ¬ 8 ≤ r by simp only [sg_le]; omega)]
theorem put_in {r v : Int32} {g : Nat → Int32} {F : Nat → Nat → Int32} (h : 0 ≤ r.toInt ∧ r.toInt < 8) : r_X7_put r v g F = va_up F 0 (upd (F 0) r.toNatClampNeg v) := by
  unfold r_X7_put
  have z : (0 : Int32).toInt = 0 := rfl
  have f8 : (8 : Int32).toInt = 8 := rfl
  rw [if_neg (show ¬ r < 0 by simp only [sg_lt]; omega), if_neg (show ¬ 8 ≤ r by simp only [sg_le]; omega)]
/-- how far both have read -/
def RD (x y un : Int32) : Prop := 0 ≤ x.toInt ∧ ((x.toInt < un.toInt ∧ y = x) ∨ (un.toInt ≤ x.toInt ∧ y = un))
/-- the registers, the row, the calls and the branches of both -/
def SB (un : Int32) (cg : Nat → Int32) (cF : Nat → Nat → Int32) (g : Nat → Int32) (F : Nat → Nat → Int32) : Prop := cg 4 = g 14 ∧ (0 ≤ (g 14).toInt ∧ (g 14).toInt ≤ 8) ∧ RD (cg 8) (g 18) un ∧ Ag 8 (cF 0) (F 11) ∧ Ag 16 (cF 1) (F 12) ∧ Ag 160 (cF 3) (F 19) ∧ (∀ k : Nat, (k : Int) < (g 14).toInt → cF 2 k = F 13 k ∧ 0 ≤ (F 13 k).toInt ∧ (F 13 k).toInt < 80)
def MO (cg g : Nat → Int32) (x1 : Int32) : Prop := (cg 11 = 1 ∧ x1 = 1 ∧ cg 9 = g 16 ∧ cg 5 = 0 ∧ g 15 = 0 ∧ cg 6 = -1) ∨ (cg 11 = 0 ∧ x1 = 0 ∧ cg 5 = g 15 ∧ ((g 15 = 0 ∧ cg 6 = -1) ∨ (¬ g 15 = 0 ∧ cg 6 = g 16)))
/-- what a step leaves -/
def SIM (un : Int32) (cg : Nat → Int32) (u : (Nat → Int32) × (Nat → Nat → Int32)) (t : Int32 × (Nat → Int32) × (Nat → Nat → Int32)) : Prop := SB un (stp u) u.2 t.2.1 t.2.2 ∧ MO (stp u) t.2.1 t.1 ∧ u.1 7 = cg 7 ∧ (u.1 8 = cg 8 ∨ u.1 8 = cg 8 + 1)
section SIMS
variable {un : Int32} {cg : Nat → Int32} {cF : Nat → Nat → Int32} {g : Nat → Int32} {F : Nat → Nat → Int32} {pl : Int32}
theorem sim_reg (h : SB un cg cF g F) (hg : cg 11 = 1) (h9 : cg 9 = pl) (h5 : cg 5 = 0) (h15 : g 15 = 0) (h6 : cg 6 = -1) {i : Nat} {v w : Int32} (hv : v = w) : SIM un cg (upd cg 10 (cg 9 + (1 : Int32)), va_up cF 0 (upd (cF 0) i v)) (1, upd g 16 (pl + (1 : Int32)), va_up F 11 (upd (F 11) i w)) := by
  obtain ⟨a, b, c, d, e, f, k⟩ := h
  refine ⟨⟨a, b, c, d.up i hv, e, f, k⟩, Or.inl ⟨hg, rfl, ?_, h5, h15, h6⟩, rfl, Or.inl rfl⟩
  show cg 9 + 1 = pl + 1
  rw [h9]
theorem sim_same (h : SB un cg cF g F) (hg : cg 11 = 1) (h9 : cg 9 = pl) (h5 : cg 5 = 0) (h15 : g 15 = 0) (h6 : cg 6 = -1) : SIM un cg (upd cg 10 (cg 9 + (1 : Int32)), cF) (1, upd g 16 (pl + (1 : Int32)), F) := by
  obtain ⟨a, b, c, d, e, f, k⟩ := h
  refine ⟨⟨a, b, c, d, e, f, k⟩, Or.inl ⟨hg, rfl, ?_, h5, h15, h6⟩, rfl, Or.inl rfl⟩
  show cg 9 + 1 = pl + 1
  rw [h9]
theorem sim_row (h : SB un cg cF g F) (hg : cg 11 = 1) (h9 : cg 9 = pl) (h5 : cg 5 = 0) (h15 : g 15 = 0) (h6 : cg 6 = -1) {i : Nat} {v w : Int32} (hv : v = w) : SIM un cg (upd cg 10 (cg 9 + (1 : Int32)), va_up cF 1 (upd (cF 1) i v)) (1, upd g 16 (pl + (1 : Int32)), va_up F 12 (upd (F 12) i w)) := by
  obtain ⟨a, b, c, d, e, f, k⟩ := h
  refine ⟨⟨a, b, c, d, e.up i hv, f, k⟩, Or.inl ⟨hg, rfl, ?_, h5, h15, h6⟩, rfl, Or.inl rfl⟩
  show cg 9 + 1 = pl + 1
  rw [h9]
theorem sim_fail (h : SB un cg cF g F) (h9 : cg 9 = pl) (kind : Int32) (hk : ¬ kind = 0) : SIM un cg (r_X7_fail kind (upd cg 10 (cg 9 + (1 : Int32))) cF, cF) (0, upd (upd (upd g 16 (pl + (1 : Int32))) 16 pl) 15 kind, F) := by
  obtain ⟨a, b, c, d, e, f, k⟩ := h
  exact ⟨⟨a, b, c, d, e, f, k⟩, Or.inr ⟨rfl, rfl, rfl, Or.inr ⟨hk, h9⟩⟩, rfl, Or.inl rfl⟩
theorem sim_end (h : SB un cg cF g F) (h5 : cg 5 = 0) (h15 : g 15 = 0) (h6 : cg 6 = -1) : SIM un cg (upd (upd cg 10 (cg 9 + (1 : Int32))) 11 (0 : Int32), cF) (0, upd g 16 (pl + (1 : Int32)), F) := by
  obtain ⟨a, b, c, d, e, f, k⟩ := h
  exact ⟨⟨a, b, c, d, e, f, k⟩, Or.inr ⟨rfl, rfl, h5.trans h15.symm, Or.inl ⟨h15, h6⟩⟩, rfl, Or.inl rfl⟩
theorem sim_jump (h : SB un cg cF g F) (hg : cg 11 = 1) (h5 : cg 5 = 0) (h15 : g 15 = 0) (h6 : cg 6 = -1) {x y : Int32} (hxy : x = y) : SIM un cg (upd (upd cg 10 (cg 9 + (1 : Int32))) 10 x, cF) (1, upd (upd g 16 (pl + (1 : Int32))) 16 y, F) := by
  obtain ⟨a, b, c, d, e, f, k⟩ := h
  exact ⟨⟨a, b, c, d, e, f, k⟩, Or.inl ⟨hg, rfl, hxy, h5, h15, h6⟩, rfl, Or.inl rfl⟩
theorem sim_br0 (h : SB un cg cF g F) (hg : cg 11 = 1) (h9 : cg 9 = pl) (h5 : cg 5 = 0) (h15 : g 15 = 0) (h6 : cg 6 = -1) {i : Nat} (hi : i < 160) : SIM un cg (upd cg 10 (cg 9 + (1 : Int32)), va_up cF 3 (upd (cF 3) i (cF 3 i + (1 : Int32)))) (1, upd g 16 (pl + (1 : Int32)), va_up F 19 (upd (F 19) i (F 19 i + (1 : Int32)))) := by
  obtain ⟨a, b, c, d, e, f, k⟩ := h
  refine ⟨⟨a, b, c, d, e, f.up i (by rw [f i hi]), k⟩, Or.inl ⟨hg, rfl, ?_, h5, h15, h6⟩, rfl, Or.inl rfl⟩
  show cg 9 + 1 = pl + 1
  rw [h9]
theorem sim_br1 (h : SB un cg cF g F) (hg : cg 11 = 1) (h5 : cg 5 = 0) (h15 : g 15 = 0) (h6 : cg 6 = -1) {i : Nat} (hi : i < 160) {x y : Int32} (hxy : x = y) : SIM un cg (upd (upd cg 10 (cg 9 + (1 : Int32))) 10 x, va_up cF 3 (upd (cF 3) i (cF 3 i + (1 : Int32)))) (1, upd (upd g 16 (pl + (1 : Int32))) 16 y, va_up F 19 (upd (F 19) i (F 19 i + (1 : Int32)))) := by
  obtain ⟨a, b, c, d, e, f, k⟩ := h
  exact ⟨⟨a, b, c, d, e, f.up i (by rw [f i hi]), k⟩, Or.inl ⟨hg, rfl, hxy, h5, h15, h6⟩, rfl, Or.inl rfl⟩
theorem opc_i {c : Int32} (h : 0 ≤ c.toInt ∧ c.toInt ≤ 8) (n : ¬ c = 8) : (c + (1 : Int32)).toInt = c.toInt + 1 ∧ c.toInt < 8 := by
  have : c.toInt ≠ 8 := fun e => n (Int32.toInt_inj.mp e)
  exact ⟨inc_i (n := 8) h.1 h.2 (by omega), by omega⟩
theorem opc_d {c : Int32} (h : 0 ≤ c.toInt ∧ c.toInt ≤ 8) (n : ¬ c = 0) : (c - (1 : Int32)).toInt = c.toInt - 1 ∧ 0 < c.toInt := by
  have : c.toInt ≠ 0 := fun e => n (Int32.toInt_inj.mp e)
  have e1 : (1 : Int32).toInt = 1 := rfl
  exact ⟨by rw [fb_subI (by rw [e1]; omega) (by rw [e1]; omega), e1], by omega⟩
theorem sim_call (h : SB un cg cF g F) (hg : cg 11 = 1) (h9 : cg 9 = pl) (h5 : cg 5 = 0) (h15 : g 15 = 0) (h6 : cg 6 = -1) (hp : 0 ≤ pl.toInt ∧ pl.toInt < 80) {x y : Int32} (hxy : x = y) (h8 : ¬ g 14 = 8) : SIM un cg (upd (upd (upd cg 10 (cg 9 + (1 : Int32))) 4 (cg 4 + (1 : Int32))) 10 x, va_up cF 2 (upd (cF 2) (cg 4).toNatClampNeg (cg 9))) (1, upd (upd (upd g 16 (pl + (1 : Int32))) 14 (g 14 + (1 : Int32))) 16 y, va_up F 13 (upd (F 13) (g 14).toNatClampNeg pl)) := by
  obtain ⟨a, b, c, d, e, f, k⟩ := h
  have ho := opc_i b h8
  refine ⟨⟨?_, ?_, c, d, e, f, ?_⟩, Or.inl ⟨hg, rfl, hxy, h5, h15, h6⟩, rfl, Or.inl rfl⟩
  · show cg 4 + 1 = g 14 + 1
    rw [a]
  · show 0 ≤ (g 14 + 1).toInt ∧ (g 14 + 1).toInt ≤ 8
    rw [ho.1]
    omega
  · intro j hj
    have hj : (j : Int) < (g 14 + 1).toInt := hj
    rw [ho.1] at hj
    show upd (cF 2) (cg 4).toNatClampNeg (cg 9) j = upd (F 13) (g 14).toNatClampNeg pl j ∧ 0 ≤ (upd (F 13) (g 14).toNatClampNeg pl j).toInt ∧ (upd (F 13) (g 14).toNatClampNeg pl j).toInt < 80
    rw [a, h9]
    simp only [upd]
    by_cases q : j = (g 14).toNatClampNeg
    · rw [if_pos q, if_pos q]
      exact ⟨rfl, hp⟩
    · rw [if_neg q, if_neg q]
      rw [tN] at q
      exact k j (by omega)
theorem oc0 (h : SB un cg cF g F) (h0 : ¬ g 14 = 0) : r_X7_openCall (0 : Int32) (upd cg 10 (cg 9 + (1 : Int32))) cF = F 13 ((g 14) - (1 : Int32)).toNatClampNeg ∧ 0 ≤ (F 13 ((g 14) - (1 : Int32)).toNatClampNeg).toInt := by
  obtain ⟨a, b, c, d, e, f, k⟩ := h
  have ho := opc_d b h0
  have z : (0 : Int32).toInt = 0 := rfl
  have f8 : (8 : Int32).toInt = 8 := rfl
  have hk := k (g 14 - 1).toNatClampNeg (by rw [tN, ho.1]; omega)
  refine ⟨?_, hk.2.1⟩
  unfold r_X7_openCall
  rw [if_neg (by decide)]
  show (if cg 4 ≤ 0 then _ else if cg 4 ≤ 8 then cF 2 (cg 4 - 1 - 0).toNatClampNeg else _) = _
  rw [a, if_neg (show ¬ g 14 ≤ 0 by simp only [sg_le]; omega), if_pos (show g 14 ≤ 8 by simp only [sg_le]; omega), show g 14 - 1 - 0 = g 14 - 1 by simp]
  exact hk.1
theorem sim_ret (h : SB un cg cF g F) (hg : cg 11 = 1) (h5 : cg 5 = 0) (h15 : g 15 = 0) (h6 : cg 6 = -1) (h0 : ¬ g 14 = 0) : SIM un cg (r_X7_goBack (upd cg 10 (cg 9 + (1 : Int32))) cF, cF) (1, upd (upd (upd g 16 (pl + (1 : Int32))) 14 (g 14 - (1 : Int32))) 16 (F 13 ((g 14) - (1 : Int32)).toNatClampNeg + (1 : Int32)), F) := by
  have hoc := oc0 h h0
  obtain ⟨a, b, c, d, e, f, k⟩ := h
  have ho := opc_d b h0
  unfold r_X7_goBack
  rw [hoc.1, if_neg (fun q => by
    have e1 : (-1 : Int32).toInt = -1 := rfl
    have := hoc.2
    rw [q, e1] at this
    omega)]
  refine ⟨⟨?_, ?_, c, d, e, f, ?_⟩, Or.inl ⟨hg, rfl, rfl, h5, h15, h6⟩, rfl, Or.inl rfl⟩
  · show cg 4 - 1 = g 14 - 1
    rw [a]
  · show 0 ≤ (g 14 - 1).toInt ∧ (g 14 - 1).toInt ≤ 8
    rw [ho.1]
    omega
  · intro j hj
    have hj : (j : Int) < (g 14 - 1).toInt := hj
    rw [ho.1] at hj
    exact k j (by omega)
theorem sim_ret0 (h : SB un cg cF g F) (h5 : cg 5 = 0) (h15 : g 15 = 0) (h6 : cg 6 = -1) (h0 : g 14 = 0) : SIM un cg (r_X7_goBack (upd cg 10 (cg 9 + (1 : Int32))) cF, cF) (0, upd g 16 (pl + (1 : Int32)), F) := by
  have e : r_X7_openCall (0 : Int32) (upd cg 10 (cg 9 + (1 : Int32))) cF = -1 := by
    unfold r_X7_openCall
    rw [if_neg (by decide)]
    show (if cg 4 ≤ 0 then _ else _) = _
    rw [h.1, h0, if_pos (by decide)]
  unfold r_X7_goBack
  rw [if_pos e]
  exact sim_end h h5 h15 h6
theorem sim_read (h : SB un cg cF g F) (hg : cg 11 = 1) (h9 : cg 9 = pl) (h5 : cg 5 = 0) (h15 : g 15 = 0) (h6 : cg 6 = -1) (h4 : (cg 8).toInt ≤ 400) (hun : 0 ≤ un.toInt ∧ un.toInt ≤ 24) {i : Nat} {v w : Int32} (hv : v = w) {d : Int32} (hd : ((cg 8).toInt < un.toInt ∧ d = 1) ∨ (un.toInt ≤ (cg 8).toInt ∧ d = 0)) : SIM un cg (upd (upd cg 10 (cg 9 + (1 : Int32))) 8 (cg 8 + (1 : Int32)), va_up cF 0 (upd (cF 0) i v)) (1, upd (upd g 16 (pl + (1 : Int32))) 18 (g 18 + d), va_up F 11 (upd (F 11) i w)) := by
  obtain ⟨a, b, c, d2, e, f, k⟩ := h
  have hi := inc_i (n := 400) c.1 h4 (by omega)
  refine ⟨⟨a, b, ?_, d2.up i hv, e, f, k⟩, Or.inl ⟨hg, rfl, ?_, h5, h15, h6⟩, rfl, Or.inr rfl⟩
  · show RD (cg 8 + 1) (g 18 + d) un
    refine ⟨by rw [hi]; have := c.1; omega, ?_⟩
    rw [hi]
    rcases c.2 with ⟨c1, c2⟩ | ⟨c1, c2⟩
    · rcases hd with ⟨-, rfl⟩ | ⟨q, -⟩
      · by_cases s : (cg 8).toInt + 1 < un.toInt
        · exact Or.inl ⟨s, by rw [c2]⟩
        · refine Or.inr ⟨by omega, ?_⟩
          rw [c2]
          apply Int32.toInt_inj.mp
          rw [hi]
          omega
      · omega
    · rcases hd with ⟨q, -⟩ | ⟨-, rfl⟩
      · omega
      · exact Or.inr ⟨by omega, by rw [c2]; simp⟩
  · show cg 9 + 1 = pl + 1
    rw [h9]
theorem br_i {x y : Int32} (hp : 0 ≤ x.toInt ∧ x.toInt < 80) (hy : 0 ≤ y.toInt ∧ y.toInt < 2) : ¬ (r_X7_isBranch ((2 : Int32) * x + y) = 0) ∧ ((2 : Int32) * x + y).toNatClampNeg < 160 := by
  have e := mad_i (c := 2) (x := x) (y := y) (k := 2) rfl (by omega) (by omega) (by omega)
  have z : (0 : Int32).toInt = 0 := rfl
  have f16 : (160 : Int32).toInt = 160 := rfl
  refine ⟨?_, by rw [tN, e]; omega⟩
  unfold r_X7_isBranch
  rw [if_neg (show ¬ (2 : Int32) * x + y < 0 by simp only [sg_lt]; rw [e]; omega), if_neg (show ¬ 160 ≤ (2 : Int32) * x + y by simp only [sg_le]; rw [e]; omega)]
  decide
theorem in0 {x : Int32} {un : Int32} {uf : Nat → Int32} (h : 0 ≤ un.toInt ∧ un.toInt ≤ 24) : (r_X4_has x un uf = 0 ↔ r_X9_in x (0 : Int32) (un - (1 : Int32)) = 0) ∧ (¬ r_X4_has x un uf = 0 → (0 ≤ x.toInt ∧ x.toInt < un.toInt) ∧ r_X4_get x un uf = uf x.toNatClampNeg) := by
  have z : (0 : Int32).toInt = 0 := rfl
  have e1 : (1 : Int32).toInt = 1 := rfl
  have e24 : (24 : Int32).toInt = 24 := rfl
  have es : (un - 1).toInt = un.toInt - 1 := by rw [fb_subI (by rw [e1]; omega) (by rw [e1]; omega), e1]
  unfold r_X4_has r_X9_in r_X4_get
  by_cases a : x < 0
  · rw [if_pos a, if_pos a]
    exact ⟨⟨fun _ => rfl, fun _ => rfl⟩, fun q => absurd rfl q⟩
  · rw [if_neg a, if_neg a, if_neg a]
    by_cases b : un ≤ x
    · rw [if_pos b, if_pos b, if_pos (show un - 1 < x by simp only [sg_lt, sg_le] at *; omega)]
      exact ⟨⟨fun _ => rfl, fun _ => rfl⟩, fun q => absurd rfl q⟩
    · have c : ¬ (24 : Int32) ≤ x := by simp only [sg_le] at *; omega
      rw [if_neg b, if_neg b, if_neg c, if_neg c, if_neg (show ¬ un - 1 < x by simp only [sg_lt, sg_le] at *; omega)]
      refine ⟨⟨fun q => absurd q (by decide), fun q => absurd q (by decide)⟩, fun _ => ⟨?_, rfl⟩⟩
      simp only [sg_lt, sg_le] at *
      omega
theorem row0 {x : Int32} : (r_X7_isInRow x = 0 ↔ r_X9_in x (0 : Int32) (15 : Int32) = 0) ∧ (¬ r_X7_isInRow x = 0 → 0 ≤ x.toInt ∧ x.toInt < 16) := by
  have z : (0 : Int32).toInt = 0 := rfl
  have e1 : (15 : Int32).toInt = 15 := rfl
  have e24 : (16 : Int32).toInt = 16 := rfl
  unfold r_X7_isInRow r_X9_in
  by_cases a : x < 0
  · rw [if_pos a, if_pos a]
    exact ⟨⟨fun _ => rfl, fun _ => rfl⟩, fun q => absurd rfl q⟩
  · rw [if_neg a, if_neg a]
    by_cases b : (16 : Int32) ≤ x
    · rw [if_pos b, if_pos (show (15 : Int32) < x by simp only [sg_lt, sg_le] at *; omega)]
      exact ⟨⟨fun _ => rfl, fun _ => rfl⟩, fun q => absurd rfl q⟩
    · rw [if_neg b, if_neg (show ¬ (15 : Int32) < x by simp only [sg_lt, sg_le] at *; omega)]
      refine ⟨⟨fun q => absurd q (by decide), fun q => absurd q (by decide)⟩, fun _ => ?_⟩
      simp only [sg_lt, sg_le] at *
      omega
theorem div_m1 (x : Int32) : x / (-1 : Int32) = -x := by
  apply Int32.toInt_inj.mp
  rw [Int32.toInt_div]
  show (x.toInt.tdiv (-1)).bmod (2 ^ 32) = _
  rw [Int.tdiv_neg, Int.tdiv_one, Int32.toInt_neg]
end SIMS
