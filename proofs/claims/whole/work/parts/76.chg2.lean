theorem rep_sim {n : Int32} {e : Nat → Int32} {E M m : Nat} (bi kind xx yy x5 x6 x7 x8 : Int32) (hn : 0 ≤ n.toInt ∧ n.toInt ≤ 24) (h6 : x6.toInt = (m : Int)) (h7 : x7.toInt = (M : Int)) (hE : E = m + M) (hEn : (E : Int) ≤ n.toInt) (hby : ∀ k : Nat, (k : Int) < n.toInt → 0 ≤ (e k).toInt ∧ (e k).toInt ≤ 255) {g0 : Nat → Int32} {F0 : Nat → Nat → Int32} (ht : ∀ k : Nat, (k : Int) < n.toInt → F0 7 k = e k) {cn : Int32} {cf : Nat → Int32} (hcn : cn.toInt = ((min (n.toInt.toNat + M) 24 : Nat) : Int)) (hcf : ∀ k, k < min (n.toInt.toNat + M) 24 → cf k = if k < E then e k else e (k - M)) : ∀ (fu j : Nat) (g : Nat → Int32) (F : Nat → Nat → Int32), M - j < fu → j ≤ M → Fr [8, 10] [7, 9] g0 F0 g F → F 7 = F0 7 → J g F → (g 10).toInt = ((min (n.toInt.toNat + j) 24 : Nat) : Int) → (∀ k, k < min (n.toInt.toNat + j) 24 → F 9 k = if k < E then e k else if k < E + j then e (k - M) else e (k - j)) → CHQ g0 F0 cn cf (g_X9_change_230 bi kind xx yy x5 x6 x7 x8 fu g F j)
  | 0, _, _, _, h, _, _, _, _, _, _ => absurd h (Nat.not_lt_zero _)
  | fu + 1, j, g, F, hm, hj, hf, h7F, hJ, hz, hc => by
    rw [g_X9_change_230]
    have ej := nI_toInt (n := j) (by omega)
    by_cases c : x7 ≤ nI j
    · have c2 := c
      simp only [sg_le] at c2
      obtain rfl : j = M := by omega
      rw [if_pos c]
      refine ch_tape ⟨?_, by rw [hz]; omega, fun k hk => ?_⟩ hf hJ
      · apply Int32.toInt_inj.mp
        rw [hcn, hz]
      · rw [hz] at hk
        have hk2 : k < min (n.toInt.toNat + j) 24 := by omega
        rw [hc k hk2, hcf k hk2]
        by_cases q : k < E
        · rw [if_pos q, if_pos q]
          exact ⟨rfl, hby k (by omega)⟩
        · rw [if_neg q, if_neg q]
          by_cases q2 : k < E + j
          · rw [if_pos q2]
            exact ⟨rfl, hby (k - j) (by omega)⟩
          · rw [if_neg q2]
            exact ⟨rfl, hby (k - j) (by omega)⟩
    · have c2 := c
      simp only [sg_le] at c2
      rw [if_neg c]
      dsimp only
      have e1 := add_i (n := 0) (x := x6) (y := nI j) (by omega) (by omega)
      have e2 := add_i (n := 0) (x := x6) (y := x7) (by omega) (by omega)
      have e3 := add_i (n := 0) (x := x6 + x7) (y := nI j) (by omega) (by omega)
      have eb : F 7 (x6 + nI j).toNatClampNeg = e (m + j) := by
        rw [tN, e1, show (x6.toInt + (nI j).toInt).toNat = m + j by omega, h7F]
        exact ht (m + j) (by omega)
      rw [eb]
      have ea : (x6 + x7 + nI j).toInt = ((E + j : Nat) : Int) := by rw [e3, e2]; omega
      have cl := cl_comes (x6 + x7 + nI j) (e (m + j)) g F hJ.p10 (by rw [ea]; omega)
      have hJ2 := J_X9_comes (x6 + x7 + nI j) (e (m + j)) g F hJ (by rw [ea]; omega)
      have i24 : (24 : Int32).toInt = 24 := rfl
      by_cases d : (x6 + x7 + nI j) < (24 : Int32)
      · rw [if_pos d] at cl
        simp only [sg_lt] at d
        rw [cl] at hJ2 ⊢
        dsimp only at hJ2 ⊢
        have hK : (if (24 : Int32) ≤ g 10 then 23 else (g 10).toInt.toNat) = min (n.toInt.toNat + j) 23 := by
          by_cases w : (24 : Int32) ≤ g 10
          · rw [if_pos w]
            simp only [sg_le] at w
            omega
          · rw [if_neg w]
            simp only [sg_le] at w
            omega
        have es : (sz1 (g 10)).toInt = ((min (n.toInt.toNat + (j + 1)) 24 : Nat) : Int) := by
          unfold sz1
          by_cases w : (24 : Int32) ≤ g 10
          · rw [if_pos w]
            simp only [sg_le] at w
            omega
          · rw [if_neg w]
            simp only [sg_le] at w
            rw [inc_i (n := 24) hJ.p10.1 hJ.p10.2 (by omega)]
            omega
        rw [hK] at hJ2 ⊢
        refine rep_sim bi kind xx yy x5 x6 x7 x8 hn h6 h7 hE hEn hby ht hcn hcf fu (j + 1) _ _ (by omega) (by omega) (Fr.v (by decide) (Fr.u (by decide) hf)) h7F hJ2 (by rw [upd_s]; exact es) (fun k hk => ?_)
        rw [va_up_self, show (x6 + x7 + nI j).toInt.toNat = E + j by rw [ea]; rfl]
        simp only [insF]
        by_cases k1 : k = E + j
        · rw [if_pos k1, if_neg (by omega), if_pos (by omega)]
          congr 1
          omega
        · rw [if_neg k1]
          by_cases k2 : k < E + j
          · rw [if_neg (by omega), hc k (by omega)]
            by_cases k3 : k < E
            · rw [if_pos k3, if_pos k3]
            · rw [if_neg k3, if_neg k3, if_pos k2, if_pos (by omega)]
          · rw [if_pos (by omega), hc (k - 1) (by omega), if_neg (by omega), if_neg (by omega), if_neg (by omega), if_neg (by omega)]
            congr 1
            omega
      · rw [if_neg d] at cl
        simp only [sg_lt] at d
        rw [cl] at hJ2 ⊢
        dsimp only at hJ2 ⊢
        refine rep_sim bi kind xx yy x5 x6 x7 x8 hn h6 h7 hE hEn hby ht hcn hcf fu (j + 1) g F (by omega) (by omega) hf h7F hJ (by rw [hz]; omega) (fun k hk => ?_)
        rw [hc k (by omega)]
        by_cases k3 : k < E
        · rw [if_pos k3, if_pos k3]
        · rw [if_neg k3, if_neg k3, if_pos (by omega), if_pos (by omega)]
theorem cr_g (bi kind xx yy x5 x6 x7 x8 x9 : Int32) {p : Nat} (hp : x9.toInt = (p : Int)) (h80 : p < 80) : ∀ (fu : Nat) (g : Nat → Int32) (F : Nat → Nat → Int32) (x10 : Int32), (0 ≤ x10.toInt ∧ x10.toInt ≤ 24) → (24 - x10.toInt).toNat < fu → (0 ≤ (F 29 p).toInt ∧ (F 29 p).toInt ≤ 24) → g_X9_change_346 bi kind xx yy x5 x6 x7 x8 x9 fu g F x10 = r_X9_toTape (if (F 29 p).toInt.toNat ≤ x10.toInt.toNat then g else upd g 10 (F 29 p)) (va_up F 9 (cpyF x10.toInt.toNat (F 29 p).toInt.toNat (fun k => F 28 (24 * p + k)) (F 9)))
  | 0, _, _, _, _, h, _ => absurd h (Nat.not_lt_zero _)
  | fu + 1, g, F, x10, hx, hm, hz => by
    have ep : x9.toNatClampNeg = p := by rw [tN, hp]; rfl
    rw [g_X9_change_346, ep]
    by_cases c : F 29 p ≤ x10
    · have c2 := c
      simp only [sg_le] at c2
      rw [if_pos c, if_pos (by omega), cpyF_end (by omega), vup_id]
    · have c2 := c
      simp only [sg_le] at c2
      have ei := inc_i (n := 24) hx.1 hx.2 (by omega)
      have ix : ((24 : Int32) * x9 + x10).toNatClampNeg = 24 * p + x10.toInt.toNat := by
        rw [tN, mad_i (k := 24) rfl (by omega) (by omega) (by omega), hp]
        omega
      rw [if_neg c, if_neg (by omega), ix, cr_g bi kind xx yy x5 x6 x7 x8 x9 hp h80 fu (upd g 10 (x10 + 1)) (va_up F 9 (upd (F 9) x10.toNatClampNeg (F 28 (24 * p + x10.toInt.toNat)))) (x10 + 1) (by rw [ei]; omega) (by rw [ei]; omega) hz, vup_vup]
      have eF : (va_up F 9 (upd (F 9) x10.toNatClampNeg (F 28 (24 * p + x10.toInt.toNat)))) 29 = F 29 := rfl
      have eF8 : (va_up F 9 (upd (F 9) x10.toNatClampNeg (F 28 (24 * p + x10.toInt.toNat)))) 28 = F 28 := rfl
      rw [eF, eF8, va_up_self, ei, show (x10.toInt + 1).toNat = x10.toInt.toNat + 1 by omega, tN]
      rw [cpyF_step (by omega) (fun k => F 28 (24 * p + k))]
      by_cases d : (F 29 p).toInt.toNat ≤ x10.toInt.toNat + 1
      · rw [if_pos d]
        have : x10 + 1 = F 29 p := Int32.toInt_inj.mp (by rw [ei]; omega)
        rw [this]
      · rw [if_neg d, upd_upd]
theorem RR.chg {T : Int} {rf : Int32} {pn : Int32} {pf : Nat → Int32} {tn : Int32} {tf : Nat → Int32} {sn : Int32} {lg : Nat → Int32} {lF : Nat → Nat → Int32} {bcv : Nat → Int32} {btr : Int32} {bpn : Int32} {bpf : Nat → Int32} {bpz : Nat → Int32} {bff : Nat → Int32} {bfsn : Int32} {bfsf : Nat → Int32} {bfsz : Nat → Int32} {dcv : Nat → Int32} {dtr : Int32} {dpn : Int32} {dpf : Nat → Int32} {dpz : Nat → Int32} {dff : Nat → Int32} {dfsn : Int32} {dfsf : Nat → Int32} {dfsz : Nat → Int32} {cmn : Int32} {ctn : Int32} {kk : Int32} {knn : Int32} {ktn : Int32} {g : Nat → Int32} {F : Nat → Nat → Int32} {n : Int32} {f : Nat → Int32} {t : Int32 × (Nat → Int32) × (Nat → Nat → Int32)} {cm ct : Int32} (hR : RR T rf pn pf tn tf sn lg lF bcv btr bpn bpf bpz bff bfsn bfsf bfsz dcv dtr dpn dpf dpz dff dfsn dfsf dfsz cmn ctn kk knn ktn g F) (h : CHQ g F n f t) (h1 : 0 ≤ cm.toInt) (h2 : 0 ≤ ct.toInt) : n = t.1 ∧ RR (T + 60) rf pn pf (n) (f) sn lg lF bcv btr bpn bpf bpz bff bfsn bfsf bfsz dcv dtr dpn dpf dpz dff dfsn dfsf dfsz (cm) (ct) kk knn ktn t.2.1 t.2.2 := by
  obtain ⟨r1, r2, r3, r4, r5, r6, r7, r8, r9⟩ := hR
  obtain ⟨c1, c2, f, c4⟩ := h
  have f2 : Fr [8, 10, 14, 15, 16, 17, 18, 20, 21, 22, 23, 24, 38, 39] [7, 9, 11, 12, 13, 19, 25, 26, 27, 37] g F t.2.1 t.2.2 := f.mono (by decide) (by decide)
  exact ⟨c1, by rw [f.1 6 (by decide)]; exact r1, r2.fr f2, c2, r4.of (f.1 20 (by decide)) (f.1 21 (by decide)) (f.1 22 (by decide)) (f.1 23 (by decide)) (f.1 24 (by decide)) (f.2 25 (by decide)) (f.2 26 (by decide)) (f.2 27 (by decide)), r5.fr (by omega) f2, r6.fr (by omega) f2, ⟨r7.1, h1, h2, r7.2.2.2⟩, by rw [f.1 39 (by decide)]; exact r8, c4⟩
