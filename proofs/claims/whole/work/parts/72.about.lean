def bcf (x : Int32) : Int32 := (((((((((x) - ((((x).toUInt32 >>> ((1 : Int32).toUInt32 &&& Int32.toUInt32 31)).toInt32) &&& (1431655765 : Int32))) &&& (858993459 : Int32)) + (((((x) - ((((x).toUInt32 >>> ((1 : Int32).toUInt32 &&& Int32.toUInt32 31)).toInt32) &&& (1431655765 : Int32))).toUInt32 >>> ((2 : Int32).toUInt32 &&& Int32.toUInt32 31)).toInt32) &&& (858993459 : Int32))) + ((((((x) - ((((x).toUInt32 >>> ((1 : Int32).toUInt32 &&& Int32.toUInt32 31)).toInt32) &&& (1431655765 : Int32))) &&& (858993459 : Int32)) + (((((x) - ((((x).toUInt32 >>> ((1 : Int32).toUInt32 &&& Int32.toUInt32 31)).toInt32) &&& (1431655765 : Int32))).toUInt32 >>> ((2 : Int32).toUInt32 &&& Int32.toUInt32 31)).toInt32) &&& (858993459 : Int32))).toUInt32 >>> ((4 : Int32).toUInt32 &&& Int32.toUInt32 31)).toInt32)) &&& (252645135 : Int32)) + ((((((((x) - ((((x).toUInt32 >>> ((1 : Int32).toUInt32 &&& Int32.toUInt32 31)).toInt32) &&& (1431655765 : Int32))) &&& (858993459 : Int32)) + (((((x) - ((((x).toUInt32 >>> ((1 : Int32).toUInt32 &&& Int32.toUInt32 31)).toInt32) &&& (1431655765 : Int32))).toUInt32 >>> ((2 : Int32).toUInt32 &&& Int32.toUInt32 31)).toInt32) &&& (858993459 : Int32))) + ((((((x) - ((((x).toUInt32 >>> ((1 : Int32).toUInt32 &&& Int32.toUInt32 31)).toInt32) &&& (1431655765 : Int32))) &&& (858993459 : Int32)) + (((((x) - ((((x).toUInt32 >>> ((1 : Int32).toUInt32 &&& Int32.toUInt32 31)).toInt32) &&& (1431655765 : Int32))).toUInt32 >>> ((2 : Int32).toUInt32 &&& Int32.toUInt32 31)).toInt32) &&& (858993459 : Int32))).toUInt32 >>> ((4 : Int32).toUInt32 &&& Int32.toUInt32 31)).toInt32)) &&& (252645135 : Int32)).toUInt32 >>> ((8 : Int32).toUInt32 &&& Int32.toUInt32 31)).toInt32)) + (((((((((x) - ((((x).toUInt32 >>> ((1 : Int32).toUInt32 &&& Int32.toUInt32 31)).toInt32) &&& (1431655765 : Int32))) &&& (858993459 : Int32)) + (((((x) - ((((x).toUInt32 >>> ((1 : Int32).toUInt32 &&& Int32.toUInt32 31)).toInt32) &&& (1431655765 : Int32))).toUInt32 >>> ((2 : Int32).toUInt32 &&& Int32.toUInt32 31)).toInt32) &&& (858993459 : Int32))) + ((((((x) - ((((x).toUInt32 >>> ((1 : Int32).toUInt32 &&& Int32.toUInt32 31)).toInt32) &&& (1431655765 : Int32))) &&& (858993459 : Int32)) + (((((x) - ((((x).toUInt32 >>> ((1 : Int32).toUInt32 &&& Int32.toUInt32 31)).toInt32) &&& (1431655765 : Int32))).toUInt32 >>> ((2 : Int32).toUInt32 &&& Int32.toUInt32 31)).toInt32) &&& (858993459 : Int32))).toUInt32 >>> ((4 : Int32).toUInt32 &&& Int32.toUInt32 31)).toInt32)) &&& (252645135 : Int32)) + ((((((((x) - ((((x).toUInt32 >>> ((1 : Int32).toUInt32 &&& Int32.toUInt32 31)).toInt32) &&& (1431655765 : Int32))) &&& (858993459 : Int32)) + (((((x) - ((((x).toUInt32 >>> ((1 : Int32).toUInt32 &&& Int32.toUInt32 31)).toInt32) &&& (1431655765 : Int32))).toUInt32 >>> ((2 : Int32).toUInt32 &&& Int32.toUInt32 31)).toInt32) &&& (858993459 : Int32))) + ((((((x) - ((((x).toUInt32 >>> ((1 : Int32).toUInt32 &&& Int32.toUInt32 31)).toInt32) &&& (1431655765 : Int32))) &&& (858993459 : Int32)) + (((((x) - ((((x).toUInt32 >>> ((1 : Int32).toUInt32 &&& Int32.toUInt32 31)).toInt32) &&& (1431655765 : Int32))).toUInt32 >>> ((2 : Int32).toUInt32 &&& Int32.toUInt32 31)).toInt32) &&& (858993459 : Int32))).toUInt32 >>> ((4 : Int32).toUInt32 &&& Int32.toUInt32 31)).toInt32)) &&& (252645135 : Int32)).toUInt32 >>> ((8 : Int32).toUInt32 &&& Int32.toUInt32 31)).toInt32)).toUInt32 >>> ((16 : Int32).toUInt32 &&& Int32.toUInt32 31)).toInt32)) &&& (63 : Int32))
def pcs (v : Nat) : Nat → Nat → Nat
  | _, 0 => 0
  | d, n + 1 => (if v.testBit d then 1 else 0) + pcs v (d + 1) n
set_option maxRecDepth 100000 in
theorem bc_all : ((List.range 1024).all fun v => decide (bcf (nI v) = nI (pcs v 0 10)) && (decide (v = 0) == decide (pcs v 0 10 = 0))) = true := by decide +kernel
theorem bc_one {v : Nat} (hv : v < 1024) : bcf (nI v) = nI (pcs v 0 10) ∧ (v = 0 ↔ pcs v 0 10 = 0) := by
  have h := List.all_eq_true.mp bc_all v (List.mem_range.mpr hv)
  simp only [Bool.and_eq_true, decide_eq_true_eq, beq_iff_eq, decide_eq_decide] at h
  exact h
theorem ix16 {bi : Int32} {b j : Nat} (hb : bi.toInt = (b : Int)) (hb1 : b < 2) (hj : j < 1600) : (((1600 : Int32) * bi) + (nI j)).toNatClampNeg = 1600 * b + j := by
  have ej := nI_toInt (n := j) (by omega)
  rw [tN, mad_i (k := 1600) rfl (by omega) (by omega) (by omega), hb, ej]
  omega
theorem r65 (g : Nat → Int32) (F : Nat → Nat → Int32) (bi what : Int32) {b : Nat} (hb : bi.toInt = (b : Int)) (hb1 : b < 2) {k v : Nat} (hk : k < 160) (hC : ∀ d, d < 10 → F 31 (1600 * b + 10 * k + d) = if v.testBit d then (1 : Int32) else 0) (fu : Nat) : ∀ (n d : Nat) (x : Int32), d + n = 10 → g_X9_about_65 g F bi what (fu + n) x (10 * k + d) = g_X9_about_65 g F bi what fu (x + nI (pcs v d n)) (10 * k + 10)
  | 0, d, x, h => by
    obtain rfl : d = 10 := by omega
    show g_X9_about_65 g F bi what fu x (10 * k + 10) = g_X9_about_65 g F bi what fu (x + nI 0) (10 * k + 10)
    rw [show nI 0 = 0 from rfl, add0]
  | n + 1, d, x, h => by
    have e : fu + (n + 1) = (fu + n) + 1 := by omega
    rw [e, g_X9_about_65, if_neg (fun q => by have := (le_nI (by omega)).mp q; have e : (1600 : Int32).toInt.toNat = 1600 := rfl; omega), ix16 hb hb1 (by omega), ← Nat.add_assoc, hC d (by omega)]
    have ih := fun y => r65 g F bi what hb hb1 hk hC fu n (d + 1) y (by omega)
    have e2 : pcs v d (n + 1) = (if v.testBit d then 1 else 0) + pcs v (d + 1) n := rfl
    rw [e2]
    cases hv : v.testBit d
    · rw [if_pos (show (if false = true then (1 : Int32) else 0) = 0 from rfl), add0, Nat.add_assoc, ih x]
      rw [if_neg (by decide), Nat.zero_add]
    · rw [if_neg (show ¬ (if true = true then (1 : Int32) else 0) = 0 by decide), Nat.add_assoc, ih (x + 1)]
      rw [if_pos rfl, ← nI_add, ← Int32.add_assoc]
      rfl
theorem reach_sim (cv : Nat → Int32) (tr pn : Int32) (pf pz ff : Nat → Int32) (fsn : Int32) (fsf fsz : Nat → Int32) (g : Nat → Int32) (F : Nat → Nat → Int32) (bi what : Int32) {b : Nat} (hb : bi.toInt = (b : Int)) (hb1 : b < 2) (hC : CV b cv (F 31)) : ∀ (n fu k : Nat) (x : Int32), k + n = 160 → n < fu → g_X0_reachesCovered_4 cv tr pn pf pz ff fsn fsf fsz fu x k = g_X9_about_65 g F bi what (1 + 10 * n) x (10 * k)
  | _, 0, _, _, _, h => absurd h (Nat.not_lt_zero _)
  | 0, fu + 1, k, x, hk, h => by
    obtain rfl : k = 160 := by omega
    rw [g_X0_reachesCovered_4, if_pos (by decide), g_X9_about_65, if_pos (by decide)]
  | n + 1, fu + 1, k, x, hk, h => by
    obtain ⟨v, v1, v2, v3, v4⟩ := hC k (by omega)
    rw [g_X0_reachesCovered_4, if_neg (fun q => by have := (le_nI (by omega)).mp q; have e : (160 : Int32).toInt.toNat = 160 := rfl; omega)]
    show g_X0_reachesCovered_4 cv tr pn pf pz ff fsn fsf fsz fu (x + bcf (cv k)) (k + 1) = _
    rw [v2, (bc_one v1).1, reach_sim cv tr pn pf pz ff fsn fsf fsz g F bi what hb hb1 hC n fu (k + 1) _ (by omega) (by omega)]
    have q := r65 g F bi what hb hb1 (by omega) v4 (1 + 10 * n) 10 0 x (by omega)
    rw [show 1 + 10 * (n + 1) = 1 + 10 * n + 10 by omega]
    exact q.symm
theorem b122_1 (g : Nat → Int32) (F : Nat → Nat → Int32) (bi what x3 : Int32) (j : Nat) : ∀ (n fu i : Nat), i + n = 10 → n < fu → (g_X9_about_122 g F bi what x3 j fu 1 i).1 = 1
  | _, 0, _, _, h => absurd h (Nat.not_lt_zero _)
  | 0, fu + 1, i, hi, h => by
    obtain rfl : i = 10 := by omega
    rw [g_X9_about_122, if_pos (by decide)]
  | n + 1, fu + 1, i, hi, h => by
    rw [g_X9_about_122, if_neg (fun q => by have := (le_nI (by omega)).mp q; have e : (10 : Int32).toInt.toNat = 10 := rfl; omega), if_neg (by decide)]
    exact b122_1 g F bi what x3 j n fu (i + 1) (by omega) (by omega)
theorem b122_0 (g : Nat → Int32) (F : Nat → Nat → Int32) (bi what x3 : Int32) {b j v : Nat} (hb : bi.toInt = (b : Int)) (hb1 : b < 2) (hj : j < 160) (hC : ∀ d, d < 10 → F 31 (1600 * b + 10 * j + d) = if v.testBit d then (1 : Int32) else 0) : ∀ (n fu i : Nat), i + n = 10 → n < fu → ((g_X9_about_122 g F bi what x3 j fu 0 i).1 = 0 ↔ pcs v i n = 0)
  | _, 0, _, _, h => absurd h (Nat.not_lt_zero _)
  | 0, fu + 1, i, hi, h => by
    obtain rfl : i = 10 := by omega
    rw [g_X9_about_122, if_pos (by decide)]
    exact ⟨fun _ => rfl, fun _ => rfl⟩
  | n + 1, fu + 1, i, hi, h => by
    rw [g_X9_about_122, if_neg (fun q => by have := (le_nI (by omega)).mp q; have e : (10 : Int32).toInt.toNat = 10 := rfl; omega), if_pos rfl, ixc hb hb1 hj (by omega), hC i (by omega)]
    have e2 : pcs v i (n + 1) = (if v.testBit i then 1 else 0) + pcs v (i + 1) n := rfl
    rw [e2]
    cases hv : v.testBit i
    · rw [if_pos (show (if false = true then (1 : Int32) else 0) = 0 from rfl), if_neg (by decide), Nat.zero_add]
      exact b122_0 g F bi what x3 hb hb1 hj hC n fu (i + 1) (by omega) (by omega)
    · rw [if_neg (show ¬ (if true = true then (1 : Int32) else 0) = 0 by decide), if_pos rfl, b122_1 g F bi what x3 j n fu (i + 1) (by omega) (by omega)]
      exact ⟨fun k => absurd k (by decide), fun k => by omega⟩
theorem branch_sim (cv : Nat → Int32) (tr pn : Int32) (pf pz ff : Nat → Int32) (fsn : Int32) (fsf fsz : Nat → Int32) (g : Nat → Int32) (F : Nat → Nat → Int32) (bi what : Int32) {b : Nat} (hb : bi.toInt = (b : Int)) (hb1 : b < 2) (hC : CV b cv (F 31)) : ∀ (n fu k : Nat) (x : Int32), k + n = 160 → n < fu → g_X0_branchesCovered_4 cv tr pn pf pz ff fsn fsf fsz fu x k = g_X9_about_108 g F bi what fu x k
  | _, 0, _, _, _, h => absurd h (Nat.not_lt_zero _)
  | 0, fu + 1, k, x, hk, h => by
    obtain rfl : k = 160 := by omega
    rw [g_X0_branchesCovered_4, if_pos (by decide), g_X9_about_108, if_pos (by decide)]
  | n + 1, fu + 1, k, x, hk, h => by
    obtain ⟨v, v1, v2, v3, v4⟩ := hC k (by omega)
    have hne : ¬ (160 : Int32) ≤ nI k := fun q => by have := (le_nI (by omega)).mp q; have e : (160 : Int32).toInt.toNat = 160 := rfl; omega
    rw [g_X0_branchesCovered_4, if_neg hne, g_X9_about_108, if_neg hne]
    have hb2 := b122_0 g F bi what x hb hb1 (by omega) v4 10 (10 - 0 + 1) 0 (by omega) (by omega)
    have hv0 := (bc_one v1).2
    have hz : nI v = 0 ↔ v = 0 := by
      rw [show (0 : Int32) = nI 0 from rfl]
      exact nI_eq (by omega) (by omega)
    rw [v2]
    by_cases c : v = 0
    · rw [if_pos (hz.mpr c), if_pos (hb2.mpr (hv0.mp c)), add0]
      exact branch_sim cv tr pn pf pz ff fsn fsf fsz g F bi what hb hb1 hC n fu (k + 1) x (by omega) (by omega)
    · rw [if_neg (fun q => c (hz.mp q)), if_neg (fun q => c (hv0.mpr (hb2.mp q)))]
      exact branch_sim cv tr pn pf pz ff fsn fsf fsz g F bi what hb hb1 hC n fu (k + 1) (x + 1) (by omega) (by omega)
theorem dig_in (x : Int32) : r_X0_isDigits x = r_X9_in x 1 9 := rfl
theorem brn_in (x : Int32) : r_X7_isBranch x = r_X9_in x 0 159 := by
  unfold r_X7_isBranch r_X9_in
  refine ite_cg Iff.rfl rfl (ite_cg ?_ rfl rfl)
  have e1 : (160 : Int32).toInt = 160 := rfl
  have e2 : (159 : Int32).toInt = 159 := rfl
  simp only [sg_le, sg_lt]
  omega
theorem w40 (g : Nat → Int32) (x1 : Int32) {i : Nat} (hi : i < 2) : ∀ (fu : Nat) (F : Nat → Nat → Int32) (j : Nat), 1600 - j < fu → j ≤ 1600 → (g_X9_wipe_40 g x1 i fu F j).1 = va_up F 31 (stoF (1600 * i) j 1600 (fun _ => (0 : Int32)) (F 31))
  | 0, _, _, h, _ => absurd h (Nat.not_lt_zero _)
  | fu + 1, F, j, h, hj => by
    rw [g_X9_wipe_40]
    by_cases c : 1600 ≤ j
    · obtain rfl : j = 1600 := by omega
      rw [if_pos (by decide), stoF_end (Nat.le_refl _), vup_id]
    · have ei := nI_toInt (n := i) (by omega)
      rw [if_neg (fun q => c (by have := (le_nI (by omega)).mp q; exact this)), w40 g x1 hi fu _ (j + 1) (by omega) (by omega), vup_vup, ix16 (b := i) ei (by omega) (by omega)]
      show va_up F 31 (stoF (1600 * i) (j + 1) 1600 (fun _ => 0) (upd (F 31) (1600 * i + j) ((fun _ => (0 : Int32)) j))) = _
      rw [stoF_step (by omega) (fun _ => (0 : Int32))]
def w1 (F : Nat → Nat → Int32) (i : Nat) : Nat → Nat → Int32 := va_up (va_up (va_up (va_up F 30 (upd (F 30) i (0 : Int32))) 33 (upd (F 33) i (0 : Int32))) 32 (upd (F 32) i (0 : Int32))) 31 (stoF (1600 * i) 0 1600 (fun _ => (0 : Int32)) (F 31))
theorem wipe_cl (g : Nat → Int32) (F : Nat → Nat → Int32) : r_X9_wipe g F = (g 5, upd g 5 (0 : Int32), w1 (w1 F 0) 1) := by
  unfold r_X9_wipe
  rw [g_X9_wipe_12, if_neg (by decide), w40 _ _ (by omega) _ _ _ (by omega) (by omega), g_X9_wipe_12, if_neg (by decide), w40 _ _ (by omega) _ _ _ (by omega) (by omega), g_X9_wipe_12, if_pos (by decide)]
  rfl
theorem t_covered_0 {T : Int} {rf : Int32} {pn : Int32} {pf : Nat → Int32} {tn : Int32} {tf : Nat → Int32} {sn : Int32} {lg : Nat → Int32} {lF : Nat → Nat → Int32} {bcv : Nat → Int32} {btr : Int32} {bpn : Int32} {bpf : Nat → Int32} {bpz : Nat → Int32} {bff : Nat → Int32} {bfsn : Int32} {bfsf : Nat → Int32} {bfsz : Nat → Int32} {dcv : Nat → Int32} {dtr : Int32} {dpn : Int32} {dpf : Nat → Int32} {dpz : Nat → Int32} {dff : Nat → Int32} {dfsn : Int32} {dfsf : Nat → Int32} {dfsz : Nat → Int32} {cmn : Int32} {ctn : Int32} {kk : Int32} {knn : Int32} {ktn : Int32} {g : Nat → Int32} {F : Nat → Nat → Int32} (hR : RR T rf pn pf tn tf sn lg lF bcv btr bpn bpf bpz bff bfsn bfsf bfsz dcv dtr dpn dpf dpz dff dfsn dfsf dfsz cmn ctn kk knn ktn g F) (hT : T ≤ 1000000) (br dg : Int32) : r_X8_covered_0 br dg rf bcv btr bpn bpf bpz bff bfsn bfsf bfsz = r_X9_covered (0 : Int32) br dg g F := by
  obtain ⟨r1, r2, r3, r4, r5, r6, r7, r8, r9⟩ := hR
  unfold r_X8_covered_0 r_X9_covered
  rw [if_neg (show ¬ r_X9_in (0 : Int32) 0 1 = 0 by decide), brn_in, dig_in]
  by_cases c : r_X9_in br 0 159 = 0
  · rw [if_pos c, if_pos c]
  · rw [if_neg c, if_neg c]
    by_cases d : r_X9_in dg 1 9 = 0
    · rw [if_pos d, if_pos d]
    · rw [if_neg d, if_neg d]
      have hb := in_b (a := 0) (b := 159) c (by decide) (by decide)
      have hd := in_b (a := 1) (b := 9) d (by decide) (by decide)
      obtain ⟨v, v1, v2, v3, v4⟩ := r5.2.2.2.2 br.toInt.toNat (by omega)
      have e1 := ixc (bi := (0 : Int32)) (b := 0) (j := br.toInt.toNat) (d := dg.toInt.toNat) rfl (by omega) (by omega) (by omega)
      have e2 := cvr (tr := btr) (pn := bpn) (pf := bpf) (pz := bpz) (ff := bff) (fsn := bfsn) (fsf := bfsf) (fsz := bfsz) (j := br.toInt.toNat) (d := dg.toInt.toNat) (by omega) v1 (by omega) v2
      rw [nI_self hb.1, nI_self (by omega)] at e1 e2
      rw [e1, e2, v4 _ (by omega)]
theorem t_about_0 {T : Int} {rf : Int32} {pn : Int32} {pf : Nat → Int32} {tn : Int32} {tf : Nat → Int32} {sn : Int32} {lg : Nat → Int32} {lF : Nat → Nat → Int32} {bcv : Nat → Int32} {btr : Int32} {bpn : Int32} {bpf : Nat → Int32} {bpz : Nat → Int32} {bff : Nat → Int32} {bfsn : Int32} {bfsf : Nat → Int32} {bfsz : Nat → Int32} {dcv : Nat → Int32} {dtr : Int32} {dpn : Int32} {dpf : Nat → Int32} {dpz : Nat → Int32} {dff : Nat → Int32} {dfsn : Int32} {dfsf : Nat → Int32} {dfsz : Nat → Int32} {cmn : Int32} {ctn : Int32} {kk : Int32} {knn : Int32} {ktn : Int32} {g : Nat → Int32} {F : Nat → Nat → Int32} (hR : RR T rf pn pf tn tf sn lg lF bcv btr bpn bpf bpz bff bfsn bfsf bfsz dcv dtr dpn dpf dpz dff dfsn dfsf dfsz cmn ctn kk knn ktn g F) (hT : T ≤ 1000000) (what : Int32) : r_X8_about_0 what rf bcv btr bpn bpf bpz bff bfsn bfsf bfsz = r_X9_about (0 : Int32) what g F := by
  obtain ⟨r1, r2, r3, r4, r5, r6, r7, r8, r9⟩ := hR
  unfold r_X8_about_0 r_X9_about
  rw [if_neg (show ¬ r_X9_in (0 : Int32) 0 1 = 0 by decide), show (0 : Int32).toNatClampNeg = 0 from rfl]
  obtain ⟨⟨b1, b2, b3⟩, b4, b5, b6, b7⟩ := r5
  refine ite_cg Iff.rfl b4.1 (ite_cg Iff.rfl b5.1 (ite_cg Iff.rfl ?_ (ite_cg Iff.rfl ?_ (ite_cg Iff.rfl b1 rfl))))
  · exact reach_sim bcv btr bpn bpf bpz bff bfsn bfsf bfsz g F (0 : Int32) what (b := 0) rfl (by omega) b7 160 _ 0 0 (by omega) (by omega)
  · exact branch_sim bcv btr bpn bpf bpz bff bfsn bfsf bfsz g F (0 : Int32) what (b := 0) rfl (by omega) b7 160 _ 0 0 (by omega) (by omega)
theorem t_covered_1 {T : Int} {rf : Int32} {pn : Int32} {pf : Nat → Int32} {tn : Int32} {tf : Nat → Int32} {sn : Int32} {lg : Nat → Int32} {lF : Nat → Nat → Int32} {bcv : Nat → Int32} {btr : Int32} {bpn : Int32} {bpf : Nat → Int32} {bpz : Nat → Int32} {bff : Nat → Int32} {bfsn : Int32} {bfsf : Nat → Int32} {bfsz : Nat → Int32} {dcv : Nat → Int32} {dtr : Int32} {dpn : Int32} {dpf : Nat → Int32} {dpz : Nat → Int32} {dff : Nat → Int32} {dfsn : Int32} {dfsf : Nat → Int32} {dfsz : Nat → Int32} {cmn : Int32} {ctn : Int32} {kk : Int32} {knn : Int32} {ktn : Int32} {g : Nat → Int32} {F : Nat → Nat → Int32} (hR : RR T rf pn pf tn tf sn lg lF bcv btr bpn bpf bpz bff bfsn bfsf bfsz dcv dtr dpn dpf dpz dff dfsn dfsf dfsz cmn ctn kk knn ktn g F) (hT : T ≤ 1000000) (br dg : Int32) : r_X8_covered_1 br dg rf dcv dtr dpn dpf dpz dff dfsn dfsf dfsz = r_X9_covered (1 : Int32) br dg g F := by
  obtain ⟨r1, r2, r3, r4, r5, r6, r7, r8, r9⟩ := hR
  unfold r_X8_covered_1 r_X9_covered
  rw [if_neg (show ¬ r_X9_in (1 : Int32) 0 1 = 0 by decide), brn_in, dig_in]
  by_cases c : r_X9_in br 0 159 = 0
  · rw [if_pos c, if_pos c]
  · rw [if_neg c, if_neg c]
    by_cases d : r_X9_in dg 1 9 = 0
    · rw [if_pos d, if_pos d]
    · rw [if_neg d, if_neg d]
      have hb := in_b (a := 0) (b := 159) c (by decide) (by decide)
      have hd := in_b (a := 1) (b := 9) d (by decide) (by decide)
      obtain ⟨v, v1, v2, v3, v4⟩ := r6.2.2.2.2 br.toInt.toNat (by omega)
      have e1 := ixc (bi := (1 : Int32)) (b := 1) (j := br.toInt.toNat) (d := dg.toInt.toNat) rfl (by omega) (by omega) (by omega)
      have e2 := cvr (tr := dtr) (pn := dpn) (pf := dpf) (pz := dpz) (ff := dff) (fsn := dfsn) (fsf := dfsf) (fsz := dfsz) (j := br.toInt.toNat) (d := dg.toInt.toNat) (by omega) v1 (by omega) v2
      rw [nI_self hb.1, nI_self (by omega)] at e1 e2
      rw [e1, e2, v4 _ (by omega)]
theorem t_about_1 {T : Int} {rf : Int32} {pn : Int32} {pf : Nat → Int32} {tn : Int32} {tf : Nat → Int32} {sn : Int32} {lg : Nat → Int32} {lF : Nat → Nat → Int32} {bcv : Nat → Int32} {btr : Int32} {bpn : Int32} {bpf : Nat → Int32} {bpz : Nat → Int32} {bff : Nat → Int32} {bfsn : Int32} {bfsf : Nat → Int32} {bfsz : Nat → Int32} {dcv : Nat → Int32} {dtr : Int32} {dpn : Int32} {dpf : Nat → Int32} {dpz : Nat → Int32} {dff : Nat → Int32} {dfsn : Int32} {dfsf : Nat → Int32} {dfsz : Nat → Int32} {cmn : Int32} {ctn : Int32} {kk : Int32} {knn : Int32} {ktn : Int32} {g : Nat → Int32} {F : Nat → Nat → Int32} (hR : RR T rf pn pf tn tf sn lg lF bcv btr bpn bpf bpz bff bfsn bfsf bfsz dcv dtr dpn dpf dpz dff dfsn dfsf dfsz cmn ctn kk knn ktn g F) (hT : T ≤ 1000000) (what : Int32) : r_X8_about_1 what rf dcv dtr dpn dpf dpz dff dfsn dfsf dfsz = r_X9_about (1 : Int32) what g F := by
  obtain ⟨r1, r2, r3, r4, r5, r6, r7, r8, r9⟩ := hR
  unfold r_X8_about_1 r_X9_about
  rw [if_neg (show ¬ r_X9_in (1 : Int32) 0 1 = 0 by decide), show (1 : Int32).toNatClampNeg = 1 from rfl]
  obtain ⟨⟨b1, b2, b3⟩, b4, b5, b6, b7⟩ := r6
  refine ite_cg Iff.rfl b4.1 (ite_cg Iff.rfl b5.1 (ite_cg Iff.rfl ?_ (ite_cg Iff.rfl ?_ (ite_cg Iff.rfl b1 rfl))))
  · exact reach_sim dcv dtr dpn dpf dpz dff dfsn dfsf dfsz g F (1 : Int32) what (b := 1) rfl (by omega) b7 160 _ 0 0 (by omega) (by omega)
  · exact branch_sim dcv dtr dpn dpf dpz dff dfsn dfsf dfsz g F (1 : Int32) what (b := 1) rfl (by omega) b7 160 _ 0 0 (by omega) (by omega)
theorem br_wiped {b : Nat} {T : Int} (hT : 0 ≤ T) (hb : b < 2) {cv pf pz ff fsf fsz : Nat → Int32} {F : Nat → Nat → Int32} (h30 : F 30 b = 0) (h32 : F 32 b = 0) (h33 : F 33 b = 0) (h31 : ∀ i, i < 3200 → F 31 i = 0) : BR b T (cpy 160 (fun _ => (0 : Int32)) cv) 0 0 pf pz ff 0 fsf fsz F := by
  have z : (0 : Int32).toInt = 0 := rfl
  refine ⟨⟨h32.symm, by decide, by rw [z]; exact hT⟩, ⟨h30.symm, by rw [h30]; decide, fun i hi => ?_⟩, ⟨h33.symm, by rw [h33]; decide, fun i hi => ?_⟩, fun f hf => ?_, fun k hk => ?_⟩
  · rw [h30, z] at hi
    omega
  · rw [h33, z] at hi
    omega
  · rw [z] at hf
    omega
  · refine ⟨0, by omega, by rw [cpy_lt hk]; rfl, by decide, fun d hd => ?_⟩
    rw [h31 _ (by omega), Nat.zero_testBit]
    rfl
theorem t_wipe {T : Int} {rf : Int32} {pn : Int32} {pf : Nat → Int32} {tn : Int32} {tf : Nat → Int32} {sn : Int32} {lg : Nat → Int32} {lF : Nat → Nat → Int32} {bcv : Nat → Int32} {btr : Int32} {bpn : Int32} {bpf : Nat → Int32} {bpz : Nat → Int32} {bff : Nat → Int32} {bfsn : Int32} {bfsf : Nat → Int32} {bfsz : Nat → Int32} {dcv : Nat → Int32} {dtr : Int32} {dpn : Int32} {dpf : Nat → Int32} {dpz : Nat → Int32} {dff : Nat → Int32} {dfsn : Int32} {dfsf : Nat → Int32} {dfsz : Nat → Int32} {cmn : Int32} {ctn : Int32} {kk : Int32} {knn : Int32} {ktn : Int32} {g : Nat → Int32} {F : Nat → Nat → Int32} (hR : RR T rf pn pf tn tf sn lg lF bcv btr bpn bpf bpz bff bfsn bfsf bfsz dcv dtr dpn dpf dpz dff dfsn dfsf dfsz cmn ctn kk knn ktn g F) (hT : T ≤ 1000000) : (r_X8_wipe rf pn pf bcv btr bpn bpf bpz bff bfsn bfsf bfsz dcv dtr dpn dpf dpz dff dfsn dfsf dfsz).1 = (r_X9_wipe g F).1 ∧ RR (T + 60) rf ((r_X8_wipe rf pn pf bcv btr bpn bpf bpz bff bfsn bfsf bfsz dcv dtr dpn dpf dpz dff dfsn dfsf dfsz).2.1) pf tn tf sn lg lF ((r_X8_wipe rf pn pf bcv btr bpn bpf bpz bff bfsn bfsf bfsz dcv dtr dpn dpf dpz dff dfsn dfsf dfsz).2.2.1) ((r_X8_wipe rf pn pf bcv btr bpn bpf bpz bff bfsn bfsf bfsz dcv dtr dpn dpf dpz dff dfsn dfsf dfsz).2.2.2.1) ((r_X8_wipe rf pn pf bcv btr bpn bpf bpz bff bfsn bfsf bfsz dcv dtr dpn dpf dpz dff dfsn dfsf dfsz).2.2.2.2.1) bpf bpz bff ((r_X8_wipe rf pn pf bcv btr bpn bpf bpz bff bfsn bfsf bfsz dcv dtr dpn dpf dpz dff dfsn dfsf dfsz).2.2.2.2.2.1) bfsf bfsz ((r_X8_wipe rf pn pf bcv btr bpn bpf bpz bff bfsn bfsf bfsz dcv dtr dpn dpf dpz dff dfsn dfsf dfsz).2.2.2.2.2.2.1) ((r_X8_wipe rf pn pf bcv btr bpn bpf bpz bff bfsn bfsf bfsz dcv dtr dpn dpf dpz dff dfsn dfsf dfsz).2.2.2.2.2.2.2.1) ((r_X8_wipe rf pn pf bcv btr bpn bpf bpz bff bfsn bfsf bfsz dcv dtr dpn dpf dpz dff dfsn dfsf dfsz).2.2.2.2.2.2.2.2.1) dpf dpz dff ((r_X8_wipe rf pn pf bcv btr bpn bpf bpz bff bfsn bfsf bfsz dcv dtr dpn dpf dpz dff dfsn dfsf dfsz).2.2.2.2.2.2.2.2.2) dfsf dfsz cmn ctn kk knn ktn ((r_X9_wipe g F).2.1) ((r_X9_wipe g F).2.2) := by
  obtain ⟨r1, r2, r3, r4, r5, r6, r7, r8, r9⟩ := hR
  have h0 : 0 ≤ T + 60 := by
    have := r5.1.2.1
    have := r5.1.2.2
    omega
  unfold r_X8_wipe r_X0_clear r_X5_clear r_X6_clear r_X3_clear r_X6_clear
  rw [wipe_cl, fill_cl (by omega), fill_cl (by omega)]
  dsimp only
  obtain ⟨W, hW⟩ : ∃ W, W = w1 (w1 F 0) 1 := ⟨_, rfl⟩
  rw [← hW]
  have wk : ∀ k, k ∉ [30, 31, 32, 33] → W k = F k := by
    intro k hk
    simp only [List.mem_cons, List.not_mem_nil, or_false, not_or] at hk
    obtain ⟨k0, k1, k2, k3⟩ := hk
    rw [hW]
    unfold w1
    rw [va_up_ne _ _ k1, va_up_ne _ _ k2, va_up_ne _ _ k3, va_up_ne _ _ k0, va_up_ne _ _ k1, va_up_ne _ _ k2, va_up_ne _ _ k3, va_up_ne _ _ k0]
  have w30 : W 30 = upd (upd (F 30) 0 0) 1 0 := by rw [hW]; rfl
  have w32 : W 32 = upd (upd (F 32) 0 0) 1 0 := by rw [hW]; rfl
  have w33 : W 33 = upd (upd (F 33) 0 0) 1 0 := by rw [hW]; rfl
  have w31 : W 31 = stoF (1600 * 1) 0 1600 (fun _ => (0 : Int32)) (stoF (1600 * 0) 0 1600 (fun _ => (0 : Int32)) (F 31)) := by rw [hW]; rfl
  have z31 : ∀ i, i < 3200 → W 31 i = 0 := by
    intro i hi
    rw [w31]
    simp only [stoF]
    by_cases c : 1600 ≤ i
    · rw [if_pos (by omega)]
    · rw [if_neg (by omega), if_pos (by omega)]
  have g0 : 0 ≤ (0 : Int32).toInt ∧ (0 : Int32).toInt ≤ 80 := by decide
  have hw : WF W := r9.wf.of (wk 1 (by decide)) (wk 2 (by decide)) (wk 3 (by decide))
  refine ⟨r2.1, r1, ?_, ?_, r4.of rfl rfl rfl rfl rfl (wk 25 (by decide)) (wk 26 (by decide)) (wk 27 (by decide)), br_wiped h0 (by omega) (by rw [w30]; rfl) (by rw [w32]; rfl) (by rw [w33]; rfl) z31, br_wiped h0 (by omega) (by rw [w30]; rfl) (by rw [w32]; rfl) (by rw [w33]; rfl) z31, r7, r8, ?_⟩
  · refine ⟨rfl, g0, hw, by rw [wk 1 (by decide)]; exact r2.2.2.2.1, fun k hk => ?_⟩
    have hk : (k : Int) < (0 : Int32).toInt := hk
    have z : (0 : Int32).toInt = 0 := rfl
    omega
  · rw [wk 7 (by decide)]
    exact r3
  · refine ⟨g0, r9.p8, r9.p10, r9.p14, r9.p23, r9.p38, hw, by rw [wk 29 (by decide)]; exact r9.q29, ?_, ?_, by rw [wk 36 (by decide)]; exact r9.q36⟩
    · rw [w30]
      exact upd_r (upd_r r9.q30 0 0 (by decide)) 1 0 (by decide)
    · rw [w33]
      exact upd_r (upd_r r9.q33 0 0 (by decide)) 1 0 (by decide)
