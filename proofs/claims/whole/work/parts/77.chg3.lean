theorem end_eq (m y : Int32) : (m + 1) + y = m + (1 + y) := Int32.add_assoc m 1 y
set_option maxHeartbeats 4000000 in
theorem ap_sim {b : Nat} {bi : Int32} (hb : bi.toInt = (b : Int)) (hb1 : b < 2) {g : Nat → Int32} {F : Nat → Nat → Int32} {tn : Int32} {tf : Nat → Int32} {pn : Int32} {pf pz : Nat → Int32} {cmn ctn : Int32} {cmf ctf : Nat → Int32} {kind xx yy : Int32} (hJ : J g F) (hI : IR tn tf (g 8) (F 7)) (hS : SHR 40 pn pf pz (F 30 b) (F 28) (F 29) (40 * b)) (hcm : 0 ≤ cmn.toInt) (hct : 0 ≤ ctn.toInt) (gk : ¬ r_X9_in kind 0 6 = 0) (gx : ¬ r_X9_in xx 0 1000000000 = 0) (gy : ¬ r_X9_in yy 0 1000000000 = 0) : CHQ g F (r_X1_apply kind xx yy cmn cmf ctn ctf tn tf pn pf pz).2.2.2.2.1 (r_X1_apply kind xx yy cmn cmf ctn ctf tn tf pn pf pz).2.2.2.2.2 (r_X9_change bi kind xx yy g F) ∧ 0 ≤ (r_X1_apply kind xx yy cmn cmf ctn ctf tn tf pn pf pz).1.toInt ∧ 0 ≤ (r_X1_apply kind xx yy cmn cmf ctn ctf tn tf pn pf pz).2.2.1.toInt := by
  have hbn : bi.toNatClampNeg = b := by rw [tN, hb]; omega
  have hbi : ¬ r_X9_in bi 0 1 = 0 := by
    have z0 : (0 : Int32).toInt = 0 := rfl
    have e1 : (1 : Int32).toInt = 1 := rfl
    unfold r_X9_in
    rw [if_neg (show ¬ bi < 0 by simp only [sg_lt]; omega), if_neg (show ¬ (1 : Int32) < bi by simp only [sg_lt]; omega)]
    decide
  have bx := in_b (a := 0) (b := 1000000000) gx (by decide) (by decide)
  have by_ := in_b (a := 0) (b := 1000000000) gy (by decide) (by decide)
  have bk := in_b (a := 0) (b := 6) gk (by decide) (by decide)
  have hn := hI.rng
  have h8 := hJ.p8
  obtain rfl := hI.1
  have e0 : (if g 8 < (0 : Int32) then (0 : Int32) else g 8) = g 8 := if_neg (by simp only [sg_lt]; have z0 : (0 : Int32).toInt = 0 := rfl; omega)
  have jv := hJ.fromTape
  have v10 : (r_X9_fromTape g F).1 10 = g 8 := by rw [cl_fromTape g F (b24 h8)]; rfl
  have v9 : (r_X9_fromTape g F).2 9 = cpy (g 8).toInt.toNat (F 7) (F 9) := by rw [cl_fromTape g F (b24 h8)]; rfl
  have v7 : (r_X9_fromTape g F).2 7 = F 7 := by rw [cl_fromTape g F (b24 h8)]; rfl
  have v28 : (r_X9_fromTape g F).2 28 = F 28 := by rw [cl_fromTape g F (b24 h8)]; rfl
  have v29 : (r_X9_fromTape g F).2 29 = F 29 := by rw [cl_fromTape g F (b24 h8)]; rfl
  have v30 : (r_X9_fromTape g F).2 30 = F 30 := by rw [cl_fromTape g F (b24 h8)]; rfl
  have fv : Fr [8, 10] [7, 9] g F (r_X9_fromTape g F).1 (r_X9_fromTape g F).2 := by
    rw [cl_fromTape g F (b24 h8)]
    exact Fr.v (by decide) (Fr.u (by decide) Fr.refl)
  have vI : IR (g 8) tf ((r_X9_fromTape g F).1 10) ((r_X9_fromTape g F).2 9) := by
    rw [v10, v9]
    exact hI.cp _
  unfold r_X9_change r_X1_apply
  rw [if_neg hbi, if_neg gk, if_neg gx, if_neg gy, hbn]
  simp only [e0]
  generalize r_X9_fromTape g F = v at jv v10 v9 v7 v28 v29 v30 fv vI ⊢
  have xa := n1_b bx.1 h8
  have y256 := rem_b (x := yy) (n := 256) by_.1 (by decide)
  have e256 : (256 : Int32).toInt = 256 := rfl
  have myb := many_b by_.1
  rcases (show kind.toInt = 0 ∨ kind.toInt = 1 ∨ kind.toInt = 2 ∨ kind.toInt = 3 ∨ kind.toInt = 4 ∨ kind.toInt = 5 ∨ kind.toInt = 6 by omega) with hk | hk | hk | hk | hk | hk | hk
  · obtain hk : kind = (0 : Int32) := Int32.toInt_inj.mp hk
    rw [if_neg (show ¬ kind = (4 : Int32) by rw [hk]; decide), if_neg (show ¬ kind = (6 : Int32) by rw [hk]; decide)]
    by_cases n0 : g 8 = 0
    · rw [if_pos (show g 8 ≤ 0 by rw [n0]; decide), if_pos n0, if_neg (show ¬ kind = (4 : Int32) by rw [hk]; decide), if_neg (show ¬ kind = (6 : Int32) by rw [hk]; decide)]
      exact ⟨ch_self hI hJ, hcm, hct⟩
    · have np := n_pos n0 h8.1
      rw [if_neg (show ¬ g 8 ≤ 0 by simp only [sg_le]; have z0 : (0 : Int32).toInt = 0 := rfl; omega), if_neg n0, if_neg (show ¬ kind = (6 : Int32) by rw [hk]; decide)]
      have mb := rem_b bx.1 np
      dsimp only
      unfold r_X1_changeAt
      have gt := get_cl (f := tf) mb h8.2
      have hold : tf (xx - xx / (g 8) * (g 8)).toNatClampNeg = v.2 9 (xx - xx / (g 8) * (g 8)).toNatClampNeg ∧ 0 ≤ (v.2 9 (xx - xx / (g 8) * (g 8)).toNatClampNeg).toInt ∧ (v.2 9 (xx - xx / (g 8) * (g 8)).toNatClampNeg).toInt ≤ 255 := vI.2.2 _ (by rw [v10, tN]; omega)
      rw [if_pos hk]
      rw [gt, put_cl mb h8.2]
      have rb := rem_b (x := yy) (n := 8) by_.1 (by decide)
      by_cases hs : (xx - xx / (g 8) * (g 8)) + ((1 : Int32) + (yy - yy / (4 : Int32) * (4 : Int32))) ≤ g 8
      · rw [if_pos hs, if_pos hk]
        exact ⟨ch_tape (vI.put _ (by rw [hold.1]) ((xor_one hold.2).1 _ rb)) (Fr.v (by decide) fv) (jv.v 9 _ (by decide)), hcm, hct⟩
      · rw [if_neg hs, if_pos hk]
        exact ⟨ch_tape (vI.put _ (by rw [hold.1]) ((xor_one hold.2).1 _ rb)) (Fr.v (by decide) fv) (jv.v 9 _ (by decide)), hcm, hct⟩
  · obtain hk : kind = (1 : Int32) := Int32.toInt_inj.mp hk
    rw [if_neg (show ¬ kind = (4 : Int32) by rw [hk]; decide), if_neg (show ¬ kind = (6 : Int32) by rw [hk]; decide)]
    by_cases n0 : g 8 = 0
    · rw [if_pos (show g 8 ≤ 0 by rw [n0]; decide), if_pos n0, if_neg (show ¬ kind = (4 : Int32) by rw [hk]; decide), if_neg (show ¬ kind = (6 : Int32) by rw [hk]; decide)]
      exact ⟨ch_self hI hJ, hcm, hct⟩
    · have np := n_pos n0 h8.1
      rw [if_neg (show ¬ g 8 ≤ 0 by simp only [sg_le]; have z0 : (0 : Int32).toInt = 0 := rfl; omega), if_neg n0, if_neg (show ¬ kind = (6 : Int32) by rw [hk]; decide)]
      have mb := rem_b bx.1 np
      dsimp only
      unfold r_X1_changeAt
      have gt := get_cl (f := tf) mb h8.2
      have hold : tf (xx - xx / (g 8) * (g 8)).toNatClampNeg = v.2 9 (xx - xx / (g 8) * (g 8)).toNatClampNeg ∧ 0 ≤ (v.2 9 (xx - xx / (g 8) * (g 8)).toNatClampNeg).toInt ∧ (v.2 9 (xx - xx / (g 8) * (g 8)).toNatClampNeg).toInt ≤ 255 := vI.2.2 _ (by rw [v10, tN]; omega)
      rw [if_neg (show ¬ kind = (0 : Int32) by rw [hk]; decide), if_pos hk]
      rw [put_cl mb h8.2]
      by_cases hs : (xx - xx / (g 8) * (g 8)) + ((1 : Int32) + (yy - yy / (4 : Int32) * (4 : Int32))) ≤ g 8
      · rw [if_pos hs, if_neg (show ¬ kind = (0 : Int32) by rw [hk]; decide), if_pos hk]
        exact ⟨ch_tape (vI.put _ (rfl) (⟨y256.1, by omega⟩)) (Fr.v (by decide) fv) (jv.v 9 _ (by decide)), hcm, hct⟩
      · rw [if_neg hs, if_neg (show ¬ kind = (0 : Int32) by rw [hk]; decide), if_pos hk]
        exact ⟨ch_tape (vI.put _ (rfl) (⟨y256.1, by omega⟩)) (Fr.v (by decide) fv) (jv.v 9 _ (by decide)), hcm, hct⟩
  · obtain hk : kind = (2 : Int32) := Int32.toInt_inj.mp hk
    rw [if_neg (show ¬ kind = (4 : Int32) by rw [hk]; decide), if_neg (show ¬ kind = (6 : Int32) by rw [hk]; decide)]
    by_cases n0 : g 8 = 0
    · rw [if_pos (show g 8 ≤ 0 by rw [n0]; decide), if_pos n0, if_neg (show ¬ kind = (4 : Int32) by rw [hk]; decide), if_neg (show ¬ kind = (6 : Int32) by rw [hk]; decide)]
      exact ⟨ch_self hI hJ, hcm, hct⟩
    · have np := n_pos n0 h8.1
      rw [if_neg (show ¬ g 8 ≤ 0 by simp only [sg_le]; have z0 : (0 : Int32).toInt = 0 := rfl; omega), if_neg n0, if_neg (show ¬ kind = (6 : Int32) by rw [hk]; decide)]
      have mb := rem_b bx.1 np
      dsimp only
      unfold r_X1_changeAt
      have gt := get_cl (f := tf) mb h8.2
      have hold : tf (xx - xx / (g 8) * (g 8)).toNatClampNeg = v.2 9 (xx - xx / (g 8) * (g 8)).toNatClampNeg ∧ 0 ≤ (v.2 9 (xx - xx / (g 8) * (g 8)).toNatClampNeg).toInt ∧ (v.2 9 (xx - xx / (g 8) * (g 8)).toNatClampNeg).toInt ≤ 255 := vI.2.2 _ (by rw [v10, tN]; omega)
      rw [if_neg (show ¬ kind = (0 : Int32) by rw [hk]; decide), if_neg (show ¬ kind = (1 : Int32) by rw [hk]; decide), if_pos hk]
      dsimp only
      rw [end_eq]
      by_cases hs : (xx - xx / (g 8) * (g 8)) + ((1 : Int32) + (yy - yy / (4 : Int32) * (4 : Int32))) ≤ g 8
      · rw [if_pos hs, if_neg (show ¬ kind = (0 : Int32) by rw [hk]; decide), if_neg (show ¬ kind = (1 : Int32) by rw [hk]; decide), if_pos hk]
        have hs2 := hs
        simp only [sg_le] at hs2
        rw [add_i (n := 0) (by omega) (by omega)] at hs2
        have lv := leave_sim (M := ((1 : Int32) + (yy - yy / (4 : Int32) * (4 : Int32)))) (s := ((1 : Int32) + (yy - yy / (4 : Int32) * (4 : Int32)))) vI hcm (mf := cmf) mb (by omega) (Or.inl ⟨by rw [v10]; omega, rfl⟩)
        have jl := J_X9_leaveOut (xx - xx / (g 8) * (g 8)) ((1 : Int32) + (yy - yy / (4 : Int32) * (4 : Int32))) v.1 v.2 jv (by omega) (by rw [v10]; omega)
        rw [cl_leaveOut (xx - xx / (g 8) * (g 8)) ((1 : Int32) + (yy - yy / (4 : Int32) * (4 : Int32))) v.1 v.2 jv.p10 (by omega) (by omega)] at jl ⊢
        generalize r_X4_copyParts (xx - xx / (g 8) * (g 8)) ((xx - xx / (g 8) * (g 8)) + ((1 : Int32) + (yy - yy / (4 : Int32) * (4 : Int32)))) cmn cmf (g 8) tf = w at lv ⊢
        rw [copy_cl h8.1 lv.rng]
        exact ⟨ch_tape (lv.cp2 tf) (Fr.v (by decide) (Fr.u (by decide) fv)) jl, lv.rng.1, hct⟩
      · rw [if_neg hs, if_neg (show ¬ kind = (0 : Int32) by rw [hk]; decide), if_neg (show ¬ kind = (1 : Int32) by rw [hk]; decide), if_pos hk]
        have hs2 := hs
        simp only [sg_le] at hs2
        rw [add_i (n := 0) (by omega) (by omega)] at hs2
        have lv := leave_sim (M := (g 8 - (xx - xx / (g 8) * (g 8)))) (s := ((1 : Int32) + (yy - yy / (4 : Int32) * (4 : Int32)))) vI hcm (mf := cmf) mb (by omega) (Or.inr ⟨by rw [v10]; omega, by rw [v10, sub_i h8.1 mb.1]⟩)
        have jl := J_X9_leaveOut (xx - xx / (g 8) * (g 8)) (g 8 - (xx - xx / (g 8) * (g 8))) v.1 v.2 jv (by omega) (by rw [v10]; rw [sub_i h8.1 mb.1]; omega)
        rw [cl_leaveOut (xx - xx / (g 8) * (g 8)) (g 8 - (xx - xx / (g 8) * (g 8))) v.1 v.2 jv.p10 (by omega) (by rw [sub_i h8.1 mb.1]; omega)] at jl ⊢
        generalize r_X4_copyParts (xx - xx / (g 8) * (g 8)) ((xx - xx / (g 8) * (g 8)) + ((1 : Int32) + (yy - yy / (4 : Int32) * (4 : Int32)))) cmn cmf (g 8) tf = w at lv ⊢
        rw [copy_cl h8.1 lv.rng]
        exact ⟨ch_tape (lv.cp2 tf) (Fr.v (by decide) (Fr.u (by decide) fv)) jl, lv.rng.1, hct⟩
  · obtain hk : kind = (3 : Int32) := Int32.toInt_inj.mp hk
    rw [if_neg (show ¬ kind = (4 : Int32) by rw [hk]; decide), if_neg (show ¬ kind = (6 : Int32) by rw [hk]; decide)]
    by_cases n0 : g 8 = 0
    · rw [if_pos (show g 8 ≤ 0 by rw [n0]; decide), if_pos n0, if_neg (show ¬ kind = (4 : Int32) by rw [hk]; decide), if_neg (show ¬ kind = (6 : Int32) by rw [hk]; decide)]
      exact ⟨ch_self hI hJ, hcm, hct⟩
    · have np := n_pos n0 h8.1
      rw [if_neg (show ¬ g 8 ≤ 0 by simp only [sg_le]; have z0 : (0 : Int32).toInt = 0 := rfl; omega), if_neg n0, if_neg (show ¬ kind = (6 : Int32) by rw [hk]; decide)]
      have mb := rem_b bx.1 np
      dsimp only
      unfold r_X1_changeAt
      have gt := get_cl (f := tf) mb h8.2
      have hold : tf (xx - xx / (g 8) * (g 8)).toNatClampNeg = v.2 9 (xx - xx / (g 8) * (g 8)).toNatClampNeg ∧ 0 ≤ (v.2 9 (xx - xx / (g 8) * (g 8)).toNatClampNeg).toInt ∧ (v.2 9 (xx - xx / (g 8) * (g 8)).toNatClampNeg).toInt ≤ 255 := vI.2.2 _ (by rw [v10, tN]; omega)
      rw [if_neg (show ¬ kind = (0 : Int32) by rw [hk]; decide), if_neg (show ¬ kind = (1 : Int32) by rw [hk]; decide), if_neg (show ¬ kind = (2 : Int32) by rw [hk]; decide), if_pos hk]
      dsimp only
      rw [end_eq]
      have eA := add_i (n := 0) (x := (xx - xx / (g 8) * (g 8))) (y := ((1 : Int32) + (yy - yy / (4 : Int32) * (4 : Int32)))) (by omega) (by omega)
      by_cases hs : (xx - xx / (g 8) * (g 8)) + ((1 : Int32) + (yy - yy / (4 : Int32) * (4 : Int32))) ≤ g 8
      · rw [if_pos hs, if_neg (show ¬ kind = (0 : Int32) by rw [hk]; decide), if_neg (show ¬ kind = (1 : Int32) by rw [hk]; decide), if_neg (show ¬ kind = (2 : Int32) by rw [hk]; decide), if_pos hk]
        have hs2 := hs
        simp only [sg_le] at hs2
        rw [add_i (n := 0) (by omega) (by omega)] at hs2
        have eM : ((1 : Int32) + (yy - yy / (4 : Int32) * (4 : Int32))).toInt = ((1 : Int32) + (yy - yy / (4 : Int32) * (4 : Int32))).toInt := rfl
        rw [parts_cl hcm h8 (by rw [eA]; omega) mb.1, eA]
        dsimp only
        have eN : min ((xx - xx / (g 8) * (g 8)).toInt + ((1 : Int32) + (yy - yy / (4 : Int32) * (4 : Int32))).toInt).toNat (g 8).toInt.toNat + min ((g 8).toInt.toNat - (xx - xx / (g 8) * (g 8)).toInt.toNat) (24 - min ((xx - xx / (g 8) * (g 8)).toInt + ((1 : Int32) + (yy - yy / (4 : Int32) * (4 : Int32))).toInt).toNat (g 8).toInt.toNat) = min ((g 8).toInt.toNat + ((1 : Int32) + (yy - yy / (4 : Int32) * (4 : Int32))).toInt.toNat) 24 := by rw [eM]; omega
        have eN2 := nI_toInt (n := min ((g 8).toInt.toNat + ((1 : Int32) + (yy - yy / (4 : Int32) * (4 : Int32))).toInt.toNat) 24) (by omega)
        rw [eN, copy_cl h8.1 (by rw [eN2]; omega), eN2]
        refine ⟨rep_sim (n := g 8) (e := v.2 9) (E := (xx - xx / (g 8) * (g 8)).toInt.toNat + ((1 : Int32) + (yy - yy / (4 : Int32) * (4 : Int32))).toInt.toNat) (M := ((1 : Int32) + (yy - yy / (4 : Int32) * (4 : Int32))).toInt.toNat) (m := (xx - xx / (g 8) * (g 8)).toInt.toNat) bi kind xx yy _ _ _ _ h8 (by omega) (by rw [eM]; omega) rfl (by rw [eM]; omega) (fun k hk => (vI.2.2 k (by rw [v10]; exact hk)).2) (fun k hk => ?_) eN2 (fun k hk => ?_) _ 0 v.1 v.2 (by rw [eM]; omega) (by omega) fv v7 jv (by rw [v10]; omega) (fun k hk => ?_), by omega, hct⟩
        · rw [v9, cpy_lt (by omega)]
        · dsimp only
          rw [cpy_lt (by omega)]
          have tfk : ∀ i : Nat, (i : Int) < (g 8).toInt → tf i = v.2 9 i := fun i hi => (vI.2.2 i (by rw [v10]; exact hi)).1
          simp only [mov, cpy]
          have eE : min ((xx - xx / (g 8) * (g 8)).toInt + ((1 : Int32) + (yy - yy / (4 : Int32) * (4 : Int32))).toInt).toNat (g 8).toInt.toNat = (xx - xx / (g 8) * (g 8)).toInt.toNat + ((1 : Int32) + (yy - yy / (4 : Int32) * (4 : Int32))).toInt.toNat := by rw [eM]; omega
          rw [eE]
          by_cases q : k < (xx - xx / (g 8) * (g 8)).toInt.toNat + ((1 : Int32) + (yy - yy / (4 : Int32) * (4 : Int32))).toInt.toNat
          · rw [if_neg (by omega), if_pos q, if_pos q]
            exact tfk k (by rw [eM] at q; omega)
          · rw [if_pos (by omega), if_neg q, show (xx - xx / (g 8) * (g 8)).toInt.toNat + (k - ((xx - xx / (g 8) * (g 8)).toInt.toNat + ((1 : Int32) + (yy - yy / (4 : Int32) * (4 : Int32))).toInt.toNat)) = k - ((1 : Int32) + (yy - yy / (4 : Int32) * (4 : Int32))).toInt.toNat by omega]
            exact tfk _ (by rw [eM] at q hk ⊢; omega)
        · by_cases q : k < (xx - xx / (g 8) * (g 8)).toInt.toNat + ((1 : Int32) + (yy - yy / (4 : Int32) * (4 : Int32))).toInt.toNat
          · rw [if_pos q]
          · rw [if_neg q, if_neg (by omega), Nat.sub_zero]
      · rw [if_neg hs, if_neg (show ¬ kind = (0 : Int32) by rw [hk]; decide), if_neg (show ¬ kind = (1 : Int32) by rw [hk]; decide), if_neg (show ¬ kind = (2 : Int32) by rw [hk]; decide), if_pos hk]
        have hs2 := hs
        simp only [sg_le] at hs2
        rw [add_i (n := 0) (by omega) (by omega)] at hs2
        have eM : (g 8 - (xx - xx / (g 8) * (g 8))).toInt = (g 8).toInt - (xx - xx / (g 8) * (g 8)).toInt := sub_i h8.1 mb.1
        rw [parts_cl hcm h8 (by rw [eA]; omega) mb.1, eA]
        dsimp only
        have eN : min ((xx - xx / (g 8) * (g 8)).toInt + ((1 : Int32) + (yy - yy / (4 : Int32) * (4 : Int32))).toInt).toNat (g 8).toInt.toNat + min ((g 8).toInt.toNat - (xx - xx / (g 8) * (g 8)).toInt.toNat) (24 - min ((xx - xx / (g 8) * (g 8)).toInt + ((1 : Int32) + (yy - yy / (4 : Int32) * (4 : Int32))).toInt).toNat (g 8).toInt.toNat) = min ((g 8).toInt.toNat + (g 8 - (xx - xx / (g 8) * (g 8))).toInt.toNat) 24 := by rw [eM]; omega
        have eN2 := nI_toInt (n := min ((g 8).toInt.toNat + (g 8 - (xx - xx / (g 8) * (g 8))).toInt.toNat) 24) (by omega)
        rw [eN, copy_cl h8.1 (by rw [eN2]; omega), eN2]
        refine ⟨rep_sim (n := g 8) (e := v.2 9) (E := (xx - xx / (g 8) * (g 8)).toInt.toNat + (g 8 - (xx - xx / (g 8) * (g 8))).toInt.toNat) (M := (g 8 - (xx - xx / (g 8) * (g 8))).toInt.toNat) (m := (xx - xx / (g 8) * (g 8)).toInt.toNat) bi kind xx yy _ _ _ _ h8 (by omega) (by rw [eM]; omega) rfl (by rw [eM]; omega) (fun k hk => (vI.2.2 k (by rw [v10]; exact hk)).2) (fun k hk => ?_) eN2 (fun k hk => ?_) _ 0 v.1 v.2 (by rw [eM]; omega) (by omega) fv v7 jv (by rw [v10]; omega) (fun k hk => ?_), by omega, hct⟩
        · rw [v9, cpy_lt (by omega)]
        · dsimp only
          rw [cpy_lt (by omega)]
          have tfk : ∀ i : Nat, (i : Int) < (g 8).toInt → tf i = v.2 9 i := fun i hi => (vI.2.2 i (by rw [v10]; exact hi)).1
          simp only [mov, cpy]
          have eE : min ((xx - xx / (g 8) * (g 8)).toInt + ((1 : Int32) + (yy - yy / (4 : Int32) * (4 : Int32))).toInt).toNat (g 8).toInt.toNat = (xx - xx / (g 8) * (g 8)).toInt.toNat + (g 8 - (xx - xx / (g 8) * (g 8))).toInt.toNat := by rw [eM]; omega
          rw [eE]
          by_cases q : k < (xx - xx / (g 8) * (g 8)).toInt.toNat + (g 8 - (xx - xx / (g 8) * (g 8))).toInt.toNat
          · rw [if_neg (by omega), if_pos q, if_pos q]
            exact tfk k (by rw [eM] at q; omega)
          · rw [if_pos (by omega), if_neg q, show (xx - xx / (g 8) * (g 8)).toInt.toNat + (k - ((xx - xx / (g 8) * (g 8)).toInt.toNat + (g 8 - (xx - xx / (g 8) * (g 8))).toInt.toNat)) = k - (g 8 - (xx - xx / (g 8) * (g 8))).toInt.toNat by omega]
            exact tfk _ (by rw [eM] at q hk ⊢; omega)
        · by_cases q : k < (xx - xx / (g 8) * (g 8)).toInt.toNat + (g 8 - (xx - xx / (g 8) * (g 8))).toInt.toNat
          · rw [if_pos q]
          · rw [if_neg q, if_neg (by omega), Nat.sub_zero]
  · obtain hk : kind = (4 : Int32) := Int32.toInt_inj.mp hk
    rw [if_pos hk]
    dsimp only
    have cs := come_sim (mf := cmf) (tn := ctn) (tf := ctf) vI jv hcm xa (b := (yy - yy / (256 : Int32) * (256 : Int32))) ⟨y256.1, by omega⟩
    have jc := J_X9_comes (xx - xx / ((g 8) + (1 : Int32)) * ((g 8) + (1 : Int32))) (yy - yy / (256 : Int32) * (256 : Int32)) v.1 v.2 jv xa.1
    generalize r_X9_comes (xx - xx / ((g 8) + (1 : Int32)) * ((g 8) + (1 : Int32))) (yy - yy / (256 : Int32) * (256 : Int32)) v.1 v.2 = w at cs jc ⊢
    have K := ch_tape cs.1 (fv.trans (cs.2.1.mono (by decide) (by decide))) jc
    by_cases n0 : g 8 = 0
    · rw [if_pos n0, if_pos hk]
      by_cases hs : (0 : Int32) + ((1 : Int32) + (yy - yy / (4 : Int32) * (4 : Int32))) ≤ g 8
      · rw [if_pos hs]
        exact ⟨K, cs.2.2, hct⟩
      · rw [if_neg hs]
        exact ⟨K, cs.2.2, hct⟩
    · rw [if_neg n0, if_neg (show ¬ kind = (6 : Int32) by rw [hk]; decide)]
      by_cases hs : (xx - xx / (g 8) * (g 8)) + ((1 : Int32) + (yy - yy / (4 : Int32) * (4 : Int32))) ≤ g 8
      · rw [if_pos hs, if_neg (show ¬ kind = (0 : Int32) by rw [hk]; decide), if_neg (show ¬ kind = (1 : Int32) by rw [hk]; decide), if_neg (show ¬ kind = (2 : Int32) by rw [hk]; decide), if_neg (show ¬ kind = (3 : Int32) by rw [hk]; decide), if_pos hk]
        exact ⟨K, cs.2.2, hct⟩
      · rw [if_neg hs, if_neg (show ¬ kind = (0 : Int32) by rw [hk]; decide), if_neg (show ¬ kind = (1 : Int32) by rw [hk]; decide), if_neg (show ¬ kind = (2 : Int32) by rw [hk]; decide), if_neg (show ¬ kind = (3 : Int32) by rw [hk]; decide), if_pos hk]
        exact ⟨K, cs.2.2, hct⟩
  · obtain hk : kind = (5 : Int32) := Int32.toInt_inj.mp hk
    rw [if_neg (show ¬ kind = (4 : Int32) by rw [hk]; decide), if_neg (show ¬ kind = (6 : Int32) by rw [hk]; decide)]
    by_cases n0 : g 8 = 0
    · rw [if_pos (show g 8 ≤ 0 by rw [n0]; decide), if_pos n0, if_neg (show ¬ kind = (4 : Int32) by rw [hk]; decide), if_neg (show ¬ kind = (6 : Int32) by rw [hk]; decide)]
      exact ⟨ch_self hI hJ, hcm, hct⟩
    · have np := n_pos n0 h8.1
      rw [if_neg (show ¬ g 8 ≤ 0 by simp only [sg_le]; have z0 : (0 : Int32).toInt = 0 := rfl; omega), if_neg n0, if_neg (show ¬ kind = (6 : Int32) by rw [hk]; decide)]
      have mb := rem_b bx.1 np
      dsimp only
      unfold r_X1_changeAt
      have gt := get_cl (f := tf) mb h8.2
      have hold : tf (xx - xx / (g 8) * (g 8)).toNatClampNeg = v.2 9 (xx - xx / (g 8) * (g 8)).toNatClampNeg ∧ 0 ≤ (v.2 9 (xx - xx / (g 8) * (g 8)).toNatClampNeg).toInt ∧ (v.2 9 (xx - xx / (g 8) * (g 8)).toNatClampNeg).toInt ≤ 255 := vI.2.2 _ (by rw [v10, tN]; omega)
      rw [if_neg (show ¬ kind = (0 : Int32) by rw [hk]; decide), if_neg (show ¬ kind = (1 : Int32) by rw [hk]; decide), if_neg (show ¬ kind = (2 : Int32) by rw [hk]; decide), if_neg (show ¬ kind = (3 : Int32) by rw [hk]; decide)]
      by_cases hs : (xx - xx / (g 8) * (g 8)) + ((1 : Int32) + (yy - yy / (4 : Int32) * (4 : Int32))) ≤ g 8
      · rw [if_pos hs, if_neg (show ¬ kind = (0 : Int32) by rw [hk]; decide), if_neg (show ¬ kind = (1 : Int32) by rw [hk]; decide), if_neg (show ¬ kind = (2 : Int32) by rw [hk]; decide), if_neg (show ¬ kind = (3 : Int32) by rw [hk]; decide), if_neg (show ¬ kind = (4 : Int32) by rw [hk]; decide), if_pos hk]
        by_cases od : (yy - yy / (2 : Int32) * (2 : Int32)) = 1
        · rw [if_pos od, if_pos od]
          dsimp only
          rw [gt, put_cl mb h8.2]
          exact ⟨ch_tape (vI.put _ (by rw [hold.1]; exact (xor_one hold.2).2.1) (xor_one hold.2).2.2.2.1) (Fr.v (by decide) fv) (jv.v 9 _ (by decide)), hcm, hct⟩
        · rw [if_neg od, if_neg od]
          dsimp only
          rw [gt, put_cl mb h8.2]
          exact ⟨ch_tape (vI.put _ (by rw [hold.1]; exact (xor_one hold.2).2.2.1) (xor_one hold.2).2.2.2.2) (Fr.v (by decide) fv) (jv.v 9 _ (by decide)), hcm, hct⟩
      · rw [if_neg hs, if_neg (show ¬ kind = (0 : Int32) by rw [hk]; decide), if_neg (show ¬ kind = (1 : Int32) by rw [hk]; decide), if_neg (show ¬ kind = (2 : Int32) by rw [hk]; decide), if_neg (show ¬ kind = (3 : Int32) by rw [hk]; decide), if_neg (show ¬ kind = (4 : Int32) by rw [hk]; decide), if_pos hk]
        by_cases od : (yy - yy / (2 : Int32) * (2 : Int32)) = 1
        · rw [if_pos od, if_pos od]
          dsimp only
          rw [gt, put_cl mb h8.2]
          exact ⟨ch_tape (vI.put _ (by rw [hold.1]; exact (xor_one hold.2).2.1) (xor_one hold.2).2.2.2.1) (Fr.v (by decide) fv) (jv.v 9 _ (by decide)), hcm, hct⟩
        · rw [if_neg od, if_neg od]
          dsimp only
          rw [gt, put_cl mb h8.2]
          exact ⟨ch_tape (vI.put _ (by rw [hold.1]; exact (xor_one hold.2).2.2.1) (xor_one hold.2).2.2.2.2) (Fr.v (by decide) fv) (jv.v 9 _ (by decide)), hcm, hct⟩
  · obtain hk : kind = (6 : Int32) := Int32.toInt_inj.mp hk
    rw [if_neg (show ¬ kind = (4 : Int32) by rw [hk]; decide), if_pos hk]
    have hp := hS.1
    have hpb := hS.2.1
    dsimp only
    unfold r_X1_cross
    by_cases p0 : F 30 b = 0
    · rw [if_neg (show ¬ (0 : Int32) < pn by rw [hp, p0]; decide)]
      by_cases n0 : g 8 = 0
      · rw [if_pos n0, if_neg (show ¬ kind = (4 : Int32) by rw [hk]; decide), if_pos hk, if_pos p0]
        exact ⟨ch_self hI hJ, hcm, hct⟩
      · rw [if_neg n0, if_pos hk, if_pos p0]
        exact ⟨ch_self hI hJ, hcm, hct⟩
    · have pp := n_pos p0 hpb.1
      have z0 : (0 : Int32).toInt = 0 := rfl
      rw [if_pos (show (0 : Int32) < pn by rw [hp]; simp only [sg_lt]; omega)]
      dsimp only
      rw [v30, hp]
      have yr := rem_b (x := yy) (n := F 30 b) by_.1 pp
      have hg := sh_get hS (i := yy - yy / F 30 b * F 30 b) (by rw [hp]; exact yr)
      rw [copyTo_cl (M := 40) yr hpb.2 (by omega) (by rw [hg.1]; exact hg.2.1) hct]
      have esh : r_X4_shorten (xx - xx / ((g 8) + (1 : Int32)) * ((g 8) + (1 : Int32))) (g 8) tf = (xx - xx / ((g 8) + (1 : Int32)) * ((g 8) + (1 : Int32))) := by
        unfold r_X4_shorten
        rw [if_neg (show ¬ (xx - xx / ((g 8) + (1 : Int32)) * ((g 8) + (1 : Int32))) < 0 by simp only [sg_lt]; omega)]
        by_cases q : g 8 ≤ (xx - xx / ((g 8) + (1 : Int32)) * ((g 8) + (1 : Int32)))
        · rw [if_pos q]
          apply Int32.toInt_inj.mp
          simp only [sg_le] at q
          omega
        · rw [if_neg q]
      dsimp only
      rw [esh]
      obtain ⟨i, hi⟩ : ∃ i, i = (yy - yy / F 30 b * F 30 b).toInt.toNat := ⟨_, rfl⟩
      have eix : (yy - yy / F 30 b * F 30 b).toNatClampNeg = i := by rw [tN, hi]
      rw [eix] at hg ⊢
      rw [← hi] at hg ⊢
      have hi40 : i < 40 := by omega
      have mz := hg.rng
      rw [ap_cl (n := (xx - xx / ((g 8) + (1 : Int32)) * ((g 8) + (1 : Int32)))) (by omega) mz (by decide) xa.1]
      have e9 : ((40 : Int32) * bi + (yy - yy / F 30 b * F 30 b)).toInt = ((40 * b + i : Nat) : Int) := by
        rw [mad_i (k := 40) rfl (by omega) (by omega) (by omega), hb]
        omega
      have K : ∀ (x5 x6 x7 : Int32), CHQ g F (nI ((xx - xx / ((g 8) + (1 : Int32)) * ((g 8) + (1 : Int32))).toInt.toNat + min (min (24 : Int32).toInt.toNat (pz i).toInt.toNat - (xx - xx / ((g 8) + (1 : Int32)) * ((g 8) + (1 : Int32))).toInt.toNat) (24 - (xx - xx / ((g 8) + (1 : Int32)) * ((g 8) + (1 : Int32))).toInt.toNat))) (mov (xx - xx / ((g 8) + (1 : Int32)) * ((g 8) + (1 : Int32))).toInt.toNat (xx - xx / ((g 8) + (1 : Int32)) * ((g 8) + (1 : Int32))).toInt.toNat (min (min (24 : Int32).toInt.toNat (pz i).toInt.toNat - (xx - xx / ((g 8) + (1 : Int32)) * ((g 8) + (1 : Int32))).toInt.toNat) (24 - (xx - xx / ((g 8) + (1 : Int32)) * ((g 8) + (1 : Int32))).toInt.toNat)) (cpy (pz i).toInt.toNat (fun k => pf (24 * i + k)) ctf) tf) (g_X9_change_346 bi kind xx yy x5 x6 x7 (xx - xx / ((g 8) + (1 : Int32)) * ((g 8) + (1 : Int32))) ((40 : Int32) * bi + (yy - yy / F 30 b * F 30 b)) ((24 - (xx - xx / ((g 8) + (1 : Int32)) * ((g 8) + (1 : Int32))).toInt).toNat + 1) (upd v.1 10 (xx - xx / ((g 8) + (1 : Int32)) * ((g 8) + (1 : Int32)))) v.2 (xx - xx / ((g 8) + (1 : Int32)) * ((g 8) + (1 : Int32)))) := by
        intro x5 x6 x7
        have hz29 : 0 ≤ (v.2 29 (40 * b + i)).toInt ∧ (v.2 29 (40 * b + i)).toInt ≤ 24 := jv.q29 _
        rw [cr_g bi kind xx yy x5 x6 x7 _ _ e9 (by omega) _ _ _ _ (by omega) (by omega) hz29]
        obtain ⟨w1, w2, w3⟩ := hg
        rw [v29, v28]
        rw [v29] at hz29
        have e24 : (24 : Int32).toInt.toNat = 24 := rfl
        rw [e24, w1]
        refine ch_tape ⟨?_, ?_, fun k hk2 => ?_⟩ ?_ ?_
        · apply Int32.toInt_inj.mp
          rw [nI_toInt (by omega)]
          by_cases q : (F 29 (40 * b + i)).toInt.toNat ≤ (xx - xx / ((g 8) + (1 : Int32)) * ((g 8) + (1 : Int32))).toInt.toNat
          · rw [if_pos q, upd_s]
            omega
          · rw [if_neg q, upd_s]
            omega
        · by_cases q : (F 29 (40 * b + i)).toInt.toNat ≤ (xx - xx / ((g 8) + (1 : Int32)) * ((g 8) + (1 : Int32))).toInt.toNat
          · rw [if_pos q, upd_s]
            omega
          · rw [if_neg q, upd_s]
            exact hz29
        · rw [va_up_self]
          have hk3 : (k : Int) < max (xx - xx / ((g 8) + (1 : Int32)) * ((g 8) + (1 : Int32))).toInt (F 29 (40 * b + i)).toInt := by
            by_cases q : (F 29 (40 * b + i)).toInt.toNat ≤ (xx - xx / ((g 8) + (1 : Int32)) * ((g 8) + (1 : Int32))).toInt.toNat
            · rw [if_pos q, upd_s] at hk2
              omega
            · rw [if_neg q, upd_s] at hk2
              omega
          simp only [mov, cpyF, cpy]
          by_cases q : k < (xx - xx / ((g 8) + (1 : Int32)) * ((g 8) + (1 : Int32))).toInt.toNat
          · rw [if_neg (by omega), if_neg (by omega)]
            exact vI.2.2 k (by rw [v10]; omega)
          · rw [if_pos (by omega), if_pos (by omega), show (xx - xx / ((g 8) + (1 : Int32)) * ((g 8) + (1 : Int32))).toInt.toNat + (k - (xx - xx / ((g 8) + (1 : Int32)) * ((g 8) + (1 : Int32))).toInt.toNat) = k by omega, if_pos (by omega)]
            exact w3 k (by omega)
        · refine Fr.v (by decide) ?_
          by_cases q : (F 29 (40 * b + i)).toInt.toNat ≤ (xx - xx / ((g 8) + (1 : Int32)) * ((g 8) + (1 : Int32))).toInt.toNat
          · rw [if_pos q]
            exact Fr.u (by decide) fv
          · rw [if_neg q]
            exact Fr.u (by decide) (Fr.u (by decide) fv)
        · refine J.v ?_ 9 _ (by decide)
          by_cases q : (F 29 (40 * b + i)).toInt.toNat ≤ (xx - xx / ((g 8) + (1 : Int32)) * ((g 8) + (1 : Int32))).toInt.toNat
          · rw [if_pos q]
            exact jv.s10 _ (by omega)
          · rw [if_neg q]
            exact (jv.s10 _ (by omega)).s10 _ hz29
      by_cases n0 : g 8 = 0
      · rw [if_pos n0, if_neg (show ¬ kind = (4 : Int32) by rw [hk]; decide), if_pos hk, if_neg p0]
        by_cases hs : (0 : Int32) + ((1 : Int32) + (yy - yy / (4 : Int32) * (4 : Int32))) ≤ g 8
        · rw [if_pos hs]
          exact ⟨K _ _ _, hcm, mz.1⟩
        · rw [if_neg hs]
          exact ⟨K _ _ _, hcm, mz.1⟩
      · rw [if_neg n0, if_pos hk, if_neg p0]
        by_cases hs : (xx - xx / (g 8) * (g 8)) + ((1 : Int32) + (yy - yy / (4 : Int32) * (4 : Int32))) ≤ g 8
        · rw [if_pos hs]
          exact ⟨K _ _ _, hcm, mz.1⟩
        · rw [if_neg hs]
          exact ⟨K _ _ _, hcm, mz.1⟩
theorem t_change_0 {T : Int} {rf : Int32} {pn : Int32} {pf : Nat → Int32} {tn : Int32} {tf : Nat → Int32} {sn : Int32} {lg : Nat → Int32} {lF : Nat → Nat → Int32} {bcv : Nat → Int32} {btr : Int32} {bpn : Int32} {bpf : Nat → Int32} {bpz : Nat → Int32} {bff : Nat → Int32} {bfsn : Int32} {bfsf : Nat → Int32} {bfsz : Nat → Int32} {dcv : Nat → Int32} {dtr : Int32} {dpn : Int32} {dpf : Nat → Int32} {dpz : Nat → Int32} {dff : Nat → Int32} {dfsn : Int32} {dfsf : Nat → Int32} {dfsz : Nat → Int32} {cmn : Int32} {ctn : Int32} {kk : Int32} {knn : Int32} {ktn : Int32} {g : Nat → Int32} {F : Nat → Nat → Int32} {cmf ctf : Nat → Int32} (hR : RR T rf pn pf tn tf sn lg lF bcv btr bpn bpf bpz bff bfsn bfsf bfsz dcv dtr dpn dpf dpz dff dfsn dfsf dfsz cmn ctn kk knn ktn g F) (hT : T ≤ 1000000) (kind xx yy : Int32) : (r_X8_change_0 kind xx yy rf tn tf bcv btr bpn bpf bpz bff bfsn bfsf bfsz cmn cmf ctn ctf).1 = (r_X9_change (0 : Int32) kind xx yy g F).1 ∧ RR (T + 60) rf pn pf ((r_X8_change_0 kind xx yy rf tn tf bcv btr bpn bpf bpz bff bfsn bfsf bfsz cmn cmf ctn ctf).2.1) ((r_X8_change_0 kind xx yy rf tn tf bcv btr bpn bpf bpz bff bfsn bfsf bfsz cmn cmf ctn ctf).2.2.1) sn lg lF bcv btr bpn bpf bpz bff bfsn bfsf bfsz dcv dtr dpn dpf dpz dff dfsn dfsf dfsz ((r_X8_change_0 kind xx yy rf tn tf bcv btr bpn bpf bpz bff bfsn bfsf bfsz cmn cmf ctn ctf).2.2.2.1) ((r_X8_change_0 kind xx yy rf tn tf bcv btr bpn bpf bpz bff bfsn bfsf bfsz cmn cmf ctn ctf).2.2.2.2.2.1) kk knn ktn ((r_X9_change (0 : Int32) kind xx yy g F).2.1) ((r_X9_change (0 : Int32) kind xx yy g F).2.2) := by
  obtain ⟨r1, r2, r3, r4, r5, r6, r7, r8, r9⟩ := hR
  have hR0 : RR T rf pn pf tn tf sn lg lF bcv btr bpn bpf bpz bff bfsn bfsf bfsz dcv dtr dpn dpf dpz dff dfsn dfsf dfsz cmn ctn kk knn ktn g F := ⟨r1, r2, r3, r4, r5, r6, r7, r8, r9⟩
  have e6 : (r_X9_in kind 0 6 = 0) ↔ (kind < 0 ∨ (7 : Int32) ≤ kind) := by
    unfold r_X9_in
    have a6 : (6 : Int32).toInt = 6 := rfl
    have a7 : (7 : Int32).toInt = 7 := rfl
    by_cases c : kind < 0
    · rw [if_pos c]
      exact ⟨fun _ => Or.inl c, fun _ => rfl⟩
    · rw [if_neg c]
      by_cases d : (6 : Int32) < kind
      · rw [if_pos d]
        exact ⟨fun _ => Or.inr (by simp only [sg_le, sg_lt] at *; omega), fun _ => rfl⟩
      · rw [if_neg d]
        exact ⟨fun k => absurd k (by decide), fun k => by
          rcases k with k | k
          · exact absurd k c
          · exfalso
            simp only [sg_le, sg_lt] at *
            omega⟩
  have bad : ∀ (z : Int32) (y : Int32 × (Nat → Int32) × (Nat → Nat → Int32)), y = (-2, g, F) → (z = -2) → z = y.1 ∧ RR (T + 60) rf pn pf tn tf sn lg lF bcv btr bpn bpf bpz bff bfsn bfsf bfsz dcv dtr dpn dpf dpz dff dfsn dfsf dfsz cmn ctn kk knn ktn y.2.1 y.2.2 := by
    intro z y hy hz
    subst hy
    exact ⟨hz, hR0.le (by omega)⟩
  by_cases gk : r_X9_in kind 0 6 = 0
  · have hm : r_X9_change (0 : Int32) kind xx yy g F = (-2, g, F) := by
      unfold r_X9_change
      rw [if_neg (show ¬ r_X9_in (0 : Int32) 0 1 = 0 by decide), if_pos gk]
    have hc : r_X8_change_0 kind xx yy rf tn tf bcv btr bpn bpf bpz bff bfsn bfsf bfsz cmn cmf ctn ctf = (-2, tn, tf, cmn, cmf, ctn, ctf) := by
      unfold r_X8_change_0
      rcases e6.mp gk with k | k
      · rw [if_pos k]
      · by_cases k2 : kind < 0
        · rw [if_pos k2]
        · rw [if_neg k2, if_pos k]
    rw [hc, hm]
    exact ⟨rfl, hR0.le (by omega)⟩
  · have k1 : ¬ kind < 0 := fun k => gk (e6.mpr (Or.inl k))
    have k2 : ¬ (7 : Int32) ≤ kind := fun k => gk (e6.mpr (Or.inr k))
    by_cases gx : r_X9_in xx 0 1000000000 = 0
    · have hm : r_X9_change (0 : Int32) kind xx yy g F = (-2, g, F) := by
        unfold r_X9_change
        rw [if_neg (show ¬ r_X9_in (0 : Int32) 0 1 = 0 by decide), if_neg gk, if_pos gx]
      have hc : r_X8_change_0 kind xx yy rf tn tf bcv btr bpn bpf bpz bff bfsn bfsf bfsz cmn cmf ctn ctf = (-2, tn, tf, cmn, cmf, ctn, ctf) := by
        unfold r_X8_change_0
        rw [if_neg k1, if_neg k2, if_pos (show r_X8_isOfAChange xx = 0 from gx)]
      rw [hc, hm]
      exact ⟨rfl, hR0.le (by omega)⟩
    · by_cases gy : r_X9_in yy 0 1000000000 = 0
      · have hm : r_X9_change (0 : Int32) kind xx yy g F = (-2, g, F) := by
          unfold r_X9_change
          rw [if_neg (show ¬ r_X9_in (0 : Int32) 0 1 = 0 by decide), if_neg gk, if_neg gx, if_pos gy]
        have hc : r_X8_change_0 kind xx yy rf tn tf bcv btr bpn bpf bpz bff bfsn bfsf bfsz cmn cmf ctn ctf = (-2, tn, tf, cmn, cmf, ctn, ctf) := by
          unfold r_X8_change_0
          rw [if_neg k1, if_neg k2, if_neg (show ¬ r_X8_isOfAChange xx = 0 from gx), if_pos (show r_X8_isOfAChange yy = 0 from gy)]
        rw [hc, hm]
        exact ⟨rfl, hR0.le (by omega)⟩
      · have q := ap_sim (b := 0) (bi := (0 : Int32)) (cmf := cmf) (ctf := ctf) rfl (by decide) r9 r3 r5.2.1 r7.2.1 r7.2.2.1 gk gx gy
        unfold r_X8_change_0
        rw [if_neg k1, if_neg k2, if_neg (show ¬ r_X8_isOfAChange xx = 0 from gx), if_neg (show ¬ r_X8_isOfAChange yy = 0 from gy)]
        dsimp only
        generalize r_X1_apply kind xx yy cmn cmf ctn ctf tn tf bpn bpf bpz = w at q ⊢
        generalize r_X9_change (0 : Int32) kind xx yy g F = t at q ⊢
        exact hR0.chg q.1 q.2.1 q.2.2
theorem t_change_1 {T : Int} {rf : Int32} {pn : Int32} {pf : Nat → Int32} {tn : Int32} {tf : Nat → Int32} {sn : Int32} {lg : Nat → Int32} {lF : Nat → Nat → Int32} {bcv : Nat → Int32} {btr : Int32} {bpn : Int32} {bpf : Nat → Int32} {bpz : Nat → Int32} {bff : Nat → Int32} {bfsn : Int32} {bfsf : Nat → Int32} {bfsz : Nat → Int32} {dcv : Nat → Int32} {dtr : Int32} {dpn : Int32} {dpf : Nat → Int32} {dpz : Nat → Int32} {dff : Nat → Int32} {dfsn : Int32} {dfsf : Nat → Int32} {dfsz : Nat → Int32} {cmn : Int32} {ctn : Int32} {kk : Int32} {knn : Int32} {ktn : Int32} {g : Nat → Int32} {F : Nat → Nat → Int32} {cmf ctf : Nat → Int32} (hR : RR T rf pn pf tn tf sn lg lF bcv btr bpn bpf bpz bff bfsn bfsf bfsz dcv dtr dpn dpf dpz dff dfsn dfsf dfsz cmn ctn kk knn ktn g F) (hT : T ≤ 1000000) (kind xx yy : Int32) : (r_X8_change_1 kind xx yy rf tn tf dcv dtr dpn dpf dpz dff dfsn dfsf dfsz cmn cmf ctn ctf).1 = (r_X9_change (1 : Int32) kind xx yy g F).1 ∧ RR (T + 60) rf pn pf ((r_X8_change_1 kind xx yy rf tn tf dcv dtr dpn dpf dpz dff dfsn dfsf dfsz cmn cmf ctn ctf).2.1) ((r_X8_change_1 kind xx yy rf tn tf dcv dtr dpn dpf dpz dff dfsn dfsf dfsz cmn cmf ctn ctf).2.2.1) sn lg lF bcv btr bpn bpf bpz bff bfsn bfsf bfsz dcv dtr dpn dpf dpz dff dfsn dfsf dfsz ((r_X8_change_1 kind xx yy rf tn tf dcv dtr dpn dpf dpz dff dfsn dfsf dfsz cmn cmf ctn ctf).2.2.2.1) ((r_X8_change_1 kind xx yy rf tn tf dcv dtr dpn dpf dpz dff dfsn dfsf dfsz cmn cmf ctn ctf).2.2.2.2.2.1) kk knn ktn ((r_X9_change (1 : Int32) kind xx yy g F).2.1) ((r_X9_change (1 : Int32) kind xx yy g F).2.2) := by
  obtain ⟨r1, r2, r3, r4, r5, r6, r7, r8, r9⟩ := hR
  have hR0 : RR T rf pn pf tn tf sn lg lF bcv btr bpn bpf bpz bff bfsn bfsf bfsz dcv dtr dpn dpf dpz dff dfsn dfsf dfsz cmn ctn kk knn ktn g F := ⟨r1, r2, r3, r4, r5, r6, r7, r8, r9⟩
  have e6 : (r_X9_in kind 0 6 = 0) ↔ (kind < 0 ∨ (7 : Int32) ≤ kind) := by
    unfold r_X9_in
    have a6 : (6 : Int32).toInt = 6 := rfl
    have a7 : (7 : Int32).toInt = 7 := rfl
    by_cases c : kind < 0
    · rw [if_pos c]
      exact ⟨fun _ => Or.inl c, fun _ => rfl⟩
    · rw [if_neg c]
      by_cases d : (6 : Int32) < kind
      · rw [if_pos d]
        exact ⟨fun _ => Or.inr (by simp only [sg_le, sg_lt] at *; omega), fun _ => rfl⟩
      · rw [if_neg d]
        exact ⟨fun k => absurd k (by decide), fun k => by
          rcases k with k | k
          · exact absurd k c
          · exfalso
            simp only [sg_le, sg_lt] at *
            omega⟩
  have bad : ∀ (z : Int32) (y : Int32 × (Nat → Int32) × (Nat → Nat → Int32)), y = (-2, g, F) → (z = -2) → z = y.1 ∧ RR (T + 60) rf pn pf tn tf sn lg lF bcv btr bpn bpf bpz bff bfsn bfsf bfsz dcv dtr dpn dpf dpz dff dfsn dfsf dfsz cmn ctn kk knn ktn y.2.1 y.2.2 := by
    intro z y hy hz
    subst hy
    exact ⟨hz, hR0.le (by omega)⟩
  by_cases gk : r_X9_in kind 0 6 = 0
  · have hm : r_X9_change (1 : Int32) kind xx yy g F = (-2, g, F) := by
      unfold r_X9_change
      rw [if_neg (show ¬ r_X9_in (1 : Int32) 0 1 = 0 by decide), if_pos gk]
    have hc : r_X8_change_1 kind xx yy rf tn tf dcv dtr dpn dpf dpz dff dfsn dfsf dfsz cmn cmf ctn ctf = (-2, tn, tf, cmn, cmf, ctn, ctf) := by
      unfold r_X8_change_1
      rcases e6.mp gk with k | k
      · rw [if_pos k]
      · by_cases k2 : kind < 0
        · rw [if_pos k2]
        · rw [if_neg k2, if_pos k]
    rw [hc, hm]
    exact ⟨rfl, hR0.le (by omega)⟩
  · have k1 : ¬ kind < 0 := fun k => gk (e6.mpr (Or.inl k))
    have k2 : ¬ (7 : Int32) ≤ kind := fun k => gk (e6.mpr (Or.inr k))
    by_cases gx : r_X9_in xx 0 1000000000 = 0
    · have hm : r_X9_change (1 : Int32) kind xx yy g F = (-2, g, F) := by
        unfold r_X9_change
        rw [if_neg (show ¬ r_X9_in (1 : Int32) 0 1 = 0 by decide), if_neg gk, if_pos gx]
      have hc : r_X8_change_1 kind xx yy rf tn tf dcv dtr dpn dpf dpz dff dfsn dfsf dfsz cmn cmf ctn ctf = (-2, tn, tf, cmn, cmf, ctn, ctf) := by
        unfold r_X8_change_1
        rw [if_neg k1, if_neg k2, if_pos (show r_X8_isOfAChange xx = 0 from gx)]
      rw [hc, hm]
      exact ⟨rfl, hR0.le (by omega)⟩
    · by_cases gy : r_X9_in yy 0 1000000000 = 0
      · have hm : r_X9_change (1 : Int32) kind xx yy g F = (-2, g, F) := by
          unfold r_X9_change
          rw [if_neg (show ¬ r_X9_in (1 : Int32) 0 1 = 0 by decide), if_neg gk, if_neg gx, if_pos gy]
        have hc : r_X8_change_1 kind xx yy rf tn tf dcv dtr dpn dpf dpz dff dfsn dfsf dfsz cmn cmf ctn ctf = (-2, tn, tf, cmn, cmf, ctn, ctf) := by
          unfold r_X8_change_1
          rw [if_neg k1, if_neg k2, if_neg (show ¬ r_X8_isOfAChange xx = 0 from gx), if_pos (show r_X8_isOfAChange yy = 0 from gy)]
        rw [hc, hm]
        exact ⟨rfl, hR0.le (by omega)⟩
      · have q := ap_sim (b := 1) (bi := (1 : Int32)) (cmf := cmf) (ctf := ctf) rfl (by decide) r9 r3 r6.2.1 r7.2.1 r7.2.2.1 gk gx gy
        unfold r_X8_change_1
        rw [if_neg k1, if_neg k2, if_neg (show ¬ r_X8_isOfAChange xx = 0 from gx), if_neg (show ¬ r_X8_isOfAChange yy = 0 from gy)]
        dsimp only
        generalize r_X1_apply kind xx yy cmn cmf ctn ctf tn tf dpn dpf dpz = w at q ⊢
        generalize r_X9_change (1 : Int32) kind xx yy g F = t at q ⊢
        exact hR0.chg q.1 q.2.1 q.2.2
