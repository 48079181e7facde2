theorem sg_lt {x y : Int32} : x < y ↔ x.toInt < y.toInt := Int32.lt_iff_toInt_lt
theorem sg_le {x y : Int32} : x ≤ y ↔ x.toInt ≤ y.toInt := Int32.le_iff_toInt_le
theorem vp_mad {x y M : Int32} {k N : Nat} (hM : M.toInt = (k : Int)) (hk : k < 1000) (hx0 : 0 ≤ x.toInt) (hx1 : x.toInt < 100000) (hy0 : 0 ≤ y.toInt) (hy1 : y.toInt < 100000) (h : x.toInt * (k : Int) + y.toInt < N) : vp_in (x * M + y) N := by
  have hmb : x.toInt * (k : Int) ≤ 100000 * 1000 := by
    have h1 : x.toInt * (k : Int) ≤ 100000 * (k : Int) := Int.mul_le_mul_of_nonneg_right (by omega) (by omega)
    have h2 : (100000 : Int) * (k : Int) ≤ 100000 * 1000 := Int.mul_le_mul_of_nonneg_left (by omega) (by omega)
    omega
  have hm0 : 0 ≤ x.toInt * (k : Int) := Int.mul_nonneg hx0 (by omega)
  have e1 : (x * M).toInt = x.toInt * (k : Int) := by rw [fb_mulI (by rw [hM]; omega) (by rw [hM]; omega), hM]
  have e2 : (x * M + y).toInt = x.toInt * (k : Int) + y.toInt := by rw [fb_addI (by rw [e1]; omega) (by rw [e1]; omega), e1]
  rw [vp_in_iff, e2]
  omega
def r_X5_isPart (what : Int32) : Int32 := if what < (0 : Int32) then (0 : Int32) else if (4 : Int32) ≤ what then (0 : Int32) else (1 : Int32)
set_option maxHeartbeats 4000000 in
set_option maxRecDepth 100000 in
theorem c_X5_isPart (l : Launch) (D : va_G) (cyI cyZ : ClassId)  (what : Int32)  : CT l D cyI cyZ yX5_isPart cX5_isPart 1 (some .boolean) ({ frames := 0, cells := 0, slots := 0, locals := 0 }) [.int what] [] (some (.int (r_X5_isPart what))) [] := by
  refine ct_intro (by decide) (Nat.le_of_ble_eq_true rfl) ?_
  intro p e s m below meth c A ls cx hP hD hS hl
  obtain ⟨hx, hb, -⟩ := id cx
  refine lv_iload_n hx hb dX5_isPart_0 rfl (lv_at hl 0 rfl) ?_
  refine lv_if_lt (tgt := 13) hx hb dX5_isPart_1 (by decide) (fun c_1 => ?_) (fun c_1 => ?_)
  · skip
    refine lv_iconst (v := (0 : Int32)) hx hb dX5_isPart_13 (by decide) ?_
    rw [show r_X5_isPart what = (0 : Int32) from if_pos c_1]
    exact ct_zret (v := (0 : Int32)) cx hP hD hS rfl dX5_isPart_14
  · skip
    refine lv_iload_n hx hb dX5_isPart_4 rfl (lv_at hl 0 rfl) ?_
    refine lv_iconst (v := (4 : Int32)) hx hb dX5_isPart_5 (by decide) ?_
    refine lv_icmp_ge (tgt := 13) hx hb dX5_isPart_6 (by decide) (fun c_2 => ?_) (fun c_2 => ?_)
    · skip
      refine lv_iconst (v := (0 : Int32)) hx hb dX5_isPart_13 (by decide) ?_
      rw [show r_X5_isPart what = (0 : Int32) from (if_neg c_1).trans (if_pos c_2)]
      exact ct_zret (v := (0 : Int32)) cx hP hD hS rfl dX5_isPart_14
    · skip
      refine lv_iconst (v := (1 : Int32)) hx hb dX5_isPart_9 (by decide) ?_
      refine lv_goto (tgt := 14) hx hb dX5_isPart_10 (by decide) ?_
      rw [show r_X5_isPart what = (1 : Int32) from (if_neg c_1).trans (if_neg c_2)]
      exact ct_zret (v := (1 : Int32)) cx hP hD hS rfl dX5_isPart_14
def r_X5_isWithin (num : Int32) (most : Int32) : Int32 := if num < (0 : Int32) then (0 : Int32) else if most < num then (0 : Int32) else (1 : Int32)
set_option maxHeartbeats 4000000 in
set_option maxRecDepth 100000 in
theorem c_X5_isWithin (l : Launch) (D : va_G) (cyI cyZ : ClassId)  (num : Int32) (most : Int32)  : CT l D cyI cyZ yX5_isWithin cX5_isWithin 2 (some .boolean) ({ frames := 0, cells := 0, slots := 0, locals := 0 }) [.int num, .int most] [] (some (.int (r_X5_isWithin num most))) [] := by
  refine ct_intro (by decide) (Nat.le_of_ble_eq_true rfl) ?_
  intro p e s m below meth c A ls cx hP hD hS hl
  obtain ⟨hx, hb, -⟩ := id cx
  refine lv_iload_n hx hb dX5_isWithin_0 rfl (lv_at hl 0 rfl) ?_
  refine lv_if_lt (tgt := 13) hx hb dX5_isWithin_1 (by decide) (fun c_1 => ?_) (fun c_1 => ?_)
  · skip
    refine lv_iconst (v := (0 : Int32)) hx hb dX5_isWithin_13 (by decide) ?_
    rw [show r_X5_isWithin num most = (0 : Int32) from if_pos c_1]
    exact ct_zret (v := (0 : Int32)) cx hP hD hS rfl dX5_isWithin_14
  · skip
    refine lv_iload_n hx hb dX5_isWithin_4 rfl (lv_at hl 0 rfl) ?_
    refine lv_iload_n hx hb dX5_isWithin_5 rfl (lv_at hl 1 rfl) ?_
    refine lv_icmp_gt (tgt := 13) hx hb dX5_isWithin_6 (by decide) (fun c_2 => ?_) (fun c_2 => ?_)
    · skip
      refine lv_iconst (v := (0 : Int32)) hx hb dX5_isWithin_13 (by decide) ?_
      rw [show r_X5_isWithin num most = (0 : Int32) from (if_neg c_1).trans (if_pos c_2)]
      exact ct_zret (v := (0 : Int32)) cx hP hD hS rfl dX5_isWithin_14
    · skip
      refine lv_iconst (v := (1 : Int32)) hx hb dX5_isWithin_9 (by decide) ?_
      refine lv_goto (tgt := 14) hx hb dX5_isWithin_10 (by decide) ?_
      rw [show r_X5_isWithin num most = (1 : Int32) from (if_neg c_1).trans (if_neg c_2)]
      exact ct_zret (v := (1 : Int32)) cx hP hD hS rfl dX5_isWithin_14
def r_X5_namesA (op : Int32) : Int32 := if op ≤ (12 : Int32) then (1 : Int32) else if op = (16 : Int32) then (1 : Int32) else (0 : Int32)
set_option maxHeartbeats 4000000 in
set_option maxRecDepth 100000 in
theorem c_X5_namesA (l : Launch) (D : va_G) (cyI cyZ : ClassId)  (op : Int32)  : CT l D cyI cyZ yX5_namesA cX5_namesA 1 (some .boolean) ({ frames := 0, cells := 0, slots := 0, locals := 0 }) [.int op] [] (some (.int (r_X5_namesA op))) [] := by
  refine ct_intro (by decide) (Nat.le_of_ble_eq_true rfl) ?_
  intro p e s m below meth c A ls cx hP hD hS hl
  obtain ⟨hx, hb, -⟩ := id cx
  refine lv_iload_n hx hb dX5_namesA_0 rfl (lv_at hl 0 rfl) ?_
  refine lv_bipush (v := (12 : Int32)) hx hb dX5_namesA_1 (by decide) ?_
  refine lv_icmp_le (tgt := 12) hx hb dX5_namesA_3 (by decide) (fun c_1 => ?_) (fun c_1 => ?_)
  · skip
    refine lv_iconst (v := (1 : Int32)) hx hb dX5_namesA_12 (by decide) ?_
    refine lv_goto (tgt := 17) hx hb dX5_namesA_13 (by decide) ?_
    rw [show r_X5_namesA op = (1 : Int32) from if_pos c_1]
    exact ct_zret (v := (1 : Int32)) cx hP hD hS rfl dX5_namesA_17
  · skip
    refine lv_iload_n hx hb dX5_namesA_6 rfl (lv_at hl 0 rfl) ?_
    refine lv_bipush (v := (16 : Int32)) hx hb dX5_namesA_7 (by decide) ?_
    refine lv_icmp_ne (tgt := 16) hx hb dX5_namesA_9 (by decide) (fun c_2 => ?_) (fun c_2 => ?_)
    · skip
      refine lv_iconst (v := (0 : Int32)) hx hb dX5_namesA_16 (by decide) ?_
      rw [show r_X5_namesA op = (0 : Int32) from (if_neg c_1).trans (if_neg c_2)]
      exact ct_zret (v := (0 : Int32)) cx hP hD hS rfl dX5_namesA_17
    · skip
      refine lv_iconst (v := (1 : Int32)) hx hb dX5_namesA_12 (by decide) ?_
      refine lv_goto (tgt := 17) hx hb dX5_namesA_13 (by decide) ?_
      rw [show r_X5_namesA op = (1 : Int32) from (if_neg c_1).trans (if_pos c_2)]
      exact ct_zret (v := (1 : Int32)) cx hP hD hS rfl dX5_namesA_17
def r_X5_namesB (op : Int32) : Int32 := if op < (1 : Int32) then (0 : Int32) else if (12 : Int32) < op then (0 : Int32) else if op = (6 : Int32) then (0 : Int32) else if op = (8 : Int32) then (0 : Int32) else (1 : Int32)
set_option maxHeartbeats 4000000 in
set_option maxRecDepth 100000 in
theorem c_X5_namesB (l : Launch) (D : va_G) (cyI cyZ : ClassId)  (op : Int32)  : CT l D cyI cyZ yX5_namesB cX5_namesB 1 (some .boolean) ({ frames := 0, cells := 0, slots := 0, locals := 0 }) [.int op] [] (some (.int (r_X5_namesB op))) [] := by
  refine ct_intro (by decide) (Nat.le_of_ble_eq_true rfl) ?_
  intro p e s m below meth c A ls cx hP hD hS hl
  obtain ⟨hx, hb, -⟩ := id cx
  refine lv_iload_n hx hb dX5_namesB_0 rfl (lv_at hl 0 rfl) ?_
  refine lv_iconst (v := (1 : Int32)) hx hb dX5_namesB_1 (by decide) ?_
  refine lv_icmp_lt (tgt := 27) hx hb dX5_namesB_2 (by decide) (fun c_1 => ?_) (fun c_1 => ?_)
  · skip
    refine lv_iconst (v := (0 : Int32)) hx hb dX5_namesB_27 (by decide) ?_
    rw [show r_X5_namesB op = (0 : Int32) from if_pos c_1]
    exact ct_zret (v := (0 : Int32)) cx hP hD hS rfl dX5_namesB_28
  · skip
    refine lv_iload_n hx hb dX5_namesB_5 rfl (lv_at hl 0 rfl) ?_
    refine lv_bipush (v := (12 : Int32)) hx hb dX5_namesB_6 (by decide) ?_
    refine lv_icmp_gt (tgt := 27) hx hb dX5_namesB_8 (by decide) (fun c_2 => ?_) (fun c_2 => ?_)
    · skip
      refine lv_iconst (v := (0 : Int32)) hx hb dX5_namesB_27 (by decide) ?_
      rw [show r_X5_namesB op = (0 : Int32) from (if_neg c_1).trans (if_pos c_2)]
      exact ct_zret (v := (0 : Int32)) cx hP hD hS rfl dX5_namesB_28
    · skip
      refine lv_iload_n hx hb dX5_namesB_11 rfl (lv_at hl 0 rfl) ?_
      refine lv_bipush (v := (6 : Int32)) hx hb dX5_namesB_12 (by decide) ?_
      refine lv_icmp_eq (tgt := 27) hx hb dX5_namesB_14 (by decide) (fun c_3 => ?_) (fun c_3 => ?_)
      · skip
        refine lv_iconst (v := (0 : Int32)) hx hb dX5_namesB_27 (by decide) ?_
        rw [show r_X5_namesB op = (0 : Int32) from (if_neg c_1).trans ((if_neg c_2).trans (if_pos c_3))]
        exact ct_zret (v := (0 : Int32)) cx hP hD hS rfl dX5_namesB_28
      · skip
        refine lv_iload_n hx hb dX5_namesB_17 rfl (lv_at hl 0 rfl) ?_
        refine lv_bipush (v := (8 : Int32)) hx hb dX5_namesB_18 (by decide) ?_
        refine lv_icmp_eq (tgt := 27) hx hb dX5_namesB_20 (by decide) (fun c_4 => ?_) (fun c_4 => ?_)
        · skip
          refine lv_iconst (v := (0 : Int32)) hx hb dX5_namesB_27 (by decide) ?_
          rw [show r_X5_namesB op = (0 : Int32) from (if_neg c_1).trans ((if_neg c_2).trans ((if_neg c_3).trans (if_pos c_4)))]
          exact ct_zret (v := (0 : Int32)) cx hP hD hS rfl dX5_namesB_28
        · skip
          refine lv_iconst (v := (1 : Int32)) hx hb dX5_namesB_23 (by decide) ?_
          refine lv_goto (tgt := 28) hx hb dX5_namesB_24 (by decide) ?_
          rw [show r_X5_namesB op = (1 : Int32) from (if_neg c_1).trans ((if_neg c_2).trans ((if_neg c_3).trans (if_neg c_4)))]
          exact ct_zret (v := (1 : Int32)) cx hP hD hS rfl dX5_namesB_28
def r_X5_namesC (op : Int32) : Int32 := if op < (11 : Int32) then (0 : Int32) else if (14 : Int32) < op then (0 : Int32) else (1 : Int32)
set_option maxHeartbeats 4000000 in
set_option maxRecDepth 100000 in
theorem c_X5_namesC (l : Launch) (D : va_G) (cyI cyZ : ClassId)  (op : Int32)  : CT l D cyI cyZ yX5_namesC cX5_namesC 1 (some .boolean) ({ frames := 0, cells := 0, slots := 0, locals := 0 }) [.int op] [] (some (.int (r_X5_namesC op))) [] := by
  refine ct_intro (by decide) (Nat.le_of_ble_eq_true rfl) ?_
  intro p e s m below meth c A ls cx hP hD hS hl
  obtain ⟨hx, hb, -⟩ := id cx
  refine lv_iload_n hx hb dX5_namesC_0 rfl (lv_at hl 0 rfl) ?_
  refine lv_bipush (v := (11 : Int32)) hx hb dX5_namesC_1 (by decide) ?_
  refine lv_icmp_lt (tgt := 16) hx hb dX5_namesC_3 (by decide) (fun c_1 => ?_) (fun c_1 => ?_)
  · skip
    refine lv_iconst (v := (0 : Int32)) hx hb dX5_namesC_16 (by decide) ?_
    rw [show r_X5_namesC op = (0 : Int32) from if_pos c_1]
    exact ct_zret (v := (0 : Int32)) cx hP hD hS rfl dX5_namesC_17
  · skip
    refine lv_iload_n hx hb dX5_namesC_6 rfl (lv_at hl 0 rfl) ?_
    refine lv_bipush (v := (14 : Int32)) hx hb dX5_namesC_7 (by decide) ?_
    refine lv_icmp_gt (tgt := 16) hx hb dX5_namesC_9 (by decide) (fun c_2 => ?_) (fun c_2 => ?_)
    · skip
      refine lv_iconst (v := (0 : Int32)) hx hb dX5_namesC_16 (by decide) ?_
      rw [show r_X5_namesC op = (0 : Int32) from (if_neg c_1).trans (if_pos c_2)]
      exact ct_zret (v := (0 : Int32)) cx hP hD hS rfl dX5_namesC_17
    · skip
      refine lv_iconst (v := (1 : Int32)) hx hb dX5_namesC_12 (by decide) ?_
      refine lv_goto (tgt := 17) hx hb dX5_namesC_13 (by decide) ?_
      rw [show r_X5_namesC op = (1 : Int32) from (if_neg c_1).trans (if_neg c_2)]
      exact ct_zret (v := (1 : Int32)) cx hP hD hS rfl dX5_namesC_17
def r_X5_fits (op : Int32) (va : Int32) (vb : Int32) (vc : Int32) : Int32 := if (r_X5_isWithin op (17 : Int32)) = (0 : Int32) then (0 : Int32) else if (r_X5_namesA op) = (0 : Int32) then (if (r_X5_isWithin va (0 : Int32)) = (0 : Int32) then (0 : Int32) else if op = (0 : Int32) then (if (r_X5_namesC op) = (0 : Int32) then (if (r_X5_isWithin vc (0 : Int32)) = (0 : Int32) then (0 : Int32) else (1 : Int32)) else if (r_X5_isWithin vc (79 : Int32)) = (0 : Int32) then (0 : Int32) else (1 : Int32)) else if (r_X5_namesB op) = (0 : Int32) then (if (r_X5_isWithin vb (0 : Int32)) = (0 : Int32) then (0 : Int32) else if (r_X5_namesC op) = (0 : Int32) then (if (r_X5_isWithin vc (0 : Int32)) = (0 : Int32) then (0 : Int32) else (1 : Int32)) else if (r_X5_isWithin vc (79 : Int32)) = (0 : Int32) then (0 : Int32) else (1 : Int32)) else if (r_X5_isWithin vb (7 : Int32)) = (0 : Int32) then (0 : Int32) else if (r_X5_namesC op) = (0 : Int32) then (if (r_X5_isWithin vc (0 : Int32)) = (0 : Int32) then (0 : Int32) else (1 : Int32)) else if (r_X5_isWithin vc (79 : Int32)) = (0 : Int32) then (0 : Int32) else (1 : Int32)) else if (r_X5_isWithin va (7 : Int32)) = (0 : Int32) then (0 : Int32) else if op = (0 : Int32) then (if (r_X5_namesC op) = (0 : Int32) then (if (r_X5_isWithin vc (0 : Int32)) = (0 : Int32) then (0 : Int32) else (1 : Int32)) else if (r_X5_isWithin vc (79 : Int32)) = (0 : Int32) then (0 : Int32) else (1 : Int32)) else if (r_X5_namesB op) = (0 : Int32) then (if (r_X5_isWithin vb (0 : Int32)) = (0 : Int32) then (0 : Int32) else if (r_X5_namesC op) = (0 : Int32) then (if (r_X5_isWithin vc (0 : Int32)) = (0 : Int32) then (0 : Int32) else (1 : Int32)) else if (r_X5_isWithin vc (79 : Int32)) = (0 : Int32) then (0 : Int32) else (1 : Int32)) else if (r_X5_isWithin vb (7 : Int32)) = (0 : Int32) then (0 : Int32) else if (r_X5_namesC op) = (0 : Int32) then (if (r_X5_isWithin vc (0 : Int32)) = (0 : Int32) then (0 : Int32) else (1 : Int32)) else if (r_X5_isWithin vc (79 : Int32)) = (0 : Int32) then (0 : Int32) else (1 : Int32)
set_option maxHeartbeats 4000000 in
set_option maxRecDepth 100000 in
theorem c_X5_fits (l : Launch) (D : va_G) (cyI cyZ : ClassId)  (op : Int32) (va : Int32) (vb : Int32) (vc : Int32)  : CT l D cyI cyZ yX5_fits cX5_fits 4 (some .boolean) ({ frames := 1, cells := 0, slots := 0, locals := 21 }) [.int op, .int va, .int vb, .int vc] [] (some (.int (r_X5_fits op va vb vc))) [] := by
  refine ct_intro (by decide) (Nat.le_of_ble_eq_true rfl) ?_
  intro p e s m below meth c A ls cx hP hD hS hl
  obtain ⟨hx, hb, -⟩ := id cx
  refine lv_iload_n hx hb dX5_fits_0 rfl (lv_at hl 0 rfl) ?_
  refine lv_bipush (v := (17 : Int32)) hx hb dX5_fits_1 (by decide) ?_
  refine ct_callS (As := [.int op, .int (17 : Int32)]) (rest := []) (st1 := [.int (r_X5_isWithin op (17 : Int32))]) (V3 := []) cx (c_X5_isWithin l D cyI cyZ op (17 : Int32)) hP hD hS [] [] ⟨rfl, rfl, rfl⟩ mm_345 mm_346 mm_241 mm_340 dd_X5_isWithin rfl hl.1 rfl dX5_fits_3 rfl (fun H locs hP hD hS => ?_)
  refine lv_if_eq (tgt := 77) hx hb dX5_fits_6 (by decide) (fun c_1 => ?_) (fun c_1 => ?_)
  · skip
    refine lv_iconst (v := (0 : Int32)) hx hb dX5_fits_77 (by decide) ?_
    rw [show r_X5_fits op va vb vc = (0 : Int32) from if_pos c_1]
    exact ct_zret (v := (0 : Int32)) cx hP hD hS rfl dX5_fits_78
  · skip
    refine lv_iload_n hx hb dX5_fits_9 rfl (lv_at hl 1 rfl) ?_
    refine lv_iload_n hx hb dX5_fits_10 rfl (lv_at hl 0 rfl) ?_
    refine ct_callS (As := [.int op]) (rest := [.int va]) (st1 := [.int (r_X5_namesA op), .int va]) (V3 := []) cx (c_X5_namesA l D cyI cyZ op) hP hD hS [] [] ⟨rfl, rfl, rfl⟩ mm_347 mm_348 mm_241 mm_341 dd_X5_namesA rfl hl.1 rfl dX5_fits_11 rfl (fun H locs hP hD hS => ?_)
    refine lv_if_eq (tgt := 22) hx hb dX5_fits_14 (by decide) (fun c_2 => ?_) (fun c_2 => ?_)
    · skip
      refine lv_iconst (v := (0 : Int32)) hx hb dX5_fits_22 (by decide) ?_
      refine ct_callS (As := [.int va, .int (0 : Int32)]) (rest := []) (st1 := [.int (r_X5_isWithin va (0 : Int32))]) (V3 := []) cx (c_X5_isWithin l D cyI cyZ va (0 : Int32)) hP hD hS [] [] ⟨rfl, rfl, rfl⟩ mm_345 mm_346 mm_241 mm_340 dd_X5_isWithin rfl hl.1 rfl dX5_fits_23 rfl (fun H locs hP hD hS => ?_)
      refine lv_if_eq (tgt := 77) hx hb dX5_fits_26 (by decide) (fun c_3 => ?_) (fun c_3 => ?_)
      · skip
        refine lv_iconst (v := (0 : Int32)) hx hb dX5_fits_77 (by decide) ?_
        rw [show r_X5_fits op va vb vc = (0 : Int32) from (if_neg c_1).trans ((if_pos c_2).trans (if_pos c_3))]
        exact ct_zret (v := (0 : Int32)) cx hP hD hS rfl dX5_fits_78
      · skip
        refine lv_iload_n hx hb dX5_fits_29 rfl (lv_at hl 0 rfl) ?_
        refine lv_if_eq (tgt := 53) hx hb dX5_fits_30 (by decide) (fun c_4 => ?_) (fun c_4 => ?_)
        · skip
          refine lv_iload_n hx hb dX5_fits_53 rfl (lv_at hl 3 rfl) ?_
          refine lv_iload_n hx hb dX5_fits_54 rfl (lv_at hl 0 rfl) ?_
          refine ct_callS (As := [.int op]) (rest := [.int vc]) (st1 := [.int (r_X5_namesC op), .int vc]) (V3 := []) cx (c_X5_namesC l D cyI cyZ op) hP hD hS [] [] ⟨rfl, rfl, rfl⟩ mm_351 mm_352 mm_241 mm_343 dd_X5_namesC rfl hl.1 rfl dX5_fits_55 rfl (fun H locs hP hD hS => ?_)
          refine lv_if_eq (tgt := 66) hx hb dX5_fits_58 (by decide) (fun c_5 => ?_) (fun c_5 => ?_)
          · skip
            refine lv_iconst (v := (0 : Int32)) hx hb dX5_fits_66 (by decide) ?_
            refine ct_callS (As := [.int vc, .int (0 : Int32)]) (rest := []) (st1 := [.int (r_X5_isWithin vc (0 : Int32))]) (V3 := []) cx (c_X5_isWithin l D cyI cyZ vc (0 : Int32)) hP hD hS [] [] ⟨rfl, rfl, rfl⟩ mm_345 mm_346 mm_241 mm_340 dd_X5_isWithin rfl hl.1 rfl dX5_fits_67 rfl (fun H locs hP hD hS => ?_)
            refine lv_if_eq (tgt := 77) hx hb dX5_fits_70 (by decide) (fun c_6 => ?_) (fun c_6 => ?_)
            · skip
              refine lv_iconst (v := (0 : Int32)) hx hb dX5_fits_77 (by decide) ?_
              rw [show r_X5_fits op va vb vc = (0 : Int32) from (if_neg c_1).trans ((if_pos c_2).trans ((if_neg c_3).trans ((if_pos c_4).trans ((if_pos c_5).trans (if_pos c_6)))))]
              exact ct_zret (v := (0 : Int32)) cx hP hD hS rfl dX5_fits_78
            · skip
              refine lv_iconst (v := (1 : Int32)) hx hb dX5_fits_73 (by decide) ?_
              refine lv_goto (tgt := 78) hx hb dX5_fits_74 (by decide) ?_
              rw [show r_X5_fits op va vb vc = (1 : Int32) from (if_neg c_1).trans ((if_pos c_2).trans ((if_neg c_3).trans ((if_pos c_4).trans ((if_pos c_5).trans (if_neg c_6)))))]
              exact ct_zret (v := (1 : Int32)) cx hP hD hS rfl dX5_fits_78
          · skip
            refine lv_bipush (v := (79 : Int32)) hx hb dX5_fits_61 (by decide) ?_
            refine lv_goto (tgt := 67) hx hb dX5_fits_63 (by decide) ?_
            refine ct_callS (As := [.int vc, .int (79 : Int32)]) (rest := []) (st1 := [.int (r_X5_isWithin vc (79 : Int32))]) (V3 := []) cx (c_X5_isWithin l D cyI cyZ vc (79 : Int32)) hP hD hS [] [] ⟨rfl, rfl, rfl⟩ mm_345 mm_346 mm_241 mm_340 dd_X5_isWithin rfl hl.1 rfl dX5_fits_67 rfl (fun H locs hP hD hS => ?_)
            refine lv_if_eq (tgt := 77) hx hb dX5_fits_70 (by decide) (fun c_7 => ?_) (fun c_7 => ?_)
            · skip
              refine lv_iconst (v := (0 : Int32)) hx hb dX5_fits_77 (by decide) ?_
              rw [show r_X5_fits op va vb vc = (0 : Int32) from (if_neg c_1).trans ((if_pos c_2).trans ((if_neg c_3).trans ((if_pos c_4).trans ((if_neg c_5).trans (if_pos c_7)))))]
              exact ct_zret (v := (0 : Int32)) cx hP hD hS rfl dX5_fits_78
            · skip
              refine lv_iconst (v := (1 : Int32)) hx hb dX5_fits_73 (by decide) ?_
              refine lv_goto (tgt := 78) hx hb dX5_fits_74 (by decide) ?_
              rw [show r_X5_fits op va vb vc = (1 : Int32) from (if_neg c_1).trans ((if_pos c_2).trans ((if_neg c_3).trans ((if_pos c_4).trans ((if_neg c_5).trans (if_neg c_7)))))]
              exact ct_zret (v := (1 : Int32)) cx hP hD hS rfl dX5_fits_78
        · skip
          refine lv_iload_n hx hb dX5_fits_33 rfl (lv_at hl 2 rfl) ?_
          refine lv_iload_n hx hb dX5_fits_34 rfl (lv_at hl 0 rfl) ?_
          refine ct_callS (As := [.int op]) (rest := [.int vb]) (st1 := [.int (r_X5_namesB op), .int vb]) (V3 := []) cx (c_X5_namesB l D cyI cyZ op) hP hD hS [] [] ⟨rfl, rfl, rfl⟩ mm_349 mm_350 mm_241 mm_342 dd_X5_namesB rfl hl.1 rfl dX5_fits_35 rfl (fun H locs hP hD hS => ?_)
          refine lv_if_eq (tgt := 46) hx hb dX5_fits_38 (by decide) (fun c_8 => ?_) (fun c_8 => ?_)
          · skip
            refine lv_iconst (v := (0 : Int32)) hx hb dX5_fits_46 (by decide) ?_
            refine ct_callS (As := [.int vb, .int (0 : Int32)]) (rest := []) (st1 := [.int (r_X5_isWithin vb (0 : Int32))]) (V3 := []) cx (c_X5_isWithin l D cyI cyZ vb (0 : Int32)) hP hD hS [] [] ⟨rfl, rfl, rfl⟩ mm_345 mm_346 mm_241 mm_340 dd_X5_isWithin rfl hl.1 rfl dX5_fits_47 rfl (fun H locs hP hD hS => ?_)
            refine lv_if_eq (tgt := 77) hx hb dX5_fits_50 (by decide) (fun c_9 => ?_) (fun c_9 => ?_)
            · skip
              refine lv_iconst (v := (0 : Int32)) hx hb dX5_fits_77 (by decide) ?_
              rw [show r_X5_fits op va vb vc = (0 : Int32) from (if_neg c_1).trans ((if_pos c_2).trans ((if_neg c_3).trans ((if_neg c_4).trans ((if_pos c_8).trans (if_pos c_9)))))]
              exact ct_zret (v := (0 : Int32)) cx hP hD hS rfl dX5_fits_78
            · skip
              refine lv_iload_n hx hb dX5_fits_53 rfl (lv_at hl 3 rfl) ?_
              refine lv_iload_n hx hb dX5_fits_54 rfl (lv_at hl 0 rfl) ?_
              refine ct_callS (As := [.int op]) (rest := [.int vc]) (st1 := [.int (r_X5_namesC op), .int vc]) (V3 := []) cx (c_X5_namesC l D cyI cyZ op) hP hD hS [] [] ⟨rfl, rfl, rfl⟩ mm_351 mm_352 mm_241 mm_343 dd_X5_namesC rfl hl.1 rfl dX5_fits_55 rfl (fun H locs hP hD hS => ?_)
              refine lv_if_eq (tgt := 66) hx hb dX5_fits_58 (by decide) (fun c_10 => ?_) (fun c_10 => ?_)
              · skip
                refine lv_iconst (v := (0 : Int32)) hx hb dX5_fits_66 (by decide) ?_
                refine ct_callS (As := [.int vc, .int (0 : Int32)]) (rest := []) (st1 := [.int (r_X5_isWithin vc (0 : Int32))]) (V3 := []) cx (c_X5_isWithin l D cyI cyZ vc (0 : Int32)) hP hD hS [] [] ⟨rfl, rfl, rfl⟩ mm_345 mm_346 mm_241 mm_340 dd_X5_isWithin rfl hl.1 rfl dX5_fits_67 rfl (fun H locs hP hD hS => ?_)
                refine lv_if_eq (tgt := 77) hx hb dX5_fits_70 (by decide) (fun c_11 => ?_) (fun c_11 => ?_)
                · skip
                  refine lv_iconst (v := (0 : Int32)) hx hb dX5_fits_77 (by decide) ?_
                  rw [show r_X5_fits op va vb vc = (0 : Int32) from (if_neg c_1).trans ((if_pos c_2).trans ((if_neg c_3).trans ((if_neg c_4).trans ((if_pos c_8).trans ((if_neg c_9).trans ((if_pos c_10).trans (if_pos c_11)))))))]
                  exact ct_zret (v := (0 : Int32)) cx hP hD hS rfl dX5_fits_78
                · skip
                  refine lv_iconst (v := (1 : Int32)) hx hb dX5_fits_73 (by decide) ?_
                  refine lv_goto (tgt := 78) hx hb dX5_fits_74 (by decide) ?_
                  rw [show r_X5_fits op va vb vc = (1 : Int32) from (if_neg c_1).trans ((if_pos c_2).trans ((if_neg c_3).trans ((if_neg c_4).trans ((if_pos c_8).trans ((if_neg c_9).trans ((if_pos c_10).trans (if_neg c_11)))))))]
                  exact ct_zret (v := (1 : Int32)) cx hP hD hS rfl dX5_fits_78
              · skip
                refine lv_bipush (v := (79 : Int32)) hx hb dX5_fits_61 (by decide) ?_
                refine lv_goto (tgt := 67) hx hb dX5_fits_63 (by decide) ?_
                refine ct_callS (As := [.int vc, .int (79 : Int32)]) (rest := []) (st1 := [.int (r_X5_isWithin vc (79 : Int32))]) (V3 := []) cx (c_X5_isWithin l D cyI cyZ vc (79 : Int32)) hP hD hS [] [] ⟨rfl, rfl, rfl⟩ mm_345 mm_346 mm_241 mm_340 dd_X5_isWithin rfl hl.1 rfl dX5_fits_67 rfl (fun H locs hP hD hS => ?_)
                refine lv_if_eq (tgt := 77) hx hb dX5_fits_70 (by decide) (fun c_12 => ?_) (fun c_12 => ?_)
                · skip
                  refine lv_iconst (v := (0 : Int32)) hx hb dX5_fits_77 (by decide) ?_
                  rw [show r_X5_fits op va vb vc = (0 : Int32) from (if_neg c_1).trans ((if_pos c_2).trans ((if_neg c_3).trans ((if_neg c_4).trans ((if_pos c_8).trans ((if_neg c_9).trans ((if_neg c_10).trans (if_pos c_12)))))))]
                  exact ct_zret (v := (0 : Int32)) cx hP hD hS rfl dX5_fits_78
                · skip
                  refine lv_iconst (v := (1 : Int32)) hx hb dX5_fits_73 (by decide) ?_
                  refine lv_goto (tgt := 78) hx hb dX5_fits_74 (by decide) ?_
                  rw [show r_X5_fits op va vb vc = (1 : Int32) from (if_neg c_1).trans ((if_pos c_2).trans ((if_neg c_3).trans ((if_neg c_4).trans ((if_pos c_8).trans ((if_neg c_9).trans ((if_neg c_10).trans (if_neg c_12)))))))]
                  exact ct_zret (v := (1 : Int32)) cx hP hD hS rfl dX5_fits_78
          · skip
            refine lv_bipush (v := (7 : Int32)) hx hb dX5_fits_41 (by decide) ?_
            refine lv_goto (tgt := 47) hx hb dX5_fits_43 (by decide) ?_
            refine ct_callS (As := [.int vb, .int (7 : Int32)]) (rest := []) (st1 := [.int (r_X5_isWithin vb (7 : Int32))]) (V3 := []) cx (c_X5_isWithin l D cyI cyZ vb (7 : Int32)) hP hD hS [] [] ⟨rfl, rfl, rfl⟩ mm_345 mm_346 mm_241 mm_340 dd_X5_isWithin rfl hl.1 rfl dX5_fits_47 rfl (fun H locs hP hD hS => ?_)
            refine lv_if_eq (tgt := 77) hx hb dX5_fits_50 (by decide) (fun c_13 => ?_) (fun c_13 => ?_)
            · skip
              refine lv_iconst (v := (0 : Int32)) hx hb dX5_fits_77 (by decide) ?_
              rw [show r_X5_fits op va vb vc = (0 : Int32) from (if_neg c_1).trans ((if_pos c_2).trans ((if_neg c_3).trans ((if_neg c_4).trans ((if_neg c_8).trans (if_pos c_13)))))]
              exact ct_zret (v := (0 : Int32)) cx hP hD hS rfl dX5_fits_78
            · skip
              refine lv_iload_n hx hb dX5_fits_53 rfl (lv_at hl 3 rfl) ?_
              refine lv_iload_n hx hb dX5_fits_54 rfl (lv_at hl 0 rfl) ?_
              refine ct_callS (As := [.int op]) (rest := [.int vc]) (st1 := [.int (r_X5_namesC op), .int vc]) (V3 := []) cx (c_X5_namesC l D cyI cyZ op) hP hD hS [] [] ⟨rfl, rfl, rfl⟩ mm_351 mm_352 mm_241 mm_343 dd_X5_namesC rfl hl.1 rfl dX5_fits_55 rfl (fun H locs hP hD hS => ?_)
              refine lv_if_eq (tgt := 66) hx hb dX5_fits_58 (by decide) (fun c_14 => ?_) (fun c_14 => ?_)
              · skip
                refine lv_iconst (v := (0 : Int32)) hx hb dX5_fits_66 (by decide) ?_
                refine ct_callS (As := [.int vc, .int (0 : Int32)]) (rest := []) (st1 := [.int (r_X5_isWithin vc (0 : Int32))]) (V3 := []) cx (c_X5_isWithin l D cyI cyZ vc (0 : Int32)) hP hD hS [] [] ⟨rfl, rfl, rfl⟩ mm_345 mm_346 mm_241 mm_340 dd_X5_isWithin rfl hl.1 rfl dX5_fits_67 rfl (fun H locs hP hD hS => ?_)
                refine lv_if_eq (tgt := 77) hx hb dX5_fits_70 (by decide) (fun c_15 => ?_) (fun c_15 => ?_)
                · skip
                  refine lv_iconst (v := (0 : Int32)) hx hb dX5_fits_77 (by decide) ?_
                  rw [show r_X5_fits op va vb vc = (0 : Int32) from (if_neg c_1).trans ((if_pos c_2).trans ((if_neg c_3).trans ((if_neg c_4).trans ((if_neg c_8).trans ((if_neg c_13).trans ((if_pos c_14).trans (if_pos c_15)))))))]
                  exact ct_zret (v := (0 : Int32)) cx hP hD hS rfl dX5_fits_78
                · skip
                  refine lv_iconst (v := (1 : Int32)) hx hb dX5_fits_73 (by decide) ?_
                  refine lv_goto (tgt := 78) hx hb dX5_fits_74 (by decide) ?_
                  rw [show r_X5_fits op va vb vc = (1 : Int32) from (if_neg c_1).trans ((if_pos c_2).trans ((if_neg c_3).trans ((if_neg c_4).trans ((if_neg c_8).trans ((if_neg c_13).trans ((if_pos c_14).trans (if_neg c_15)))))))]
                  exact ct_zret (v := (1 : Int32)) cx hP hD hS rfl dX5_fits_78
              · skip
                refine lv_bipush (v := (79 : Int32)) hx hb dX5_fits_61 (by decide) ?_
                refine lv_goto (tgt := 67) hx hb dX5_fits_63 (by decide) ?_
                refine ct_callS (As := [.int vc, .int (79 : Int32)]) (rest := []) (st1 := [.int (r_X5_isWithin vc (79 : Int32))]) (V3 := []) cx (c_X5_isWithin l D cyI cyZ vc (79 : Int32)) hP hD hS [] [] ⟨rfl, rfl, rfl⟩ mm_345 mm_346 mm_241 mm_340 dd_X5_isWithin rfl hl.1 rfl dX5_fits_67 rfl (fun H locs hP hD hS => ?_)
                refine lv_if_eq (tgt := 77) hx hb dX5_fits_70 (by decide) (fun c_16 => ?_) (fun c_16 => ?_)
                · skip
                  refine lv_iconst (v := (0 : Int32)) hx hb dX5_fits_77 (by decide) ?_
                  rw [show r_X5_fits op va vb vc = (0 : Int32) from (if_neg c_1).trans ((if_pos c_2).trans ((if_neg c_3).trans ((if_neg c_4).trans ((if_neg c_8).trans ((if_neg c_13).trans ((if_neg c_14).trans (if_pos c_16)))))))]
                  exact ct_zret (v := (0 : Int32)) cx hP hD hS rfl dX5_fits_78
                · skip
                  refine lv_iconst (v := (1 : Int32)) hx hb dX5_fits_73 (by decide) ?_
                  refine lv_goto (tgt := 78) hx hb dX5_fits_74 (by decide) ?_
                  rw [show r_X5_fits op va vb vc = (1 : Int32) from (if_neg c_1).trans ((if_pos c_2).trans ((if_neg c_3).trans ((if_neg c_4).trans ((if_neg c_8).trans ((if_neg c_13).trans ((if_neg c_14).trans (if_neg c_16)))))))]
                  exact ct_zret (v := (1 : Int32)) cx hP hD hS rfl dX5_fits_78
    · skip
      refine lv_bipush (v := (7 : Int32)) hx hb dX5_fits_17 (by decide) ?_
      refine lv_goto (tgt := 23) hx hb dX5_fits_19 (by decide) ?_
      refine ct_callS (As := [.int va, .int (7 : Int32)]) (rest := []) (st1 := [.int (r_X5_isWithin va (7 : Int32))]) (V3 := []) cx (c_X5_isWithin l D cyI cyZ va (7 : Int32)) hP hD hS [] [] ⟨rfl, rfl, rfl⟩ mm_345 mm_346 mm_241 mm_340 dd_X5_isWithin rfl hl.1 rfl dX5_fits_23 rfl (fun H locs hP hD hS => ?_)
      refine lv_if_eq (tgt := 77) hx hb dX5_fits_26 (by decide) (fun c_17 => ?_) (fun c_17 => ?_)
      · skip
        refine lv_iconst (v := (0 : Int32)) hx hb dX5_fits_77 (by decide) ?_
        rw [show r_X5_fits op va vb vc = (0 : Int32) from (if_neg c_1).trans ((if_neg c_2).trans (if_pos c_17))]
        exact ct_zret (v := (0 : Int32)) cx hP hD hS rfl dX5_fits_78
      · skip
        refine lv_iload_n hx hb dX5_fits_29 rfl (lv_at hl 0 rfl) ?_
        refine lv_if_eq (tgt := 53) hx hb dX5_fits_30 (by decide) (fun c_18 => ?_) (fun c_18 => ?_)
        · skip
          refine lv_iload_n hx hb dX5_fits_53 rfl (lv_at hl 3 rfl) ?_
          refine lv_iload_n hx hb dX5_fits_54 rfl (lv_at hl 0 rfl) ?_
          refine ct_callS (As := [.int op]) (rest := [.int vc]) (st1 := [.int (r_X5_namesC op), .int vc]) (V3 := []) cx (c_X5_namesC l D cyI cyZ op) hP hD hS [] [] ⟨rfl, rfl, rfl⟩ mm_351 mm_352 mm_241 mm_343 dd_X5_namesC rfl hl.1 rfl dX5_fits_55 rfl (fun H locs hP hD hS => ?_)
          refine lv_if_eq (tgt := 66) hx hb dX5_fits_58 (by decide) (fun c_19 => ?_) (fun c_19 => ?_)
          · skip
            refine lv_iconst (v := (0 : Int32)) hx hb dX5_fits_66 (by decide) ?_
            refine ct_callS (As := [.int vc, .int (0 : Int32)]) (rest := []) (st1 := [.int (r_X5_isWithin vc (0 : Int32))]) (V3 := []) cx (c_X5_isWithin l D cyI cyZ vc (0 : Int32)) hP hD hS [] [] ⟨rfl, rfl, rfl⟩ mm_345 mm_346 mm_241 mm_340 dd_X5_isWithin rfl hl.1 rfl dX5_fits_67 rfl (fun H locs hP hD hS => ?_)
            refine lv_if_eq (tgt := 77) hx hb dX5_fits_70 (by decide) (fun c_20 => ?_) (fun c_20 => ?_)
            · skip
              refine lv_iconst (v := (0 : Int32)) hx hb dX5_fits_77 (by decide) ?_
              rw [show r_X5_fits op va vb vc = (0 : Int32) from (if_neg c_1).trans ((if_neg c_2).trans ((if_neg c_17).trans ((if_pos c_18).trans ((if_pos c_19).trans (if_pos c_20)))))]
              exact ct_zret (v := (0 : Int32)) cx hP hD hS rfl dX5_fits_78
            · skip
              refine lv_iconst (v := (1 : Int32)) hx hb dX5_fits_73 (by decide) ?_
              refine lv_goto (tgt := 78) hx hb dX5_fits_74 (by decide) ?_
              rw [show r_X5_fits op va vb vc = (1 : Int32) from (if_neg c_1).trans ((if_neg c_2).trans ((if_neg c_17).trans ((if_pos c_18).trans ((if_pos c_19).trans (if_neg c_20)))))]
              exact ct_zret (v := (1 : Int32)) cx hP hD hS rfl dX5_fits_78
          · skip
            refine lv_bipush (v := (79 : Int32)) hx hb dX5_fits_61 (by decide) ?_
            refine lv_goto (tgt := 67) hx hb dX5_fits_63 (by decide) ?_
            refine ct_callS (As := [.int vc, .int (79 : Int32)]) (rest := []) (st1 := [.int (r_X5_isWithin vc (79 : Int32))]) (V3 := []) cx (c_X5_isWithin l D cyI cyZ vc (79 : Int32)) hP hD hS [] [] ⟨rfl, rfl, rfl⟩ mm_345 mm_346 mm_241 mm_340 dd_X5_isWithin rfl hl.1 rfl dX5_fits_67 rfl (fun H locs hP hD hS => ?_)
            refine lv_if_eq (tgt := 77) hx hb dX5_fits_70 (by decide) (fun c_21 => ?_) (fun c_21 => ?_)
            · skip
              refine lv_iconst (v := (0 : Int32)) hx hb dX5_fits_77 (by decide) ?_
              rw [show r_X5_fits op va vb vc = (0 : Int32) from (if_neg c_1).trans ((if_neg c_2).trans ((if_neg c_17).trans ((if_pos c_18).trans ((if_neg c_19).trans (if_pos c_21)))))]
              exact ct_zret (v := (0 : Int32)) cx hP hD hS rfl dX5_fits_78
            · skip
              refine lv_iconst (v := (1 : Int32)) hx hb dX5_fits_73 (by decide) ?_
              refine lv_goto (tgt := 78) hx hb dX5_fits_74 (by decide) ?_
              rw [show r_X5_fits op va vb vc = (1 : Int32) from (if_neg c_1).trans ((if_neg c_2).trans ((if_neg c_17).trans ((if_pos c_18).trans ((if_neg c_19).trans (if_neg c_21)))))]
              exact ct_zret (v := (1 : Int32)) cx hP hD hS rfl dX5_fits_78
        · skip
          refine lv_iload_n hx hb dX5_fits_33 rfl (lv_at hl 2 rfl) ?_
          refine lv_iload_n hx hb dX5_fits_34 rfl (lv_at hl 0 rfl) ?_
          refine ct_callS (As := [.int op]) (rest := [.int vb]) (st1 := [.int (r_X5_namesB op), .int vb]) (V3 := []) cx (c_X5_namesB l D cyI cyZ op) hP hD hS [] [] ⟨rfl, rfl, rfl⟩ mm_349 mm_350 mm_241 mm_342 dd_X5_namesB rfl hl.1 rfl dX5_fits_35 rfl (fun H locs hP hD hS => ?_)
          refine lv_if_eq (tgt := 46) hx hb dX5_fits_38 (by decide) (fun c_22 => ?_) (fun c_22 => ?_)
          · skip
            refine lv_iconst (v := (0 : Int32)) hx hb dX5_fits_46 (by decide) ?_
            refine ct_callS (As := [.int vb, .int (0 : Int32)]) (rest := []) (st1 := [.int (r_X5_isWithin vb (0 : Int32))]) (V3 := []) cx (c_X5_isWithin l D cyI cyZ vb (0 : Int32)) hP hD hS [] [] ⟨rfl, rfl, rfl⟩ mm_345 mm_346 mm_241 mm_340 dd_X5_isWithin rfl hl.1 rfl dX5_fits_47 rfl (fun H locs hP hD hS => ?_)
            refine lv_if_eq (tgt := 77) hx hb dX5_fits_50 (by decide) (fun c_23 => ?_) (fun c_23 => ?_)
            · skip
              refine lv_iconst (v := (0 : Int32)) hx hb dX5_fits_77 (by decide) ?_
              rw [show r_X5_fits op va vb vc = (0 : Int32) from (if_neg c_1).trans ((if_neg c_2).trans ((if_neg c_17).trans ((if_neg c_18).trans ((if_pos c_22).trans (if_pos c_23)))))]
              exact ct_zret (v := (0 : Int32)) cx hP hD hS rfl dX5_fits_78
            · skip
              refine lv_iload_n hx hb dX5_fits_53 rfl (lv_at hl 3 rfl) ?_
              refine lv_iload_n hx hb dX5_fits_54 rfl (lv_at hl 0 rfl) ?_
              refine ct_callS (As := [.int op]) (rest := [.int vc]) (st1 := [.int (r_X5_namesC op), .int vc]) (V3 := []) cx (c_X5_namesC l D cyI cyZ op) hP hD hS [] [] ⟨rfl, rfl, rfl⟩ mm_351 mm_352 mm_241 mm_343 dd_X5_namesC rfl hl.1 rfl dX5_fits_55 rfl (fun H locs hP hD hS => ?_)
              refine lv_if_eq (tgt := 66) hx hb dX5_fits_58 (by decide) (fun c_24 => ?_) (fun c_24 => ?_)
              · skip
                refine lv_iconst (v := (0 : Int32)) hx hb dX5_fits_66 (by decide) ?_
                refine ct_callS (As := [.int vc, .int (0 : Int32)]) (rest := []) (st1 := [.int (r_X5_isWithin vc (0 : Int32))]) (V3 := []) cx (c_X5_isWithin l D cyI cyZ vc (0 : Int32)) hP hD hS [] [] ⟨rfl, rfl, rfl⟩ mm_345 mm_346 mm_241 mm_340 dd_X5_isWithin rfl hl.1 rfl dX5_fits_67 rfl (fun H locs hP hD hS => ?_)
                refine lv_if_eq (tgt := 77) hx hb dX5_fits_70 (by decide) (fun c_25 => ?_) (fun c_25 => ?_)
                · skip
                  refine lv_iconst (v := (0 : Int32)) hx hb dX5_fits_77 (by decide) ?_
                  rw [show r_X5_fits op va vb vc = (0 : Int32) from (if_neg c_1).trans ((if_neg c_2).trans ((if_neg c_17).trans ((if_neg c_18).trans ((if_pos c_22).trans ((if_neg c_23).trans ((if_pos c_24).trans (if_pos c_25)))))))]
                  exact ct_zret (v := (0 : Int32)) cx hP hD hS rfl dX5_fits_78
                · skip
                  refine lv_iconst (v := (1 : Int32)) hx hb dX5_fits_73 (by decide) ?_
                  refine lv_goto (tgt := 78) hx hb dX5_fits_74 (by decide) ?_
                  rw [show r_X5_fits op va vb vc = (1 : Int32) from (if_neg c_1).trans ((if_neg c_2).trans ((if_neg c_17).trans ((if_neg c_18).trans ((if_pos c_22).trans ((if_neg c_23).trans ((if_pos c_24).trans (if_neg c_25)))))))]
                  exact ct_zret (v := (1 : Int32)) cx hP hD hS rfl dX5_fits_78
              · skip
                refine lv_bipush (v := (79 : Int32)) hx hb dX5_fits_61 (by decide) ?_
                refine lv_goto (tgt := 67) hx hb dX5_fits_63 (by decide) ?_
                refine ct_callS (As := [.int vc, .int (79 : Int32)]) (rest := []) (st1 := [.int (r_X5_isWithin vc (79 : Int32))]) (V3 := []) cx (c_X5_isWithin l D cyI cyZ vc (79 : Int32)) hP hD hS [] [] ⟨rfl, rfl, rfl⟩ mm_345 mm_346 mm_241 mm_340 dd_X5_isWithin rfl hl.1 rfl dX5_fits_67 rfl (fun H locs hP hD hS => ?_)
                refine lv_if_eq (tgt := 77) hx hb dX5_fits_70 (by decide) (fun c_26 => ?_) (fun c_26 => ?_)
                · skip
                  refine lv_iconst (v := (0 : Int32)) hx hb dX5_fits_77 (by decide) ?_
                  rw [show r_X5_fits op va vb vc = (0 : Int32) from (if_neg c_1).trans ((if_neg c_2).trans ((if_neg c_17).trans ((if_neg c_18).trans ((if_pos c_22).trans ((if_neg c_23).trans ((if_neg c_24).trans (if_pos c_26)))))))]
                  exact ct_zret (v := (0 : Int32)) cx hP hD hS rfl dX5_fits_78
                · skip
                  refine lv_iconst (v := (1 : Int32)) hx hb dX5_fits_73 (by decide) ?_
                  refine lv_goto (tgt := 78) hx hb dX5_fits_74 (by decide) ?_
                  rw [show r_X5_fits op va vb vc = (1 : Int32) from (if_neg c_1).trans ((if_neg c_2).trans ((if_neg c_17).trans ((if_neg c_18).trans ((if_pos c_22).trans ((if_neg c_23).trans ((if_neg c_24).trans (if_neg c_26)))))))]
                  exact ct_zret (v := (1 : Int32)) cx hP hD hS rfl dX5_fits_78
          · skip
            refine lv_bipush (v := (7 : Int32)) hx hb dX5_fits_41 (by decide) ?_
            refine lv_goto (tgt := 47) hx hb dX5_fits_43 (by decide) ?_
            refine ct_callS (As := [.int vb, .int (7 : Int32)]) (rest := []) (st1 := [.int (r_X5_isWithin vb (7 : Int32))]) (V3 := []) cx (c_X5_isWithin l D cyI cyZ vb (7 : Int32)) hP hD hS [] [] ⟨rfl, rfl, rfl⟩ mm_345 mm_346 mm_241 mm_340 dd_X5_isWithin rfl hl.1 rfl dX5_fits_47 rfl (fun H locs hP hD hS => ?_)
            refine lv_if_eq (tgt := 77) hx hb dX5_fits_50 (by decide) (fun c_27 => ?_) (fun c_27 => ?_)
            · skip
              refine lv_iconst (v := (0 : Int32)) hx hb dX5_fits_77 (by decide) ?_
              rw [show r_X5_fits op va vb vc = (0 : Int32) from (if_neg c_1).trans ((if_neg c_2).trans ((if_neg c_17).trans ((if_neg c_18).trans ((if_neg c_22).trans (if_pos c_27)))))]
              exact ct_zret (v := (0 : Int32)) cx hP hD hS rfl dX5_fits_78
            · skip
              refine lv_iload_n hx hb dX5_fits_53 rfl (lv_at hl 3 rfl) ?_
              refine lv_iload_n hx hb dX5_fits_54 rfl (lv_at hl 0 rfl) ?_
              refine ct_callS (As := [.int op]) (rest := [.int vc]) (st1 := [.int (r_X5_namesC op), .int vc]) (V3 := []) cx (c_X5_namesC l D cyI cyZ op) hP hD hS [] [] ⟨rfl, rfl, rfl⟩ mm_351 mm_352 mm_241 mm_343 dd_X5_namesC rfl hl.1 rfl dX5_fits_55 rfl (fun H locs hP hD hS => ?_)
              refine lv_if_eq (tgt := 66) hx hb dX5_fits_58 (by decide) (fun c_28 => ?_) (fun c_28 => ?_)
              · skip
                refine lv_iconst (v := (0 : Int32)) hx hb dX5_fits_66 (by decide) ?_
                refine ct_callS (As := [.int vc, .int (0 : Int32)]) (rest := []) (st1 := [.int (r_X5_isWithin vc (0 : Int32))]) (V3 := []) cx (c_X5_isWithin l D cyI cyZ vc (0 : Int32)) hP hD hS [] [] ⟨rfl, rfl, rfl⟩ mm_345 mm_346 mm_241 mm_340 dd_X5_isWithin rfl hl.1 rfl dX5_fits_67 rfl (fun H locs hP hD hS => ?_)
                refine lv_if_eq (tgt := 77) hx hb dX5_fits_70 (by decide) (fun c_29 => ?_) (fun c_29 => ?_)
                · skip
                  refine lv_iconst (v := (0 : Int32)) hx hb dX5_fits_77 (by decide) ?_
                  rw [show r_X5_fits op va vb vc = (0 : Int32) from (if_neg c_1).trans ((if_neg c_2).trans ((if_neg c_17).trans ((if_neg c_18).trans ((if_neg c_22).trans ((if_neg c_27).trans ((if_pos c_28).trans (if_pos c_29)))))))]
                  exact ct_zret (v := (0 : Int32)) cx hP hD hS rfl dX5_fits_78
                · skip
                  refine lv_iconst (v := (1 : Int32)) hx hb dX5_fits_73 (by decide) ?_
                  refine lv_goto (tgt := 78) hx hb dX5_fits_74 (by decide) ?_
                  rw [show r_X5_fits op va vb vc = (1 : Int32) from (if_neg c_1).trans ((if_neg c_2).trans ((if_neg c_17).trans ((if_neg c_18).trans ((if_neg c_22).trans ((if_neg c_27).trans ((if_pos c_28).trans (if_neg c_29)))))))]
                  exact ct_zret (v := (1 : Int32)) cx hP hD hS rfl dX5_fits_78
              · skip
                refine lv_bipush (v := (79 : Int32)) hx hb dX5_fits_61 (by decide) ?_
                refine lv_goto (tgt := 67) hx hb dX5_fits_63 (by decide) ?_
                refine ct_callS (As := [.int vc, .int (79 : Int32)]) (rest := []) (st1 := [.int (r_X5_isWithin vc (79 : Int32))]) (V3 := []) cx (c_X5_isWithin l D cyI cyZ vc (79 : Int32)) hP hD hS [] [] ⟨rfl, rfl, rfl⟩ mm_345 mm_346 mm_241 mm_340 dd_X5_isWithin rfl hl.1 rfl dX5_fits_67 rfl (fun H locs hP hD hS => ?_)
                refine lv_if_eq (tgt := 77) hx hb dX5_fits_70 (by decide) (fun c_30 => ?_) (fun c_30 => ?_)
                · skip
                  refine lv_iconst (v := (0 : Int32)) hx hb dX5_fits_77 (by decide) ?_
                  rw [show r_X5_fits op va vb vc = (0 : Int32) from (if_neg c_1).trans ((if_neg c_2).trans ((if_neg c_17).trans ((if_neg c_18).trans ((if_neg c_22).trans ((if_neg c_27).trans ((if_neg c_28).trans (if_pos c_30)))))))]
                  exact ct_zret (v := (0 : Int32)) cx hP hD hS rfl dX5_fits_78
                · skip
                  refine lv_iconst (v := (1 : Int32)) hx hb dX5_fits_73 (by decide) ?_
                  refine lv_goto (tgt := 78) hx hb dX5_fits_74 (by decide) ?_
                  rw [show r_X5_fits op va vb vc = (1 : Int32) from (if_neg c_1).trans ((if_neg c_2).trans ((if_neg c_17).trans ((if_neg c_18).trans ((if_neg c_22).trans ((if_neg c_27).trans ((if_neg c_28).trans (if_neg c_30)))))))]
                  exact ct_zret (v := (1 : Int32)) cx hP hD hS rfl dX5_fits_78
set_option maxHeartbeats 4000000 in
set_option maxRecDepth 100000 in
theorem c_X5_size (l : Launch) (D : va_G) (cyI cyZ : ClassId) (h : Nat) (a : Nat) (n : Int32) (f : Nat → Int32)  : CT l D cyI cyZ yX5_size cX5_size 1 (some .int) ({ frames := 0, cells := 0, slots := 0, locals := 0 }) [.ref h] [(h, .inr (5, [.ref a, .int n])), (a, .inl (cyI, 320, .inl f))] (some (.int n)) [(h, .inr (5, [.ref a, .int n])), (a, .inl (cyI, 320, .inl f))] := by
  refine ct_intro (by decide) (Nat.le_of_ble_eq_true rfl) ?_
  intro p e s m below meth c A ls cx hP hD hS hl
  obtain ⟨hx, hb, -⟩ := id cx
  refine lv_aload_n hx hb dX5_size_0 rfl (lv_at hl 0 rfl) ?_
  refine ct_get (v := .int n) cx hP 0 rfl rfl bwX5 1 rfl mm_236 rfl dX5_size_1 ?_
  exact ct_iret cx hP hD hS dX5_size_4
def r_X5_has (place : Int32) (n : Int32) (f : Nat → Int32) : Int32 := if place < (0 : Int32) then (0 : Int32) else if n ≤ place then (0 : Int32) else (1 : Int32)
set_option maxHeartbeats 4000000 in
set_option maxRecDepth 100000 in
theorem c_X5_has (l : Launch) (D : va_G) (cyI cyZ : ClassId) (h : Nat) (a : Nat) (place : Int32) (n : Int32) (f : Nat → Int32)  : CT l D cyI cyZ yX5_has cX5_has 2 (some .boolean) ({ frames := 0, cells := 0, slots := 0, locals := 0 }) [.ref h, .int place] [(h, .inr (5, [.ref a, .int n])), (a, .inl (cyI, 320, .inl f))] (some (.int (r_X5_has place n f))) [(h, .inr (5, [.ref a, .int n])), (a, .inl (cyI, 320, .inl f))] := by
  refine ct_intro (by decide) (Nat.le_of_ble_eq_true rfl) ?_
  intro p e s m below meth c A ls cx hP hD hS hl
  obtain ⟨hx, hb, -⟩ := id cx
  refine lv_iload_n hx hb dX5_has_0 rfl (lv_at hl 1 rfl) ?_
  refine lv_if_lt (tgt := 16) hx hb dX5_has_1 (by decide) (fun c_1 => ?_) (fun c_1 => ?_)
  · skip
    refine lv_iconst (v := (0 : Int32)) hx hb dX5_has_16 (by decide) ?_
    rw [show r_X5_has place n f = (0 : Int32) from if_pos c_1]
    exact ct_zret (v := (0 : Int32)) cx hP hD hS rfl dX5_has_17
  · skip
    refine lv_iload_n hx hb dX5_has_4 rfl (lv_at hl 1 rfl) ?_
    refine lv_aload_n hx hb dX5_has_5 rfl (lv_at hl 0 rfl) ?_
    refine ct_get (v := .int n) cx hP 0 rfl rfl bwX5 1 rfl mm_236 rfl dX5_has_6 ?_
    refine lv_icmp_ge (tgt := 16) hx hb dX5_has_9 (by decide) (fun c_2 => ?_) (fun c_2 => ?_)
    · skip
      refine lv_iconst (v := (0 : Int32)) hx hb dX5_has_16 (by decide) ?_
      rw [show r_X5_has place n f = (0 : Int32) from (if_neg c_1).trans (if_pos c_2)]
      exact ct_zret (v := (0 : Int32)) cx hP hD hS rfl dX5_has_17
    · skip
      refine lv_iconst (v := (1 : Int32)) hx hb dX5_has_12 (by decide) ?_
      refine lv_goto (tgt := 17) hx hb dX5_has_13 (by decide) ?_
      rw [show r_X5_has place n f = (1 : Int32) from (if_neg c_1).trans (if_neg c_2)]
      exact ct_zret (v := (1 : Int32)) cx hP hD hS rfl dX5_has_17
theorem in_part {x w n : Int32} {f : Nat → Int32} (h1 : ¬ r_X5_has x n f = 0) (h2 : ¬ r_X5_isPart w = 0) (hn : n ≤ 80) : vp_in (x * (4 : Int32) + w) 320 := by
  unfold r_X5_has at h1
  unfold r_X5_isPart at h2
  simp only [sg_lt, sg_le] at h1 h2 hn
  have e0 : (0 : Int32).toInt = 0 := rfl
  have e4 : (4 : Int32).toInt = 4 := rfl
  have e8 : (80 : Int32).toInt = 80 := rfl
  rw [e0] at h1 h2
  rw [e4] at h2
  rw [e8] at hn
  split at h1
  · exact absurd rfl h1
  · split at h1
    · exact absurd rfl h1
    · split at h2
      · exact absurd rfl h2
      · split at h2
        · exact absurd rfl h2
        · exact vp_mad (k := 4) rfl (by omega) (by omega) (by omega) (by omega) (by omega) (by omega)
def r_X5_part (place : Int32) (what : Int32) (n : Int32) (f : Nat → Int32) : Int32 := if (r_X5_has place n f) = (0 : Int32) then (-1 : Int32) else if (r_X5_isPart what) = (0 : Int32) then (-1 : Int32) else f (((place * (4 : Int32)) + what).toNatClampNeg)
set_option maxHeartbeats 4000000 in
set_option maxRecDepth 100000 in
theorem c_X5_part (l : Launch) (D : va_G) (cyI cyZ : ClassId) (h : Nat) (a : Nat) (place : Int32) (what : Int32) (n : Int32) (f : Nat → Int32) (hn : n ≤ 80) : CT l D cyI cyZ yX5_part cX5_part 3 (some .int) ({ frames := 1, cells := 0, slots := 0, locals := 21 }) [.ref h, .int place, .int what] [(h, .inr (5, [.ref a, .int n])), (a, .inl (cyI, 320, .inl f))] (some (.int (r_X5_part place what n f))) [(h, .inr (5, [.ref a, .int n])), (a, .inl (cyI, 320, .inl f))] := by
  refine ct_intro (by decide) (Nat.le_of_ble_eq_true rfl) ?_
  intro p e s m below meth c A ls cx hP hD hS hl
  obtain ⟨hx, hb, -⟩ := id cx
  refine lv_aload_n hx hb dX5_part_0 rfl (lv_at hl 0 rfl) ?_
  refine lv_iload_n hx hb dX5_part_1 rfl (lv_at hl 1 rfl) ?_
  refine ct_callV (As := [.int place]) (rest := []) (st1 := [.int (r_X5_has place n f)]) (V3 := [(h, .inr (5, [.ref a, .int n])), (a, .inl (cyI, 320, .inl f))]) cx (c_X5_has l D cyI cyZ h a place n f) hP hD hS [0, 1] [(true, 0), (true, 1)] ⟨rfl, rfl, rfl⟩ rfl rfl mm_245 mm_239 mm_240 mm_241 mm_235 dd_X5_has rfl hl.1 rfl dX5_part_2 rfl (fun H locs hP hD hS => ?_)
  refine lv_if_eq (tgt := 28) hx hb dX5_part_5 (by decide) (fun c_1 => ?_) (fun c_1 => ?_)
  · skip
    refine lv_iconst (v := (-1 : Int32)) hx hb dX5_part_28 (by decide) ?_
    rw [show r_X5_part place what n f = (-1 : Int32) from if_pos c_1]
    exact ct_iret cx hP hD hS dX5_part_29
  · skip
    refine lv_iload_n hx hb dX5_part_8 rfl (lv_at hl 2 rfl) ?_
    refine ct_callS (As := [.int what]) (rest := []) (st1 := [.int (r_X5_isPart what)]) (V3 := [(h, .inr (5, [.ref a, .int n])), (a, .inl (cyI, 320, .inl f))]) cx (c_X5_isPart l D cyI cyZ what) hP hD hS [] [(false, 0), (false, 1)] ⟨rfl, rfl, rfl⟩ mm_246 mm_247 mm_241 mm_242 dd_X5_isPart rfl hl.1 rfl dX5_part_9 rfl (fun H locs hP hD hS => ?_)
    refine lv_if_eq (tgt := 28) hx hb dX5_part_12 (by decide) (fun c_2 => ?_) (fun c_2 => ?_)
    · skip
      refine lv_iconst (v := (-1 : Int32)) hx hb dX5_part_28 (by decide) ?_
      rw [show r_X5_part place what n f = (-1 : Int32) from (if_neg c_1).trans (if_pos c_2)]
      exact ct_iret cx hP hD hS dX5_part_29
    · skip
      refine lv_aload_n hx hb dX5_part_15 rfl (lv_at hl 0 rfl) ?_
      refine ct_get (v := .ref a) cx hP 0 rfl rfl bwX5 0 rfl mm_244 rfl dX5_part_16 ?_
      refine lv_iload_n hx hb dX5_part_19 rfl (lv_at hl 1 rfl) ?_
      refine lv_iconst (v := (4 : Int32)) hx hb dX5_part_20 (by decide) ?_
      refine lv_imul hx hb dX5_part_21 ?_
      refine lv_iload_n hx hb dX5_part_22 rfl (lv_at hl 2 rfl) ?_
      refine lv_iadd hx hb dX5_part_23 ?_
      refine ct_iald cx hP 1 rfl (in_part ‹_› ‹_› hn) dX5_part_24 ?_
      refine lv_goto (tgt := 29) hx hb dX5_part_25 (by decide) ?_
      rw [show r_X5_part place what n f = f (((place * (4 : Int32)) + what).toNatClampNeg) from (if_neg c_1).trans (if_neg c_2)]
      exact ct_iret cx hP hD hS dX5_part_29
def r_X5_branchesAt (place : Int32) (n : Int32) (f : Nat → Int32) : Int32 := if (r_X5_part place (0 : Int32) n f) = (11 : Int32) then (1 : Int32) else if (r_X5_part place (0 : Int32) n f) = (12 : Int32) then (1 : Int32) else (0 : Int32)
set_option maxHeartbeats 4000000 in
set_option maxRecDepth 100000 in
theorem c_X5_branchesAt (l : Launch) (D : va_G) (cyI cyZ : ClassId) (h : Nat) (a : Nat) (place : Int32) (n : Int32) (f : Nat → Int32) (hn : n ≤ 80) : CT l D cyI cyZ yX5_branchesAt cX5_branchesAt 3 (some .boolean) ({ frames := 2, cells := 0, slots := 0, locals := 43 }) [.ref h, .int place] [(h, .inr (5, [.ref a, .int n])), (a, .inl (cyI, 320, .inl f))] (some (.int (r_X5_branchesAt place n f))) [(h, .inr (5, [.ref a, .int n])), (a, .inl (cyI, 320, .inl f))] := by
  refine ct_intro (by decide) (Nat.le_of_ble_eq_true rfl) ?_
  intro p e s m below meth c A ls cx hP hD hS hl
  obtain ⟨hx, hb, -⟩ := id cx
  refine lv_aload_n hx hb dX5_branchesAt_0 rfl (lv_at hl 0 rfl) ?_
  refine lv_iload_n hx hb dX5_branchesAt_1 rfl (lv_at hl 1 rfl) ?_
  refine lv_iconst (v := (0 : Int32)) hx hb dX5_branchesAt_2 (by decide) ?_
  refine ct_callV (As := [.int place, .int (0 : Int32)]) (rest := []) (st1 := [.int (r_X5_part place (0 : Int32) n f)]) (V3 := [(h, .inr (5, [.ref a, .int n])), (a, .inl (cyI, 320, .inl f))]) cx (c_X5_part l D cyI cyZ h a place (0 : Int32) n f hn) hP hD hS [0, 1] [(true, 0), (true, 1)] ⟨rfl, rfl, rfl⟩ rfl rfl mm_355 mm_281 mm_282 mm_241 mm_243 dd_X5_part rfl hl.1 rfl dX5_branchesAt_3 rfl (fun H locs hP hD hS => ?_)
  refine lv_istore_n (lv' := [(2, .int (r_X5_part place (0 : Int32) n f)), (0, .ref h), (1, .int place)]) hx hb dX5_branchesAt_6 rfl hl (by decide) rfl (fun ls hl => ?_)
  refine lv_iload_n hx hb dX5_branchesAt_7 rfl (lv_at hl 0 rfl) ?_
  refine lv_bipush (v := (11 : Int32)) hx hb dX5_branchesAt_8 (by decide) ?_
  refine lv_icmp_eq (tgt := 19) hx hb dX5_branchesAt_10 (by decide) (fun c_1 => ?_) (fun c_1 => ?_)
  · skip
    refine lv_iconst (v := (1 : Int32)) hx hb dX5_branchesAt_19 (by decide) ?_
    refine lv_goto (tgt := 24) hx hb dX5_branchesAt_20 (by decide) ?_
    rw [show r_X5_branchesAt place n f = (1 : Int32) from if_pos c_1]
    exact ct_zret (v := (1 : Int32)) cx hP hD hS rfl dX5_branchesAt_24
  · skip
    refine lv_iload_n hx hb dX5_branchesAt_13 rfl (lv_at hl 0 rfl) ?_
    refine lv_bipush (v := (12 : Int32)) hx hb dX5_branchesAt_14 (by decide) ?_
    refine lv_icmp_ne (tgt := 23) hx hb dX5_branchesAt_16 (by decide) (fun c_2 => ?_) (fun c_2 => ?_)
    · skip
      refine lv_iconst (v := (0 : Int32)) hx hb dX5_branchesAt_23 (by decide) ?_
      rw [show r_X5_branchesAt place n f = (0 : Int32) from (if_neg c_1).trans (if_neg c_2)]
      exact ct_zret (v := (0 : Int32)) cx hP hD hS rfl dX5_branchesAt_24
    · skip
      refine lv_iconst (v := (1 : Int32)) hx hb dX5_branchesAt_19 (by decide) ?_
      refine lv_goto (tgt := 24) hx hb dX5_branchesAt_20 (by decide) ?_
      rw [show r_X5_branchesAt place n f = (1 : Int32) from (if_neg c_1).trans (if_pos c_2)]
      exact ct_zret (v := (1 : Int32)) cx hP hD hS rfl dX5_branchesAt_24
theorem in_app {n c : Int32} (h1 : ¬ n < 0) (h2 : n < 80) (hc : 0 ≤ c.toInt ∧ c.toInt < 4) : vp_in (n * (4 : Int32) + c) 320 := by
  simp only [sg_lt] at h1 h2
  have e0 : (0 : Int32).toInt = 0 := rfl
  have e8 : (80 : Int32).toInt = 80 := rfl
  rw [e0] at h1
  rw [e8] at h2
  exact vp_mad (k := 4) rfl (by omega) (by omega) (by omega) (by omega) (by omega) (by omega)
def r_X5_append (op : Int32) (va : Int32) (vb : Int32) (vc : Int32) (n : Int32) (f : Nat → Int32) : Int32 × Int32 × (Nat → Int32) := if n < (0 : Int32) then ((0 : Int32), n, f) else if n < (80 : Int32) then ((1 : Int32), n + (1 : Int32), upd (upd (upd (upd f (((n * (4 : Int32)) + (0 : Int32)).toNatClampNeg) op) (((n * (4 : Int32)) + (1 : Int32)).toNatClampNeg) va) (((n * (4 : Int32)) + (2 : Int32)).toNatClampNeg) vb) (((n * (4 : Int32)) + (3 : Int32)).toNatClampNeg) vc) else ((0 : Int32), n, f)
set_option maxHeartbeats 4000000 in
set_option maxRecDepth 100000 in
theorem c_X5_append (l : Launch) (D : va_G) (cyI cyZ : ClassId) (h : Nat) (a : Nat) (op : Int32) (va : Int32) (vb : Int32) (vc : Int32) (n : Int32) (f : Nat → Int32)  : CT l D cyI cyZ yX5_append cX5_append 6 (some .boolean) ({ frames := 0, cells := 0, slots := 0, locals := 0 }) [.ref h, .int op, .int va, .int vb, .int vc] [(h, .inr (5, [.ref a, .int n])), (a, .inl (cyI, 320, .inl f))] (some (.int ((r_X5_append op va vb vc n f).1))) [(h, .inr (5, [.ref a, .int ((r_X5_append op va vb vc n f).2.1)])), (a, .inl (cyI, 320, .inl ((r_X5_append op va vb vc n f).2.2)))] := by
  refine ct_intro (by decide) (Nat.le_of_ble_eq_true rfl) ?_
  intro p e s m below meth c A ls cx hP hD hS hl
  obtain ⟨hx, hb, -⟩ := id cx
  refine lv_aload_n hx hb dX5_append_0 rfl (lv_at hl 0 rfl) ?_
  refine ct_get (v := .int n) cx hP 0 rfl rfl bwX5 1 rfl mm_236 rfl dX5_append_1 ?_
  refine lv_if_lt (tgt := 16) hx hb dX5_append_4 (by decide) (fun c_1 => ?_) (fun c_1 => ?_)
  · skip
    refine lv_iconst (v := (0 : Int32)) hx hb dX5_append_16 (by decide) ?_
    rw [show r_X5_append op va vb vc n f = ((0 : Int32), n, f) from if_pos c_1]
    dsimp only
    exact ct_zret (v := (0 : Int32)) cx hP hD hS rfl dX5_append_17
  · skip
    refine lv_aload_n hx hb dX5_append_7 rfl (lv_at hl 0 rfl) ?_
    refine ct_get (v := .int n) cx hP 0 rfl rfl bwX5 1 rfl mm_236 rfl dX5_append_8 ?_
    refine lv_bipush (v := (80 : Int32)) hx hb dX5_append_11 (by decide) ?_
    refine lv_icmp_lt (tgt := 18) hx hb dX5_append_13 (by decide) (fun c_2 => ?_) (fun c_2 => ?_)
    · skip
      refine lv_aload_n hx hb dX5_append_18 rfl (lv_at hl 0 rfl) ?_
      refine ct_get (v := .int n) cx hP 0 rfl rfl bwX5 1 rfl mm_236 rfl dX5_append_19 ?_
      refine lv_iconst (v := (4 : Int32)) hx hb dX5_append_22 (by decide) ?_
      refine lv_imul hx hb dX5_append_23 ?_
      refine lv_istore (lv' := [(5, .int (n * (4 : Int32))), (0, .ref h), (1, .int op), (2, .int va), (3, .int vb), (4, .int vc)]) hx hb dX5_append_24 hl (by decide) rfl (fun ls hl => ?_)
      refine lv_aload_n hx hb dX5_append_26 rfl (lv_at hl 1 rfl) ?_
      refine ct_get (v := .ref a) cx hP 0 rfl rfl bwX5 0 rfl mm_244 rfl dX5_append_27 ?_
      refine lv_iload hx hb dX5_append_30 (lv_at hl 0 rfl) ?_
      refine lv_iconst (v := (0 : Int32)) hx hb dX5_append_32 (by decide) ?_
      refine lv_iadd hx hb dX5_append_33 ?_
      refine lv_iload_n hx hb dX5_append_34 rfl (lv_at hl 2 rfl) ?_
      refine ct_iast (V3 := [(h, .inr (5, [.ref a, .int n])), (a, .inl (cyI, 320, .inl (upd f (((n * (4 : Int32)) + (0 : Int32)).toNatClampNeg) op)))]) cx hP hD hS 1 rfl (in_app ‹_› ‹_› (by decide)) dX5_append_35 rfl (fun H locs hP hD hS => ?_)
      refine lv_aload_n hx hb dX5_append_36 rfl (lv_at hl 1 rfl) ?_
      refine ct_get (v := .ref a) cx hP 0 rfl rfl bwX5 0 rfl mm_244 rfl dX5_append_37 ?_
      refine lv_iload hx hb dX5_append_40 (lv_at hl 0 rfl) ?_
      refine lv_iconst (v := (1 : Int32)) hx hb dX5_append_42 (by decide) ?_
      refine lv_iadd hx hb dX5_append_43 ?_
      refine lv_iload_n hx hb dX5_append_44 rfl (lv_at hl 3 rfl) ?_
      refine ct_iast (V3 := [(h, .inr (5, [.ref a, .int n])), (a, .inl (cyI, 320, .inl (upd (upd f (((n * (4 : Int32)) + (0 : Int32)).toNatClampNeg) op) (((n * (4 : Int32)) + (1 : Int32)).toNatClampNeg) va)))]) cx hP hD hS 1 rfl (in_app ‹_› ‹_› (by decide)) dX5_append_45 rfl (fun H locs hP hD hS => ?_)
      refine lv_aload_n hx hb dX5_append_46 rfl (lv_at hl 1 rfl) ?_
      refine ct_get (v := .ref a) cx hP 0 rfl rfl bwX5 0 rfl mm_244 rfl dX5_append_47 ?_
      refine lv_iload hx hb dX5_append_50 (lv_at hl 0 rfl) ?_
      refine lv_iconst (v := (2 : Int32)) hx hb dX5_append_52 (by decide) ?_
      refine lv_iadd hx hb dX5_append_53 ?_
      refine lv_iload_n hx hb dX5_append_54 rfl (lv_at hl 4 rfl) ?_
      refine ct_iast (V3 := [(h, .inr (5, [.ref a, .int n])), (a, .inl (cyI, 320, .inl (upd (upd (upd f (((n * (4 : Int32)) + (0 : Int32)).toNatClampNeg) op) (((n * (4 : Int32)) + (1 : Int32)).toNatClampNeg) va) (((n * (4 : Int32)) + (2 : Int32)).toNatClampNeg) vb)))]) cx hP hD hS 1 rfl (in_app ‹_› ‹_› (by decide)) dX5_append_55 rfl (fun H locs hP hD hS => ?_)
      refine lv_aload_n hx hb dX5_append_56 rfl (lv_at hl 1 rfl) ?_
      refine ct_get (v := .ref a) cx hP 0 rfl rfl bwX5 0 rfl mm_244 rfl dX5_append_57 ?_
      refine lv_iload hx hb dX5_append_60 (lv_at hl 0 rfl) ?_
      refine lv_iconst (v := (3 : Int32)) hx hb dX5_append_62 (by decide) ?_
      refine lv_iadd hx hb dX5_append_63 ?_
      refine lv_iload hx hb dX5_append_64 (lv_at hl 5 rfl) ?_
      refine ct_iast (V3 := [(h, .inr (5, [.ref a, .int n])), (a, .inl (cyI, 320, .inl (upd (upd (upd (upd f (((n * (4 : Int32)) + (0 : Int32)).toNatClampNeg) op) (((n * (4 : Int32)) + (1 : Int32)).toNatClampNeg) va) (((n * (4 : Int32)) + (2 : Int32)).toNatClampNeg) vb) (((n * (4 : Int32)) + (3 : Int32)).toNatClampNeg) vc)))]) cx hP hD hS 1 rfl (in_app ‹_› ‹_› (by decide)) dX5_append_66 rfl (fun H locs hP hD hS => ?_)
      refine lv_aload_n hx hb dX5_append_67 rfl (lv_at hl 1 rfl) ?_
      refine lv_dup hx hb dX5_append_68 rfl ?_
      refine ct_get (v := .int n) cx hP 0 rfl rfl bwX5 1 rfl mm_236 rfl dX5_append_69 ?_
      refine lv_iconst (v := (1 : Int32)) hx hb dX5_append_72 (by decide) ?_
      refine lv_iadd hx hb dX5_append_73 ?_
      refine ct_put (V3 := [(h, .inr (5, [.ref a, .int (n + (1 : Int32))])), (a, .inl (cyI, 320, .inl (upd (upd (upd (upd f (((n * (4 : Int32)) + (0 : Int32)).toNatClampNeg) op) (((n * (4 : Int32)) + (1 : Int32)).toNatClampNeg) va) (((n * (4 : Int32)) + (2 : Int32)).toNatClampNeg) vb) (((n * (4 : Int32)) + (3 : Int32)).toNatClampNeg) vc)))]) cx hP hD hS 0 rfl rfl bwX5 tyX5_ok nmX5 1 rfl mm_236 rfl rfl rfl rfl dX5_append_74 rfl (fun H locs hP hD hS => ?_)
      refine lv_iconst (v := (1 : Int32)) hx hb dX5_append_77 (by decide) ?_
      rw [show r_X5_append op va vb vc n f = ((1 : Int32), n + (1 : Int32), upd (upd (upd (upd f (((n * (4 : Int32)) + (0 : Int32)).toNatClampNeg) op) (((n * (4 : Int32)) + (1 : Int32)).toNatClampNeg) va) (((n * (4 : Int32)) + (2 : Int32)).toNatClampNeg) vb) (((n * (4 : Int32)) + (3 : Int32)).toNatClampNeg) vc) from (if_neg c_1).trans (if_pos c_2)]
      dsimp only
      exact ct_zret (v := (1 : Int32)) cx hP hD hS rfl dX5_append_78
    · skip
      refine lv_iconst (v := (0 : Int32)) hx hb dX5_append_16 (by decide) ?_
      rw [show r_X5_append op va vb vc n f = ((0 : Int32), n, f) from (if_neg c_1).trans (if_neg c_2)]
      dsimp only
      exact ct_zret (v := (0 : Int32)) cx hP hD hS rfl dX5_append_17
def r_X5_clear (n : Int32) (f : Nat → Int32) : Int32 := (0 : Int32)
set_option maxHeartbeats 4000000 in
set_option maxRecDepth 100000 in
theorem c_X5_clear (l : Launch) (D : va_G) (cyI cyZ : ClassId) (h : Nat) (a : Nat) (n : Int32) (f : Nat → Int32)  : CT l D cyI cyZ yX5_clear cX5_clear 1 none ({ frames := 0, cells := 0, slots := 0, locals := 0 }) [.ref h] [(h, .inr (5, [.ref a, .int n])), (a, .inl (cyI, 320, .inl f))] none [(h, .inr (5, [.ref a, .int (r_X5_clear n f)])), (a, .inl (cyI, 320, .inl f))] := by
  refine ct_intro (by decide) (Nat.le_of_ble_eq_true rfl) ?_
  intro p e s m below meth c A ls cx hP hD hS hl
  obtain ⟨hx, hb, -⟩ := id cx
  refine lv_aload_n hx hb dX5_clear_0 rfl (lv_at hl 0 rfl) ?_
  refine lv_iconst (v := (0 : Int32)) hx hb dX5_clear_1 (by decide) ?_
  refine ct_put (V3 := [(h, .inr (5, [.ref a, .int (0 : Int32)])), (a, .inl (cyI, 320, .inl f))]) cx hP hD hS 0 rfl rfl bwX5 tyX5_ok nmX5 1 rfl mm_236 rfl rfl rfl rfl dX5_clear_2 rfl (fun H locs hP hD hS => ?_)
  rw [show r_X5_clear n f = (0 : Int32) from rfl]
  exact ct_vret cx hP hD hS dX5_clear_5
