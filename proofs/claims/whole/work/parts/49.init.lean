set_option maxHeartbeats 4000000 in
set_option maxRecDepth 100000 in
theorem c_X4_init (l : Launch) (D : va_G) (cyI cyZ : ClassId) (h : Nat) : CTE l D cyI cyZ yX4_init cX4_init 1 ({ frames := 1, cells := 1, slots := 24, locals := 20 }) [.ref h] [(h, .inr (4, [.null, .int (0 : Int32)]))] (fun ad => (h, .inr (4, [.ref (ad 0), .int (0 : Int32)])) :: [((ad 0), .inl (cyI, 24, .inl (fun _ => 0)))]) := by
  refine ct_introE (by decide) (Nat.le_of_ble_eq_true rfl) ?_
  intro p e s m below meth c A ls cx hP hD hS hl
  obtain ⟨hx, hb, -⟩ := id cx
  refine lv_aload_n hx hb dX4_init_0 rfl (lv_at hl 0 rfl) ?_
  refine ct_obj cx mm_143 mm_2 mm_3 hl.1 rfl dX4_init_1 ?_
  refine lv_aload_n hx hb dX4_init_4 rfl (lv_at hl 0 rfl) ?_
  refine lv_bipush (v := (24 : Int32)) hx hb dX4_init_5 (by decide) ?_
  refine ct_newI (N' := 24) cx hP hD hS mm_10 (by decide) rfl rfl rfl dX4_init_7 (fun q_1 H hP hD hS => ?_)
  have hP : va_P D vwCl [(h, .inr (4, [.null, .int (0 : Int32)])), (q_1, .inl (cyI, 24, .inl (fun _ => 0)))] H := hP
  have hD : va_D A [(h, .inr (4, [.null, .int (0 : Int32)])), (q_1, .inl (cyI, 24, .inl (fun _ => 0)))] := hD
  refine ct_putF (V3 := [(h, .inr (4, [.ref q_1, .int (0 : Int32)])), (q_1, .inl (cyI, 24, .inl (fun _ => 0)))]) cx hP hD hS 0 rfl rfl bwX4 tyX4_ok nmX4 0 rfl mm_71 rfl rfl rfl rfl rfl rfl dX4_init_9 rfl (fun H locs hP hD hS => ?_)
  refine lv_aload_n hx hb dX4_init_12 rfl (lv_at hl 0 rfl) ?_
  refine lv_iconst (v := (0 : Int32)) hx hb dX4_init_13 (by decide) ?_
  refine ct_put (V3 := [(h, .inr (4, [.ref q_1, .int (0 : Int32)])), (q_1, .inl (cyI, 24, .inl (fun _ => 0)))]) cx hP hD hS 0 rfl rfl bwX4 tyX4_ok nmX4 1 rfl mm_69 rfl rfl rfl rfl dX4_init_14 rfl (fun H locs hP hD hS => ?_)
  exact ct_vretE (fun k => [q_1].getD k 0) cx hP hD hS dX4_init_17
set_option maxHeartbeats 4000000 in
set_option maxRecDepth 100000 in
theorem c_X5_init (l : Launch) (D : va_G) (cyI cyZ : ClassId) (h : Nat) : CTE l D cyI cyZ yX5_init cX5_init 1 ({ frames := 1, cells := 1, slots := 320, locals := 20 }) [.ref h] [(h, .inr (5, [.null, .int (0 : Int32)]))] (fun ad => (h, .inr (5, [.ref (ad 0), .int (0 : Int32)])) :: [((ad 0), .inl (cyI, 320, .inl (fun _ => 0)))]) := by
  refine ct_introE (by decide) (Nat.le_of_ble_eq_true rfl) ?_
  intro p e s m below meth c A ls cx hP hD hS hl
  obtain ⟨hx, hb, -⟩ := id cx
  refine lv_aload_n hx hb dX5_init_0 rfl (lv_at hl 0 rfl) ?_
  refine ct_obj cx mm_339 mm_2 mm_3 hl.1 rfl dX5_init_1 ?_
  refine lv_aload_n hx hb dX5_init_4 rfl (lv_at hl 0 rfl) ?_
  refine lv_sipush (v := (320 : Int32)) hx hb dX5_init_5 (by decide) ?_
  refine ct_newI (N' := 320) cx hP hD hS mm_10 (by decide) rfl rfl rfl dX5_init_8 (fun q_1 H hP hD hS => ?_)
  have hP : va_P D vwCl [(h, .inr (5, [.null, .int (0 : Int32)])), (q_1, .inl (cyI, 320, .inl (fun _ => 0)))] H := hP
  have hD : va_D A [(h, .inr (5, [.null, .int (0 : Int32)])), (q_1, .inl (cyI, 320, .inl (fun _ => 0)))] := hD
  refine ct_putF (V3 := [(h, .inr (5, [.ref q_1, .int (0 : Int32)])), (q_1, .inl (cyI, 320, .inl (fun _ => 0)))]) cx hP hD hS 0 rfl rfl bwX5 tyX5_ok nmX5 0 rfl mm_244 rfl rfl rfl rfl rfl rfl dX5_init_10 rfl (fun H locs hP hD hS => ?_)
  refine lv_aload_n hx hb dX5_init_13 rfl (lv_at hl 0 rfl) ?_
  refine lv_iconst (v := (0 : Int32)) hx hb dX5_init_14 (by decide) ?_
  refine ct_put (V3 := [(h, .inr (5, [.ref q_1, .int (0 : Int32)])), (q_1, .inl (cyI, 320, .inl (fun _ => 0)))]) cx hP hD hS 0 rfl rfl bwX5 tyX5_ok nmX5 1 rfl mm_236 rfl rfl rfl rfl dX5_init_15 rfl (fun H locs hP hD hS => ?_)
  exact ct_vretE (fun k => [q_1].getD k 0) cx hP hD hS dX5_init_18
set_option maxHeartbeats 4000000 in
set_option maxRecDepth 100000 in
theorem c_X6_init_20 (l : Launch) (D : va_G) (cyI cyZ : ClassId) (h : Nat) : CTE l D cyI cyZ yX6_init cX6_init 2 ({ frames := 1, cells := 2, slots := 500, locals := 21 }) [.ref h, .int (20 : Int32)] [(h, .inr (6, [.int (0 : Int32), .null, .null, .int (0 : Int32)]))] (fun ad => (h, .inr (6, [.int (20 : Int32), .ref (ad 0), .ref (ad 1), .int (0 : Int32)])) :: [((ad 0), .inl (cyI, 480, .inl (fun _ => 0))), ((ad 1), .inl (cyI, 20, .inl (fun _ => 0)))]) := by
  refine ct_introE (by decide) (Nat.le_of_ble_eq_true rfl) ?_
  intro p e s m below meth c A ls cx hP hD hS hl
  obtain ⟨hx, hb, -⟩ := id cx
  refine lv_aload_n hx hb dX6_init_0 rfl (lv_at hl 0 rfl) ?_
  refine ct_obj cx mm_1 mm_2 mm_3 hl.1 rfl dX6_init_1 ?_
  refine lv_aload_n hx hb dX6_init_4 rfl (lv_at hl 0 rfl) ?_
  refine lv_iconst (v := (0 : Int32)) hx hb dX6_init_5 (by decide) ?_
  refine ct_put (V3 := [(h, .inr (6, [.int (0 : Int32), .null, .null, .int (0 : Int32)]))]) cx hP hD hS 0 rfl rfl bwX6 tyX6_ok nmX6 3 rfl mm_4 rfl rfl rfl rfl dX6_init_6 rfl (fun H locs hP hD hS => ?_)
  refine lv_aload_n hx hb dX6_init_9 rfl (lv_at hl 0 rfl) ?_
  refine lv_iload_n hx hb dX6_init_10 rfl (lv_at hl 1 rfl) ?_
  refine lv_iconst (v := (0 : Int32)) hx hb dX6_init_11 (by decide) ?_
  refine ct_max cx mm_5 mm_6 mm_7 mm_8 hl.1 rfl dX6_init_12 ?_
  rw [show (if (20 : Int32) < (0 : Int32) then (0 : Int32) else (20 : Int32)) = (20 : Int32) from (by decide)]
  refine ct_putF (V3 := [(h, .inr (6, [.int (20 : Int32), .null, .null, .int (0 : Int32)]))]) cx hP hD hS 0 rfl rfl bwX6 tyX6_ok nmX6 0 rfl mm_9 rfl rfl rfl rfl rfl rfl dX6_init_15 rfl (fun H locs hP hD hS => ?_)
  refine lv_aload_n hx hb dX6_init_18 rfl (lv_at hl 0 rfl) ?_
  refine lv_aload_n hx hb dX6_init_19 rfl (lv_at hl 0 rfl) ?_
  refine ct_get (v := .int (20 : Int32)) cx hP 0 rfl rfl bwX6 0 rfl mm_9 rfl dX6_init_20 ?_
  refine lv_bipush (v := (24 : Int32)) hx hb dX6_init_23 (by decide) ?_
  refine lv_imul hx hb dX6_init_25 ?_
  rw [show (20 : Int32) * (24 : Int32) = (480 : Int32) from (by decide)]
  refine ct_newI (N' := 480) cx hP hD hS mm_10 (by decide) rfl rfl rfl dX6_init_26 (fun q_1 H hP hD hS => ?_)
  have hP : va_P D vwCl [(h, .inr (6, [.int (20 : Int32), .null, .null, .int (0 : Int32)])), (q_1, .inl (cyI, 480, .inl (fun _ => 0)))] H := hP
  have hD : va_D A [(h, .inr (6, [.int (20 : Int32), .null, .null, .int (0 : Int32)])), (q_1, .inl (cyI, 480, .inl (fun _ => 0)))] := hD
  refine ct_putF (V3 := [(h, .inr (6, [.int (20 : Int32), .ref q_1, .null, .int (0 : Int32)])), (q_1, .inl (cyI, 480, .inl (fun _ => 0)))]) cx hP hD hS 0 rfl rfl bwX6 tyX6_ok nmX6 1 rfl mm_11 rfl rfl rfl rfl rfl rfl dX6_init_28 rfl (fun H locs hP hD hS => ?_)
  refine lv_aload_n hx hb dX6_init_31 rfl (lv_at hl 0 rfl) ?_
  refine lv_aload_n hx hb dX6_init_32 rfl (lv_at hl 0 rfl) ?_
  refine ct_get (v := .int (20 : Int32)) cx hP 0 rfl rfl bwX6 0 rfl mm_9 rfl dX6_init_33 ?_
  refine ct_newI (N' := 20) cx hP hD hS mm_10 (by decide) rfl rfl rfl dX6_init_36 (fun q_2 H hP hD hS => ?_)
  have hP : va_P D vwCl [(h, .inr (6, [.int (20 : Int32), .ref q_1, .null, .int (0 : Int32)])), (q_1, .inl (cyI, 480, .inl (fun _ => 0))), (q_2, .inl (cyI, 20, .inl (fun _ => 0)))] H := hP
  have hD : va_D A [(h, .inr (6, [.int (20 : Int32), .ref q_1, .null, .int (0 : Int32)])), (q_1, .inl (cyI, 480, .inl (fun _ => 0))), (q_2, .inl (cyI, 20, .inl (fun _ => 0)))] := hD
  refine ct_putF (V3 := [(h, .inr (6, [.int (20 : Int32), .ref q_1, .ref q_2, .int (0 : Int32)])), (q_1, .inl (cyI, 480, .inl (fun _ => 0))), (q_2, .inl (cyI, 20, .inl (fun _ => 0)))]) cx hP hD hS 0 rfl rfl bwX6 tyX6_ok nmX6 2 rfl mm_12 rfl rfl rfl rfl rfl rfl dX6_init_38 rfl (fun H locs hP hD hS => ?_)
  exact ct_vretE (fun k => [q_1, q_2].getD k 0) cx hP hD hS dX6_init_41
set_option maxHeartbeats 4000000 in
set_option maxRecDepth 100000 in
theorem c_X6_init_40 (l : Launch) (D : va_G) (cyI cyZ : ClassId) (h : Nat) : CTE l D cyI cyZ yX6_init cX6_init 2 ({ frames := 1, cells := 2, slots := 1000, locals := 21 }) [.ref h, .int (40 : Int32)] [(h, .inr (6, [.int (0 : Int32), .null, .null, .int (0 : Int32)]))] (fun ad => (h, .inr (6, [.int (40 : Int32), .ref (ad 0), .ref (ad 1), .int (0 : Int32)])) :: [((ad 0), .inl (cyI, 960, .inl (fun _ => 0))), ((ad 1), .inl (cyI, 40, .inl (fun _ => 0)))]) := by
  refine ct_introE (by decide) (Nat.le_of_ble_eq_true rfl) ?_
  intro p e s m below meth c A ls cx hP hD hS hl
  obtain ⟨hx, hb, -⟩ := id cx
  refine lv_aload_n hx hb dX6_init_0 rfl (lv_at hl 0 rfl) ?_
  refine ct_obj cx mm_1 mm_2 mm_3 hl.1 rfl dX6_init_1 ?_
  refine lv_aload_n hx hb dX6_init_4 rfl (lv_at hl 0 rfl) ?_
  refine lv_iconst (v := (0 : Int32)) hx hb dX6_init_5 (by decide) ?_
  refine ct_put (V3 := [(h, .inr (6, [.int (0 : Int32), .null, .null, .int (0 : Int32)]))]) cx hP hD hS 0 rfl rfl bwX6 tyX6_ok nmX6 3 rfl mm_4 rfl rfl rfl rfl dX6_init_6 rfl (fun H locs hP hD hS => ?_)
  refine lv_aload_n hx hb dX6_init_9 rfl (lv_at hl 0 rfl) ?_
  refine lv_iload_n hx hb dX6_init_10 rfl (lv_at hl 1 rfl) ?_
  refine lv_iconst (v := (0 : Int32)) hx hb dX6_init_11 (by decide) ?_
  refine ct_max cx mm_5 mm_6 mm_7 mm_8 hl.1 rfl dX6_init_12 ?_
  rw [show (if (40 : Int32) < (0 : Int32) then (0 : Int32) else (40 : Int32)) = (40 : Int32) from (by decide)]
  refine ct_putF (V3 := [(h, .inr (6, [.int (40 : Int32), .null, .null, .int (0 : Int32)]))]) cx hP hD hS 0 rfl rfl bwX6 tyX6_ok nmX6 0 rfl mm_9 rfl rfl rfl rfl rfl rfl dX6_init_15 rfl (fun H locs hP hD hS => ?_)
  refine lv_aload_n hx hb dX6_init_18 rfl (lv_at hl 0 rfl) ?_
  refine lv_aload_n hx hb dX6_init_19 rfl (lv_at hl 0 rfl) ?_
  refine ct_get (v := .int (40 : Int32)) cx hP 0 rfl rfl bwX6 0 rfl mm_9 rfl dX6_init_20 ?_
  refine lv_bipush (v := (24 : Int32)) hx hb dX6_init_23 (by decide) ?_
  refine lv_imul hx hb dX6_init_25 ?_
  rw [show (40 : Int32) * (24 : Int32) = (960 : Int32) from (by decide)]
  refine ct_newI (N' := 960) cx hP hD hS mm_10 (by decide) rfl rfl rfl dX6_init_26 (fun q_1 H hP hD hS => ?_)
  have hP : va_P D vwCl [(h, .inr (6, [.int (40 : Int32), .null, .null, .int (0 : Int32)])), (q_1, .inl (cyI, 960, .inl (fun _ => 0)))] H := hP
  have hD : va_D A [(h, .inr (6, [.int (40 : Int32), .null, .null, .int (0 : Int32)])), (q_1, .inl (cyI, 960, .inl (fun _ => 0)))] := hD
  refine ct_putF (V3 := [(h, .inr (6, [.int (40 : Int32), .ref q_1, .null, .int (0 : Int32)])), (q_1, .inl (cyI, 960, .inl (fun _ => 0)))]) cx hP hD hS 0 rfl rfl bwX6 tyX6_ok nmX6 1 rfl mm_11 rfl rfl rfl rfl rfl rfl dX6_init_28 rfl (fun H locs hP hD hS => ?_)
  refine lv_aload_n hx hb dX6_init_31 rfl (lv_at hl 0 rfl) ?_
  refine lv_aload_n hx hb dX6_init_32 rfl (lv_at hl 0 rfl) ?_
  refine ct_get (v := .int (40 : Int32)) cx hP 0 rfl rfl bwX6 0 rfl mm_9 rfl dX6_init_33 ?_
  refine ct_newI (N' := 40) cx hP hD hS mm_10 (by decide) rfl rfl rfl dX6_init_36 (fun q_2 H hP hD hS => ?_)
  have hP : va_P D vwCl [(h, .inr (6, [.int (40 : Int32), .ref q_1, .null, .int (0 : Int32)])), (q_1, .inl (cyI, 960, .inl (fun _ => 0))), (q_2, .inl (cyI, 40, .inl (fun _ => 0)))] H := hP
  have hD : va_D A [(h, .inr (6, [.int (40 : Int32), .ref q_1, .null, .int (0 : Int32)])), (q_1, .inl (cyI, 960, .inl (fun _ => 0))), (q_2, .inl (cyI, 40, .inl (fun _ => 0)))] := hD
  refine ct_putF (V3 := [(h, .inr (6, [.int (40 : Int32), .ref q_1, .ref q_2, .int (0 : Int32)])), (q_1, .inl (cyI, 960, .inl (fun _ => 0))), (q_2, .inl (cyI, 40, .inl (fun _ => 0)))]) cx hP hD hS 0 rfl rfl bwX6 tyX6_ok nmX6 2 rfl mm_12 rfl rfl rfl rfl rfl rfl dX6_init_38 rfl (fun H locs hP hD hS => ?_)
  exact ct_vretE (fun k => [q_1, q_2].getD k 0) cx hP hD hS dX6_init_41
set_option maxHeartbeats 4000000 in
set_option maxRecDepth 100000 in
theorem c_X7_init (l : Launch) (D : va_G) (cyI cyZ : ClassId) (h : Nat) : CTE l D cyI cyZ yX7_init cX7_init 1 ({ frames := 1, cells := 4, slots := 192, locals := 20 }) [.ref h] [(h, .inr (7, [.null, .null, .null, .null, .int (0 : Int32), .int (0 : Int32), .int (0 : Int32), .int (0 : Int32), .int (0 : Int32), .int (0 : Int32), .int (0 : Int32), .int (0 : Int32)]))] (fun ad => (h, .inr (7, [.ref (ad 0), .ref (ad 1), .ref (ad 2), .ref (ad 3), .int (0 : Int32), .int (0 : Int32), .int (-1 : Int32), .int (0 : Int32), .int (0 : Int32), .int (0 : Int32), .int (0 : Int32), .int (0 : Int32)])) :: [((ad 0), .inl (cyI, 8, .inl (fun _ => 0))), ((ad 1), .inl (cyI, 16, .inl (fun _ => 0))), ((ad 2), .inl (cyI, 8, .inl (fun _ => 0))), ((ad 3), .inl (cyI, 160, .inl (fun _ => 0)))]) := by
  refine ct_introE (by decide) (Nat.le_of_ble_eq_true rfl) ?_
  intro p e s m below meth c A ls cx hP hD hS hl
  obtain ⟨hx, hb, -⟩ := id cx
  refine lv_aload_n hx hb dX7_init_0 rfl (lv_at hl 0 rfl) ?_
  refine ct_obj cx mm_212 mm_2 mm_3 hl.1 rfl dX7_init_1 ?_
  refine lv_aload_n hx hb dX7_init_4 rfl (lv_at hl 0 rfl) ?_
  refine lv_bipush (v := (8 : Int32)) hx hb dX7_init_5 (by decide) ?_
  refine ct_newI (N' := 8) cx hP hD hS mm_10 (by decide) rfl rfl rfl dX7_init_7 (fun q_1 H hP hD hS => ?_)
  have hP : va_P D vwCl [(h, .inr (7, [.null, .null, .null, .null, .int (0 : Int32), .int (0 : Int32), .int (0 : Int32), .int (0 : Int32), .int (0 : Int32), .int (0 : Int32), .int (0 : Int32), .int (0 : Int32)])), (q_1, .inl (cyI, 8, .inl (fun _ => 0)))] H := hP
  have hD : va_D A [(h, .inr (7, [.null, .null, .null, .null, .int (0 : Int32), .int (0 : Int32), .int (0 : Int32), .int (0 : Int32), .int (0 : Int32), .int (0 : Int32), .int (0 : Int32), .int (0 : Int32)])), (q_1, .inl (cyI, 8, .inl (fun _ => 0)))] := hD
  refine ct_putF (V3 := [(h, .inr (7, [.ref q_1, .null, .null, .null, .int (0 : Int32), .int (0 : Int32), .int (0 : Int32), .int (0 : Int32), .int (0 : Int32), .int (0 : Int32), .int (0 : Int32), .int (0 : Int32)])), (q_1, .inl (cyI, 8, .inl (fun _ => 0)))]) cx hP hD hS 0 rfl rfl bwX7 tyX7_ok nmX7 0 rfl mm_213 rfl rfl rfl rfl rfl rfl dX7_init_9 rfl (fun H locs hP hD hS => ?_)
  refine lv_aload_n hx hb dX7_init_12 rfl (lv_at hl 0 rfl) ?_
  refine lv_bipush (v := (16 : Int32)) hx hb dX7_init_13 (by decide) ?_
  refine ct_newI (N' := 16) cx hP hD hS mm_10 (by decide) rfl rfl rfl dX7_init_15 (fun q_2 H hP hD hS => ?_)
  have hP : va_P D vwCl [(h, .inr (7, [.ref q_1, .null, .null, .null, .int (0 : Int32), .int (0 : Int32), .int (0 : Int32), .int (0 : Int32), .int (0 : Int32), .int (0 : Int32), .int (0 : Int32), .int (0 : Int32)])), (q_1, .inl (cyI, 8, .inl (fun _ => 0))), (q_2, .inl (cyI, 16, .inl (fun _ => 0)))] H := hP
  have hD : va_D A [(h, .inr (7, [.ref q_1, .null, .null, .null, .int (0 : Int32), .int (0 : Int32), .int (0 : Int32), .int (0 : Int32), .int (0 : Int32), .int (0 : Int32), .int (0 : Int32), .int (0 : Int32)])), (q_1, .inl (cyI, 8, .inl (fun _ => 0))), (q_2, .inl (cyI, 16, .inl (fun _ => 0)))] := hD
  refine ct_putF (V3 := [(h, .inr (7, [.ref q_1, .ref q_2, .null, .null, .int (0 : Int32), .int (0 : Int32), .int (0 : Int32), .int (0 : Int32), .int (0 : Int32), .int (0 : Int32), .int (0 : Int32), .int (0 : Int32)])), (q_1, .inl (cyI, 8, .inl (fun _ => 0))), (q_2, .inl (cyI, 16, .inl (fun _ => 0)))]) cx hP hD hS 0 rfl rfl bwX7 tyX7_ok nmX7 1 rfl mm_214 rfl rfl rfl rfl rfl rfl dX7_init_17 rfl (fun H locs hP hD hS => ?_)
  refine lv_aload_n hx hb dX7_init_20 rfl (lv_at hl 0 rfl) ?_
  refine lv_bipush (v := (8 : Int32)) hx hb dX7_init_21 (by decide) ?_
  refine ct_newI (N' := 8) cx hP hD hS mm_10 (by decide) rfl rfl rfl dX7_init_23 (fun q_3 H hP hD hS => ?_)
  have hP : va_P D vwCl [(h, .inr (7, [.ref q_1, .ref q_2, .null, .null, .int (0 : Int32), .int (0 : Int32), .int (0 : Int32), .int (0 : Int32), .int (0 : Int32), .int (0 : Int32), .int (0 : Int32), .int (0 : Int32)])), (q_1, .inl (cyI, 8, .inl (fun _ => 0))), (q_2, .inl (cyI, 16, .inl (fun _ => 0))), (q_3, .inl (cyI, 8, .inl (fun _ => 0)))] H := hP
  have hD : va_D A [(h, .inr (7, [.ref q_1, .ref q_2, .null, .null, .int (0 : Int32), .int (0 : Int32), .int (0 : Int32), .int (0 : Int32), .int (0 : Int32), .int (0 : Int32), .int (0 : Int32), .int (0 : Int32)])), (q_1, .inl (cyI, 8, .inl (fun _ => 0))), (q_2, .inl (cyI, 16, .inl (fun _ => 0))), (q_3, .inl (cyI, 8, .inl (fun _ => 0)))] := hD
  refine ct_putF (V3 := [(h, .inr (7, [.ref q_1, .ref q_2, .ref q_3, .null, .int (0 : Int32), .int (0 : Int32), .int (0 : Int32), .int (0 : Int32), .int (0 : Int32), .int (0 : Int32), .int (0 : Int32), .int (0 : Int32)])), (q_1, .inl (cyI, 8, .inl (fun _ => 0))), (q_2, .inl (cyI, 16, .inl (fun _ => 0))), (q_3, .inl (cyI, 8, .inl (fun _ => 0)))]) cx hP hD hS 0 rfl rfl bwX7 tyX7_ok nmX7 2 rfl mm_92 rfl rfl rfl rfl rfl rfl dX7_init_25 rfl (fun H locs hP hD hS => ?_)
  refine lv_aload_n hx hb dX7_init_28 rfl (lv_at hl 0 rfl) ?_
  refine lv_sipush (v := (160 : Int32)) hx hb dX7_init_29 (by decide) ?_
  refine ct_newI (N' := 160) cx hP hD hS mm_10 (by decide) rfl rfl rfl dX7_init_32 (fun q_4 H hP hD hS => ?_)
  have hP : va_P D vwCl [(h, .inr (7, [.ref q_1, .ref q_2, .ref q_3, .null, .int (0 : Int32), .int (0 : Int32), .int (0 : Int32), .int (0 : Int32), .int (0 : Int32), .int (0 : Int32), .int (0 : Int32), .int (0 : Int32)])), (q_1, .inl (cyI, 8, .inl (fun _ => 0))), (q_2, .inl (cyI, 16, .inl (fun _ => 0))), (q_3, .inl (cyI, 8, .inl (fun _ => 0))), (q_4, .inl (cyI, 160, .inl (fun _ => 0)))] H := hP
  have hD : va_D A [(h, .inr (7, [.ref q_1, .ref q_2, .ref q_3, .null, .int (0 : Int32), .int (0 : Int32), .int (0 : Int32), .int (0 : Int32), .int (0 : Int32), .int (0 : Int32), .int (0 : Int32), .int (0 : Int32)])), (q_1, .inl (cyI, 8, .inl (fun _ => 0))), (q_2, .inl (cyI, 16, .inl (fun _ => 0))), (q_3, .inl (cyI, 8, .inl (fun _ => 0))), (q_4, .inl (cyI, 160, .inl (fun _ => 0)))] := hD
  refine ct_putF (V3 := [(h, .inr (7, [.ref q_1, .ref q_2, .ref q_3, .ref q_4, .int (0 : Int32), .int (0 : Int32), .int (0 : Int32), .int (0 : Int32), .int (0 : Int32), .int (0 : Int32), .int (0 : Int32), .int (0 : Int32)])), (q_1, .inl (cyI, 8, .inl (fun _ => 0))), (q_2, .inl (cyI, 16, .inl (fun _ => 0))), (q_3, .inl (cyI, 8, .inl (fun _ => 0))), (q_4, .inl (cyI, 160, .inl (fun _ => 0)))]) cx hP hD hS 0 rfl rfl bwX7 tyX7_ok nmX7 3 rfl mm_56 rfl rfl rfl rfl rfl rfl dX7_init_34 rfl (fun H locs hP hD hS => ?_)
  refine lv_aload_n hx hb dX7_init_37 rfl (lv_at hl 0 rfl) ?_
  refine lv_iconst (v := (0 : Int32)) hx hb dX7_init_38 (by decide) ?_
  refine ct_put (V3 := [(h, .inr (7, [.ref q_1, .ref q_2, .ref q_3, .ref q_4, .int (0 : Int32), .int (0 : Int32), .int (0 : Int32), .int (0 : Int32), .int (0 : Int32), .int (0 : Int32), .int (0 : Int32), .int (0 : Int32)])), (q_1, .inl (cyI, 8, .inl (fun _ => 0))), (q_2, .inl (cyI, 16, .inl (fun _ => 0))), (q_3, .inl (cyI, 8, .inl (fun _ => 0))), (q_4, .inl (cyI, 160, .inl (fun _ => 0)))]) cx hP hD hS 0 rfl rfl bwX7 tyX7_ok nmX7 4 rfl mm_91 rfl rfl rfl rfl dX7_init_39 rfl (fun H locs hP hD hS => ?_)
  refine lv_aload_n hx hb dX7_init_42 rfl (lv_at hl 0 rfl) ?_
  refine lv_iconst (v := (0 : Int32)) hx hb dX7_init_43 (by decide) ?_
  refine ct_put (V3 := [(h, .inr (7, [.ref q_1, .ref q_2, .ref q_3, .ref q_4, .int (0 : Int32), .int (0 : Int32), .int (0 : Int32), .int (0 : Int32), .int (0 : Int32), .int (0 : Int32), .int (0 : Int32), .int (0 : Int32)])), (q_1, .inl (cyI, 8, .inl (fun _ => 0))), (q_2, .inl (cyI, 16, .inl (fun _ => 0))), (q_3, .inl (cyI, 8, .inl (fun _ => 0))), (q_4, .inl (cyI, 160, .inl (fun _ => 0)))]) cx hP hD hS 0 rfl rfl bwX7 tyX7_ok nmX7 5 rfl mm_81 rfl rfl rfl rfl dX7_init_44 rfl (fun H locs hP hD hS => ?_)
  refine lv_aload_n hx hb dX7_init_47 rfl (lv_at hl 0 rfl) ?_
  refine lv_iconst (v := (-1 : Int32)) hx hb dX7_init_48 (by decide) ?_
  refine ct_put (V3 := [(h, .inr (7, [.ref q_1, .ref q_2, .ref q_3, .ref q_4, .int (0 : Int32), .int (0 : Int32), .int (-1 : Int32), .int (0 : Int32), .int (0 : Int32), .int (0 : Int32), .int (0 : Int32), .int (0 : Int32)])), (q_1, .inl (cyI, 8, .inl (fun _ => 0))), (q_2, .inl (cyI, 16, .inl (fun _ => 0))), (q_3, .inl (cyI, 8, .inl (fun _ => 0))), (q_4, .inl (cyI, 160, .inl (fun _ => 0)))]) cx hP hD hS 0 rfl rfl bwX7 tyX7_ok nmX7 6 rfl mm_89 rfl rfl rfl rfl dX7_init_49 rfl (fun H locs hP hD hS => ?_)
  refine lv_aload_n hx hb dX7_init_52 rfl (lv_at hl 0 rfl) ?_
  refine lv_iconst (v := (0 : Int32)) hx hb dX7_init_53 (by decide) ?_
  refine ct_put (V3 := [(h, .inr (7, [.ref q_1, .ref q_2, .ref q_3, .ref q_4, .int (0 : Int32), .int (0 : Int32), .int (-1 : Int32), .int (0 : Int32), .int (0 : Int32), .int (0 : Int32), .int (0 : Int32), .int (0 : Int32)])), (q_1, .inl (cyI, 8, .inl (fun _ => 0))), (q_2, .inl (cyI, 16, .inl (fun _ => 0))), (q_3, .inl (cyI, 8, .inl (fun _ => 0))), (q_4, .inl (cyI, 160, .inl (fun _ => 0)))]) cx hP hD hS 0 rfl rfl bwX7 tyX7_ok nmX7 7 rfl mm_215 rfl rfl rfl rfl dX7_init_54 rfl (fun H locs hP hD hS => ?_)
  refine lv_aload_n hx hb dX7_init_57 rfl (lv_at hl 0 rfl) ?_
  refine lv_iconst (v := (0 : Int32)) hx hb dX7_init_58 (by decide) ?_
  refine ct_put (V3 := [(h, .inr (7, [.ref q_1, .ref q_2, .ref q_3, .ref q_4, .int (0 : Int32), .int (0 : Int32), .int (-1 : Int32), .int (0 : Int32), .int (0 : Int32), .int (0 : Int32), .int (0 : Int32), .int (0 : Int32)])), (q_1, .inl (cyI, 8, .inl (fun _ => 0))), (q_2, .inl (cyI, 16, .inl (fun _ => 0))), (q_3, .inl (cyI, 8, .inl (fun _ => 0))), (q_4, .inl (cyI, 160, .inl (fun _ => 0)))]) cx hP hD hS 0 rfl rfl bwX7 tyX7_ok nmX7 8 rfl mm_216 rfl rfl rfl rfl dX7_init_59 rfl (fun H locs hP hD hS => ?_)
  refine lv_aload_n hx hb dX7_init_62 rfl (lv_at hl 0 rfl) ?_
  refine lv_iconst (v := (0 : Int32)) hx hb dX7_init_63 (by decide) ?_
  refine ct_put (V3 := [(h, .inr (7, [.ref q_1, .ref q_2, .ref q_3, .ref q_4, .int (0 : Int32), .int (0 : Int32), .int (-1 : Int32), .int (0 : Int32), .int (0 : Int32), .int (0 : Int32), .int (0 : Int32), .int (0 : Int32)])), (q_1, .inl (cyI, 8, .inl (fun _ => 0))), (q_2, .inl (cyI, 16, .inl (fun _ => 0))), (q_3, .inl (cyI, 8, .inl (fun _ => 0))), (q_4, .inl (cyI, 160, .inl (fun _ => 0)))]) cx hP hD hS 0 rfl rfl bwX7 tyX7_ok nmX7 9 rfl mm_217 rfl rfl rfl rfl dX7_init_64 rfl (fun H locs hP hD hS => ?_)
  refine lv_aload_n hx hb dX7_init_67 rfl (lv_at hl 0 rfl) ?_
  refine lv_iconst (v := (0 : Int32)) hx hb dX7_init_68 (by decide) ?_
  refine ct_put (V3 := [(h, .inr (7, [.ref q_1, .ref q_2, .ref q_3, .ref q_4, .int (0 : Int32), .int (0 : Int32), .int (-1 : Int32), .int (0 : Int32), .int (0 : Int32), .int (0 : Int32), .int (0 : Int32), .int (0 : Int32)])), (q_1, .inl (cyI, 8, .inl (fun _ => 0))), (q_2, .inl (cyI, 16, .inl (fun _ => 0))), (q_3, .inl (cyI, 8, .inl (fun _ => 0))), (q_4, .inl (cyI, 160, .inl (fun _ => 0)))]) cx hP hD hS 0 rfl rfl bwX7 tyX7_ok nmX7 10 rfl mm_218 rfl rfl rfl rfl dX7_init_69 rfl (fun H locs hP hD hS => ?_)
  refine lv_aload_n hx hb dX7_init_72 rfl (lv_at hl 0 rfl) ?_
  refine lv_iconst (v := (0 : Int32)) hx hb dX7_init_73 (by decide) ?_
  refine ct_put (V3 := [(h, .inr (7, [.ref q_1, .ref q_2, .ref q_3, .ref q_4, .int (0 : Int32), .int (0 : Int32), .int (-1 : Int32), .int (0 : Int32), .int (0 : Int32), .int (0 : Int32), .int (0 : Int32), .int (0 : Int32)])), (q_1, .inl (cyI, 8, .inl (fun _ => 0))), (q_2, .inl (cyI, 16, .inl (fun _ => 0))), (q_3, .inl (cyI, 8, .inl (fun _ => 0))), (q_4, .inl (cyI, 160, .inl (fun _ => 0)))]) cx hP hD hS 0 rfl rfl bwX7 tyX7_ok nmX7 11 rfl mm_219 rfl rfl rfl rfl dX7_init_74 rfl (fun H locs hP hD hS => ?_)
  exact ct_vretE (fun k => [q_1, q_2, q_3, q_4].getD k 0) cx hP hD hS dX7_init_77
set_option maxHeartbeats 4000000 in
set_option maxRecDepth 100000 in
theorem c_X3_init (l : Launch) (D : va_G) (cyI cyZ : ClassId) (h : Nat) : CTE l D cyI cyZ yX3_init cX3_init 1 ({ frames := 2, cells := 4, slots := 604, locals := 42 }) [.ref h] [(h, .inr (3, [.null, .null]))] (fun ad => (h, .inr (3, [.ref (ad 0), .ref (ad 1)])) :: [((ad 0), .inl (cyI, 100, .inl (fun _ => 0))), ((ad 1), .inr (6, [.int (20 : Int32), .ref (ad 2), .ref (ad 3), .int (0 : Int32)])), ((ad 2), .inl (cyI, 480, .inl (fun _ => 0))), ((ad 3), .inl (cyI, 20, .inl (fun _ => 0)))]) := by
  refine ct_introE (by decide) (Nat.le_of_ble_eq_true rfl) ?_
  intro p e s m below meth c A ls cx hP hD hS hl
  obtain ⟨hx, hb, -⟩ := id cx
  refine lv_aload_n hx hb dX3_init_0 rfl (lv_at hl 0 rfl) ?_
  refine ct_obj cx mm_14 mm_2 mm_3 hl.1 rfl dX3_init_1 ?_
  refine lv_aload_n hx hb dX3_init_4 rfl (lv_at hl 0 rfl) ?_
  refine lv_bipush (v := (100 : Int32)) hx hb dX3_init_5 (by decide) ?_
  refine ct_newI (N' := 100) cx hP hD hS mm_10 (by decide) rfl rfl rfl dX3_init_7 (fun q_1 H hP hD hS => ?_)
  have hP : va_P D vwCl [(h, .inr (3, [.null, .null])), (q_1, .inl (cyI, 100, .inl (fun _ => 0)))] H := hP
  have hD : va_D A [(h, .inr (3, [.null, .null])), (q_1, .inl (cyI, 100, .inl (fun _ => 0)))] := hD
  refine ct_putF (V3 := [(h, .inr (3, [.ref q_1, .null])), (q_1, .inl (cyI, 100, .inl (fun _ => 0)))]) cx hP hD hS 0 rfl rfl bwX3 tyX3_ok nmX3 0 rfl mm_15 rfl rfl rfl rfl rfl rfl dX3_init_9 rfl (fun H locs hP hD hS => ?_)
  refine lv_aload_n hx hb dX3_init_12 rfl (lv_at hl 0 rfl) ?_
  refine ct_new (ci := 6) (fs := [.int (0 : Int32), .null, .null, .int (0 : Int32)]) cx hP hD hS bwX6 tyX6_ok mm_16 mm_17 mm_18 rfl rfl rfl dX3_init_13 (fun q_2 H hP hD hS => ?_)
  have hP : va_P D vwCl [(h, .inr (3, [.ref q_1, .null])), (q_1, .inl (cyI, 100, .inl (fun _ => 0))), (q_2, .inr (6, [.int (0 : Int32), .null, .null, .int (0 : Int32)]))] H := hP
  have hD : va_D A [(h, .inr (3, [.ref q_1, .null])), (q_1, .inl (cyI, 100, .inl (fun _ => 0))), (q_2, .inr (6, [.int (0 : Int32), .null, .null, .int (0 : Int32)]))] := hD
  refine lv_dup hx hb dX3_init_16 rfl ?_
  refine lv_bipush (v := (20 : Int32)) hx hb dX3_init_17 (by decide) ?_
  refine ct_callIE (As := [.int (20 : Int32)]) (rest := [.ref q_2, .ref h]) cx (c_X6_init_20 l D cyI cyZ q_2) [(h, .inr (3, [.ref q_1, .null])), (q_1, .inl (cyI, 100, .inl (fun _ => 0)))] hP hD hS mm_20 mm_21 mm_18 mm_0 dd_X6_init rfl hl.1 rfl dX3_init_19 (fun ad_3 H locs hP hD hS => ?_)
  have hP : va_P D vwCl [(h, .inr (3, [.ref q_1, .null])), (q_1, .inl (cyI, 100, .inl (fun _ => 0))), (q_2, .inr (6, [.int (20 : Int32), .ref (ad_3 0), .ref (ad_3 1), .int (0 : Int32)])), ((ad_3 0), .inl (cyI, 480, .inl (fun _ => 0))), ((ad_3 1), .inl (cyI, 20, .inl (fun _ => 0)))] H := hP
  have hD : va_D A [(h, .inr (3, [.ref q_1, .null])), (q_1, .inl (cyI, 100, .inl (fun _ => 0))), (q_2, .inr (6, [.int (20 : Int32), .ref (ad_3 0), .ref (ad_3 1), .int (0 : Int32)])), ((ad_3 0), .inl (cyI, 480, .inl (fun _ => 0))), ((ad_3 1), .inl (cyI, 20, .inl (fun _ => 0)))] := hD
  refine ct_putF (V3 := [(h, .inr (3, [.ref q_1, .ref q_2])), (q_1, .inl (cyI, 100, .inl (fun _ => 0))), (q_2, .inr (6, [.int (20 : Int32), .ref (ad_3 0), .ref (ad_3 1), .int (0 : Int32)])), ((ad_3 0), .inl (cyI, 480, .inl (fun _ => 0))), ((ad_3 1), .inl (cyI, 20, .inl (fun _ => 0)))]) cx hP hD hS 0 rfl rfl bwX3 tyX3_ok nmX3 1 rfl mm_19 rfl rfl rfl rfl rfl rfl dX3_init_22 rfl (fun H locs hP hD hS => ?_)
  exact ct_vretE (fun k => [q_1, q_2, (ad_3 0), (ad_3 1)].getD k 0) cx hP hD hS dX3_init_25
set_option maxHeartbeats 4000000 in
set_option maxRecDepth 100000 in
theorem c_X0_init (l : Launch) (D : va_G) (cyI cyZ : ClassId) (h : Nat) : CTE l D cyI cyZ yX0_init cX0_init 1 ({ frames := 3, cells := 9, slots := 1770, locals := 62 }) [.ref h] [(h, .inr (0, [.null, .null, .null, .int (0 : Int32)]))] (fun ad => (h, .inr (0, [.ref (ad 0), .ref (ad 3), .ref (ad 8), .int (0 : Int32)])) :: [((ad 0), .inr (6, [.int (40 : Int32), .ref (ad 1), .ref (ad 2), .int (0 : Int32)])), ((ad 1), .inl (cyI, 960, .inl (fun _ => 0))), ((ad 2), .inl (cyI, 40, .inl (fun _ => 0))), ((ad 3), .inr (3, [.ref (ad 4), .ref (ad 5)])), ((ad 4), .inl (cyI, 100, .inl (fun _ => 0))), ((ad 5), .inr (6, [.int (20 : Int32), .ref (ad 6), .ref (ad 7), .int (0 : Int32)])), ((ad 6), .inl (cyI, 480, .inl (fun _ => 0))), ((ad 7), .inl (cyI, 20, .inl (fun _ => 0))), ((ad 8), .inl (cyI, 160, .inl (fun _ => 0)))]) := by
  refine ct_introE (by decide) (Nat.le_of_ble_eq_true rfl) ?_
  intro p e s m below meth c A ls cx hP hD hS hl
  obtain ⟨hx, hb, -⟩ := id cx
  refine lv_aload_n hx hb dX0_init_0 rfl (lv_at hl 0 rfl) ?_
  refine ct_obj cx mm_22 mm_2 mm_3 hl.1 rfl dX0_init_1 ?_
  refine lv_aload_n hx hb dX0_init_4 rfl (lv_at hl 0 rfl) ?_
  refine ct_new (ci := 6) (fs := [.int (0 : Int32), .null, .null, .int (0 : Int32)]) cx hP hD hS bwX6 tyX6_ok mm_23 mm_17 mm_18 rfl rfl rfl dX0_init_5 (fun q_1 H hP hD hS => ?_)
  have hP : va_P D vwCl [(h, .inr (0, [.null, .null, .null, .int (0 : Int32)])), (q_1, .inr (6, [.int (0 : Int32), .null, .null, .int (0 : Int32)]))] H := hP
  have hD : va_D A [(h, .inr (0, [.null, .null, .null, .int (0 : Int32)])), (q_1, .inr (6, [.int (0 : Int32), .null, .null, .int (0 : Int32)]))] := hD
  refine lv_dup hx hb dX0_init_8 rfl ?_
  refine lv_bipush (v := (40 : Int32)) hx hb dX0_init_9 (by decide) ?_
  refine ct_callIE (As := [.int (40 : Int32)]) (rest := [.ref q_1, .ref h]) cx (c_X6_init_40 l D cyI cyZ q_1) [(h, .inr (0, [.null, .null, .null, .int (0 : Int32)]))] hP hD hS mm_31 mm_21 mm_18 mm_0 dd_X6_init rfl hl.1 rfl dX0_init_11 (fun ad_2 H locs hP hD hS => ?_)
  have hP : va_P D vwCl [(h, .inr (0, [.null, .null, .null, .int (0 : Int32)])), (q_1, .inr (6, [.int (40 : Int32), .ref (ad_2 0), .ref (ad_2 1), .int (0 : Int32)])), ((ad_2 0), .inl (cyI, 960, .inl (fun _ => 0))), ((ad_2 1), .inl (cyI, 40, .inl (fun _ => 0)))] H := hP
  have hD : va_D A [(h, .inr (0, [.null, .null, .null, .int (0 : Int32)])), (q_1, .inr (6, [.int (40 : Int32), .ref (ad_2 0), .ref (ad_2 1), .int (0 : Int32)])), ((ad_2 0), .inl (cyI, 960, .inl (fun _ => 0))), ((ad_2 1), .inl (cyI, 40, .inl (fun _ => 0)))] := hD
  refine ct_putF (V3 := [(h, .inr (0, [.ref q_1, .null, .null, .int (0 : Int32)])), (q_1, .inr (6, [.int (40 : Int32), .ref (ad_2 0), .ref (ad_2 1), .int (0 : Int32)])), ((ad_2 0), .inl (cyI, 960, .inl (fun _ => 0))), ((ad_2 1), .inl (cyI, 40, .inl (fun _ => 0)))]) cx hP hD hS 0 rfl rfl bwX0 tyX0_ok nmX0 0 rfl mm_24 rfl rfl rfl rfl rfl rfl dX0_init_14 rfl (fun H locs hP hD hS => ?_)
  refine lv_aload_n hx hb dX0_init_17 rfl (lv_at hl 0 rfl) ?_
  refine ct_new (ci := 3) (fs := [.null, .null]) cx hP hD hS bwX3 tyX3_ok mm_25 mm_26 mm_27 rfl rfl rfl dX0_init_18 (fun q_3 H hP hD hS => ?_)
  have hP : va_P D vwCl [(h, .inr (0, [.ref q_1, .null, .null, .int (0 : Int32)])), (q_1, .inr (6, [.int (40 : Int32), .ref (ad_2 0), .ref (ad_2 1), .int (0 : Int32)])), ((ad_2 0), .inl (cyI, 960, .inl (fun _ => 0))), ((ad_2 1), .inl (cyI, 40, .inl (fun _ => 0))), (q_3, .inr (3, [.null, .null]))] H := hP
  have hD : va_D A [(h, .inr (0, [.ref q_1, .null, .null, .int (0 : Int32)])), (q_1, .inr (6, [.int (40 : Int32), .ref (ad_2 0), .ref (ad_2 1), .int (0 : Int32)])), ((ad_2 0), .inl (cyI, 960, .inl (fun _ => 0))), ((ad_2 1), .inl (cyI, 40, .inl (fun _ => 0))), (q_3, .inr (3, [.null, .null]))] := hD
  refine lv_dup hx hb dX0_init_21 rfl ?_
  refine ct_callINE (As := []) (rest := [.ref q_3, .ref h]) cx (c_X3_init l D cyI cyZ q_3) [(h, .inr (0, [.ref q_1, .null, .null, .int (0 : Int32)])), (q_1, .inr (6, [.int (40 : Int32), .ref (ad_2 0), .ref (ad_2 1), .int (0 : Int32)])), ((ad_2 0), .inl (cyI, 960, .inl (fun _ => 0))), ((ad_2 1), .inl (cyI, 40, .inl (fun _ => 0)))] hP hD hS (List.Mem.tail _ (List.Mem.tail _ (List.Mem.tail _ (List.Mem.tail _ (List.Mem.head _))))) mm_32 mm_27 mm_13 dd_X3_init rfl hl.1 rfl dX0_init_22 (fun ad_4 H locs hP hD hS => ?_)
  have hP : va_P D vwCl [(h, .inr (0, [.ref q_1, .null, .null, .int (0 : Int32)])), (q_1, .inr (6, [.int (40 : Int32), .ref (ad_2 0), .ref (ad_2 1), .int (0 : Int32)])), ((ad_2 0), .inl (cyI, 960, .inl (fun _ => 0))), ((ad_2 1), .inl (cyI, 40, .inl (fun _ => 0))), (q_3, .inr (3, [.ref (ad_4 0), .ref (ad_4 1)])), ((ad_4 0), .inl (cyI, 100, .inl (fun _ => 0))), ((ad_4 1), .inr (6, [.int (20 : Int32), .ref (ad_4 2), .ref (ad_4 3), .int (0 : Int32)])), ((ad_4 2), .inl (cyI, 480, .inl (fun _ => 0))), ((ad_4 3), .inl (cyI, 20, .inl (fun _ => 0)))] H := hP
  have hD : va_D A [(h, .inr (0, [.ref q_1, .null, .null, .int (0 : Int32)])), (q_1, .inr (6, [.int (40 : Int32), .ref (ad_2 0), .ref (ad_2 1), .int (0 : Int32)])), ((ad_2 0), .inl (cyI, 960, .inl (fun _ => 0))), ((ad_2 1), .inl (cyI, 40, .inl (fun _ => 0))), (q_3, .inr (3, [.ref (ad_4 0), .ref (ad_4 1)])), ((ad_4 0), .inl (cyI, 100, .inl (fun _ => 0))), ((ad_4 1), .inr (6, [.int (20 : Int32), .ref (ad_4 2), .ref (ad_4 3), .int (0 : Int32)])), ((ad_4 2), .inl (cyI, 480, .inl (fun _ => 0))), ((ad_4 3), .inl (cyI, 20, .inl (fun _ => 0)))] := hD
  refine ct_putF (V3 := [(h, .inr (0, [.ref q_1, .ref q_3, .null, .int (0 : Int32)])), (q_1, .inr (6, [.int (40 : Int32), .ref (ad_2 0), .ref (ad_2 1), .int (0 : Int32)])), ((ad_2 0), .inl (cyI, 960, .inl (fun _ => 0))), ((ad_2 1), .inl (cyI, 40, .inl (fun _ => 0))), (q_3, .inr (3, [.ref (ad_4 0), .ref (ad_4 1)])), ((ad_4 0), .inl (cyI, 100, .inl (fun _ => 0))), ((ad_4 1), .inr (6, [.int (20 : Int32), .ref (ad_4 2), .ref (ad_4 3), .int (0 : Int32)])), ((ad_4 2), .inl (cyI, 480, .inl (fun _ => 0))), ((ad_4 3), .inl (cyI, 20, .inl (fun _ => 0)))]) cx hP hD hS 0 rfl rfl bwX0 tyX0_ok nmX0 1 rfl mm_28 rfl rfl rfl rfl rfl rfl dX0_init_25 rfl (fun H locs hP hD hS => ?_)
  refine lv_aload_n hx hb dX0_init_28 rfl (lv_at hl 0 rfl) ?_
  refine lv_sipush (v := (160 : Int32)) hx hb dX0_init_29 (by decide) ?_
  refine ct_newI (N' := 160) cx hP hD hS mm_10 (by decide) rfl rfl rfl dX0_init_32 (fun q_5 H hP hD hS => ?_)
  have hP : va_P D vwCl [(h, .inr (0, [.ref q_1, .ref q_3, .null, .int (0 : Int32)])), (q_1, .inr (6, [.int (40 : Int32), .ref (ad_2 0), .ref (ad_2 1), .int (0 : Int32)])), ((ad_2 0), .inl (cyI, 960, .inl (fun _ => 0))), ((ad_2 1), .inl (cyI, 40, .inl (fun _ => 0))), (q_3, .inr (3, [.ref (ad_4 0), .ref (ad_4 1)])), ((ad_4 0), .inl (cyI, 100, .inl (fun _ => 0))), ((ad_4 1), .inr (6, [.int (20 : Int32), .ref (ad_4 2), .ref (ad_4 3), .int (0 : Int32)])), ((ad_4 2), .inl (cyI, 480, .inl (fun _ => 0))), ((ad_4 3), .inl (cyI, 20, .inl (fun _ => 0))), (q_5, .inl (cyI, 160, .inl (fun _ => 0)))] H := hP
  have hD : va_D A [(h, .inr (0, [.ref q_1, .ref q_3, .null, .int (0 : Int32)])), (q_1, .inr (6, [.int (40 : Int32), .ref (ad_2 0), .ref (ad_2 1), .int (0 : Int32)])), ((ad_2 0), .inl (cyI, 960, .inl (fun _ => 0))), ((ad_2 1), .inl (cyI, 40, .inl (fun _ => 0))), (q_3, .inr (3, [.ref (ad_4 0), .ref (ad_4 1)])), ((ad_4 0), .inl (cyI, 100, .inl (fun _ => 0))), ((ad_4 1), .inr (6, [.int (20 : Int32), .ref (ad_4 2), .ref (ad_4 3), .int (0 : Int32)])), ((ad_4 2), .inl (cyI, 480, .inl (fun _ => 0))), ((ad_4 3), .inl (cyI, 20, .inl (fun _ => 0))), (q_5, .inl (cyI, 160, .inl (fun _ => 0)))] := hD
  refine ct_putF (V3 := [(h, .inr (0, [.ref q_1, .ref q_3, .ref q_5, .int (0 : Int32)])), (q_1, .inr (6, [.int (40 : Int32), .ref (ad_2 0), .ref (ad_2 1), .int (0 : Int32)])), ((ad_2 0), .inl (cyI, 960, .inl (fun _ => 0))), ((ad_2 1), .inl (cyI, 40, .inl (fun _ => 0))), (q_3, .inr (3, [.ref (ad_4 0), .ref (ad_4 1)])), ((ad_4 0), .inl (cyI, 100, .inl (fun _ => 0))), ((ad_4 1), .inr (6, [.int (20 : Int32), .ref (ad_4 2), .ref (ad_4 3), .int (0 : Int32)])), ((ad_4 2), .inl (cyI, 480, .inl (fun _ => 0))), ((ad_4 3), .inl (cyI, 20, .inl (fun _ => 0))), (q_5, .inl (cyI, 160, .inl (fun _ => 0)))]) cx hP hD hS 0 rfl rfl bwX0 tyX0_ok nmX0 2 rfl mm_29 rfl rfl rfl rfl rfl rfl dX0_init_34 rfl (fun H locs hP hD hS => ?_)
  refine lv_aload_n hx hb dX0_init_37 rfl (lv_at hl 0 rfl) ?_
  refine lv_iconst (v := (0 : Int32)) hx hb dX0_init_38 (by decide) ?_
  refine ct_put (V3 := [(h, .inr (0, [.ref q_1, .ref q_3, .ref q_5, .int (0 : Int32)])), (q_1, .inr (6, [.int (40 : Int32), .ref (ad_2 0), .ref (ad_2 1), .int (0 : Int32)])), ((ad_2 0), .inl (cyI, 960, .inl (fun _ => 0))), ((ad_2 1), .inl (cyI, 40, .inl (fun _ => 0))), (q_3, .inr (3, [.ref (ad_4 0), .ref (ad_4 1)])), ((ad_4 0), .inl (cyI, 100, .inl (fun _ => 0))), ((ad_4 1), .inr (6, [.int (20 : Int32), .ref (ad_4 2), .ref (ad_4 3), .int (0 : Int32)])), ((ad_4 2), .inl (cyI, 480, .inl (fun _ => 0))), ((ad_4 3), .inl (cyI, 20, .inl (fun _ => 0))), (q_5, .inl (cyI, 160, .inl (fun _ => 0)))]) cx hP hD hS 0 rfl rfl bwX0 tyX0_ok nmX0 3 rfl mm_30 rfl rfl rfl rfl dX0_init_39 rfl (fun H locs hP hD hS => ?_)
  exact ct_vretE (fun k => [q_1, (ad_2 0), (ad_2 1), q_3, (ad_4 0), (ad_4 1), (ad_4 2), (ad_4 3), q_5].getD k 0) cx hP hD hS dX0_init_42
set_option maxHeartbeats 4000000 in
set_option maxRecDepth 100000 in
theorem c_X1_init (l : Launch) (D : va_G) (cyI cyZ : ClassId) (h : Nat) : CTE l D cyI cyZ yX1_init cX1_init 1 ({ frames := 2, cells := 4, slots := 52, locals := 40 }) [.ref h] [(h, .inr (1, [.null, .null]))] (fun ad => (h, .inr (1, [.ref (ad 0), .ref (ad 2)])) :: [((ad 0), .inr (4, [.ref (ad 1), .int (0 : Int32)])), ((ad 1), .inl (cyI, 24, .inl (fun _ => 0))), ((ad 2), .inr (4, [.ref (ad 3), .int (0 : Int32)])), ((ad 3), .inl (cyI, 24, .inl (fun _ => 0)))]) := by
  refine ct_introE (by decide) (Nat.le_of_ble_eq_true rfl) ?_
  intro p e s m below meth c A ls cx hP hD hS hl
  obtain ⟨hx, hb, -⟩ := id cx
  refine lv_aload_n hx hb dX1_init_0 rfl (lv_at hl 0 rfl) ?_
  refine ct_obj cx mm_145 mm_2 mm_3 hl.1 rfl dX1_init_1 ?_
  refine lv_aload_n hx hb dX1_init_4 rfl (lv_at hl 0 rfl) ?_
  refine ct_new (ci := 4) (fs := [.null, .int (0 : Int32)]) cx hP hD hS bwX4 tyX4_ok mm_146 mm_147 mm_76 rfl rfl rfl dX1_init_5 (fun q_1 H hP hD hS => ?_)
  have hP : va_P D vwCl [(h, .inr (1, [.null, .null])), (q_1, .inr (4, [.null, .int (0 : Int32)]))] H := hP
  have hD : va_D A [(h, .inr (1, [.null, .null])), (q_1, .inr (4, [.null, .int (0 : Int32)]))] := hD
  refine lv_dup hx hb dX1_init_8 rfl ?_
  refine ct_callINE (As := []) (rest := [.ref q_1, .ref h]) cx (c_X4_init l D cyI cyZ q_1) [(h, .inr (1, [.null, .null]))] hP hD hS (List.Mem.tail _ (List.Mem.tail _ (List.Mem.tail _ (List.Mem.tail _ (List.Mem.tail _ (List.Mem.tail _ (List.Mem.head _))))))) mm_150 mm_76 mm_142 dd_X4_init rfl hl.1 rfl dX1_init_9 (fun ad_2 H locs hP hD hS => ?_)
  have hP : va_P D vwCl [(h, .inr (1, [.null, .null])), (q_1, .inr (4, [.ref (ad_2 0), .int (0 : Int32)])), ((ad_2 0), .inl (cyI, 24, .inl (fun _ => 0)))] H := hP
  have hD : va_D A [(h, .inr (1, [.null, .null])), (q_1, .inr (4, [.ref (ad_2 0), .int (0 : Int32)])), ((ad_2 0), .inl (cyI, 24, .inl (fun _ => 0)))] := hD
  refine ct_putF (V3 := [(h, .inr (1, [.ref q_1, .null])), (q_1, .inr (4, [.ref (ad_2 0), .int (0 : Int32)])), ((ad_2 0), .inl (cyI, 24, .inl (fun _ => 0)))]) cx hP hD hS 0 rfl rfl bwX1 tyX1_ok nmX1 0 rfl mm_148 rfl rfl rfl rfl rfl rfl dX1_init_12 rfl (fun H locs hP hD hS => ?_)
  refine lv_aload_n hx hb dX1_init_15 rfl (lv_at hl 0 rfl) ?_
  refine ct_new (ci := 4) (fs := [.null, .int (0 : Int32)]) cx hP hD hS bwX4 tyX4_ok mm_146 mm_147 mm_76 rfl rfl rfl dX1_init_16 (fun q_3 H hP hD hS => ?_)
  have hP : va_P D vwCl [(h, .inr (1, [.ref q_1, .null])), (q_1, .inr (4, [.ref (ad_2 0), .int (0 : Int32)])), ((ad_2 0), .inl (cyI, 24, .inl (fun _ => 0))), (q_3, .inr (4, [.null, .int (0 : Int32)]))] H := hP
  have hD : va_D A [(h, .inr (1, [.ref q_1, .null])), (q_1, .inr (4, [.ref (ad_2 0), .int (0 : Int32)])), ((ad_2 0), .inl (cyI, 24, .inl (fun _ => 0))), (q_3, .inr (4, [.null, .int (0 : Int32)]))] := hD
  refine lv_dup hx hb dX1_init_19 rfl ?_
  refine ct_callINE (As := []) (rest := [.ref q_3, .ref h]) cx (c_X4_init l D cyI cyZ q_3) [(h, .inr (1, [.ref q_1, .null])), (q_1, .inr (4, [.ref (ad_2 0), .int (0 : Int32)])), ((ad_2 0), .inl (cyI, 24, .inl (fun _ => 0)))] hP hD hS (List.Mem.tail _ (List.Mem.tail _ (List.Mem.tail _ (List.Mem.tail _ (List.Mem.tail _ (List.Mem.tail _ (List.Mem.head _))))))) mm_150 mm_76 mm_142 dd_X4_init rfl hl.1 rfl dX1_init_20 (fun ad_4 H locs hP hD hS => ?_)
  have hP : va_P D vwCl [(h, .inr (1, [.ref q_1, .null])), (q_1, .inr (4, [.ref (ad_2 0), .int (0 : Int32)])), ((ad_2 0), .inl (cyI, 24, .inl (fun _ => 0))), (q_3, .inr (4, [.ref (ad_4 0), .int (0 : Int32)])), ((ad_4 0), .inl (cyI, 24, .inl (fun _ => 0)))] H := hP
  have hD : va_D A [(h, .inr (1, [.ref q_1, .null])), (q_1, .inr (4, [.ref (ad_2 0), .int (0 : Int32)])), ((ad_2 0), .inl (cyI, 24, .inl (fun _ => 0))), (q_3, .inr (4, [.ref (ad_4 0), .int (0 : Int32)])), ((ad_4 0), .inl (cyI, 24, .inl (fun _ => 0)))] := hD
  refine ct_putF (V3 := [(h, .inr (1, [.ref q_1, .ref q_3])), (q_1, .inr (4, [.ref (ad_2 0), .int (0 : Int32)])), ((ad_2 0), .inl (cyI, 24, .inl (fun _ => 0))), (q_3, .inr (4, [.ref (ad_4 0), .int (0 : Int32)])), ((ad_4 0), .inl (cyI, 24, .inl (fun _ => 0)))]) cx hP hD hS 0 rfl rfl bwX1 tyX1_ok nmX1 1 rfl mm_149 rfl rfl rfl rfl rfl rfl dX1_init_23 rfl (fun H locs hP hD hS => ?_)
  exact ct_vretE (fun k => [q_1, (ad_2 0), q_3, (ad_4 0)].getD k 0) cx hP hD hS dX1_init_26
set_option maxHeartbeats 4000000 in
set_option maxRecDepth 100000 in
theorem c_X2_init (l : Launch) (D : va_G) (cyI cyZ : ClassId) (h : Nat) : CTE l D cyI cyZ yX2_init cX2_init 1 ({ frames := 2, cells := 9, slots := 256, locals := 40 }) [.ref h] [(h, .inr (2, [.null, .null, .null, .int (0 : Int32)]))] (fun ad => (h, .inr (2, [.ref (ad 0), .ref (ad 2), .ref (ad 4), .int (0 : Int32)])) :: [((ad 0), .inr (4, [.ref (ad 1), .int (0 : Int32)])), ((ad 1), .inl (cyI, 24, .inl (fun _ => 0))), ((ad 2), .inr (4, [.ref (ad 3), .int (0 : Int32)])), ((ad 3), .inl (cyI, 24, .inl (fun _ => 0))), ((ad 4), .inr (7, [.ref (ad 5), .ref (ad 6), .ref (ad 7), .ref (ad 8), .int (0 : Int32), .int (0 : Int32), .int (-1 : Int32), .int (0 : Int32), .int (0 : Int32), .int (0 : Int32), .int (0 : Int32), .int (0 : Int32)])), ((ad 5), .inl (cyI, 8, .inl (fun _ => 0))), ((ad 6), .inl (cyI, 16, .inl (fun _ => 0))), ((ad 7), .inl (cyI, 8, .inl (fun _ => 0))), ((ad 8), .inl (cyI, 160, .inl (fun _ => 0)))]) := by
  refine ct_introE (by decide) (Nat.le_of_ble_eq_true rfl) ?_
  intro p e s m below meth c A ls cx hP hD hS hl
  obtain ⟨hx, hb, -⟩ := id cx
  refine lv_aload_n hx hb dX2_init_0 rfl (lv_at hl 0 rfl) ?_
  refine ct_obj cx mm_220 mm_2 mm_3 hl.1 rfl dX2_init_1 ?_
  refine lv_aload_n hx hb dX2_init_4 rfl (lv_at hl 0 rfl) ?_
  refine ct_new (ci := 4) (fs := [.null, .int (0 : Int32)]) cx hP hD hS bwX4 tyX4_ok mm_221 mm_147 mm_76 rfl rfl rfl dX2_init_5 (fun q_1 H hP hD hS => ?_)
  have hP : va_P D vwCl [(h, .inr (2, [.null, .null, .null, .int (0 : Int32)])), (q_1, .inr (4, [.null, .int (0 : Int32)]))] H := hP
  have hD : va_D A [(h, .inr (2, [.null, .null, .null, .int (0 : Int32)])), (q_1, .inr (4, [.null, .int (0 : Int32)]))] := hD
  refine lv_dup hx hb dX2_init_8 rfl ?_
  refine ct_callINE (As := []) (rest := [.ref q_1, .ref h]) cx (c_X4_init l D cyI cyZ q_1) [(h, .inr (2, [.null, .null, .null, .int (0 : Int32)]))] hP hD hS (List.Mem.tail _ (List.Mem.tail _ (List.Mem.tail _ (List.Mem.tail _ (List.Mem.tail _ (List.Mem.tail _ (List.Mem.tail _ (List.Mem.tail _ (List.Mem.head _))))))))) mm_150 mm_76 mm_142 dd_X4_init rfl hl.1 rfl dX2_init_9 (fun ad_2 H locs hP hD hS => ?_)
  have hP : va_P D vwCl [(h, .inr (2, [.null, .null, .null, .int (0 : Int32)])), (q_1, .inr (4, [.ref (ad_2 0), .int (0 : Int32)])), ((ad_2 0), .inl (cyI, 24, .inl (fun _ => 0)))] H := hP
  have hD : va_D A [(h, .inr (2, [.null, .null, .null, .int (0 : Int32)])), (q_1, .inr (4, [.ref (ad_2 0), .int (0 : Int32)])), ((ad_2 0), .inl (cyI, 24, .inl (fun _ => 0)))] := hD
  refine ct_putF (V3 := [(h, .inr (2, [.ref q_1, .null, .null, .int (0 : Int32)])), (q_1, .inr (4, [.ref (ad_2 0), .int (0 : Int32)])), ((ad_2 0), .inl (cyI, 24, .inl (fun _ => 0)))]) cx hP hD hS 0 rfl rfl bwX2 tyX2_ok nmX2 0 rfl mm_222 rfl rfl rfl rfl rfl rfl dX2_init_12 rfl (fun H locs hP hD hS => ?_)
  refine lv_aload_n hx hb dX2_init_15 rfl (lv_at hl 0 rfl) ?_
  refine ct_new (ci := 4) (fs := [.null, .int (0 : Int32)]) cx hP hD hS bwX4 tyX4_ok mm_221 mm_147 mm_76 rfl rfl rfl dX2_init_16 (fun q_3 H hP hD hS => ?_)
  have hP : va_P D vwCl [(h, .inr (2, [.ref q_1, .null, .null, .int (0 : Int32)])), (q_1, .inr (4, [.ref (ad_2 0), .int (0 : Int32)])), ((ad_2 0), .inl (cyI, 24, .inl (fun _ => 0))), (q_3, .inr (4, [.null, .int (0 : Int32)]))] H := hP
  have hD : va_D A [(h, .inr (2, [.ref q_1, .null, .null, .int (0 : Int32)])), (q_1, .inr (4, [.ref (ad_2 0), .int (0 : Int32)])), ((ad_2 0), .inl (cyI, 24, .inl (fun _ => 0))), (q_3, .inr (4, [.null, .int (0 : Int32)]))] := hD
  refine lv_dup hx hb dX2_init_19 rfl ?_
  refine ct_callINE (As := []) (rest := [.ref q_3, .ref h]) cx (c_X4_init l D cyI cyZ q_3) [(h, .inr (2, [.ref q_1, .null, .null, .int (0 : Int32)])), (q_1, .inr (4, [.ref (ad_2 0), .int (0 : Int32)])), ((ad_2 0), .inl (cyI, 24, .inl (fun _ => 0)))] hP hD hS (List.Mem.tail _ (List.Mem.tail _ (List.Mem.tail _ (List.Mem.tail _ (List.Mem.tail _ (List.Mem.tail _ (List.Mem.tail _ (List.Mem.tail _ (List.Mem.head _))))))))) mm_150 mm_76 mm_142 dd_X4_init rfl hl.1 rfl dX2_init_20 (fun ad_4 H locs hP hD hS => ?_)
  have hP : va_P D vwCl [(h, .inr (2, [.ref q_1, .null, .null, .int (0 : Int32)])), (q_1, .inr (4, [.ref (ad_2 0), .int (0 : Int32)])), ((ad_2 0), .inl (cyI, 24, .inl (fun _ => 0))), (q_3, .inr (4, [.ref (ad_4 0), .int (0 : Int32)])), ((ad_4 0), .inl (cyI, 24, .inl (fun _ => 0)))] H := hP
  have hD : va_D A [(h, .inr (2, [.ref q_1, .null, .null, .int (0 : Int32)])), (q_1, .inr (4, [.ref (ad_2 0), .int (0 : Int32)])), ((ad_2 0), .inl (cyI, 24, .inl (fun _ => 0))), (q_3, .inr (4, [.ref (ad_4 0), .int (0 : Int32)])), ((ad_4 0), .inl (cyI, 24, .inl (fun _ => 0)))] := hD
  refine ct_putF (V3 := [(h, .inr (2, [.ref q_1, .ref q_3, .null, .int (0 : Int32)])), (q_1, .inr (4, [.ref (ad_2 0), .int (0 : Int32)])), ((ad_2 0), .inl (cyI, 24, .inl (fun _ => 0))), (q_3, .inr (4, [.ref (ad_4 0), .int (0 : Int32)])), ((ad_4 0), .inl (cyI, 24, .inl (fun _ => 0)))]) cx hP hD hS 0 rfl rfl bwX2 tyX2_ok nmX2 1 rfl mm_223 rfl rfl rfl rfl rfl rfl dX2_init_23 rfl (fun H locs hP hD hS => ?_)
  refine lv_aload_n hx hb dX2_init_26 rfl (lv_at hl 0 rfl) ?_
  refine ct_new (ci := 7) (fs := [.null, .null, .null, .null, .int (0 : Int32), .int (0 : Int32), .int (0 : Int32), .int (0 : Int32), .int (0 : Int32), .int (0 : Int32), .int (0 : Int32), .int (0 : Int32)]) cx hP hD hS bwX7 tyX7_ok mm_224 mm_225 mm_42 rfl rfl rfl dX2_init_27 (fun q_5 H hP hD hS => ?_)
  have hP : va_P D vwCl [(h, .inr (2, [.ref q_1, .ref q_3, .null, .int (0 : Int32)])), (q_1, .inr (4, [.ref (ad_2 0), .int (0 : Int32)])), ((ad_2 0), .inl (cyI, 24, .inl (fun _ => 0))), (q_3, .inr (4, [.ref (ad_4 0), .int (0 : Int32)])), ((ad_4 0), .inl (cyI, 24, .inl (fun _ => 0))), (q_5, .inr (7, [.null, .null, .null, .null, .int (0 : Int32), .int (0 : Int32), .int (0 : Int32), .int (0 : Int32), .int (0 : Int32), .int (0 : Int32), .int (0 : Int32), .int (0 : Int32)]))] H := hP
  have hD : va_D A [(h, .inr (2, [.ref q_1, .ref q_3, .null, .int (0 : Int32)])), (q_1, .inr (4, [.ref (ad_2 0), .int (0 : Int32)])), ((ad_2 0), .inl (cyI, 24, .inl (fun _ => 0))), (q_3, .inr (4, [.ref (ad_4 0), .int (0 : Int32)])), ((ad_4 0), .inl (cyI, 24, .inl (fun _ => 0))), (q_5, .inr (7, [.null, .null, .null, .null, .int (0 : Int32), .int (0 : Int32), .int (0 : Int32), .int (0 : Int32), .int (0 : Int32), .int (0 : Int32), .int (0 : Int32), .int (0 : Int32)]))] := hD
  refine lv_dup hx hb dX2_init_30 rfl ?_
  refine ct_callINE (As := []) (rest := [.ref q_5, .ref h]) cx (c_X7_init l D cyI cyZ q_5) [(h, .inr (2, [.ref q_1, .ref q_3, .null, .int (0 : Int32)])), (q_1, .inr (4, [.ref (ad_2 0), .int (0 : Int32)])), ((ad_2 0), .inl (cyI, 24, .inl (fun _ => 0))), (q_3, .inr (4, [.ref (ad_4 0), .int (0 : Int32)])), ((ad_4 0), .inl (cyI, 24, .inl (fun _ => 0)))] hP hD hS (List.Mem.tail _ (List.Mem.tail _ (List.Mem.tail _ (List.Mem.tail _ (List.Mem.tail _ (List.Mem.tail _ (List.Mem.tail _ (List.Mem.tail _ (List.Mem.tail _ (List.Mem.head _)))))))))) mm_228 mm_42 mm_211 dd_X7_init rfl hl.1 rfl dX2_init_31 (fun ad_6 H locs hP hD hS => ?_)
  have hP : va_P D vwCl [(h, .inr (2, [.ref q_1, .ref q_3, .null, .int (0 : Int32)])), (q_1, .inr (4, [.ref (ad_2 0), .int (0 : Int32)])), ((ad_2 0), .inl (cyI, 24, .inl (fun _ => 0))), (q_3, .inr (4, [.ref (ad_4 0), .int (0 : Int32)])), ((ad_4 0), .inl (cyI, 24, .inl (fun _ => 0))), (q_5, .inr (7, [.ref (ad_6 0), .ref (ad_6 1), .ref (ad_6 2), .ref (ad_6 3), .int (0 : Int32), .int (0 : Int32), .int (-1 : Int32), .int (0 : Int32), .int (0 : Int32), .int (0 : Int32), .int (0 : Int32), .int (0 : Int32)])), ((ad_6 0), .inl (cyI, 8, .inl (fun _ => 0))), ((ad_6 1), .inl (cyI, 16, .inl (fun _ => 0))), ((ad_6 2), .inl (cyI, 8, .inl (fun _ => 0))), ((ad_6 3), .inl (cyI, 160, .inl (fun _ => 0)))] H := hP
  have hD : va_D A [(h, .inr (2, [.ref q_1, .ref q_3, .null, .int (0 : Int32)])), (q_1, .inr (4, [.ref (ad_2 0), .int (0 : Int32)])), ((ad_2 0), .inl (cyI, 24, .inl (fun _ => 0))), (q_3, .inr (4, [.ref (ad_4 0), .int (0 : Int32)])), ((ad_4 0), .inl (cyI, 24, .inl (fun _ => 0))), (q_5, .inr (7, [.ref (ad_6 0), .ref (ad_6 1), .ref (ad_6 2), .ref (ad_6 3), .int (0 : Int32), .int (0 : Int32), .int (-1 : Int32), .int (0 : Int32), .int (0 : Int32), .int (0 : Int32), .int (0 : Int32), .int (0 : Int32)])), ((ad_6 0), .inl (cyI, 8, .inl (fun _ => 0))), ((ad_6 1), .inl (cyI, 16, .inl (fun _ => 0))), ((ad_6 2), .inl (cyI, 8, .inl (fun _ => 0))), ((ad_6 3), .inl (cyI, 160, .inl (fun _ => 0)))] := hD
  refine ct_putF (V3 := [(h, .inr (2, [.ref q_1, .ref q_3, .ref q_5, .int (0 : Int32)])), (q_1, .inr (4, [.ref (ad_2 0), .int (0 : Int32)])), ((ad_2 0), .inl (cyI, 24, .inl (fun _ => 0))), (q_3, .inr (4, [.ref (ad_4 0), .int (0 : Int32)])), ((ad_4 0), .inl (cyI, 24, .inl (fun _ => 0))), (q_5, .inr (7, [.ref (ad_6 0), .ref (ad_6 1), .ref (ad_6 2), .ref (ad_6 3), .int (0 : Int32), .int (0 : Int32), .int (-1 : Int32), .int (0 : Int32), .int (0 : Int32), .int (0 : Int32), .int (0 : Int32), .int (0 : Int32)])), ((ad_6 0), .inl (cyI, 8, .inl (fun _ => 0))), ((ad_6 1), .inl (cyI, 16, .inl (fun _ => 0))), ((ad_6 2), .inl (cyI, 8, .inl (fun _ => 0))), ((ad_6 3), .inl (cyI, 160, .inl (fun _ => 0)))]) cx hP hD hS 0 rfl rfl bwX2 tyX2_ok nmX2 2 rfl mm_226 rfl rfl rfl rfl rfl rfl dX2_init_34 rfl (fun H locs hP hD hS => ?_)
  refine lv_aload_n hx hb dX2_init_37 rfl (lv_at hl 0 rfl) ?_
  refine lv_iconst (v := (0 : Int32)) hx hb dX2_init_38 (by decide) ?_
  refine ct_put (V3 := [(h, .inr (2, [.ref q_1, .ref q_3, .ref q_5, .int (0 : Int32)])), (q_1, .inr (4, [.ref (ad_2 0), .int (0 : Int32)])), ((ad_2 0), .inl (cyI, 24, .inl (fun _ => 0))), (q_3, .inr (4, [.ref (ad_4 0), .int (0 : Int32)])), ((ad_4 0), .inl (cyI, 24, .inl (fun _ => 0))), (q_5, .inr (7, [.ref (ad_6 0), .ref (ad_6 1), .ref (ad_6 2), .ref (ad_6 3), .int (0 : Int32), .int (0 : Int32), .int (-1 : Int32), .int (0 : Int32), .int (0 : Int32), .int (0 : Int32), .int (0 : Int32), .int (0 : Int32)])), ((ad_6 0), .inl (cyI, 8, .inl (fun _ => 0))), ((ad_6 1), .inl (cyI, 16, .inl (fun _ => 0))), ((ad_6 2), .inl (cyI, 8, .inl (fun _ => 0))), ((ad_6 3), .inl (cyI, 160, .inl (fun _ => 0)))]) cx hP hD hS 0 rfl rfl bwX2 tyX2_ok nmX2 3 rfl mm_227 rfl rfl rfl rfl dX2_init_39 rfl (fun H locs hP hD hS => ?_)
  exact ct_vretE (fun k => [q_1, (ad_2 0), q_3, (ad_4 0), q_5, (ad_6 0), (ad_6 1), (ad_6 2), (ad_6 3)].getD k 0) cx hP hD hS dX2_init_42
