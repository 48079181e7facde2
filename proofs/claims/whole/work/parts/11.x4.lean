def r_X4_isByte (b : Int32) : Int32 := if b < (0 : Int32) then (0 : Int32) else if (256 : Int32) ≤ b then (0 : Int32) else (1 : Int32)
set_option maxHeartbeats 4000000 in
set_option maxRecDepth 100000 in
theorem c_X4_isByte (l : Launch) (D : va_G) (cyI cyZ : ClassId)  (b : Int32)  : CT l D cyI cyZ yX4_isByte cX4_isByte 1 (some .boolean) ({ frames := 0, cells := 0, slots := 0, locals := 0 }) [.int b] [] (some (.int (r_X4_isByte b))) [] := by
  refine ct_intro (by decide) (Nat.le_of_ble_eq_true rfl) ?_
  intro p e s m below meth c A ls cx hP hD hS hl
  obtain ⟨hx, hb, -⟩ := id cx
  refine lv_iload_n hx hb dX4_isByte_0 rfl (lv_at hl 0 rfl) ?_
  refine lv_if_lt (tgt := 15) hx hb dX4_isByte_1 (by decide) (fun c_1 => ?_) (fun c_1 => ?_)
  · skip
    refine lv_iconst (v := (0 : Int32)) hx hb dX4_isByte_15 (by decide) ?_
    rw [show r_X4_isByte b = (0 : Int32) from if_pos c_1]
    exact ct_zret (v := (0 : Int32)) cx hP hD hS rfl dX4_isByte_16
  · skip
    refine lv_iload_n hx hb dX4_isByte_4 rfl (lv_at hl 0 rfl) ?_
    refine lv_sipush (v := (256 : Int32)) hx hb dX4_isByte_5 (by decide) ?_
    refine lv_icmp_ge (tgt := 15) hx hb dX4_isByte_8 (by decide) (fun c_2 => ?_) (fun c_2 => ?_)
    · skip
      refine lv_iconst (v := (0 : Int32)) hx hb dX4_isByte_15 (by decide) ?_
      rw [show r_X4_isByte b = (0 : Int32) from (if_neg c_1).trans (if_pos c_2)]
      exact ct_zret (v := (0 : Int32)) cx hP hD hS rfl dX4_isByte_16
    · skip
      refine lv_iconst (v := (1 : Int32)) hx hb dX4_isByte_11 (by decide) ?_
      refine lv_goto (tgt := 16) hx hb dX4_isByte_12 (by decide) ?_
      rw [show r_X4_isByte b = (1 : Int32) from (if_neg c_1).trans (if_neg c_2)]
      exact ct_zret (v := (1 : Int32)) cx hP hD hS rfl dX4_isByte_16
set_option maxHeartbeats 4000000 in
set_option maxRecDepth 100000 in
theorem c_X4_size (l : Launch) (D : va_G) (cyI cyZ : ClassId) (h : Nat) (a : Nat) (n : Int32) (f : Nat → Int32)  : CT l D cyI cyZ yX4_size cX4_size 1 (some .int) ({ frames := 0, cells := 0, slots := 0, locals := 0 }) [.ref h] [(h, .inr (4, [.ref a, .int n])), (a, .inl (cyI, 24, .inl f))] (some (.int n)) [(h, .inr (4, [.ref a, .int n])), (a, .inl (cyI, 24, .inl f))] := by
  refine ct_intro (by decide) (Nat.le_of_ble_eq_true rfl) ?_
  intro p e s m below meth c A ls cx hP hD hS hl
  obtain ⟨hx, hb, -⟩ := id cx
  refine lv_aload_n hx hb dX4_size_0 rfl (lv_at hl 0 rfl) ?_
  refine ct_get (v := .int n) cx hP 0 rfl rfl bwX4 1 rfl mm_69 rfl dX4_size_1 ?_
  exact ct_iret cx hP hD hS dX4_size_4
def r_X4_has (i : Int32) (n : Int32) (f : Nat → Int32) : Int32 := if i < (0 : Int32) then (0 : Int32) else if n ≤ i then (0 : Int32) else if (24 : Int32) ≤ i then (0 : Int32) else (1 : Int32)
set_option maxHeartbeats 4000000 in
set_option maxRecDepth 100000 in
theorem c_X4_has (l : Launch) (D : va_G) (cyI cyZ : ClassId) (h : Nat) (a : Nat) (i : Int32) (n : Int32) (f : Nat → Int32)  : CT l D cyI cyZ yX4_has cX4_has 2 (some .boolean) ({ frames := 0, cells := 0, slots := 0, locals := 0 }) [.ref h, .int i] [(h, .inr (4, [.ref a, .int n])), (a, .inl (cyI, 24, .inl f))] (some (.int (r_X4_has i n f))) [(h, .inr (4, [.ref a, .int n])), (a, .inl (cyI, 24, .inl f))] := by
  refine ct_intro (by decide) (Nat.le_of_ble_eq_true rfl) ?_
  intro p e s m below meth c A ls cx hP hD hS hl
  obtain ⟨hx, hb, -⟩ := id cx
  refine lv_iload_n hx hb dX4_has_0 rfl (lv_at hl 1 rfl) ?_
  refine lv_if_lt (tgt := 22) hx hb dX4_has_1 (by decide) (fun c_1 => ?_) (fun c_1 => ?_)
  · skip
    refine lv_iconst (v := (0 : Int32)) hx hb dX4_has_22 (by decide) ?_
    rw [show r_X4_has i n f = (0 : Int32) from if_pos c_1]
    exact ct_zret (v := (0 : Int32)) cx hP hD hS rfl dX4_has_23
  · skip
    refine lv_iload_n hx hb dX4_has_4 rfl (lv_at hl 1 rfl) ?_
    refine lv_aload_n hx hb dX4_has_5 rfl (lv_at hl 0 rfl) ?_
    refine ct_get (v := .int n) cx hP 0 rfl rfl bwX4 1 rfl mm_69 rfl dX4_has_6 ?_
    refine lv_icmp_ge (tgt := 22) hx hb dX4_has_9 (by decide) (fun c_2 => ?_) (fun c_2 => ?_)
    · skip
      refine lv_iconst (v := (0 : Int32)) hx hb dX4_has_22 (by decide) ?_
      rw [show r_X4_has i n f = (0 : Int32) from (if_neg c_1).trans (if_pos c_2)]
      exact ct_zret (v := (0 : Int32)) cx hP hD hS rfl dX4_has_23
    · skip
      refine lv_iload_n hx hb dX4_has_12 rfl (lv_at hl 1 rfl) ?_
      refine lv_bipush (v := (24 : Int32)) hx hb dX4_has_13 (by decide) ?_
      refine lv_icmp_ge (tgt := 22) hx hb dX4_has_15 (by decide) (fun c_3 => ?_) (fun c_3 => ?_)
      · skip
        refine lv_iconst (v := (0 : Int32)) hx hb dX4_has_22 (by decide) ?_
        rw [show r_X4_has i n f = (0 : Int32) from (if_neg c_1).trans ((if_neg c_2).trans (if_pos c_3))]
        exact ct_zret (v := (0 : Int32)) cx hP hD hS rfl dX4_has_23
      · skip
        refine lv_iconst (v := (1 : Int32)) hx hb dX4_has_18 (by decide) ?_
        refine lv_goto (tgt := 23) hx hb dX4_has_19 (by decide) ?_
        rw [show r_X4_has i n f = (1 : Int32) from (if_neg c_1).trans ((if_neg c_2).trans (if_neg c_3))]
        exact ct_zret (v := (1 : Int32)) cx hP hD hS rfl dX4_has_23
def r_X4_get (i : Int32) (n : Int32) (f : Nat → Int32) : Int32 := if i < (0 : Int32) then (-1 : Int32) else if n ≤ i then (-1 : Int32) else if (24 : Int32) ≤ i then (-1 : Int32) else f i.toNatClampNeg
set_option maxHeartbeats 4000000 in
set_option maxRecDepth 100000 in
theorem c_X4_get (l : Launch) (D : va_G) (cyI cyZ : ClassId) (h : Nat) (a : Nat) (i : Int32) (n : Int32) (f : Nat → Int32)  : CT l D cyI cyZ yX4_get cX4_get 2 (some .int) ({ frames := 0, cells := 0, slots := 0, locals := 0 }) [.ref h, .int i] [(h, .inr (4, [.ref a, .int n])), (a, .inl (cyI, 24, .inl f))] (some (.int (r_X4_get i n f))) [(h, .inr (4, [.ref a, .int n])), (a, .inl (cyI, 24, .inl f))] := by
  refine ct_intro (by decide) (Nat.le_of_ble_eq_true rfl) ?_
  intro p e s m below meth c A ls cx hP hD hS hl
  obtain ⟨hx, hb, -⟩ := id cx
  refine lv_iload_n hx hb dX4_get_0 rfl (lv_at hl 1 rfl) ?_
  refine lv_if_lt (tgt := 27) hx hb dX4_get_1 (by decide) (fun c_1 => ?_) (fun c_1 => ?_)
  · skip
    refine lv_iconst (v := (-1 : Int32)) hx hb dX4_get_27 (by decide) ?_
    rw [show r_X4_get i n f = (-1 : Int32) from if_pos c_1]
    exact ct_iret cx hP hD hS dX4_get_28
  · skip
    refine lv_iload_n hx hb dX4_get_4 rfl (lv_at hl 1 rfl) ?_
    refine lv_aload_n hx hb dX4_get_5 rfl (lv_at hl 0 rfl) ?_
    refine ct_get (v := .int n) cx hP 0 rfl rfl bwX4 1 rfl mm_69 rfl dX4_get_6 ?_
    refine lv_icmp_ge (tgt := 27) hx hb dX4_get_9 (by decide) (fun c_2 => ?_) (fun c_2 => ?_)
    · skip
      refine lv_iconst (v := (-1 : Int32)) hx hb dX4_get_27 (by decide) ?_
      rw [show r_X4_get i n f = (-1 : Int32) from (if_neg c_1).trans (if_pos c_2)]
      exact ct_iret cx hP hD hS dX4_get_28
    · skip
      refine lv_iload_n hx hb dX4_get_12 rfl (lv_at hl 1 rfl) ?_
      refine lv_bipush (v := (24 : Int32)) hx hb dX4_get_13 (by decide) ?_
      refine lv_icmp_ge (tgt := 27) hx hb dX4_get_15 (by decide) (fun c_3 => ?_) (fun c_3 => ?_)
      · skip
        refine lv_iconst (v := (-1 : Int32)) hx hb dX4_get_27 (by decide) ?_
        rw [show r_X4_get i n f = (-1 : Int32) from (if_neg c_1).trans ((if_neg c_2).trans (if_pos c_3))]
        exact ct_iret cx hP hD hS dX4_get_28
      · skip
        refine lv_aload_n hx hb dX4_get_18 rfl (lv_at hl 0 rfl) ?_
        refine ct_get (v := .ref a) cx hP 0 rfl rfl bwX4 0 rfl mm_71 rfl dX4_get_19 ?_
        refine lv_iload_n hx hb dX4_get_22 rfl (lv_at hl 1 rfl) ?_
        refine ct_iald cx hP 1 rfl (vp_of (Or.inl c_1) (Or.inl c_3) rfl) dX4_get_23 ?_
        refine lv_goto (tgt := 28) hx hb dX4_get_24 (by decide) ?_
        rw [show r_X4_get i n f = f i.toNatClampNeg from (if_neg c_1).trans ((if_neg c_2).trans (if_neg c_3))]
        exact ct_iret cx hP hD hS dX4_get_28
def r_X4_put (i : Int32) (b : Int32) (n : Int32) (f : Nat → Int32) : (Nat → Int32) := if i < (0 : Int32) then f else if n ≤ i then f else if (24 : Int32) ≤ i then f else upd f i.toNatClampNeg b
set_option maxHeartbeats 4000000 in
set_option maxRecDepth 100000 in
theorem c_X4_put (l : Launch) (D : va_G) (cyI cyZ : ClassId) (h : Nat) (a : Nat) (i : Int32) (b : Int32) (n : Int32) (f : Nat → Int32)  : CT l D cyI cyZ yX4_put cX4_put 3 none ({ frames := 0, cells := 0, slots := 0, locals := 0 }) [.ref h, .int i, .int b] [(h, .inr (4, [.ref a, .int n])), (a, .inl (cyI, 24, .inl f))] none [(h, .inr (4, [.ref a, .int n])), (a, .inl (cyI, 24, .inl (r_X4_put i b n f)))] := by
  refine ct_intro (by decide) (Nat.le_of_ble_eq_true rfl) ?_
  intro p e s m below meth c A ls cx hP hD hS hl
  obtain ⟨hx, hb, -⟩ := id cx
  refine lv_iload_n hx hb dX4_put_0 rfl (lv_at hl 1 rfl) ?_
  refine lv_if_lt (tgt := 25) hx hb dX4_put_1 (by decide) (fun c_1 => ?_) (fun c_1 => ?_)
  · skip
    rw [show r_X4_put i b n f = f from if_pos c_1]
    exact ct_vret cx hP hD hS dX4_put_25
  · skip
    refine lv_iload_n hx hb dX4_put_4 rfl (lv_at hl 1 rfl) ?_
    refine lv_aload_n hx hb dX4_put_5 rfl (lv_at hl 0 rfl) ?_
    refine ct_get (v := .int n) cx hP 0 rfl rfl bwX4 1 rfl mm_69 rfl dX4_put_6 ?_
    refine lv_icmp_ge (tgt := 25) hx hb dX4_put_9 (by decide) (fun c_2 => ?_) (fun c_2 => ?_)
    · skip
      rw [show r_X4_put i b n f = f from (if_neg c_1).trans (if_pos c_2)]
      exact ct_vret cx hP hD hS dX4_put_25
    · skip
      refine lv_iload_n hx hb dX4_put_12 rfl (lv_at hl 1 rfl) ?_
      refine lv_bipush (v := (24 : Int32)) hx hb dX4_put_13 (by decide) ?_
      refine lv_icmp_ge (tgt := 25) hx hb dX4_put_15 (by decide) (fun c_3 => ?_) (fun c_3 => ?_)
      · skip
        rw [show r_X4_put i b n f = f from (if_neg c_1).trans ((if_neg c_2).trans (if_pos c_3))]
        exact ct_vret cx hP hD hS dX4_put_25
      · skip
        refine lv_aload_n hx hb dX4_put_18 rfl (lv_at hl 0 rfl) ?_
        refine ct_get (v := .ref a) cx hP 0 rfl rfl bwX4 0 rfl mm_71 rfl dX4_put_19 ?_
        refine lv_iload_n hx hb dX4_put_22 rfl (lv_at hl 1 rfl) ?_
        refine lv_iload_n hx hb dX4_put_23 rfl (lv_at hl 2 rfl) ?_
        refine ct_iast (V3 := [(h, .inr (4, [.ref a, .int n])), (a, .inl (cyI, 24, .inl (upd f i.toNatClampNeg b)))]) cx hP hD hS 1 rfl (vp_of (Or.inl c_1) (Or.inl c_3) rfl) dX4_put_24 rfl (fun H locs hP hD hS => ?_)
        rw [show r_X4_put i b n f = upd f i.toNatClampNeg b from (if_neg c_1).trans ((if_neg c_2).trans (if_neg c_3))]
        exact ct_vret cx hP hD hS dX4_put_25
def r_X4_append (b : Int32) (n : Int32) (f : Nat → Int32) : Int32 × Int32 × (Nat → Int32) := if n < (0 : Int32) then ((0 : Int32), n, f) else if n < (24 : Int32) then ((1 : Int32), n + (1 : Int32), upd f n.toNatClampNeg b) else ((0 : Int32), n, f)
set_option maxHeartbeats 4000000 in
set_option maxRecDepth 100000 in
theorem c_X4_append (l : Launch) (D : va_G) (cyI cyZ : ClassId) (h : Nat) (a : Nat) (b : Int32) (n : Int32) (f : Nat → Int32)  : CT l D cyI cyZ yX4_append cX4_append 2 (some .boolean) ({ frames := 0, cells := 0, slots := 0, locals := 0 }) [.ref h, .int b] [(h, .inr (4, [.ref a, .int n])), (a, .inl (cyI, 24, .inl f))] (some (.int ((r_X4_append b n f).1))) [(h, .inr (4, [.ref a, .int ((r_X4_append b n f).2.1)])), (a, .inl (cyI, 24, .inl ((r_X4_append b n f).2.2)))] := by
  refine ct_intro (by decide) (Nat.le_of_ble_eq_true rfl) ?_
  intro p e s m below meth c A ls cx hP hD hS hl
  obtain ⟨hx, hb, -⟩ := id cx
  refine lv_aload_n hx hb dX4_append_0 rfl (lv_at hl 0 rfl) ?_
  refine ct_get (v := .int n) cx hP 0 rfl rfl bwX4 1 rfl mm_69 rfl dX4_append_1 ?_
  refine lv_if_lt (tgt := 16) hx hb dX4_append_4 (by decide) (fun c_1 => ?_) (fun c_1 => ?_)
  · skip
    refine lv_iconst (v := (0 : Int32)) hx hb dX4_append_16 (by decide) ?_
    rw [show r_X4_append b n f = ((0 : Int32), n, f) from if_pos c_1]
    dsimp only
    exact ct_zret (v := (0 : Int32)) cx hP hD hS rfl dX4_append_17
  · skip
    refine lv_aload_n hx hb dX4_append_7 rfl (lv_at hl 0 rfl) ?_
    refine ct_get (v := .int n) cx hP 0 rfl rfl bwX4 1 rfl mm_69 rfl dX4_append_8 ?_
    refine lv_bipush (v := (24 : Int32)) hx hb dX4_append_11 (by decide) ?_
    refine lv_icmp_lt (tgt := 18) hx hb dX4_append_13 (by decide) (fun c_2 => ?_) (fun c_2 => ?_)
    · skip
      refine lv_aload_n hx hb dX4_append_18 rfl (lv_at hl 0 rfl) ?_
      refine ct_get (v := .ref a) cx hP 0 rfl rfl bwX4 0 rfl mm_71 rfl dX4_append_19 ?_
      refine lv_aload_n hx hb dX4_append_22 rfl (lv_at hl 0 rfl) ?_
      refine ct_get (v := .int n) cx hP 0 rfl rfl bwX4 1 rfl mm_69 rfl dX4_append_23 ?_
      refine lv_iload_n hx hb dX4_append_26 rfl (lv_at hl 1 rfl) ?_
      refine ct_iast (V3 := [(h, .inr (4, [.ref a, .int n])), (a, .inl (cyI, 24, .inl (upd f n.toNatClampNeg b)))]) cx hP hD hS 1 rfl (vp_of (Or.inl c_1) (Or.inr c_2) rfl) dX4_append_27 rfl (fun H locs hP hD hS => ?_)
      refine lv_aload_n hx hb dX4_append_28 rfl (lv_at hl 0 rfl) ?_
      refine lv_dup hx hb dX4_append_29 rfl ?_
      refine ct_get (v := .int n) cx hP 0 rfl rfl bwX4 1 rfl mm_69 rfl dX4_append_30 ?_
      refine lv_iconst (v := (1 : Int32)) hx hb dX4_append_33 (by decide) ?_
      refine lv_iadd hx hb dX4_append_34 ?_
      refine ct_put (V3 := [(h, .inr (4, [.ref a, .int (n + (1 : Int32))])), (a, .inl (cyI, 24, .inl (upd f n.toNatClampNeg b)))]) cx hP hD hS 0 rfl rfl bwX4 tyX4_ok nmX4 1 rfl mm_69 rfl rfl rfl rfl dX4_append_35 rfl (fun H locs hP hD hS => ?_)
      refine lv_iconst (v := (1 : Int32)) hx hb dX4_append_38 (by decide) ?_
      rw [show r_X4_append b n f = ((1 : Int32), n + (1 : Int32), upd f n.toNatClampNeg b) from (if_neg c_1).trans (if_pos c_2)]
      dsimp only
      exact ct_zret (v := (1 : Int32)) cx hP hD hS rfl dX4_append_39
    · skip
      refine lv_iconst (v := (0 : Int32)) hx hb dX4_append_16 (by decide) ?_
      rw [show r_X4_append b n f = ((0 : Int32), n, f) from (if_neg c_1).trans (if_neg c_2)]
      dsimp only
      exact ct_zret (v := (0 : Int32)) cx hP hD hS rfl dX4_append_17
def r_X4_shorten (k : Int32) (n : Int32) (f : Nat → Int32) : Int32 := if k < (0 : Int32) then n else if n ≤ k then n else k
set_option maxHeartbeats 4000000 in
set_option maxRecDepth 100000 in
theorem c_X4_shorten (l : Launch) (D : va_G) (cyI cyZ : ClassId) (h : Nat) (a : Nat) (k : Int32) (n : Int32) (f : Nat → Int32)  : CT l D cyI cyZ yX4_shorten cX4_shorten 2 none ({ frames := 0, cells := 0, slots := 0, locals := 0 }) [.ref h, .int k] [(h, .inr (4, [.ref a, .int n])), (a, .inl (cyI, 24, .inl f))] none [(h, .inr (4, [.ref a, .int (r_X4_shorten k n f)])), (a, .inl (cyI, 24, .inl f))] := by
  refine ct_intro (by decide) (Nat.le_of_ble_eq_true rfl) ?_
  intro p e s m below meth c A ls cx hP hD hS hl
  obtain ⟨hx, hb, -⟩ := id cx
  refine lv_iload_n hx hb dX4_shorten_0 rfl (lv_at hl 1 rfl) ?_
  refine lv_if_lt (tgt := 17) hx hb dX4_shorten_1 (by decide) (fun c_1 => ?_) (fun c_1 => ?_)
  · skip
    rw [show r_X4_shorten k n f = n from if_pos c_1]
    exact ct_vret cx hP hD hS dX4_shorten_17
  · skip
    refine lv_iload_n hx hb dX4_shorten_4 rfl (lv_at hl 1 rfl) ?_
    refine lv_aload_n hx hb dX4_shorten_5 rfl (lv_at hl 0 rfl) ?_
    refine ct_get (v := .int n) cx hP 0 rfl rfl bwX4 1 rfl mm_69 rfl dX4_shorten_6 ?_
    refine lv_icmp_ge (tgt := 17) hx hb dX4_shorten_9 (by decide) (fun c_2 => ?_) (fun c_2 => ?_)
    · skip
      rw [show r_X4_shorten k n f = n from (if_neg c_1).trans (if_pos c_2)]
      exact ct_vret cx hP hD hS dX4_shorten_17
    · skip
      refine lv_aload_n hx hb dX4_shorten_12 rfl (lv_at hl 0 rfl) ?_
      refine lv_iload_n hx hb dX4_shorten_13 rfl (lv_at hl 1 rfl) ?_
      refine ct_put (V3 := [(h, .inr (4, [.ref a, .int k])), (a, .inl (cyI, 24, .inl f))]) cx hP hD hS 0 rfl rfl bwX4 tyX4_ok nmX4 1 rfl mm_69 rfl rfl rfl rfl dX4_shorten_14 rfl (fun H locs hP hD hS => ?_)
      rw [show r_X4_shorten k n f = k from (if_neg c_1).trans (if_neg c_2)]
      exact ct_vret cx hP hD hS dX4_shorten_17
theorem mu_has {i n : Int32} {f : Nat → Int32} {k : Nat} (h : ¬ r_X4_has i n f = 0) (hm : (24 - i.toInt).toNat < k + 1) : (24 - (i + 1).toInt).toNat < k := by
  unfold r_X4_has at h
  split at h
  · exact absurd rfl h
  · rename_i h0
    split at h
    · exact absurd rfl h
    · split at h
      · exact absurd rfl h
      · rename_i h2
        simp only [Int32.lt_iff_toInt_lt, Int32.le_iff_toInt_le] at h0 h2
        have e0 : (0 : Int32).toInt = 0 := rfl
        have e1 : (24 : Int32).toInt = 24 := rfl
        have e2 : (1 : Int32).toInt = 1 := rfl
        rw [e0] at h0
        rw [e1] at h2
        have e : (i + 1).toInt = i.toInt + 1 := by rw [fb_addI] <;> rw [e2] <;> omega
        omega
def g_X4_appendPart_3 (on : Int32) (of : Nat → Int32) (fr : Int32) (up : Int32) : Nat → Int32 → (Nat → Int32) → Int32 → Int32 × (Nat → Int32)
  | 0, _, _, _ => (0, fun _ => 0)
  | fu + 1, n, f, x4 => if up ≤ x4 then (n, f) else if (r_X4_has x4 on of) = (0 : Int32) then (n, f) else let u_6 : Int32 × Int32 × (Nat → Int32) := r_X4_append (r_X4_get x4 on of) n f; g_X4_appendPart_3 on of fr up fu u_6.2.1 u_6.2.2 (x4 + (1 : Int32))
def r_X4_appendPart (fr : Int32) (up : Int32) (n : Int32) (f : Nat → Int32) (on : Int32) (of : Nat → Int32) : Int32 × (Nat → Int32) := g_X4_appendPart_3 on of fr up ((24 - fr.toInt).toNat + 1) n f fr
set_option maxHeartbeats 4000000 in
set_option maxRecDepth 100000 in
theorem lp_X4_appendPart_3 {p : Program} {l : Launch} {e : Env} {s : State} {m : MethodId} {below : List Frame} {meth : Method} {c : Code} {D : va_G} {cyI cyZ : ClassId} {A : Nat → Prop} {av : Array Value} (cx : CX p s m meth c D cyI cyZ A yX4_appendPart cX4_appendPart 5 none av) (h : Nat) (a : Nat) (oh : Nat) (oa : Nat) (on : Int32) (of : Nat → Int32) (fr : Int32) (up : Int32)  : ∀ (fu : Nat) (n : Int32) (f : Nat → Int32) (x4 : Int32), (24 - x4.toInt).toNat < fu → ∀ (H : Heap) (locs : List Loc) (ls : Array Slot), va_P D vwCl [(h, .inr (4, [.ref a, .int n])), (a, .inl (cyI, 24, .inl f)), (oh, .inr (4, [.ref oa, .int on])), (oa, .inl (cyI, 24, .inl of))] H → va_D A [(h, .inr (4, [.ref a, .int n])), (a, .inl (cyI, 24, .inl f)), (oh, .inr (4, [.ref oa, .int on])), (oa, .inl (cyI, 24, .inl of))] → va_S A s.heap H locs → lv_has ls 5 [(0, .ref h), (1, .ref oh), (2, .int fr), (3, .int up), (4, .int x4)] → W p l e ({ frames := 1, cells := 0, slots := 0, locals := 21 }) s m av below meth c H locs 0 0 (MQ below (QX D A none [(h, .inr (4, [.ref a, .int ((g_X4_appendPart_3 on of fr up fu n f x4).1)])), (a, .inl (cyI, 24, .inl ((g_X4_appendPart_3 on of fr up fu n f x4).2))), (oh, .inr (4, [.ref oa, .int on])), (oa, .inl (cyI, 24, .inl of))]) av s 0 0 A) (F0 m 3 ls []) := by
  obtain ⟨hx, hb, -⟩ := id cx
  intro fu
  induction fu with
  | zero =>
    intro n f x4  hmu
    exact absurd hmu (Nat.not_lt_zero _)
  | succ fu ih =>
    intro n f x4  hmu H locs ls hP hD hS hl
    refine lv_iload hx hb dX4_appendPart_3 (lv_at hl 4 rfl) ?_
    refine lv_iload_n hx hb dX4_appendPart_5 rfl (lv_at hl 3 rfl) ?_
    refine lv_icmp_ge (tgt := 35) hx hb dX4_appendPart_6 (by decide) (fun c_4 => ?_) (fun c_4 => ?_)
    · skip
      rw [show g_X4_appendPart_3 on of fr up (fu + 1) n f x4 = (n, f) from if_pos c_4]
      dsimp only
      exact ct_vret cx hP hD hS dX4_appendPart_35
    · skip
      refine lv_aload_n hx hb dX4_appendPart_9 rfl (lv_at hl 1 rfl) ?_
      refine lv_iload hx hb dX4_appendPart_10 (lv_at hl 4 rfl) ?_
      refine ct_callV (As := [.int x4]) (rest := []) (st1 := [.int (r_X4_has x4 on of)]) (V3 := [(h, .inr (4, [.ref a, .int n])), (a, .inl (cyI, 24, .inl f)), (oh, .inr (4, [.ref oa, .int on])), (oa, .inl (cyI, 24, .inl of))]) cx (c_X4_has l D cyI cyZ oh oa x4 on of) hP hD hS [2, 3] [(false, 0), (false, 1), (true, 0), (true, 1)] ⟨rfl, rfl, rfl⟩ rfl rfl mm_155 mm_156 mm_157 mm_76 mm_152 dd_X4_has rfl hl.1 rfl dX4_appendPart_12 rfl (fun H locs hP hD hS => ?_)
      refine lv_if_eq (tgt := 35) hx hb dX4_appendPart_15 (by decide) (fun c_5 => ?_) (fun c_5 => ?_)
      · skip
        rw [show g_X4_appendPart_3 on of fr up (fu + 1) n f x4 = (n, f) from (if_neg c_4).trans (if_pos c_5)]
        dsimp only
        exact ct_vret cx hP hD hS dX4_appendPart_35
      · skip
        refine lv_aload_n hx hb dX4_appendPart_18 rfl (lv_at hl 0 rfl) ?_
        refine lv_aload_n hx hb dX4_appendPart_19 rfl (lv_at hl 1 rfl) ?_
        refine lv_iload hx hb dX4_appendPart_20 (lv_at hl 4 rfl) ?_
        refine ct_callV (As := [.int x4]) (rest := [.ref h]) (st1 := [.int (r_X4_get x4 on of), .ref h]) (V3 := [(h, .inr (4, [.ref a, .int n])), (a, .inl (cyI, 24, .inl f)), (oh, .inr (4, [.ref oa, .int on])), (oa, .inl (cyI, 24, .inl of))]) cx (c_X4_get l D cyI cyZ oh oa x4 on of) hP hD hS [2, 3] [(false, 0), (false, 1), (true, 0), (true, 1)] ⟨rfl, rfl, rfl⟩ rfl rfl mm_158 mm_78 mm_79 mm_76 mm_70 dd_X4_get rfl hl.1 rfl dX4_appendPart_22 rfl (fun H locs hP hD hS => ?_)
        refine ct_callV (As := [.int (r_X4_get x4 on of)]) (rest := []) (st1 := [.int ((r_X4_append (r_X4_get x4 on of) n f).1)]) (V3 := [(h, .inr (4, [.ref a, .int ((r_X4_append (r_X4_get x4 on of) n f).2.1)])), (a, .inl (cyI, 24, .inl ((r_X4_append (r_X4_get x4 on of) n f).2.2))), (oh, .inr (4, [.ref oa, .int on])), (oa, .inl (cyI, 24, .inl of))]) cx (c_X4_append l D cyI cyZ h a (r_X4_get x4 on of) n f) hP hD hS [0, 1] [(true, 0), (true, 1), (false, 2), (false, 3)] ⟨rfl, rfl, rfl⟩ rfl rfl mm_159 mm_160 mm_161 mm_76 mm_153 dd_X4_append rfl hl.1 rfl dX4_appendPart_25 rfl (fun H locs hP hD hS => ?_)
        obtain ⟨u_6, hu_6⟩ : ∃ z, z = r_X4_append (r_X4_get x4 on of) n f := ⟨_, rfl⟩
        rw [← hu_6] at hP hD ⊢
        refine lv_pop hx hb dX4_appendPart_28 rfl ?_
        refine lv_iinc (v := x4 + (1 : Int32)) (lv' := [(4, .int (x4 + (1 : Int32))), (0, .ref h), (1, .ref oh), (2, .int fr), (3, .int up)]) hx hb dX4_appendPart_29 hl (k := 4) rfl rfl (by decide) rfl (fun ls hl => ?_)
        refine lv_goto (tgt := 3) hx hb dX4_appendPart_32 (by decide) ?_
        rw [show g_X4_appendPart_3 on of fr up (fu + 1) n f x4 = g_X4_appendPart_3 on of fr up fu u_6.2.1 u_6.2.2 (x4 + (1 : Int32)) from (by subst hu_6; exact (if_neg c_4).trans (if_neg c_5))]
        exact ih u_6.2.1 u_6.2.2 (x4 + (1 : Int32))  (mu_has ‹_› hmu) _ _ _ hP hD hS (lv_sub hl [1, 2, 3, 4, 0] rfl)
set_option maxHeartbeats 4000000 in
set_option maxRecDepth 100000 in
theorem c_X4_appendPart (l : Launch) (D : va_G) (cyI cyZ : ClassId) (h : Nat) (a : Nat) (oh : Nat) (oa : Nat) (fr : Int32) (up : Int32) (n : Int32) (f : Nat → Int32) (on : Int32) (of : Nat → Int32)  : CT l D cyI cyZ yX4_appendPart cX4_appendPart 5 none ({ frames := 1, cells := 0, slots := 0, locals := 21 }) [.ref h, .ref oh, .int fr, .int up] [(h, .inr (4, [.ref a, .int n])), (a, .inl (cyI, 24, .inl f)), (oh, .inr (4, [.ref oa, .int on])), (oa, .inl (cyI, 24, .inl of))] none [(h, .inr (4, [.ref a, .int ((r_X4_appendPart fr up n f on of).1)])), (a, .inl (cyI, 24, .inl ((r_X4_appendPart fr up n f on of).2))), (oh, .inr (4, [.ref oa, .int on])), (oa, .inl (cyI, 24, .inl of))] := by
  refine ct_intro (by decide) (Nat.le_of_ble_eq_true rfl) ?_
  intro p e s m below meth c A ls cx hP hD hS hl
  obtain ⟨hx, hb, -⟩ := id cx
  refine lv_iload_n hx hb dX4_appendPart_0 rfl (lv_at hl 2 rfl) ?_
  refine lv_istore (lv' := [(4, .int fr), (0, .ref h), (1, .ref oh), (2, .int fr), (3, .int up)]) hx hb dX4_appendPart_1 hl (by decide) rfl (fun ls hl => ?_)
  rw [show r_X4_appendPart fr up n f on of = g_X4_appendPart_3 on of fr up ((24 - fr.toInt).toNat + 1) n f fr from rfl]
  exact (lp_X4_appendPart_3 cx h a oh oa on of fr up ) ((24 - fr.toInt).toNat + 1) n f fr  (Nat.lt_succ_self _) _ _ _ hP hD hS (lv_sub hl [1, 2, 3, 4, 0] rfl)
def r_X4_copy (n : Int32) (f : Nat → Int32) (on : Int32) (of : Nat → Int32) : Int32 × (Nat → Int32) := let u_1 : Int32 := r_X4_shorten (0 : Int32) n f; let u_2 : Int32 × (Nat → Int32) := r_X4_appendPart (0 : Int32) (24 : Int32) u_1 f on of; (u_2.1, u_2.2)
set_option maxHeartbeats 4000000 in
set_option maxRecDepth 100000 in
theorem c_X4_copy (l : Launch) (D : va_G) (cyI cyZ : ClassId) (h : Nat) (a : Nat) (oh : Nat) (oa : Nat) (n : Int32) (f : Nat → Int32) (on : Int32) (of : Nat → Int32)  : CT l D cyI cyZ yX4_copy cX4_copy 2 none ({ frames := 2, cells := 0, slots := 0, locals := 45 }) [.ref h, .ref oh] [(h, .inr (4, [.ref a, .int n])), (a, .inl (cyI, 24, .inl f)), (oh, .inr (4, [.ref oa, .int on])), (oa, .inl (cyI, 24, .inl of))] none [(h, .inr (4, [.ref a, .int ((r_X4_copy n f on of).1)])), (a, .inl (cyI, 24, .inl ((r_X4_copy n f on of).2))), (oh, .inr (4, [.ref oa, .int on])), (oa, .inl (cyI, 24, .inl of))] := by
  refine ct_intro (by decide) (Nat.le_of_ble_eq_true rfl) ?_
  intro p e s m below meth c A ls cx hP hD hS hl
  obtain ⟨hx, hb, -⟩ := id cx
  refine lv_aload_n hx hb dX4_copy_0 rfl (lv_at hl 0 rfl) ?_
  refine lv_iconst (v := (0 : Int32)) hx hb dX4_copy_1 (by decide) ?_
  refine ct_callV (As := [.int (0 : Int32)]) (rest := []) (st1 := []) (V3 := [(h, .inr (4, [.ref a, .int (r_X4_shorten (0 : Int32) n f)])), (a, .inl (cyI, 24, .inl f)), (oh, .inr (4, [.ref oa, .int on])), (oa, .inl (cyI, 24, .inl of))]) cx (c_X4_shorten l D cyI cyZ h a (0 : Int32) n f) hP hD hS [0, 1] [(true, 0), (true, 1), (false, 2), (false, 3)] ⟨rfl, rfl, rfl⟩ rfl rfl mm_163 mm_164 mm_165 mm_76 mm_151 dd_X4_shorten rfl hl.1 rfl dX4_copy_2 rfl (fun H locs hP hD hS => ?_)
  obtain ⟨u_1, hu_1⟩ : ∃ z, z = r_X4_shorten (0 : Int32) n f := ⟨_, rfl⟩
  rw [← hu_1] at hP hD
  refine lv_aload_n hx hb dX4_copy_5 rfl (lv_at hl 0 rfl) ?_
  refine lv_aload_n hx hb dX4_copy_6 rfl (lv_at hl 1 rfl) ?_
  refine lv_iconst (v := (0 : Int32)) hx hb dX4_copy_7 (by decide) ?_
  refine lv_bipush (v := (24 : Int32)) hx hb dX4_copy_8 (by decide) ?_
  refine ct_callV (As := [.ref oh, .int (0 : Int32), .int (24 : Int32)]) (rest := []) (st1 := []) (V3 := [(h, .inr (4, [.ref a, .int ((r_X4_appendPart (0 : Int32) (24 : Int32) u_1 f on of).1)])), (a, .inl (cyI, 24, .inl ((r_X4_appendPart (0 : Int32) (24 : Int32) u_1 f on of).2))), (oh, .inr (4, [.ref oa, .int on])), (oa, .inl (cyI, 24, .inl of))]) cx (c_X4_appendPart l D cyI cyZ h a oh oa (0 : Int32) (24 : Int32) u_1 f on of) hP hD hS [0, 1, 2, 3] [(true, 0), (true, 1), (true, 2), (true, 3)] ⟨rfl, rfl, rfl⟩ rfl rfl mm_166 mm_167 mm_168 mm_76 mm_154 dd_X4_appendPart rfl hl.1 rfl dX4_copy_10 rfl (fun H locs hP hD hS => ?_)
  obtain ⟨u_2, hu_2⟩ : ∃ z, z = r_X4_appendPart (0 : Int32) (24 : Int32) u_1 f on of := ⟨_, rfl⟩
  rw [← hu_2] at hP hD
  rw [show r_X4_copy n f on of = (u_2.1, u_2.2) from (by subst hu_2; subst hu_1; exact rfl)]
  dsimp only
  exact ct_vret cx hP hD hS dX4_copy_13
def r_X4_copyParts (up : Int32) (fr : Int32) (n : Int32) (f : Nat → Int32) (on : Int32) (of : Nat → Int32) : Int32 × (Nat → Int32) := let u_1 : Int32 := r_X4_shorten (0 : Int32) n f; let u_2 : Int32 × (Nat → Int32) := r_X4_appendPart (0 : Int32) up u_1 f on of; let u_3 : Int32 × (Nat → Int32) := r_X4_appendPart fr (24 : Int32) u_2.1 u_2.2 on of; (u_3.1, u_3.2)
set_option maxHeartbeats 4000000 in
set_option maxRecDepth 100000 in
theorem c_X4_copyParts (l : Launch) (D : va_G) (cyI cyZ : ClassId) (h : Nat) (a : Nat) (oh : Nat) (oa : Nat) (up : Int32) (fr : Int32) (n : Int32) (f : Nat → Int32) (on : Int32) (of : Nat → Int32)  : CT l D cyI cyZ yX4_copyParts cX4_copyParts 4 none ({ frames := 2, cells := 0, slots := 0, locals := 45 }) [.ref h, .ref oh, .int up, .int fr] [(h, .inr (4, [.ref a, .int n])), (a, .inl (cyI, 24, .inl f)), (oh, .inr (4, [.ref oa, .int on])), (oa, .inl (cyI, 24, .inl of))] none [(h, .inr (4, [.ref a, .int ((r_X4_copyParts up fr n f on of).1)])), (a, .inl (cyI, 24, .inl ((r_X4_copyParts up fr n f on of).2))), (oh, .inr (4, [.ref oa, .int on])), (oa, .inl (cyI, 24, .inl of))] := by
  refine ct_intro (by decide) (Nat.le_of_ble_eq_true rfl) ?_
  intro p e s m below meth c A ls cx hP hD hS hl
  obtain ⟨hx, hb, -⟩ := id cx
  refine lv_aload_n hx hb dX4_copyParts_0 rfl (lv_at hl 0 rfl) ?_
  refine lv_iconst (v := (0 : Int32)) hx hb dX4_copyParts_1 (by decide) ?_
  refine ct_callV (As := [.int (0 : Int32)]) (rest := []) (st1 := []) (V3 := [(h, .inr (4, [.ref a, .int (r_X4_shorten (0 : Int32) n f)])), (a, .inl (cyI, 24, .inl f)), (oh, .inr (4, [.ref oa, .int on])), (oa, .inl (cyI, 24, .inl of))]) cx (c_X4_shorten l D cyI cyZ h a (0 : Int32) n f) hP hD hS [0, 1] [(true, 0), (true, 1), (false, 2), (false, 3)] ⟨rfl, rfl, rfl⟩ rfl rfl mm_163 mm_164 mm_165 mm_76 mm_151 dd_X4_shorten rfl hl.1 rfl dX4_copyParts_2 rfl (fun H locs hP hD hS => ?_)
  obtain ⟨u_1, hu_1⟩ : ∃ z, z = r_X4_shorten (0 : Int32) n f := ⟨_, rfl⟩
  rw [← hu_1] at hP hD
  refine lv_aload_n hx hb dX4_copyParts_5 rfl (lv_at hl 0 rfl) ?_
  refine lv_aload_n hx hb dX4_copyParts_6 rfl (lv_at hl 1 rfl) ?_
  refine lv_iconst (v := (0 : Int32)) hx hb dX4_copyParts_7 (by decide) ?_
  refine lv_iload_n hx hb dX4_copyParts_8 rfl (lv_at hl 2 rfl) ?_
  refine ct_callV (As := [.ref oh, .int (0 : Int32), .int up]) (rest := []) (st1 := []) (V3 := [(h, .inr (4, [.ref a, .int ((r_X4_appendPart (0 : Int32) up u_1 f on of).1)])), (a, .inl (cyI, 24, .inl ((r_X4_appendPart (0 : Int32) up u_1 f on of).2))), (oh, .inr (4, [.ref oa, .int on])), (oa, .inl (cyI, 24, .inl of))]) cx (c_X4_appendPart l D cyI cyZ h a oh oa (0 : Int32) up u_1 f on of) hP hD hS [0, 1, 2, 3] [(true, 0), (true, 1), (true, 2), (true, 3)] ⟨rfl, rfl, rfl⟩ rfl rfl mm_166 mm_167 mm_168 mm_76 mm_154 dd_X4_appendPart rfl hl.1 rfl dX4_copyParts_9 rfl (fun H locs hP hD hS => ?_)
  obtain ⟨u_2, hu_2⟩ : ∃ z, z = r_X4_appendPart (0 : Int32) up u_1 f on of := ⟨_, rfl⟩
  rw [← hu_2] at hP hD
  refine lv_aload_n hx hb dX4_copyParts_12 rfl (lv_at hl 0 rfl) ?_
  refine lv_aload_n hx hb dX4_copyParts_13 rfl (lv_at hl 1 rfl) ?_
  refine lv_iload_n hx hb dX4_copyParts_14 rfl (lv_at hl 3 rfl) ?_
  refine lv_bipush (v := (24 : Int32)) hx hb dX4_copyParts_15 (by decide) ?_
  refine ct_callV (As := [.ref oh, .int fr, .int (24 : Int32)]) (rest := []) (st1 := []) (V3 := [(h, .inr (4, [.ref a, .int ((r_X4_appendPart fr (24 : Int32) u_2.1 u_2.2 on of).1)])), (a, .inl (cyI, 24, .inl ((r_X4_appendPart fr (24 : Int32) u_2.1 u_2.2 on of).2))), (oh, .inr (4, [.ref oa, .int on])), (oa, .inl (cyI, 24, .inl of))]) cx (c_X4_appendPart l D cyI cyZ h a oh oa fr (24 : Int32) u_2.1 u_2.2 on of) hP hD hS [0, 1, 2, 3] [(true, 0), (true, 1), (true, 2), (true, 3)] ⟨rfl, rfl, rfl⟩ rfl rfl mm_166 mm_167 mm_168 mm_76 mm_154 dd_X4_appendPart rfl hl.1 rfl dX4_copyParts_17 rfl (fun H locs hP hD hS => ?_)
  obtain ⟨u_3, hu_3⟩ : ∃ z, z = r_X4_appendPart fr (24 : Int32) u_2.1 u_2.2 on of := ⟨_, rfl⟩
  rw [← hu_3] at hP hD
  rw [show r_X4_copyParts up fr n f on of = (u_3.1, u_3.2) from (by subst hu_3; subst hu_2; subst hu_1; exact rfl)]
  dsimp only
  exact ct_vret cx hP hD hS dX4_copyParts_20
