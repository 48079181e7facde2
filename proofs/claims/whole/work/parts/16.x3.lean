theorem vp_fr {f c : Int32} (h0 : 0 ≤ f.toInt ∧ f.toInt < 20) (hc : 0 ≤ c.toInt ∧ c.toInt < 5) : vp_in (f * (5 : Int32) + c) 100 := vp_mad (k := 5) rfl (by omega) (by omega) (by omega) (by omega) (by omega) (by omega)
theorem nb_of {v : Int32} (h : v = 0 ∨ v = 1) : narrow .boolean (.int v) = .int v := by
  rcases h with rfl | rfl <;> rfl
set_option maxHeartbeats 4000000 in
set_option maxRecDepth 100000 in
theorem c_X3_size (l : Launch) (D : va_G) (cyI cyZ : ClassId) (h : Nat) (a : Nat) (sh : Nat) (sa : Nat) (sb : Nat) (f : Nat → Int32) (sn : Int32) (sf : Nat → Int32) (sz : Nat → Int32)  : CT l D cyI cyZ yX3_size cX3_size 1 (some .int) ({ frames := 1, cells := 0, slots := 0, locals := 20 }) [.ref h] [(h, .inr (3, [.ref a, .ref sh])), (a, .inl (cyI, 100, .inl f)), (sh, .inr (6, [.int (nI 20), .ref sa, .ref sb, .int sn])), (sa, .inl (cyI, 20 * 24, .inl sf)), (sb, .inl (cyI, 20, .inl sz))] (some (.int sn)) [(h, .inr (3, [.ref a, .ref sh])), (a, .inl (cyI, 100, .inl f)), (sh, .inr (6, [.int (nI 20), .ref sa, .ref sb, .int sn])), (sa, .inl (cyI, 20 * 24, .inl sf)), (sb, .inl (cyI, 20, .inl sz))] := by
  refine ct_intro (by decide) (Nat.le_of_ble_eq_true rfl) ?_
  intro p e s m below meth c A ls cx hP hD hS hl
  obtain ⟨hx, hb, -⟩ := id cx
  refine lv_aload_n hx hb dX3_size_0 rfl (lv_at hl 0 rfl) ?_
  refine ct_get (v := .ref sh) cx hP 0 rfl rfl bwX3 1 rfl mm_19 rfl dX3_size_1 ?_
  refine ct_callV (As := []) (rest := []) (st1 := [.int sn]) (V3 := [(h, .inr (3, [.ref a, .ref sh])), (a, .inl (cyI, 100, .inl f)), (sh, .inr (6, [.int (nI 20), .ref sa, .ref sb, .int sn])), (sa, .inl (cyI, 20 * 24, .inl sf)), (sb, .inl (cyI, 20, .inl sz))]) cx (c_X6_size l D cyI cyZ sh sa sb 20 sn sf sz) hP hD hS [2, 3, 4] [(false, 0), (false, 1), (true, 0), (true, 1), (true, 2)] ⟨rfl, rfl, rfl⟩ rfl rfl mm_84 mm_85 mm_86 mm_18 mm_82 dd_X6_size rfl hl.1 rfl dX3_size_4 rfl (fun H locs hP hD hS => ?_)
  exact ct_iret cx hP hD hS dX3_size_7
def r_X3_has (i : Int32) (f : Nat → Int32) (sn : Int32) (sf : Nat → Int32) (sz : Nat → Int32) : Int32 := if i < (0 : Int32) then (0 : Int32) else if (20 : Int32) ≤ i then (0 : Int32) else if sn ≤ i then (0 : Int32) else (1 : Int32)
set_option maxHeartbeats 4000000 in
set_option maxRecDepth 100000 in
theorem c_X3_has (l : Launch) (D : va_G) (cyI cyZ : ClassId) (h : Nat) (a : Nat) (sh : Nat) (sa : Nat) (sb : Nat) (i : Int32) (f : Nat → Int32) (sn : Int32) (sf : Nat → Int32) (sz : Nat → Int32)  : CT l D cyI cyZ yX3_has cX3_has 2 (some .boolean) ({ frames := 1, cells := 0, slots := 0, locals := 20 }) [.ref h, .int i] [(h, .inr (3, [.ref a, .ref sh])), (a, .inl (cyI, 100, .inl f)), (sh, .inr (6, [.int (nI 20), .ref sa, .ref sb, .int sn])), (sa, .inl (cyI, 20 * 24, .inl sf)), (sb, .inl (cyI, 20, .inl sz))] (some (.int (r_X3_has i f sn sf sz))) [(h, .inr (3, [.ref a, .ref sh])), (a, .inl (cyI, 100, .inl f)), (sh, .inr (6, [.int (nI 20), .ref sa, .ref sb, .int sn])), (sa, .inl (cyI, 20 * 24, .inl sf)), (sb, .inl (cyI, 20, .inl sz))] := by
  refine ct_intro (by decide) (Nat.le_of_ble_eq_true rfl) ?_
  intro p e s m below meth c A ls cx hP hD hS hl
  obtain ⟨hx, hb, -⟩ := id cx
  refine lv_iload_n hx hb dX3_has_0 rfl (lv_at hl 1 rfl) ?_
  refine lv_if_lt (tgt := 25) hx hb dX3_has_1 (by decide) (fun c_1 => ?_) (fun c_1 => ?_)
  · skip
    refine lv_iconst (v := (0 : Int32)) hx hb dX3_has_25 (by decide) ?_
    rw [show r_X3_has i f sn sf sz = (0 : Int32) from if_pos c_1]
    exact ct_zret (v := (0 : Int32)) cx hP hD hS rfl dX3_has_26
  · skip
    refine lv_iload_n hx hb dX3_has_4 rfl (lv_at hl 1 rfl) ?_
    refine lv_bipush (v := (20 : Int32)) hx hb dX3_has_5 (by decide) ?_
    refine lv_icmp_ge (tgt := 25) hx hb dX3_has_7 (by decide) (fun c_2 => ?_) (fun c_2 => ?_)
    · skip
      refine lv_iconst (v := (0 : Int32)) hx hb dX3_has_25 (by decide) ?_
      rw [show r_X3_has i f sn sf sz = (0 : Int32) from (if_neg c_1).trans (if_pos c_2)]
      exact ct_zret (v := (0 : Int32)) cx hP hD hS rfl dX3_has_26
    · skip
      refine lv_iload_n hx hb dX3_has_10 rfl (lv_at hl 1 rfl) ?_
      refine lv_aload_n hx hb dX3_has_11 rfl (lv_at hl 0 rfl) ?_
      refine ct_get (v := .ref sh) cx hP 0 rfl rfl bwX3 1 rfl mm_19 rfl dX3_has_12 ?_
      refine ct_callV (As := []) (rest := [.int i]) (st1 := [.int sn, .int i]) (V3 := [(h, .inr (3, [.ref a, .ref sh])), (a, .inl (cyI, 100, .inl f)), (sh, .inr (6, [.int (nI 20), .ref sa, .ref sb, .int sn])), (sa, .inl (cyI, 20 * 24, .inl sf)), (sb, .inl (cyI, 20, .inl sz))]) cx (c_X6_size l D cyI cyZ sh sa sb 20 sn sf sz) hP hD hS [2, 3, 4] [(false, 0), (false, 1), (true, 0), (true, 1), (true, 2)] ⟨rfl, rfl, rfl⟩ rfl rfl mm_84 mm_85 mm_86 mm_18 mm_82 dd_X6_size rfl hl.1 rfl dX3_has_15 rfl (fun H locs hP hD hS => ?_)
      refine lv_icmp_ge (tgt := 25) hx hb dX3_has_18 (by decide) (fun c_3 => ?_) (fun c_3 => ?_)
      · skip
        refine lv_iconst (v := (0 : Int32)) hx hb dX3_has_25 (by decide) ?_
        rw [show r_X3_has i f sn sf sz = (0 : Int32) from (if_neg c_1).trans ((if_neg c_2).trans (if_pos c_3))]
        exact ct_zret (v := (0 : Int32)) cx hP hD hS rfl dX3_has_26
      · skip
        refine lv_iconst (v := (1 : Int32)) hx hb dX3_has_21 (by decide) ?_
        refine lv_goto (tgt := 26) hx hb dX3_has_22 (by decide) ?_
        rw [show r_X3_has i f sn sf sz = (1 : Int32) from (if_neg c_1).trans ((if_neg c_2).trans (if_neg c_3))]
        exact ct_zret (v := (1 : Int32)) cx hP hD hS rfl dX3_has_26
theorem h3_b {i sn : Int32} {f sf sz : Nat → Int32} (h : ¬ r_X3_has i f sn sf sz = 0) : 0 ≤ i.toInt ∧ i.toInt < 20 := by
  unfold r_X3_has at h
  split at h
  · exact absurd rfl h
  · rename_i h0
    split at h
    · exact absurd rfl h
    · rename_i h1
      simp only [sg_lt, sg_le] at h0 h1
      have e0 : (0 : Int32).toInt = 0 := rfl
      have e2 : (20 : Int32).toInt = 20 := rfl
      rw [e0] at h0
      rw [e2] at h1
      omega
theorem w_b {w : Int32} (h0 : ¬ w < 0) (h1 : ¬ (5 : Int32) ≤ w) : 0 ≤ w.toInt ∧ w.toInt < 5 := by
  simp only [sg_lt, sg_le] at h0 h1
  have e0 : (0 : Int32).toInt = 0 := rfl
  have e2 : (5 : Int32).toInt = 5 := rfl
  rw [e0] at h0
  rw [e2] at h1
  omega
set_option maxHeartbeats 4000000 in
set_option maxRecDepth 100000 in
theorem c_X3_firsts (l : Launch) (D : va_G) (cyI cyZ : ClassId) (h : Nat) (a : Nat) (sh : Nat) (sa : Nat) (sb : Nat) (f : Nat → Int32) (sn : Int32) (sf : Nat → Int32) (sz : Nat → Int32)  : CT l D cyI cyZ yX3_firsts cX3_firsts 1 (some (.object "ShrinkBench$Shelf")) ({ frames := 0, cells := 0, slots := 0, locals := 0 }) [.ref h] [(h, .inr (3, [.ref a, .ref sh])), (a, .inl (cyI, 100, .inl f)), (sh, .inr (6, [.int (nI 20), .ref sa, .ref sb, .int sn])), (sa, .inl (cyI, 20 * 24, .inl sf)), (sb, .inl (cyI, 20, .inl sz))] (some (.ref sh)) [(h, .inr (3, [.ref a, .ref sh])), (a, .inl (cyI, 100, .inl f)), (sh, .inr (6, [.int (nI 20), .ref sa, .ref sb, .int sn])), (sa, .inl (cyI, 20 * 24, .inl sf)), (sb, .inl (cyI, 20, .inl sz))] := by
  refine ct_intro (by decide) (Nat.le_of_ble_eq_true rfl) ?_
  intro p e s m below meth c A ls cx hP hD hS hl
  obtain ⟨hx, hb, -⟩ := id cx
  refine lv_aload_n hx hb dX3_firsts_0 rfl (lv_at hl 0 rfl) ?_
  refine ct_get (v := .ref sh) cx hP 0 rfl rfl bwX3 1 rfl mm_19 rfl dX3_firsts_1 ?_
  exact ct_aret cx hP hD hS (Or.inr ⟨_, rfl⟩) dX3_firsts_4
def r_X3_part (i : Int32) (what : Int32) (f : Nat → Int32) (sn : Int32) (sf : Nat → Int32) (sz : Nat → Int32) : Int32 := if (r_X3_has i f sn sf sz) = (0 : Int32) then (-1 : Int32) else if what < (0 : Int32) then (-1 : Int32) else if (5 : Int32) ≤ what then (-1 : Int32) else f (((i * (5 : Int32)) + what).toNatClampNeg)
set_option maxHeartbeats 4000000 in
set_option maxRecDepth 100000 in
theorem c_X3_part (l : Launch) (D : va_G) (cyI cyZ : ClassId) (h : Nat) (a : Nat) (sh : Nat) (sa : Nat) (sb : Nat) (i : Int32) (what : Int32) (f : Nat → Int32) (sn : Int32) (sf : Nat → Int32) (sz : Nat → Int32)  : CT l D cyI cyZ yX3_part cX3_part 3 (some .int) ({ frames := 2, cells := 0, slots := 0, locals := 41 }) [.ref h, .int i, .int what] [(h, .inr (3, [.ref a, .ref sh])), (a, .inl (cyI, 100, .inl f)), (sh, .inr (6, [.int (nI 20), .ref sa, .ref sb, .int sn])), (sa, .inl (cyI, 20 * 24, .inl sf)), (sb, .inl (cyI, 20, .inl sz))] (some (.int (r_X3_part i what f sn sf sz))) [(h, .inr (3, [.ref a, .ref sh])), (a, .inl (cyI, 100, .inl f)), (sh, .inr (6, [.int (nI 20), .ref sa, .ref sb, .int sn])), (sa, .inl (cyI, 20 * 24, .inl sf)), (sb, .inl (cyI, 20, .inl sz))] := by
  refine ct_intro (by decide) (Nat.le_of_ble_eq_true rfl) ?_
  intro p e s m below meth c A ls cx hP hD hS hl
  obtain ⟨hx, hb, -⟩ := id cx
  refine lv_aload_n hx hb dX3_part_0 rfl (lv_at hl 0 rfl) ?_
  refine lv_iload_n hx hb dX3_part_1 rfl (lv_at hl 1 rfl) ?_
  refine ct_callV (As := [.int i]) (rest := []) (st1 := [.int (r_X3_has i f sn sf sz)]) (V3 := [(h, .inr (3, [.ref a, .ref sh])), (a, .inl (cyI, 100, .inl f)), (sh, .inr (6, [.int (nI 20), .ref sa, .ref sb, .int sn])), (sa, .inl (cyI, 20 * 24, .inl sf)), (sb, .inl (cyI, 20, .inl sz))]) cx (c_X3_has l D cyI cyZ h a sh sa sb i f sn sf sz) hP hD hS [0, 1, 2, 3, 4] [(true, 0), (true, 1), (true, 2), (true, 3), (true, 4)] ⟨rfl, rfl, rfl⟩ rfl rfl mm_93 mm_94 mm_95 mm_27 mm_87 dd_X3_has rfl hl.1 rfl dX3_part_2 rfl (fun H locs hP hD hS => ?_)
  refine lv_if_eq (tgt := 30) hx hb dX3_part_5 (by decide) (fun c_1 => ?_) (fun c_1 => ?_)
  · skip
    refine lv_iconst (v := (-1 : Int32)) hx hb dX3_part_30 (by decide) ?_
    rw [show r_X3_part i what f sn sf sz = (-1 : Int32) from if_pos c_1]
    exact ct_iret cx hP hD hS dX3_part_31
  · skip
    refine lv_iload_n hx hb dX3_part_8 rfl (lv_at hl 2 rfl) ?_
    refine lv_if_lt (tgt := 30) hx hb dX3_part_9 (by decide) (fun c_2 => ?_) (fun c_2 => ?_)
    · skip
      refine lv_iconst (v := (-1 : Int32)) hx hb dX3_part_30 (by decide) ?_
      rw [show r_X3_part i what f sn sf sz = (-1 : Int32) from (if_neg c_1).trans (if_pos c_2)]
      exact ct_iret cx hP hD hS dX3_part_31
    · skip
      refine lv_iload_n hx hb dX3_part_12 rfl (lv_at hl 2 rfl) ?_
      refine lv_iconst (v := (5 : Int32)) hx hb dX3_part_13 (by decide) ?_
      refine lv_icmp_ge (tgt := 30) hx hb dX3_part_14 (by decide) (fun c_3 => ?_) (fun c_3 => ?_)
      · skip
        refine lv_iconst (v := (-1 : Int32)) hx hb dX3_part_30 (by decide) ?_
        rw [show r_X3_part i what f sn sf sz = (-1 : Int32) from (if_neg c_1).trans ((if_neg c_2).trans (if_pos c_3))]
        exact ct_iret cx hP hD hS dX3_part_31
      · skip
        refine lv_aload_n hx hb dX3_part_17 rfl (lv_at hl 0 rfl) ?_
        refine ct_get (v := .ref a) cx hP 0 rfl rfl bwX3 0 rfl mm_15 rfl dX3_part_18 ?_
        refine lv_iload_n hx hb dX3_part_21 rfl (lv_at hl 1 rfl) ?_
        refine lv_iconst (v := (5 : Int32)) hx hb dX3_part_22 (by decide) ?_
        refine lv_imul hx hb dX3_part_23 ?_
        refine lv_iload_n hx hb dX3_part_24 rfl (lv_at hl 2 rfl) ?_
        refine lv_iadd hx hb dX3_part_25 ?_
        refine ct_iald cx hP 1 rfl (vp_fr (h3_b c_1) (w_b c_2 c_3)) dX3_part_26 ?_
        refine lv_goto (tgt := 31) hx hb dX3_part_27 (by decide) ?_
        rw [show r_X3_part i what f sn sf sz = f (((i * (5 : Int32)) + what).toNatClampNeg) from (if_neg c_1).trans ((if_neg c_2).trans (if_neg c_3))]
        exact ct_iret cx hP hD hS dX3_part_31
def r_X3_matches (i : Int32) (f : Nat → Int32) (sn : Int32) (sf : Nat → Int32) (sz : Nat → Int32) (tg : Nat → Int32) (tF : Nat → Nat → Int32) : Int32 := if (r_X3_has i f sn sf sz) = (0 : Int32) then (0 : Int32) else if (f (((i * (5 : Int32)) + (0 : Int32)).toNatClampNeg)) = (tg 5) then (if (f (((i * (5 : Int32)) + (1 : Int32)).toNatClampNeg)) = (tg 6) then (if (f (((i * (5 : Int32)) + (2 : Int32)).toNatClampNeg)) = (r_X7_openCall (0 : Int32) tg tF) then (if (f (((i * (5 : Int32)) + (3 : Int32)).toNatClampNeg)) = (r_X7_openCall (1 : Int32) tg tF) then (1 : Int32) else (0 : Int32)) else (0 : Int32)) else (0 : Int32)) else (0 : Int32)
set_option maxHeartbeats 4000000 in
set_option maxRecDepth 100000 in
theorem c_X3_matches (l : Launch) (D : va_G) (cyI cyZ : ClassId) (h : Nat) (a : Nat) (sh : Nat) (sa : Nat) (sb : Nat) (th : Nat) (ta0 : Nat) (ta1 : Nat) (ta2 : Nat) (ta3 : Nat) (i : Int32) (f : Nat → Int32) (sn : Int32) (sf : Nat → Int32) (sz : Nat → Int32) (tg : Nat → Int32) (tF : Nat → Nat → Int32)  : CT l D cyI cyZ yX3_matches cX3_matches 4 (some .boolean) ({ frames := 2, cells := 0, slots := 0, locals := 41 }) [.ref h, .int i, .ref th] [(h, .inr (3, [.ref a, .ref sh])), (a, .inl (cyI, 100, .inl f)), (sh, .inr (6, [.int (nI 20), .ref sa, .ref sb, .int sn])), (sa, .inl (cyI, 20 * 24, .inl sf)), (sb, .inl (cyI, 20, .inl sz)), (th, .inr (7, [.ref ta0, .ref ta1, .ref ta2, .ref ta3, .int (tg 4), .int (tg 5), .int (tg 6), .int (tg 7), .int (tg 8), .int (tg 9), .int (tg 10), .int (tg 11)])), (ta0, .inl (cyI, 8, .inl (tF 0))), (ta1, .inl (cyI, 16, .inl (tF 1))), (ta2, .inl (cyI, 8, .inl (tF 2))), (ta3, .inl (cyI, 160, .inl (tF 3)))] (some (.int (r_X3_matches i f sn sf sz tg tF))) [(h, .inr (3, [.ref a, .ref sh])), (a, .inl (cyI, 100, .inl f)), (sh, .inr (6, [.int (nI 20), .ref sa, .ref sb, .int sn])), (sa, .inl (cyI, 20 * 24, .inl sf)), (sb, .inl (cyI, 20, .inl sz)), (th, .inr (7, [.ref ta0, .ref ta1, .ref ta2, .ref ta3, .int (tg 4), .int (tg 5), .int (tg 6), .int (tg 7), .int (tg 8), .int (tg 9), .int (tg 10), .int (tg 11)])), (ta0, .inl (cyI, 8, .inl (tF 0))), (ta1, .inl (cyI, 16, .inl (tF 1))), (ta2, .inl (cyI, 8, .inl (tF 2))), (ta3, .inl (cyI, 160, .inl (tF 3)))] := by
  refine ct_intro (by decide) (Nat.le_of_ble_eq_true rfl) ?_
  intro p e s m below meth c A ls cx hP hD hS hl
  obtain ⟨hx, hb, -⟩ := id cx
  refine lv_aload_n hx hb dX3_matches_0 rfl (lv_at hl 0 rfl) ?_
  refine lv_iload_n hx hb dX3_matches_1 rfl (lv_at hl 1 rfl) ?_
  refine ct_callV (As := [.int i]) (rest := []) (st1 := [.int (r_X3_has i f sn sf sz)]) (V3 := [(h, .inr (3, [.ref a, .ref sh])), (a, .inl (cyI, 100, .inl f)), (sh, .inr (6, [.int (nI 20), .ref sa, .ref sb, .int sn])), (sa, .inl (cyI, 20 * 24, .inl sf)), (sb, .inl (cyI, 20, .inl sz)), (th, .inr (7, [.ref ta0, .ref ta1, .ref ta2, .ref ta3, .int (tg 4), .int (tg 5), .int (tg 6), .int (tg 7), .int (tg 8), .int (tg 9), .int (tg 10), .int (tg 11)])), (ta0, .inl (cyI, 8, .inl (tF 0))), (ta1, .inl (cyI, 16, .inl (tF 1))), (ta2, .inl (cyI, 8, .inl (tF 2))), (ta3, .inl (cyI, 160, .inl (tF 3)))]) cx (c_X3_has l D cyI cyZ h a sh sa sb i f sn sf sz) hP hD hS [0, 1, 2, 3, 4] [(true, 0), (true, 1), (true, 2), (true, 3), (true, 4), (false, 5), (false, 6), (false, 7), (false, 8), (false, 9)] ⟨rfl, rfl, rfl⟩ rfl rfl mm_93 mm_94 mm_95 mm_27 mm_87 dd_X3_has rfl hl.1 rfl dX3_matches_2 rfl (fun H locs hP hD hS => ?_)
  refine lv_if_ne (tgt := 10) hx hb dX3_matches_5 (by decide) (fun c_1 => ?_) (fun c_1 => ?_)
  · skip
    refine lv_iload_n hx hb dX3_matches_10 rfl (lv_at hl 1 rfl) ?_
    refine lv_iconst (v := (5 : Int32)) hx hb dX3_matches_11 (by decide) ?_
    refine lv_imul hx hb dX3_matches_12 ?_
    refine lv_istore_n (lv' := [(3, .int (i * (5 : Int32))), (0, .ref h), (1, .int i), (2, .ref th)]) hx hb dX3_matches_13 rfl hl (by decide) rfl (fun ls hl => ?_)
    refine lv_aload_n hx hb dX3_matches_14 rfl (lv_at hl 1 rfl) ?_
    refine ct_get (v := .ref a) cx hP 0 rfl rfl bwX3 0 rfl mm_15 rfl dX3_matches_15 ?_
    refine lv_iload_n hx hb dX3_matches_18 rfl (lv_at hl 0 rfl) ?_
    refine lv_iconst (v := (0 : Int32)) hx hb dX3_matches_19 (by decide) ?_
    refine lv_iadd hx hb dX3_matches_20 ?_
    refine ct_iald cx hP 1 rfl (vp_fr (h3_b c_1) (by decide)) dX3_matches_21 ?_
    refine lv_aload_n hx hb dX3_matches_22 rfl (lv_at hl 3 rfl) ?_
    refine ct_callV (As := []) (rest := [.int (f (((i * (5 : Int32)) + (0 : Int32)).toNatClampNeg))]) (st1 := [.int (tg 5), .int (f (((i * (5 : Int32)) + (0 : Int32)).toNatClampNeg))]) (V3 := [(h, .inr (3, [.ref a, .ref sh])), (a, .inl (cyI, 100, .inl f)), (sh, .inr (6, [.int (nI 20), .ref sa, .ref sb, .int sn])), (sa, .inl (cyI, 20 * 24, .inl sf)), (sb, .inl (cyI, 20, .inl sz)), (th, .inr (7, [.ref ta0, .ref ta1, .ref ta2, .ref ta3, .int (tg 4), .int (tg 5), .int (tg 6), .int (tg 7), .int (tg 8), .int (tg 9), .int (tg 10), .int (tg 11)])), (ta0, .inl (cyI, 8, .inl (tF 0))), (ta1, .inl (cyI, 16, .inl (tF 1))), (ta2, .inl (cyI, 8, .inl (tF 2))), (ta3, .inl (cyI, 160, .inl (tF 3)))]) cx (c_X7_kind l D cyI cyZ th ta0 ta1 ta2 ta3 tg tF) hP hD hS [5, 6, 7, 8, 9] [(false, 0), (false, 1), (false, 2), (false, 3), (false, 4), (true, 0), (true, 1), (true, 2), (true, 3), (true, 4)] ⟨rfl, rfl, rfl⟩ rfl rfl mm_96 mm_97 mm_98 mm_42 mm_80 dd_X7_kind rfl hl.1 rfl dX3_matches_23 rfl (fun H locs hP hD hS => ?_)
    refine lv_icmp_ne (tgt := 80) hx hb dX3_matches_26 (by decide) (fun c_2 => ?_) (fun c_2 => ?_)
    · skip
      refine lv_iconst (v := (0 : Int32)) hx hb dX3_matches_80 (by decide) ?_
      rw [show r_X3_matches i f sn sf sz tg tF = (0 : Int32) from (if_neg c_1).trans (if_neg c_2)]
      exact ct_zret (v := (0 : Int32)) cx hP hD hS rfl dX3_matches_81
    · skip
      refine lv_aload_n hx hb dX3_matches_29 rfl (lv_at hl 1 rfl) ?_
      refine ct_get (v := .ref a) cx hP 0 rfl rfl bwX3 0 rfl mm_15 rfl dX3_matches_30 ?_
      refine lv_iload_n hx hb dX3_matches_33 rfl (lv_at hl 0 rfl) ?_
      refine lv_iconst (v := (1 : Int32)) hx hb dX3_matches_34 (by decide) ?_
      refine lv_iadd hx hb dX3_matches_35 ?_
      refine ct_iald cx hP 1 rfl (vp_fr (h3_b c_1) (by decide)) dX3_matches_36 ?_
      refine lv_aload_n hx hb dX3_matches_37 rfl (lv_at hl 3 rfl) ?_
      refine ct_callV (As := []) (rest := [.int (f (((i * (5 : Int32)) + (1 : Int32)).toNatClampNeg))]) (st1 := [.int (tg 6), .int (f (((i * (5 : Int32)) + (1 : Int32)).toNatClampNeg))]) (V3 := [(h, .inr (3, [.ref a, .ref sh])), (a, .inl (cyI, 100, .inl f)), (sh, .inr (6, [.int (nI 20), .ref sa, .ref sb, .int sn])), (sa, .inl (cyI, 20 * 24, .inl sf)), (sb, .inl (cyI, 20, .inl sz)), (th, .inr (7, [.ref ta0, .ref ta1, .ref ta2, .ref ta3, .int (tg 4), .int (tg 5), .int (tg 6), .int (tg 7), .int (tg 8), .int (tg 9), .int (tg 10), .int (tg 11)])), (ta0, .inl (cyI, 8, .inl (tF 0))), (ta1, .inl (cyI, 16, .inl (tF 1))), (ta2, .inl (cyI, 8, .inl (tF 2))), (ta3, .inl (cyI, 160, .inl (tF 3)))]) cx (c_X7_place l D cyI cyZ th ta0 ta1 ta2 ta3 tg tF) hP hD hS [5, 6, 7, 8, 9] [(false, 0), (false, 1), (false, 2), (false, 3), (false, 4), (true, 0), (true, 1), (true, 2), (true, 3), (true, 4)] ⟨rfl, rfl, rfl⟩ rfl rfl mm_99 mm_100 mm_101 mm_42 mm_88 dd_X7_place rfl hl.1 rfl dX3_matches_38 rfl (fun H locs hP hD hS => ?_)
      refine lv_icmp_ne (tgt := 80) hx hb dX3_matches_41 (by decide) (fun c_3 => ?_) (fun c_3 => ?_)
      · skip
        refine lv_iconst (v := (0 : Int32)) hx hb dX3_matches_80 (by decide) ?_
        rw [show r_X3_matches i f sn sf sz tg tF = (0 : Int32) from (if_neg c_1).trans ((if_pos c_2).trans (if_neg c_3))]
        exact ct_zret (v := (0 : Int32)) cx hP hD hS rfl dX3_matches_81
      · skip
        refine lv_aload_n hx hb dX3_matches_44 rfl (lv_at hl 1 rfl) ?_
        refine ct_get (v := .ref a) cx hP 0 rfl rfl bwX3 0 rfl mm_15 rfl dX3_matches_45 ?_
        refine lv_iload_n hx hb dX3_matches_48 rfl (lv_at hl 0 rfl) ?_
        refine lv_iconst (v := (2 : Int32)) hx hb dX3_matches_49 (by decide) ?_
        refine lv_iadd hx hb dX3_matches_50 ?_
        refine ct_iald cx hP 1 rfl (vp_fr (h3_b c_1) (by decide)) dX3_matches_51 ?_
        refine lv_aload_n hx hb dX3_matches_52 rfl (lv_at hl 3 rfl) ?_
        refine lv_iconst (v := (0 : Int32)) hx hb dX3_matches_53 (by decide) ?_
        refine ct_callV (As := [.int (0 : Int32)]) (rest := [.int (f (((i * (5 : Int32)) + (2 : Int32)).toNatClampNeg))]) (st1 := [.int (r_X7_openCall (0 : Int32) tg tF), .int (f (((i * (5 : Int32)) + (2 : Int32)).toNatClampNeg))]) (V3 := [(h, .inr (3, [.ref a, .ref sh])), (a, .inl (cyI, 100, .inl f)), (sh, .inr (6, [.int (nI 20), .ref sa, .ref sb, .int sn])), (sa, .inl (cyI, 20 * 24, .inl sf)), (sb, .inl (cyI, 20, .inl sz)), (th, .inr (7, [.ref ta0, .ref ta1, .ref ta2, .ref ta3, .int (tg 4), .int (tg 5), .int (tg 6), .int (tg 7), .int (tg 8), .int (tg 9), .int (tg 10), .int (tg 11)])), (ta0, .inl (cyI, 8, .inl (tF 0))), (ta1, .inl (cyI, 16, .inl (tF 1))), (ta2, .inl (cyI, 8, .inl (tF 2))), (ta3, .inl (cyI, 160, .inl (tF 3)))]) cx (c_X7_openCall l D cyI cyZ th ta0 ta1 ta2 ta3 (0 : Int32) tg tF) hP hD hS [5, 6, 7, 8, 9] [(false, 0), (false, 1), (false, 2), (false, 3), (false, 4), (true, 0), (true, 1), (true, 2), (true, 3), (true, 4)] ⟨rfl, rfl, rfl⟩ rfl rfl mm_102 mm_103 mm_104 mm_42 mm_90 dd_X7_openCall rfl hl.1 rfl dX3_matches_54 rfl (fun H locs hP hD hS => ?_)
        refine lv_icmp_ne (tgt := 80) hx hb dX3_matches_57 (by decide) (fun c_4 => ?_) (fun c_4 => ?_)
        · skip
          refine lv_iconst (v := (0 : Int32)) hx hb dX3_matches_80 (by decide) ?_
          rw [show r_X3_matches i f sn sf sz tg tF = (0 : Int32) from (if_neg c_1).trans ((if_pos c_2).trans ((if_pos c_3).trans (if_neg c_4)))]
          exact ct_zret (v := (0 : Int32)) cx hP hD hS rfl dX3_matches_81
        · skip
          refine lv_aload_n hx hb dX3_matches_60 rfl (lv_at hl 1 rfl) ?_
          refine ct_get (v := .ref a) cx hP 0 rfl rfl bwX3 0 rfl mm_15 rfl dX3_matches_61 ?_
          refine lv_iload_n hx hb dX3_matches_64 rfl (lv_at hl 0 rfl) ?_
          refine lv_iconst (v := (3 : Int32)) hx hb dX3_matches_65 (by decide) ?_
          refine lv_iadd hx hb dX3_matches_66 ?_
          refine ct_iald cx hP 1 rfl (vp_fr (h3_b c_1) (by decide)) dX3_matches_67 ?_
          refine lv_aload_n hx hb dX3_matches_68 rfl (lv_at hl 3 rfl) ?_
          refine lv_iconst (v := (1 : Int32)) hx hb dX3_matches_69 (by decide) ?_
          refine ct_callV (As := [.int (1 : Int32)]) (rest := [.int (f (((i * (5 : Int32)) + (3 : Int32)).toNatClampNeg))]) (st1 := [.int (r_X7_openCall (1 : Int32) tg tF), .int (f (((i * (5 : Int32)) + (3 : Int32)).toNatClampNeg))]) (V3 := [(h, .inr (3, [.ref a, .ref sh])), (a, .inl (cyI, 100, .inl f)), (sh, .inr (6, [.int (nI 20), .ref sa, .ref sb, .int sn])), (sa, .inl (cyI, 20 * 24, .inl sf)), (sb, .inl (cyI, 20, .inl sz)), (th, .inr (7, [.ref ta0, .ref ta1, .ref ta2, .ref ta3, .int (tg 4), .int (tg 5), .int (tg 6), .int (tg 7), .int (tg 8), .int (tg 9), .int (tg 10), .int (tg 11)])), (ta0, .inl (cyI, 8, .inl (tF 0))), (ta1, .inl (cyI, 16, .inl (tF 1))), (ta2, .inl (cyI, 8, .inl (tF 2))), (ta3, .inl (cyI, 160, .inl (tF 3)))]) cx (c_X7_openCall l D cyI cyZ th ta0 ta1 ta2 ta3 (1 : Int32) tg tF) hP hD hS [5, 6, 7, 8, 9] [(false, 0), (false, 1), (false, 2), (false, 3), (false, 4), (true, 0), (true, 1), (true, 2), (true, 3), (true, 4)] ⟨rfl, rfl, rfl⟩ rfl rfl mm_102 mm_103 mm_104 mm_42 mm_90 dd_X7_openCall rfl hl.1 rfl dX3_matches_70 rfl (fun H locs hP hD hS => ?_)
          refine lv_icmp_ne (tgt := 80) hx hb dX3_matches_73 (by decide) (fun c_5 => ?_) (fun c_5 => ?_)
          · skip
            refine lv_iconst (v := (0 : Int32)) hx hb dX3_matches_80 (by decide) ?_
            rw [show r_X3_matches i f sn sf sz tg tF = (0 : Int32) from (if_neg c_1).trans ((if_pos c_2).trans ((if_pos c_3).trans ((if_pos c_4).trans (if_neg c_5))))]
            exact ct_zret (v := (0 : Int32)) cx hP hD hS rfl dX3_matches_81
          · skip
            refine lv_iconst (v := (1 : Int32)) hx hb dX3_matches_76 (by decide) ?_
            refine lv_goto (tgt := 81) hx hb dX3_matches_77 (by decide) ?_
            rw [show r_X3_matches i f sn sf sz tg tF = (1 : Int32) from (if_neg c_1).trans ((if_pos c_2).trans ((if_pos c_3).trans ((if_pos c_4).trans (if_pos c_5))))]
            exact ct_zret (v := (1 : Int32)) cx hP hD hS rfl dX3_matches_81
  · skip
    refine lv_iconst (v := (0 : Int32)) hx hb dX3_matches_8 (by decide) ?_
    rw [show r_X3_matches i f sn sf sz tg tF = (0 : Int32) from if_pos c_1]
    exact ct_zret (v := (0 : Int32)) cx hP hD hS rfl dX3_matches_9
theorem a_b {f : Int32} (h0 : ¬ f < 0) (h1 : ¬ (20 : Int32) ≤ f) : 0 ≤ f.toInt ∧ f.toInt < 20 := by
  simp only [sg_lt, sg_le] at h0 h1
  have e0 : (0 : Int32).toInt = 0 := rfl
  have e2 : (20 : Int32).toInt = 20 := rfl
  rw [e0] at h0
  rw [e2] at h1
  omega
theorem j_b {j : Nat} (hj : j < 20) : 0 ≤ (nI j).toInt ∧ (nI j).toInt < 20 := by
  rw [nI_toInt (by omega)]
  omega
def r_X3_append (f : Nat → Int32) (sn : Int32) (sf : Nat → Int32) (sz : Nat → Int32) (tg : Nat → Int32) (tF : Nat → Nat → Int32) (un : Int32) (uf : Nat → Int32) : Int32 × (Nat → Int32) × Int32 × (Nat → Int32) × (Nat → Int32) := if sn < (0 : Int32) then ((0 : Int32), f, sn, sf, sz) else if (20 : Int32) ≤ sn then ((0 : Int32), f, sn, sf, sz) else let u_3 : Int32 × Int32 × (Nat → Int32) × (Nat → Int32) := r_X6_append 20 sn sf sz un uf; if u_3.1 = (0 : Int32) then ((0 : Int32), f, u_3.2.1, u_3.2.2.1, u_3.2.2.2) else ((1 : Int32), upd (upd (upd (upd (upd f (((sn * (5 : Int32)) + (0 : Int32)).toNatClampNeg) (tg 5)) (((sn * (5 : Int32)) + (1 : Int32)).toNatClampNeg) (tg 6)) (((sn * (5 : Int32)) + (2 : Int32)).toNatClampNeg) (r_X7_openCall (0 : Int32) tg tF)) (((sn * (5 : Int32)) + (3 : Int32)).toNatClampNeg) (r_X7_openCall (1 : Int32) tg tF)) (((sn * (5 : Int32)) + (4 : Int32)).toNatClampNeg) (1 : Int32), u_3.2.1, u_3.2.2.1, u_3.2.2.2)
set_option maxHeartbeats 4000000 in
set_option maxRecDepth 100000 in
theorem c_X3_append (l : Launch) (D : va_G) (cyI cyZ : ClassId) (h : Nat) (a : Nat) (sh : Nat) (sa : Nat) (sb : Nat) (th : Nat) (ta0 : Nat) (ta1 : Nat) (ta2 : Nat) (ta3 : Nat) (uh : Nat) (ua : Nat) (f : Nat → Int32) (sn : Int32) (sf : Nat → Int32) (sz : Nat → Int32) (tg : Nat → Int32) (tF : Nat → Nat → Int32) (un : Int32) (uf : Nat → Int32)  : CT l D cyI cyZ yX3_append cX3_append 5 (some .boolean) ({ frames := 2, cells := 0, slots := 0, locals := 44 }) [.ref h, .ref th, .ref uh] [(h, .inr (3, [.ref a, .ref sh])), (a, .inl (cyI, 100, .inl f)), (sh, .inr (6, [.int (nI 20), .ref sa, .ref sb, .int sn])), (sa, .inl (cyI, 20 * 24, .inl sf)), (sb, .inl (cyI, 20, .inl sz)), (th, .inr (7, [.ref ta0, .ref ta1, .ref ta2, .ref ta3, .int (tg 4), .int (tg 5), .int (tg 6), .int (tg 7), .int (tg 8), .int (tg 9), .int (tg 10), .int (tg 11)])), (ta0, .inl (cyI, 8, .inl (tF 0))), (ta1, .inl (cyI, 16, .inl (tF 1))), (ta2, .inl (cyI, 8, .inl (tF 2))), (ta3, .inl (cyI, 160, .inl (tF 3))), (uh, .inr (4, [.ref ua, .int un])), (ua, .inl (cyI, 24, .inl uf))] (some (.int ((r_X3_append f sn sf sz tg tF un uf).1))) [(h, .inr (3, [.ref a, .ref sh])), (a, .inl (cyI, 100, .inl ((r_X3_append f sn sf sz tg tF un uf).2.1))), (sh, .inr (6, [.int (nI 20), .ref sa, .ref sb, .int ((r_X3_append f sn sf sz tg tF un uf).2.2.1)])), (sa, .inl (cyI, 20 * 24, .inl ((r_X3_append f sn sf sz tg tF un uf).2.2.2.1))), (sb, .inl (cyI, 20, .inl ((r_X3_append f sn sf sz tg tF un uf).2.2.2.2))), (th, .inr (7, [.ref ta0, .ref ta1, .ref ta2, .ref ta3, .int (tg 4), .int (tg 5), .int (tg 6), .int (tg 7), .int (tg 8), .int (tg 9), .int (tg 10), .int (tg 11)])), (ta0, .inl (cyI, 8, .inl (tF 0))), (ta1, .inl (cyI, 16, .inl (tF 1))), (ta2, .inl (cyI, 8, .inl (tF 2))), (ta3, .inl (cyI, 160, .inl (tF 3))), (uh, .inr (4, [.ref ua, .int un])), (ua, .inl (cyI, 24, .inl uf))] := by
  refine ct_intro (by decide) (Nat.le_of_ble_eq_true rfl) ?_
  intro p e s m below meth c A ls cx hP hD hS hl
  obtain ⟨hx, hb, -⟩ := id cx
  refine lv_aload_n hx hb dX3_append_0 rfl (lv_at hl 0 rfl) ?_
  refine ct_callV (As := []) (rest := []) (st1 := [.int sn]) (V3 := [(h, .inr (3, [.ref a, .ref sh])), (a, .inl (cyI, 100, .inl f)), (sh, .inr (6, [.int (nI 20), .ref sa, .ref sb, .int sn])), (sa, .inl (cyI, 20 * 24, .inl sf)), (sb, .inl (cyI, 20, .inl sz)), (th, .inr (7, [.ref ta0, .ref ta1, .ref ta2, .ref ta3, .int (tg 4), .int (tg 5), .int (tg 6), .int (tg 7), .int (tg 8), .int (tg 9), .int (tg 10), .int (tg 11)])), (ta0, .inl (cyI, 8, .inl (tF 0))), (ta1, .inl (cyI, 16, .inl (tF 1))), (ta2, .inl (cyI, 8, .inl (tF 2))), (ta3, .inl (cyI, 160, .inl (tF 3))), (uh, .inr (4, [.ref ua, .int un])), (ua, .inl (cyI, 24, .inl uf))]) cx (c_X3_size l D cyI cyZ h a sh sa sb f sn sf sz) hP hD hS [0, 1, 2, 3, 4] [(true, 0), (true, 1), (true, 2), (true, 3), (true, 4), (false, 5), (false, 6), (false, 7), (false, 8), (false, 9), (false, 10), (false, 11)] ⟨rfl, rfl, rfl⟩ rfl rfl mm_106 mm_107 mm_108 mm_27 mm_83 dd_X3_size rfl hl.1 rfl dX3_append_1 rfl (fun H locs hP hD hS => ?_)
  refine lv_istore_n (lv' := [(3, .int sn), (0, .ref h), (1, .ref th), (2, .ref uh)]) hx hb dX3_append_4 rfl hl (by decide) rfl (fun ls hl => ?_)
  refine lv_iload_n hx hb dX3_append_5 rfl (lv_at hl 0 rfl) ?_
  refine lv_if_lt (tgt := 26) hx hb dX3_append_6 (by decide) (fun c_1 => ?_) (fun c_1 => ?_)
  · skip
    refine lv_iconst (v := (0 : Int32)) hx hb dX3_append_26 (by decide) ?_
    rw [show r_X3_append f sn sf sz tg tF un uf = ((0 : Int32), f, sn, sf, sz) from if_pos c_1]
    dsimp only
    exact ct_zret (v := (0 : Int32)) cx hP hD hS rfl dX3_append_27
  · skip
    refine lv_iload_n hx hb dX3_append_9 rfl (lv_at hl 0 rfl) ?_
    refine lv_bipush (v := (20 : Int32)) hx hb dX3_append_10 (by decide) ?_
    refine lv_icmp_ge (tgt := 26) hx hb dX3_append_12 (by decide) (fun c_2 => ?_) (fun c_2 => ?_)
    · skip
      refine lv_iconst (v := (0 : Int32)) hx hb dX3_append_26 (by decide) ?_
      rw [show r_X3_append f sn sf sz tg tF un uf = ((0 : Int32), f, sn, sf, sz) from (if_neg c_1).trans (if_pos c_2)]
      dsimp only
      exact ct_zret (v := (0 : Int32)) cx hP hD hS rfl dX3_append_27
    · skip
      refine lv_aload_n hx hb dX3_append_15 rfl (lv_at hl 1 rfl) ?_
      refine ct_get (v := .ref sh) cx hP 0 rfl rfl bwX3 1 rfl mm_19 rfl dX3_append_16 ?_
      refine lv_aload_n hx hb dX3_append_19 rfl (lv_at hl 3 rfl) ?_
      refine ct_callV (As := [.ref uh]) (rest := []) (st1 := [.int ((r_X6_append 20 sn sf sz un uf).1)]) (V3 := [(h, .inr (3, [.ref a, .ref sh])), (a, .inl (cyI, 100, .inl f)), (sh, .inr (6, [.int (nI 20), .ref sa, .ref sb, .int ((r_X6_append 20 sn sf sz un uf).2.1)])), (sa, .inl (cyI, 20 * 24, .inl ((r_X6_append 20 sn sf sz un uf).2.2.1))), (sb, .inl (cyI, 20, .inl ((r_X6_append 20 sn sf sz un uf).2.2.2))), (th, .inr (7, [.ref ta0, .ref ta1, .ref ta2, .ref ta3, .int (tg 4), .int (tg 5), .int (tg 6), .int (tg 7), .int (tg 8), .int (tg 9), .int (tg 10), .int (tg 11)])), (ta0, .inl (cyI, 8, .inl (tF 0))), (ta1, .inl (cyI, 16, .inl (tF 1))), (ta2, .inl (cyI, 8, .inl (tF 2))), (ta3, .inl (cyI, 160, .inl (tF 3))), (uh, .inr (4, [.ref ua, .int un])), (ua, .inl (cyI, 24, .inl uf))]) cx (c_X6_append l D cyI cyZ sh sa sb uh ua 20 sn sf sz un uf (by decide)) hP hD hS [2, 3, 4, 10, 11] [(false, 0), (false, 1), (true, 0), (true, 1), (true, 2), (false, 5), (false, 6), (false, 7), (false, 8), (false, 9), (true, 3), (true, 4)] ⟨rfl, rfl, rfl⟩ rfl rfl mm_109 mm_110 mm_111 mm_18 mm_72 dd_X6_append rfl hl.1 rfl dX3_append_20 rfl (fun H locs hP hD hS => ?_)
      obtain ⟨u_3, hu_3⟩ : ∃ z, z = r_X6_append 20 sn sf sz un uf := ⟨_, rfl⟩
      rw [← hu_3] at hP hD ⊢
      refine lv_if_ne (tgt := 28) hx hb dX3_append_23 (by decide) (fun c_4 => ?_) (fun c_4 => ?_)
      · skip
        refine lv_iload_n hx hb dX3_append_28 rfl (lv_at hl 0 rfl) ?_
        refine lv_iconst (v := (5 : Int32)) hx hb dX3_append_29 (by decide) ?_
        refine lv_imul hx hb dX3_append_30 ?_
        refine lv_istore (lv' := [(4, .int (sn * (5 : Int32))), (3, .int sn), (0, .ref h), (1, .ref th), (2, .ref uh)]) hx hb dX3_append_31 hl (by decide) rfl (fun ls hl => ?_)
        refine lv_aload_n hx hb dX3_append_33 rfl (lv_at hl 2 rfl) ?_
        refine ct_get (v := .ref a) cx hP 0 rfl rfl bwX3 0 rfl mm_15 rfl dX3_append_34 ?_
        refine lv_iload hx hb dX3_append_37 (lv_at hl 0 rfl) ?_
        refine lv_iconst (v := (0 : Int32)) hx hb dX3_append_39 (by decide) ?_
        refine lv_iadd hx hb dX3_append_40 ?_
        refine lv_aload_n hx hb dX3_append_41 rfl (lv_at hl 3 rfl) ?_
        refine ct_callV (As := []) (rest := [.int ((sn * (5 : Int32)) + (0 : Int32)), .ref a]) (st1 := [.int (tg 5), .int ((sn * (5 : Int32)) + (0 : Int32)), .ref a]) (V3 := [(h, .inr (3, [.ref a, .ref sh])), (a, .inl (cyI, 100, .inl f)), (sh, .inr (6, [.int (nI 20), .ref sa, .ref sb, .int u_3.2.1])), (sa, .inl (cyI, 20 * 24, .inl u_3.2.2.1)), (sb, .inl (cyI, 20, .inl u_3.2.2.2)), (th, .inr (7, [.ref ta0, .ref ta1, .ref ta2, .ref ta3, .int (tg 4), .int (tg 5), .int (tg 6), .int (tg 7), .int (tg 8), .int (tg 9), .int (tg 10), .int (tg 11)])), (ta0, .inl (cyI, 8, .inl (tF 0))), (ta1, .inl (cyI, 16, .inl (tF 1))), (ta2, .inl (cyI, 8, .inl (tF 2))), (ta3, .inl (cyI, 160, .inl (tF 3))), (uh, .inr (4, [.ref ua, .int un])), (ua, .inl (cyI, 24, .inl uf))]) cx (c_X7_kind l D cyI cyZ th ta0 ta1 ta2 ta3 tg tF) hP hD hS [5, 6, 7, 8, 9] [(false, 0), (false, 1), (false, 2), (false, 3), (false, 4), (true, 0), (true, 1), (true, 2), (true, 3), (true, 4), (false, 10), (false, 11)] ⟨rfl, rfl, rfl⟩ rfl rfl mm_96 mm_97 mm_98 mm_42 mm_80 dd_X7_kind rfl hl.1 rfl dX3_append_42 rfl (fun H locs hP hD hS => ?_)
        refine ct_iast (V3 := [(h, .inr (3, [.ref a, .ref sh])), (a, .inl (cyI, 100, .inl (upd f (((sn * (5 : Int32)) + (0 : Int32)).toNatClampNeg) (tg 5)))), (sh, .inr (6, [.int (nI 20), .ref sa, .ref sb, .int u_3.2.1])), (sa, .inl (cyI, 20 * 24, .inl u_3.2.2.1)), (sb, .inl (cyI, 20, .inl u_3.2.2.2)), (th, .inr (7, [.ref ta0, .ref ta1, .ref ta2, .ref ta3, .int (tg 4), .int (tg 5), .int (tg 6), .int (tg 7), .int (tg 8), .int (tg 9), .int (tg 10), .int (tg 11)])), (ta0, .inl (cyI, 8, .inl (tF 0))), (ta1, .inl (cyI, 16, .inl (tF 1))), (ta2, .inl (cyI, 8, .inl (tF 2))), (ta3, .inl (cyI, 160, .inl (tF 3))), (uh, .inr (4, [.ref ua, .int un])), (ua, .inl (cyI, 24, .inl uf))]) cx hP hD hS 1 rfl (vp_fr (a_b c_1 c_2) (by decide)) dX3_append_45 rfl (fun H locs hP hD hS => ?_)
        refine lv_aload_n hx hb dX3_append_46 rfl (lv_at hl 2 rfl) ?_
        refine ct_get (v := .ref a) cx hP 0 rfl rfl bwX3 0 rfl mm_15 rfl dX3_append_47 ?_
        refine lv_iload hx hb dX3_append_50 (lv_at hl 0 rfl) ?_
        refine lv_iconst (v := (1 : Int32)) hx hb dX3_append_52 (by decide) ?_
        refine lv_iadd hx hb dX3_append_53 ?_
        refine lv_aload_n hx hb dX3_append_54 rfl (lv_at hl 3 rfl) ?_
        refine ct_callV (As := []) (rest := [.int ((sn * (5 : Int32)) + (1 : Int32)), .ref a]) (st1 := [.int (tg 6), .int ((sn * (5 : Int32)) + (1 : Int32)), .ref a]) (V3 := [(h, .inr (3, [.ref a, .ref sh])), (a, .inl (cyI, 100, .inl (upd f (((sn * (5 : Int32)) + (0 : Int32)).toNatClampNeg) (tg 5)))), (sh, .inr (6, [.int (nI 20), .ref sa, .ref sb, .int u_3.2.1])), (sa, .inl (cyI, 20 * 24, .inl u_3.2.2.1)), (sb, .inl (cyI, 20, .inl u_3.2.2.2)), (th, .inr (7, [.ref ta0, .ref ta1, .ref ta2, .ref ta3, .int (tg 4), .int (tg 5), .int (tg 6), .int (tg 7), .int (tg 8), .int (tg 9), .int (tg 10), .int (tg 11)])), (ta0, .inl (cyI, 8, .inl (tF 0))), (ta1, .inl (cyI, 16, .inl (tF 1))), (ta2, .inl (cyI, 8, .inl (tF 2))), (ta3, .inl (cyI, 160, .inl (tF 3))), (uh, .inr (4, [.ref ua, .int un])), (ua, .inl (cyI, 24, .inl uf))]) cx (c_X7_place l D cyI cyZ th ta0 ta1 ta2 ta3 tg tF) hP hD hS [5, 6, 7, 8, 9] [(false, 0), (false, 1), (false, 2), (false, 3), (false, 4), (true, 0), (true, 1), (true, 2), (true, 3), (true, 4), (false, 10), (false, 11)] ⟨rfl, rfl, rfl⟩ rfl rfl mm_99 mm_100 mm_101 mm_42 mm_88 dd_X7_place rfl hl.1 rfl dX3_append_55 rfl (fun H locs hP hD hS => ?_)
        refine ct_iast (V3 := [(h, .inr (3, [.ref a, .ref sh])), (a, .inl (cyI, 100, .inl (upd (upd f (((sn * (5 : Int32)) + (0 : Int32)).toNatClampNeg) (tg 5)) (((sn * (5 : Int32)) + (1 : Int32)).toNatClampNeg) (tg 6)))), (sh, .inr (6, [.int (nI 20), .ref sa, .ref sb, .int u_3.2.1])), (sa, .inl (cyI, 20 * 24, .inl u_3.2.2.1)), (sb, .inl (cyI, 20, .inl u_3.2.2.2)), (th, .inr (7, [.ref ta0, .ref ta1, .ref ta2, .ref ta3, .int (tg 4), .int (tg 5), .int (tg 6), .int (tg 7), .int (tg 8), .int (tg 9), .int (tg 10), .int (tg 11)])), (ta0, .inl (cyI, 8, .inl (tF 0))), (ta1, .inl (cyI, 16, .inl (tF 1))), (ta2, .inl (cyI, 8, .inl (tF 2))), (ta3, .inl (cyI, 160, .inl (tF 3))), (uh, .inr (4, [.ref ua, .int un])), (ua, .inl (cyI, 24, .inl uf))]) cx hP hD hS 1 rfl (vp_fr (a_b c_1 c_2) (by decide)) dX3_append_58 rfl (fun H locs hP hD hS => ?_)
        refine lv_aload_n hx hb dX3_append_59 rfl (lv_at hl 2 rfl) ?_
        refine ct_get (v := .ref a) cx hP 0 rfl rfl bwX3 0 rfl mm_15 rfl dX3_append_60 ?_
        refine lv_iload hx hb dX3_append_63 (lv_at hl 0 rfl) ?_
        refine lv_iconst (v := (2 : Int32)) hx hb dX3_append_65 (by decide) ?_
        refine lv_iadd hx hb dX3_append_66 ?_
        refine lv_aload_n hx hb dX3_append_67 rfl (lv_at hl 3 rfl) ?_
        refine lv_iconst (v := (0 : Int32)) hx hb dX3_append_68 (by decide) ?_
        refine ct_callV (As := [.int (0 : Int32)]) (rest := [.int ((sn * (5 : Int32)) + (2 : Int32)), .ref a]) (st1 := [.int (r_X7_openCall (0 : Int32) tg tF), .int ((sn * (5 : Int32)) + (2 : Int32)), .ref a]) (V3 := [(h, .inr (3, [.ref a, .ref sh])), (a, .inl (cyI, 100, .inl (upd (upd f (((sn * (5 : Int32)) + (0 : Int32)).toNatClampNeg) (tg 5)) (((sn * (5 : Int32)) + (1 : Int32)).toNatClampNeg) (tg 6)))), (sh, .inr (6, [.int (nI 20), .ref sa, .ref sb, .int u_3.2.1])), (sa, .inl (cyI, 20 * 24, .inl u_3.2.2.1)), (sb, .inl (cyI, 20, .inl u_3.2.2.2)), (th, .inr (7, [.ref ta0, .ref ta1, .ref ta2, .ref ta3, .int (tg 4), .int (tg 5), .int (tg 6), .int (tg 7), .int (tg 8), .int (tg 9), .int (tg 10), .int (tg 11)])), (ta0, .inl (cyI, 8, .inl (tF 0))), (ta1, .inl (cyI, 16, .inl (tF 1))), (ta2, .inl (cyI, 8, .inl (tF 2))), (ta3, .inl (cyI, 160, .inl (tF 3))), (uh, .inr (4, [.ref ua, .int un])), (ua, .inl (cyI, 24, .inl uf))]) cx (c_X7_openCall l D cyI cyZ th ta0 ta1 ta2 ta3 (0 : Int32) tg tF) hP hD hS [5, 6, 7, 8, 9] [(false, 0), (false, 1), (false, 2), (false, 3), (false, 4), (true, 0), (true, 1), (true, 2), (true, 3), (true, 4), (false, 10), (false, 11)] ⟨rfl, rfl, rfl⟩ rfl rfl mm_102 mm_103 mm_104 mm_42 mm_90 dd_X7_openCall rfl hl.1 rfl dX3_append_69 rfl (fun H locs hP hD hS => ?_)
        refine ct_iast (V3 := [(h, .inr (3, [.ref a, .ref sh])), (a, .inl (cyI, 100, .inl (upd (upd (upd f (((sn * (5 : Int32)) + (0 : Int32)).toNatClampNeg) (tg 5)) (((sn * (5 : Int32)) + (1 : Int32)).toNatClampNeg) (tg 6)) (((sn * (5 : Int32)) + (2 : Int32)).toNatClampNeg) (r_X7_openCall (0 : Int32) tg tF)))), (sh, .inr (6, [.int (nI 20), .ref sa, .ref sb, .int u_3.2.1])), (sa, .inl (cyI, 20 * 24, .inl u_3.2.2.1)), (sb, .inl (cyI, 20, .inl u_3.2.2.2)), (th, .inr (7, [.ref ta0, .ref ta1, .ref ta2, .ref ta3, .int (tg 4), .int (tg 5), .int (tg 6), .int (tg 7), .int (tg 8), .int (tg 9), .int (tg 10), .int (tg 11)])), (ta0, .inl (cyI, 8, .inl (tF 0))), (ta1, .inl (cyI, 16, .inl (tF 1))), (ta2, .inl (cyI, 8, .inl (tF 2))), (ta3, .inl (cyI, 160, .inl (tF 3))), (uh, .inr (4, [.ref ua, .int un])), (ua, .inl (cyI, 24, .inl uf))]) cx hP hD hS 1 rfl (vp_fr (a_b c_1 c_2) (by decide)) dX3_append_72 rfl (fun H locs hP hD hS => ?_)
        refine lv_aload_n hx hb dX3_append_73 rfl (lv_at hl 2 rfl) ?_
        refine ct_get (v := .ref a) cx hP 0 rfl rfl bwX3 0 rfl mm_15 rfl dX3_append_74 ?_
        refine lv_iload hx hb dX3_append_77 (lv_at hl 0 rfl) ?_
        refine lv_iconst (v := (3 : Int32)) hx hb dX3_append_79 (by decide) ?_
        refine lv_iadd hx hb dX3_append_80 ?_
        refine lv_aload_n hx hb dX3_append_81 rfl (lv_at hl 3 rfl) ?_
        refine lv_iconst (v := (1 : Int32)) hx hb dX3_append_82 (by decide) ?_
        refine ct_callV (As := [.int (1 : Int32)]) (rest := [.int ((sn * (5 : Int32)) + (3 : Int32)), .ref a]) (st1 := [.int (r_X7_openCall (1 : Int32) tg tF), .int ((sn * (5 : Int32)) + (3 : Int32)), .ref a]) (V3 := [(h, .inr (3, [.ref a, .ref sh])), (a, .inl (cyI, 100, .inl (upd (upd (upd f (((sn * (5 : Int32)) + (0 : Int32)).toNatClampNeg) (tg 5)) (((sn * (5 : Int32)) + (1 : Int32)).toNatClampNeg) (tg 6)) (((sn * (5 : Int32)) + (2 : Int32)).toNatClampNeg) (r_X7_openCall (0 : Int32) tg tF)))), (sh, .inr (6, [.int (nI 20), .ref sa, .ref sb, .int u_3.2.1])), (sa, .inl (cyI, 20 * 24, .inl u_3.2.2.1)), (sb, .inl (cyI, 20, .inl u_3.2.2.2)), (th, .inr (7, [.ref ta0, .ref ta1, .ref ta2, .ref ta3, .int (tg 4), .int (tg 5), .int (tg 6), .int (tg 7), .int (tg 8), .int (tg 9), .int (tg 10), .int (tg 11)])), (ta0, .inl (cyI, 8, .inl (tF 0))), (ta1, .inl (cyI, 16, .inl (tF 1))), (ta2, .inl (cyI, 8, .inl (tF 2))), (ta3, .inl (cyI, 160, .inl (tF 3))), (uh, .inr (4, [.ref ua, .int un])), (ua, .inl (cyI, 24, .inl uf))]) cx (c_X7_openCall l D cyI cyZ th ta0 ta1 ta2 ta3 (1 : Int32) tg tF) hP hD hS [5, 6, 7, 8, 9] [(false, 0), (false, 1), (false, 2), (false, 3), (false, 4), (true, 0), (true, 1), (true, 2), (true, 3), (true, 4), (false, 10), (false, 11)] ⟨rfl, rfl, rfl⟩ rfl rfl mm_102 mm_103 mm_104 mm_42 mm_90 dd_X7_openCall rfl hl.1 rfl dX3_append_83 rfl (fun H locs hP hD hS => ?_)
        refine ct_iast (V3 := [(h, .inr (3, [.ref a, .ref sh])), (a, .inl (cyI, 100, .inl (upd (upd (upd (upd f (((sn * (5 : Int32)) + (0 : Int32)).toNatClampNeg) (tg 5)) (((sn * (5 : Int32)) + (1 : Int32)).toNatClampNeg) (tg 6)) (((sn * (5 : Int32)) + (2 : Int32)).toNatClampNeg) (r_X7_openCall (0 : Int32) tg tF)) (((sn * (5 : Int32)) + (3 : Int32)).toNatClampNeg) (r_X7_openCall (1 : Int32) tg tF)))), (sh, .inr (6, [.int (nI 20), .ref sa, .ref sb, .int u_3.2.1])), (sa, .inl (cyI, 20 * 24, .inl u_3.2.2.1)), (sb, .inl (cyI, 20, .inl u_3.2.2.2)), (th, .inr (7, [.ref ta0, .ref ta1, .ref ta2, .ref ta3, .int (tg 4), .int (tg 5), .int (tg 6), .int (tg 7), .int (tg 8), .int (tg 9), .int (tg 10), .int (tg 11)])), (ta0, .inl (cyI, 8, .inl (tF 0))), (ta1, .inl (cyI, 16, .inl (tF 1))), (ta2, .inl (cyI, 8, .inl (tF 2))), (ta3, .inl (cyI, 160, .inl (tF 3))), (uh, .inr (4, [.ref ua, .int un])), (ua, .inl (cyI, 24, .inl uf))]) cx hP hD hS 1 rfl (vp_fr (a_b c_1 c_2) (by decide)) dX3_append_86 rfl (fun H locs hP hD hS => ?_)
        refine lv_aload_n hx hb dX3_append_87 rfl (lv_at hl 2 rfl) ?_
        refine ct_get (v := .ref a) cx hP 0 rfl rfl bwX3 0 rfl mm_15 rfl dX3_append_88 ?_
        refine lv_iload hx hb dX3_append_91 (lv_at hl 0 rfl) ?_
        refine lv_iconst (v := (4 : Int32)) hx hb dX3_append_93 (by decide) ?_
        refine lv_iadd hx hb dX3_append_94 ?_
        refine lv_iconst (v := (1 : Int32)) hx hb dX3_append_95 (by decide) ?_
        refine ct_iast (V3 := [(h, .inr (3, [.ref a, .ref sh])), (a, .inl (cyI, 100, .inl (upd (upd (upd (upd (upd f (((sn * (5 : Int32)) + (0 : Int32)).toNatClampNeg) (tg 5)) (((sn * (5 : Int32)) + (1 : Int32)).toNatClampNeg) (tg 6)) (((sn * (5 : Int32)) + (2 : Int32)).toNatClampNeg) (r_X7_openCall (0 : Int32) tg tF)) (((sn * (5 : Int32)) + (3 : Int32)).toNatClampNeg) (r_X7_openCall (1 : Int32) tg tF)) (((sn * (5 : Int32)) + (4 : Int32)).toNatClampNeg) (1 : Int32)))), (sh, .inr (6, [.int (nI 20), .ref sa, .ref sb, .int u_3.2.1])), (sa, .inl (cyI, 20 * 24, .inl u_3.2.2.1)), (sb, .inl (cyI, 20, .inl u_3.2.2.2)), (th, .inr (7, [.ref ta0, .ref ta1, .ref ta2, .ref ta3, .int (tg 4), .int (tg 5), .int (tg 6), .int (tg 7), .int (tg 8), .int (tg 9), .int (tg 10), .int (tg 11)])), (ta0, .inl (cyI, 8, .inl (tF 0))), (ta1, .inl (cyI, 16, .inl (tF 1))), (ta2, .inl (cyI, 8, .inl (tF 2))), (ta3, .inl (cyI, 160, .inl (tF 3))), (uh, .inr (4, [.ref ua, .int un])), (ua, .inl (cyI, 24, .inl uf))]) cx hP hD hS 1 rfl (vp_fr (a_b c_1 c_2) (by decide)) dX3_append_96 rfl (fun H locs hP hD hS => ?_)
        refine lv_iconst (v := (1 : Int32)) hx hb dX3_append_97 (by decide) ?_
        rw [show r_X3_append f sn sf sz tg tF un uf = ((1 : Int32), upd (upd (upd (upd (upd f (((sn * (5 : Int32)) + (0 : Int32)).toNatClampNeg) (tg 5)) (((sn * (5 : Int32)) + (1 : Int32)).toNatClampNeg) (tg 6)) (((sn * (5 : Int32)) + (2 : Int32)).toNatClampNeg) (r_X7_openCall (0 : Int32) tg tF)) (((sn * (5 : Int32)) + (3 : Int32)).toNatClampNeg) (r_X7_openCall (1 : Int32) tg tF)) (((sn * (5 : Int32)) + (4 : Int32)).toNatClampNeg) (1 : Int32), u_3.2.1, u_3.2.2.1, u_3.2.2.2) from (by subst hu_3; exact (if_neg c_1).trans ((if_neg c_2).trans (if_neg c_4)))]
        dsimp only
        exact ct_zret (v := (1 : Int32)) cx hP hD hS rfl dX3_append_98
      · skip
        refine lv_iconst (v := (0 : Int32)) hx hb dX3_append_26 (by decide) ?_
        rw [show r_X3_append f sn sf sz tg tF un uf = ((0 : Int32), f, u_3.2.1, u_3.2.2.1, u_3.2.2.2) from (by subst hu_3; exact (if_neg c_1).trans ((if_neg c_2).trans (if_pos c_4)))]
        dsimp only
        exact ct_zret (v := (0 : Int32)) cx hP hD hS rfl dX3_append_27
theorem b3_append (f : Nat → Int32) (sn : Int32) (sf sz : Nat → Int32) (tg : Nat → Int32) (tF : Nat → Nat → Int32) (un : Int32) (uf : Nat → Int32) : (r_X3_append f sn sf sz tg tF un uf).1 = 0 ∨ (r_X3_append f sn sf sz tg tF un uf).1 = 1 := by
  unfold r_X3_append
  dsimp only
  repeat (first | exact Or.inl rfl | exact Or.inr rfl | split)
def g_X3_take_11 (f : Nat → Int32) (sn : Int32) (sf : Nat → Int32) (sz : Nat → Int32) (tg : Nat → Int32) (tF : Nat → Nat → Int32) (un : Int32) (uf : Nat → Int32) : Nat → Nat → Int32 × (Nat → Int32) × Int32 × (Nat → Int32) × (Nat → Int32)
  | 0, _ => (0, fun _ => 0, 0, fun _ => 0, fun _ => 0)
  | fu + 1, j => if sn ≤ (nI j) then (let u_8 : Int32 × (Nat → Int32) × Int32 × (Nat → Int32) × (Nat → Int32) := r_X3_append f sn sf sz tg tF un uf; (u_8.1, u_8.2.1, u_8.2.2.1, u_8.2.2.2.1, u_8.2.2.2.2)) else if (20 : Int32) ≤ (nI j) then (let u_10 : Int32 × (Nat → Int32) × Int32 × (Nat → Int32) × (Nat → Int32) := r_X3_append f sn sf sz tg tF un uf; (u_10.1, u_10.2.1, u_10.2.2.1, u_10.2.2.2.1, u_10.2.2.2.2)) else if (r_X3_matches (nI j) f sn sf sz tg tF) = (0 : Int32) then g_X3_take_11 f sn sf sz tg tF un uf fu (j + 1) else ((0 : Int32), upd f ((((nI j) * (5 : Int32)) + (4 : Int32)).toNatClampNeg) ((f ((((nI j) * (5 : Int32)) + (4 : Int32)).toNatClampNeg)) + (1 : Int32)), sn, sf, sz)
def r_X3_take (f : Nat → Int32) (sn : Int32) (sf : Nat → Int32) (sz : Nat → Int32) (tg : Nat → Int32) (tF : Nat → Nat → Int32) (un : Int32) (uf : Nat → Int32) : Int32 × (Nat → Int32) × Int32 × (Nat → Int32) × (Nat → Int32) := if (tg 5) = (0 : Int32) then ((0 : Int32), f, sn, sf, sz) else g_X3_take_11 f sn sf sz tg tF un uf (20 - 0 + 1) 0
set_option maxHeartbeats 4000000 in
set_option maxRecDepth 100000 in
theorem lp_X3_take_11 {p : Program} {l : Launch} {e : Env} {s : State} {m : MethodId} {below : List Frame} {meth : Method} {c : Code} {D : va_G} {cyI cyZ : ClassId} {A : Nat → Prop} {av : Array Value} (cx : CX p s m meth c D cyI cyZ A yX3_take cX3_take 4 (some .boolean) av) (h : Nat) (a : Nat) (sh : Nat) (sa : Nat) (sb : Nat) (th : Nat) (ta0 : Nat) (ta1 : Nat) (ta2 : Nat) (ta3 : Nat) (uh : Nat) (ua : Nat) (f : Nat → Int32) (sn : Int32) (sf : Nat → Int32) (sz : Nat → Int32) (tg : Nat → Int32) (tF : Nat → Nat → Int32) (un : Int32) (uf : Nat → Int32)  : ∀ (fu : Nat) (j : Nat), j ≤ 20 → 20 - j < fu → ∀ (H : Heap) (locs : List Loc) (ls : Array Slot), va_P D vwCl [(h, .inr (3, [.ref a, .ref sh])), (a, .inl (cyI, 100, .inl f)), (sh, .inr (6, [.int (nI 20), .ref sa, .ref sb, .int sn])), (sa, .inl (cyI, 20 * 24, .inl sf)), (sb, .inl (cyI, 20, .inl sz)), (th, .inr (7, [.ref ta0, .ref ta1, .ref ta2, .ref ta3, .int (tg 4), .int (tg 5), .int (tg 6), .int (tg 7), .int (tg 8), .int (tg 9), .int (tg 10), .int (tg 11)])), (ta0, .inl (cyI, 8, .inl (tF 0))), (ta1, .inl (cyI, 16, .inl (tF 1))), (ta2, .inl (cyI, 8, .inl (tF 2))), (ta3, .inl (cyI, 160, .inl (tF 3))), (uh, .inr (4, [.ref ua, .int un])), (ua, .inl (cyI, 24, .inl uf))] H → va_D A [(h, .inr (3, [.ref a, .ref sh])), (a, .inl (cyI, 100, .inl f)), (sh, .inr (6, [.int (nI 20), .ref sa, .ref sb, .int sn])), (sa, .inl (cyI, 20 * 24, .inl sf)), (sb, .inl (cyI, 20, .inl sz)), (th, .inr (7, [.ref ta0, .ref ta1, .ref ta2, .ref ta3, .int (tg 4), .int (tg 5), .int (tg 6), .int (tg 7), .int (tg 8), .int (tg 9), .int (tg 10), .int (tg 11)])), (ta0, .inl (cyI, 8, .inl (tF 0))), (ta1, .inl (cyI, 16, .inl (tF 1))), (ta2, .inl (cyI, 8, .inl (tF 2))), (ta3, .inl (cyI, 160, .inl (tF 3))), (uh, .inr (4, [.ref ua, .int un])), (ua, .inl (cyI, 24, .inl uf))] → va_S A s.heap H locs → lv_has ls 4 [(0, .ref h), (1, .ref th), (2, .ref uh), (3, .int (nI j))] → W p l e ({ frames := 3, cells := 0, slots := 0, locals := 68 }) s m av below meth c H locs 0 0 (MQ below (QX D A (some (.int ((g_X3_take_11 f sn sf sz tg tF un uf fu j).1))) [(h, .inr (3, [.ref a, .ref sh])), (a, .inl (cyI, 100, .inl ((g_X3_take_11 f sn sf sz tg tF un uf fu j).2.1))), (sh, .inr (6, [.int (nI 20), .ref sa, .ref sb, .int ((g_X3_take_11 f sn sf sz tg tF un uf fu j).2.2.1)])), (sa, .inl (cyI, 20 * 24, .inl ((g_X3_take_11 f sn sf sz tg tF un uf fu j).2.2.2.1))), (sb, .inl (cyI, 20, .inl ((g_X3_take_11 f sn sf sz tg tF un uf fu j).2.2.2.2))), (th, .inr (7, [.ref ta0, .ref ta1, .ref ta2, .ref ta3, .int (tg 4), .int (tg 5), .int (tg 6), .int (tg 7), .int (tg 8), .int (tg 9), .int (tg 10), .int (tg 11)])), (ta0, .inl (cyI, 8, .inl (tF 0))), (ta1, .inl (cyI, 16, .inl (tF 1))), (ta2, .inl (cyI, 8, .inl (tF 2))), (ta3, .inl (cyI, 160, .inl (tF 3))), (uh, .inr (4, [.ref ua, .int un])), (ua, .inl (cyI, 24, .inl uf))]) av s 0 0 A) (F0 m 11 ls []) := by
  obtain ⟨hx, hb, -⟩ := id cx
  intro fu
  induction fu with
  | zero =>
    intro j hj hmu
    exact absurd hmu (Nat.not_lt_zero _)
  | succ fu ih =>
    intro j hj hmu H locs ls hP hD hS hl
    refine lv_iload_n hx hb dX3_take_11 rfl (lv_at hl 3 rfl) ?_
    refine lv_aload_n hx hb dX3_take_12 rfl (lv_at hl 0 rfl) ?_
    refine ct_callV (As := []) (rest := [.int (nI j)]) (st1 := [.int sn, .int (nI j)]) (V3 := [(h, .inr (3, [.ref a, .ref sh])), (a, .inl (cyI, 100, .inl f)), (sh, .inr (6, [.int (nI 20), .ref sa, .ref sb, .int sn])), (sa, .inl (cyI, 20 * 24, .inl sf)), (sb, .inl (cyI, 20, .inl sz)), (th, .inr (7, [.ref ta0, .ref ta1, .ref ta2, .ref ta3, .int (tg 4), .int (tg 5), .int (tg 6), .int (tg 7), .int (tg 8), .int (tg 9), .int (tg 10), .int (tg 11)])), (ta0, .inl (cyI, 8, .inl (tF 0))), (ta1, .inl (cyI, 16, .inl (tF 1))), (ta2, .inl (cyI, 8, .inl (tF 2))), (ta3, .inl (cyI, 160, .inl (tF 3))), (uh, .inr (4, [.ref ua, .int un])), (ua, .inl (cyI, 24, .inl uf))]) cx (c_X3_size l D cyI cyZ h a sh sa sb f sn sf sz) hP hD hS [0, 1, 2, 3, 4] [(true, 0), (true, 1), (true, 2), (true, 3), (true, 4), (false, 5), (false, 6), (false, 7), (false, 8), (false, 9), (false, 10), (false, 11)] ⟨rfl, rfl, rfl⟩ rfl rfl mm_106 mm_107 mm_108 mm_27 mm_83 dd_X3_size rfl hl.1 rfl dX3_take_13 rfl (fun H locs hP hD hS => ?_)
    refine lv_icmp_ge (tgt := 56) hx hb dX3_take_16 (by decide) (fun c_7 => ?_) (fun c_7 => ?_)
    · skip
      refine lv_aload_n hx hb dX3_take_56 rfl (lv_at hl 0 rfl) ?_
      refine lv_aload_n hx hb dX3_take_57 rfl (lv_at hl 1 rfl) ?_
      refine lv_aload_n hx hb dX3_take_58 rfl (lv_at hl 2 rfl) ?_
      refine ct_callV (As := [.ref th, .ref uh]) (rest := []) (st1 := [.int ((r_X3_append f sn sf sz tg tF un uf).1)]) (V3 := [(h, .inr (3, [.ref a, .ref sh])), (a, .inl (cyI, 100, .inl ((r_X3_append f sn sf sz tg tF un uf).2.1))), (sh, .inr (6, [.int (nI 20), .ref sa, .ref sb, .int ((r_X3_append f sn sf sz tg tF un uf).2.2.1)])), (sa, .inl (cyI, 20 * 24, .inl ((r_X3_append f sn sf sz tg tF un uf).2.2.2.1))), (sb, .inl (cyI, 20, .inl ((r_X3_append f sn sf sz tg tF un uf).2.2.2.2))), (th, .inr (7, [.ref ta0, .ref ta1, .ref ta2, .ref ta3, .int (tg 4), .int (tg 5), .int (tg 6), .int (tg 7), .int (tg 8), .int (tg 9), .int (tg 10), .int (tg 11)])), (ta0, .inl (cyI, 8, .inl (tF 0))), (ta1, .inl (cyI, 16, .inl (tF 1))), (ta2, .inl (cyI, 8, .inl (tF 2))), (ta3, .inl (cyI, 160, .inl (tF 3))), (uh, .inr (4, [.ref ua, .int un])), (ua, .inl (cyI, 24, .inl uf))]) cx (c_X3_append l D cyI cyZ h a sh sa sb th ta0 ta1 ta2 ta3 uh ua f sn sf sz tg tF un uf) hP hD hS [0, 1, 2, 3, 4, 5, 6, 7, 8, 9, 10, 11] [(true, 0), (true, 1), (true, 2), (true, 3), (true, 4), (true, 5), (true, 6), (true, 7), (true, 8), (true, 9), (true, 10), (true, 11)] ⟨rfl, rfl, rfl⟩ rfl rfl mm_116 mm_117 mm_118 mm_27 mm_112 dd_X3_append rfl hl.1 rfl dX3_take_59 rfl (fun H locs hP hD hS => ?_)
      obtain ⟨u_8, hu_8⟩ : ∃ z, z = r_X3_append f sn sf sz tg tF un uf := ⟨_, rfl⟩
      rw [← hu_8] at hP hD ⊢
      rw [show g_X3_take_11 f sn sf sz tg tF un uf (fu + 1) j = (u_8.1, u_8.2.1, u_8.2.2.1, u_8.2.2.2.1, u_8.2.2.2.2) from (by subst hu_8; exact if_pos c_7)]
      dsimp only
      exact ct_zret (v := u_8.1) cx hP hD hS (by subst_vars; exact nb_of (b3_append _ _ _ _ _ _ _ _)) dX3_take_62
    · skip
      refine lv_iload_n hx hb dX3_take_19 rfl (lv_at hl 3 rfl) ?_
      refine lv_bipush (v := (20 : Int32)) hx hb dX3_take_20 (by decide) ?_
      refine lv_icmp_ge (tgt := 56) hx hb dX3_take_22 (by decide) (fun c_9 => ?_) (fun c_9 => ?_)
      · skip
        refine lv_aload_n hx hb dX3_take_56 rfl (lv_at hl 0 rfl) ?_
        refine lv_aload_n hx hb dX3_take_57 rfl (lv_at hl 1 rfl) ?_
        refine lv_aload_n hx hb dX3_take_58 rfl (lv_at hl 2 rfl) ?_
        refine ct_callV (As := [.ref th, .ref uh]) (rest := []) (st1 := [.int ((r_X3_append f sn sf sz tg tF un uf).1)]) (V3 := [(h, .inr (3, [.ref a, .ref sh])), (a, .inl (cyI, 100, .inl ((r_X3_append f sn sf sz tg tF un uf).2.1))), (sh, .inr (6, [.int (nI 20), .ref sa, .ref sb, .int ((r_X3_append f sn sf sz tg tF un uf).2.2.1)])), (sa, .inl (cyI, 20 * 24, .inl ((r_X3_append f sn sf sz tg tF un uf).2.2.2.1))), (sb, .inl (cyI, 20, .inl ((r_X3_append f sn sf sz tg tF un uf).2.2.2.2))), (th, .inr (7, [.ref ta0, .ref ta1, .ref ta2, .ref ta3, .int (tg 4), .int (tg 5), .int (tg 6), .int (tg 7), .int (tg 8), .int (tg 9), .int (tg 10), .int (tg 11)])), (ta0, .inl (cyI, 8, .inl (tF 0))), (ta1, .inl (cyI, 16, .inl (tF 1))), (ta2, .inl (cyI, 8, .inl (tF 2))), (ta3, .inl (cyI, 160, .inl (tF 3))), (uh, .inr (4, [.ref ua, .int un])), (ua, .inl (cyI, 24, .inl uf))]) cx (c_X3_append l D cyI cyZ h a sh sa sb th ta0 ta1 ta2 ta3 uh ua f sn sf sz tg tF un uf) hP hD hS [0, 1, 2, 3, 4, 5, 6, 7, 8, 9, 10, 11] [(true, 0), (true, 1), (true, 2), (true, 3), (true, 4), (true, 5), (true, 6), (true, 7), (true, 8), (true, 9), (true, 10), (true, 11)] ⟨rfl, rfl, rfl⟩ rfl rfl mm_116 mm_117 mm_118 mm_27 mm_112 dd_X3_append rfl hl.1 rfl dX3_take_59 rfl (fun H locs hP hD hS => ?_)
        obtain ⟨u_10, hu_10⟩ : ∃ z, z = r_X3_append f sn sf sz tg tF un uf := ⟨_, rfl⟩
        rw [← hu_10] at hP hD ⊢
        rw [show g_X3_take_11 f sn sf sz tg tF un uf (fu + 1) j = (u_10.1, u_10.2.1, u_10.2.2.1, u_10.2.2.2.1, u_10.2.2.2.2) from (by subst hu_10; exact (if_neg c_7).trans (if_pos c_9))]
        dsimp only
        exact ct_zret (v := u_10.1) cx hP hD hS (by subst_vars; exact nb_of (b3_append _ _ _ _ _ _ _ _)) dX3_take_62
      · skip
        refine lv_aload_n hx hb dX3_take_25 rfl (lv_at hl 0 rfl) ?_
        refine lv_iload_n hx hb dX3_take_26 rfl (lv_at hl 3 rfl) ?_
        refine lv_aload_n hx hb dX3_take_27 rfl (lv_at hl 1 rfl) ?_
        refine ct_callV (As := [.int (nI j), .ref th]) (rest := []) (st1 := [.int (r_X3_matches (nI j) f sn sf sz tg tF)]) (V3 := [(h, .inr (3, [.ref a, .ref sh])), (a, .inl (cyI, 100, .inl f)), (sh, .inr (6, [.int (nI 20), .ref sa, .ref sb, .int sn])), (sa, .inl (cyI, 20 * 24, .inl sf)), (sb, .inl (cyI, 20, .inl sz)), (th, .inr (7, [.ref ta0, .ref ta1, .ref ta2, .ref ta3, .int (tg 4), .int (tg 5), .int (tg 6), .int (tg 7), .int (tg 8), .int (tg 9), .int (tg 10), .int (tg 11)])), (ta0, .inl (cyI, 8, .inl (tF 0))), (ta1, .inl (cyI, 16, .inl (tF 1))), (ta2, .inl (cyI, 8, .inl (tF 2))), (ta3, .inl (cyI, 160, .inl (tF 3))), (uh, .inr (4, [.ref ua, .int un])), (ua, .inl (cyI, 24, .inl uf))]) cx (c_X3_matches l D cyI cyZ h a sh sa sb th ta0 ta1 ta2 ta3 (nI j) f sn sf sz tg tF) hP hD hS [0, 1, 2, 3, 4, 5, 6, 7, 8, 9] [(true, 0), (true, 1), (true, 2), (true, 3), (true, 4), (true, 5), (true, 6), (true, 7), (true, 8), (true, 9), (false, 10), (false, 11)] ⟨rfl, rfl, rfl⟩ rfl rfl mm_113 mm_114 mm_115 mm_27 mm_105 dd_X3_matches rfl hl.1 rfl dX3_take_28 rfl (fun H locs hP hD hS => ?_)
        refine lv_if_eq (tgt := 50) hx hb dX3_take_31 (by decide) (fun c_11 => ?_) (fun c_11 => ?_)
        · skip
          refine lv_iinc (v := nI (j + 1)) (lv' := [(3, .int (nI (j + 1))), (0, .ref h), (1, .ref th), (2, .ref uh)]) hx hb dX3_take_50 hl (k := 3) rfl (nI_1 j) (by decide) rfl (fun ls hl => ?_)
          refine lv_goto (tgt := 11) hx hb dX3_take_53 (by decide) ?_
          rw [show g_X3_take_11 f sn sf sz tg tF un uf (fu + 1) j = g_X3_take_11 f sn sf sz tg tF un uf fu (j + 1) from (if_neg c_7).trans ((if_neg c_9).trans (if_pos c_11))]
          exact ih (j + 1) (by have := nI_ltN (N := 20) c_9 hj; omega) (by have := nI_ltN (N := 20) c_9 hj; omega) _ _ _ hP hD hS (lv_sub hl [1, 2, 3, 0] rfl)
        · skip
          refine lv_aload_n hx hb dX3_take_34 rfl (lv_at hl 0 rfl) ?_
          refine ct_get (v := .ref a) cx hP 0 rfl rfl bwX3 0 rfl mm_15 rfl dX3_take_35 ?_
          refine lv_iload_n hx hb dX3_take_38 rfl (lv_at hl 3 rfl) ?_
          refine lv_iconst (v := (5 : Int32)) hx hb dX3_take_39 (by decide) ?_
          refine lv_imul hx hb dX3_take_40 ?_
          refine lv_iconst (v := (4 : Int32)) hx hb dX3_take_41 (by decide) ?_
          refine lv_iadd hx hb dX3_take_42 ?_
          refine lv_dup2_11 hx hb dX3_take_43 rfl rfl ?_
          refine ct_iald cx hP 1 rfl (vp_fr (j_b (nI_ltN (N := 20) c_9 hj)) (by decide)) dX3_take_44 ?_
          refine lv_iconst (v := (1 : Int32)) hx hb dX3_take_45 (by decide) ?_
          refine lv_iadd hx hb dX3_take_46 ?_
          refine ct_iast (V3 := [(h, .inr (3, [.ref a, .ref sh])), (a, .inl (cyI, 100, .inl (upd f ((((nI j) * (5 : Int32)) + (4 : Int32)).toNatClampNeg) ((f ((((nI j) * (5 : Int32)) + (4 : Int32)).toNatClampNeg)) + (1 : Int32))))), (sh, .inr (6, [.int (nI 20), .ref sa, .ref sb, .int sn])), (sa, .inl (cyI, 20 * 24, .inl sf)), (sb, .inl (cyI, 20, .inl sz)), (th, .inr (7, [.ref ta0, .ref ta1, .ref ta2, .ref ta3, .int (tg 4), .int (tg 5), .int (tg 6), .int (tg 7), .int (tg 8), .int (tg 9), .int (tg 10), .int (tg 11)])), (ta0, .inl (cyI, 8, .inl (tF 0))), (ta1, .inl (cyI, 16, .inl (tF 1))), (ta2, .inl (cyI, 8, .inl (tF 2))), (ta3, .inl (cyI, 160, .inl (tF 3))), (uh, .inr (4, [.ref ua, .int un])), (ua, .inl (cyI, 24, .inl uf))]) cx hP hD hS 1 rfl (vp_fr (j_b (nI_ltN (N := 20) c_9 hj)) (by decide)) dX3_take_47 rfl (fun H locs hP hD hS => ?_)
          refine lv_iconst (v := (0 : Int32)) hx hb dX3_take_48 (by decide) ?_
          rw [show g_X3_take_11 f sn sf sz tg tF un uf (fu + 1) j = ((0 : Int32), upd f ((((nI j) * (5 : Int32)) + (4 : Int32)).toNatClampNeg) ((f ((((nI j) * (5 : Int32)) + (4 : Int32)).toNatClampNeg)) + (1 : Int32)), sn, sf, sz) from (if_neg c_7).trans ((if_neg c_9).trans (if_neg c_11))]
          dsimp only
          exact ct_zret (v := (0 : Int32)) cx hP hD hS rfl dX3_take_49
set_option maxHeartbeats 4000000 in
set_option maxRecDepth 100000 in
theorem c_X3_take (l : Launch) (D : va_G) (cyI cyZ : ClassId) (h : Nat) (a : Nat) (sh : Nat) (sa : Nat) (sb : Nat) (th : Nat) (ta0 : Nat) (ta1 : Nat) (ta2 : Nat) (ta3 : Nat) (uh : Nat) (ua : Nat) (f : Nat → Int32) (sn : Int32) (sf : Nat → Int32) (sz : Nat → Int32) (tg : Nat → Int32) (tF : Nat → Nat → Int32) (un : Int32) (uf : Nat → Int32)  : CT l D cyI cyZ yX3_take cX3_take 4 (some .boolean) ({ frames := 3, cells := 0, slots := 0, locals := 68 }) [.ref h, .ref th, .ref uh] [(h, .inr (3, [.ref a, .ref sh])), (a, .inl (cyI, 100, .inl f)), (sh, .inr (6, [.int (nI 20), .ref sa, .ref sb, .int sn])), (sa, .inl (cyI, 20 * 24, .inl sf)), (sb, .inl (cyI, 20, .inl sz)), (th, .inr (7, [.ref ta0, .ref ta1, .ref ta2, .ref ta3, .int (tg 4), .int (tg 5), .int (tg 6), .int (tg 7), .int (tg 8), .int (tg 9), .int (tg 10), .int (tg 11)])), (ta0, .inl (cyI, 8, .inl (tF 0))), (ta1, .inl (cyI, 16, .inl (tF 1))), (ta2, .inl (cyI, 8, .inl (tF 2))), (ta3, .inl (cyI, 160, .inl (tF 3))), (uh, .inr (4, [.ref ua, .int un])), (ua, .inl (cyI, 24, .inl uf))] (some (.int ((r_X3_take f sn sf sz tg tF un uf).1))) [(h, .inr (3, [.ref a, .ref sh])), (a, .inl (cyI, 100, .inl ((r_X3_take f sn sf sz tg tF un uf).2.1))), (sh, .inr (6, [.int (nI 20), .ref sa, .ref sb, .int ((r_X3_take f sn sf sz tg tF un uf).2.2.1)])), (sa, .inl (cyI, 20 * 24, .inl ((r_X3_take f sn sf sz tg tF un uf).2.2.2.1))), (sb, .inl (cyI, 20, .inl ((r_X3_take f sn sf sz tg tF un uf).2.2.2.2))), (th, .inr (7, [.ref ta0, .ref ta1, .ref ta2, .ref ta3, .int (tg 4), .int (tg 5), .int (tg 6), .int (tg 7), .int (tg 8), .int (tg 9), .int (tg 10), .int (tg 11)])), (ta0, .inl (cyI, 8, .inl (tF 0))), (ta1, .inl (cyI, 16, .inl (tF 1))), (ta2, .inl (cyI, 8, .inl (tF 2))), (ta3, .inl (cyI, 160, .inl (tF 3))), (uh, .inr (4, [.ref ua, .int un])), (ua, .inl (cyI, 24, .inl uf))] := by
  refine ct_intro (by decide) (Nat.le_of_ble_eq_true rfl) ?_
  intro p e s m below meth c A ls cx hP hD hS hl
  obtain ⟨hx, hb, -⟩ := id cx
  refine lv_aload_n hx hb dX3_take_0 rfl (lv_at hl 1 rfl) ?_
  refine ct_callV (As := []) (rest := []) (st1 := [.int (tg 5)]) (V3 := [(h, .inr (3, [.ref a, .ref sh])), (a, .inl (cyI, 100, .inl f)), (sh, .inr (6, [.int (nI 20), .ref sa, .ref sb, .int sn])), (sa, .inl (cyI, 20 * 24, .inl sf)), (sb, .inl (cyI, 20, .inl sz)), (th, .inr (7, [.ref ta0, .ref ta1, .ref ta2, .ref ta3, .int (tg 4), .int (tg 5), .int (tg 6), .int (tg 7), .int (tg 8), .int (tg 9), .int (tg 10), .int (tg 11)])), (ta0, .inl (cyI, 8, .inl (tF 0))), (ta1, .inl (cyI, 16, .inl (tF 1))), (ta2, .inl (cyI, 8, .inl (tF 2))), (ta3, .inl (cyI, 160, .inl (tF 3))), (uh, .inr (4, [.ref ua, .int un])), (ua, .inl (cyI, 24, .inl uf))]) cx (c_X7_kind l D cyI cyZ th ta0 ta1 ta2 ta3 tg tF) hP hD hS [5, 6, 7, 8, 9] [(false, 0), (false, 1), (false, 2), (false, 3), (false, 4), (true, 0), (true, 1), (true, 2), (true, 3), (true, 4), (false, 10), (false, 11)] ⟨rfl, rfl, rfl⟩ rfl rfl mm_96 mm_97 mm_98 mm_42 mm_80 dd_X7_kind rfl hl.1 rfl dX3_take_1 rfl (fun H locs hP hD hS => ?_)
  refine lv_if_ne (tgt := 9) hx hb dX3_take_4 (by decide) (fun c_1 => ?_) (fun c_1 => ?_)
  · skip
    refine lv_iconst (v := (0 : Int32)) hx hb dX3_take_9 (by decide) ?_
    refine lv_istore_n (lv' := [(3, .int (0 : Int32)), (0, .ref h), (1, .ref th), (2, .ref uh)]) hx hb dX3_take_10 rfl hl (by decide) rfl (fun ls hl => ?_)
    rw [show r_X3_take f sn sf sz tg tF un uf = g_X3_take_11 f sn sf sz tg tF un uf (20 - 0 + 1) 0 from if_neg c_1]
    exact (lp_X3_take_11 cx h a sh sa sb th ta0 ta1 ta2 ta3 uh ua f sn sf sz tg tF un uf ) (20 - 0 + 1) 0 (by omega) (Nat.lt_succ_self _) _ _ _ hP hD hS (lv_sub hl [1, 2, 3, 0] rfl)
  · skip
    refine lv_iconst (v := (0 : Int32)) hx hb dX3_take_7 (by decide) ?_
    rw [show r_X3_take f sn sf sz tg tF un uf = ((0 : Int32), f, sn, sf, sz) from if_pos c_1]
    dsimp only
    exact ct_zret (v := (0 : Int32)) cx hP hD hS rfl dX3_take_8
def r_X3_clear (f : Nat → Int32) (sn : Int32) (sf : Nat → Int32) (sz : Nat → Int32) : Int32 := let u_1 : Int32 := r_X6_clear 20 sn sf sz; u_1
set_option maxHeartbeats 4000000 in
set_option maxRecDepth 100000 in
theorem c_X3_clear (l : Launch) (D : va_G) (cyI cyZ : ClassId) (h : Nat) (a : Nat) (sh : Nat) (sa : Nat) (sb : Nat) (f : Nat → Int32) (sn : Int32) (sf : Nat → Int32) (sz : Nat → Int32)  : CT l D cyI cyZ yX3_clear cX3_clear 1 none ({ frames := 1, cells := 0, slots := 0, locals := 20 }) [.ref h] [(h, .inr (3, [.ref a, .ref sh])), (a, .inl (cyI, 100, .inl f)), (sh, .inr (6, [.int (nI 20), .ref sa, .ref sb, .int sn])), (sa, .inl (cyI, 20 * 24, .inl sf)), (sb, .inl (cyI, 20, .inl sz))] none [(h, .inr (3, [.ref a, .ref sh])), (a, .inl (cyI, 100, .inl f)), (sh, .inr (6, [.int (nI 20), .ref sa, .ref sb, .int (r_X3_clear f sn sf sz)])), (sa, .inl (cyI, 20 * 24, .inl sf)), (sb, .inl (cyI, 20, .inl sz))] := by
  refine ct_intro (by decide) (Nat.le_of_ble_eq_true rfl) ?_
  intro p e s m below meth c A ls cx hP hD hS hl
  obtain ⟨hx, hb, -⟩ := id cx
  refine lv_aload_n hx hb dX3_clear_0 rfl (lv_at hl 0 rfl) ?_
  refine ct_get (v := .ref sh) cx hP 0 rfl rfl bwX3 1 rfl mm_19 rfl dX3_clear_1 ?_
  refine ct_callV (As := []) (rest := []) (st1 := []) (V3 := [(h, .inr (3, [.ref a, .ref sh])), (a, .inl (cyI, 100, .inl f)), (sh, .inr (6, [.int (nI 20), .ref sa, .ref sb, .int (r_X6_clear 20 sn sf sz)])), (sa, .inl (cyI, 20 * 24, .inl sf)), (sb, .inl (cyI, 20, .inl sz))]) cx (c_X6_clear l D cyI cyZ sh sa sb 20 sn sf sz) hP hD hS [2, 3, 4] [(false, 0), (false, 1), (true, 0), (true, 1), (true, 2)] ⟨rfl, rfl, rfl⟩ rfl rfl mm_130 mm_131 mm_132 mm_18 mm_128 dd_X6_clear rfl hl.1 rfl dX3_clear_4 rfl (fun H locs hP hD hS => ?_)
  obtain ⟨u_1, hu_1⟩ : ∃ z, z = r_X6_clear 20 sn sf sz := ⟨_, rfl⟩
  rw [← hu_1] at hP hD
  rw [show r_X3_clear f sn sf sz = u_1 from (by subst hu_1; exact rfl)]
  exact ct_vret cx hP hD hS dX3_clear_7
