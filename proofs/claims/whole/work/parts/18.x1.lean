theorem mx_ne {n : Int32} : ¬ (if n < (0 : Int32) then (0 : Int32) else n) + (1 : Int32) = (0 : Int32) := by
  have e0 : (0 : Int32).toInt = 0 := rfl
  have e1 : (1 : Int32).toInt = 1 := rfl
  intro h
  split at h
  · exact absurd h (by decide)
  · rename_i h0
    simp only [sg_lt] at h0
    rw [e0] at h0
    have h2 : n = -1 := by
      have h3 : n + 1 - 1 = 0 - 1 := by rw [h]
      simpa using h3
    rw [h2] at h0
    exact absurd h0 (by decide)
theorem nle_ne {n : Int32} (h : ¬ n ≤ (0 : Int32)) : ¬ n = (0 : Int32) := fun e => h (by rw [e]; exact Int32.le_refl _)
theorem lt_ne0 {n : Int32} (h : (0 : Int32) < n) : ¬ n = (0 : Int32) := fun e => by rw [e] at h; exact absurd h (by decide)
def r_X1_insert (place : Int32) (b : Int32) (mn : Int32) (mf : Nat → Int32) (tn : Int32) (tf : Nat → Int32) (un : Int32) (uf : Nat → Int32) : Int32 × (Nat → Int32) × Int32 × (Nat → Int32) := let u_1 : Int32 := r_X4_shorten (0 : Int32) mn mf; let u_2 : Int32 × (Nat → Int32) := r_X4_appendPart (0 : Int32) place u_1 mf un uf; let u_3 : Int32 × Int32 × (Nat → Int32) := r_X4_append b u_2.1 u_2.2; let u_4 : Int32 × (Nat → Int32) := r_X4_appendPart place (24 : Int32) u_3.2.1 u_3.2.2 un uf; let u_5 : Int32 × (Nat → Int32) := r_X4_copy un uf u_4.1 u_4.2; (u_4.1, u_4.2, u_5.1, u_5.2)
set_option maxHeartbeats 4000000 in
set_option maxRecDepth 100000 in
theorem c_X1_insert (l : Launch) (D : va_G) (cyI cyZ : ClassId) (h : Nat) (mh : Nat) (ma : Nat) (th : Nat) (ta : Nat) (uh : Nat) (ua : Nat) (place : Int32) (b : Int32) (mn : Int32) (mf : Nat → Int32) (tn : Int32) (tf : Nat → Int32) (un : Int32) (uf : Nat → Int32)  : CT l D cyI cyZ yX1_insert cX1_insert 4 none ({ frames := 3, cells := 0, slots := 0, locals := 66 }) [.ref h, .ref uh, .int place, .int b] [(h, .inr (1, [.ref mh, .ref th])), (mh, .inr (4, [.ref ma, .int mn])), (ma, .inl (cyI, 24, .inl mf)), (th, .inr (4, [.ref ta, .int tn])), (ta, .inl (cyI, 24, .inl tf)), (uh, .inr (4, [.ref ua, .int un])), (ua, .inl (cyI, 24, .inl uf))] none [(h, .inr (1, [.ref mh, .ref th])), (mh, .inr (4, [.ref ma, .int ((r_X1_insert place b mn mf tn tf un uf).1)])), (ma, .inl (cyI, 24, .inl ((r_X1_insert place b mn mf tn tf un uf).2.1))), (th, .inr (4, [.ref ta, .int tn])), (ta, .inl (cyI, 24, .inl tf)), (uh, .inr (4, [.ref ua, .int ((r_X1_insert place b mn mf tn tf un uf).2.2.1)])), (ua, .inl (cyI, 24, .inl ((r_X1_insert place b mn mf tn tf un uf).2.2.2)))] := by
  refine ct_intro (by decide) (Nat.le_of_ble_eq_true rfl) ?_
  intro p e s m below meth c A ls cx hP hD hS hl
  obtain ⟨hx, hb, -⟩ := id cx
  refine lv_aload_n hx hb dX1_insert_0 rfl (lv_at hl 0 rfl) ?_
  refine ct_get (v := .ref mh) cx hP 0 rfl rfl bwX1 0 rfl mm_148 rfl dX1_insert_1 ?_
  refine lv_iconst (v := (0 : Int32)) hx hb dX1_insert_4 (by decide) ?_
  refine ct_callV (As := [.int (0 : Int32)]) (rest := []) (st1 := []) (V3 := [(h, .inr (1, [.ref mh, .ref th])), (mh, .inr (4, [.ref ma, .int (r_X4_shorten (0 : Int32) mn mf)])), (ma, .inl (cyI, 24, .inl mf)), (th, .inr (4, [.ref ta, .int tn])), (ta, .inl (cyI, 24, .inl tf)), (uh, .inr (4, [.ref ua, .int un])), (ua, .inl (cyI, 24, .inl uf))]) cx (c_X4_shorten l D cyI cyZ mh ma (0 : Int32) mn mf) hP hD hS [1, 2] [(false, 0), (true, 0), (true, 1), (false, 3), (false, 4), (false, 5), (false, 6)] ⟨rfl, rfl, rfl⟩ rfl rfl mm_169 mm_164 mm_165 mm_76 mm_151 dd_X4_shorten rfl hl.1 rfl dX1_insert_5 rfl (fun H locs hP hD hS => ?_)
  obtain ⟨u_1, hu_1⟩ : ∃ z, z = r_X4_shorten (0 : Int32) mn mf := ⟨_, rfl⟩
  rw [← hu_1] at hP hD
  refine lv_aload_n hx hb dX1_insert_8 rfl (lv_at hl 0 rfl) ?_
  refine ct_get (v := .ref mh) cx hP 0 rfl rfl bwX1 0 rfl mm_148 rfl dX1_insert_9 ?_
  refine lv_aload_n hx hb dX1_insert_12 rfl (lv_at hl 1 rfl) ?_
  refine lv_iconst (v := (0 : Int32)) hx hb dX1_insert_13 (by decide) ?_
  refine lv_iload_n hx hb dX1_insert_14 rfl (lv_at hl 2 rfl) ?_
  refine ct_callV (As := [.ref uh, .int (0 : Int32), .int place]) (rest := []) (st1 := []) (V3 := [(h, .inr (1, [.ref mh, .ref th])), (mh, .inr (4, [.ref ma, .int ((r_X4_appendPart (0 : Int32) place u_1 mf un uf).1)])), (ma, .inl (cyI, 24, .inl ((r_X4_appendPart (0 : Int32) place u_1 mf un uf).2))), (th, .inr (4, [.ref ta, .int tn])), (ta, .inl (cyI, 24, .inl tf)), (uh, .inr (4, [.ref ua, .int un])), (ua, .inl (cyI, 24, .inl uf))]) cx (c_X4_appendPart l D cyI cyZ mh ma uh ua (0 : Int32) place u_1 mf un uf) hP hD hS [1, 2, 5, 6] [(false, 0), (true, 0), (true, 1), (false, 3), (false, 4), (true, 2), (true, 3)] ⟨rfl, rfl, rfl⟩ rfl rfl mm_170 mm_167 mm_168 mm_76 mm_154 dd_X4_appendPart rfl hl.1 rfl dX1_insert_15 rfl (fun H locs hP hD hS => ?_)
  obtain ⟨u_2, hu_2⟩ : ∃ z, z = r_X4_appendPart (0 : Int32) place u_1 mf un uf := ⟨_, rfl⟩
  rw [← hu_2] at hP hD
  refine lv_aload_n hx hb dX1_insert_18 rfl (lv_at hl 0 rfl) ?_
  refine ct_get (v := .ref mh) cx hP 0 rfl rfl bwX1 0 rfl mm_148 rfl dX1_insert_19 ?_
  refine lv_iload_n hx hb dX1_insert_22 rfl (lv_at hl 3 rfl) ?_
  refine ct_callV (As := [.int b]) (rest := []) (st1 := [.int ((r_X4_append b u_2.1 u_2.2).1)]) (V3 := [(h, .inr (1, [.ref mh, .ref th])), (mh, .inr (4, [.ref ma, .int ((r_X4_append b u_2.1 u_2.2).2.1)])), (ma, .inl (cyI, 24, .inl ((r_X4_append b u_2.1 u_2.2).2.2))), (th, .inr (4, [.ref ta, .int tn])), (ta, .inl (cyI, 24, .inl tf)), (uh, .inr (4, [.ref ua, .int un])), (ua, .inl (cyI, 24, .inl uf))]) cx (c_X4_append l D cyI cyZ mh ma b u_2.1 u_2.2) hP hD hS [1, 2] [(false, 0), (true, 0), (true, 1), (false, 3), (false, 4), (false, 5), (false, 6)] ⟨rfl, rfl, rfl⟩ rfl rfl mm_171 mm_160 mm_161 mm_76 mm_153 dd_X4_append rfl hl.1 rfl dX1_insert_23 rfl (fun H locs hP hD hS => ?_)
  obtain ⟨u_3, hu_3⟩ : ∃ z, z = r_X4_append b u_2.1 u_2.2 := ⟨_, rfl⟩
  rw [← hu_3] at hP hD ⊢
  refine lv_pop hx hb dX1_insert_26 rfl ?_
  refine lv_aload_n hx hb dX1_insert_27 rfl (lv_at hl 0 rfl) ?_
  refine ct_get (v := .ref mh) cx hP 0 rfl rfl bwX1 0 rfl mm_148 rfl dX1_insert_28 ?_
  refine lv_aload_n hx hb dX1_insert_31 rfl (lv_at hl 1 rfl) ?_
  refine lv_iload_n hx hb dX1_insert_32 rfl (lv_at hl 2 rfl) ?_
  refine lv_bipush (v := (24 : Int32)) hx hb dX1_insert_33 (by decide) ?_
  refine ct_callV (As := [.ref uh, .int place, .int (24 : Int32)]) (rest := []) (st1 := []) (V3 := [(h, .inr (1, [.ref mh, .ref th])), (mh, .inr (4, [.ref ma, .int ((r_X4_appendPart place (24 : Int32) u_3.2.1 u_3.2.2 un uf).1)])), (ma, .inl (cyI, 24, .inl ((r_X4_appendPart place (24 : Int32) u_3.2.1 u_3.2.2 un uf).2))), (th, .inr (4, [.ref ta, .int tn])), (ta, .inl (cyI, 24, .inl tf)), (uh, .inr (4, [.ref ua, .int un])), (ua, .inl (cyI, 24, .inl uf))]) cx (c_X4_appendPart l D cyI cyZ mh ma uh ua place (24 : Int32) u_3.2.1 u_3.2.2 un uf) hP hD hS [1, 2, 5, 6] [(false, 0), (true, 0), (true, 1), (false, 3), (false, 4), (true, 2), (true, 3)] ⟨rfl, rfl, rfl⟩ rfl rfl mm_170 mm_167 mm_168 mm_76 mm_154 dd_X4_appendPart rfl hl.1 rfl dX1_insert_35 rfl (fun H locs hP hD hS => ?_)
  obtain ⟨u_4, hu_4⟩ : ∃ z, z = r_X4_appendPart place (24 : Int32) u_3.2.1 u_3.2.2 un uf := ⟨_, rfl⟩
  rw [← hu_4] at hP hD
  refine lv_aload_n hx hb dX1_insert_38 rfl (lv_at hl 1 rfl) ?_
  refine lv_aload_n hx hb dX1_insert_39 rfl (lv_at hl 0 rfl) ?_
  refine ct_get (v := .ref mh) cx hP 0 rfl rfl bwX1 0 rfl mm_148 rfl dX1_insert_40 ?_
  refine ct_callV (As := [.ref mh]) (rest := []) (st1 := []) (V3 := [(h, .inr (1, [.ref mh, .ref th])), (mh, .inr (4, [.ref ma, .int u_4.1])), (ma, .inl (cyI, 24, .inl u_4.2)), (th, .inr (4, [.ref ta, .int tn])), (ta, .inl (cyI, 24, .inl tf)), (uh, .inr (4, [.ref ua, .int ((r_X4_copy un uf u_4.1 u_4.2).1)])), (ua, .inl (cyI, 24, .inl ((r_X4_copy un uf u_4.1 u_4.2).2)))]) cx (c_X4_copy l D cyI cyZ uh ua mh ma un uf u_4.1 u_4.2) hP hD hS [5, 6, 1, 2] [(false, 0), (true, 2), (true, 3), (false, 3), (false, 4), (true, 0), (true, 1)] ⟨rfl, rfl, rfl⟩ rfl rfl mm_172 mm_173 mm_174 mm_76 mm_162 dd_X4_copy rfl hl.1 rfl dX1_insert_43 rfl (fun H locs hP hD hS => ?_)
  obtain ⟨u_5, hu_5⟩ : ∃ z, z = r_X4_copy un uf u_4.1 u_4.2 := ⟨_, rfl⟩
  rw [← hu_5] at hP hD
  rw [show r_X1_insert place b mn mf tn tf un uf = (u_4.1, u_4.2, u_5.1, u_5.2) from (by subst hu_5; subst hu_4; subst hu_3; subst hu_2; subst hu_1; exact rfl)]
  dsimp only
  exact ct_vret cx hP hD hS dX1_insert_46
def r_X1_cross (place : Int32) (yy : Int32) (mn : Int32) (mf : Nat → Int32) (tn : Int32) (tf : Nat → Int32) (un : Int32) (uf : Nat → Int32) (sn : Int32) (sf : Nat → Int32) (sz : Nat → Int32) : Int32 × (Nat → Int32) × Int32 × (Nat → Int32) := if (0 : Int32) < sn then (let u_2 : Int32 × (Nat → Int32) := r_X6_copyTo (yy - yy / sn * sn) 40 sn sf sz tn tf; let u_3 : Int32 := r_X4_shorten place un uf; let u_4 : Int32 × (Nat → Int32) := r_X4_appendPart place (24 : Int32) u_3 uf u_2.1 u_2.2; (u_2.1, u_2.2, u_4.1, u_4.2)) else (tn, tf, un, uf)
set_option maxHeartbeats 4000000 in
set_option maxRecDepth 100000 in
theorem c_X1_cross (l : Launch) (D : va_G) (cyI cyZ : ClassId) (h : Nat) (mh : Nat) (ma : Nat) (th : Nat) (ta : Nat) (uh : Nat) (ua : Nat) (sh : Nat) (sa : Nat) (sb : Nat) (place : Int32) (yy : Int32) (mn : Int32) (mf : Nat → Int32) (tn : Int32) (tf : Nat → Int32) (un : Int32) (uf : Nat → Int32) (sn : Int32) (sf : Nat → Int32) (sz : Nat → Int32)  : CT l D cyI cyZ yX1_cross cX1_cross 5 none ({ frames := 2, cells := 0, slots := 0, locals := 45 }) [.ref h, .ref uh, .ref sh, .int place, .int yy] [(h, .inr (1, [.ref mh, .ref th])), (mh, .inr (4, [.ref ma, .int mn])), (ma, .inl (cyI, 24, .inl mf)), (th, .inr (4, [.ref ta, .int tn])), (ta, .inl (cyI, 24, .inl tf)), (uh, .inr (4, [.ref ua, .int un])), (ua, .inl (cyI, 24, .inl uf)), (sh, .inr (6, [.int (nI 40), .ref sa, .ref sb, .int sn])), (sa, .inl (cyI, 40 * 24, .inl sf)), (sb, .inl (cyI, 40, .inl sz))] none [(h, .inr (1, [.ref mh, .ref th])), (mh, .inr (4, [.ref ma, .int mn])), (ma, .inl (cyI, 24, .inl mf)), (th, .inr (4, [.ref ta, .int ((r_X1_cross place yy mn mf tn tf un uf sn sf sz).1)])), (ta, .inl (cyI, 24, .inl ((r_X1_cross place yy mn mf tn tf un uf sn sf sz).2.1))), (uh, .inr (4, [.ref ua, .int ((r_X1_cross place yy mn mf tn tf un uf sn sf sz).2.2.1)])), (ua, .inl (cyI, 24, .inl ((r_X1_cross place yy mn mf tn tf un uf sn sf sz).2.2.2))), (sh, .inr (6, [.int (nI 40), .ref sa, .ref sb, .int sn])), (sa, .inl (cyI, 40 * 24, .inl sf)), (sb, .inl (cyI, 40, .inl sz))] := by
  refine ct_intro (by decide) (Nat.le_of_ble_eq_true rfl) ?_
  intro p e s m below meth c A ls cx hP hD hS hl
  obtain ⟨hx, hb, -⟩ := id cx
  refine lv_aload_n hx hb dX1_cross_0 rfl (lv_at hl 2 rfl) ?_
  refine ct_callV (As := []) (rest := []) (st1 := [.int sn]) (V3 := [(h, .inr (1, [.ref mh, .ref th])), (mh, .inr (4, [.ref ma, .int mn])), (ma, .inl (cyI, 24, .inl mf)), (th, .inr (4, [.ref ta, .int tn])), (ta, .inl (cyI, 24, .inl tf)), (uh, .inr (4, [.ref ua, .int un])), (ua, .inl (cyI, 24, .inl uf)), (sh, .inr (6, [.int (nI 40), .ref sa, .ref sb, .int sn])), (sa, .inl (cyI, 40 * 24, .inl sf)), (sb, .inl (cyI, 40, .inl sz))]) cx (c_X6_size l D cyI cyZ sh sa sb 40 sn sf sz) hP hD hS [7, 8, 9] [(false, 0), (false, 1), (false, 2), (false, 3), (false, 4), (false, 5), (false, 6), (true, 0), (true, 1), (true, 2)] ⟨rfl, rfl, rfl⟩ rfl rfl mm_183 mm_85 mm_86 mm_18 mm_82 dd_X6_size rfl hl.1 rfl dX1_cross_1 rfl (fun H locs hP hD hS => ?_)
  refine lv_if_gt (tgt := 8) hx hb dX1_cross_4 (by decide) (fun c_1 => ?_) (fun c_1 => ?_)
  · skip
    refine lv_aload_n hx hb dX1_cross_8 rfl (lv_at hl 2 rfl) ?_
    refine lv_iload hx hb dX1_cross_9 (lv_at hl 4 rfl) ?_
    refine lv_aload_n hx hb dX1_cross_11 rfl (lv_at hl 2 rfl) ?_
    refine ct_callV (As := []) (rest := [.int yy, .ref sh]) (st1 := [.int sn, .int yy, .ref sh]) (V3 := [(h, .inr (1, [.ref mh, .ref th])), (mh, .inr (4, [.ref ma, .int mn])), (ma, .inl (cyI, 24, .inl mf)), (th, .inr (4, [.ref ta, .int tn])), (ta, .inl (cyI, 24, .inl tf)), (uh, .inr (4, [.ref ua, .int un])), (ua, .inl (cyI, 24, .inl uf)), (sh, .inr (6, [.int (nI 40), .ref sa, .ref sb, .int sn])), (sa, .inl (cyI, 40 * 24, .inl sf)), (sb, .inl (cyI, 40, .inl sz))]) cx (c_X6_size l D cyI cyZ sh sa sb 40 sn sf sz) hP hD hS [7, 8, 9] [(false, 0), (false, 1), (false, 2), (false, 3), (false, 4), (false, 5), (false, 6), (true, 0), (true, 1), (true, 2)] ⟨rfl, rfl, rfl⟩ rfl rfl mm_183 mm_85 mm_86 mm_18 mm_82 dd_X6_size rfl hl.1 rfl dX1_cross_12 rfl (fun H locs hP hD hS => ?_)
    refine lv_irem hx hb dX1_cross_15 (lt_ne0 c_1) ?_
    refine lv_aload_n hx hb dX1_cross_16 rfl (lv_at hl 0 rfl) ?_
    refine ct_get (v := .ref th) cx hP 0 rfl rfl bwX1 1 rfl mm_149 rfl dX1_cross_17 ?_
    refine ct_callV (As := [.int (yy - yy / sn * sn), .ref th]) (rest := []) (st1 := []) (V3 := [(h, .inr (1, [.ref mh, .ref th])), (mh, .inr (4, [.ref ma, .int mn])), (ma, .inl (cyI, 24, .inl mf)), (th, .inr (4, [.ref ta, .int ((r_X6_copyTo (yy - yy / sn * sn) 40 sn sf sz tn tf).1)])), (ta, .inl (cyI, 24, .inl ((r_X6_copyTo (yy - yy / sn * sn) 40 sn sf sz tn tf).2))), (uh, .inr (4, [.ref ua, .int un])), (ua, .inl (cyI, 24, .inl uf)), (sh, .inr (6, [.int (nI 40), .ref sa, .ref sb, .int sn])), (sa, .inl (cyI, 40 * 24, .inl sf)), (sb, .inl (cyI, 40, .inl sz))]) cx (c_X6_copyTo l D cyI cyZ sh sa sb th ta (yy - yy / sn * sn) 40 sn sf sz tn tf (by decide)) hP hD hS [7, 8, 9, 3, 4] [(false, 0), (false, 1), (false, 2), (true, 3), (true, 4), (false, 5), (false, 6), (true, 0), (true, 1), (true, 2)] ⟨rfl, rfl, rfl⟩ rfl rfl mm_184 mm_185 mm_186 mm_18 mm_177 dd_X6_copyTo rfl hl.1 rfl dX1_cross_20 rfl (fun H locs hP hD hS => ?_)
    obtain ⟨u_2, hu_2⟩ : ∃ z, z = r_X6_copyTo (yy - yy / sn * sn) 40 sn sf sz tn tf := ⟨_, rfl⟩
    rw [← hu_2] at hP hD
    refine lv_aload_n hx hb dX1_cross_23 rfl (lv_at hl 1 rfl) ?_
    refine lv_iload_n hx hb dX1_cross_24 rfl (lv_at hl 3 rfl) ?_
    refine ct_callV (As := [.int place]) (rest := []) (st1 := []) (V3 := [(h, .inr (1, [.ref mh, .ref th])), (mh, .inr (4, [.ref ma, .int mn])), (ma, .inl (cyI, 24, .inl mf)), (th, .inr (4, [.ref ta, .int u_2.1])), (ta, .inl (cyI, 24, .inl u_2.2)), (uh, .inr (4, [.ref ua, .int (r_X4_shorten place un uf)])), (ua, .inl (cyI, 24, .inl uf)), (sh, .inr (6, [.int (nI 40), .ref sa, .ref sb, .int sn])), (sa, .inl (cyI, 40 * 24, .inl sf)), (sb, .inl (cyI, 40, .inl sz))]) cx (c_X4_shorten l D cyI cyZ uh ua place un uf) hP hD hS [5, 6] [(false, 0), (false, 1), (false, 2), (false, 3), (false, 4), (true, 0), (true, 1), (false, 7), (false, 8), (false, 9)] ⟨rfl, rfl, rfl⟩ rfl rfl mm_169 mm_164 mm_165 mm_76 mm_151 dd_X4_shorten rfl hl.1 rfl dX1_cross_25 rfl (fun H locs hP hD hS => ?_)
    obtain ⟨u_3, hu_3⟩ : ∃ z, z = r_X4_shorten place un uf := ⟨_, rfl⟩
    rw [← hu_3] at hP hD
    refine lv_aload_n hx hb dX1_cross_28 rfl (lv_at hl 1 rfl) ?_
    refine lv_aload_n hx hb dX1_cross_29 rfl (lv_at hl 0 rfl) ?_
    refine ct_get (v := .ref th) cx hP 0 rfl rfl bwX1 1 rfl mm_149 rfl dX1_cross_30 ?_
    refine lv_iload_n hx hb dX1_cross_33 rfl (lv_at hl 3 rfl) ?_
    refine lv_bipush (v := (24 : Int32)) hx hb dX1_cross_34 (by decide) ?_
    refine ct_callV (As := [.ref th, .int place, .int (24 : Int32)]) (rest := []) (st1 := []) (V3 := [(h, .inr (1, [.ref mh, .ref th])), (mh, .inr (4, [.ref ma, .int mn])), (ma, .inl (cyI, 24, .inl mf)), (th, .inr (4, [.ref ta, .int u_2.1])), (ta, .inl (cyI, 24, .inl u_2.2)), (uh, .inr (4, [.ref ua, .int ((r_X4_appendPart place (24 : Int32) u_3 uf u_2.1 u_2.2).1)])), (ua, .inl (cyI, 24, .inl ((r_X4_appendPart place (24 : Int32) u_3 uf u_2.1 u_2.2).2))), (sh, .inr (6, [.int (nI 40), .ref sa, .ref sb, .int sn])), (sa, .inl (cyI, 40 * 24, .inl sf)), (sb, .inl (cyI, 40, .inl sz))]) cx (c_X4_appendPart l D cyI cyZ uh ua th ta place (24 : Int32) u_3 uf u_2.1 u_2.2) hP hD hS [5, 6, 3, 4] [(false, 0), (false, 1), (false, 2), (true, 2), (true, 3), (true, 0), (true, 1), (false, 7), (false, 8), (false, 9)] ⟨rfl, rfl, rfl⟩ rfl rfl mm_170 mm_167 mm_168 mm_76 mm_154 dd_X4_appendPart rfl hl.1 rfl dX1_cross_36 rfl (fun H locs hP hD hS => ?_)
    obtain ⟨u_4, hu_4⟩ : ∃ z, z = r_X4_appendPart place (24 : Int32) u_3 uf u_2.1 u_2.2 := ⟨_, rfl⟩
    rw [← hu_4] at hP hD
    rw [show r_X1_cross place yy mn mf tn tf un uf sn sf sz = (u_2.1, u_2.2, u_4.1, u_4.2) from (by subst hu_4; subst hu_3; subst hu_2; exact if_pos c_1)]
    dsimp only
    exact ct_vret cx hP hD hS dX1_cross_39
  · skip
    rw [show r_X1_cross place yy mn mf tn tf un uf sn sf sz = (tn, tf, un, uf) from if_neg c_1]
    dsimp only
    exact ct_vret cx hP hD hS dX1_cross_7
def r_X1_changeAt (kind : Int32) (pm : Int32) (yy : Int32) (mn : Int32) (mf : Nat → Int32) (tn : Int32) (tf : Nat → Int32) (un : Int32) (uf : Nat → Int32) : Int32 × (Nat → Int32) × Int32 × (Nat → Int32) := if kind = (0 : Int32) then (let u_2 : (Nat → Int32) := r_X4_put pm ((r_X4_get pm un uf) ^^^ ((1 : Int32) <<< ((yy - yy / (8 : Int32) * (8 : Int32)) &&& 31))) un uf; (mn, mf, un, u_2)) else if kind = (1 : Int32) then (let u_4 : (Nat → Int32) := r_X4_put pm (yy - yy / (256 : Int32) * (256 : Int32)) un uf; (mn, mf, un, u_4)) else if kind = (2 : Int32) then (let u_6 : Int32 × (Nat → Int32) := r_X4_copyParts pm ((pm + (1 : Int32)) + (yy - yy / (4 : Int32) * (4 : Int32))) mn mf un uf; let u_7 : Int32 × (Nat → Int32) := r_X4_copy un uf u_6.1 u_6.2; (u_6.1, u_6.2, u_7.1, u_7.2)) else if kind = (3 : Int32) then (let u_9 : Int32 × (Nat → Int32) := r_X4_copyParts ((pm + (1 : Int32)) + (yy - yy / (4 : Int32) * (4 : Int32))) pm mn mf un uf; let u_10 : Int32 × (Nat → Int32) := r_X4_copy un uf u_9.1 u_9.2; (u_9.1, u_9.2, u_10.1, u_10.2)) else if (yy - yy / (2 : Int32) * (2 : Int32)) = (1 : Int32) then (let u_13 : (Nat → Int32) := r_X4_put pm (((r_X4_get pm un uf) + (1 : Int32)) - ((r_X4_get pm un uf) + (1 : Int32)) / (256 : Int32) * (256 : Int32)) un uf; (mn, mf, un, u_13)) else let u_12 : (Nat → Int32) := r_X4_put pm ((((r_X4_get pm un uf) + (256 : Int32)) - (1 : Int32)) - (((r_X4_get pm un uf) + (256 : Int32)) - (1 : Int32)) / (256 : Int32) * (256 : Int32)) un uf; (mn, mf, un, u_12)
set_option maxHeartbeats 4000000 in
set_option maxRecDepth 100000 in
theorem c_X1_changeAt (l : Launch) (D : va_G) (cyI cyZ : ClassId) (h : Nat) (mh : Nat) (ma : Nat) (th : Nat) (ta : Nat) (uh : Nat) (ua : Nat) (kind : Int32) (pm : Int32) (yy : Int32) (mn : Int32) (mf : Nat → Int32) (tn : Int32) (tf : Nat → Int32) (un : Int32) (uf : Nat → Int32)  : CT l D cyI cyZ yX1_changeAt cX1_changeAt 7 none ({ frames := 3, cells := 0, slots := 0, locals := 68 }) [.ref h, .ref uh, .int kind, .int pm, .int yy] [(h, .inr (1, [.ref mh, .ref th])), (mh, .inr (4, [.ref ma, .int mn])), (ma, .inl (cyI, 24, .inl mf)), (th, .inr (4, [.ref ta, .int tn])), (ta, .inl (cyI, 24, .inl tf)), (uh, .inr (4, [.ref ua, .int un])), (ua, .inl (cyI, 24, .inl uf))] none [(h, .inr (1, [.ref mh, .ref th])), (mh, .inr (4, [.ref ma, .int ((r_X1_changeAt kind pm yy mn mf tn tf un uf).1)])), (ma, .inl (cyI, 24, .inl ((r_X1_changeAt kind pm yy mn mf tn tf un uf).2.1))), (th, .inr (4, [.ref ta, .int tn])), (ta, .inl (cyI, 24, .inl tf)), (uh, .inr (4, [.ref ua, .int ((r_X1_changeAt kind pm yy mn mf tn tf un uf).2.2.1)])), (ua, .inl (cyI, 24, .inl ((r_X1_changeAt kind pm yy mn mf tn tf un uf).2.2.2)))] := by
  refine ct_intro (by decide) (Nat.le_of_ble_eq_true rfl) ?_
  intro p e s m below meth c A ls cx hP hD hS hl
  obtain ⟨hx, hb, -⟩ := id cx
  refine lv_aload_n hx hb dX1_changeAt_0 rfl (lv_at hl 1 rfl) ?_
  refine lv_iload_n hx hb dX1_changeAt_1 rfl (lv_at hl 3 rfl) ?_
  refine ct_callV (As := [.int pm]) (rest := []) (st1 := [.int (r_X4_get pm un uf)]) (V3 := [(h, .inr (1, [.ref mh, .ref th])), (mh, .inr (4, [.ref ma, .int mn])), (ma, .inl (cyI, 24, .inl mf)), (th, .inr (4, [.ref ta, .int tn])), (ta, .inl (cyI, 24, .inl tf)), (uh, .inr (4, [.ref ua, .int un])), (ua, .inl (cyI, 24, .inl uf))]) cx (c_X4_get l D cyI cyZ uh ua pm un uf) hP hD hS [5, 6] [(false, 0), (false, 1), (false, 2), (false, 3), (false, 4), (true, 0), (true, 1)] ⟨rfl, rfl, rfl⟩ rfl rfl mm_190 mm_78 mm_79 mm_76 mm_70 dd_X4_get rfl hl.1 rfl dX1_changeAt_2 rfl (fun H locs hP hD hS => ?_)
  refine lv_istore (lv' := [(5, .int (r_X4_get pm un uf)), (0, .ref h), (1, .ref uh), (2, .int kind), (3, .int pm), (4, .int yy)]) hx hb dX1_changeAt_5 hl (by decide) rfl (fun ls hl => ?_)
  refine lv_iload_n hx hb dX1_changeAt_7 rfl (lv_at hl 4 rfl) ?_
  refine lv_iconst (v := (1 : Int32)) hx hb dX1_changeAt_8 (by decide) ?_
  refine lv_iadd hx hb dX1_changeAt_9 ?_
  refine lv_iload hx hb dX1_changeAt_10 (lv_at hl 5 rfl) ?_
  refine lv_iconst (v := (4 : Int32)) hx hb dX1_changeAt_12 (by decide) ?_
  refine lv_irem hx hb dX1_changeAt_13 (by decide) ?_
  refine lv_iadd hx hb dX1_changeAt_14 ?_
  refine lv_istore (lv' := [(6, .int ((pm + (1 : Int32)) + (yy - yy / (4 : Int32) * (4 : Int32)))), (5, .int (r_X4_get pm un uf)), (0, .ref h), (1, .ref uh), (2, .int kind), (3, .int pm), (4, .int yy)]) hx hb dX1_changeAt_15 hl (by decide) rfl (fun ls hl => ?_)
  refine lv_iload_n hx hb dX1_changeAt_17 rfl (lv_at hl 4 rfl) ?_
  by_cases c_1 : kind = (0 : Int32)
  · refine lv_tableIn (off := 30) (tgt := 48) hx hb dX1_changeAt_18 (by rw [c_1]; decide) (by rw [c_1]; decide) (by rw [c_1]; rfl) (by decide) ?_
    refine lv_aload_n hx hb dX1_changeAt_48 rfl (lv_at hl 3 rfl) ?_
    refine lv_iload_n hx hb dX1_changeAt_49 rfl (lv_at hl 5 rfl) ?_
    refine lv_iload hx hb dX1_changeAt_50 (lv_at hl 1 rfl) ?_
    refine lv_iconst (v := (1 : Int32)) hx hb dX1_changeAt_52 (by decide) ?_
    refine lv_iload hx hb dX1_changeAt_53 (lv_at hl 6 rfl) ?_
    refine lv_bipush (v := (8 : Int32)) hx hb dX1_changeAt_55 (by decide) ?_
    refine lv_irem hx hb dX1_changeAt_57 (by decide) ?_
    refine lv_ishl hx hb dX1_changeAt_58 ?_
    refine lv_ixor hx hb dX1_changeAt_59 ?_
    refine ct_callV (As := [.int pm, .int ((r_X4_get pm un uf) ^^^ ((1 : Int32) <<< ((yy - yy / (8 : Int32) * (8 : Int32)) &&& 31)))]) (rest := []) (st1 := []) (V3 := [(h, .inr (1, [.ref mh, .ref th])), (mh, .inr (4, [.ref ma, .int mn])), (ma, .inl (cyI, 24, .inl mf)), (th, .inr (4, [.ref ta, .int tn])), (ta, .inl (cyI, 24, .inl tf)), (uh, .inr (4, [.ref ua, .int un])), (ua, .inl (cyI, 24, .inl (r_X4_put pm ((r_X4_get pm un uf) ^^^ ((1 : Int32) <<< ((yy - yy / (8 : Int32) * (8 : Int32)) &&& 31))) un uf)))]) cx (c_X4_put l D cyI cyZ uh ua pm ((r_X4_get pm un uf) ^^^ ((1 : Int32) <<< ((yy - yy / (8 : Int32) * (8 : Int32)) &&& 31))) un uf) hP hD hS [5, 6] [(false, 0), (false, 1), (false, 2), (false, 3), (false, 4), (true, 0), (true, 1)] ⟨rfl, rfl, rfl⟩ rfl rfl mm_191 mm_192 mm_193 mm_76 mm_188 dd_X4_put rfl hl.1 rfl dX1_changeAt_60 rfl (fun H locs hP hD hS => ?_)
    obtain ⟨u_2, hu_2⟩ : ∃ z, z = r_X4_put pm ((r_X4_get pm un uf) ^^^ ((1 : Int32) <<< ((yy - yy / (8 : Int32) * (8 : Int32)) &&& 31))) un uf := ⟨_, rfl⟩
    rw [← hu_2] at hP hD
    refine lv_goto (tgt := 156) hx hb dX1_changeAt_63 (by decide) ?_
    rw [show r_X1_changeAt kind pm yy mn mf tn tf un uf = (mn, mf, un, u_2) from (by subst hu_2; exact if_pos c_1)]
    dsimp only
    exact ct_vret cx hP hD hS dX1_changeAt_156
  · skip
    by_cases c_3 : kind = (1 : Int32)
    · refine lv_tableIn (off := 48) (tgt := 66) hx hb dX1_changeAt_18 (by rw [c_3]; decide) (by rw [c_3]; decide) (by rw [c_3]; rfl) (by decide) ?_
      refine lv_aload_n hx hb dX1_changeAt_66 rfl (lv_at hl 3 rfl) ?_
      refine lv_iload_n hx hb dX1_changeAt_67 rfl (lv_at hl 5 rfl) ?_
      refine lv_iload hx hb dX1_changeAt_68 (lv_at hl 6 rfl) ?_
      refine lv_sipush (v := (256 : Int32)) hx hb dX1_changeAt_70 (by decide) ?_
      refine lv_irem hx hb dX1_changeAt_73 (by decide) ?_
      refine ct_callV (As := [.int pm, .int (yy - yy / (256 : Int32) * (256 : Int32))]) (rest := []) (st1 := []) (V3 := [(h, .inr (1, [.ref mh, .ref th])), (mh, .inr (4, [.ref ma, .int mn])), (ma, .inl (cyI, 24, .inl mf)), (th, .inr (4, [.ref ta, .int tn])), (ta, .inl (cyI, 24, .inl tf)), (uh, .inr (4, [.ref ua, .int un])), (ua, .inl (cyI, 24, .inl (r_X4_put pm (yy - yy / (256 : Int32) * (256 : Int32)) un uf)))]) cx (c_X4_put l D cyI cyZ uh ua pm (yy - yy / (256 : Int32) * (256 : Int32)) un uf) hP hD hS [5, 6] [(false, 0), (false, 1), (false, 2), (false, 3), (false, 4), (true, 0), (true, 1)] ⟨rfl, rfl, rfl⟩ rfl rfl mm_191 mm_192 mm_193 mm_76 mm_188 dd_X4_put rfl hl.1 rfl dX1_changeAt_74 rfl (fun H locs hP hD hS => ?_)
      obtain ⟨u_4, hu_4⟩ : ∃ z, z = r_X4_put pm (yy - yy / (256 : Int32) * (256 : Int32)) un uf := ⟨_, rfl⟩
      rw [← hu_4] at hP hD
      refine lv_goto (tgt := 156) hx hb dX1_changeAt_77 (by decide) ?_
      rw [show r_X1_changeAt kind pm yy mn mf tn tf un uf = (mn, mf, un, u_4) from (by subst hu_4; exact (if_neg c_1).trans (if_pos c_3))]
      dsimp only
      exact ct_vret cx hP hD hS dX1_changeAt_156
    · skip
      by_cases c_5 : kind = (2 : Int32)
      · refine lv_tableIn (off := 62) (tgt := 80) hx hb dX1_changeAt_18 (by rw [c_5]; decide) (by rw [c_5]; decide) (by rw [c_5]; rfl) (by decide) ?_
        refine lv_aload_n hx hb dX1_changeAt_80 rfl (lv_at hl 2 rfl) ?_
        refine ct_get (v := .ref mh) cx hP 0 rfl rfl bwX1 0 rfl mm_148 rfl dX1_changeAt_81 ?_
        refine lv_aload_n hx hb dX1_changeAt_84 rfl (lv_at hl 3 rfl) ?_
        refine lv_iload_n hx hb dX1_changeAt_85 rfl (lv_at hl 5 rfl) ?_
        refine lv_iload hx hb dX1_changeAt_86 (lv_at hl 0 rfl) ?_
        refine ct_callV (As := [.ref uh, .int pm, .int ((pm + (1 : Int32)) + (yy - yy / (4 : Int32) * (4 : Int32)))]) (rest := []) (st1 := []) (V3 := [(h, .inr (1, [.ref mh, .ref th])), (mh, .inr (4, [.ref ma, .int ((r_X4_copyParts pm ((pm + (1 : Int32)) + (yy - yy / (4 : Int32) * (4 : Int32))) mn mf un uf).1)])), (ma, .inl (cyI, 24, .inl ((r_X4_copyParts pm ((pm + (1 : Int32)) + (yy - yy / (4 : Int32) * (4 : Int32))) mn mf un uf).2))), (th, .inr (4, [.ref ta, .int tn])), (ta, .inl (cyI, 24, .inl tf)), (uh, .inr (4, [.ref ua, .int un])), (ua, .inl (cyI, 24, .inl uf))]) cx (c_X4_copyParts l D cyI cyZ mh ma uh ua pm ((pm + (1 : Int32)) + (yy - yy / (4 : Int32) * (4 : Int32))) mn mf un uf) hP hD hS [1, 2, 5, 6] [(false, 0), (true, 0), (true, 1), (false, 3), (false, 4), (true, 2), (true, 3)] ⟨rfl, rfl, rfl⟩ rfl rfl mm_194 mm_195 mm_196 mm_76 mm_189 dd_X4_copyParts rfl hl.1 rfl dX1_changeAt_88 rfl (fun H locs hP hD hS => ?_)
        obtain ⟨u_6, hu_6⟩ : ∃ z, z = r_X4_copyParts pm ((pm + (1 : Int32)) + (yy - yy / (4 : Int32) * (4 : Int32))) mn mf un uf := ⟨_, rfl⟩
        rw [← hu_6] at hP hD
        refine lv_aload_n hx hb dX1_changeAt_91 rfl (lv_at hl 3 rfl) ?_
        refine lv_aload_n hx hb dX1_changeAt_92 rfl (lv_at hl 2 rfl) ?_
        refine ct_get (v := .ref mh) cx hP 0 rfl rfl bwX1 0 rfl mm_148 rfl dX1_changeAt_93 ?_
        refine ct_callV (As := [.ref mh]) (rest := []) (st1 := []) (V3 := [(h, .inr (1, [.ref mh, .ref th])), (mh, .inr (4, [.ref ma, .int u_6.1])), (ma, .inl (cyI, 24, .inl u_6.2)), (th, .inr (4, [.ref ta, .int tn])), (ta, .inl (cyI, 24, .inl tf)), (uh, .inr (4, [.ref ua, .int ((r_X4_copy un uf u_6.1 u_6.2).1)])), (ua, .inl (cyI, 24, .inl ((r_X4_copy un uf u_6.1 u_6.2).2)))]) cx (c_X4_copy l D cyI cyZ uh ua mh ma un uf u_6.1 u_6.2) hP hD hS [5, 6, 1, 2] [(false, 0), (true, 2), (true, 3), (false, 3), (false, 4), (true, 0), (true, 1)] ⟨rfl, rfl, rfl⟩ rfl rfl mm_172 mm_173 mm_174 mm_76 mm_162 dd_X4_copy rfl hl.1 rfl dX1_changeAt_96 rfl (fun H locs hP hD hS => ?_)
        obtain ⟨u_7, hu_7⟩ : ∃ z, z = r_X4_copy un uf u_6.1 u_6.2 := ⟨_, rfl⟩
        rw [← hu_7] at hP hD
        refine lv_goto (tgt := 156) hx hb dX1_changeAt_99 (by decide) ?_
        rw [show r_X1_changeAt kind pm yy mn mf tn tf un uf = (u_6.1, u_6.2, u_7.1, u_7.2) from (by subst hu_7; subst hu_6; exact (if_neg c_1).trans ((if_neg c_3).trans (if_pos c_5)))]
        dsimp only
        exact ct_vret cx hP hD hS dX1_changeAt_156
      · skip
        by_cases c_8 : kind = (3 : Int32)
        · refine lv_tableIn (off := 84) (tgt := 102) hx hb dX1_changeAt_18 (by rw [c_8]; decide) (by rw [c_8]; decide) (by rw [c_8]; rfl) (by decide) ?_
          refine lv_aload_n hx hb dX1_changeAt_102 rfl (lv_at hl 2 rfl) ?_
          refine ct_get (v := .ref mh) cx hP 0 rfl rfl bwX1 0 rfl mm_148 rfl dX1_changeAt_103 ?_
          refine lv_aload_n hx hb dX1_changeAt_106 rfl (lv_at hl 3 rfl) ?_
          refine lv_iload hx hb dX1_changeAt_107 (lv_at hl 0 rfl) ?_
          refine lv_iload_n hx hb dX1_changeAt_109 rfl (lv_at hl 5 rfl) ?_
          refine ct_callV (As := [.ref uh, .int ((pm + (1 : Int32)) + (yy - yy / (4 : Int32) * (4 : Int32))), .int pm]) (rest := []) (st1 := []) (V3 := [(h, .inr (1, [.ref mh, .ref th])), (mh, .inr (4, [.ref ma, .int ((r_X4_copyParts ((pm + (1 : Int32)) + (yy - yy / (4 : Int32) * (4 : Int32))) pm mn mf un uf).1)])), (ma, .inl (cyI, 24, .inl ((r_X4_copyParts ((pm + (1 : Int32)) + (yy - yy / (4 : Int32) * (4 : Int32))) pm mn mf un uf).2))), (th, .inr (4, [.ref ta, .int tn])), (ta, .inl (cyI, 24, .inl tf)), (uh, .inr (4, [.ref ua, .int un])), (ua, .inl (cyI, 24, .inl uf))]) cx (c_X4_copyParts l D cyI cyZ mh ma uh ua ((pm + (1 : Int32)) + (yy - yy / (4 : Int32) * (4 : Int32))) pm mn mf un uf) hP hD hS [1, 2, 5, 6] [(false, 0), (true, 0), (true, 1), (false, 3), (false, 4), (true, 2), (true, 3)] ⟨rfl, rfl, rfl⟩ rfl rfl mm_194 mm_195 mm_196 mm_76 mm_189 dd_X4_copyParts rfl hl.1 rfl dX1_changeAt_110 rfl (fun H locs hP hD hS => ?_)
          obtain ⟨u_9, hu_9⟩ : ∃ z, z = r_X4_copyParts ((pm + (1 : Int32)) + (yy - yy / (4 : Int32) * (4 : Int32))) pm mn mf un uf := ⟨_, rfl⟩
          rw [← hu_9] at hP hD
          refine lv_aload_n hx hb dX1_changeAt_113 rfl (lv_at hl 3 rfl) ?_
          refine lv_aload_n hx hb dX1_changeAt_114 rfl (lv_at hl 2 rfl) ?_
          refine ct_get (v := .ref mh) cx hP 0 rfl rfl bwX1 0 rfl mm_148 rfl dX1_changeAt_115 ?_
          refine ct_callV (As := [.ref mh]) (rest := []) (st1 := []) (V3 := [(h, .inr (1, [.ref mh, .ref th])), (mh, .inr (4, [.ref ma, .int u_9.1])), (ma, .inl (cyI, 24, .inl u_9.2)), (th, .inr (4, [.ref ta, .int tn])), (ta, .inl (cyI, 24, .inl tf)), (uh, .inr (4, [.ref ua, .int ((r_X4_copy un uf u_9.1 u_9.2).1)])), (ua, .inl (cyI, 24, .inl ((r_X4_copy un uf u_9.1 u_9.2).2)))]) cx (c_X4_copy l D cyI cyZ uh ua mh ma un uf u_9.1 u_9.2) hP hD hS [5, 6, 1, 2] [(false, 0), (true, 2), (true, 3), (false, 3), (false, 4), (true, 0), (true, 1)] ⟨rfl, rfl, rfl⟩ rfl rfl mm_172 mm_173 mm_174 mm_76 mm_162 dd_X4_copy rfl hl.1 rfl dX1_changeAt_118 rfl (fun H locs hP hD hS => ?_)
          obtain ⟨u_10, hu_10⟩ : ∃ z, z = r_X4_copy un uf u_9.1 u_9.2 := ⟨_, rfl⟩
          rw [← hu_10] at hP hD
          refine lv_goto (tgt := 156) hx hb dX1_changeAt_121 (by decide) ?_
          rw [show r_X1_changeAt kind pm yy mn mf tn tf un uf = (u_9.1, u_9.2, u_10.1, u_10.2) from (by subst hu_10; subst hu_9; exact (if_neg c_1).trans ((if_neg c_3).trans ((if_neg c_5).trans (if_pos c_8))))]
          dsimp only
          exact ct_vret cx hP hD hS dX1_changeAt_156
        · skip
          have t_0 := lv_neT (a := 0) c_1 rfl
          have t_1 := lv_neT (a := 1) c_3 rfl
          have t_2 := lv_neT (a := 2) c_5 rfl
          have t_3 := lv_neT (a := 3) c_8 rfl
          refine lv_tableOut (tgt := 124) hx hb dX1_changeAt_18 (by omega) (by decide) ?_
          refine lv_aload_n hx hb dX1_changeAt_124 rfl (lv_at hl 3 rfl) ?_
          refine lv_iload_n hx hb dX1_changeAt_125 rfl (lv_at hl 5 rfl) ?_
          refine lv_iload hx hb dX1_changeAt_126 (lv_at hl 6 rfl) ?_
          refine lv_iconst (v := (2 : Int32)) hx hb dX1_changeAt_128 (by decide) ?_
          refine lv_irem hx hb dX1_changeAt_129 (by decide) ?_
          refine lv_iconst (v := (1 : Int32)) hx hb dX1_changeAt_130 (by decide) ?_
          refine lv_icmp_ne (tgt := 141) hx hb dX1_changeAt_131 (by decide) (fun c_11 => ?_) (fun c_11 => ?_)
          · skip
            refine lv_iload hx hb dX1_changeAt_141 (lv_at hl 1 rfl) ?_
            refine lv_sipush (v := (256 : Int32)) hx hb dX1_changeAt_143 (by decide) ?_
            refine lv_iadd hx hb dX1_changeAt_146 ?_
            refine lv_iconst (v := (1 : Int32)) hx hb dX1_changeAt_147 (by decide) ?_
            refine lv_isub hx hb dX1_changeAt_148 ?_
            refine lv_sipush (v := (256 : Int32)) hx hb dX1_changeAt_149 (by decide) ?_
            refine lv_irem hx hb dX1_changeAt_152 (by decide) ?_
            refine ct_callV (As := [.int pm, .int ((((r_X4_get pm un uf) + (256 : Int32)) - (1 : Int32)) - (((r_X4_get pm un uf) + (256 : Int32)) - (1 : Int32)) / (256 : Int32) * (256 : Int32))]) (rest := []) (st1 := []) (V3 := [(h, .inr (1, [.ref mh, .ref th])), (mh, .inr (4, [.ref ma, .int mn])), (ma, .inl (cyI, 24, .inl mf)), (th, .inr (4, [.ref ta, .int tn])), (ta, .inl (cyI, 24, .inl tf)), (uh, .inr (4, [.ref ua, .int un])), (ua, .inl (cyI, 24, .inl (r_X4_put pm ((((r_X4_get pm un uf) + (256 : Int32)) - (1 : Int32)) - (((r_X4_get pm un uf) + (256 : Int32)) - (1 : Int32)) / (256 : Int32) * (256 : Int32)) un uf)))]) cx (c_X4_put l D cyI cyZ uh ua pm ((((r_X4_get pm un uf) + (256 : Int32)) - (1 : Int32)) - (((r_X4_get pm un uf) + (256 : Int32)) - (1 : Int32)) / (256 : Int32) * (256 : Int32)) un uf) hP hD hS [5, 6] [(false, 0), (false, 1), (false, 2), (false, 3), (false, 4), (true, 0), (true, 1)] ⟨rfl, rfl, rfl⟩ rfl rfl mm_191 mm_192 mm_193 mm_76 mm_188 dd_X4_put rfl hl.1 rfl dX1_changeAt_153 rfl (fun H locs hP hD hS => ?_)
            obtain ⟨u_12, hu_12⟩ : ∃ z, z = r_X4_put pm ((((r_X4_get pm un uf) + (256 : Int32)) - (1 : Int32)) - (((r_X4_get pm un uf) + (256 : Int32)) - (1 : Int32)) / (256 : Int32) * (256 : Int32)) un uf := ⟨_, rfl⟩
            rw [← hu_12] at hP hD
            rw [show r_X1_changeAt kind pm yy mn mf tn tf un uf = (mn, mf, un, u_12) from (by subst hu_12; exact (if_neg c_1).trans ((if_neg c_3).trans ((if_neg c_5).trans ((if_neg c_8).trans (if_neg c_11)))))]
            dsimp only
            exact ct_vret cx hP hD hS dX1_changeAt_156
          · skip
            refine lv_iload hx hb dX1_changeAt_134 (lv_at hl 1 rfl) ?_
            refine lv_iconst (v := (1 : Int32)) hx hb dX1_changeAt_136 (by decide) ?_
            refine lv_iadd hx hb dX1_changeAt_137 ?_
            refine lv_goto (tgt := 149) hx hb dX1_changeAt_138 (by decide) ?_
            refine lv_sipush (v := (256 : Int32)) hx hb dX1_changeAt_149 (by decide) ?_
            refine lv_irem hx hb dX1_changeAt_152 (by decide) ?_
            refine ct_callV (As := [.int pm, .int (((r_X4_get pm un uf) + (1 : Int32)) - ((r_X4_get pm un uf) + (1 : Int32)) / (256 : Int32) * (256 : Int32))]) (rest := []) (st1 := []) (V3 := [(h, .inr (1, [.ref mh, .ref th])), (mh, .inr (4, [.ref ma, .int mn])), (ma, .inl (cyI, 24, .inl mf)), (th, .inr (4, [.ref ta, .int tn])), (ta, .inl (cyI, 24, .inl tf)), (uh, .inr (4, [.ref ua, .int un])), (ua, .inl (cyI, 24, .inl (r_X4_put pm (((r_X4_get pm un uf) + (1 : Int32)) - ((r_X4_get pm un uf) + (1 : Int32)) / (256 : Int32) * (256 : Int32)) un uf)))]) cx (c_X4_put l D cyI cyZ uh ua pm (((r_X4_get pm un uf) + (1 : Int32)) - ((r_X4_get pm un uf) + (1 : Int32)) / (256 : Int32) * (256 : Int32)) un uf) hP hD hS [5, 6] [(false, 0), (false, 1), (false, 2), (false, 3), (false, 4), (true, 0), (true, 1)] ⟨rfl, rfl, rfl⟩ rfl rfl mm_191 mm_192 mm_193 mm_76 mm_188 dd_X4_put rfl hl.1 rfl dX1_changeAt_153 rfl (fun H locs hP hD hS => ?_)
            obtain ⟨u_13, hu_13⟩ : ∃ z, z = r_X4_put pm (((r_X4_get pm un uf) + (1 : Int32)) - ((r_X4_get pm un uf) + (1 : Int32)) / (256 : Int32) * (256 : Int32)) un uf := ⟨_, rfl⟩
            rw [← hu_13] at hP hD
            rw [show r_X1_changeAt kind pm yy mn mf tn tf un uf = (mn, mf, un, u_13) from (by subst hu_13; exact (if_neg c_1).trans ((if_neg c_3).trans ((if_neg c_5).trans ((if_neg c_8).trans (if_pos c_11)))))]
            dsimp only
            exact ct_vret cx hP hD hS dX1_changeAt_156
def r_X1_apply (kind : Int32) (xx : Int32) (yy : Int32) (mn : Int32) (mf : Nat → Int32) (tn : Int32) (tf : Nat → Int32) (un : Int32) (uf : Nat → Int32) (sn : Int32) (sf : Nat → Int32) (sz : Nat → Int32) : Int32 × (Nat → Int32) × Int32 × (Nat → Int32) × Int32 × (Nat → Int32) := if kind = (4 : Int32) then (let u_6 : Int32 × (Nat → Int32) × Int32 × (Nat → Int32) := r_X1_insert (xx - xx / ((if un < (0 : Int32) then (0 : Int32) else un) + (1 : Int32)) * ((if un < (0 : Int32) then (0 : Int32) else un) + (1 : Int32))) (yy - yy / (256 : Int32) * (256 : Int32)) mn mf tn tf un uf; (u_6.1, u_6.2.1, tn, tf, u_6.2.2.1, u_6.2.2.2)) else if kind = (6 : Int32) then (let u_5 : Int32 × (Nat → Int32) × Int32 × (Nat → Int32) := r_X1_cross (xx - xx / ((if un < (0 : Int32) then (0 : Int32) else un) + (1 : Int32)) * ((if un < (0 : Int32) then (0 : Int32) else un) + (1 : Int32))) yy mn mf tn tf un uf sn sf sz; (mn, mf, u_5.1, u_5.2.1, u_5.2.2.1, u_5.2.2.2)) else if (if un < (0 : Int32) then (0 : Int32) else un) ≤ (0 : Int32) then (mn, mf, tn, tf, un, uf) else let u_4 : Int32 × (Nat → Int32) × Int32 × (Nat → Int32) := r_X1_changeAt kind (xx - xx / (if un < (0 : Int32) then (0 : Int32) else un) * (if un < (0 : Int32) then (0 : Int32) else un)) yy mn mf tn tf un uf; (u_4.1, u_4.2.1, tn, tf, u_4.2.2.1, u_4.2.2.2)
set_option maxHeartbeats 4000000 in
set_option maxRecDepth 100000 in
theorem c_X1_apply (l : Launch) (D : va_G) (cyI cyZ : ClassId) (h : Nat) (mh : Nat) (ma : Nat) (th : Nat) (ta : Nat) (uh : Nat) (ua : Nat) (sh : Nat) (sa : Nat) (sb : Nat) (kind : Int32) (xx : Int32) (yy : Int32) (mn : Int32) (mf : Nat → Int32) (tn : Int32) (tf : Nat → Int32) (un : Int32) (uf : Nat → Int32) (sn : Int32) (sf : Nat → Int32) (sz : Nat → Int32)  : CT l D cyI cyZ yX1_apply cX1_apply 7 none ({ frames := 4, cells := 0, slots := 0, locals := 94 }) [.ref h, .ref uh, .ref sh, .int kind, .int xx, .int yy] [(h, .inr (1, [.ref mh, .ref th])), (mh, .inr (4, [.ref ma, .int mn])), (ma, .inl (cyI, 24, .inl mf)), (th, .inr (4, [.ref ta, .int tn])), (ta, .inl (cyI, 24, .inl tf)), (uh, .inr (4, [.ref ua, .int un])), (ua, .inl (cyI, 24, .inl uf)), (sh, .inr (6, [.int (nI 40), .ref sa, .ref sb, .int sn])), (sa, .inl (cyI, 40 * 24, .inl sf)), (sb, .inl (cyI, 40, .inl sz))] none [(h, .inr (1, [.ref mh, .ref th])), (mh, .inr (4, [.ref ma, .int ((r_X1_apply kind xx yy mn mf tn tf un uf sn sf sz).1)])), (ma, .inl (cyI, 24, .inl ((r_X1_apply kind xx yy mn mf tn tf un uf sn sf sz).2.1))), (th, .inr (4, [.ref ta, .int ((r_X1_apply kind xx yy mn mf tn tf un uf sn sf sz).2.2.1)])), (ta, .inl (cyI, 24, .inl ((r_X1_apply kind xx yy mn mf tn tf un uf sn sf sz).2.2.2.1))), (uh, .inr (4, [.ref ua, .int ((r_X1_apply kind xx yy mn mf tn tf un uf sn sf sz).2.2.2.2.1)])), (ua, .inl (cyI, 24, .inl ((r_X1_apply kind xx yy mn mf tn tf un uf sn sf sz).2.2.2.2.2))), (sh, .inr (6, [.int (nI 40), .ref sa, .ref sb, .int sn])), (sa, .inl (cyI, 40 * 24, .inl sf)), (sb, .inl (cyI, 40, .inl sz))] := by
  refine ct_intro (by decide) (Nat.le_of_ble_eq_true rfl) ?_
  intro p e s m below meth c A ls cx hP hD hS hl
  obtain ⟨hx, hb, -⟩ := id cx
  refine lv_aload_n hx hb dX1_apply_0 rfl (lv_at hl 1 rfl) ?_
  refine ct_callV (As := []) (rest := []) (st1 := [.int un]) (V3 := [(h, .inr (1, [.ref mh, .ref th])), (mh, .inr (4, [.ref ma, .int mn])), (ma, .inl (cyI, 24, .inl mf)), (th, .inr (4, [.ref ta, .int tn])), (ta, .inl (cyI, 24, .inl tf)), (uh, .inr (4, [.ref ua, .int un])), (ua, .inl (cyI, 24, .inl uf)), (sh, .inr (6, [.int (nI 40), .ref sa, .ref sb, .int sn])), (sa, .inl (cyI, 40 * 24, .inl sf)), (sb, .inl (cyI, 40, .inl sz))]) cx (c_X4_size l D cyI cyZ uh ua un uf) hP hD hS [5, 6] [(false, 0), (false, 1), (false, 2), (false, 3), (false, 4), (true, 0), (true, 1), (false, 7), (false, 8), (false, 9)] ⟨rfl, rfl, rfl⟩ rfl rfl mm_199 mm_74 mm_75 mm_76 mm_68 dd_X4_size rfl hl.1 rfl dX1_apply_1 rfl (fun H locs hP hD hS => ?_)
  refine lv_iconst (v := (0 : Int32)) hx hb dX1_apply_4 (by decide) ?_
  refine ct_max cx mm_198 mm_6 mm_7 mm_8 hl.1 rfl dX1_apply_5 ?_
  refine lv_istore (lv' := [(6, .int (if un < (0 : Int32) then (0 : Int32) else un)), (0, .ref h), (1, .ref uh), (2, .ref sh), (3, .int kind), (4, .int xx), (5, .int yy)]) hx hb dX1_apply_8 hl (by decide) rfl (fun ls hl => ?_)
  refine lv_iload_n hx hb dX1_apply_10 rfl (lv_at hl 4 rfl) ?_
  refine lv_iconst (v := (4 : Int32)) hx hb dX1_apply_11 (by decide) ?_
  refine lv_icmp_ne (tgt := 36) hx hb dX1_apply_12 (by decide) (fun c_1 => ?_) (fun c_1 => ?_)
  · skip
    refine lv_iload_n hx hb dX1_apply_36 rfl (lv_at hl 4 rfl) ?_
    refine lv_bipush (v := (6 : Int32)) hx hb dX1_apply_37 (by decide) ?_
    refine lv_icmp_ne (tgt := 60) hx hb dX1_apply_39 (by decide) (fun c_2 => ?_) (fun c_2 => ?_)
    · skip
      refine lv_iload hx hb dX1_apply_60 (lv_at hl 0 rfl) ?_
      refine lv_if_le (tgt := 78) hx hb dX1_apply_62 (by decide) (fun c_3 => ?_) (fun c_3 => ?_)
      · skip
        rw [show r_X1_apply kind xx yy mn mf tn tf un uf sn sf sz = (mn, mf, tn, tf, un, uf) from (if_neg c_1).trans ((if_neg c_2).trans (if_pos c_3))]
        dsimp only
        exact ct_vret cx hP hD hS dX1_apply_78
      · skip
        refine lv_aload_n hx hb dX1_apply_65 rfl (lv_at hl 1 rfl) ?_
        refine lv_aload_n hx hb dX1_apply_66 rfl (lv_at hl 2 rfl) ?_
        refine lv_iload_n hx hb dX1_apply_67 rfl (lv_at hl 4 rfl) ?_
        refine lv_iload hx hb dX1_apply_68 (lv_at hl 5 rfl) ?_
        refine lv_iload hx hb dX1_apply_70 (lv_at hl 0 rfl) ?_
        refine lv_irem hx hb dX1_apply_72 (nle_ne c_3) ?_
        refine lv_iload hx hb dX1_apply_73 (lv_at hl 6 rfl) ?_
        refine ct_callV (As := [.ref uh, .int kind, .int (xx - xx / (if un < (0 : Int32) then (0 : Int32) else un) * (if un < (0 : Int32) then (0 : Int32) else un)), .int yy]) (rest := []) (st1 := []) (V3 := [(h, .inr (1, [.ref mh, .ref th])), (mh, .inr (4, [.ref ma, .int ((r_X1_changeAt kind (xx - xx / (if un < (0 : Int32) then (0 : Int32) else un) * (if un < (0 : Int32) then (0 : Int32) else un)) yy mn mf tn tf un uf).1)])), (ma, .inl (cyI, 24, .inl ((r_X1_changeAt kind (xx - xx / (if un < (0 : Int32) then (0 : Int32) else un) * (if un < (0 : Int32) then (0 : Int32) else un)) yy mn mf tn tf un uf).2.1))), (th, .inr (4, [.ref ta, .int tn])), (ta, .inl (cyI, 24, .inl tf)), (uh, .inr (4, [.ref ua, .int ((r_X1_changeAt kind (xx - xx / (if un < (0 : Int32) then (0 : Int32) else un) * (if un < (0 : Int32) then (0 : Int32) else un)) yy mn mf tn tf un uf).2.2.1)])), (ua, .inl (cyI, 24, .inl ((r_X1_changeAt kind (xx - xx / (if un < (0 : Int32) then (0 : Int32) else un) * (if un < (0 : Int32) then (0 : Int32) else un)) yy mn mf tn tf un uf).2.2.2))), (sh, .inr (6, [.int (nI 40), .ref sa, .ref sb, .int sn])), (sa, .inl (cyI, 40 * 24, .inl sf)), (sb, .inl (cyI, 40, .inl sz))]) cx (c_X1_changeAt l D cyI cyZ h mh ma th ta uh ua kind (xx - xx / (if un < (0 : Int32) then (0 : Int32) else un) * (if un < (0 : Int32) then (0 : Int32) else un)) yy mn mf tn tf un uf) hP hD hS [0, 1, 2, 3, 4, 5, 6] [(true, 0), (true, 1), (true, 2), (true, 3), (true, 4), (true, 5), (true, 6), (false, 7), (false, 8), (false, 9)] ⟨rfl, rfl, rfl⟩ rfl rfl mm_207 mm_208 mm_209 mm_203 mm_197 dd_X1_changeAt rfl hl.1 rfl dX1_apply_75 rfl (fun H locs hP hD hS => ?_)
        obtain ⟨u_4, hu_4⟩ : ∃ z, z = r_X1_changeAt kind (xx - xx / (if un < (0 : Int32) then (0 : Int32) else un) * (if un < (0 : Int32) then (0 : Int32) else un)) yy mn mf tn tf un uf := ⟨_, rfl⟩
        rw [← hu_4] at hP hD
        rw [show r_X1_apply kind xx yy mn mf tn tf un uf sn sf sz = (u_4.1, u_4.2.1, tn, tf, u_4.2.2.1, u_4.2.2.2) from (by subst hu_4; exact (if_neg c_1).trans ((if_neg c_2).trans (if_neg c_3)))]
        dsimp only
        exact ct_vret cx hP hD hS dX1_apply_78
    · skip
      refine lv_aload_n hx hb dX1_apply_42 rfl (lv_at hl 1 rfl) ?_
      refine lv_aload_n hx hb dX1_apply_43 rfl (lv_at hl 2 rfl) ?_
      refine lv_aload_n hx hb dX1_apply_44 rfl (lv_at hl 3 rfl) ?_
      refine lv_iload hx hb dX1_apply_45 (lv_at hl 5 rfl) ?_
      refine lv_iload hx hb dX1_apply_47 (lv_at hl 0 rfl) ?_
      refine lv_iconst (v := (1 : Int32)) hx hb dX1_apply_49 (by decide) ?_
      refine lv_iadd hx hb dX1_apply_50 ?_
      refine lv_irem hx hb dX1_apply_51 mx_ne ?_
      refine lv_iload hx hb dX1_apply_52 (lv_at hl 6 rfl) ?_
      refine ct_callV (As := [.ref uh, .ref sh, .int (xx - xx / ((if un < (0 : Int32) then (0 : Int32) else un) + (1 : Int32)) * ((if un < (0 : Int32) then (0 : Int32) else un) + (1 : Int32))), .int yy]) (rest := []) (st1 := []) (V3 := [(h, .inr (1, [.ref mh, .ref th])), (mh, .inr (4, [.ref ma, .int mn])), (ma, .inl (cyI, 24, .inl mf)), (th, .inr (4, [.ref ta, .int ((r_X1_cross (xx - xx / ((if un < (0 : Int32) then (0 : Int32) else un) + (1 : Int32)) * ((if un < (0 : Int32) then (0 : Int32) else un) + (1 : Int32))) yy mn mf tn tf un uf sn sf sz).1)])), (ta, .inl (cyI, 24, .inl ((r_X1_cross (xx - xx / ((if un < (0 : Int32) then (0 : Int32) else un) + (1 : Int32)) * ((if un < (0 : Int32) then (0 : Int32) else un) + (1 : Int32))) yy mn mf tn tf un uf sn sf sz).2.1))), (uh, .inr (4, [.ref ua, .int ((r_X1_cross (xx - xx / ((if un < (0 : Int32) then (0 : Int32) else un) + (1 : Int32)) * ((if un < (0 : Int32) then (0 : Int32) else un) + (1 : Int32))) yy mn mf tn tf un uf sn sf sz).2.2.1)])), (ua, .inl (cyI, 24, .inl ((r_X1_cross (xx - xx / ((if un < (0 : Int32) then (0 : Int32) else un) + (1 : Int32)) * ((if un < (0 : Int32) then (0 : Int32) else un) + (1 : Int32))) yy mn mf tn tf un uf sn sf sz).2.2.2))), (sh, .inr (6, [.int (nI 40), .ref sa, .ref sb, .int sn])), (sa, .inl (cyI, 40 * 24, .inl sf)), (sb, .inl (cyI, 40, .inl sz))]) cx (c_X1_cross l D cyI cyZ h mh ma th ta uh ua sh sa sb (xx - xx / ((if un < (0 : Int32) then (0 : Int32) else un) + (1 : Int32)) * ((if un < (0 : Int32) then (0 : Int32) else un) + (1 : Int32))) yy mn mf tn tf un uf sn sf sz) hP hD hS [0, 1, 2, 3, 4, 5, 6, 7, 8, 9] [(true, 0), (true, 1), (true, 2), (true, 3), (true, 4), (true, 5), (true, 6), (true, 7), (true, 8), (true, 9)] ⟨rfl, rfl, rfl⟩ rfl rfl mm_204 mm_205 mm_206 mm_203 mm_187 dd_X1_cross rfl hl.1 rfl dX1_apply_54 rfl (fun H locs hP hD hS => ?_)
      obtain ⟨u_5, hu_5⟩ : ∃ z, z = r_X1_cross (xx - xx / ((if un < (0 : Int32) then (0 : Int32) else un) + (1 : Int32)) * ((if un < (0 : Int32) then (0 : Int32) else un) + (1 : Int32))) yy mn mf tn tf un uf sn sf sz := ⟨_, rfl⟩
      rw [← hu_5] at hP hD
      refine lv_goto (tgt := 78) hx hb dX1_apply_57 (by decide) ?_
      rw [show r_X1_apply kind xx yy mn mf tn tf un uf sn sf sz = (mn, mf, u_5.1, u_5.2.1, u_5.2.2.1, u_5.2.2.2) from (by subst hu_5; exact (if_neg c_1).trans (if_pos c_2))]
      dsimp only
      exact ct_vret cx hP hD hS dX1_apply_78
  · skip
    refine lv_aload_n hx hb dX1_apply_15 rfl (lv_at hl 1 rfl) ?_
    refine lv_aload_n hx hb dX1_apply_16 rfl (lv_at hl 2 rfl) ?_
    refine lv_iload hx hb dX1_apply_17 (lv_at hl 5 rfl) ?_
    refine lv_iload hx hb dX1_apply_19 (lv_at hl 0 rfl) ?_
    refine lv_iconst (v := (1 : Int32)) hx hb dX1_apply_21 (by decide) ?_
    refine lv_iadd hx hb dX1_apply_22 ?_
    refine lv_irem hx hb dX1_apply_23 mx_ne ?_
    refine lv_iload hx hb dX1_apply_24 (lv_at hl 6 rfl) ?_
    refine lv_sipush (v := (256 : Int32)) hx hb dX1_apply_26 (by decide) ?_
    refine lv_irem hx hb dX1_apply_29 (by decide) ?_
    refine ct_callV (As := [.ref uh, .int (xx - xx / ((if un < (0 : Int32) then (0 : Int32) else un) + (1 : Int32)) * ((if un < (0 : Int32) then (0 : Int32) else un) + (1 : Int32))), .int (yy - yy / (256 : Int32) * (256 : Int32))]) (rest := []) (st1 := []) (V3 := [(h, .inr (1, [.ref mh, .ref th])), (mh, .inr (4, [.ref ma, .int ((r_X1_insert (xx - xx / ((if un < (0 : Int32) then (0 : Int32) else un) + (1 : Int32)) * ((if un < (0 : Int32) then (0 : Int32) else un) + (1 : Int32))) (yy - yy / (256 : Int32) * (256 : Int32)) mn mf tn tf un uf).1)])), (ma, .inl (cyI, 24, .inl ((r_X1_insert (xx - xx / ((if un < (0 : Int32) then (0 : Int32) else un) + (1 : Int32)) * ((if un < (0 : Int32) then (0 : Int32) else un) + (1 : Int32))) (yy - yy / (256 : Int32) * (256 : Int32)) mn mf tn tf un uf).2.1))), (th, .inr (4, [.ref ta, .int tn])), (ta, .inl (cyI, 24, .inl tf)), (uh, .inr (4, [.ref ua, .int ((r_X1_insert (xx - xx / ((if un < (0 : Int32) then (0 : Int32) else un) + (1 : Int32)) * ((if un < (0 : Int32) then (0 : Int32) else un) + (1 : Int32))) (yy - yy / (256 : Int32) * (256 : Int32)) mn mf tn tf un uf).2.2.1)])), (ua, .inl (cyI, 24, .inl ((r_X1_insert (xx - xx / ((if un < (0 : Int32) then (0 : Int32) else un) + (1 : Int32)) * ((if un < (0 : Int32) then (0 : Int32) else un) + (1 : Int32))) (yy - yy / (256 : Int32) * (256 : Int32)) mn mf tn tf un uf).2.2.2))), (sh, .inr (6, [.int (nI 40), .ref sa, .ref sb, .int sn])), (sa, .inl (cyI, 40 * 24, .inl sf)), (sb, .inl (cyI, 40, .inl sz))]) cx (c_X1_insert l D cyI cyZ h mh ma th ta uh ua (xx - xx / ((if un < (0 : Int32) then (0 : Int32) else un) + (1 : Int32)) * ((if un < (0 : Int32) then (0 : Int32) else un) + (1 : Int32))) (yy - yy / (256 : Int32) * (256 : Int32)) mn mf tn tf un uf) hP hD hS [0, 1, 2, 3, 4, 5, 6] [(true, 0), (true, 1), (true, 2), (true, 3), (true, 4), (true, 5), (true, 6), (false, 7), (false, 8), (false, 9)] ⟨rfl, rfl, rfl⟩ rfl rfl mm_200 mm_201 mm_202 mm_203 mm_175 dd_X1_insert rfl hl.1 rfl dX1_apply_30 rfl (fun H locs hP hD hS => ?_)
    obtain ⟨u_6, hu_6⟩ : ∃ z, z = r_X1_insert (xx - xx / ((if un < (0 : Int32) then (0 : Int32) else un) + (1 : Int32)) * ((if un < (0 : Int32) then (0 : Int32) else un) + (1 : Int32))) (yy - yy / (256 : Int32) * (256 : Int32)) mn mf tn tf un uf := ⟨_, rfl⟩
    rw [← hu_6] at hP hD
    refine lv_goto (tgt := 78) hx hb dX1_apply_33 (by decide) ?_
    rw [show r_X1_apply kind xx yy mn mf tn tf un uf sn sf sz = (u_6.1, u_6.2.1, tn, tf, u_6.2.2.1, u_6.2.2.2) from (by subst hu_6; exact if_pos c_1)]
    dsimp only
    exact ct_vret cx hP hD hS dX1_apply_78
