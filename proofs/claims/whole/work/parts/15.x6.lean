theorem vp_sh {n : Int32} {M j : Nat} (h0 : ¬ n < 0) (h1 : n < nI M) (hj : j < 24) (hM : M < 1000) : vp_in (n * (24 : Int32) + nI j) (M * 24) := by
  simp only [sg_lt] at h0 h1
  have e0 : (0 : Int32).toInt = 0 := rfl
  rw [e0] at h0
  rw [nI_toInt (by omega)] at h1
  have ej : (nI j).toInt = (j : Int) := nI_toInt (by omega)
  exact vp_mad (k := 24) rfl (by omega) (by omega) (by omega) (by rw [ej]; omega) (by rw [ej]; omega) (by rw [ej]; omega)
theorem vp_len {n : Int32} {M : Nat} (h0 : ¬ n < 0) (h1 : n < nI M) (hM : M < 1000) : vp_in n M := vp_of (M := nI M) (Or.inl h0) (Or.inr h1) (nI_toInt (by omega))
set_option maxHeartbeats 4000000 in
set_option maxRecDepth 100000 in
theorem c_X6_size (l : Launch) (D : va_G) (cyI cyZ : ClassId) (h : Nat) (a : Nat) (b : Nat) (M : Nat) (n : Int32) (f : Nat → Int32) (z : Nat → Int32)  : CT l D cyI cyZ yX6_size cX6_size 1 (some .int) ({ frames := 0, cells := 0, slots := 0, locals := 0 }) [.ref h] [(h, .inr (6, [.int (nI M), .ref a, .ref b, .int n])), (a, .inl (cyI, M * 24, .inl f)), (b, .inl (cyI, M, .inl z))] (some (.int n)) [(h, .inr (6, [.int (nI M), .ref a, .ref b, .int n])), (a, .inl (cyI, M * 24, .inl f)), (b, .inl (cyI, M, .inl z))] := by
  refine ct_intro (by decide) (Nat.le_of_ble_eq_true rfl) ?_
  intro p e s m below meth c A ls cx hP hD hS hl
  obtain ⟨hx, hb, -⟩ := id cx
  refine lv_aload_n hx hb dX6_size_0 rfl (lv_at hl 0 rfl) ?_
  refine ct_get (v := .int n) cx hP 0 rfl rfl bwX6 3 rfl mm_4 rfl dX6_size_1 ?_
  exact ct_iret cx hP hD hS dX6_size_4
def r_X6_has (i : Int32) (M : Nat) (n : Int32) (f : Nat → Int32) (z : Nat → Int32) : Int32 := if i < (0 : Int32) then (0 : Int32) else if n ≤ i then (0 : Int32) else if (nI M) ≤ i then (0 : Int32) else (1 : Int32)
set_option maxHeartbeats 4000000 in
set_option maxRecDepth 100000 in
theorem c_X6_has (l : Launch) (D : va_G) (cyI cyZ : ClassId) (h : Nat) (a : Nat) (b : Nat) (i : Int32) (M : Nat) (n : Int32) (f : Nat → Int32) (z : Nat → Int32)  : CT l D cyI cyZ yX6_has cX6_has 2 (some .boolean) ({ frames := 0, cells := 0, slots := 0, locals := 0 }) [.ref h, .int i] [(h, .inr (6, [.int (nI M), .ref a, .ref b, .int n])), (a, .inl (cyI, M * 24, .inl f)), (b, .inl (cyI, M, .inl z))] (some (.int (r_X6_has i M n f z))) [(h, .inr (6, [.int (nI M), .ref a, .ref b, .int n])), (a, .inl (cyI, M * 24, .inl f)), (b, .inl (cyI, M, .inl z))] := by
  refine ct_intro (by decide) (Nat.le_of_ble_eq_true rfl) ?_
  intro p e s m below meth c A ls cx hP hD hS hl
  obtain ⟨hx, hb, -⟩ := id cx
  refine lv_iload_n hx hb dX6_has_0 rfl (lv_at hl 1 rfl) ?_
  refine lv_if_lt (tgt := 24) hx hb dX6_has_1 (by decide) (fun c_1 => ?_) (fun c_1 => ?_)
  · skip
    refine lv_iconst (v := (0 : Int32)) hx hb dX6_has_24 (by decide) ?_
    rw [show r_X6_has i M n f z = (0 : Int32) from if_pos c_1]
    exact ct_zret (v := (0 : Int32)) cx hP hD hS rfl dX6_has_25
  · skip
    refine lv_iload_n hx hb dX6_has_4 rfl (lv_at hl 1 rfl) ?_
    refine lv_aload_n hx hb dX6_has_5 rfl (lv_at hl 0 rfl) ?_
    refine ct_get (v := .int n) cx hP 0 rfl rfl bwX6 3 rfl mm_4 rfl dX6_has_6 ?_
    refine lv_icmp_ge (tgt := 24) hx hb dX6_has_9 (by decide) (fun c_2 => ?_) (fun c_2 => ?_)
    · skip
      refine lv_iconst (v := (0 : Int32)) hx hb dX6_has_24 (by decide) ?_
      rw [show r_X6_has i M n f z = (0 : Int32) from (if_neg c_1).trans (if_pos c_2)]
      exact ct_zret (v := (0 : Int32)) cx hP hD hS rfl dX6_has_25
    · skip
      refine lv_iload_n hx hb dX6_has_12 rfl (lv_at hl 1 rfl) ?_
      refine lv_aload_n hx hb dX6_has_13 rfl (lv_at hl 0 rfl) ?_
      refine ct_get (v := .int (nI M)) cx hP 0 rfl rfl bwX6 0 rfl mm_9 rfl dX6_has_14 ?_
      refine lv_icmp_ge (tgt := 24) hx hb dX6_has_17 (by decide) (fun c_3 => ?_) (fun c_3 => ?_)
      · skip
        refine lv_iconst (v := (0 : Int32)) hx hb dX6_has_24 (by decide) ?_
        rw [show r_X6_has i M n f z = (0 : Int32) from (if_neg c_1).trans ((if_neg c_2).trans (if_pos c_3))]
        exact ct_zret (v := (0 : Int32)) cx hP hD hS rfl dX6_has_25
      · skip
        refine lv_iconst (v := (1 : Int32)) hx hb dX6_has_20 (by decide) ?_
        refine lv_goto (tgt := 25) hx hb dX6_has_21 (by decide) ?_
        rw [show r_X6_has i M n f z = (1 : Int32) from (if_neg c_1).trans ((if_neg c_2).trans (if_neg c_3))]
        exact ct_zret (v := (1 : Int32)) cx hP hD hS rfl dX6_has_25
def g_X6_append_30 (n : Int32) (z : Nat → Int32) (un : Int32) (uf : Nat → Int32) (M : Nat) (x2 : Int32) : Nat → (Nat → Int32) → Nat → Int32 × Int32 × (Nat → Int32) × (Nat → Int32)
  | 0, _, _ => (0, 0, fun _ => 0, fun _ => 0)
  | fu + 1, f, j => if un ≤ (nI j) then ((1 : Int32), n + (1 : Int32), f, upd z n.toNatClampNeg un) else if (24 : Int32) ≤ (nI j) then ((1 : Int32), n + (1 : Int32), f, upd z n.toNatClampNeg un) else g_X6_append_30 n z un uf M x2 fu (upd f ((x2 + (nI j)).toNatClampNeg) (r_X4_get (nI j) un uf)) (j + 1)
def r_X6_append (M : Nat) (n : Int32) (f : Nat → Int32) (z : Nat → Int32) (un : Int32) (uf : Nat → Int32) : Int32 × Int32 × (Nat → Int32) × (Nat → Int32) := if n < (0 : Int32) then ((0 : Int32), n, f, z) else if n < (nI M) then g_X6_append_30 n z un uf M (n * (24 : Int32)) (24 - 0 + 1) f 0 else ((0 : Int32), n, f, z)
set_option maxHeartbeats 4000000 in
set_option maxRecDepth 100000 in
theorem lp_X6_append_30 {p : Program} {l : Launch} {e : Env} {s : State} {m : MethodId} {below : List Frame} {meth : Method} {c : Code} {D : va_G} {cyI cyZ : ClassId} {A : Nat → Prop} {av : Array Value} (cx : CX p s m meth c D cyI cyZ A yX6_append cX6_append 4 (some .boolean) av) (h : Nat) (a : Nat) (b : Nat) (uh : Nat) (ua : Nat) (n : Int32) (z : Nat → Int32) (un : Int32) (uf : Nat → Int32) (M : Nat) (x2 : Int32) (hM : M < 1000) : ∀ (fu : Nat) (f : Nat → Int32) (j : Nat), j ≤ 24 → x2 = n * (24 : Int32) → ¬ n < 0 → n < nI M → 24 - j < fu → ∀ (H : Heap) (locs : List Loc) (ls : Array Slot), va_P D vwCl [(h, .inr (6, [.int (nI M), .ref a, .ref b, .int n])), (a, .inl (cyI, M * 24, .inl f)), (b, .inl (cyI, M, .inl z)), (uh, .inr (4, [.ref ua, .int un])), (ua, .inl (cyI, 24, .inl uf))] H → va_D A [(h, .inr (6, [.int (nI M), .ref a, .ref b, .int n])), (a, .inl (cyI, M * 24, .inl f)), (b, .inl (cyI, M, .inl z)), (uh, .inr (4, [.ref ua, .int un])), (ua, .inl (cyI, 24, .inl uf))] → va_S A s.heap H locs → lv_has ls 4 [(0, .ref h), (1, .ref uh), (2, .int x2), (3, .int (nI j))] → W p l e ({ frames := 1, cells := 0, slots := 0, locals := 21 }) s m av below meth c H locs 0 0 (MQ below (QX D A (some (.int ((g_X6_append_30 n z un uf M x2 fu f j).1))) [(h, .inr (6, [.int (nI M), .ref a, .ref b, .int ((g_X6_append_30 n z un uf M x2 fu f j).2.1)])), (a, .inl (cyI, M * 24, .inl ((g_X6_append_30 n z un uf M x2 fu f j).2.2.1))), (b, .inl (cyI, M, .inl ((g_X6_append_30 n z un uf M x2 fu f j).2.2.2))), (uh, .inr (4, [.ref ua, .int un])), (ua, .inl (cyI, 24, .inl uf))]) av s 0 0 A) (F0 m 30 ls []) := by
  obtain ⟨hx, hb, -⟩ := id cx
  intro fu
  induction fu with
  | zero =>
    intro f j hj hq h0 h1 hmu
    exact absurd hmu (Nat.not_lt_zero _)
  | succ fu ih =>
    intro f j hj hq h0 h1 hmu H locs ls hP hD hS hl
    refine lv_iload_n hx hb dX6_append_30 rfl (lv_at hl 3 rfl) ?_
    refine lv_aload_n hx hb dX6_append_31 rfl (lv_at hl 1 rfl) ?_
    refine ct_callV (As := []) (rest := [.int (nI j)]) (st1 := [.int un, .int (nI j)]) (V3 := [(h, .inr (6, [.int (nI M), .ref a, .ref b, .int n])), (a, .inl (cyI, M * 24, .inl f)), (b, .inl (cyI, M, .inl z)), (uh, .inr (4, [.ref ua, .int un])), (ua, .inl (cyI, 24, .inl uf))]) cx (c_X4_size l D cyI cyZ uh ua un uf) hP hD hS [3, 4] [(false, 0), (false, 1), (false, 2), (true, 0), (true, 1)] ⟨rfl, rfl, rfl⟩ rfl rfl mm_73 mm_74 mm_75 mm_76 mm_68 dd_X4_size rfl hl.1 rfl dX6_append_32 rfl (fun H locs hP hD hS => ?_)
    refine lv_icmp_ge (tgt := 63) hx hb dX6_append_35 (by decide) (fun c_5 => ?_) (fun c_5 => ?_)
    · skip
      refine lv_aload_n hx hb dX6_append_63 rfl (lv_at hl 0 rfl) ?_
      refine ct_get (v := .ref b) cx hP 0 rfl rfl bwX6 2 rfl mm_12 rfl dX6_append_64 ?_
      refine lv_aload_n hx hb dX6_append_67 rfl (lv_at hl 0 rfl) ?_
      refine ct_get (v := .int n) cx hP 0 rfl rfl bwX6 3 rfl mm_4 rfl dX6_append_68 ?_
      refine lv_aload_n hx hb dX6_append_71 rfl (lv_at hl 1 rfl) ?_
      refine ct_callV (As := []) (rest := [.int n, .ref b]) (st1 := [.int un, .int n, .ref b]) (V3 := [(h, .inr (6, [.int (nI M), .ref a, .ref b, .int n])), (a, .inl (cyI, M * 24, .inl f)), (b, .inl (cyI, M, .inl z)), (uh, .inr (4, [.ref ua, .int un])), (ua, .inl (cyI, 24, .inl uf))]) cx (c_X4_size l D cyI cyZ uh ua un uf) hP hD hS [3, 4] [(false, 0), (false, 1), (false, 2), (true, 0), (true, 1)] ⟨rfl, rfl, rfl⟩ rfl rfl mm_73 mm_74 mm_75 mm_76 mm_68 dd_X4_size rfl hl.1 rfl dX6_append_72 rfl (fun H locs hP hD hS => ?_)
      refine ct_iast (V3 := [(h, .inr (6, [.int (nI M), .ref a, .ref b, .int n])), (a, .inl (cyI, M * 24, .inl f)), (b, .inl (cyI, M, .inl (upd z n.toNatClampNeg un))), (uh, .inr (4, [.ref ua, .int un])), (ua, .inl (cyI, 24, .inl uf))]) cx hP hD hS 2 rfl (vp_len h0 h1 hM) dX6_append_75 rfl (fun H locs hP hD hS => ?_)
      refine lv_aload_n hx hb dX6_append_76 rfl (lv_at hl 0 rfl) ?_
      refine lv_dup hx hb dX6_append_77 rfl ?_
      refine ct_get (v := .int n) cx hP 0 rfl rfl bwX6 3 rfl mm_4 rfl dX6_append_78 ?_
      refine lv_iconst (v := (1 : Int32)) hx hb dX6_append_81 (by decide) ?_
      refine lv_iadd hx hb dX6_append_82 ?_
      refine ct_put (V3 := [(h, .inr (6, [.int (nI M), .ref a, .ref b, .int (n + (1 : Int32))])), (a, .inl (cyI, M * 24, .inl f)), (b, .inl (cyI, M, .inl (upd z n.toNatClampNeg un))), (uh, .inr (4, [.ref ua, .int un])), (ua, .inl (cyI, 24, .inl uf))]) cx hP hD hS 0 rfl rfl bwX6 tyX6_ok nmX6 3 rfl mm_4 rfl rfl rfl rfl dX6_append_83 rfl (fun H locs hP hD hS => ?_)
      refine lv_iconst (v := (1 : Int32)) hx hb dX6_append_86 (by decide) ?_
      rw [show g_X6_append_30 n z un uf M x2 (fu + 1) f j = ((1 : Int32), n + (1 : Int32), f, upd z n.toNatClampNeg un) from if_pos c_5]
      dsimp only
      exact ct_zret (v := (1 : Int32)) cx hP hD hS rfl dX6_append_87
    · skip
      refine lv_iload_n hx hb dX6_append_38 rfl (lv_at hl 3 rfl) ?_
      refine lv_bipush (v := (24 : Int32)) hx hb dX6_append_39 (by decide) ?_
      refine lv_icmp_ge (tgt := 63) hx hb dX6_append_41 (by decide) (fun c_6 => ?_) (fun c_6 => ?_)
      · skip
        refine lv_aload_n hx hb dX6_append_63 rfl (lv_at hl 0 rfl) ?_
        refine ct_get (v := .ref b) cx hP 0 rfl rfl bwX6 2 rfl mm_12 rfl dX6_append_64 ?_
        refine lv_aload_n hx hb dX6_append_67 rfl (lv_at hl 0 rfl) ?_
        refine ct_get (v := .int n) cx hP 0 rfl rfl bwX6 3 rfl mm_4 rfl dX6_append_68 ?_
        refine lv_aload_n hx hb dX6_append_71 rfl (lv_at hl 1 rfl) ?_
        refine ct_callV (As := []) (rest := [.int n, .ref b]) (st1 := [.int un, .int n, .ref b]) (V3 := [(h, .inr (6, [.int (nI M), .ref a, .ref b, .int n])), (a, .inl (cyI, M * 24, .inl f)), (b, .inl (cyI, M, .inl z)), (uh, .inr (4, [.ref ua, .int un])), (ua, .inl (cyI, 24, .inl uf))]) cx (c_X4_size l D cyI cyZ uh ua un uf) hP hD hS [3, 4] [(false, 0), (false, 1), (false, 2), (true, 0), (true, 1)] ⟨rfl, rfl, rfl⟩ rfl rfl mm_73 mm_74 mm_75 mm_76 mm_68 dd_X4_size rfl hl.1 rfl dX6_append_72 rfl (fun H locs hP hD hS => ?_)
        refine ct_iast (V3 := [(h, .inr (6, [.int (nI M), .ref a, .ref b, .int n])), (a, .inl (cyI, M * 24, .inl f)), (b, .inl (cyI, M, .inl (upd z n.toNatClampNeg un))), (uh, .inr (4, [.ref ua, .int un])), (ua, .inl (cyI, 24, .inl uf))]) cx hP hD hS 2 rfl (vp_len h0 h1 hM) dX6_append_75 rfl (fun H locs hP hD hS => ?_)
        refine lv_aload_n hx hb dX6_append_76 rfl (lv_at hl 0 rfl) ?_
        refine lv_dup hx hb dX6_append_77 rfl ?_
        refine ct_get (v := .int n) cx hP 0 rfl rfl bwX6 3 rfl mm_4 rfl dX6_append_78 ?_
        refine lv_iconst (v := (1 : Int32)) hx hb dX6_append_81 (by decide) ?_
        refine lv_iadd hx hb dX6_append_82 ?_
        refine ct_put (V3 := [(h, .inr (6, [.int (nI M), .ref a, .ref b, .int (n + (1 : Int32))])), (a, .inl (cyI, M * 24, .inl f)), (b, .inl (cyI, M, .inl (upd z n.toNatClampNeg un))), (uh, .inr (4, [.ref ua, .int un])), (ua, .inl (cyI, 24, .inl uf))]) cx hP hD hS 0 rfl rfl bwX6 tyX6_ok nmX6 3 rfl mm_4 rfl rfl rfl rfl dX6_append_83 rfl (fun H locs hP hD hS => ?_)
        refine lv_iconst (v := (1 : Int32)) hx hb dX6_append_86 (by decide) ?_
        rw [show g_X6_append_30 n z un uf M x2 (fu + 1) f j = ((1 : Int32), n + (1 : Int32), f, upd z n.toNatClampNeg un) from (if_neg c_5).trans (if_pos c_6)]
        dsimp only
        exact ct_zret (v := (1 : Int32)) cx hP hD hS rfl dX6_append_87
      · skip
        refine lv_aload_n hx hb dX6_append_44 rfl (lv_at hl 0 rfl) ?_
        refine ct_get (v := .ref a) cx hP 0 rfl rfl bwX6 1 rfl mm_11 rfl dX6_append_45 ?_
        refine lv_iload_n hx hb dX6_append_48 rfl (lv_at hl 2 rfl) ?_
        refine lv_iload_n hx hb dX6_append_49 rfl (lv_at hl 3 rfl) ?_
        refine lv_iadd hx hb dX6_append_50 ?_
        refine lv_aload_n hx hb dX6_append_51 rfl (lv_at hl 1 rfl) ?_
        refine lv_iload_n hx hb dX6_append_52 rfl (lv_at hl 3 rfl) ?_
        refine ct_callV (As := [.int (nI j)]) (rest := [.int (x2 + (nI j)), .ref a]) (st1 := [.int (r_X4_get (nI j) un uf), .int (x2 + (nI j)), .ref a]) (V3 := [(h, .inr (6, [.int (nI M), .ref a, .ref b, .int n])), (a, .inl (cyI, M * 24, .inl f)), (b, .inl (cyI, M, .inl z)), (uh, .inr (4, [.ref ua, .int un])), (ua, .inl (cyI, 24, .inl uf))]) cx (c_X4_get l D cyI cyZ uh ua (nI j) un uf) hP hD hS [3, 4] [(false, 0), (false, 1), (false, 2), (true, 0), (true, 1)] ⟨rfl, rfl, rfl⟩ rfl rfl mm_77 mm_78 mm_79 mm_76 mm_70 dd_X4_get rfl hl.1 rfl dX6_append_53 rfl (fun H locs hP hD hS => ?_)
        refine ct_iast (V3 := [(h, .inr (6, [.int (nI M), .ref a, .ref b, .int n])), (a, .inl (cyI, M * 24, .inl (upd f ((x2 + (nI j)).toNatClampNeg) (r_X4_get (nI j) un uf)))), (b, .inl (cyI, M, .inl z)), (uh, .inr (4, [.ref ua, .int un])), (ua, .inl (cyI, 24, .inl uf))]) cx hP hD hS 1 rfl (by subst hq; exact vp_sh h0 h1 (nI_ltN (N := 24) c_6 hj) hM) dX6_append_56 rfl (fun H locs hP hD hS => ?_)
        refine lv_iinc (v := nI (j + 1)) (lv' := [(3, .int (nI (j + 1))), (0, .ref h), (1, .ref uh), (2, .int x2)]) hx hb dX6_append_57 hl (k := 3) rfl (nI_1 j) (by decide) rfl (fun ls hl => ?_)
        refine lv_goto (tgt := 30) hx hb dX6_append_60 (by decide) ?_
        rw [show g_X6_append_30 n z un uf M x2 (fu + 1) f j = g_X6_append_30 n z un uf M x2 fu (upd f ((x2 + (nI j)).toNatClampNeg) (r_X4_get (nI j) un uf)) (j + 1) from (if_neg c_5).trans (if_neg c_6)]
        exact ih (upd f ((x2 + (nI j)).toNatClampNeg) (r_X4_get (nI j) un uf)) (j + 1) (by have := nI_ltN (N := 24) c_6 hj; omega) hq h0 h1 (by have := nI_ltN (N := 24) c_6 hj; omega) _ _ _ hP hD hS (lv_sub hl [1, 2, 3, 0] rfl)
set_option maxHeartbeats 4000000 in
set_option maxRecDepth 100000 in
theorem c_X6_append (l : Launch) (D : va_G) (cyI cyZ : ClassId) (h : Nat) (a : Nat) (b : Nat) (uh : Nat) (ua : Nat) (M : Nat) (n : Int32) (f : Nat → Int32) (z : Nat → Int32) (un : Int32) (uf : Nat → Int32) (hM : M < 1000) : CT l D cyI cyZ yX6_append cX6_append 4 (some .boolean) ({ frames := 1, cells := 0, slots := 0, locals := 21 }) [.ref h, .ref uh] [(h, .inr (6, [.int (nI M), .ref a, .ref b, .int n])), (a, .inl (cyI, M * 24, .inl f)), (b, .inl (cyI, M, .inl z)), (uh, .inr (4, [.ref ua, .int un])), (ua, .inl (cyI, 24, .inl uf))] (some (.int ((r_X6_append M n f z un uf).1))) [(h, .inr (6, [.int (nI M), .ref a, .ref b, .int ((r_X6_append M n f z un uf).2.1)])), (a, .inl (cyI, M * 24, .inl ((r_X6_append M n f z un uf).2.2.1))), (b, .inl (cyI, M, .inl ((r_X6_append M n f z un uf).2.2.2))), (uh, .inr (4, [.ref ua, .int un])), (ua, .inl (cyI, 24, .inl uf))] := by
  refine ct_intro (by decide) (Nat.le_of_ble_eq_true rfl) ?_
  intro p e s m below meth c A ls cx hP hD hS hl
  obtain ⟨hx, hb, -⟩ := id cx
  refine lv_aload_n hx hb dX6_append_0 rfl (lv_at hl 0 rfl) ?_
  refine ct_get (v := .int n) cx hP 0 rfl rfl bwX6 3 rfl mm_4 rfl dX6_append_1 ?_
  refine lv_if_lt (tgt := 18) hx hb dX6_append_4 (by decide) (fun c_1 => ?_) (fun c_1 => ?_)
  · skip
    refine lv_iconst (v := (0 : Int32)) hx hb dX6_append_18 (by decide) ?_
    rw [show r_X6_append M n f z un uf = ((0 : Int32), n, f, z) from if_pos c_1]
    dsimp only
    exact ct_zret (v := (0 : Int32)) cx hP hD hS rfl dX6_append_19
  · skip
    refine lv_aload_n hx hb dX6_append_7 rfl (lv_at hl 0 rfl) ?_
    refine ct_get (v := .int n) cx hP 0 rfl rfl bwX6 3 rfl mm_4 rfl dX6_append_8 ?_
    refine lv_aload_n hx hb dX6_append_11 rfl (lv_at hl 0 rfl) ?_
    refine ct_get (v := .int (nI M)) cx hP 0 rfl rfl bwX6 0 rfl mm_9 rfl dX6_append_12 ?_
    refine lv_icmp_lt (tgt := 20) hx hb dX6_append_15 (by decide) (fun c_2 => ?_) (fun c_2 => ?_)
    · skip
      refine lv_aload_n hx hb dX6_append_20 rfl (lv_at hl 0 rfl) ?_
      refine ct_get (v := .int n) cx hP 0 rfl rfl bwX6 3 rfl mm_4 rfl dX6_append_21 ?_
      refine lv_bipush (v := (24 : Int32)) hx hb dX6_append_24 (by decide) ?_
      refine lv_imul hx hb dX6_append_26 ?_
      refine lv_istore_n (lv' := [(2, .int (n * (24 : Int32))), (0, .ref h), (1, .ref uh)]) hx hb dX6_append_27 rfl hl (by decide) rfl (fun ls hl => ?_)
      refine lv_iconst (v := (0 : Int32)) hx hb dX6_append_28 (by decide) ?_
      refine lv_istore_n (lv' := [(3, .int (0 : Int32)), (2, .int (n * (24 : Int32))), (0, .ref h), (1, .ref uh)]) hx hb dX6_append_29 rfl hl (by decide) rfl (fun ls hl => ?_)
      rw [show r_X6_append M n f z un uf = g_X6_append_30 n z un uf M (n * (24 : Int32)) (24 - 0 + 1) f 0 from (if_neg c_1).trans (if_pos c_2)]
      exact (lp_X6_append_30 cx h a b uh ua n z un uf M (n * (24 : Int32)) hM) (24 - 0 + 1) f 0 (by omega) rfl c_1 c_2 (Nat.lt_succ_self _) _ _ _ hP hD hS (lv_sub hl [2, 3, 1, 0] rfl)
    · skip
      refine lv_iconst (v := (0 : Int32)) hx hb dX6_append_18 (by decide) ?_
      rw [show r_X6_append M n f z un uf = ((0 : Int32), n, f, z) from (if_neg c_1).trans (if_neg c_2)]
      dsimp only
      exact ct_zret (v := (0 : Int32)) cx hP hD hS rfl dX6_append_19
theorem h6_0 {i n : Int32} {M : Nat} {f z : Nat → Int32} (h : ¬ r_X6_has i M n f z = 0) : ¬ i < 0 := by
  unfold r_X6_has at h
  split at h
  · exact absurd rfl h
  · assumption
theorem h6_1 {i n : Int32} {M : Nat} {f z : Nat → Int32} (h : ¬ r_X6_has i M n f z = 0) : i < nI M := by
  unfold r_X6_has at h
  split at h
  · exact absurd rfl h
  · split at h
    · exact absurd rfl h
    · split at h
      · exact absurd rfl h
      · exact Int32.not_le.mp ‹_›
def g_X6_copyTo_22 (n : Int32) (f : Nat → Int32) (z : Nat → Int32) (M : Nat) (i : Int32) (x3 : Int32) : Nat → Int32 → (Nat → Int32) → Nat → Int32 × (Nat → Int32)
  | 0, _, _, _ => (0, fun _ => 0)
  | fu + 1, un, uf, j => if (z i.toNatClampNeg) ≤ (nI j) then (un, uf) else if (24 : Int32) ≤ (nI j) then (un, uf) else let u_8 : Int32 × Int32 × (Nat → Int32) := r_X4_append (f ((x3 + (nI j)).toNatClampNeg)) un uf; g_X6_copyTo_22 n f z M i x3 fu u_8.2.1 u_8.2.2 (j + 1)
def r_X6_copyTo (i : Int32) (M : Nat) (n : Int32) (f : Nat → Int32) (z : Nat → Int32) (un : Int32) (uf : Nat → Int32) : Int32 × (Nat → Int32) := if (r_X6_has i M n f z) = (0 : Int32) then (un, uf) else let u_2 : Int32 := r_X4_shorten (0 : Int32) un uf; g_X6_copyTo_22 n f z M i (i * (24 : Int32)) (24 - 0 + 1) u_2 uf 0
set_option maxHeartbeats 4000000 in
set_option maxRecDepth 100000 in
theorem lp_X6_copyTo_22 {p : Program} {l : Launch} {e : Env} {s : State} {m : MethodId} {below : List Frame} {meth : Method} {c : Code} {D : va_G} {cyI cyZ : ClassId} {A : Nat → Prop} {av : Array Value} (cx : CX p s m meth c D cyI cyZ A yX6_copyTo cX6_copyTo 5 none av) (h : Nat) (a : Nat) (b : Nat) (uh : Nat) (ua : Nat) (n : Int32) (f : Nat → Int32) (z : Nat → Int32) (M : Nat) (i : Int32) (x3 : Int32) (hM : M < 1000) : ∀ (fu : Nat) (un : Int32) (uf : Nat → Int32) (j : Nat), j ≤ 24 → x3 = i * (24 : Int32) → ¬ i < 0 → i < nI M → 24 - j < fu → ∀ (H : Heap) (locs : List Loc) (ls : Array Slot), va_P D vwCl [(h, .inr (6, [.int (nI M), .ref a, .ref b, .int n])), (a, .inl (cyI, M * 24, .inl f)), (b, .inl (cyI, M, .inl z)), (uh, .inr (4, [.ref ua, .int un])), (ua, .inl (cyI, 24, .inl uf))] H → va_D A [(h, .inr (6, [.int (nI M), .ref a, .ref b, .int n])), (a, .inl (cyI, M * 24, .inl f)), (b, .inl (cyI, M, .inl z)), (uh, .inr (4, [.ref ua, .int un])), (ua, .inl (cyI, 24, .inl uf))] → va_S A s.heap H locs → lv_has ls 5 [(0, .ref h), (1, .int i), (2, .ref uh), (3, .int x3), (4, .int (nI j))] → W p l e ({ frames := 1, cells := 0, slots := 0, locals := 21 }) s m av below meth c H locs 0 0 (MQ below (QX D A none [(h, .inr (6, [.int (nI M), .ref a, .ref b, .int n])), (a, .inl (cyI, M * 24, .inl f)), (b, .inl (cyI, M, .inl z)), (uh, .inr (4, [.ref ua, .int ((g_X6_copyTo_22 n f z M i x3 fu un uf j).1)])), (ua, .inl (cyI, 24, .inl ((g_X6_copyTo_22 n f z M i x3 fu un uf j).2)))]) av s 0 0 A) (F0 m 22 ls []) := by
  obtain ⟨hx, hb, -⟩ := id cx
  intro fu
  induction fu with
  | zero =>
    intro un uf j hj hq h0 h1 hmu
    exact absurd hmu (Nat.not_lt_zero _)
  | succ fu ih =>
    intro un uf j hj hq h0 h1 hmu H locs ls hP hD hS hl
    refine lv_iload hx hb dX6_copyTo_22 (lv_at hl 4 rfl) ?_
    refine lv_aload_n hx hb dX6_copyTo_24 rfl (lv_at hl 0 rfl) ?_
    refine ct_get (v := .ref b) cx hP 0 rfl rfl bwX6 2 rfl mm_12 rfl dX6_copyTo_25 ?_
    refine lv_iload_n hx hb dX6_copyTo_28 rfl (lv_at hl 1 rfl) ?_
    refine ct_iald cx hP 2 rfl (vp_len h0 h1 hM) dX6_copyTo_29 ?_
    refine lv_icmp_ge (tgt := 60) hx hb dX6_copyTo_30 (by decide) (fun c_6 => ?_) (fun c_6 => ?_)
    · skip
      rw [show g_X6_copyTo_22 n f z M i x3 (fu + 1) un uf j = (un, uf) from if_pos c_6]
      dsimp only
      exact ct_vret cx hP hD hS dX6_copyTo_60
    · skip
      refine lv_iload hx hb dX6_copyTo_33 (lv_at hl 4 rfl) ?_
      refine lv_bipush (v := (24 : Int32)) hx hb dX6_copyTo_35 (by decide) ?_
      refine lv_icmp_ge (tgt := 60) hx hb dX6_copyTo_37 (by decide) (fun c_7 => ?_) (fun c_7 => ?_)
      · skip
        rw [show g_X6_copyTo_22 n f z M i x3 (fu + 1) un uf j = (un, uf) from (if_neg c_6).trans (if_pos c_7)]
        dsimp only
        exact ct_vret cx hP hD hS dX6_copyTo_60
      · skip
        refine lv_aload_n hx hb dX6_copyTo_40 rfl (lv_at hl 2 rfl) ?_
        refine lv_aload_n hx hb dX6_copyTo_41 rfl (lv_at hl 0 rfl) ?_
        refine ct_get (v := .ref a) cx hP 0 rfl rfl bwX6 1 rfl mm_11 rfl dX6_copyTo_42 ?_
        refine lv_iload_n hx hb dX6_copyTo_45 rfl (lv_at hl 3 rfl) ?_
        refine lv_iload hx hb dX6_copyTo_46 (lv_at hl 4 rfl) ?_
        refine lv_iadd hx hb dX6_copyTo_48 ?_
        refine ct_iald cx hP 1 rfl (by subst hq; exact vp_sh h0 h1 (nI_ltN (N := 24) c_7 hj) hM) dX6_copyTo_49 ?_
        refine ct_callV (As := [.int (f ((x3 + (nI j)).toNatClampNeg))]) (rest := []) (st1 := [.int ((r_X4_append (f ((x3 + (nI j)).toNatClampNeg)) un uf).1)]) (V3 := [(h, .inr (6, [.int (nI M), .ref a, .ref b, .int n])), (a, .inl (cyI, M * 24, .inl f)), (b, .inl (cyI, M, .inl z)), (uh, .inr (4, [.ref ua, .int ((r_X4_append (f ((x3 + (nI j)).toNatClampNeg)) un uf).2.1)])), (ua, .inl (cyI, 24, .inl ((r_X4_append (f ((x3 + (nI j)).toNatClampNeg)) un uf).2.2)))]) cx (c_X4_append l D cyI cyZ uh ua (f ((x3 + (nI j)).toNatClampNeg)) un uf) hP hD hS [3, 4] [(false, 0), (false, 1), (false, 2), (true, 0), (true, 1)] ⟨rfl, rfl, rfl⟩ rfl rfl mm_182 mm_160 mm_161 mm_76 mm_153 dd_X4_append rfl hl.1 rfl dX6_copyTo_50 rfl (fun H locs hP hD hS => ?_)
        obtain ⟨u_8, hu_8⟩ : ∃ z, z = r_X4_append (f ((x3 + (nI j)).toNatClampNeg)) un uf := ⟨_, rfl⟩
        rw [← hu_8] at hP hD ⊢
        refine lv_pop hx hb dX6_copyTo_53 rfl ?_
        refine lv_iinc (v := nI (j + 1)) (lv' := [(4, .int (nI (j + 1))), (0, .ref h), (1, .int i), (2, .ref uh), (3, .int x3)]) hx hb dX6_copyTo_54 hl (k := 4) rfl (nI_1 j) (by decide) rfl (fun ls hl => ?_)
        refine lv_goto (tgt := 22) hx hb dX6_copyTo_57 (by decide) ?_
        rw [show g_X6_copyTo_22 n f z M i x3 (fu + 1) un uf j = g_X6_copyTo_22 n f z M i x3 fu u_8.2.1 u_8.2.2 (j + 1) from (by subst hu_8; exact (if_neg c_6).trans (if_neg c_7))]
        exact ih u_8.2.1 u_8.2.2 (j + 1) (by have := nI_ltN (N := 24) c_7 hj; omega) hq h0 h1 (by have := nI_ltN (N := 24) c_7 hj; omega) _ _ _ hP hD hS (lv_sub hl [1, 2, 3, 4, 0] rfl)
set_option maxHeartbeats 4000000 in
set_option maxRecDepth 100000 in
theorem c_X6_copyTo (l : Launch) (D : va_G) (cyI cyZ : ClassId) (h : Nat) (a : Nat) (b : Nat) (uh : Nat) (ua : Nat) (i : Int32) (M : Nat) (n : Int32) (f : Nat → Int32) (z : Nat → Int32) (un : Int32) (uf : Nat → Int32) (hM : M < 1000) : CT l D cyI cyZ yX6_copyTo cX6_copyTo 5 none ({ frames := 1, cells := 0, slots := 0, locals := 21 }) [.ref h, .int i, .ref uh] [(h, .inr (6, [.int (nI M), .ref a, .ref b, .int n])), (a, .inl (cyI, M * 24, .inl f)), (b, .inl (cyI, M, .inl z)), (uh, .inr (4, [.ref ua, .int un])), (ua, .inl (cyI, 24, .inl uf))] none [(h, .inr (6, [.int (nI M), .ref a, .ref b, .int n])), (a, .inl (cyI, M * 24, .inl f)), (b, .inl (cyI, M, .inl z)), (uh, .inr (4, [.ref ua, .int ((r_X6_copyTo i M n f z un uf).1)])), (ua, .inl (cyI, 24, .inl ((r_X6_copyTo i M n f z un uf).2)))] := by
  refine ct_intro (by decide) (Nat.le_of_ble_eq_true rfl) ?_
  intro p e s m below meth c A ls cx hP hD hS hl
  obtain ⟨hx, hb, -⟩ := id cx
  refine lv_aload_n hx hb dX6_copyTo_0 rfl (lv_at hl 0 rfl) ?_
  refine lv_iload_n hx hb dX6_copyTo_1 rfl (lv_at hl 1 rfl) ?_
  refine ct_callV (As := [.int i]) (rest := []) (st1 := [.int (r_X6_has i M n f z)]) (V3 := [(h, .inr (6, [.int (nI M), .ref a, .ref b, .int n])), (a, .inl (cyI, M * 24, .inl f)), (b, .inl (cyI, M, .inl z)), (uh, .inr (4, [.ref ua, .int un])), (ua, .inl (cyI, 24, .inl uf))]) cx (c_X6_has l D cyI cyZ h a b i M n f z) hP hD hS [0, 1, 2] [(true, 0), (true, 1), (true, 2), (false, 3), (false, 4)] ⟨rfl, rfl, rfl⟩ rfl rfl mm_178 mm_179 mm_180 mm_18 mm_176 dd_X6_has rfl hl.1 rfl dX6_copyTo_2 rfl (fun H locs hP hD hS => ?_)
  refine lv_if_ne (tgt := 9) hx hb dX6_copyTo_5 (by decide) (fun c_1 => ?_) (fun c_1 => ?_)
  · skip
    refine lv_aload_n hx hb dX6_copyTo_9 rfl (lv_at hl 2 rfl) ?_
    refine lv_iconst (v := (0 : Int32)) hx hb dX6_copyTo_10 (by decide) ?_
    refine ct_callV (As := [.int (0 : Int32)]) (rest := []) (st1 := []) (V3 := [(h, .inr (6, [.int (nI M), .ref a, .ref b, .int n])), (a, .inl (cyI, M * 24, .inl f)), (b, .inl (cyI, M, .inl z)), (uh, .inr (4, [.ref ua, .int (r_X4_shorten (0 : Int32) un uf)])), (ua, .inl (cyI, 24, .inl uf))]) cx (c_X4_shorten l D cyI cyZ uh ua (0 : Int32) un uf) hP hD hS [3, 4] [(false, 0), (false, 1), (false, 2), (true, 0), (true, 1)] ⟨rfl, rfl, rfl⟩ rfl rfl mm_181 mm_164 mm_165 mm_76 mm_151 dd_X4_shorten rfl hl.1 rfl dX6_copyTo_11 rfl (fun H locs hP hD hS => ?_)
    obtain ⟨u_2, hu_2⟩ : ∃ z, z = r_X4_shorten (0 : Int32) un uf := ⟨_, rfl⟩
    rw [← hu_2] at hP hD
    refine lv_iload_n hx hb dX6_copyTo_14 rfl (lv_at hl 1 rfl) ?_
    refine lv_bipush (v := (24 : Int32)) hx hb dX6_copyTo_15 (by decide) ?_
    refine lv_imul hx hb dX6_copyTo_17 ?_
    refine lv_istore_n (lv' := [(3, .int (i * (24 : Int32))), (0, .ref h), (1, .int i), (2, .ref uh)]) hx hb dX6_copyTo_18 rfl hl (by decide) rfl (fun ls hl => ?_)
    refine lv_iconst (v := (0 : Int32)) hx hb dX6_copyTo_19 (by decide) ?_
    refine lv_istore (lv' := [(4, .int (0 : Int32)), (3, .int (i * (24 : Int32))), (0, .ref h), (1, .int i), (2, .ref uh)]) hx hb dX6_copyTo_20 hl (by decide) rfl (fun ls hl => ?_)
    rw [show r_X6_copyTo i M n f z un uf = g_X6_copyTo_22 n f z M i (i * (24 : Int32)) (24 - 0 + 1) u_2 uf 0 from (by subst hu_2; exact if_neg c_1)]
    exact (lp_X6_copyTo_22 cx h a b uh ua n f z M i (i * (24 : Int32)) hM) (24 - 0 + 1) u_2 uf 0 (by omega) rfl (h6_0 c_1) (h6_1 c_1) (Nat.lt_succ_self _) _ _ _ hP hD hS (lv_sub hl [2, 3, 4, 1, 0] rfl)
  · skip
    rw [show r_X6_copyTo i M n f z un uf = (un, uf) from if_pos c_1]
    dsimp only
    exact ct_vret cx hP hD hS dX6_copyTo_8
def r_X6_clear (M : Nat) (n : Int32) (f : Nat → Int32) (z : Nat → Int32) : Int32 := (0 : Int32)
set_option maxHeartbeats 4000000 in
set_option maxRecDepth 100000 in
theorem c_X6_clear (l : Launch) (D : va_G) (cyI cyZ : ClassId) (h : Nat) (a : Nat) (b : Nat) (M : Nat) (n : Int32) (f : Nat → Int32) (z : Nat → Int32)  : CT l D cyI cyZ yX6_clear cX6_clear 1 none ({ frames := 0, cells := 0, slots := 0, locals := 0 }) [.ref h] [(h, .inr (6, [.int (nI M), .ref a, .ref b, .int n])), (a, .inl (cyI, M * 24, .inl f)), (b, .inl (cyI, M, .inl z))] none [(h, .inr (6, [.int (nI M), .ref a, .ref b, .int (r_X6_clear M n f z)])), (a, .inl (cyI, M * 24, .inl f)), (b, .inl (cyI, M, .inl z))] := by
  refine ct_intro (by decide) (Nat.le_of_ble_eq_true rfl) ?_
  intro p e s m below meth c A ls cx hP hD hS hl
  obtain ⟨hx, hb, -⟩ := id cx
  refine lv_aload_n hx hb dX6_clear_0 rfl (lv_at hl 0 rfl) ?_
  refine lv_iconst (v := (0 : Int32)) hx hb dX6_clear_1 (by decide) ?_
  refine ct_put (V3 := [(h, .inr (6, [.int (nI M), .ref a, .ref b, .int (0 : Int32)])), (a, .inl (cyI, M * 24, .inl f)), (b, .inl (cyI, M, .inl z))]) cx hP hD hS 0 rfl rfl bwX6 tyX6_ok nmX6 3 rfl mm_4 rfl rfl rfl rfl dX6_clear_2 rfl (fun H locs hP hD hS => ?_)
  rw [show r_X6_clear M n f z = (0 : Int32) from rfl]
  exact ct_vret cx hP hD hS dX6_clear_5
