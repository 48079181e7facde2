theorem nI_ltN {N j : Nat} (h : ¬ nI N ≤ nI j) (hj : j ≤ N) : j < N := by
  rcases Nat.lt_or_ge j N with q | q
  · exact q
  · have : j = N := by omega
    subst this
    exact absurd (Int32.le_refl _) h
def g_J7_fill_53178_5 (NN : Nat) (v : Int32) (x3 : Int32) : Nat → (Nat → Int32) → Nat → (Nat → Int32)
  | 0, _, _ => fun _ => 0
  | fu + 1, f, j => if x3 ≤ (nI j) then f else g_J7_fill_53178_5 NN v x3 fu (upd f j v) (j + 1)
def r_J7_fill_53178 (v : Int32) (NN : Nat) (f : Nat → Int32) : (Nat → Int32) := g_J7_fill_53178_5 NN v (nI NN) (NN - 0 + 1) f 0
set_option maxHeartbeats 4000000 in
set_option maxRecDepth 100000 in
theorem lp_J7_fill_53178_5 {p : Program} {l : Launch} {e : Env} {s : State} {m : MethodId} {below : List Frame} {meth : Method} {c : Code} {D : va_G} {cyI cyZ : ClassId} {A : Nat → Prop} {av : Array Value} (cx : CX p s m meth c D cyI cyZ A yJ7_fill_53178 cJ7_fill_53178 4 none av) (a : Nat) (NN : Nat) (v : Int32) (x3 : Int32) (hN : NN < 1000) : ∀ (fu : Nat) (f : Nat → Int32) (j : Nat), j ≤ NN → x3 = nI NN → NN - j < fu → ∀ (H : Heap) (locs : List Loc) (ls : Array Slot), va_P D vwCl [(a, .inl (cyI, NN, .inl f))] H → va_D A [(a, .inl (cyI, NN, .inl f))] → va_S A s.heap H locs → lv_has ls 4 [(0, .ref a), (1, .int v), (2, .int (nI j)), (3, .int x3)] → W p l e ({ frames := 0, cells := 0, slots := 0, locals := 0 }) s m av below meth c H locs 0 0 (MQ below (QX D A none [(a, .inl (cyI, NN, .inl (g_J7_fill_53178_5 NN v x3 fu f j)))]) av s 0 0 A) (F0 m 5 ls []) := by
  obtain ⟨hx, hb, -⟩ := id cx
  intro fu
  induction fu with
  | zero =>
    intro f j hj hq hmu
    exact absurd hmu (Nat.not_lt_zero _)
  | succ fu ih =>
    intro f j hj hq hmu H locs ls hP hD hS hl
    refine lv_iload_n hx hb dJ7_fill_53178_5 rfl (lv_at hl 2 rfl) ?_
    refine lv_iload_n hx hb dJ7_fill_53178_6 rfl (lv_at hl 3 rfl) ?_
    refine lv_icmp_ge (tgt := 20) hx hb dJ7_fill_53178_7 (by decide) (fun c_2 => ?_) (fun c_2 => ?_)
    · skip
      rw [show g_J7_fill_53178_5 NN v x3 (fu + 1) f j = f from if_pos c_2]
      exact ct_vret cx hP hD hS dJ7_fill_53178_20
    · skip
      refine lv_aload_n hx hb dJ7_fill_53178_10 rfl (lv_at hl 0 rfl) ?_
      refine lv_iload_n hx hb dJ7_fill_53178_11 rfl (lv_at hl 2 rfl) ?_
      refine lv_iload_n hx hb dJ7_fill_53178_12 rfl (lv_at hl 1 rfl) ?_
      refine ct_iast (V3 := [(a, .inl (cyI, NN, .inl (upd f j v)))]) cx hP hD hS 0 rfl (by subst hq; exact vp_in_nI (nI_ltN ‹_› hj) (by omega)) dJ7_fill_53178_13 (by rw [nI_clamp (show j < 2 ^ 31 by omega)]; rfl) (fun H locs hP hD hS => ?_)
      refine lv_iinc (v := nI (j + 1)) (lv' := [(2, .int (nI (j + 1))), (0, .ref a), (1, .int v), (3, .int x3)]) hx hb dJ7_fill_53178_14 hl (k := 2) rfl (nI_1 j) (by decide) rfl (fun ls hl => ?_)
      refine lv_goto (tgt := 5) hx hb dJ7_fill_53178_17 (by decide) ?_
      rw [show g_J7_fill_53178_5 NN v x3 (fu + 1) f j = g_J7_fill_53178_5 NN v x3 fu (upd f j v) (j + 1) from if_neg c_2]
      exact ih (upd f j v) (j + 1) (by subst hq; have := nI_ltN ‹_› hj; omega) hq (by subst hq; have := nI_ltN ‹_› hj; omega) _ _ _ hP hD hS (lv_sub hl [1, 2, 0, 3] rfl)
set_option maxHeartbeats 4000000 in
set_option maxRecDepth 100000 in
theorem c_J7_fill_53178 (l : Launch) (D : va_G) (cyI cyZ : ClassId) (a : Nat) (v : Int32) (NN : Nat) (f : Nat → Int32) (hN : NN < 1000) : CT l D cyI cyZ yJ7_fill_53178 cJ7_fill_53178 4 none ({ frames := 0, cells := 0, slots := 0, locals := 0 }) [.ref a, .int v] [(a, .inl (cyI, NN, .inl f))] none [(a, .inl (cyI, NN, .inl (r_J7_fill_53178 v NN f)))] := by
  refine ct_intro (by decide) (Nat.le_of_ble_eq_true rfl) ?_
  intro p e s m below meth c A ls cx hP hD hS hl
  obtain ⟨hx, hb, -⟩ := id cx
  refine lv_iconst (v := (0 : Int32)) hx hb dJ7_fill_53178_0 (by decide) ?_
  refine lv_istore_n (lv' := [(2, .int (0 : Int32)), (0, .ref a), (1, .int v)]) hx hb dJ7_fill_53178_1 rfl hl (by decide) rfl (fun ls hl => ?_)
  refine lv_aload_n hx hb dJ7_fill_53178_2 rfl (lv_at hl 1 rfl) ?_
  refine ct_alen (v := nI NN) cx hP 0 rfl rfl dJ7_fill_53178_3 ?_
  refine lv_istore_n (lv' := [(3, .int (nI NN)), (2, .int (0 : Int32)), (0, .ref a), (1, .int v)]) hx hb dJ7_fill_53178_4 rfl hl (by decide) rfl (fun ls hl => ?_)
  rw [show r_J7_fill_53178 v NN f = g_J7_fill_53178_5 NN v (nI NN) (NN - 0 + 1) f 0 from rfl]
  exact (lp_J7_fill_53178_5 cx a NN v (nI NN) hN) (NN - 0 + 1) f 0 (by omega) rfl (Nat.lt_succ_self _) _ _ _ hP hD hS (lv_sub hl [2, 3, 1, 0] rfl)
theorem fill_eq (v : Int32) (N : Nat) : ∀ (fu j : Nat) (f : Nat → Int32), N < 1000 → j ≤ N → N - j < fu → g_J7_fill_53178_5 N v (nI N) fu f j = fun k => if j ≤ k ∧ k < N then v else f k
  | 0, j, f, _, _, h => absurd h (Nat.not_lt_zero _)
  | fu + 1, j, f, hN, hj, h => by
    unfold g_J7_fill_53178_5
    by_cases c : nI N ≤ nI j
    · rw [if_pos c]
      have : ¬ j < N := fun q => nI_ge q (by omega) c
      funext k
      rw [if_neg (by omega)]
    · rw [if_neg c]
      have hl := nI_ltN c hj
      rw [fill_eq v N fu (j + 1) _ hN (by omega) (by omega)]
      funext k
      by_cases hk : k = j
      · subst hk
        rw [if_neg (by omega), if_pos ⟨Nat.le_refl _, hl⟩]
        simp [upd]
      · by_cases h2 : j + 1 ≤ k ∧ k < N
        · rw [if_pos h2, if_pos (by omega)]
        · rw [if_neg h2, if_neg (by omega)]
          simp [upd, hk]
theorem r_fill (v : Int32) (N : Nat) (f : Nat → Int32) (hN : N < 1000) : r_J7_fill_53178 v N f = fun k => if k < N then v else f k := by
  unfold r_J7_fill_53178
  rw [show (nI N : Int32) = nI N from rfl, fill_eq v N _ 0 f hN (Nat.zero_le _) (Nat.lt_succ_self _)]
  funext k
  simp
def r_X7_isRegister (r : Int32) : Int32 := if r < (0 : Int32) then (0 : Int32) else if (8 : Int32) ≤ r then (0 : Int32) else (1 : Int32)
set_option maxHeartbeats 4000000 in
set_option maxRecDepth 100000 in
theorem c_X7_isRegister (l : Launch) (D : va_G) (cyI cyZ : ClassId)  (r : Int32)  : CT l D cyI cyZ yX7_isRegister cX7_isRegister 1 (some .boolean) ({ frames := 0, cells := 0, slots := 0, locals := 0 }) [.int r] [] (some (.int (r_X7_isRegister r))) [] := by
  refine ct_intro (by decide) (Nat.le_of_ble_eq_true rfl) ?_
  intro p e s m below meth c A ls cx hP hD hS hl
  obtain ⟨hx, hb, -⟩ := id cx
  refine lv_iload_n hx hb dX7_isRegister_0 rfl (lv_at hl 0 rfl) ?_
  refine lv_if_lt (tgt := 14) hx hb dX7_isRegister_1 (by decide) (fun c_1 => ?_) (fun c_1 => ?_)
  · skip
    refine lv_iconst (v := (0 : Int32)) hx hb dX7_isRegister_14 (by decide) ?_
    rw [show r_X7_isRegister r = (0 : Int32) from if_pos c_1]
    exact ct_zret (v := (0 : Int32)) cx hP hD hS rfl dX7_isRegister_15
  · skip
    refine lv_iload_n hx hb dX7_isRegister_4 rfl (lv_at hl 0 rfl) ?_
    refine lv_bipush (v := (8 : Int32)) hx hb dX7_isRegister_5 (by decide) ?_
    refine lv_icmp_ge (tgt := 14) hx hb dX7_isRegister_7 (by decide) (fun c_2 => ?_) (fun c_2 => ?_)
    · skip
      refine lv_iconst (v := (0 : Int32)) hx hb dX7_isRegister_14 (by decide) ?_
      rw [show r_X7_isRegister r = (0 : Int32) from (if_neg c_1).trans (if_pos c_2)]
      exact ct_zret (v := (0 : Int32)) cx hP hD hS rfl dX7_isRegister_15
    · skip
      refine lv_iconst (v := (1 : Int32)) hx hb dX7_isRegister_10 (by decide) ?_
      refine lv_goto (tgt := 15) hx hb dX7_isRegister_11 (by decide) ?_
      rw [show r_X7_isRegister r = (1 : Int32) from (if_neg c_1).trans (if_neg c_2)]
      exact ct_zret (v := (1 : Int32)) cx hP hD hS rfl dX7_isRegister_15
def r_X7_isBranch (br : Int32) : Int32 := if br < (0 : Int32) then (0 : Int32) else if (160 : Int32) ≤ br then (0 : Int32) else (1 : Int32)
set_option maxHeartbeats 4000000 in
set_option maxRecDepth 100000 in
theorem c_X7_isBranch (l : Launch) (D : va_G) (cyI cyZ : ClassId)  (br : Int32)  : CT l D cyI cyZ yX7_isBranch cX7_isBranch 1 (some .boolean) ({ frames := 0, cells := 0, slots := 0, locals := 0 }) [.int br] [] (some (.int (r_X7_isBranch br))) [] := by
  refine ct_intro (by decide) (Nat.le_of_ble_eq_true rfl) ?_
  intro p e s m below meth c A ls cx hP hD hS hl
  obtain ⟨hx, hb, -⟩ := id cx
  refine lv_iload_n hx hb dX7_isBranch_0 rfl (lv_at hl 0 rfl) ?_
  refine lv_if_lt (tgt := 15) hx hb dX7_isBranch_1 (by decide) (fun c_1 => ?_) (fun c_1 => ?_)
  · skip
    refine lv_iconst (v := (0 : Int32)) hx hb dX7_isBranch_15 (by decide) ?_
    rw [show r_X7_isBranch br = (0 : Int32) from if_pos c_1]
    exact ct_zret (v := (0 : Int32)) cx hP hD hS rfl dX7_isBranch_16
  · skip
    refine lv_iload_n hx hb dX7_isBranch_4 rfl (lv_at hl 0 rfl) ?_
    refine lv_sipush (v := (160 : Int32)) hx hb dX7_isBranch_5 (by decide) ?_
    refine lv_icmp_ge (tgt := 15) hx hb dX7_isBranch_8 (by decide) (fun c_2 => ?_) (fun c_2 => ?_)
    · skip
      refine lv_iconst (v := (0 : Int32)) hx hb dX7_isBranch_15 (by decide) ?_
      rw [show r_X7_isBranch br = (0 : Int32) from (if_neg c_1).trans (if_pos c_2)]
      exact ct_zret (v := (0 : Int32)) cx hP hD hS rfl dX7_isBranch_16
    · skip
      refine lv_iconst (v := (1 : Int32)) hx hb dX7_isBranch_11 (by decide) ?_
      refine lv_goto (tgt := 16) hx hb dX7_isBranch_12 (by decide) ?_
      rw [show r_X7_isBranch br = (1 : Int32) from (if_neg c_1).trans (if_neg c_2)]
      exact ct_zret (v := (1 : Int32)) cx hP hD hS rfl dX7_isBranch_16
def r_X7_isInRow (i : Int32) : Int32 := if i < (0 : Int32) then (0 : Int32) else if (16 : Int32) ≤ i then (0 : Int32) else (1 : Int32)
set_option maxHeartbeats 4000000 in
set_option maxRecDepth 100000 in
theorem c_X7_isInRow (l : Launch) (D : va_G) (cyI cyZ : ClassId)  (i : Int32)  : CT l D cyI cyZ yX7_isInRow cX7_isInRow 1 (some .boolean) ({ frames := 0, cells := 0, slots := 0, locals := 0 }) [.int i] [] (some (.int (r_X7_isInRow i))) [] := by
  refine ct_intro (by decide) (Nat.le_of_ble_eq_true rfl) ?_
  intro p e s m below meth c A ls cx hP hD hS hl
  obtain ⟨hx, hb, -⟩ := id cx
  refine lv_iload_n hx hb dX7_isInRow_0 rfl (lv_at hl 0 rfl) ?_
  refine lv_if_lt (tgt := 14) hx hb dX7_isInRow_1 (by decide) (fun c_1 => ?_) (fun c_1 => ?_)
  · skip
    refine lv_iconst (v := (0 : Int32)) hx hb dX7_isInRow_14 (by decide) ?_
    rw [show r_X7_isInRow i = (0 : Int32) from if_pos c_1]
    exact ct_zret (v := (0 : Int32)) cx hP hD hS rfl dX7_isInRow_15
  · skip
    refine lv_iload_n hx hb dX7_isInRow_4 rfl (lv_at hl 0 rfl) ?_
    refine lv_bipush (v := (16 : Int32)) hx hb dX7_isInRow_5 (by decide) ?_
    refine lv_icmp_ge (tgt := 14) hx hb dX7_isInRow_7 (by decide) (fun c_2 => ?_) (fun c_2 => ?_)
    · skip
      refine lv_iconst (v := (0 : Int32)) hx hb dX7_isInRow_14 (by decide) ?_
      rw [show r_X7_isInRow i = (0 : Int32) from (if_neg c_1).trans (if_pos c_2)]
      exact ct_zret (v := (0 : Int32)) cx hP hD hS rfl dX7_isInRow_15
    · skip
      refine lv_iconst (v := (1 : Int32)) hx hb dX7_isInRow_10 (by decide) ?_
      refine lv_goto (tgt := 15) hx hb dX7_isInRow_11 (by decide) ?_
      rw [show r_X7_isInRow i = (1 : Int32) from (if_neg c_1).trans (if_neg c_2)]
      exact ct_zret (v := (1 : Int32)) cx hP hD hS rfl dX7_isInRow_15
set_option maxHeartbeats 4000000 in
set_option maxRecDepth 100000 in
theorem c_X7_kind (l : Launch) (D : va_G) (cyI cyZ : ClassId) (h : Nat) (a0 : Nat) (a1 : Nat) (a2 : Nat) (a3 : Nat) (g : Nat → Int32) (F : Nat → Nat → Int32)  : CT l D cyI cyZ yX7_kind cX7_kind 1 (some .int) ({ frames := 0, cells := 0, slots := 0, locals := 0 }) [.ref h] [(h, .inr (7, [.ref a0, .ref a1, .ref a2, .ref a3, .int (g 4), .int (g 5), .int (g 6), .int (g 7), .int (g 8), .int (g 9), .int (g 10), .int (g 11)])), (a0, .inl (cyI, 8, .inl (F 0))), (a1, .inl (cyI, 16, .inl (F 1))), (a2, .inl (cyI, 8, .inl (F 2))), (a3, .inl (cyI, 160, .inl (F 3)))] (some (.int (g 5))) [(h, .inr (7, [.ref a0, .ref a1, .ref a2, .ref a3, .int (g 4), .int (g 5), .int (g 6), .int (g 7), .int (g 8), .int (g 9), .int (g 10), .int (g 11)])), (a0, .inl (cyI, 8, .inl (F 0))), (a1, .inl (cyI, 16, .inl (F 1))), (a2, .inl (cyI, 8, .inl (F 2))), (a3, .inl (cyI, 160, .inl (F 3)))] := by
  refine ct_intro (by decide) (Nat.le_of_ble_eq_true rfl) ?_
  intro p e s m below meth c A ls cx hP hD hS hl
  obtain ⟨hx, hb, -⟩ := id cx
  refine lv_aload_n hx hb dX7_kind_0 rfl (lv_at hl 0 rfl) ?_
  refine ct_get (v := .int (g 5)) cx hP 0 rfl rfl bwX7 5 rfl mm_81 rfl dX7_kind_1 ?_
  exact ct_iret cx hP hD hS dX7_kind_4
set_option maxHeartbeats 4000000 in
set_option maxRecDepth 100000 in
theorem c_X7_place (l : Launch) (D : va_G) (cyI cyZ : ClassId) (h : Nat) (a0 : Nat) (a1 : Nat) (a2 : Nat) (a3 : Nat) (g : Nat → Int32) (F : Nat → Nat → Int32)  : CT l D cyI cyZ yX7_place cX7_place 1 (some .int) ({ frames := 0, cells := 0, slots := 0, locals := 0 }) [.ref h] [(h, .inr (7, [.ref a0, .ref a1, .ref a2, .ref a3, .int (g 4), .int (g 5), .int (g 6), .int (g 7), .int (g 8), .int (g 9), .int (g 10), .int (g 11)])), (a0, .inl (cyI, 8, .inl (F 0))), (a1, .inl (cyI, 16, .inl (F 1))), (a2, .inl (cyI, 8, .inl (F 2))), (a3, .inl (cyI, 160, .inl (F 3)))] (some (.int (g 6))) [(h, .inr (7, [.ref a0, .ref a1, .ref a2, .ref a3, .int (g 4), .int (g 5), .int (g 6), .int (g 7), .int (g 8), .int (g 9), .int (g 10), .int (g 11)])), (a0, .inl (cyI, 8, .inl (F 0))), (a1, .inl (cyI, 16, .inl (F 1))), (a2, .inl (cyI, 8, .inl (F 2))), (a3, .inl (cyI, 160, .inl (F 3)))] := by
  refine ct_intro (by decide) (Nat.le_of_ble_eq_true rfl) ?_
  intro p e s m below meth c A ls cx hP hD hS hl
  obtain ⟨hx, hb, -⟩ := id cx
  refine lv_aload_n hx hb dX7_place_0 rfl (lv_at hl 0 rfl) ?_
  refine ct_get (v := .int (g 6)) cx hP 0 rfl rfl bwX7 6 rfl mm_89 rfl dX7_place_1 ?_
  exact ct_iret cx hP hD hS dX7_place_4
set_option maxHeartbeats 4000000 in
set_option maxRecDepth 100000 in
theorem c_X7_depth (l : Launch) (D : va_G) (cyI cyZ : ClassId) (h : Nat) (a0 : Nat) (a1 : Nat) (a2 : Nat) (a3 : Nat) (g : Nat → Int32) (F : Nat → Nat → Int32)  : CT l D cyI cyZ yX7_depth cX7_depth 1 (some .int) ({ frames := 0, cells := 0, slots := 0, locals := 0 }) [.ref h] [(h, .inr (7, [.ref a0, .ref a1, .ref a2, .ref a3, .int (g 4), .int (g 5), .int (g 6), .int (g 7), .int (g 8), .int (g 9), .int (g 10), .int (g 11)])), (a0, .inl (cyI, 8, .inl (F 0))), (a1, .inl (cyI, 16, .inl (F 1))), (a2, .inl (cyI, 8, .inl (F 2))), (a3, .inl (cyI, 160, .inl (F 3)))] (some (.int (g 4))) [(h, .inr (7, [.ref a0, .ref a1, .ref a2, .ref a3, .int (g 4), .int (g 5), .int (g 6), .int (g 7), .int (g 8), .int (g 9), .int (g 10), .int (g 11)])), (a0, .inl (cyI, 8, .inl (F 0))), (a1, .inl (cyI, 16, .inl (F 1))), (a2, .inl (cyI, 8, .inl (F 2))), (a3, .inl (cyI, 160, .inl (F 3)))] := by
  refine ct_intro (by decide) (Nat.le_of_ble_eq_true rfl) ?_
  intro p e s m below meth c A ls cx hP hD hS hl
  obtain ⟨hx, hb, -⟩ := id cx
  refine lv_aload_n hx hb dX7_depth_0 rfl (lv_at hl 0 rfl) ?_
  refine ct_get (v := .int (g 4)) cx hP 0 rfl rfl bwX7 4 rfl mm_91 rfl dX7_depth_1 ?_
  exact ct_iret cx hP hD hS dX7_depth_4
set_option maxHeartbeats 4000000 in
set_option maxRecDepth 100000 in
theorem c_X7_steps (l : Launch) (D : va_G) (cyI cyZ : ClassId) (h : Nat) (a0 : Nat) (a1 : Nat) (a2 : Nat) (a3 : Nat) (g : Nat → Int32) (F : Nat → Nat → Int32)  : CT l D cyI cyZ yX7_steps cX7_steps 1 (some .int) ({ frames := 0, cells := 0, slots := 0, locals := 0 }) [.ref h] [(h, .inr (7, [.ref a0, .ref a1, .ref a2, .ref a3, .int (g 4), .int (g 5), .int (g 6), .int (g 7), .int (g 8), .int (g 9), .int (g 10), .int (g 11)])), (a0, .inl (cyI, 8, .inl (F 0))), (a1, .inl (cyI, 16, .inl (F 1))), (a2, .inl (cyI, 8, .inl (F 2))), (a3, .inl (cyI, 160, .inl (F 3)))] (some (.int (g 7))) [(h, .inr (7, [.ref a0, .ref a1, .ref a2, .ref a3, .int (g 4), .int (g 5), .int (g 6), .int (g 7), .int (g 8), .int (g 9), .int (g 10), .int (g 11)])), (a0, .inl (cyI, 8, .inl (F 0))), (a1, .inl (cyI, 16, .inl (F 1))), (a2, .inl (cyI, 8, .inl (F 2))), (a3, .inl (cyI, 160, .inl (F 3)))] := by
  refine ct_intro (by decide) (Nat.le_of_ble_eq_true rfl) ?_
  intro p e s m below meth c A ls cx hP hD hS hl
  obtain ⟨hx, hb, -⟩ := id cx
  refine lv_aload_n hx hb dX7_steps_0 rfl (lv_at hl 0 rfl) ?_
  refine ct_get (v := .int (g 7)) cx hP 0 rfl rfl bwX7 7 rfl mm_215 rfl dX7_steps_1 ?_
  exact ct_iret cx hP hD hS dX7_steps_4
def r_X7_value (r : Int32) (g : Nat → Int32) (F : Nat → Nat → Int32) : Int32 := if r < (0 : Int32) then (0 : Int32) else if (8 : Int32) ≤ r then (0 : Int32) else (F 0) r.toNatClampNeg
set_option maxHeartbeats 4000000 in
set_option maxRecDepth 100000 in
theorem c_X7_value (l : Launch) (D : va_G) (cyI cyZ : ClassId) (h : Nat) (a0 : Nat) (a1 : Nat) (a2 : Nat) (a3 : Nat) (r : Int32) (g : Nat → Int32) (F : Nat → Nat → Int32)  : CT l D cyI cyZ yX7_value cX7_value 2 (some .int) ({ frames := 0, cells := 0, slots := 0, locals := 0 }) [.ref h, .int r] [(h, .inr (7, [.ref a0, .ref a1, .ref a2, .ref a3, .int (g 4), .int (g 5), .int (g 6), .int (g 7), .int (g 8), .int (g 9), .int (g 10), .int (g 11)])), (a0, .inl (cyI, 8, .inl (F 0))), (a1, .inl (cyI, 16, .inl (F 1))), (a2, .inl (cyI, 8, .inl (F 2))), (a3, .inl (cyI, 160, .inl (F 3)))] (some (.int (r_X7_value r g F))) [(h, .inr (7, [.ref a0, .ref a1, .ref a2, .ref a3, .int (g 4), .int (g 5), .int (g 6), .int (g 7), .int (g 8), .int (g 9), .int (g 10), .int (g 11)])), (a0, .inl (cyI, 8, .inl (F 0))), (a1, .inl (cyI, 16, .inl (F 1))), (a2, .inl (cyI, 8, .inl (F 2))), (a3, .inl (cyI, 160, .inl (F 3)))] := by
  refine ct_intro (by decide) (Nat.le_of_ble_eq_true rfl) ?_
  intro p e s m below meth c A ls cx hP hD hS hl
  obtain ⟨hx, hb, -⟩ := id cx
  refine lv_iload_n hx hb dX7_value_0 rfl (lv_at hl 1 rfl) ?_
  refine lv_if_lt (tgt := 19) hx hb dX7_value_1 (by decide) (fun c_1 => ?_) (fun c_1 => ?_)
  · skip
    refine lv_iconst (v := (0 : Int32)) hx hb dX7_value_19 (by decide) ?_
    rw [show r_X7_value r g F = (0 : Int32) from if_pos c_1]
    exact ct_iret cx hP hD hS dX7_value_20
  · skip
    refine lv_iload_n hx hb dX7_value_4 rfl (lv_at hl 1 rfl) ?_
    refine lv_bipush (v := (8 : Int32)) hx hb dX7_value_5 (by decide) ?_
    refine lv_icmp_ge (tgt := 19) hx hb dX7_value_7 (by decide) (fun c_2 => ?_) (fun c_2 => ?_)
    · skip
      refine lv_iconst (v := (0 : Int32)) hx hb dX7_value_19 (by decide) ?_
      rw [show r_X7_value r g F = (0 : Int32) from (if_neg c_1).trans (if_pos c_2)]
      exact ct_iret cx hP hD hS dX7_value_20
    · skip
      refine lv_aload_n hx hb dX7_value_10 rfl (lv_at hl 0 rfl) ?_
      refine ct_get (v := .ref a0) cx hP 0 rfl rfl bwX7 0 rfl mm_213 rfl dX7_value_11 ?_
      refine lv_iload_n hx hb dX7_value_14 rfl (lv_at hl 1 rfl) ?_
      refine ct_iald cx hP 1 rfl (vp_of (Or.inl c_1) (Or.inl c_2) rfl) dX7_value_15 ?_
      refine lv_goto (tgt := 20) hx hb dX7_value_16 (by decide) ?_
      rw [show r_X7_value r g F = (F 0) r.toNatClampNeg from (if_neg c_1).trans (if_neg c_2)]
      exact ct_iret cx hP hD hS dX7_value_20
theorem in_isBranch {b : Int32} (h : ¬ r_X7_isBranch b = 0) : vp_in b 160 := by
  unfold r_X7_isBranch at h
  split at h
  · exact absurd rfl h
  · split at h
    · exact absurd rfl h
    · exact vp_of (M := 160) (Or.inl ‹_›) (Or.inl ‹_›) rfl
theorem in_isInRow {b : Int32} (h : ¬ r_X7_isInRow b = 0) : vp_in b 16 := by
  unfold r_X7_isInRow at h
  split at h
  · exact absurd rfl h
  · split at h
    · exact absurd rfl h
    · exact vp_of (M := 16) (Or.inl ‹_›) (Or.inl ‹_›) rfl
theorem vp_oc {oc i : Int32} (h0 : ¬ i < 0) (h1 : ¬ oc ≤ i) (h2 : oc ≤ 8) : vp_in (oc - (1 : Int32) - i) 8 := by
  simp only [sg_lt, sg_le] at h0 h1 h2
  have e0 : (0 : Int32).toInt = 0 := rfl
  have e1 : (1 : Int32).toInt = 1 := rfl
  have e8 : (8 : Int32).toInt = 8 := rfl
  rw [e0] at h0
  rw [e8] at h2
  have a1 : (oc - 1).toInt = oc.toInt - 1 := by rw [fb_subI (by rw [e1]; omega) (by rw [e1]; omega), e1]
  rw [vp_in_iff, fb_subI (by rw [a1]; omega) (by rw [a1]; omega), a1]
  omega
def r_X7_turnsOf (br : Int32) (g : Nat → Int32) (F : Nat → Nat → Int32) : Int32 := if (r_X7_isBranch br) = (0 : Int32) then (0 : Int32) else (F 3) br.toNatClampNeg
set_option maxHeartbeats 4000000 in
set_option maxRecDepth 100000 in
theorem c_X7_turnsOf (l : Launch) (D : va_G) (cyI cyZ : ClassId) (h : Nat) (a0 : Nat) (a1 : Nat) (a2 : Nat) (a3 : Nat) (br : Int32) (g : Nat → Int32) (F : Nat → Nat → Int32)  : CT l D cyI cyZ yX7_turnsOf cX7_turnsOf 2 (some .int) ({ frames := 1, cells := 0, slots := 0, locals := 20 }) [.ref h, .int br] [(h, .inr (7, [.ref a0, .ref a1, .ref a2, .ref a3, .int (g 4), .int (g 5), .int (g 6), .int (g 7), .int (g 8), .int (g 9), .int (g 10), .int (g 11)])), (a0, .inl (cyI, 8, .inl (F 0))), (a1, .inl (cyI, 16, .inl (F 1))), (a2, .inl (cyI, 8, .inl (F 2))), (a3, .inl (cyI, 160, .inl (F 3)))] (some (.int (r_X7_turnsOf br g F))) [(h, .inr (7, [.ref a0, .ref a1, .ref a2, .ref a3, .int (g 4), .int (g 5), .int (g 6), .int (g 7), .int (g 8), .int (g 9), .int (g 10), .int (g 11)])), (a0, .inl (cyI, 8, .inl (F 0))), (a1, .inl (cyI, 16, .inl (F 1))), (a2, .inl (cyI, 8, .inl (F 2))), (a3, .inl (cyI, 160, .inl (F 3)))] := by
  refine ct_intro (by decide) (Nat.le_of_ble_eq_true rfl) ?_
  intro p e s m below meth c A ls cx hP hD hS hl
  obtain ⟨hx, hb, -⟩ := id cx
  refine lv_iload_n hx hb dX7_turnsOf_0 rfl (lv_at hl 1 rfl) ?_
  refine ct_callS (As := [.int br]) (rest := []) (st1 := [.int (r_X7_isBranch br)]) (V3 := [(h, .inr (7, [.ref a0, .ref a1, .ref a2, .ref a3, .int (g 4), .int (g 5), .int (g 6), .int (g 7), .int (g 8), .int (g 9), .int (g 10), .int (g 11)])), (a0, .inl (cyI, 8, .inl (F 0))), (a1, .inl (cyI, 16, .inl (F 1))), (a2, .inl (cyI, 8, .inl (F 2))), (a3, .inl (cyI, 160, .inl (F 3)))]) cx (c_X7_isBranch l D cyI cyZ br) hP hD hS [] [(false, 0), (false, 1), (false, 2), (false, 3), (false, 4)] ⟨rfl, rfl, rfl⟩ mm_57 mm_41 mm_42 mm_38 dd_X7_isBranch rfl hl.1 rfl dX7_turnsOf_1 rfl (fun H locs hP hD hS => ?_)
  refine lv_if_eq (tgt := 16) hx hb dX7_turnsOf_4 (by decide) (fun c_1 => ?_) (fun c_1 => ?_)
  · skip
    refine lv_iconst (v := (0 : Int32)) hx hb dX7_turnsOf_16 (by decide) ?_
    rw [show r_X7_turnsOf br g F = (0 : Int32) from if_pos c_1]
    exact ct_iret cx hP hD hS dX7_turnsOf_17
  · skip
    refine lv_aload_n hx hb dX7_turnsOf_7 rfl (lv_at hl 0 rfl) ?_
    refine ct_get (v := .ref a3) cx hP 0 rfl rfl bwX7 3 rfl mm_56 rfl dX7_turnsOf_8 ?_
    refine lv_iload_n hx hb dX7_turnsOf_11 rfl (lv_at hl 1 rfl) ?_
    refine ct_iald cx hP 4 rfl (in_isBranch ‹_›) dX7_turnsOf_12 ?_
    refine lv_goto (tgt := 17) hx hb dX7_turnsOf_13 (by decide) ?_
    rw [show r_X7_turnsOf br g F = (F 3) br.toNatClampNeg from if_neg c_1]
    exact ct_iret cx hP hD hS dX7_turnsOf_17
def r_X7_openCall (i : Int32) (g : Nat → Int32) (F : Nat → Nat → Int32) : Int32 := if i < (0 : Int32) then (-1 : Int32) else if (g 4) ≤ i then (-1 : Int32) else if (g 4) ≤ (8 : Int32) then (F 2) ((((g 4) - (1 : Int32)) - i).toNatClampNeg) else (-1 : Int32)
set_option maxHeartbeats 4000000 in
set_option maxRecDepth 100000 in
theorem c_X7_openCall (l : Launch) (D : va_G) (cyI cyZ : ClassId) (h : Nat) (a0 : Nat) (a1 : Nat) (a2 : Nat) (a3 : Nat) (i : Int32) (g : Nat → Int32) (F : Nat → Nat → Int32)  : CT l D cyI cyZ yX7_openCall cX7_openCall 2 (some .int) ({ frames := 0, cells := 0, slots := 0, locals := 0 }) [.ref h, .int i] [(h, .inr (7, [.ref a0, .ref a1, .ref a2, .ref a3, .int (g 4), .int (g 5), .int (g 6), .int (g 7), .int (g 8), .int (g 9), .int (g 10), .int (g 11)])), (a0, .inl (cyI, 8, .inl (F 0))), (a1, .inl (cyI, 16, .inl (F 1))), (a2, .inl (cyI, 8, .inl (F 2))), (a3, .inl (cyI, 160, .inl (F 3)))] (some (.int (r_X7_openCall i g F))) [(h, .inr (7, [.ref a0, .ref a1, .ref a2, .ref a3, .int (g 4), .int (g 5), .int (g 6), .int (g 7), .int (g 8), .int (g 9), .int (g 10), .int (g 11)])), (a0, .inl (cyI, 8, .inl (F 0))), (a1, .inl (cyI, 16, .inl (F 1))), (a2, .inl (cyI, 8, .inl (F 2))), (a3, .inl (cyI, 160, .inl (F 3)))] := by
  refine ct_intro (by decide) (Nat.le_of_ble_eq_true rfl) ?_
  intro p e s m below meth c A ls cx hP hD hS hl
  obtain ⟨hx, hb, -⟩ := id cx
  refine lv_iload_n hx hb dX7_openCall_0 rfl (lv_at hl 1 rfl) ?_
  refine lv_if_lt (tgt := 21) hx hb dX7_openCall_1 (by decide) (fun c_1 => ?_) (fun c_1 => ?_)
  · skip
    refine lv_iconst (v := (-1 : Int32)) hx hb dX7_openCall_21 (by decide) ?_
    rw [show r_X7_openCall i g F = (-1 : Int32) from if_pos c_1]
    exact ct_iret cx hP hD hS dX7_openCall_22
  · skip
    refine lv_iload_n hx hb dX7_openCall_4 rfl (lv_at hl 1 rfl) ?_
    refine lv_aload_n hx hb dX7_openCall_5 rfl (lv_at hl 0 rfl) ?_
    refine ct_get (v := .int (g 4)) cx hP 0 rfl rfl bwX7 4 rfl mm_91 rfl dX7_openCall_6 ?_
    refine lv_icmp_ge (tgt := 21) hx hb dX7_openCall_9 (by decide) (fun c_2 => ?_) (fun c_2 => ?_)
    · skip
      refine lv_iconst (v := (-1 : Int32)) hx hb dX7_openCall_21 (by decide) ?_
      rw [show r_X7_openCall i g F = (-1 : Int32) from (if_neg c_1).trans (if_pos c_2)]
      exact ct_iret cx hP hD hS dX7_openCall_22
    · skip
      refine lv_aload_n hx hb dX7_openCall_12 rfl (lv_at hl 0 rfl) ?_
      refine ct_get (v := .int (g 4)) cx hP 0 rfl rfl bwX7 4 rfl mm_91 rfl dX7_openCall_13 ?_
      refine lv_bipush (v := (8 : Int32)) hx hb dX7_openCall_16 (by decide) ?_
      refine lv_icmp_le (tgt := 23) hx hb dX7_openCall_18 (by decide) (fun c_3 => ?_) (fun c_3 => ?_)
      · skip
        refine lv_aload_n hx hb dX7_openCall_23 rfl (lv_at hl 0 rfl) ?_
        refine ct_get (v := .ref a2) cx hP 0 rfl rfl bwX7 2 rfl mm_92 rfl dX7_openCall_24 ?_
        refine lv_aload_n hx hb dX7_openCall_27 rfl (lv_at hl 0 rfl) ?_
        refine ct_get (v := .int (g 4)) cx hP 0 rfl rfl bwX7 4 rfl mm_91 rfl dX7_openCall_28 ?_
        refine lv_iconst (v := (1 : Int32)) hx hb dX7_openCall_31 (by decide) ?_
        refine lv_isub hx hb dX7_openCall_32 ?_
        refine lv_iload_n hx hb dX7_openCall_33 rfl (lv_at hl 1 rfl) ?_
        refine lv_isub hx hb dX7_openCall_34 ?_
        refine ct_iald cx hP 3 rfl (vp_oc ‹_› ‹_› ‹_›) dX7_openCall_35 ?_
        rw [show r_X7_openCall i g F = (F 2) ((((g 4) - (1 : Int32)) - i).toNatClampNeg) from (if_neg c_1).trans ((if_neg c_2).trans (if_pos c_3))]
        exact ct_iret cx hP hD hS dX7_openCall_36
      · skip
        refine lv_iconst (v := (-1 : Int32)) hx hb dX7_openCall_21 (by decide) ?_
        rw [show r_X7_openCall i g F = (-1 : Int32) from (if_neg c_1).trans ((if_neg c_2).trans (if_neg c_3))]
        exact ct_iret cx hP hD hS dX7_openCall_22
def g_X7_branchesReached_4 (g : Nat → Int32) (F : Nat → Nat → Int32) : Nat → Int32 → Nat → Int32
  | 0, _, _ => 0
  | fu + 1, x1, j => if (160 : Int32) ≤ (nI j) then x1 else if ((F 3) j) ≤ (0 : Int32) then g_X7_branchesReached_4 g F fu x1 (j + 1) else g_X7_branchesReached_4 g F fu (x1 + (1 : Int32)) (j + 1)
def r_X7_branchesReached (g : Nat → Int32) (F : Nat → Nat → Int32) : Int32 := g_X7_branchesReached_4 g F (160 - 0 + 1) (0 : Int32) 0
set_option maxHeartbeats 4000000 in
set_option maxRecDepth 100000 in
theorem lp_X7_branchesReached_4 {p : Program} {l : Launch} {e : Env} {s : State} {m : MethodId} {below : List Frame} {meth : Method} {c : Code} {D : va_G} {cyI cyZ : ClassId} {A : Nat → Prop} {av : Array Value} (cx : CX p s m meth c D cyI cyZ A yX7_branchesReached cX7_branchesReached 3 (some .int) av) (h : Nat) (a0 : Nat) (a1 : Nat) (a2 : Nat) (a3 : Nat) (g : Nat → Int32) (F : Nat → Nat → Int32)  : ∀ (fu : Nat) (x1 : Int32) (j : Nat), j ≤ 160 → 160 - j < fu → ∀ (H : Heap) (locs : List Loc) (ls : Array Slot), va_P D vwCl [(h, .inr (7, [.ref a0, .ref a1, .ref a2, .ref a3, .int (g 4), .int (g 5), .int (g 6), .int (g 7), .int (g 8), .int (g 9), .int (g 10), .int (g 11)])), (a0, .inl (cyI, 8, .inl (F 0))), (a1, .inl (cyI, 16, .inl (F 1))), (a2, .inl (cyI, 8, .inl (F 2))), (a3, .inl (cyI, 160, .inl (F 3)))] H → va_D A [(h, .inr (7, [.ref a0, .ref a1, .ref a2, .ref a3, .int (g 4), .int (g 5), .int (g 6), .int (g 7), .int (g 8), .int (g 9), .int (g 10), .int (g 11)])), (a0, .inl (cyI, 8, .inl (F 0))), (a1, .inl (cyI, 16, .inl (F 1))), (a2, .inl (cyI, 8, .inl (F 2))), (a3, .inl (cyI, 160, .inl (F 3)))] → va_S A s.heap H locs → lv_has ls 3 [(0, .ref h), (1, .int x1), (2, .int (nI j))] → W p l e ({ frames := 0, cells := 0, slots := 0, locals := 0 }) s m av below meth c H locs 0 0 (MQ below (QX D A (some (.int (g_X7_branchesReached_4 g F fu x1 j))) [(h, .inr (7, [.ref a0, .ref a1, .ref a2, .ref a3, .int (g 4), .int (g 5), .int (g 6), .int (g 7), .int (g 8), .int (g 9), .int (g 10), .int (g 11)])), (a0, .inl (cyI, 8, .inl (F 0))), (a1, .inl (cyI, 16, .inl (F 1))), (a2, .inl (cyI, 8, .inl (F 2))), (a3, .inl (cyI, 160, .inl (F 3)))]) av s 0 0 A) (F0 m 4 ls []) := by
  obtain ⟨hx, hb, -⟩ := id cx
  intro fu
  induction fu with
  | zero =>
    intro x1 j hj hmu
    exact absurd hmu (Nat.not_lt_zero _)
  | succ fu ih =>
    intro x1 j hj hmu H locs ls hP hD hS hl
    refine lv_iload_n hx hb dX7_branchesReached_4 rfl (lv_at hl 2 rfl) ?_
    refine lv_sipush (v := (160 : Int32)) hx hb dX7_branchesReached_5 (by decide) ?_
    refine lv_icmp_ge (tgt := 29) hx hb dX7_branchesReached_8 (by decide) (fun c_3 => ?_) (fun c_3 => ?_)
    · skip
      refine lv_iload_n hx hb dX7_branchesReached_29 rfl (lv_at hl 1 rfl) ?_
      rw [show g_X7_branchesReached_4 g F (fu + 1) x1 j = x1 from if_pos c_3]
      exact ct_iret cx hP hD hS dX7_branchesReached_30
    · skip
      refine lv_aload_n hx hb dX7_branchesReached_11 rfl (lv_at hl 0 rfl) ?_
      refine ct_get (v := .ref a3) cx hP 0 rfl rfl bwX7 3 rfl mm_56 rfl dX7_branchesReached_12 ?_
      refine lv_iload_n hx hb dX7_branchesReached_15 rfl (lv_at hl 2 rfl) ?_
      refine ct_iald cx hP 4 rfl (vp_in_nI (nI_ltN (N := 160) ‹_› hj) (by omega)) dX7_branchesReached_16 ?_
      rw [nI_clamp (show j < 2 ^ 31 by omega)]
      refine lv_if_le (tgt := 23) hx hb dX7_branchesReached_17 (by decide) (fun c_4 => ?_) (fun c_4 => ?_)
      · skip
        refine lv_iinc (v := nI (j + 1)) (lv' := [(2, .int (nI (j + 1))), (0, .ref h), (1, .int x1)]) hx hb dX7_branchesReached_23 hl (k := 2) rfl (nI_1 j) (by decide) rfl (fun ls hl => ?_)
        refine lv_goto (tgt := 4) hx hb dX7_branchesReached_26 (by decide) ?_
        rw [show g_X7_branchesReached_4 g F (fu + 1) x1 j = g_X7_branchesReached_4 g F fu x1 (j + 1) from (if_neg c_3).trans (if_pos c_4)]
        exact ih x1 (j + 1) (by have := nI_ltN (N := 160) ‹_› hj; omega) (by have := nI_ltN (N := 160) ‹_› hj; omega) _ _ _ hP hD hS (lv_sub hl [1, 2, 0] rfl)
      · skip
        refine lv_iinc (v := x1 + (1 : Int32)) (lv' := [(1, .int (x1 + (1 : Int32))), (0, .ref h), (2, .int (nI j))]) hx hb dX7_branchesReached_20 hl (k := 1) rfl rfl (by decide) rfl (fun ls hl => ?_)
        refine lv_iinc (v := nI (j + 1)) (lv' := [(2, .int (nI (j + 1))), (1, .int (x1 + (1 : Int32))), (0, .ref h)]) hx hb dX7_branchesReached_23 hl (k := 2) rfl (nI_1 j) (by decide) rfl (fun ls hl => ?_)
        refine lv_goto (tgt := 4) hx hb dX7_branchesReached_26 (by decide) ?_
        rw [show g_X7_branchesReached_4 g F (fu + 1) x1 j = g_X7_branchesReached_4 g F fu (x1 + (1 : Int32)) (j + 1) from (if_neg c_3).trans (if_neg c_4)]
        exact ih (x1 + (1 : Int32)) (j + 1) (by have := nI_ltN (N := 160) ‹_› hj; omega) (by have := nI_ltN (N := 160) ‹_› hj; omega) _ _ _ hP hD hS (lv_sub hl [2, 1, 0] rfl)
set_option maxHeartbeats 4000000 in
set_option maxRecDepth 100000 in
theorem c_X7_branchesReached (l : Launch) (D : va_G) (cyI cyZ : ClassId) (h : Nat) (a0 : Nat) (a1 : Nat) (a2 : Nat) (a3 : Nat) (g : Nat → Int32) (F : Nat → Nat → Int32)  : CT l D cyI cyZ yX7_branchesReached cX7_branchesReached 3 (some .int) ({ frames := 0, cells := 0, slots := 0, locals := 0 }) [.ref h] [(h, .inr (7, [.ref a0, .ref a1, .ref a2, .ref a3, .int (g 4), .int (g 5), .int (g 6), .int (g 7), .int (g 8), .int (g 9), .int (g 10), .int (g 11)])), (a0, .inl (cyI, 8, .inl (F 0))), (a1, .inl (cyI, 16, .inl (F 1))), (a2, .inl (cyI, 8, .inl (F 2))), (a3, .inl (cyI, 160, .inl (F 3)))] (some (.int (r_X7_branchesReached g F))) [(h, .inr (7, [.ref a0, .ref a1, .ref a2, .ref a3, .int (g 4), .int (g 5), .int (g 6), .int (g 7), .int (g 8), .int (g 9), .int (g 10), .int (g 11)])), (a0, .inl (cyI, 8, .inl (F 0))), (a1, .inl (cyI, 16, .inl (F 1))), (a2, .inl (cyI, 8, .inl (F 2))), (a3, .inl (cyI, 160, .inl (F 3)))] := by
  refine ct_intro (by decide) (Nat.le_of_ble_eq_true rfl) ?_
  intro p e s m below meth c A ls cx hP hD hS hl
  obtain ⟨hx, hb, -⟩ := id cx
  refine lv_iconst (v := (0 : Int32)) hx hb dX7_branchesReached_0 (by decide) ?_
  refine lv_istore_n (lv' := [(1, .int (0 : Int32)), (0, .ref h)]) hx hb dX7_branchesReached_1 rfl hl (by decide) rfl (fun ls hl => ?_)
  refine lv_iconst (v := (0 : Int32)) hx hb dX7_branchesReached_2 (by decide) ?_
  refine lv_istore_n (lv' := [(2, .int (0 : Int32)), (1, .int (0 : Int32)), (0, .ref h)]) hx hb dX7_branchesReached_3 rfl hl (by decide) rfl (fun ls hl => ?_)
  rw [show r_X7_branchesReached g F = g_X7_branchesReached_4 g F (160 - 0 + 1) (0 : Int32) 0 from rfl]
  exact (lp_X7_branchesReached_4 cx h a0 a1 a2 a3 g F ) (160 - 0 + 1) (0 : Int32) 0 (by omega) (Nat.lt_succ_self _) _ _ _ hP hD hS (lv_sub hl [2, 1, 0] rfl)
def r_X7_reset (g : Nat → Int32) (F : Nat → Nat → Int32) : (Nat → Int32) × (Nat → Nat → Int32) := let u_1 : (Nat → Int32) := r_J7_fill_53178 (0 : Int32) 8 (F 0); let u_2 : (Nat → Int32) := r_J7_fill_53178 (0 : Int32) 16 (F 1); let u_3 : (Nat → Int32) := r_J7_fill_53178 (0 : Int32) 160 (F 3); (upd (upd (upd (upd (upd (upd g 4 (0 : Int32)) 5 (0 : Int32)) 6 (-1 : Int32)) 8 (0 : Int32)) 9 (0 : Int32)) 11 (1 : Int32), va_up (va_up (va_up (va_up (va_up (va_up F 0 (r_J7_fill_53178 (0 : Int32) 8 (F 0))) 0 u_1) 1 (r_J7_fill_53178 (0 : Int32) 16 (F 1))) 1 u_2) 3 (r_J7_fill_53178 (0 : Int32) 160 (F 3))) 3 u_3)
set_option maxHeartbeats 4000000 in
set_option maxRecDepth 100000 in
theorem c_X7_reset (l : Launch) (D : va_G) (cyI cyZ : ClassId) (h : Nat) (a0 : Nat) (a1 : Nat) (a2 : Nat) (a3 : Nat) (g : Nat → Int32) (F : Nat → Nat → Int32)  : CT l D cyI cyZ yX7_reset cX7_reset 1 none ({ frames := 1, cells := 0, slots := 0, locals := 23 }) [.ref h] [(h, .inr (7, [.ref a0, .ref a1, .ref a2, .ref a3, .int (g 4), .int (g 5), .int (g 6), .int (g 7), .int (g 8), .int (g 9), .int (g 10), .int (g 11)])), (a0, .inl (cyI, 8, .inl (F 0))), (a1, .inl (cyI, 16, .inl (F 1))), (a2, .inl (cyI, 8, .inl (F 2))), (a3, .inl (cyI, 160, .inl (F 3)))] none [(h, .inr (7, [.ref a0, .ref a1, .ref a2, .ref a3, .int (((r_X7_reset g F).1) 4), .int (((r_X7_reset g F).1) 5), .int (((r_X7_reset g F).1) 6), .int (((r_X7_reset g F).1) 7), .int (((r_X7_reset g F).1) 8), .int (((r_X7_reset g F).1) 9), .int (((r_X7_reset g F).1) 10), .int (((r_X7_reset g F).1) 11)])), (a0, .inl (cyI, 8, .inl (((r_X7_reset g F).2) 0))), (a1, .inl (cyI, 16, .inl (((r_X7_reset g F).2) 1))), (a2, .inl (cyI, 8, .inl (((r_X7_reset g F).2) 2))), (a3, .inl (cyI, 160, .inl (((r_X7_reset g F).2) 3)))] := by
  refine ct_intro (by decide) (Nat.le_of_ble_eq_true rfl) ?_
  intro p e s m below meth c A ls cx hP hD hS hl
  obtain ⟨hx, hb, -⟩ := id cx
  refine lv_aload_n hx hb dX7_reset_0 rfl (lv_at hl 0 rfl) ?_
  refine ct_get (v := .ref a0) cx hP 0 rfl rfl bwX7 0 rfl mm_213 rfl dX7_reset_1 ?_
  refine lv_iconst (v := (0 : Int32)) hx hb dX7_reset_4 (by decide) ?_
  refine ct_callS (As := [.ref a0, .int (0 : Int32)]) (rest := []) (st1 := []) (V3 := [(h, .inr (7, [.ref a0, .ref a1, .ref a2, .ref a3, .int (g 4), .int (g 5), .int (g 6), .int (g 7), .int (g 8), .int (g 9), .int (g 10), .int (g 11)])), (a0, .inl (cyI, 8, .inl (r_J7_fill_53178 (0 : Int32) 8 (F 0)))), (a1, .inl (cyI, 16, .inl (F 1))), (a2, .inl (cyI, 8, .inl (F 2))), (a3, .inl (cyI, 160, .inl (F 3)))]) cx (c_J7_fill_53178 l D cyI cyZ a0 (0 : Int32) 8 (F 0) (by decide)) hP hD hS [1] [(false, 0), (true, 0), (false, 2), (false, 3), (false, 4)] ⟨rfl, rfl, rfl⟩ mm_234 mm_140 mm_141 mm_133 dd_J7_fill_53178 rfl hl.1 rfl dX7_reset_5 rfl (fun H locs hP hD hS => ?_)
  obtain ⟨u_1, hu_1⟩ : ∃ z, z = r_J7_fill_53178 (0 : Int32) 8 (F 0) := ⟨_, rfl⟩
  rw [← hu_1] at hP hD
  refine lv_aload_n hx hb dX7_reset_8 rfl (lv_at hl 0 rfl) ?_
  refine ct_get (v := .ref a1) cx hP 0 rfl rfl bwX7 1 rfl mm_214 rfl dX7_reset_9 ?_
  refine lv_iconst (v := (0 : Int32)) hx hb dX7_reset_12 (by decide) ?_
  refine ct_callS (As := [.ref a1, .int (0 : Int32)]) (rest := []) (st1 := []) (V3 := [(h, .inr (7, [.ref a0, .ref a1, .ref a2, .ref a3, .int (g 4), .int (g 5), .int (g 6), .int (g 7), .int (g 8), .int (g 9), .int (g 10), .int (g 11)])), (a0, .inl (cyI, 8, .inl u_1)), (a1, .inl (cyI, 16, .inl (r_J7_fill_53178 (0 : Int32) 16 (F 1)))), (a2, .inl (cyI, 8, .inl (F 2))), (a3, .inl (cyI, 160, .inl (F 3)))]) cx (c_J7_fill_53178 l D cyI cyZ a1 (0 : Int32) 16 (F 1) (by decide)) hP hD hS [2] [(false, 0), (false, 1), (true, 0), (false, 3), (false, 4)] ⟨rfl, rfl, rfl⟩ mm_234 mm_140 mm_141 mm_133 dd_J7_fill_53178 rfl hl.1 rfl dX7_reset_13 rfl (fun H locs hP hD hS => ?_)
  obtain ⟨u_2, hu_2⟩ : ∃ z, z = r_J7_fill_53178 (0 : Int32) 16 (F 1) := ⟨_, rfl⟩
  rw [← hu_2] at hP hD
  refine lv_aload_n hx hb dX7_reset_16 rfl (lv_at hl 0 rfl) ?_
  refine ct_get (v := .ref a3) cx hP 0 rfl rfl bwX7 3 rfl mm_56 rfl dX7_reset_17 ?_
  refine lv_iconst (v := (0 : Int32)) hx hb dX7_reset_20 (by decide) ?_
  refine ct_callS (As := [.ref a3, .int (0 : Int32)]) (rest := []) (st1 := []) (V3 := [(h, .inr (7, [.ref a0, .ref a1, .ref a2, .ref a3, .int (g 4), .int (g 5), .int (g 6), .int (g 7), .int (g 8), .int (g 9), .int (g 10), .int (g 11)])), (a0, .inl (cyI, 8, .inl u_1)), (a1, .inl (cyI, 16, .inl u_2)), (a2, .inl (cyI, 8, .inl (F 2))), (a3, .inl (cyI, 160, .inl (r_J7_fill_53178 (0 : Int32) 160 (F 3))))]) cx (c_J7_fill_53178 l D cyI cyZ a3 (0 : Int32) 160 (F 3) (by decide)) hP hD hS [4] [(false, 0), (false, 1), (false, 2), (false, 3), (true, 0)] ⟨rfl, rfl, rfl⟩ mm_234 mm_140 mm_141 mm_133 dd_J7_fill_53178 rfl hl.1 rfl dX7_reset_21 rfl (fun H locs hP hD hS => ?_)
  obtain ⟨u_3, hu_3⟩ : ∃ z, z = r_J7_fill_53178 (0 : Int32) 160 (F 3) := ⟨_, rfl⟩
  rw [← hu_3] at hP hD
  refine lv_aload_n hx hb dX7_reset_24 rfl (lv_at hl 0 rfl) ?_
  refine lv_iconst (v := (0 : Int32)) hx hb dX7_reset_25 (by decide) ?_
  refine ct_put (V3 := [(h, .inr (7, [.ref a0, .ref a1, .ref a2, .ref a3, .int (0 : Int32), .int (g 5), .int (g 6), .int (g 7), .int (g 8), .int (g 9), .int (g 10), .int (g 11)])), (a0, .inl (cyI, 8, .inl u_1)), (a1, .inl (cyI, 16, .inl u_2)), (a2, .inl (cyI, 8, .inl (F 2))), (a3, .inl (cyI, 160, .inl u_3))]) cx hP hD hS 0 rfl rfl bwX7 tyX7_ok nmX7 4 rfl mm_91 rfl rfl rfl rfl dX7_reset_26 rfl (fun H locs hP hD hS => ?_)
  refine lv_aload_n hx hb dX7_reset_29 rfl (lv_at hl 0 rfl) ?_
  refine lv_iconst (v := (0 : Int32)) hx hb dX7_reset_30 (by decide) ?_
  refine ct_put (V3 := [(h, .inr (7, [.ref a0, .ref a1, .ref a2, .ref a3, .int (0 : Int32), .int (0 : Int32), .int (g 6), .int (g 7), .int (g 8), .int (g 9), .int (g 10), .int (g 11)])), (a0, .inl (cyI, 8, .inl u_1)), (a1, .inl (cyI, 16, .inl u_2)), (a2, .inl (cyI, 8, .inl (F 2))), (a3, .inl (cyI, 160, .inl u_3))]) cx hP hD hS 0 rfl rfl bwX7 tyX7_ok nmX7 5 rfl mm_81 rfl rfl rfl rfl dX7_reset_31 rfl (fun H locs hP hD hS => ?_)
  refine lv_aload_n hx hb dX7_reset_34 rfl (lv_at hl 0 rfl) ?_
  refine lv_iconst (v := (-1 : Int32)) hx hb dX7_reset_35 (by decide) ?_
  refine ct_put (V3 := [(h, .inr (7, [.ref a0, .ref a1, .ref a2, .ref a3, .int (0 : Int32), .int (0 : Int32), .int (-1 : Int32), .int (g 7), .int (g 8), .int (g 9), .int (g 10), .int (g 11)])), (a0, .inl (cyI, 8, .inl u_1)), (a1, .inl (cyI, 16, .inl u_2)), (a2, .inl (cyI, 8, .inl (F 2))), (a3, .inl (cyI, 160, .inl u_3))]) cx hP hD hS 0 rfl rfl bwX7 tyX7_ok nmX7 6 rfl mm_89 rfl rfl rfl rfl dX7_reset_36 rfl (fun H locs hP hD hS => ?_)
  refine lv_aload_n hx hb dX7_reset_39 rfl (lv_at hl 0 rfl) ?_
  refine lv_iconst (v := (0 : Int32)) hx hb dX7_reset_40 (by decide) ?_
  refine ct_put (V3 := [(h, .inr (7, [.ref a0, .ref a1, .ref a2, .ref a3, .int (0 : Int32), .int (0 : Int32), .int (-1 : Int32), .int (g 7), .int (0 : Int32), .int (g 9), .int (g 10), .int (g 11)])), (a0, .inl (cyI, 8, .inl u_1)), (a1, .inl (cyI, 16, .inl u_2)), (a2, .inl (cyI, 8, .inl (F 2))), (a3, .inl (cyI, 160, .inl u_3))]) cx hP hD hS 0 rfl rfl bwX7 tyX7_ok nmX7 8 rfl mm_216 rfl rfl rfl rfl dX7_reset_41 rfl (fun H locs hP hD hS => ?_)
  refine lv_aload_n hx hb dX7_reset_44 rfl (lv_at hl 0 rfl) ?_
  refine lv_iconst (v := (0 : Int32)) hx hb dX7_reset_45 (by decide) ?_
  refine ct_put (V3 := [(h, .inr (7, [.ref a0, .ref a1, .ref a2, .ref a3, .int (0 : Int32), .int (0 : Int32), .int (-1 : Int32), .int (g 7), .int (0 : Int32), .int (0 : Int32), .int (g 10), .int (g 11)])), (a0, .inl (cyI, 8, .inl u_1)), (a1, .inl (cyI, 16, .inl u_2)), (a2, .inl (cyI, 8, .inl (F 2))), (a3, .inl (cyI, 160, .inl u_3))]) cx hP hD hS 0 rfl rfl bwX7 tyX7_ok nmX7 9 rfl mm_217 rfl rfl rfl rfl dX7_reset_46 rfl (fun H locs hP hD hS => ?_)
  refine lv_aload_n hx hb dX7_reset_49 rfl (lv_at hl 0 rfl) ?_
  refine lv_iconst (v := (1 : Int32)) hx hb dX7_reset_50 (by decide) ?_
  refine ct_put (V3 := [(h, .inr (7, [.ref a0, .ref a1, .ref a2, .ref a3, .int (0 : Int32), .int (0 : Int32), .int (-1 : Int32), .int (g 7), .int (0 : Int32), .int (0 : Int32), .int (g 10), .int (1 : Int32)])), (a0, .inl (cyI, 8, .inl u_1)), (a1, .inl (cyI, 16, .inl u_2)), (a2, .inl (cyI, 8, .inl (F 2))), (a3, .inl (cyI, 160, .inl u_3))]) cx hP hD hS 0 rfl rfl bwX7 tyX7_ok nmX7 11 rfl mm_219 rfl rfl rfl rfl dX7_reset_51 rfl (fun H locs hP hD hS => ?_)
  rw [show r_X7_reset g F = (upd (upd (upd (upd (upd (upd g 4 (0 : Int32)) 5 (0 : Int32)) 6 (-1 : Int32)) 8 (0 : Int32)) 9 (0 : Int32)) 11 (1 : Int32), va_up (va_up (va_up (va_up (va_up (va_up F 0 (r_J7_fill_53178 (0 : Int32) 8 (F 0))) 0 u_1) 1 (r_J7_fill_53178 (0 : Int32) 16 (F 1))) 1 u_2) 3 (r_J7_fill_53178 (0 : Int32) 160 (F 3))) 3 u_3) from (by subst hu_3; subst hu_2; subst hu_1; exact rfl)]
  dsimp only
  exact ct_vret cx hP hD hS dX7_reset_54
def r_X7_isOn (g : Nat → Int32) (F : Nat → Nat → Int32) (pn : Int32) (pf : Nat → Int32) : Int32 := if (g 11) = (0 : Int32) then (0 : Int32) else if (r_X5_has (g 9) pn pf) = (0 : Int32) then (0 : Int32) else (1 : Int32)
set_option maxHeartbeats 4000000 in
set_option maxRecDepth 100000 in
theorem c_X7_isOn (l : Launch) (D : va_G) (cyI cyZ : ClassId) (h : Nat) (a0 : Nat) (a1 : Nat) (a2 : Nat) (a3 : Nat) (ph : Nat) (pa : Nat) (g : Nat → Int32) (F : Nat → Nat → Int32) (pn : Int32) (pf : Nat → Int32)  : CT l D cyI cyZ yX7_isOn cX7_isOn 2 (some .boolean) ({ frames := 1, cells := 0, slots := 0, locals := 21 }) [.ref h, .ref ph] [(h, .inr (7, [.ref a0, .ref a1, .ref a2, .ref a3, .int (g 4), .int (g 5), .int (g 6), .int (g 7), .int (g 8), .int (g 9), .int (g 10), .int (g 11)])), (a0, .inl (cyI, 8, .inl (F 0))), (a1, .inl (cyI, 16, .inl (F 1))), (a2, .inl (cyI, 8, .inl (F 2))), (a3, .inl (cyI, 160, .inl (F 3))), (ph, .inr (5, [.ref pa, .int pn])), (pa, .inl (cyI, 320, .inl pf))] (some (.int (r_X7_isOn g F pn pf))) [(h, .inr (7, [.ref a0, .ref a1, .ref a2, .ref a3, .int (g 4), .int (g 5), .int (g 6), .int (g 7), .int (g 8), .int (g 9), .int (g 10), .int (g 11)])), (a0, .inl (cyI, 8, .inl (F 0))), (a1, .inl (cyI, 16, .inl (F 1))), (a2, .inl (cyI, 8, .inl (F 2))), (a3, .inl (cyI, 160, .inl (F 3))), (ph, .inr (5, [.ref pa, .int pn])), (pa, .inl (cyI, 320, .inl pf))] := by
  refine ct_intro (by decide) (Nat.le_of_ble_eq_true rfl) ?_
  intro p e s m below meth c A ls cx hP hD hS hl
  obtain ⟨hx, hb, -⟩ := id cx
  refine lv_aload_n hx hb dX7_isOn_0 rfl (lv_at hl 0 rfl) ?_
  refine ct_get (v := .int (g 11)) cx hP 0 rfl rfl bwX7 11 rfl mm_219 rfl dX7_isOn_1 ?_
  refine lv_if_eq (tgt := 22) hx hb dX7_isOn_4 (by decide) (fun c_1 => ?_) (fun c_1 => ?_)
  · skip
    refine lv_iconst (v := (0 : Int32)) hx hb dX7_isOn_22 (by decide) ?_
    rw [show r_X7_isOn g F pn pf = (0 : Int32) from if_pos c_1]
    exact ct_zret (v := (0 : Int32)) cx hP hD hS rfl dX7_isOn_23
  · skip
    refine lv_aload_n hx hb dX7_isOn_7 rfl (lv_at hl 1 rfl) ?_
    refine lv_aload_n hx hb dX7_isOn_8 rfl (lv_at hl 0 rfl) ?_
    refine ct_get (v := .int (g 9)) cx hP 0 rfl rfl bwX7 9 rfl mm_217 rfl dX7_isOn_9 ?_
    refine ct_callV (As := [.int (g 9)]) (rest := []) (st1 := [.int (r_X5_has (g 9) pn pf)]) (V3 := [(h, .inr (7, [.ref a0, .ref a1, .ref a2, .ref a3, .int (g 4), .int (g 5), .int (g 6), .int (g 7), .int (g 8), .int (g 9), .int (g 10), .int (g 11)])), (a0, .inl (cyI, 8, .inl (F 0))), (a1, .inl (cyI, 16, .inl (F 1))), (a2, .inl (cyI, 8, .inl (F 2))), (a3, .inl (cyI, 160, .inl (F 3))), (ph, .inr (5, [.ref pa, .int pn])), (pa, .inl (cyI, 320, .inl pf))]) cx (c_X5_has l D cyI cyZ ph pa (g 9) pn pf) hP hD hS [5, 6] [(false, 0), (false, 1), (false, 2), (false, 3), (false, 4), (true, 0), (true, 1)] ⟨rfl, rfl, rfl⟩ rfl rfl mm_238 mm_239 mm_240 mm_241 mm_235 dd_X5_has rfl hl.1 rfl dX7_isOn_12 rfl (fun H locs hP hD hS => ?_)
    refine lv_if_eq (tgt := 22) hx hb dX7_isOn_15 (by decide) (fun c_2 => ?_) (fun c_2 => ?_)
    · skip
      refine lv_iconst (v := (0 : Int32)) hx hb dX7_isOn_22 (by decide) ?_
      rw [show r_X7_isOn g F pn pf = (0 : Int32) from (if_neg c_1).trans (if_pos c_2)]
      exact ct_zret (v := (0 : Int32)) cx hP hD hS rfl dX7_isOn_23
    · skip
      refine lv_iconst (v := (1 : Int32)) hx hb dX7_isOn_18 (by decide) ?_
      refine lv_goto (tgt := 23) hx hb dX7_isOn_19 (by decide) ?_
      rw [show r_X7_isOn g F pn pf = (1 : Int32) from (if_neg c_1).trans (if_neg c_2)]
      exact ct_zret (v := (1 : Int32)) cx hP hD hS rfl dX7_isOn_23
def r_X7_fail (kind : Int32) (g : Nat → Int32) (F : Nat → Nat → Int32) : (Nat → Int32) := upd (upd (upd g 5 kind) 6 (g 9)) 11 (0 : Int32)
set_option maxHeartbeats 4000000 in
set_option maxRecDepth 100000 in
theorem c_X7_fail (l : Launch) (D : va_G) (cyI cyZ : ClassId) (h : Nat) (a0 : Nat) (a1 : Nat) (a2 : Nat) (a3 : Nat) (kind : Int32) (g : Nat → Int32) (F : Nat → Nat → Int32)  : CT l D cyI cyZ yX7_fail cX7_fail 2 none ({ frames := 0, cells := 0, slots := 0, locals := 0 }) [.ref h, .int kind] [(h, .inr (7, [.ref a0, .ref a1, .ref a2, .ref a3, .int (g 4), .int (g 5), .int (g 6), .int (g 7), .int (g 8), .int (g 9), .int (g 10), .int (g 11)])), (a0, .inl (cyI, 8, .inl (F 0))), (a1, .inl (cyI, 16, .inl (F 1))), (a2, .inl (cyI, 8, .inl (F 2))), (a3, .inl (cyI, 160, .inl (F 3)))] none [(h, .inr (7, [.ref a0, .ref a1, .ref a2, .ref a3, .int ((r_X7_fail kind g F) 4), .int ((r_X7_fail kind g F) 5), .int ((r_X7_fail kind g F) 6), .int ((r_X7_fail kind g F) 7), .int ((r_X7_fail kind g F) 8), .int ((r_X7_fail kind g F) 9), .int ((r_X7_fail kind g F) 10), .int ((r_X7_fail kind g F) 11)])), (a0, .inl (cyI, 8, .inl (F 0))), (a1, .inl (cyI, 16, .inl (F 1))), (a2, .inl (cyI, 8, .inl (F 2))), (a3, .inl (cyI, 160, .inl (F 3)))] := by
  refine ct_intro (by decide) (Nat.le_of_ble_eq_true rfl) ?_
  intro p e s m below meth c A ls cx hP hD hS hl
  obtain ⟨hx, hb, -⟩ := id cx
  refine lv_aload_n hx hb dX7_fail_0 rfl (lv_at hl 0 rfl) ?_
  refine lv_iload_n hx hb dX7_fail_1 rfl (lv_at hl 1 rfl) ?_
  refine ct_put (V3 := [(h, .inr (7, [.ref a0, .ref a1, .ref a2, .ref a3, .int (g 4), .int kind, .int (g 6), .int (g 7), .int (g 8), .int (g 9), .int (g 10), .int (g 11)])), (a0, .inl (cyI, 8, .inl (F 0))), (a1, .inl (cyI, 16, .inl (F 1))), (a2, .inl (cyI, 8, .inl (F 2))), (a3, .inl (cyI, 160, .inl (F 3)))]) cx hP hD hS 0 rfl rfl bwX7 tyX7_ok nmX7 5 rfl mm_81 rfl rfl rfl rfl dX7_fail_2 rfl (fun H locs hP hD hS => ?_)
  refine lv_aload_n hx hb dX7_fail_5 rfl (lv_at hl 0 rfl) ?_
  refine lv_aload_n hx hb dX7_fail_6 rfl (lv_at hl 0 rfl) ?_
  refine ct_get (v := .int (g 9)) cx hP 0 rfl rfl bwX7 9 rfl mm_217 rfl dX7_fail_7 ?_
  refine ct_put (V3 := [(h, .inr (7, [.ref a0, .ref a1, .ref a2, .ref a3, .int (g 4), .int kind, .int (g 9), .int (g 7), .int (g 8), .int (g 9), .int (g 10), .int (g 11)])), (a0, .inl (cyI, 8, .inl (F 0))), (a1, .inl (cyI, 16, .inl (F 1))), (a2, .inl (cyI, 8, .inl (F 2))), (a3, .inl (cyI, 160, .inl (F 3)))]) cx hP hD hS 0 rfl rfl bwX7 tyX7_ok nmX7 6 rfl mm_89 rfl rfl rfl rfl dX7_fail_10 rfl (fun H locs hP hD hS => ?_)
  refine lv_aload_n hx hb dX7_fail_13 rfl (lv_at hl 0 rfl) ?_
  refine lv_iconst (v := (0 : Int32)) hx hb dX7_fail_14 (by decide) ?_
  refine ct_put (V3 := [(h, .inr (7, [.ref a0, .ref a1, .ref a2, .ref a3, .int (g 4), .int kind, .int (g 9), .int (g 7), .int (g 8), .int (g 9), .int (g 10), .int (0 : Int32)])), (a0, .inl (cyI, 8, .inl (F 0))), (a1, .inl (cyI, 16, .inl (F 1))), (a2, .inl (cyI, 8, .inl (F 2))), (a3, .inl (cyI, 160, .inl (F 3)))]) cx hP hD hS 0 rfl rfl bwX7 tyX7_ok nmX7 11 rfl mm_219 rfl rfl rfl rfl dX7_fail_15 rfl (fun H locs hP hD hS => ?_)
  rw [show r_X7_fail kind g F = upd (upd (upd g 5 kind) 6 (g 9)) 11 (0 : Int32) from rfl]
  exact ct_vret cx hP hD hS dX7_fail_18
def r_X7_put (r : Int32) (num : Int32) (g : Nat → Int32) (F : Nat → Nat → Int32) : (Nat → Nat → Int32) := if r < (0 : Int32) then F else if (8 : Int32) ≤ r then F else va_up F 0 (upd (F 0) r.toNatClampNeg num)
set_option maxHeartbeats 4000000 in
set_option maxRecDepth 100000 in
theorem c_X7_put (l : Launch) (D : va_G) (cyI cyZ : ClassId) (h : Nat) (a0 : Nat) (a1 : Nat) (a2 : Nat) (a3 : Nat) (r : Int32) (num : Int32) (g : Nat → Int32) (F : Nat → Nat → Int32)  : CT l D cyI cyZ yX7_put cX7_put 3 none ({ frames := 0, cells := 0, slots := 0, locals := 0 }) [.ref h, .int r, .int num] [(h, .inr (7, [.ref a0, .ref a1, .ref a2, .ref a3, .int (g 4), .int (g 5), .int (g 6), .int (g 7), .int (g 8), .int (g 9), .int (g 10), .int (g 11)])), (a0, .inl (cyI, 8, .inl (F 0))), (a1, .inl (cyI, 16, .inl (F 1))), (a2, .inl (cyI, 8, .inl (F 2))), (a3, .inl (cyI, 160, .inl (F 3)))] none [(h, .inr (7, [.ref a0, .ref a1, .ref a2, .ref a3, .int (g 4), .int (g 5), .int (g 6), .int (g 7), .int (g 8), .int (g 9), .int (g 10), .int (g 11)])), (a0, .inl (cyI, 8, .inl ((r_X7_put r num g F) 0))), (a1, .inl (cyI, 16, .inl ((r_X7_put r num g F) 1))), (a2, .inl (cyI, 8, .inl ((r_X7_put r num g F) 2))), (a3, .inl (cyI, 160, .inl ((r_X7_put r num g F) 3)))] := by
  refine ct_intro (by decide) (Nat.le_of_ble_eq_true rfl) ?_
  intro p e s m below meth c A ls cx hP hD hS hl
  obtain ⟨hx, hb, -⟩ := id cx
  refine lv_iload_n hx hb dX7_put_0 rfl (lv_at hl 1 rfl) ?_
  refine lv_if_lt (tgt := 17) hx hb dX7_put_1 (by decide) (fun c_1 => ?_) (fun c_1 => ?_)
  · skip
    rw [show r_X7_put r num g F = F from if_pos c_1]
    exact ct_vret cx hP hD hS dX7_put_17
  · skip
    refine lv_iload_n hx hb dX7_put_4 rfl (lv_at hl 1 rfl) ?_
    refine lv_bipush (v := (8 : Int32)) hx hb dX7_put_5 (by decide) ?_
    refine lv_icmp_ge (tgt := 17) hx hb dX7_put_7 (by decide) (fun c_2 => ?_) (fun c_2 => ?_)
    · skip
      rw [show r_X7_put r num g F = F from (if_neg c_1).trans (if_pos c_2)]
      exact ct_vret cx hP hD hS dX7_put_17
    · skip
      refine lv_aload_n hx hb dX7_put_10 rfl (lv_at hl 0 rfl) ?_
      refine ct_get (v := .ref a0) cx hP 0 rfl rfl bwX7 0 rfl mm_213 rfl dX7_put_11 ?_
      refine lv_iload_n hx hb dX7_put_14 rfl (lv_at hl 1 rfl) ?_
      refine lv_iload_n hx hb dX7_put_15 rfl (lv_at hl 2 rfl) ?_
      refine ct_iast (V3 := [(h, .inr (7, [.ref a0, .ref a1, .ref a2, .ref a3, .int (g 4), .int (g 5), .int (g 6), .int (g 7), .int (g 8), .int (g 9), .int (g 10), .int (g 11)])), (a0, .inl (cyI, 8, .inl (upd (F 0) r.toNatClampNeg num))), (a1, .inl (cyI, 16, .inl (F 1))), (a2, .inl (cyI, 8, .inl (F 2))), (a3, .inl (cyI, 160, .inl (F 3)))]) cx hP hD hS 1 rfl (vp_of (Or.inl c_1) (Or.inl c_2) rfl) dX7_put_16 rfl (fun H locs hP hD hS => ?_)
      rw [show r_X7_put r num g F = va_up F 0 (upd (F 0) r.toNatClampNeg num) from (if_neg c_1).trans (if_neg c_2)]
      exact ct_vret cx hP hD hS dX7_put_17
def r_X7_reckon (op : Int32) (va : Int32) (vb : Int32) (g : Nat → Int32) (F : Nat → Nat → Int32) : (Nat → Int32) × (Nat → Nat → Int32) := if op = (0 : Int32) then (let u_2 : (Nat → Nat → Int32) := r_X7_put va vb g F; (g, u_2)) else if op = (1 : Int32) then (let u_4 : (Nat → Nat → Int32) := r_X7_put va (r_X7_value vb g F) g F; (g, u_4)) else if op = (2 : Int32) then (let u_6 : (Nat → Nat → Int32) := r_X7_put va ((r_X7_value va g F) + (r_X7_value vb g F)) g F; (g, u_6)) else if op = (3 : Int32) then (let u_8 : (Nat → Nat → Int32) := r_X7_put va ((r_X7_value va g F) - (r_X7_value vb g F)) g F; (g, u_8)) else if op = (4 : Int32) then (let u_10 : (Nat → Nat → Int32) := r_X7_put va ((r_X7_value va g F) * (r_X7_value vb g F)) g F; (g, u_10)) else if (r_X7_value vb g F) = (0 : Int32) then (let u_13 : (Nat → Int32) := r_X7_fail (1 : Int32) g F; (u_13, F)) else let u_12 : (Nat → Nat → Int32) := r_X7_put va ((r_X7_value va g F) / (r_X7_value vb g F)) g F; (g, u_12)
set_option maxHeartbeats 4000000 in
set_option maxRecDepth 100000 in
theorem c_X7_reckon (l : Launch) (D : va_G) (cyI cyZ : ClassId) (h : Nat) (a0 : Nat) (a1 : Nat) (a2 : Nat) (a3 : Nat) (op : Int32) (va : Int32) (vb : Int32) (g : Nat → Int32) (F : Nat → Nat → Int32)  : CT l D cyI cyZ yX7_reckon cX7_reckon 6 none ({ frames := 1, cells := 0, slots := 0, locals := 22 }) [.ref h, .int op, .int va, .int vb] [(h, .inr (7, [.ref a0, .ref a1, .ref a2, .ref a3, .int (g 4), .int (g 5), .int (g 6), .int (g 7), .int (g 8), .int (g 9), .int (g 10), .int (g 11)])), (a0, .inl (cyI, 8, .inl (F 0))), (a1, .inl (cyI, 16, .inl (F 1))), (a2, .inl (cyI, 8, .inl (F 2))), (a3, .inl (cyI, 160, .inl (F 3)))] none [(h, .inr (7, [.ref a0, .ref a1, .ref a2, .ref a3, .int (((r_X7_reckon op va vb g F).1) 4), .int (((r_X7_reckon op va vb g F).1) 5), .int (((r_X7_reckon op va vb g F).1) 6), .int (((r_X7_reckon op va vb g F).1) 7), .int (((r_X7_reckon op va vb g F).1) 8), .int (((r_X7_reckon op va vb g F).1) 9), .int (((r_X7_reckon op va vb g F).1) 10), .int (((r_X7_reckon op va vb g F).1) 11)])), (a0, .inl (cyI, 8, .inl (((r_X7_reckon op va vb g F).2) 0))), (a1, .inl (cyI, 16, .inl (((r_X7_reckon op va vb g F).2) 1))), (a2, .inl (cyI, 8, .inl (((r_X7_reckon op va vb g F).2) 2))), (a3, .inl (cyI, 160, .inl (((r_X7_reckon op va vb g F).2) 3)))] := by
  refine ct_intro (by decide) (Nat.le_of_ble_eq_true rfl) ?_
  intro p e s m below meth c A ls cx hP hD hS hl
  obtain ⟨hx, hb, -⟩ := id cx
  refine lv_aload_n hx hb dX7_reckon_0 rfl (lv_at hl 0 rfl) ?_
  refine lv_iload_n hx hb dX7_reckon_1 rfl (lv_at hl 2 rfl) ?_
  refine ct_callV (As := [.int va]) (rest := []) (st1 := [.int (r_X7_value va g F)]) (V3 := [(h, .inr (7, [.ref a0, .ref a1, .ref a2, .ref a3, .int (g 4), .int (g 5), .int (g 6), .int (g 7), .int (g 8), .int (g 9), .int (g 10), .int (g 11)])), (a0, .inl (cyI, 8, .inl (F 0))), (a1, .inl (cyI, 16, .inl (F 1))), (a2, .inl (cyI, 8, .inl (F 2))), (a3, .inl (cyI, 160, .inl (F 3)))]) cx (c_X7_value l D cyI cyZ h a0 a1 a2 a3 va g F) hP hD hS [0, 1, 2, 3, 4] [(true, 0), (true, 1), (true, 2), (true, 3), (true, 4)] ⟨rfl, rfl, rfl⟩ rfl rfl mm_252 mm_253 mm_254 mm_42 mm_248 dd_X7_value rfl hl.1 rfl dX7_reckon_2 rfl (fun H locs hP hD hS => ?_)
  refine lv_istore (lv' := [(4, .int (r_X7_value va g F)), (0, .ref h), (1, .int op), (2, .int va), (3, .int vb)]) hx hb dX7_reckon_5 hl (by decide) rfl (fun ls hl => ?_)
  refine lv_aload_n hx hb dX7_reckon_7 rfl (lv_at hl 1 rfl) ?_
  refine lv_iload_n hx hb dX7_reckon_8 rfl (lv_at hl 4 rfl) ?_
  refine ct_callV (As := [.int vb]) (rest := []) (st1 := [.int (r_X7_value vb g F)]) (V3 := [(h, .inr (7, [.ref a0, .ref a1, .ref a2, .ref a3, .int (g 4), .int (g 5), .int (g 6), .int (g 7), .int (g 8), .int (g 9), .int (g 10), .int (g 11)])), (a0, .inl (cyI, 8, .inl (F 0))), (a1, .inl (cyI, 16, .inl (F 1))), (a2, .inl (cyI, 8, .inl (F 2))), (a3, .inl (cyI, 160, .inl (F 3)))]) cx (c_X7_value l D cyI cyZ h a0 a1 a2 a3 vb g F) hP hD hS [0, 1, 2, 3, 4] [(true, 0), (true, 1), (true, 2), (true, 3), (true, 4)] ⟨rfl, rfl, rfl⟩ rfl rfl mm_252 mm_253 mm_254 mm_42 mm_248 dd_X7_value rfl hl.1 rfl dX7_reckon_9 rfl (fun H locs hP hD hS => ?_)
  refine lv_istore (lv' := [(5, .int (r_X7_value vb g F)), (4, .int (r_X7_value va g F)), (0, .ref h), (1, .int op), (2, .int va), (3, .int vb)]) hx hb dX7_reckon_12 hl (by decide) rfl (fun ls hl => ?_)
  refine lv_iload_n hx hb dX7_reckon_14 rfl (lv_at hl 3 rfl) ?_
  by_cases c_1 : op = (0 : Int32)
  · refine lv_tableIn (off := 33) (tgt := 48) hx hb dX7_reckon_15 (by rw [c_1]; decide) (by rw [c_1]; decide) (by rw [c_1]; rfl) (by decide) ?_
    refine lv_aload_n hx hb dX7_reckon_48 rfl (lv_at hl 2 rfl) ?_
    refine lv_iload_n hx hb dX7_reckon_49 rfl (lv_at hl 4 rfl) ?_
    refine lv_iload_n hx hb dX7_reckon_50 rfl (lv_at hl 5 rfl) ?_
    refine ct_callV (As := [.int va, .int vb]) (rest := []) (st1 := []) (V3 := [(h, .inr (7, [.ref a0, .ref a1, .ref a2, .ref a3, .int (g 4), .int (g 5), .int (g 6), .int (g 7), .int (g 8), .int (g 9), .int (g 10), .int (g 11)])), (a0, .inl (cyI, 8, .inl ((r_X7_put va vb g F) 0))), (a1, .inl (cyI, 16, .inl ((r_X7_put va vb g F) 1))), (a2, .inl (cyI, 8, .inl ((r_X7_put va vb g F) 2))), (a3, .inl (cyI, 160, .inl ((r_X7_put va vb g F) 3)))]) cx (c_X7_put l D cyI cyZ h a0 a1 a2 a3 va vb g F) hP hD hS [0, 1, 2, 3, 4] [(true, 0), (true, 1), (true, 2), (true, 3), (true, 4)] ⟨rfl, rfl, rfl⟩ rfl rfl mm_255 mm_256 mm_257 mm_42 mm_249 dd_X7_put rfl hl.1 rfl dX7_reckon_51 rfl (fun H locs hP hD hS => ?_)
    obtain ⟨u_2, hu_2⟩ : ∃ z, z = r_X7_put va vb g F := ⟨_, rfl⟩
    rw [← hu_2] at hP hD
    refine lv_goto (tgt := 129) hx hb dX7_reckon_54 (by decide) ?_
    rw [show r_X7_reckon op va vb g F = (g, u_2) from (by subst hu_2; exact if_pos c_1)]
    dsimp only
    exact ct_vret cx hP hD hS dX7_reckon_129
  · skip
    by_cases c_3 : op = (1 : Int32)
    · refine lv_tableIn (off := 42) (tgt := 57) hx hb dX7_reckon_15 (by rw [c_3]; decide) (by rw [c_3]; decide) (by rw [c_3]; rfl) (by decide) ?_
      refine lv_aload_n hx hb dX7_reckon_57 rfl (lv_at hl 2 rfl) ?_
      refine lv_iload_n hx hb dX7_reckon_58 rfl (lv_at hl 4 rfl) ?_
      refine lv_iload hx hb dX7_reckon_59 (lv_at hl 0 rfl) ?_
      refine ct_callV (As := [.int va, .int (r_X7_value vb g F)]) (rest := []) (st1 := []) (V3 := [(h, .inr (7, [.ref a0, .ref a1, .ref a2, .ref a3, .int (g 4), .int (g 5), .int (g 6), .int (g 7), .int (g 8), .int (g 9), .int (g 10), .int (g 11)])), (a0, .inl (cyI, 8, .inl ((r_X7_put va (r_X7_value vb g F) g F) 0))), (a1, .inl (cyI, 16, .inl ((r_X7_put va (r_X7_value vb g F) g F) 1))), (a2, .inl (cyI, 8, .inl ((r_X7_put va (r_X7_value vb g F) g F) 2))), (a3, .inl (cyI, 160, .inl ((r_X7_put va (r_X7_value vb g F) g F) 3)))]) cx (c_X7_put l D cyI cyZ h a0 a1 a2 a3 va (r_X7_value vb g F) g F) hP hD hS [0, 1, 2, 3, 4] [(true, 0), (true, 1), (true, 2), (true, 3), (true, 4)] ⟨rfl, rfl, rfl⟩ rfl rfl mm_255 mm_256 mm_257 mm_42 mm_249 dd_X7_put rfl hl.1 rfl dX7_reckon_61 rfl (fun H locs hP hD hS => ?_)
      obtain ⟨u_4, hu_4⟩ : ∃ z, z = r_X7_put va (r_X7_value vb g F) g F := ⟨_, rfl⟩
      rw [← hu_4] at hP hD
      refine lv_goto (tgt := 129) hx hb dX7_reckon_64 (by decide) ?_
      rw [show r_X7_reckon op va vb g F = (g, u_4) from (by subst hu_4; exact (if_neg c_1).trans (if_pos c_3))]
      dsimp only
      exact ct_vret cx hP hD hS dX7_reckon_129
    · skip
      by_cases c_5 : op = (2 : Int32)
      · refine lv_tableIn (off := 52) (tgt := 67) hx hb dX7_reckon_15 (by rw [c_5]; decide) (by rw [c_5]; decide) (by rw [c_5]; rfl) (by decide) ?_
        refine lv_aload_n hx hb dX7_reckon_67 rfl (lv_at hl 2 rfl) ?_
        refine lv_iload_n hx hb dX7_reckon_68 rfl (lv_at hl 4 rfl) ?_
        refine lv_iload hx hb dX7_reckon_69 (lv_at hl 1 rfl) ?_
        refine lv_iload hx hb dX7_reckon_71 (lv_at hl 0 rfl) ?_
        refine lv_iadd hx hb dX7_reckon_73 ?_
        refine ct_callV (As := [.int va, .int ((r_X7_value va g F) + (r_X7_value vb g F))]) (rest := []) (st1 := []) (V3 := [(h, .inr (7, [.ref a0, .ref a1, .ref a2, .ref a3, .int (g 4), .int (g 5), .int (g 6), .int (g 7), .int (g 8), .int (g 9), .int (g 10), .int (g 11)])), (a0, .inl (cyI, 8, .inl ((r_X7_put va ((r_X7_value va g F) + (r_X7_value vb g F)) g F) 0))), (a1, .inl (cyI, 16, .inl ((r_X7_put va ((r_X7_value va g F) + (r_X7_value vb g F)) g F) 1))), (a2, .inl (cyI, 8, .inl ((r_X7_put va ((r_X7_value va g F) + (r_X7_value vb g F)) g F) 2))), (a3, .inl (cyI, 160, .inl ((r_X7_put va ((r_X7_value va g F) + (r_X7_value vb g F)) g F) 3)))]) cx (c_X7_put l D cyI cyZ h a0 a1 a2 a3 va ((r_X7_value va g F) + (r_X7_value vb g F)) g F) hP hD hS [0, 1, 2, 3, 4] [(true, 0), (true, 1), (true, 2), (true, 3), (true, 4)] ⟨rfl, rfl, rfl⟩ rfl rfl mm_255 mm_256 mm_257 mm_42 mm_249 dd_X7_put rfl hl.1 rfl dX7_reckon_74 rfl (fun H locs hP hD hS => ?_)
        obtain ⟨u_6, hu_6⟩ : ∃ z, z = r_X7_put va ((r_X7_value va g F) + (r_X7_value vb g F)) g F := ⟨_, rfl⟩
        rw [← hu_6] at hP hD
        refine lv_goto (tgt := 129) hx hb dX7_reckon_77 (by decide) ?_
        rw [show r_X7_reckon op va vb g F = (g, u_6) from (by subst hu_6; exact (if_neg c_1).trans ((if_neg c_3).trans (if_pos c_5)))]
        dsimp only
        exact ct_vret cx hP hD hS dX7_reckon_129
      · skip
        by_cases c_7 : op = (3 : Int32)
        · refine lv_tableIn (off := 65) (tgt := 80) hx hb dX7_reckon_15 (by rw [c_7]; decide) (by rw [c_7]; decide) (by rw [c_7]; rfl) (by decide) ?_
          refine lv_aload_n hx hb dX7_reckon_80 rfl (lv_at hl 2 rfl) ?_
          refine lv_iload_n hx hb dX7_reckon_81 rfl (lv_at hl 4 rfl) ?_
          refine lv_iload hx hb dX7_reckon_82 (lv_at hl 1 rfl) ?_
          refine lv_iload hx hb dX7_reckon_84 (lv_at hl 0 rfl) ?_
          refine lv_isub hx hb dX7_reckon_86 ?_
          refine ct_callV (As := [.int va, .int ((r_X7_value va g F) - (r_X7_value vb g F))]) (rest := []) (st1 := []) (V3 := [(h, .inr (7, [.ref a0, .ref a1, .ref a2, .ref a3, .int (g 4), .int (g 5), .int (g 6), .int (g 7), .int (g 8), .int (g 9), .int (g 10), .int (g 11)])), (a0, .inl (cyI, 8, .inl ((r_X7_put va ((r_X7_value va g F) - (r_X7_value vb g F)) g F) 0))), (a1, .inl (cyI, 16, .inl ((r_X7_put va ((r_X7_value va g F) - (r_X7_value vb g F)) g F) 1))), (a2, .inl (cyI, 8, .inl ((r_X7_put va ((r_X7_value va g F) - (r_X7_value vb g F)) g F) 2))), (a3, .inl (cyI, 160, .inl ((r_X7_put va ((r_X7_value va g F) - (r_X7_value vb g F)) g F) 3)))]) cx (c_X7_put l D cyI cyZ h a0 a1 a2 a3 va ((r_X7_value va g F) - (r_X7_value vb g F)) g F) hP hD hS [0, 1, 2, 3, 4] [(true, 0), (true, 1), (true, 2), (true, 3), (true, 4)] ⟨rfl, rfl, rfl⟩ rfl rfl mm_255 mm_256 mm_257 mm_42 mm_249 dd_X7_put rfl hl.1 rfl dX7_reckon_87 rfl (fun H locs hP hD hS => ?_)
          obtain ⟨u_8, hu_8⟩ : ∃ z, z = r_X7_put va ((r_X7_value va g F) - (r_X7_value vb g F)) g F := ⟨_, rfl⟩
          rw [← hu_8] at hP hD
          refine lv_goto (tgt := 129) hx hb dX7_reckon_90 (by decide) ?_
          rw [show r_X7_reckon op va vb g F = (g, u_8) from (by subst hu_8; exact (if_neg c_1).trans ((if_neg c_3).trans ((if_neg c_5).trans (if_pos c_7))))]
          dsimp only
          exact ct_vret cx hP hD hS dX7_reckon_129
        · skip
          by_cases c_9 : op = (4 : Int32)
          · refine lv_tableIn (off := 78) (tgt := 93) hx hb dX7_reckon_15 (by rw [c_9]; decide) (by rw [c_9]; decide) (by rw [c_9]; rfl) (by decide) ?_
            refine lv_aload_n hx hb dX7_reckon_93 rfl (lv_at hl 2 rfl) ?_
            refine lv_iload_n hx hb dX7_reckon_94 rfl (lv_at hl 4 rfl) ?_
            refine lv_iload hx hb dX7_reckon_95 (lv_at hl 1 rfl) ?_
            refine lv_iload hx hb dX7_reckon_97 (lv_at hl 0 rfl) ?_
            refine lv_imul hx hb dX7_reckon_99 ?_
            refine ct_callV (As := [.int va, .int ((r_X7_value va g F) * (r_X7_value vb g F))]) (rest := []) (st1 := []) (V3 := [(h, .inr (7, [.ref a0, .ref a1, .ref a2, .ref a3, .int (g 4), .int (g 5), .int (g 6), .int (g 7), .int (g 8), .int (g 9), .int (g 10), .int (g 11)])), (a0, .inl (cyI, 8, .inl ((r_X7_put va ((r_X7_value va g F) * (r_X7_value vb g F)) g F) 0))), (a1, .inl (cyI, 16, .inl ((r_X7_put va ((r_X7_value va g F) * (r_X7_value vb g F)) g F) 1))), (a2, .inl (cyI, 8, .inl ((r_X7_put va ((r_X7_value va g F) * (r_X7_value vb g F)) g F) 2))), (a3, .inl (cyI, 160, .inl ((r_X7_put va ((r_X7_value va g F) * (r_X7_value vb g F)) g F) 3)))]) cx (c_X7_put l D cyI cyZ h a0 a1 a2 a3 va ((r_X7_value va g F) * (r_X7_value vb g F)) g F) hP hD hS [0, 1, 2, 3, 4] [(true, 0), (true, 1), (true, 2), (true, 3), (true, 4)] ⟨rfl, rfl, rfl⟩ rfl rfl mm_255 mm_256 mm_257 mm_42 mm_249 dd_X7_put rfl hl.1 rfl dX7_reckon_100 rfl (fun H locs hP hD hS => ?_)
            obtain ⟨u_10, hu_10⟩ : ∃ z, z = r_X7_put va ((r_X7_value va g F) * (r_X7_value vb g F)) g F := ⟨_, rfl⟩
            rw [← hu_10] at hP hD
            refine lv_goto (tgt := 129) hx hb dX7_reckon_103 (by decide) ?_
            rw [show r_X7_reckon op va vb g F = (g, u_10) from (by subst hu_10; exact (if_neg c_1).trans ((if_neg c_3).trans ((if_neg c_5).trans ((if_neg c_7).trans (if_pos c_9)))))]
            dsimp only
            exact ct_vret cx hP hD hS dX7_reckon_129
          · skip
            have t_0 := lv_neT (a := 0) c_1 rfl
            have t_1 := lv_neT (a := 1) c_3 rfl
            have t_2 := lv_neT (a := 2) c_5 rfl
            have t_3 := lv_neT (a := 3) c_7 rfl
            have t_4 := lv_neT (a := 4) c_9 rfl
            refine lv_tableOut (tgt := 106) hx hb dX7_reckon_15 (by omega) (by decide) ?_
            refine lv_iload hx hb dX7_reckon_106 (lv_at hl 0 rfl) ?_
            refine lv_if_ne (tgt := 119) hx hb dX7_reckon_108 (by decide) (fun c_11 => ?_) (fun c_11 => ?_)
            · skip
              refine lv_aload_n hx hb dX7_reckon_119 rfl (lv_at hl 2 rfl) ?_
              refine lv_iload_n hx hb dX7_reckon_120 rfl (lv_at hl 4 rfl) ?_
              refine lv_iload hx hb dX7_reckon_121 (lv_at hl 1 rfl) ?_
              refine lv_iload hx hb dX7_reckon_123 (lv_at hl 0 rfl) ?_
              refine lv_idiv hx hb dX7_reckon_125 ‹_› ?_
              refine ct_callV (As := [.int va, .int ((r_X7_value va g F) / (r_X7_value vb g F))]) (rest := []) (st1 := []) (V3 := [(h, .inr (7, [.ref a0, .ref a1, .ref a2, .ref a3, .int (g 4), .int (g 5), .int (g 6), .int (g 7), .int (g 8), .int (g 9), .int (g 10), .int (g 11)])), (a0, .inl (cyI, 8, .inl ((r_X7_put va ((r_X7_value va g F) / (r_X7_value vb g F)) g F) 0))), (a1, .inl (cyI, 16, .inl ((r_X7_put va ((r_X7_value va g F) / (r_X7_value vb g F)) g F) 1))), (a2, .inl (cyI, 8, .inl ((r_X7_put va ((r_X7_value va g F) / (r_X7_value vb g F)) g F) 2))), (a3, .inl (cyI, 160, .inl ((r_X7_put va ((r_X7_value va g F) / (r_X7_value vb g F)) g F) 3)))]) cx (c_X7_put l D cyI cyZ h a0 a1 a2 a3 va ((r_X7_value va g F) / (r_X7_value vb g F)) g F) hP hD hS [0, 1, 2, 3, 4] [(true, 0), (true, 1), (true, 2), (true, 3), (true, 4)] ⟨rfl, rfl, rfl⟩ rfl rfl mm_255 mm_256 mm_257 mm_42 mm_249 dd_X7_put rfl hl.1 rfl dX7_reckon_126 rfl (fun H locs hP hD hS => ?_)
              obtain ⟨u_12, hu_12⟩ : ∃ z, z = r_X7_put va ((r_X7_value va g F) / (r_X7_value vb g F)) g F := ⟨_, rfl⟩
              rw [← hu_12] at hP hD
              rw [show r_X7_reckon op va vb g F = (g, u_12) from (by subst hu_12; exact (if_neg c_1).trans ((if_neg c_3).trans ((if_neg c_5).trans ((if_neg c_7).trans ((if_neg c_9).trans (if_neg c_11))))))]
              dsimp only
              exact ct_vret cx hP hD hS dX7_reckon_129
            · skip
              refine lv_aload_n hx hb dX7_reckon_111 rfl (lv_at hl 2 rfl) ?_
              refine lv_iconst (v := (1 : Int32)) hx hb dX7_reckon_112 (by decide) ?_
              refine ct_callV (As := [.int (1 : Int32)]) (rest := []) (st1 := []) (V3 := [(h, .inr (7, [.ref a0, .ref a1, .ref a2, .ref a3, .int ((r_X7_fail (1 : Int32) g F) 4), .int ((r_X7_fail (1 : Int32) g F) 5), .int ((r_X7_fail (1 : Int32) g F) 6), .int ((r_X7_fail (1 : Int32) g F) 7), .int ((r_X7_fail (1 : Int32) g F) 8), .int ((r_X7_fail (1 : Int32) g F) 9), .int ((r_X7_fail (1 : Int32) g F) 10), .int ((r_X7_fail (1 : Int32) g F) 11)])), (a0, .inl (cyI, 8, .inl (F 0))), (a1, .inl (cyI, 16, .inl (F 1))), (a2, .inl (cyI, 8, .inl (F 2))), (a3, .inl (cyI, 160, .inl (F 3)))]) cx (c_X7_fail l D cyI cyZ h a0 a1 a2 a3 (1 : Int32) g F) hP hD hS [0, 1, 2, 3, 4] [(true, 0), (true, 1), (true, 2), (true, 3), (true, 4)] ⟨rfl, rfl, rfl⟩ rfl rfl mm_258 mm_259 mm_260 mm_42 mm_250 dd_X7_fail rfl hl.1 rfl dX7_reckon_113 rfl (fun H locs hP hD hS => ?_)
              obtain ⟨u_13, hu_13⟩ : ∃ z, z = r_X7_fail (1 : Int32) g F := ⟨_, rfl⟩
              rw [← hu_13] at hP hD
              refine lv_goto (tgt := 129) hx hb dX7_reckon_116 (by decide) ?_
              rw [show r_X7_reckon op va vb g F = (u_13, F) from (by subst hu_13; exact (if_neg c_1).trans ((if_neg c_3).trans ((if_neg c_5).trans ((if_neg c_7).trans ((if_neg c_9).trans (if_pos c_11))))))]
              dsimp only
              exact ct_vret cx hP hD hS dX7_reckon_129
def r_X7_readInput (op : Int32) (va : Int32) (vb : Int32) (g : Nat → Int32) (F : Nat → Nat → Int32) (un : Int32) (uf : Nat → Int32) : (Nat → Int32) × (Nat → Nat → Int32) := if op = (6 : Int32) then (if (r_X4_has (g 8) un uf) = (0 : Int32) then (let u_8 : (Nat → Nat → Int32) := r_X7_put va (-1 : Int32) g F; (upd g 8 ((g 8) + (1 : Int32)), u_8)) else let u_9 : (Nat → Nat → Int32) := r_X7_put va (r_X4_get (g 8) un uf) g F; (upd g 8 ((g 8) + (1 : Int32)), u_9)) else if op = (8 : Int32) then (let u_6 : (Nat → Nat → Int32) := r_X7_put va un g F; (g, u_6)) else if (r_X4_has (r_X7_value vb g F) un uf) = (0 : Int32) then (let u_4 : (Nat → Int32) := r_X7_fail (2 : Int32) g F; (u_4, F)) else let u_5 : (Nat → Nat → Int32) := r_X7_put va (r_X4_get (r_X7_value vb g F) un uf) g F; (g, u_5)
set_option maxHeartbeats 4000000 in
set_option maxRecDepth 100000 in
theorem c_X7_readInput (l : Launch) (D : va_G) (cyI cyZ : ClassId) (h : Nat) (a0 : Nat) (a1 : Nat) (a2 : Nat) (a3 : Nat) (uh : Nat) (ua : Nat) (op : Int32) (va : Int32) (vb : Int32) (g : Nat → Int32) (F : Nat → Nat → Int32) (un : Int32) (uf : Nat → Int32)  : CT l D cyI cyZ yX7_readInput cX7_readInput 5 none ({ frames := 1, cells := 0, slots := 0, locals := 22 }) [.ref h, .int op, .int va, .int vb, .ref uh] [(h, .inr (7, [.ref a0, .ref a1, .ref a2, .ref a3, .int (g 4), .int (g 5), .int (g 6), .int (g 7), .int (g 8), .int (g 9), .int (g 10), .int (g 11)])), (a0, .inl (cyI, 8, .inl (F 0))), (a1, .inl (cyI, 16, .inl (F 1))), (a2, .inl (cyI, 8, .inl (F 2))), (a3, .inl (cyI, 160, .inl (F 3))), (uh, .inr (4, [.ref ua, .int un])), (ua, .inl (cyI, 24, .inl uf))] none [(h, .inr (7, [.ref a0, .ref a1, .ref a2, .ref a3, .int (((r_X7_readInput op va vb g F un uf).1) 4), .int (((r_X7_readInput op va vb g F un uf).1) 5), .int (((r_X7_readInput op va vb g F un uf).1) 6), .int (((r_X7_readInput op va vb g F un uf).1) 7), .int (((r_X7_readInput op va vb g F un uf).1) 8), .int (((r_X7_readInput op va vb g F un uf).1) 9), .int (((r_X7_readInput op va vb g F un uf).1) 10), .int (((r_X7_readInput op va vb g F un uf).1) 11)])), (a0, .inl (cyI, 8, .inl (((r_X7_readInput op va vb g F un uf).2) 0))), (a1, .inl (cyI, 16, .inl (((r_X7_readInput op va vb g F un uf).2) 1))), (a2, .inl (cyI, 8, .inl (((r_X7_readInput op va vb g F un uf).2) 2))), (a3, .inl (cyI, 160, .inl (((r_X7_readInput op va vb g F un uf).2) 3))), (uh, .inr (4, [.ref ua, .int un])), (ua, .inl (cyI, 24, .inl uf))] := by
  refine ct_intro (by decide) (Nat.le_of_ble_eq_true rfl) ?_
  intro p e s m below meth c A ls cx hP hD hS hl
  obtain ⟨hx, hb, -⟩ := id cx
  refine lv_iload_n hx hb dX7_readInput_0 rfl (lv_at hl 1 rfl) ?_
  refine lv_bipush (v := (6 : Int32)) hx hb dX7_readInput_1 (by decide) ?_
  refine lv_icmp_ne (tgt := 49) hx hb dX7_readInput_3 (by decide) (fun c_1 => ?_) (fun c_1 => ?_)
  · skip
    refine lv_iload_n hx hb dX7_readInput_49 rfl (lv_at hl 1 rfl) ?_
    refine lv_bipush (v := (8 : Int32)) hx hb dX7_readInput_50 (by decide) ?_
    refine lv_icmp_ne (tgt := 68) hx hb dX7_readInput_52 (by decide) (fun c_2 => ?_) (fun c_2 => ?_)
    · skip
      refine lv_aload hx hb dX7_readInput_68 (lv_at hl 4 rfl) ?_
      refine lv_aload_n hx hb dX7_readInput_70 rfl (lv_at hl 0 rfl) ?_
      refine lv_iload_n hx hb dX7_readInput_71 rfl (lv_at hl 3 rfl) ?_
      refine ct_callV (As := [.int vb]) (rest := [.ref uh]) (st1 := [.int (r_X7_value vb g F), .ref uh]) (V3 := [(h, .inr (7, [.ref a0, .ref a1, .ref a2, .ref a3, .int (g 4), .int (g 5), .int (g 6), .int (g 7), .int (g 8), .int (g 9), .int (g 10), .int (g 11)])), (a0, .inl (cyI, 8, .inl (F 0))), (a1, .inl (cyI, 16, .inl (F 1))), (a2, .inl (cyI, 8, .inl (F 2))), (a3, .inl (cyI, 160, .inl (F 3))), (uh, .inr (4, [.ref ua, .int un])), (ua, .inl (cyI, 24, .inl uf))]) cx (c_X7_value l D cyI cyZ h a0 a1 a2 a3 vb g F) hP hD hS [0, 1, 2, 3, 4] [(true, 0), (true, 1), (true, 2), (true, 3), (true, 4), (false, 5), (false, 6)] ⟨rfl, rfl, rfl⟩ rfl rfl mm_252 mm_253 mm_254 mm_42 mm_248 dd_X7_value rfl hl.1 rfl dX7_readInput_72 rfl (fun H locs hP hD hS => ?_)
      refine ct_callV (As := [.int (r_X7_value vb g F)]) (rest := []) (st1 := [.int (r_X4_has (r_X7_value vb g F) un uf)]) (V3 := [(h, .inr (7, [.ref a0, .ref a1, .ref a2, .ref a3, .int (g 4), .int (g 5), .int (g 6), .int (g 7), .int (g 8), .int (g 9), .int (g 10), .int (g 11)])), (a0, .inl (cyI, 8, .inl (F 0))), (a1, .inl (cyI, 16, .inl (F 1))), (a2, .inl (cyI, 8, .inl (F 2))), (a3, .inl (cyI, 160, .inl (F 3))), (uh, .inr (4, [.ref ua, .int un])), (ua, .inl (cyI, 24, .inl uf))]) cx (c_X4_has l D cyI cyZ uh ua (r_X7_value vb g F) un uf) hP hD hS [5, 6] [(false, 0), (false, 1), (false, 2), (false, 3), (false, 4), (true, 0), (true, 1)] ⟨rfl, rfl, rfl⟩ rfl rfl mm_261 mm_156 mm_157 mm_76 mm_152 dd_X4_has rfl hl.1 rfl dX7_readInput_75 rfl (fun H locs hP hD hS => ?_)
      refine lv_if_eq (tgt := 99) hx hb dX7_readInput_78 (by decide) (fun c_3 => ?_) (fun c_3 => ?_)
      · skip
        refine lv_aload_n hx hb dX7_readInput_99 rfl (lv_at hl 0 rfl) ?_
        refine lv_iconst (v := (2 : Int32)) hx hb dX7_readInput_100 (by decide) ?_
        refine ct_callV (As := [.int (2 : Int32)]) (rest := []) (st1 := []) (V3 := [(h, .inr (7, [.ref a0, .ref a1, .ref a2, .ref a3, .int ((r_X7_fail (2 : Int32) g F) 4), .int ((r_X7_fail (2 : Int32) g F) 5), .int ((r_X7_fail (2 : Int32) g F) 6), .int ((r_X7_fail (2 : Int32) g F) 7), .int ((r_X7_fail (2 : Int32) g F) 8), .int ((r_X7_fail (2 : Int32) g F) 9), .int ((r_X7_fail (2 : Int32) g F) 10), .int ((r_X7_fail (2 : Int32) g F) 11)])), (a0, .inl (cyI, 8, .inl (F 0))), (a1, .inl (cyI, 16, .inl (F 1))), (a2, .inl (cyI, 8, .inl (F 2))), (a3, .inl (cyI, 160, .inl (F 3))), (uh, .inr (4, [.ref ua, .int un])), (ua, .inl (cyI, 24, .inl uf))]) cx (c_X7_fail l D cyI cyZ h a0 a1 a2 a3 (2 : Int32) g F) hP hD hS [0, 1, 2, 3, 4] [(true, 0), (true, 1), (true, 2), (true, 3), (true, 4), (false, 5), (false, 6)] ⟨rfl, rfl, rfl⟩ rfl rfl mm_258 mm_259 mm_260 mm_42 mm_250 dd_X7_fail rfl hl.1 rfl dX7_readInput_101 rfl (fun H locs hP hD hS => ?_)
        obtain ⟨u_4, hu_4⟩ : ∃ z, z = r_X7_fail (2 : Int32) g F := ⟨_, rfl⟩
        rw [← hu_4] at hP hD
        rw [show r_X7_readInput op va vb g F un uf = (u_4, F) from (by subst hu_4; exact (if_neg c_1).trans ((if_neg c_2).trans (if_pos c_3)))]
        dsimp only
        exact ct_vret cx hP hD hS dX7_readInput_104
      · skip
        refine lv_aload_n hx hb dX7_readInput_81 rfl (lv_at hl 0 rfl) ?_
        refine lv_iload_n hx hb dX7_readInput_82 rfl (lv_at hl 2 rfl) ?_
        refine lv_aload hx hb dX7_readInput_83 (lv_at hl 4 rfl) ?_
        refine lv_aload_n hx hb dX7_readInput_85 rfl (lv_at hl 0 rfl) ?_
        refine lv_iload_n hx hb dX7_readInput_86 rfl (lv_at hl 3 rfl) ?_
        refine ct_callV (As := [.int vb]) (rest := [.ref uh, .int va, .ref h]) (st1 := [.int (r_X7_value vb g F), .ref uh, .int va, .ref h]) (V3 := [(h, .inr (7, [.ref a0, .ref a1, .ref a2, .ref a3, .int (g 4), .int (g 5), .int (g 6), .int (g 7), .int (g 8), .int (g 9), .int (g 10), .int (g 11)])), (a0, .inl (cyI, 8, .inl (F 0))), (a1, .inl (cyI, 16, .inl (F 1))), (a2, .inl (cyI, 8, .inl (F 2))), (a3, .inl (cyI, 160, .inl (F 3))), (uh, .inr (4, [.ref ua, .int un])), (ua, .inl (cyI, 24, .inl uf))]) cx (c_X7_value l D cyI cyZ h a0 a1 a2 a3 vb g F) hP hD hS [0, 1, 2, 3, 4] [(true, 0), (true, 1), (true, 2), (true, 3), (true, 4), (false, 5), (false, 6)] ⟨rfl, rfl, rfl⟩ rfl rfl mm_252 mm_253 mm_254 mm_42 mm_248 dd_X7_value rfl hl.1 rfl dX7_readInput_87 rfl (fun H locs hP hD hS => ?_)
        refine ct_callV (As := [.int (r_X7_value vb g F)]) (rest := [.int va, .ref h]) (st1 := [.int (r_X4_get (r_X7_value vb g F) un uf), .int va, .ref h]) (V3 := [(h, .inr (7, [.ref a0, .ref a1, .ref a2, .ref a3, .int (g 4), .int (g 5), .int (g 6), .int (g 7), .int (g 8), .int (g 9), .int (g 10), .int (g 11)])), (a0, .inl (cyI, 8, .inl (F 0))), (a1, .inl (cyI, 16, .inl (F 1))), (a2, .inl (cyI, 8, .inl (F 2))), (a3, .inl (cyI, 160, .inl (F 3))), (uh, .inr (4, [.ref ua, .int un])), (ua, .inl (cyI, 24, .inl uf))]) cx (c_X4_get l D cyI cyZ uh ua (r_X7_value vb g F) un uf) hP hD hS [5, 6] [(false, 0), (false, 1), (false, 2), (false, 3), (false, 4), (true, 0), (true, 1)] ⟨rfl, rfl, rfl⟩ rfl rfl mm_262 mm_78 mm_79 mm_76 mm_70 dd_X4_get rfl hl.1 rfl dX7_readInput_90 rfl (fun H locs hP hD hS => ?_)
        refine ct_callV (As := [.int va, .int (r_X4_get (r_X7_value vb g F) un uf)]) (rest := []) (st1 := []) (V3 := [(h, .inr (7, [.ref a0, .ref a1, .ref a2, .ref a3, .int (g 4), .int (g 5), .int (g 6), .int (g 7), .int (g 8), .int (g 9), .int (g 10), .int (g 11)])), (a0, .inl (cyI, 8, .inl ((r_X7_put va (r_X4_get (r_X7_value vb g F) un uf) g F) 0))), (a1, .inl (cyI, 16, .inl ((r_X7_put va (r_X4_get (r_X7_value vb g F) un uf) g F) 1))), (a2, .inl (cyI, 8, .inl ((r_X7_put va (r_X4_get (r_X7_value vb g F) un uf) g F) 2))), (a3, .inl (cyI, 160, .inl ((r_X7_put va (r_X4_get (r_X7_value vb g F) un uf) g F) 3))), (uh, .inr (4, [.ref ua, .int un])), (ua, .inl (cyI, 24, .inl uf))]) cx (c_X7_put l D cyI cyZ h a0 a1 a2 a3 va (r_X4_get (r_X7_value vb g F) un uf) g F) hP hD hS [0, 1, 2, 3, 4] [(true, 0), (true, 1), (true, 2), (true, 3), (true, 4), (false, 5), (false, 6)] ⟨rfl, rfl, rfl⟩ rfl rfl mm_255 mm_256 mm_257 mm_42 mm_249 dd_X7_put rfl hl.1 rfl dX7_readInput_93 rfl (fun H locs hP hD hS => ?_)
        obtain ⟨u_5, hu_5⟩ : ∃ z, z = r_X7_put va (r_X4_get (r_X7_value vb g F) un uf) g F := ⟨_, rfl⟩
        rw [← hu_5] at hP hD
        refine lv_goto (tgt := 104) hx hb dX7_readInput_96 (by decide) ?_
        rw [show r_X7_readInput op va vb g F un uf = (g, u_5) from (by subst hu_5; exact (if_neg c_1).trans ((if_neg c_2).trans (if_neg c_3)))]
        dsimp only
        exact ct_vret cx hP hD hS dX7_readInput_104
    · skip
      refine lv_aload_n hx hb dX7_readInput_55 rfl (lv_at hl 0 rfl) ?_
      refine lv_iload_n hx hb dX7_readInput_56 rfl (lv_at hl 2 rfl) ?_
      refine lv_aload hx hb dX7_readInput_57 (lv_at hl 4 rfl) ?_
      refine ct_callV (As := []) (rest := [.int va, .ref h]) (st1 := [.int un, .int va, .ref h]) (V3 := [(h, .inr (7, [.ref a0, .ref a1, .ref a2, .ref a3, .int (g 4), .int (g 5), .int (g 6), .int (g 7), .int (g 8), .int (g 9), .int (g 10), .int (g 11)])), (a0, .inl (cyI, 8, .inl (F 0))), (a1, .inl (cyI, 16, .inl (F 1))), (a2, .inl (cyI, 8, .inl (F 2))), (a3, .inl (cyI, 160, .inl (F 3))), (uh, .inr (4, [.ref ua, .int un])), (ua, .inl (cyI, 24, .inl uf))]) cx (c_X4_size l D cyI cyZ uh ua un uf) hP hD hS [5, 6] [(false, 0), (false, 1), (false, 2), (false, 3), (false, 4), (true, 0), (true, 1)] ⟨rfl, rfl, rfl⟩ rfl rfl mm_263 mm_74 mm_75 mm_76 mm_68 dd_X4_size rfl hl.1 rfl dX7_readInput_59 rfl (fun H locs hP hD hS => ?_)
      refine ct_callV (As := [.int va, .int un]) (rest := []) (st1 := []) (V3 := [(h, .inr (7, [.ref a0, .ref a1, .ref a2, .ref a3, .int (g 4), .int (g 5), .int (g 6), .int (g 7), .int (g 8), .int (g 9), .int (g 10), .int (g 11)])), (a0, .inl (cyI, 8, .inl ((r_X7_put va un g F) 0))), (a1, .inl (cyI, 16, .inl ((r_X7_put va un g F) 1))), (a2, .inl (cyI, 8, .inl ((r_X7_put va un g F) 2))), (a3, .inl (cyI, 160, .inl ((r_X7_put va un g F) 3))), (uh, .inr (4, [.ref ua, .int un])), (ua, .inl (cyI, 24, .inl uf))]) cx (c_X7_put l D cyI cyZ h a0 a1 a2 a3 va un g F) hP hD hS [0, 1, 2, 3, 4] [(true, 0), (true, 1), (true, 2), (true, 3), (true, 4), (false, 5), (false, 6)] ⟨rfl, rfl, rfl⟩ rfl rfl mm_255 mm_256 mm_257 mm_42 mm_249 dd_X7_put rfl hl.1 rfl dX7_readInput_62 rfl (fun H locs hP hD hS => ?_)
      obtain ⟨u_6, hu_6⟩ : ∃ z, z = r_X7_put va un g F := ⟨_, rfl⟩
      rw [← hu_6] at hP hD
      refine lv_goto (tgt := 104) hx hb dX7_readInput_65 (by decide) ?_
      rw [show r_X7_readInput op va vb g F un uf = (g, u_6) from (by subst hu_6; exact (if_neg c_1).trans (if_pos c_2))]
      dsimp only
      exact ct_vret cx hP hD hS dX7_readInput_104
  · skip
    refine lv_aload_n hx hb dX7_readInput_6 rfl (lv_at hl 0 rfl) ?_
    refine lv_iload_n hx hb dX7_readInput_7 rfl (lv_at hl 2 rfl) ?_
    refine lv_aload hx hb dX7_readInput_8 (lv_at hl 4 rfl) ?_
    refine lv_aload_n hx hb dX7_readInput_10 rfl (lv_at hl 0 rfl) ?_
    refine ct_get (v := .int (g 8)) cx hP 0 rfl rfl bwX7 8 rfl mm_216 rfl dX7_readInput_11 ?_
    refine ct_callV (As := [.int (g 8)]) (rest := [.int va, .ref h]) (st1 := [.int (r_X4_has (g 8) un uf), .int va, .ref h]) (V3 := [(h, .inr (7, [.ref a0, .ref a1, .ref a2, .ref a3, .int (g 4), .int (g 5), .int (g 6), .int (g 7), .int (g 8), .int (g 9), .int (g 10), .int (g 11)])), (a0, .inl (cyI, 8, .inl (F 0))), (a1, .inl (cyI, 16, .inl (F 1))), (a2, .inl (cyI, 8, .inl (F 2))), (a3, .inl (cyI, 160, .inl (F 3))), (uh, .inr (4, [.ref ua, .int un])), (ua, .inl (cyI, 24, .inl uf))]) cx (c_X4_has l D cyI cyZ uh ua (g 8) un uf) hP hD hS [5, 6] [(false, 0), (false, 1), (false, 2), (false, 3), (false, 4), (true, 0), (true, 1)] ⟨rfl, rfl, rfl⟩ rfl rfl mm_261 mm_156 mm_157 mm_76 mm_152 dd_X4_has rfl hl.1 rfl dX7_readInput_14 rfl (fun H locs hP hD hS => ?_)
    refine lv_if_eq (tgt := 32) hx hb dX7_readInput_17 (by decide) (fun c_7 => ?_) (fun c_7 => ?_)
    · skip
      refine lv_iconst (v := (-1 : Int32)) hx hb dX7_readInput_32 (by decide) ?_
      refine ct_callV (As := [.int va, .int (-1 : Int32)]) (rest := []) (st1 := []) (V3 := [(h, .inr (7, [.ref a0, .ref a1, .ref a2, .ref a3, .int (g 4), .int (g 5), .int (g 6), .int (g 7), .int (g 8), .int (g 9), .int (g 10), .int (g 11)])), (a0, .inl (cyI, 8, .inl ((r_X7_put va (-1 : Int32) g F) 0))), (a1, .inl (cyI, 16, .inl ((r_X7_put va (-1 : Int32) g F) 1))), (a2, .inl (cyI, 8, .inl ((r_X7_put va (-1 : Int32) g F) 2))), (a3, .inl (cyI, 160, .inl ((r_X7_put va (-1 : Int32) g F) 3))), (uh, .inr (4, [.ref ua, .int un])), (ua, .inl (cyI, 24, .inl uf))]) cx (c_X7_put l D cyI cyZ h a0 a1 a2 a3 va (-1 : Int32) g F) hP hD hS [0, 1, 2, 3, 4] [(true, 0), (true, 1), (true, 2), (true, 3), (true, 4), (false, 5), (false, 6)] ⟨rfl, rfl, rfl⟩ rfl rfl mm_255 mm_256 mm_257 mm_42 mm_249 dd_X7_put rfl hl.1 rfl dX7_readInput_33 rfl (fun H locs hP hD hS => ?_)
      obtain ⟨u_8, hu_8⟩ : ∃ z, z = r_X7_put va (-1 : Int32) g F := ⟨_, rfl⟩
      rw [← hu_8] at hP hD
      refine lv_aload_n hx hb dX7_readInput_36 rfl (lv_at hl 0 rfl) ?_
      refine lv_dup hx hb dX7_readInput_37 rfl ?_
      refine ct_get (v := .int (g 8)) cx hP 0 rfl rfl bwX7 8 rfl mm_216 rfl dX7_readInput_38 ?_
      refine lv_iconst (v := (1 : Int32)) hx hb dX7_readInput_41 (by decide) ?_
      refine lv_iadd hx hb dX7_readInput_42 ?_
      refine ct_put (V3 := [(h, .inr (7, [.ref a0, .ref a1, .ref a2, .ref a3, .int (g 4), .int (g 5), .int (g 6), .int (g 7), .int ((g 8) + (1 : Int32)), .int (g 9), .int (g 10), .int (g 11)])), (a0, .inl (cyI, 8, .inl (u_8 0))), (a1, .inl (cyI, 16, .inl (u_8 1))), (a2, .inl (cyI, 8, .inl (u_8 2))), (a3, .inl (cyI, 160, .inl (u_8 3))), (uh, .inr (4, [.ref ua, .int un])), (ua, .inl (cyI, 24, .inl uf))]) cx hP hD hS 0 rfl rfl bwX7 tyX7_ok nmX7 8 rfl mm_216 rfl rfl rfl rfl dX7_readInput_43 rfl (fun H locs hP hD hS => ?_)
      refine lv_goto (tgt := 104) hx hb dX7_readInput_46 (by decide) ?_
      rw [show r_X7_readInput op va vb g F un uf = (upd g 8 ((g 8) + (1 : Int32)), u_8) from (by subst hu_8; exact (if_pos c_1).trans (if_pos c_7))]
      dsimp only
      exact ct_vret cx hP hD hS dX7_readInput_104
    · skip
      refine lv_aload hx hb dX7_readInput_20 (lv_at hl 4 rfl) ?_
      refine lv_aload_n hx hb dX7_readInput_22 rfl (lv_at hl 0 rfl) ?_
      refine ct_get (v := .int (g 8)) cx hP 0 rfl rfl bwX7 8 rfl mm_216 rfl dX7_readInput_23 ?_
      refine ct_callV (As := [.int (g 8)]) (rest := [.int va, .ref h]) (st1 := [.int (r_X4_get (g 8) un uf), .int va, .ref h]) (V3 := [(h, .inr (7, [.ref a0, .ref a1, .ref a2, .ref a3, .int (g 4), .int (g 5), .int (g 6), .int (g 7), .int (g 8), .int (g 9), .int (g 10), .int (g 11)])), (a0, .inl (cyI, 8, .inl (F 0))), (a1, .inl (cyI, 16, .inl (F 1))), (a2, .inl (cyI, 8, .inl (F 2))), (a3, .inl (cyI, 160, .inl (F 3))), (uh, .inr (4, [.ref ua, .int un])), (ua, .inl (cyI, 24, .inl uf))]) cx (c_X4_get l D cyI cyZ uh ua (g 8) un uf) hP hD hS [5, 6] [(false, 0), (false, 1), (false, 2), (false, 3), (false, 4), (true, 0), (true, 1)] ⟨rfl, rfl, rfl⟩ rfl rfl mm_262 mm_78 mm_79 mm_76 mm_70 dd_X4_get rfl hl.1 rfl dX7_readInput_26 rfl (fun H locs hP hD hS => ?_)
      refine lv_goto (tgt := 33) hx hb dX7_readInput_29 (by decide) ?_
      refine ct_callV (As := [.int va, .int (r_X4_get (g 8) un uf)]) (rest := []) (st1 := []) (V3 := [(h, .inr (7, [.ref a0, .ref a1, .ref a2, .ref a3, .int (g 4), .int (g 5), .int (g 6), .int (g 7), .int (g 8), .int (g 9), .int (g 10), .int (g 11)])), (a0, .inl (cyI, 8, .inl ((r_X7_put va (r_X4_get (g 8) un uf) g F) 0))), (a1, .inl (cyI, 16, .inl ((r_X7_put va (r_X4_get (g 8) un uf) g F) 1))), (a2, .inl (cyI, 8, .inl ((r_X7_put va (r_X4_get (g 8) un uf) g F) 2))), (a3, .inl (cyI, 160, .inl ((r_X7_put va (r_X4_get (g 8) un uf) g F) 3))), (uh, .inr (4, [.ref ua, .int un])), (ua, .inl (cyI, 24, .inl uf))]) cx (c_X7_put l D cyI cyZ h a0 a1 a2 a3 va (r_X4_get (g 8) un uf) g F) hP hD hS [0, 1, 2, 3, 4] [(true, 0), (true, 1), (true, 2), (true, 3), (true, 4), (false, 5), (false, 6)] ⟨rfl, rfl, rfl⟩ rfl rfl mm_255 mm_256 mm_257 mm_42 mm_249 dd_X7_put rfl hl.1 rfl dX7_readInput_33 rfl (fun H locs hP hD hS => ?_)
      obtain ⟨u_9, hu_9⟩ : ∃ z, z = r_X7_put va (r_X4_get (g 8) un uf) g F := ⟨_, rfl⟩
      rw [← hu_9] at hP hD
      refine lv_aload_n hx hb dX7_readInput_36 rfl (lv_at hl 0 rfl) ?_
      refine lv_dup hx hb dX7_readInput_37 rfl ?_
      refine ct_get (v := .int (g 8)) cx hP 0 rfl rfl bwX7 8 rfl mm_216 rfl dX7_readInput_38 ?_
      refine lv_iconst (v := (1 : Int32)) hx hb dX7_readInput_41 (by decide) ?_
      refine lv_iadd hx hb dX7_readInput_42 ?_
      refine ct_put (V3 := [(h, .inr (7, [.ref a0, .ref a1, .ref a2, .ref a3, .int (g 4), .int (g 5), .int (g 6), .int (g 7), .int ((g 8) + (1 : Int32)), .int (g 9), .int (g 10), .int (g 11)])), (a0, .inl (cyI, 8, .inl (u_9 0))), (a1, .inl (cyI, 16, .inl (u_9 1))), (a2, .inl (cyI, 8, .inl (u_9 2))), (a3, .inl (cyI, 160, .inl (u_9 3))), (uh, .inr (4, [.ref ua, .int un])), (ua, .inl (cyI, 24, .inl uf))]) cx hP hD hS 0 rfl rfl bwX7 tyX7_ok nmX7 8 rfl mm_216 rfl rfl rfl rfl dX7_readInput_43 rfl (fun H locs hP hD hS => ?_)
      refine lv_goto (tgt := 104) hx hb dX7_readInput_46 (by decide) ?_
      rw [show r_X7_readInput op va vb g F un uf = (upd g 8 ((g 8) + (1 : Int32)), u_9) from (by subst hu_9; exact (if_pos c_1).trans (if_neg c_7))]
      dsimp only
      exact ct_vret cx hP hD hS dX7_readInput_104
def r_X7_useRow (op : Int32) (va : Int32) (vb : Int32) (g : Nat → Int32) (F : Nat → Nat → Int32) : (Nat → Int32) × (Nat → Nat → Int32) := if op = (9 : Int32) then (if (r_X7_isInRow (r_X7_value va g F)) = (0 : Int32) then (let u_8 : (Nat → Int32) := r_X7_fail (2 : Int32) g F; (u_8, F)) else (g, va_up F 1 (upd (F 1) ((r_X7_value va g F).toNatClampNeg) (r_X7_value vb g F)))) else if (r_X7_isInRow (r_X7_value vb g F)) = (0 : Int32) then (let u_5 : (Nat → Int32) := r_X7_fail (2 : Int32) g F; (u_5, F)) else let u_4 : (Nat → Nat → Int32) := r_X7_put va ((F 1) ((r_X7_value vb g F).toNatClampNeg)) g F; (g, u_4)
set_option maxHeartbeats 4000000 in
set_option maxRecDepth 100000 in
theorem c_X7_useRow (l : Launch) (D : va_G) (cyI cyZ : ClassId) (h : Nat) (a0 : Nat) (a1 : Nat) (a2 : Nat) (a3 : Nat) (op : Int32) (va : Int32) (vb : Int32) (g : Nat → Int32) (F : Nat → Nat → Int32)  : CT l D cyI cyZ yX7_useRow cX7_useRow 5 none ({ frames := 1, cells := 0, slots := 0, locals := 22 }) [.ref h, .int op, .int va, .int vb] [(h, .inr (7, [.ref a0, .ref a1, .ref a2, .ref a3, .int (g 4), .int (g 5), .int (g 6), .int (g 7), .int (g 8), .int (g 9), .int (g 10), .int (g 11)])), (a0, .inl (cyI, 8, .inl (F 0))), (a1, .inl (cyI, 16, .inl (F 1))), (a2, .inl (cyI, 8, .inl (F 2))), (a3, .inl (cyI, 160, .inl (F 3)))] none [(h, .inr (7, [.ref a0, .ref a1, .ref a2, .ref a3, .int (((r_X7_useRow op va vb g F).1) 4), .int (((r_X7_useRow op va vb g F).1) 5), .int (((r_X7_useRow op va vb g F).1) 6), .int (((r_X7_useRow op va vb g F).1) 7), .int (((r_X7_useRow op va vb g F).1) 8), .int (((r_X7_useRow op va vb g F).1) 9), .int (((r_X7_useRow op va vb g F).1) 10), .int (((r_X7_useRow op va vb g F).1) 11)])), (a0, .inl (cyI, 8, .inl (((r_X7_useRow op va vb g F).2) 0))), (a1, .inl (cyI, 16, .inl (((r_X7_useRow op va vb g F).2) 1))), (a2, .inl (cyI, 8, .inl (((r_X7_useRow op va vb g F).2) 2))), (a3, .inl (cyI, 160, .inl (((r_X7_useRow op va vb g F).2) 3)))] := by
  refine ct_intro (by decide) (Nat.le_of_ble_eq_true rfl) ?_
  intro p e s m below meth c A ls cx hP hD hS hl
  obtain ⟨hx, hb, -⟩ := id cx
  refine lv_iload_n hx hb dX7_useRow_0 rfl (lv_at hl 1 rfl) ?_
  refine lv_bipush (v := (9 : Int32)) hx hb dX7_useRow_1 (by decide) ?_
  refine lv_icmp_ne (tgt := 14) hx hb dX7_useRow_3 (by decide) (fun c_1 => ?_) (fun c_1 => ?_)
  · skip
    refine lv_aload_n hx hb dX7_useRow_14 rfl (lv_at hl 0 rfl) ?_
    refine lv_iload_n hx hb dX7_useRow_15 rfl (lv_at hl 3 rfl) ?_
    refine ct_callV (As := [.int vb]) (rest := []) (st1 := [.int (r_X7_value vb g F)]) (V3 := [(h, .inr (7, [.ref a0, .ref a1, .ref a2, .ref a3, .int (g 4), .int (g 5), .int (g 6), .int (g 7), .int (g 8), .int (g 9), .int (g 10), .int (g 11)])), (a0, .inl (cyI, 8, .inl (F 0))), (a1, .inl (cyI, 16, .inl (F 1))), (a2, .inl (cyI, 8, .inl (F 2))), (a3, .inl (cyI, 160, .inl (F 3)))]) cx (c_X7_value l D cyI cyZ h a0 a1 a2 a3 vb g F) hP hD hS [0, 1, 2, 3, 4] [(true, 0), (true, 1), (true, 2), (true, 3), (true, 4)] ⟨rfl, rfl, rfl⟩ rfl rfl mm_252 mm_253 mm_254 mm_42 mm_248 dd_X7_value rfl hl.1 rfl dX7_useRow_16 rfl (fun H locs hP hD hS => ?_)
    refine lv_istore (lv' := [(4, .int (r_X7_value vb g F)), (0, .ref h), (1, .int op), (2, .int va), (3, .int vb)]) hx hb dX7_useRow_19 hl (by decide) rfl (fun ls hl => ?_)
    refine lv_iload hx hb dX7_useRow_21 (lv_at hl 0 rfl) ?_
    refine ct_callS (As := [.int (r_X7_value vb g F)]) (rest := []) (st1 := [.int (r_X7_isInRow (r_X7_value vb g F))]) (V3 := [(h, .inr (7, [.ref a0, .ref a1, .ref a2, .ref a3, .int (g 4), .int (g 5), .int (g 6), .int (g 7), .int (g 8), .int (g 9), .int (g 10), .int (g 11)])), (a0, .inl (cyI, 8, .inl (F 0))), (a1, .inl (cyI, 16, .inl (F 1))), (a2, .inl (cyI, 8, .inl (F 2))), (a3, .inl (cyI, 160, .inl (F 3)))]) cx (c_X7_isInRow l D cyI cyZ (r_X7_value vb g F)) hP hD hS [] [(false, 0), (false, 1), (false, 2), (false, 3), (false, 4)] ⟨rfl, rfl, rfl⟩ mm_267 mm_268 mm_42 mm_265 dd_X7_isInRow rfl hl.1 rfl dX7_useRow_23 rfl (fun H locs hP hD hS => ?_)
    refine lv_if_ne (tgt := 37) hx hb dX7_useRow_26 (by decide) (fun c_2 => ?_) (fun c_2 => ?_)
    · skip
      refine lv_iload_n hx hb dX7_useRow_37 rfl (lv_at hl 2 rfl) ?_
      refine lv_bipush (v := (9 : Int32)) hx hb dX7_useRow_38 (by decide) ?_
      refine lv_icmp_ne (tgt := 58) hx hb dX7_useRow_40 (by decide) (fun c_3 => ?_) (fun c_3 => ?_)
      · skip
        refine lv_aload_n hx hb dX7_useRow_58 rfl (lv_at hl 1 rfl) ?_
        refine lv_iload_n hx hb dX7_useRow_59 rfl (lv_at hl 3 rfl) ?_
        refine lv_aload_n hx hb dX7_useRow_60 rfl (lv_at hl 1 rfl) ?_
        refine ct_get (v := .ref a1) cx hP 0 rfl rfl bwX7 1 rfl mm_214 rfl dX7_useRow_61 ?_
        refine lv_iload hx hb dX7_useRow_64 (lv_at hl 0 rfl) ?_
        refine ct_iald cx hP 2 rfl (in_isInRow ‹_›) dX7_useRow_66 ?_
        refine ct_callV (As := [.int va, .int ((F 1) ((r_X7_value vb g F).toNatClampNeg))]) (rest := []) (st1 := []) (V3 := [(h, .inr (7, [.ref a0, .ref a1, .ref a2, .ref a3, .int (g 4), .int (g 5), .int (g 6), .int (g 7), .int (g 8), .int (g 9), .int (g 10), .int (g 11)])), (a0, .inl (cyI, 8, .inl ((r_X7_put va ((F 1) ((r_X7_value vb g F).toNatClampNeg)) g F) 0))), (a1, .inl (cyI, 16, .inl ((r_X7_put va ((F 1) ((r_X7_value vb g F).toNatClampNeg)) g F) 1))), (a2, .inl (cyI, 8, .inl ((r_X7_put va ((F 1) ((r_X7_value vb g F).toNatClampNeg)) g F) 2))), (a3, .inl (cyI, 160, .inl ((r_X7_put va ((F 1) ((r_X7_value vb g F).toNatClampNeg)) g F) 3)))]) cx (c_X7_put l D cyI cyZ h a0 a1 a2 a3 va ((F 1) ((r_X7_value vb g F).toNatClampNeg)) g F) hP hD hS [0, 1, 2, 3, 4] [(true, 0), (true, 1), (true, 2), (true, 3), (true, 4)] ⟨rfl, rfl, rfl⟩ rfl rfl mm_255 mm_256 mm_257 mm_42 mm_249 dd_X7_put rfl hl.1 rfl dX7_useRow_67 rfl (fun H locs hP hD hS => ?_)
        obtain ⟨u_4, hu_4⟩ : ∃ z, z = r_X7_put va ((F 1) ((r_X7_value vb g F).toNatClampNeg)) g F := ⟨_, rfl⟩
        rw [← hu_4] at hP hD
        rw [show r_X7_useRow op va vb g F = (g, u_4) from (by subst hu_4; exact (if_neg c_1).trans (if_neg c_2))]
        dsimp only
        exact ct_vret cx hP hD hS dX7_useRow_70
      · exact absurd c_3 c_1
    · skip
      refine lv_aload_n hx hb dX7_useRow_29 rfl (lv_at hl 1 rfl) ?_
      refine lv_iconst (v := (2 : Int32)) hx hb dX7_useRow_30 (by decide) ?_
      refine ct_callV (As := [.int (2 : Int32)]) (rest := []) (st1 := []) (V3 := [(h, .inr (7, [.ref a0, .ref a1, .ref a2, .ref a3, .int ((r_X7_fail (2 : Int32) g F) 4), .int ((r_X7_fail (2 : Int32) g F) 5), .int ((r_X7_fail (2 : Int32) g F) 6), .int ((r_X7_fail (2 : Int32) g F) 7), .int ((r_X7_fail (2 : Int32) g F) 8), .int ((r_X7_fail (2 : Int32) g F) 9), .int ((r_X7_fail (2 : Int32) g F) 10), .int ((r_X7_fail (2 : Int32) g F) 11)])), (a0, .inl (cyI, 8, .inl (F 0))), (a1, .inl (cyI, 16, .inl (F 1))), (a2, .inl (cyI, 8, .inl (F 2))), (a3, .inl (cyI, 160, .inl (F 3)))]) cx (c_X7_fail l D cyI cyZ h a0 a1 a2 a3 (2 : Int32) g F) hP hD hS [0, 1, 2, 3, 4] [(true, 0), (true, 1), (true, 2), (true, 3), (true, 4)] ⟨rfl, rfl, rfl⟩ rfl rfl mm_258 mm_259 mm_260 mm_42 mm_250 dd_X7_fail rfl hl.1 rfl dX7_useRow_31 rfl (fun H locs hP hD hS => ?_)
      obtain ⟨u_5, hu_5⟩ : ∃ z, z = r_X7_fail (2 : Int32) g F := ⟨_, rfl⟩
      rw [← hu_5] at hP hD
      refine lv_goto (tgt := 70) hx hb dX7_useRow_34 (by decide) ?_
      rw [show r_X7_useRow op va vb g F = (u_5, F) from (by subst hu_5; exact (if_neg c_1).trans (if_pos c_2))]
      dsimp only
      exact ct_vret cx hP hD hS dX7_useRow_70
  · skip
    refine lv_aload_n hx hb dX7_useRow_6 rfl (lv_at hl 0 rfl) ?_
    refine lv_iload_n hx hb dX7_useRow_7 rfl (lv_at hl 2 rfl) ?_
    refine ct_callV (As := [.int va]) (rest := []) (st1 := [.int (r_X7_value va g F)]) (V3 := [(h, .inr (7, [.ref a0, .ref a1, .ref a2, .ref a3, .int (g 4), .int (g 5), .int (g 6), .int (g 7), .int (g 8), .int (g 9), .int (g 10), .int (g 11)])), (a0, .inl (cyI, 8, .inl (F 0))), (a1, .inl (cyI, 16, .inl (F 1))), (a2, .inl (cyI, 8, .inl (F 2))), (a3, .inl (cyI, 160, .inl (F 3)))]) cx (c_X7_value l D cyI cyZ h a0 a1 a2 a3 va g F) hP hD hS [0, 1, 2, 3, 4] [(true, 0), (true, 1), (true, 2), (true, 3), (true, 4)] ⟨rfl, rfl, rfl⟩ rfl rfl mm_252 mm_253 mm_254 mm_42 mm_248 dd_X7_value rfl hl.1 rfl dX7_useRow_8 rfl (fun H locs hP hD hS => ?_)
    refine lv_goto (tgt := 19) hx hb dX7_useRow_11 (by decide) ?_
    refine lv_istore (lv' := [(4, .int (r_X7_value va g F)), (0, .ref h), (1, .int op), (2, .int va), (3, .int vb)]) hx hb dX7_useRow_19 hl (by decide) rfl (fun ls hl => ?_)
    refine lv_iload hx hb dX7_useRow_21 (lv_at hl 0 rfl) ?_
    refine ct_callS (As := [.int (r_X7_value va g F)]) (rest := []) (st1 := [.int (r_X7_isInRow (r_X7_value va g F))]) (V3 := [(h, .inr (7, [.ref a0, .ref a1, .ref a2, .ref a3, .int (g 4), .int (g 5), .int (g 6), .int (g 7), .int (g 8), .int (g 9), .int (g 10), .int (g 11)])), (a0, .inl (cyI, 8, .inl (F 0))), (a1, .inl (cyI, 16, .inl (F 1))), (a2, .inl (cyI, 8, .inl (F 2))), (a3, .inl (cyI, 160, .inl (F 3)))]) cx (c_X7_isInRow l D cyI cyZ (r_X7_value va g F)) hP hD hS [] [(false, 0), (false, 1), (false, 2), (false, 3), (false, 4)] ⟨rfl, rfl, rfl⟩ mm_267 mm_268 mm_42 mm_265 dd_X7_isInRow rfl hl.1 rfl dX7_useRow_23 rfl (fun H locs hP hD hS => ?_)
    refine lv_if_ne (tgt := 37) hx hb dX7_useRow_26 (by decide) (fun c_6 => ?_) (fun c_6 => ?_)
    · skip
      refine lv_iload_n hx hb dX7_useRow_37 rfl (lv_at hl 2 rfl) ?_
      refine lv_bipush (v := (9 : Int32)) hx hb dX7_useRow_38 (by decide) ?_
      refine lv_icmp_ne (tgt := 58) hx hb dX7_useRow_40 (by decide) (fun c_7 => ?_) (fun c_7 => ?_)
      · exact absurd c_7 (fun k => k c_1)
      · skip
        refine lv_aload_n hx hb dX7_useRow_43 rfl (lv_at hl 1 rfl) ?_
        refine ct_get (v := .ref a1) cx hP 0 rfl rfl bwX7 1 rfl mm_214 rfl dX7_useRow_44 ?_
        refine lv_iload hx hb dX7_useRow_47 (lv_at hl 0 rfl) ?_
        refine lv_aload_n hx hb dX7_useRow_49 rfl (lv_at hl 1 rfl) ?_
        refine lv_iload_n hx hb dX7_useRow_50 rfl (lv_at hl 4 rfl) ?_
        refine ct_callV (As := [.int vb]) (rest := [.int (r_X7_value va g F), .ref a1]) (st1 := [.int (r_X7_value vb g F), .int (r_X7_value va g F), .ref a1]) (V3 := [(h, .inr (7, [.ref a0, .ref a1, .ref a2, .ref a3, .int (g 4), .int (g 5), .int (g 6), .int (g 7), .int (g 8), .int (g 9), .int (g 10), .int (g 11)])), (a0, .inl (cyI, 8, .inl (F 0))), (a1, .inl (cyI, 16, .inl (F 1))), (a2, .inl (cyI, 8, .inl (F 2))), (a3, .inl (cyI, 160, .inl (F 3)))]) cx (c_X7_value l D cyI cyZ h a0 a1 a2 a3 vb g F) hP hD hS [0, 1, 2, 3, 4] [(true, 0), (true, 1), (true, 2), (true, 3), (true, 4)] ⟨rfl, rfl, rfl⟩ rfl rfl mm_252 mm_253 mm_254 mm_42 mm_248 dd_X7_value rfl hl.1 rfl dX7_useRow_51 rfl (fun H locs hP hD hS => ?_)
        refine ct_iast (V3 := [(h, .inr (7, [.ref a0, .ref a1, .ref a2, .ref a3, .int (g 4), .int (g 5), .int (g 6), .int (g 7), .int (g 8), .int (g 9), .int (g 10), .int (g 11)])), (a0, .inl (cyI, 8, .inl (F 0))), (a1, .inl (cyI, 16, .inl (upd (F 1) ((r_X7_value va g F).toNatClampNeg) (r_X7_value vb g F)))), (a2, .inl (cyI, 8, .inl (F 2))), (a3, .inl (cyI, 160, .inl (F 3)))]) cx hP hD hS 2 rfl (in_isInRow ‹_›) dX7_useRow_54 rfl (fun H locs hP hD hS => ?_)
        refine lv_goto (tgt := 70) hx hb dX7_useRow_55 (by decide) ?_
        rw [show r_X7_useRow op va vb g F = (g, va_up F 1 (upd (F 1) ((r_X7_value va g F).toNatClampNeg) (r_X7_value vb g F))) from (if_pos c_1).trans (if_neg c_6)]
        dsimp only
        exact ct_vret cx hP hD hS dX7_useRow_70
    · skip
      refine lv_aload_n hx hb dX7_useRow_29 rfl (lv_at hl 1 rfl) ?_
      refine lv_iconst (v := (2 : Int32)) hx hb dX7_useRow_30 (by decide) ?_
      refine ct_callV (As := [.int (2 : Int32)]) (rest := []) (st1 := []) (V3 := [(h, .inr (7, [.ref a0, .ref a1, .ref a2, .ref a3, .int ((r_X7_fail (2 : Int32) g F) 4), .int ((r_X7_fail (2 : Int32) g F) 5), .int ((r_X7_fail (2 : Int32) g F) 6), .int ((r_X7_fail (2 : Int32) g F) 7), .int ((r_X7_fail (2 : Int32) g F) 8), .int ((r_X7_fail (2 : Int32) g F) 9), .int ((r_X7_fail (2 : Int32) g F) 10), .int ((r_X7_fail (2 : Int32) g F) 11)])), (a0, .inl (cyI, 8, .inl (F 0))), (a1, .inl (cyI, 16, .inl (F 1))), (a2, .inl (cyI, 8, .inl (F 2))), (a3, .inl (cyI, 160, .inl (F 3)))]) cx (c_X7_fail l D cyI cyZ h a0 a1 a2 a3 (2 : Int32) g F) hP hD hS [0, 1, 2, 3, 4] [(true, 0), (true, 1), (true, 2), (true, 3), (true, 4)] ⟨rfl, rfl, rfl⟩ rfl rfl mm_258 mm_259 mm_260 mm_42 mm_250 dd_X7_fail rfl hl.1 rfl dX7_useRow_31 rfl (fun H locs hP hD hS => ?_)
      obtain ⟨u_8, hu_8⟩ : ∃ z, z = r_X7_fail (2 : Int32) g F := ⟨_, rfl⟩
      rw [← hu_8] at hP hD
      refine lv_goto (tgt := 70) hx hb dX7_useRow_34 (by decide) ?_
      rw [show r_X7_useRow op va vb g F = (u_8, F) from (by subst hu_8; exact (if_pos c_1).trans (if_pos c_6))]
      dsimp only
      exact ct_vret cx hP hD hS dX7_useRow_70
def r_X7_jump (op : Int32) (va : Int32) (vb : Int32) (vc : Int32) (g : Nat → Int32) (F : Nat → Nat → Int32) : (Nat → Int32) × (Nat → Nat → Int32) := if op = (13 : Int32) then (upd g 10 vc, F) else if op = (11 : Int32) then (if (r_X7_value vb g F) ≤ (r_X7_value va g F) then (if (r_X7_isBranch (((2 : Int32) * (g 9)) + (0 : Int32))) = (0 : Int32) then (g, F) else (g, va_up F 3 (upd (F 3) ((((2 : Int32) * (g 9)) + (0 : Int32)).toNatClampNeg) (((F 3) ((((2 : Int32) * (g 9)) + (0 : Int32)).toNatClampNeg)) + (1 : Int32))))) else if (r_X7_isBranch (((2 : Int32) * (g 9)) + (1 : Int32))) = (0 : Int32) then (upd g 10 vc, F) else (upd g 10 vc, va_up F 3 (upd (F 3) ((((2 : Int32) * (g 9)) + (1 : Int32)).toNatClampNeg) (((F 3) ((((2 : Int32) * (g 9)) + (1 : Int32)).toNatClampNeg)) + (1 : Int32))))) else if (r_X7_value va g F) = (r_X7_value vb g F) then (if (r_X7_isBranch (((2 : Int32) * (g 9)) + (1 : Int32))) = (0 : Int32) then (upd g 10 vc, F) else (upd g 10 vc, va_up F 3 (upd (F 3) ((((2 : Int32) * (g 9)) + (1 : Int32)).toNatClampNeg) (((F 3) ((((2 : Int32) * (g 9)) + (1 : Int32)).toNatClampNeg)) + (1 : Int32))))) else if (r_X7_isBranch (((2 : Int32) * (g 9)) + (0 : Int32))) = (0 : Int32) then (g, F) else (g, va_up F 3 (upd (F 3) ((((2 : Int32) * (g 9)) + (0 : Int32)).toNatClampNeg) (((F 3) ((((2 : Int32) * (g 9)) + (0 : Int32)).toNatClampNeg)) + (1 : Int32))))
set_option maxHeartbeats 4000000 in
set_option maxRecDepth 100000 in
theorem c_X7_jump (l : Launch) (D : va_G) (cyI cyZ : ClassId) (h : Nat) (a0 : Nat) (a1 : Nat) (a2 : Nat) (a3 : Nat) (op : Int32) (va : Int32) (vb : Int32) (vc : Int32) (g : Nat → Int32) (F : Nat → Nat → Int32)  : CT l D cyI cyZ yX7_jump cX7_jump 7 none ({ frames := 1, cells := 0, slots := 0, locals := 21 }) [.ref h, .int op, .int va, .int vb, .int vc] [(h, .inr (7, [.ref a0, .ref a1, .ref a2, .ref a3, .int (g 4), .int (g 5), .int (g 6), .int (g 7), .int (g 8), .int (g 9), .int (g 10), .int (g 11)])), (a0, .inl (cyI, 8, .inl (F 0))), (a1, .inl (cyI, 16, .inl (F 1))), (a2, .inl (cyI, 8, .inl (F 2))), (a3, .inl (cyI, 160, .inl (F 3)))] none [(h, .inr (7, [.ref a0, .ref a1, .ref a2, .ref a3, .int (((r_X7_jump op va vb vc g F).1) 4), .int (((r_X7_jump op va vb vc g F).1) 5), .int (((r_X7_jump op va vb vc g F).1) 6), .int (((r_X7_jump op va vb vc g F).1) 7), .int (((r_X7_jump op va vb vc g F).1) 8), .int (((r_X7_jump op va vb vc g F).1) 9), .int (((r_X7_jump op va vb vc g F).1) 10), .int (((r_X7_jump op va vb vc g F).1) 11)])), (a0, .inl (cyI, 8, .inl (((r_X7_jump op va vb vc g F).2) 0))), (a1, .inl (cyI, 16, .inl (((r_X7_jump op va vb vc g F).2) 1))), (a2, .inl (cyI, 8, .inl (((r_X7_jump op va vb vc g F).2) 2))), (a3, .inl (cyI, 160, .inl (((r_X7_jump op va vb vc g F).2) 3)))] := by
  refine ct_intro (by decide) (Nat.le_of_ble_eq_true rfl) ?_
  intro p e s m below meth c A ls cx hP hD hS hl
  obtain ⟨hx, hb, -⟩ := id cx
  refine lv_iload_n hx hb dX7_jump_0 rfl (lv_at hl 1 rfl) ?_
  refine lv_bipush (v := (13 : Int32)) hx hb dX7_jump_1 (by decide) ?_
  refine lv_icmp_ne (tgt := 13) hx hb dX7_jump_3 (by decide) (fun c_1 => ?_) (fun c_1 => ?_)
  · skip
    refine lv_iload_n hx hb dX7_jump_13 rfl (lv_at hl 1 rfl) ?_
    refine lv_bipush (v := (11 : Int32)) hx hb dX7_jump_14 (by decide) ?_
    refine lv_icmp_ne (tgt := 40) hx hb dX7_jump_16 (by decide) (fun c_2 => ?_) (fun c_2 => ?_)
    · skip
      refine lv_aload_n hx hb dX7_jump_40 rfl (lv_at hl 0 rfl) ?_
      refine lv_iload_n hx hb dX7_jump_41 rfl (lv_at hl 2 rfl) ?_
      refine ct_callV (As := [.int va]) (rest := []) (st1 := [.int (r_X7_value va g F)]) (V3 := [(h, .inr (7, [.ref a0, .ref a1, .ref a2, .ref a3, .int (g 4), .int (g 5), .int (g 6), .int (g 7), .int (g 8), .int (g 9), .int (g 10), .int (g 11)])), (a0, .inl (cyI, 8, .inl (F 0))), (a1, .inl (cyI, 16, .inl (F 1))), (a2, .inl (cyI, 8, .inl (F 2))), (a3, .inl (cyI, 160, .inl (F 3)))]) cx (c_X7_value l D cyI cyZ h a0 a1 a2 a3 va g F) hP hD hS [0, 1, 2, 3, 4] [(true, 0), (true, 1), (true, 2), (true, 3), (true, 4)] ⟨rfl, rfl, rfl⟩ rfl rfl mm_252 mm_253 mm_254 mm_42 mm_248 dd_X7_value rfl hl.1 rfl dX7_jump_42 rfl (fun H locs hP hD hS => ?_)
      refine lv_aload_n hx hb dX7_jump_45 rfl (lv_at hl 0 rfl) ?_
      refine lv_iload_n hx hb dX7_jump_46 rfl (lv_at hl 3 rfl) ?_
      refine ct_callV (As := [.int vb]) (rest := [.int (r_X7_value va g F)]) (st1 := [.int (r_X7_value vb g F), .int (r_X7_value va g F)]) (V3 := [(h, .inr (7, [.ref a0, .ref a1, .ref a2, .ref a3, .int (g 4), .int (g 5), .int (g 6), .int (g 7), .int (g 8), .int (g 9), .int (g 10), .int (g 11)])), (a0, .inl (cyI, 8, .inl (F 0))), (a1, .inl (cyI, 16, .inl (F 1))), (a2, .inl (cyI, 8, .inl (F 2))), (a3, .inl (cyI, 160, .inl (F 3)))]) cx (c_X7_value l D cyI cyZ h a0 a1 a2 a3 vb g F) hP hD hS [0, 1, 2, 3, 4] [(true, 0), (true, 1), (true, 2), (true, 3), (true, 4)] ⟨rfl, rfl, rfl⟩ rfl rfl mm_252 mm_253 mm_254 mm_42 mm_248 dd_X7_value rfl hl.1 rfl dX7_jump_47 rfl (fun H locs hP hD hS => ?_)
      refine lv_icmp_ne (tgt := 57) hx hb dX7_jump_50 (by decide) (fun c_3 => ?_) (fun c_3 => ?_)
      · skip
        refine lv_iconst (v := (0 : Int32)) hx hb dX7_jump_57 (by decide) ?_
        refine lv_istore (lv' := [(5, .int (0 : Int32)), (0, .ref h), (1, .int op), (2, .int va), (3, .int vb), (4, .int vc)]) hx hb dX7_jump_58 hl (by decide) rfl (fun ls hl => ?_)
        refine lv_iconst (v := (2 : Int32)) hx hb dX7_jump_60 (by decide) ?_
        refine lv_aload_n hx hb dX7_jump_61 rfl (lv_at hl 1 rfl) ?_
        refine ct_get (v := .int (g 9)) cx hP 0 rfl rfl bwX7 9 rfl mm_217 rfl dX7_jump_62 ?_
        refine lv_imul hx hb dX7_jump_65 ?_
        refine lv_iload hx hb dX7_jump_66 (lv_at hl 0 rfl) ?_
        refine lv_if_eq (tgt := 75) hx hb dX7_jump_68 (by decide) (fun c_4 => ?_) (fun c_4 => ?_)
        · skip
          refine lv_iconst (v := (0 : Int32)) hx hb dX7_jump_75 (by decide) ?_
          refine lv_iadd hx hb dX7_jump_76 ?_
          refine lv_istore (lv' := [(6, .int (((2 : Int32) * (g 9)) + (0 : Int32))), (5, .int (0 : Int32)), (0, .ref h), (1, .int op), (2, .int va), (3, .int vb), (4, .int vc)]) hx hb dX7_jump_77 hl (by decide) rfl (fun ls hl => ?_)
          refine lv_iload hx hb dX7_jump_79 (lv_at hl 0 rfl) ?_
          refine ct_callS (As := [.int (((2 : Int32) * (g 9)) + (0 : Int32))]) (rest := []) (st1 := [.int (r_X7_isBranch (((2 : Int32) * (g 9)) + (0 : Int32)))]) (V3 := [(h, .inr (7, [.ref a0, .ref a1, .ref a2, .ref a3, .int (g 4), .int (g 5), .int (g 6), .int (g 7), .int (g 8), .int (g 9), .int (g 10), .int (g 11)])), (a0, .inl (cyI, 8, .inl (F 0))), (a1, .inl (cyI, 16, .inl (F 1))), (a2, .inl (cyI, 8, .inl (F 2))), (a3, .inl (cyI, 160, .inl (F 3)))]) cx (c_X7_isBranch l D cyI cyZ (((2 : Int32) * (g 9)) + (0 : Int32))) hP hD hS [] [(false, 0), (false, 1), (false, 2), (false, 3), (false, 4)] ⟨rfl, rfl, rfl⟩ mm_57 mm_41 mm_42 mm_38 dd_X7_isBranch rfl hl.1 rfl dX7_jump_81 rfl (fun H locs hP hD hS => ?_)
          refine lv_if_eq (tgt := 98) hx hb dX7_jump_84 (by decide) (fun c_5 => ?_) (fun c_5 => ?_)
          · skip
            refine lv_iload hx hb dX7_jump_98 (lv_at hl 1 rfl) ?_
            refine lv_if_eq (tgt := 109) hx hb dX7_jump_100 (by decide) (fun c_6 => ?_) (fun c_6 => ?_)
            · skip
              rw [show r_X7_jump op va vb vc g F = (g, F) from (if_neg c_1).trans ((if_neg c_2).trans ((if_neg c_3).trans (if_pos c_5)))]
              dsimp only
              exact ct_vret cx hP hD hS dX7_jump_109
            · exact absurd c_6 (by decide)
          · skip
            refine lv_aload_n hx hb dX7_jump_87 rfl (lv_at hl 2 rfl) ?_
            refine ct_get (v := .ref a3) cx hP 0 rfl rfl bwX7 3 rfl mm_56 rfl dX7_jump_88 ?_
            refine lv_iload hx hb dX7_jump_91 (lv_at hl 0 rfl) ?_
            refine lv_dup2_11 hx hb dX7_jump_93 rfl rfl ?_
            refine ct_iald cx hP 4 rfl (in_isBranch ‹_›) dX7_jump_94 ?_
            refine lv_iconst (v := (1 : Int32)) hx hb dX7_jump_95 (by decide) ?_
            refine lv_iadd hx hb dX7_jump_96 ?_
            refine ct_iast (V3 := [(h, .inr (7, [.ref a0, .ref a1, .ref a2, .ref a3, .int (g 4), .int (g 5), .int (g 6), .int (g 7), .int (g 8), .int (g 9), .int (g 10), .int (g 11)])), (a0, .inl (cyI, 8, .inl (F 0))), (a1, .inl (cyI, 16, .inl (F 1))), (a2, .inl (cyI, 8, .inl (F 2))), (a3, .inl (cyI, 160, .inl (upd (F 3) ((((2 : Int32) * (g 9)) + (0 : Int32)).toNatClampNeg) (((F 3) ((((2 : Int32) * (g 9)) + (0 : Int32)).toNatClampNeg)) + (1 : Int32)))))]) cx hP hD hS 4 rfl (in_isBranch ‹_›) dX7_jump_97 rfl (fun H locs hP hD hS => ?_)
            refine lv_iload hx hb dX7_jump_98 (lv_at hl 1 rfl) ?_
            refine lv_if_eq (tgt := 109) hx hb dX7_jump_100 (by decide) (fun c_7 => ?_) (fun c_7 => ?_)
            · skip
              rw [show r_X7_jump op va vb vc g F = (g, va_up F 3 (upd (F 3) ((((2 : Int32) * (g 9)) + (0 : Int32)).toNatClampNeg) (((F 3) ((((2 : Int32) * (g 9)) + (0 : Int32)).toNatClampNeg)) + (1 : Int32)))) from (if_neg c_1).trans ((if_neg c_2).trans ((if_neg c_3).trans (if_neg c_5)))]
              dsimp only
              exact ct_vret cx hP hD hS dX7_jump_109
            · exact absurd c_7 (by decide)
        · exact absurd c_4 (by decide)
      · skip
        refine lv_iconst (v := (1 : Int32)) hx hb dX7_jump_53 (by decide) ?_
        refine lv_goto (tgt := 58) hx hb dX7_jump_54 (by decide) ?_
        refine lv_istore (lv' := [(5, .int (1 : Int32)), (0, .ref h), (1, .int op), (2, .int va), (3, .int vb), (4, .int vc)]) hx hb dX7_jump_58 hl (by decide) rfl (fun ls hl => ?_)
        refine lv_iconst (v := (2 : Int32)) hx hb dX7_jump_60 (by decide) ?_
        refine lv_aload_n hx hb dX7_jump_61 rfl (lv_at hl 1 rfl) ?_
        refine ct_get (v := .int (g 9)) cx hP 0 rfl rfl bwX7 9 rfl mm_217 rfl dX7_jump_62 ?_
        refine lv_imul hx hb dX7_jump_65 ?_
        refine lv_iload hx hb dX7_jump_66 (lv_at hl 0 rfl) ?_
        refine lv_if_eq (tgt := 75) hx hb dX7_jump_68 (by decide) (fun c_8 => ?_) (fun c_8 => ?_)
        · exact absurd c_8 (by decide)
        · skip
          refine lv_iconst (v := (1 : Int32)) hx hb dX7_jump_71 (by decide) ?_
          refine lv_goto (tgt := 76) hx hb dX7_jump_72 (by decide) ?_
          refine lv_iadd hx hb dX7_jump_76 ?_
          refine lv_istore (lv' := [(6, .int (((2 : Int32) * (g 9)) + (1 : Int32))), (5, .int (1 : Int32)), (0, .ref h), (1, .int op), (2, .int va), (3, .int vb), (4, .int vc)]) hx hb dX7_jump_77 hl (by decide) rfl (fun ls hl => ?_)
          refine lv_iload hx hb dX7_jump_79 (lv_at hl 0 rfl) ?_
          refine ct_callS (As := [.int (((2 : Int32) * (g 9)) + (1 : Int32))]) (rest := []) (st1 := [.int (r_X7_isBranch (((2 : Int32) * (g 9)) + (1 : Int32)))]) (V3 := [(h, .inr (7, [.ref a0, .ref a1, .ref a2, .ref a3, .int (g 4), .int (g 5), .int (g 6), .int (g 7), .int (g 8), .int (g 9), .int (g 10), .int (g 11)])), (a0, .inl (cyI, 8, .inl (F 0))), (a1, .inl (cyI, 16, .inl (F 1))), (a2, .inl (cyI, 8, .inl (F 2))), (a3, .inl (cyI, 160, .inl (F 3)))]) cx (c_X7_isBranch l D cyI cyZ (((2 : Int32) * (g 9)) + (1 : Int32))) hP hD hS [] [(false, 0), (false, 1), (false, 2), (false, 3), (false, 4)] ⟨rfl, rfl, rfl⟩ mm_57 mm_41 mm_42 mm_38 dd_X7_isBranch rfl hl.1 rfl dX7_jump_81 rfl (fun H locs hP hD hS => ?_)
          refine lv_if_eq (tgt := 98) hx hb dX7_jump_84 (by decide) (fun c_9 => ?_) (fun c_9 => ?_)
          · skip
            refine lv_iload hx hb dX7_jump_98 (lv_at hl 1 rfl) ?_
            refine lv_if_eq (tgt := 109) hx hb dX7_jump_100 (by decide) (fun c_10 => ?_) (fun c_10 => ?_)
            · exact absurd c_10 (by decide)
            · skip
              refine lv_aload_n hx hb dX7_jump_103 rfl (lv_at hl 2 rfl) ?_
              refine lv_iload hx hb dX7_jump_104 (lv_at hl 6 rfl) ?_
              refine ct_put (V3 := [(h, .inr (7, [.ref a0, .ref a1, .ref a2, .ref a3, .int (g 4), .int (g 5), .int (g 6), .int (g 7), .int (g 8), .int (g 9), .int vc, .int (g 11)])), (a0, .inl (cyI, 8, .inl (F 0))), (a1, .inl (cyI, 16, .inl (F 1))), (a2, .inl (cyI, 8, .inl (F 2))), (a3, .inl (cyI, 160, .inl (F 3)))]) cx hP hD hS 0 rfl rfl bwX7 tyX7_ok nmX7 10 rfl mm_218 rfl rfl rfl rfl dX7_jump_106 rfl (fun H locs hP hD hS => ?_)
              rw [show r_X7_jump op va vb vc g F = (upd g 10 vc, F) from (if_neg c_1).trans ((if_neg c_2).trans ((if_pos c_3).trans (if_pos c_9)))]
              dsimp only
              exact ct_vret cx hP hD hS dX7_jump_109
          · skip
            refine lv_aload_n hx hb dX7_jump_87 rfl (lv_at hl 2 rfl) ?_
            refine ct_get (v := .ref a3) cx hP 0 rfl rfl bwX7 3 rfl mm_56 rfl dX7_jump_88 ?_
            refine lv_iload hx hb dX7_jump_91 (lv_at hl 0 rfl) ?_
            refine lv_dup2_11 hx hb dX7_jump_93 rfl rfl ?_
            refine ct_iald cx hP 4 rfl (in_isBranch ‹_›) dX7_jump_94 ?_
            refine lv_iconst (v := (1 : Int32)) hx hb dX7_jump_95 (by decide) ?_
            refine lv_iadd hx hb dX7_jump_96 ?_
            refine ct_iast (V3 := [(h, .inr (7, [.ref a0, .ref a1, .ref a2, .ref a3, .int (g 4), .int (g 5), .int (g 6), .int (g 7), .int (g 8), .int (g 9), .int (g 10), .int (g 11)])), (a0, .inl (cyI, 8, .inl (F 0))), (a1, .inl (cyI, 16, .inl (F 1))), (a2, .inl (cyI, 8, .inl (F 2))), (a3, .inl (cyI, 160, .inl (upd (F 3) ((((2 : Int32) * (g 9)) + (1 : Int32)).toNatClampNeg) (((F 3) ((((2 : Int32) * (g 9)) + (1 : Int32)).toNatClampNeg)) + (1 : Int32)))))]) cx hP hD hS 4 rfl (in_isBranch ‹_›) dX7_jump_97 rfl (fun H locs hP hD hS => ?_)
            refine lv_iload hx hb dX7_jump_98 (lv_at hl 1 rfl) ?_
            refine lv_if_eq (tgt := 109) hx hb dX7_jump_100 (by decide) (fun c_11 => ?_) (fun c_11 => ?_)
            · exact absurd c_11 (by decide)
            · skip
              refine lv_aload_n hx hb dX7_jump_103 rfl (lv_at hl 2 rfl) ?_
              refine lv_iload hx hb dX7_jump_104 (lv_at hl 6 rfl) ?_
              refine ct_put (V3 := [(h, .inr (7, [.ref a0, .ref a1, .ref a2, .ref a3, .int (g 4), .int (g 5), .int (g 6), .int (g 7), .int (g 8), .int (g 9), .int vc, .int (g 11)])), (a0, .inl (cyI, 8, .inl (F 0))), (a1, .inl (cyI, 16, .inl (F 1))), (a2, .inl (cyI, 8, .inl (F 2))), (a3, .inl (cyI, 160, .inl (upd (F 3) ((((2 : Int32) * (g 9)) + (1 : Int32)).toNatClampNeg) (((F 3) ((((2 : Int32) * (g 9)) + (1 : Int32)).toNatClampNeg)) + (1 : Int32)))))]) cx hP hD hS 0 rfl rfl bwX7 tyX7_ok nmX7 10 rfl mm_218 rfl rfl rfl rfl dX7_jump_106 rfl (fun H locs hP hD hS => ?_)
              rw [show r_X7_jump op va vb vc g F = (upd g 10 vc, va_up F 3 (upd (F 3) ((((2 : Int32) * (g 9)) + (1 : Int32)).toNatClampNeg) (((F 3) ((((2 : Int32) * (g 9)) + (1 : Int32)).toNatClampNeg)) + (1 : Int32)))) from (if_neg c_1).trans ((if_neg c_2).trans ((if_pos c_3).trans (if_neg c_9)))]
              dsimp only
              exact ct_vret cx hP hD hS dX7_jump_109
    · skip
      refine lv_aload_n hx hb dX7_jump_19 rfl (lv_at hl 0 rfl) ?_
      refine lv_iload_n hx hb dX7_jump_20 rfl (lv_at hl 2 rfl) ?_
      refine ct_callV (As := [.int va]) (rest := []) (st1 := [.int (r_X7_value va g F)]) (V3 := [(h, .inr (7, [.ref a0, .ref a1, .ref a2, .ref a3, .int (g 4), .int (g 5), .int (g 6), .int (g 7), .int (g 8), .int (g 9), .int (g 10), .int (g 11)])), (a0, .inl (cyI, 8, .inl (F 0))), (a1, .inl (cyI, 16, .inl (F 1))), (a2, .inl (cyI, 8, .inl (F 2))), (a3, .inl (cyI, 160, .inl (F 3)))]) cx (c_X7_value l D cyI cyZ h a0 a1 a2 a3 va g F) hP hD hS [0, 1, 2, 3, 4] [(true, 0), (true, 1), (true, 2), (true, 3), (true, 4)] ⟨rfl, rfl, rfl⟩ rfl rfl mm_252 mm_253 mm_254 mm_42 mm_248 dd_X7_value rfl hl.1 rfl dX7_jump_21 rfl (fun H locs hP hD hS => ?_)
      refine lv_aload_n hx hb dX7_jump_24 rfl (lv_at hl 0 rfl) ?_
      refine lv_iload_n hx hb dX7_jump_25 rfl (lv_at hl 3 rfl) ?_
      refine ct_callV (As := [.int vb]) (rest := [.int (r_X7_value va g F)]) (st1 := [.int (r_X7_value vb g F), .int (r_X7_value va g F)]) (V3 := [(h, .inr (7, [.ref a0, .ref a1, .ref a2, .ref a3, .int (g 4), .int (g 5), .int (g 6), .int (g 7), .int (g 8), .int (g 9), .int (g 10), .int (g 11)])), (a0, .inl (cyI, 8, .inl (F 0))), (a1, .inl (cyI, 16, .inl (F 1))), (a2, .inl (cyI, 8, .inl (F 2))), (a3, .inl (cyI, 160, .inl (F 3)))]) cx (c_X7_value l D cyI cyZ h a0 a1 a2 a3 vb g F) hP hD hS [0, 1, 2, 3, 4] [(true, 0), (true, 1), (true, 2), (true, 3), (true, 4)] ⟨rfl, rfl, rfl⟩ rfl rfl mm_252 mm_253 mm_254 mm_42 mm_248 dd_X7_value rfl hl.1 rfl dX7_jump_26 rfl (fun H locs hP hD hS => ?_)
      refine lv_icmp_ge (tgt := 36) hx hb dX7_jump_29 (by decide) (fun c_12 => ?_) (fun c_12 => ?_)
      · skip
        refine lv_iconst (v := (0 : Int32)) hx hb dX7_jump_36 (by decide) ?_
        refine lv_goto (tgt := 58) hx hb dX7_jump_37 (by decide) ?_
        refine lv_istore (lv' := [(5, .int (0 : Int32)), (0, .ref h), (1, .int op), (2, .int va), (3, .int vb), (4, .int vc)]) hx hb dX7_jump_58 hl (by decide) rfl (fun ls hl => ?_)
        refine lv_iconst (v := (2 : Int32)) hx hb dX7_jump_60 (by decide) ?_
        refine lv_aload_n hx hb dX7_jump_61 rfl (lv_at hl 1 rfl) ?_
        refine ct_get (v := .int (g 9)) cx hP 0 rfl rfl bwX7 9 rfl mm_217 rfl dX7_jump_62 ?_
        refine lv_imul hx hb dX7_jump_65 ?_
        refine lv_iload hx hb dX7_jump_66 (lv_at hl 0 rfl) ?_
        refine lv_if_eq (tgt := 75) hx hb dX7_jump_68 (by decide) (fun c_13 => ?_) (fun c_13 => ?_)
        · skip
          refine lv_iconst (v := (0 : Int32)) hx hb dX7_jump_75 (by decide) ?_
          refine lv_iadd hx hb dX7_jump_76 ?_
          refine lv_istore (lv' := [(6, .int (((2 : Int32) * (g 9)) + (0 : Int32))), (5, .int (0 : Int32)), (0, .ref h), (1, .int op), (2, .int va), (3, .int vb), (4, .int vc)]) hx hb dX7_jump_77 hl (by decide) rfl (fun ls hl => ?_)
          refine lv_iload hx hb dX7_jump_79 (lv_at hl 0 rfl) ?_
          refine ct_callS (As := [.int (((2 : Int32) * (g 9)) + (0 : Int32))]) (rest := []) (st1 := [.int (r_X7_isBranch (((2 : Int32) * (g 9)) + (0 : Int32)))]) (V3 := [(h, .inr (7, [.ref a0, .ref a1, .ref a2, .ref a3, .int (g 4), .int (g 5), .int (g 6), .int (g 7), .int (g 8), .int (g 9), .int (g 10), .int (g 11)])), (a0, .inl (cyI, 8, .inl (F 0))), (a1, .inl (cyI, 16, .inl (F 1))), (a2, .inl (cyI, 8, .inl (F 2))), (a3, .inl (cyI, 160, .inl (F 3)))]) cx (c_X7_isBranch l D cyI cyZ (((2 : Int32) * (g 9)) + (0 : Int32))) hP hD hS [] [(false, 0), (false, 1), (false, 2), (false, 3), (false, 4)] ⟨rfl, rfl, rfl⟩ mm_57 mm_41 mm_42 mm_38 dd_X7_isBranch rfl hl.1 rfl dX7_jump_81 rfl (fun H locs hP hD hS => ?_)
          refine lv_if_eq (tgt := 98) hx hb dX7_jump_84 (by decide) (fun c_14 => ?_) (fun c_14 => ?_)
          · skip
            refine lv_iload hx hb dX7_jump_98 (lv_at hl 1 rfl) ?_
            refine lv_if_eq (tgt := 109) hx hb dX7_jump_100 (by decide) (fun c_15 => ?_) (fun c_15 => ?_)
            · skip
              rw [show r_X7_jump op va vb vc g F = (g, F) from (if_neg c_1).trans ((if_pos c_2).trans ((if_pos c_12).trans (if_pos c_14)))]
              dsimp only
              exact ct_vret cx hP hD hS dX7_jump_109
            · exact absurd c_15 (by decide)
          · skip
            refine lv_aload_n hx hb dX7_jump_87 rfl (lv_at hl 2 rfl) ?_
            refine ct_get (v := .ref a3) cx hP 0 rfl rfl bwX7 3 rfl mm_56 rfl dX7_jump_88 ?_
            refine lv_iload hx hb dX7_jump_91 (lv_at hl 0 rfl) ?_
            refine lv_dup2_11 hx hb dX7_jump_93 rfl rfl ?_
            refine ct_iald cx hP 4 rfl (in_isBranch ‹_›) dX7_jump_94 ?_
            refine lv_iconst (v := (1 : Int32)) hx hb dX7_jump_95 (by decide) ?_
            refine lv_iadd hx hb dX7_jump_96 ?_
            refine ct_iast (V3 := [(h, .inr (7, [.ref a0, .ref a1, .ref a2, .ref a3, .int (g 4), .int (g 5), .int (g 6), .int (g 7), .int (g 8), .int (g 9), .int (g 10), .int (g 11)])), (a0, .inl (cyI, 8, .inl (F 0))), (a1, .inl (cyI, 16, .inl (F 1))), (a2, .inl (cyI, 8, .inl (F 2))), (a3, .inl (cyI, 160, .inl (upd (F 3) ((((2 : Int32) * (g 9)) + (0 : Int32)).toNatClampNeg) (((F 3) ((((2 : Int32) * (g 9)) + (0 : Int32)).toNatClampNeg)) + (1 : Int32)))))]) cx hP hD hS 4 rfl (in_isBranch ‹_›) dX7_jump_97 rfl (fun H locs hP hD hS => ?_)
            refine lv_iload hx hb dX7_jump_98 (lv_at hl 1 rfl) ?_
            refine lv_if_eq (tgt := 109) hx hb dX7_jump_100 (by decide) (fun c_16 => ?_) (fun c_16 => ?_)
            · skip
              rw [show r_X7_jump op va vb vc g F = (g, va_up F 3 (upd (F 3) ((((2 : Int32) * (g 9)) + (0 : Int32)).toNatClampNeg) (((F 3) ((((2 : Int32) * (g 9)) + (0 : Int32)).toNatClampNeg)) + (1 : Int32)))) from (if_neg c_1).trans ((if_pos c_2).trans ((if_pos c_12).trans (if_neg c_14)))]
              dsimp only
              exact ct_vret cx hP hD hS dX7_jump_109
            · exact absurd c_16 (by decide)
        · exact absurd c_13 (by decide)
      · skip
        refine lv_iconst (v := (1 : Int32)) hx hb dX7_jump_32 (by decide) ?_
        refine lv_goto (tgt := 58) hx hb dX7_jump_33 (by decide) ?_
        refine lv_istore (lv' := [(5, .int (1 : Int32)), (0, .ref h), (1, .int op), (2, .int va), (3, .int vb), (4, .int vc)]) hx hb dX7_jump_58 hl (by decide) rfl (fun ls hl => ?_)
        refine lv_iconst (v := (2 : Int32)) hx hb dX7_jump_60 (by decide) ?_
        refine lv_aload_n hx hb dX7_jump_61 rfl (lv_at hl 1 rfl) ?_
        refine ct_get (v := .int (g 9)) cx hP 0 rfl rfl bwX7 9 rfl mm_217 rfl dX7_jump_62 ?_
        refine lv_imul hx hb dX7_jump_65 ?_
        refine lv_iload hx hb dX7_jump_66 (lv_at hl 0 rfl) ?_
        refine lv_if_eq (tgt := 75) hx hb dX7_jump_68 (by decide) (fun c_17 => ?_) (fun c_17 => ?_)
        · exact absurd c_17 (by decide)
        · skip
          refine lv_iconst (v := (1 : Int32)) hx hb dX7_jump_71 (by decide) ?_
          refine lv_goto (tgt := 76) hx hb dX7_jump_72 (by decide) ?_
          refine lv_iadd hx hb dX7_jump_76 ?_
          refine lv_istore (lv' := [(6, .int (((2 : Int32) * (g 9)) + (1 : Int32))), (5, .int (1 : Int32)), (0, .ref h), (1, .int op), (2, .int va), (3, .int vb), (4, .int vc)]) hx hb dX7_jump_77 hl (by decide) rfl (fun ls hl => ?_)
          refine lv_iload hx hb dX7_jump_79 (lv_at hl 0 rfl) ?_
          refine ct_callS (As := [.int (((2 : Int32) * (g 9)) + (1 : Int32))]) (rest := []) (st1 := [.int (r_X7_isBranch (((2 : Int32) * (g 9)) + (1 : Int32)))]) (V3 := [(h, .inr (7, [.ref a0, .ref a1, .ref a2, .ref a3, .int (g 4), .int (g 5), .int (g 6), .int (g 7), .int (g 8), .int (g 9), .int (g 10), .int (g 11)])), (a0, .inl (cyI, 8, .inl (F 0))), (a1, .inl (cyI, 16, .inl (F 1))), (a2, .inl (cyI, 8, .inl (F 2))), (a3, .inl (cyI, 160, .inl (F 3)))]) cx (c_X7_isBranch l D cyI cyZ (((2 : Int32) * (g 9)) + (1 : Int32))) hP hD hS [] [(false, 0), (false, 1), (false, 2), (false, 3), (false, 4)] ⟨rfl, rfl, rfl⟩ mm_57 mm_41 mm_42 mm_38 dd_X7_isBranch rfl hl.1 rfl dX7_jump_81 rfl (fun H locs hP hD hS => ?_)
          refine lv_if_eq (tgt := 98) hx hb dX7_jump_84 (by decide) (fun c_18 => ?_) (fun c_18 => ?_)
          · skip
            refine lv_iload hx hb dX7_jump_98 (lv_at hl 1 rfl) ?_
            refine lv_if_eq (tgt := 109) hx hb dX7_jump_100 (by decide) (fun c_19 => ?_) (fun c_19 => ?_)
            · exact absurd c_19 (by decide)
            · skip
              refine lv_aload_n hx hb dX7_jump_103 rfl (lv_at hl 2 rfl) ?_
              refine lv_iload hx hb dX7_jump_104 (lv_at hl 6 rfl) ?_
              refine ct_put (V3 := [(h, .inr (7, [.ref a0, .ref a1, .ref a2, .ref a3, .int (g 4), .int (g 5), .int (g 6), .int (g 7), .int (g 8), .int (g 9), .int vc, .int (g 11)])), (a0, .inl (cyI, 8, .inl (F 0))), (a1, .inl (cyI, 16, .inl (F 1))), (a2, .inl (cyI, 8, .inl (F 2))), (a3, .inl (cyI, 160, .inl (F 3)))]) cx hP hD hS 0 rfl rfl bwX7 tyX7_ok nmX7 10 rfl mm_218 rfl rfl rfl rfl dX7_jump_106 rfl (fun H locs hP hD hS => ?_)
              rw [show r_X7_jump op va vb vc g F = (upd g 10 vc, F) from (if_neg c_1).trans ((if_pos c_2).trans ((if_neg c_12).trans (if_pos c_18)))]
              dsimp only
              exact ct_vret cx hP hD hS dX7_jump_109
          · skip
            refine lv_aload_n hx hb dX7_jump_87 rfl (lv_at hl 2 rfl) ?_
            refine ct_get (v := .ref a3) cx hP 0 rfl rfl bwX7 3 rfl mm_56 rfl dX7_jump_88 ?_
            refine lv_iload hx hb dX7_jump_91 (lv_at hl 0 rfl) ?_
            refine lv_dup2_11 hx hb dX7_jump_93 rfl rfl ?_
            refine ct_iald cx hP 4 rfl (in_isBranch ‹_›) dX7_jump_94 ?_
            refine lv_iconst (v := (1 : Int32)) hx hb dX7_jump_95 (by decide) ?_
            refine lv_iadd hx hb dX7_jump_96 ?_
            refine ct_iast (V3 := [(h, .inr (7, [.ref a0, .ref a1, .ref a2, .ref a3, .int (g 4), .int (g 5), .int (g 6), .int (g 7), .int (g 8), .int (g 9), .int (g 10), .int (g 11)])), (a0, .inl (cyI, 8, .inl (F 0))), (a1, .inl (cyI, 16, .inl (F 1))), (a2, .inl (cyI, 8, .inl (F 2))), (a3, .inl (cyI, 160, .inl (upd (F 3) ((((2 : Int32) * (g 9)) + (1 : Int32)).toNatClampNeg) (((F 3) ((((2 : Int32) * (g 9)) + (1 : Int32)).toNatClampNeg)) + (1 : Int32)))))]) cx hP hD hS 4 rfl (in_isBranch ‹_›) dX7_jump_97 rfl (fun H locs hP hD hS => ?_)
            refine lv_iload hx hb dX7_jump_98 (lv_at hl 1 rfl) ?_
            refine lv_if_eq (tgt := 109) hx hb dX7_jump_100 (by decide) (fun c_20 => ?_) (fun c_20 => ?_)
            · exact absurd c_20 (by decide)
            · skip
              refine lv_aload_n hx hb dX7_jump_103 rfl (lv_at hl 2 rfl) ?_
              refine lv_iload hx hb dX7_jump_104 (lv_at hl 6 rfl) ?_
              refine ct_put (V3 := [(h, .inr (7, [.ref a0, .ref a1, .ref a2, .ref a3, .int (g 4), .int (g 5), .int (g 6), .int (g 7), .int (g 8), .int (g 9), .int vc, .int (g 11)])), (a0, .inl (cyI, 8, .inl (F 0))), (a1, .inl (cyI, 16, .inl (F 1))), (a2, .inl (cyI, 8, .inl (F 2))), (a3, .inl (cyI, 160, .inl (upd (F 3) ((((2 : Int32) * (g 9)) + (1 : Int32)).toNatClampNeg) (((F 3) ((((2 : Int32) * (g 9)) + (1 : Int32)).toNatClampNeg)) + (1 : Int32)))))]) cx hP hD hS 0 rfl rfl bwX7 tyX7_ok nmX7 10 rfl mm_218 rfl rfl rfl rfl dX7_jump_106 rfl (fun H locs hP hD hS => ?_)
              rw [show r_X7_jump op va vb vc g F = (upd g 10 vc, va_up F 3 (upd (F 3) ((((2 : Int32) * (g 9)) + (1 : Int32)).toNatClampNeg) (((F 3) ((((2 : Int32) * (g 9)) + (1 : Int32)).toNatClampNeg)) + (1 : Int32)))) from (if_neg c_1).trans ((if_pos c_2).trans ((if_neg c_12).trans (if_neg c_18)))]
              dsimp only
              exact ct_vret cx hP hD hS dX7_jump_109
  · skip
    refine lv_aload_n hx hb dX7_jump_6 rfl (lv_at hl 0 rfl) ?_
    refine lv_iload hx hb dX7_jump_7 (lv_at hl 4 rfl) ?_
    refine ct_put (V3 := [(h, .inr (7, [.ref a0, .ref a1, .ref a2, .ref a3, .int (g 4), .int (g 5), .int (g 6), .int (g 7), .int (g 8), .int (g 9), .int vc, .int (g 11)])), (a0, .inl (cyI, 8, .inl (F 0))), (a1, .inl (cyI, 16, .inl (F 1))), (a2, .inl (cyI, 8, .inl (F 2))), (a3, .inl (cyI, 160, .inl (F 3)))]) cx hP hD hS 0 rfl rfl bwX7 tyX7_ok nmX7 10 rfl mm_218 rfl rfl rfl rfl dX7_jump_9 rfl (fun H locs hP hD hS => ?_)
    rw [show r_X7_jump op va vb vc g F = (upd g 10 vc, F) from if_pos c_1]
    dsimp only
    exact ct_vret cx hP hD hS dX7_jump_12
def r_X7_openCallTo (vc : Int32) (g : Nat → Int32) (F : Nat → Nat → Int32) : (Nat → Int32) × (Nat → Nat → Int32) := if (g 4) < (0 : Int32) then (let u_2 : (Nat → Int32) := r_X7_fail (3 : Int32) g F; (u_2, F)) else if (g 4) < (8 : Int32) then (upd (upd g 4 ((g 4) + (1 : Int32))) 10 vc, va_up F 2 (upd (F 2) ((g 4).toNatClampNeg) (g 9))) else let u_4 : (Nat → Int32) := r_X7_fail (3 : Int32) g F; (u_4, F)
set_option maxHeartbeats 4000000 in
set_option maxRecDepth 100000 in
theorem c_X7_openCallTo (l : Launch) (D : va_G) (cyI cyZ : ClassId) (h : Nat) (a0 : Nat) (a1 : Nat) (a2 : Nat) (a3 : Nat) (vc : Int32) (g : Nat → Int32) (F : Nat → Nat → Int32)  : CT l D cyI cyZ yX7_openCallTo cX7_openCallTo 2 none ({ frames := 1, cells := 0, slots := 0, locals := 21 }) [.ref h, .int vc] [(h, .inr (7, [.ref a0, .ref a1, .ref a2, .ref a3, .int (g 4), .int (g 5), .int (g 6), .int (g 7), .int (g 8), .int (g 9), .int (g 10), .int (g 11)])), (a0, .inl (cyI, 8, .inl (F 0))), (a1, .inl (cyI, 16, .inl (F 1))), (a2, .inl (cyI, 8, .inl (F 2))), (a3, .inl (cyI, 160, .inl (F 3)))] none [(h, .inr (7, [.ref a0, .ref a1, .ref a2, .ref a3, .int (((r_X7_openCallTo vc g F).1) 4), .int (((r_X7_openCallTo vc g F).1) 5), .int (((r_X7_openCallTo vc g F).1) 6), .int (((r_X7_openCallTo vc g F).1) 7), .int (((r_X7_openCallTo vc g F).1) 8), .int (((r_X7_openCallTo vc g F).1) 9), .int (((r_X7_openCallTo vc g F).1) 10), .int (((r_X7_openCallTo vc g F).1) 11)])), (a0, .inl (cyI, 8, .inl (((r_X7_openCallTo vc g F).2) 0))), (a1, .inl (cyI, 16, .inl (((r_X7_openCallTo vc g F).2) 1))), (a2, .inl (cyI, 8, .inl (((r_X7_openCallTo vc g F).2) 2))), (a3, .inl (cyI, 160, .inl (((r_X7_openCallTo vc g F).2) 3)))] := by
  refine ct_intro (by decide) (Nat.le_of_ble_eq_true rfl) ?_
  intro p e s m below meth c A ls cx hP hD hS hl
  obtain ⟨hx, hb, -⟩ := id cx
  refine lv_aload_n hx hb dX7_openCallTo_0 rfl (lv_at hl 0 rfl) ?_
  refine ct_get (v := .int (g 4)) cx hP 0 rfl rfl bwX7 4 rfl mm_91 rfl dX7_openCallTo_1 ?_
  refine lv_if_lt (tgt := 16) hx hb dX7_openCallTo_4 (by decide) (fun c_1 => ?_) (fun c_1 => ?_)
  · skip
    refine lv_aload_n hx hb dX7_openCallTo_16 rfl (lv_at hl 0 rfl) ?_
    refine lv_iconst (v := (3 : Int32)) hx hb dX7_openCallTo_17 (by decide) ?_
    refine ct_callV (As := [.int (3 : Int32)]) (rest := []) (st1 := []) (V3 := [(h, .inr (7, [.ref a0, .ref a1, .ref a2, .ref a3, .int ((r_X7_fail (3 : Int32) g F) 4), .int ((r_X7_fail (3 : Int32) g F) 5), .int ((r_X7_fail (3 : Int32) g F) 6), .int ((r_X7_fail (3 : Int32) g F) 7), .int ((r_X7_fail (3 : Int32) g F) 8), .int ((r_X7_fail (3 : Int32) g F) 9), .int ((r_X7_fail (3 : Int32) g F) 10), .int ((r_X7_fail (3 : Int32) g F) 11)])), (a0, .inl (cyI, 8, .inl (F 0))), (a1, .inl (cyI, 16, .inl (F 1))), (a2, .inl (cyI, 8, .inl (F 2))), (a3, .inl (cyI, 160, .inl (F 3)))]) cx (c_X7_fail l D cyI cyZ h a0 a1 a2 a3 (3 : Int32) g F) hP hD hS [0, 1, 2, 3, 4] [(true, 0), (true, 1), (true, 2), (true, 3), (true, 4)] ⟨rfl, rfl, rfl⟩ rfl rfl mm_258 mm_259 mm_260 mm_42 mm_250 dd_X7_fail rfl hl.1 rfl dX7_openCallTo_18 rfl (fun H locs hP hD hS => ?_)
    obtain ⟨u_2, hu_2⟩ : ∃ z, z = r_X7_fail (3 : Int32) g F := ⟨_, rfl⟩
    rw [← hu_2] at hP hD
    rw [show r_X7_openCallTo vc g F = (u_2, F) from (by subst hu_2; exact if_pos c_1)]
    dsimp only
    exact ct_vret cx hP hD hS dX7_openCallTo_21
  · skip
    refine lv_aload_n hx hb dX7_openCallTo_7 rfl (lv_at hl 0 rfl) ?_
    refine ct_get (v := .int (g 4)) cx hP 0 rfl rfl bwX7 4 rfl mm_91 rfl dX7_openCallTo_8 ?_
    refine lv_bipush (v := (8 : Int32)) hx hb dX7_openCallTo_11 (by decide) ?_
    refine lv_icmp_lt (tgt := 22) hx hb dX7_openCallTo_13 (by decide) (fun c_3 => ?_) (fun c_3 => ?_)
    · skip
      refine lv_aload_n hx hb dX7_openCallTo_22 rfl (lv_at hl 0 rfl) ?_
      refine ct_get (v := .ref a2) cx hP 0 rfl rfl bwX7 2 rfl mm_92 rfl dX7_openCallTo_23 ?_
      refine lv_aload_n hx hb dX7_openCallTo_26 rfl (lv_at hl 0 rfl) ?_
      refine ct_get (v := .int (g 4)) cx hP 0 rfl rfl bwX7 4 rfl mm_91 rfl dX7_openCallTo_27 ?_
      refine lv_aload_n hx hb dX7_openCallTo_30 rfl (lv_at hl 0 rfl) ?_
      refine ct_get (v := .int (g 9)) cx hP 0 rfl rfl bwX7 9 rfl mm_217 rfl dX7_openCallTo_31 ?_
      refine ct_iast (V3 := [(h, .inr (7, [.ref a0, .ref a1, .ref a2, .ref a3, .int (g 4), .int (g 5), .int (g 6), .int (g 7), .int (g 8), .int (g 9), .int (g 10), .int (g 11)])), (a0, .inl (cyI, 8, .inl (F 0))), (a1, .inl (cyI, 16, .inl (F 1))), (a2, .inl (cyI, 8, .inl (upd (F 2) ((g 4).toNatClampNeg) (g 9)))), (a3, .inl (cyI, 160, .inl (F 3)))]) cx hP hD hS 3 rfl (vp_of (Or.inl c_1) (Or.inr c_3) rfl) dX7_openCallTo_34 rfl (fun H locs hP hD hS => ?_)
      refine lv_aload_n hx hb dX7_openCallTo_35 rfl (lv_at hl 0 rfl) ?_
      refine lv_dup hx hb dX7_openCallTo_36 rfl ?_
      refine ct_get (v := .int (g 4)) cx hP 0 rfl rfl bwX7 4 rfl mm_91 rfl dX7_openCallTo_37 ?_
      refine lv_iconst (v := (1 : Int32)) hx hb dX7_openCallTo_40 (by decide) ?_
      refine lv_iadd hx hb dX7_openCallTo_41 ?_
      refine ct_put (V3 := [(h, .inr (7, [.ref a0, .ref a1, .ref a2, .ref a3, .int ((g 4) + (1 : Int32)), .int (g 5), .int (g 6), .int (g 7), .int (g 8), .int (g 9), .int (g 10), .int (g 11)])), (a0, .inl (cyI, 8, .inl (F 0))), (a1, .inl (cyI, 16, .inl (F 1))), (a2, .inl (cyI, 8, .inl (upd (F 2) ((g 4).toNatClampNeg) (g 9)))), (a3, .inl (cyI, 160, .inl (F 3)))]) cx hP hD hS 0 rfl rfl bwX7 tyX7_ok nmX7 4 rfl mm_91 rfl rfl rfl rfl dX7_openCallTo_42 rfl (fun H locs hP hD hS => ?_)
      refine lv_aload_n hx hb dX7_openCallTo_45 rfl (lv_at hl 0 rfl) ?_
      refine lv_iload_n hx hb dX7_openCallTo_46 rfl (lv_at hl 1 rfl) ?_
      refine ct_put (V3 := [(h, .inr (7, [.ref a0, .ref a1, .ref a2, .ref a3, .int ((g 4) + (1 : Int32)), .int (g 5), .int (g 6), .int (g 7), .int (g 8), .int (g 9), .int vc, .int (g 11)])), (a0, .inl (cyI, 8, .inl (F 0))), (a1, .inl (cyI, 16, .inl (F 1))), (a2, .inl (cyI, 8, .inl (upd (F 2) ((g 4).toNatClampNeg) (g 9)))), (a3, .inl (cyI, 160, .inl (F 3)))]) cx hP hD hS 0 rfl rfl bwX7 tyX7_ok nmX7 10 rfl mm_218 rfl rfl rfl rfl dX7_openCallTo_47 rfl (fun H locs hP hD hS => ?_)
      rw [show r_X7_openCallTo vc g F = (upd (upd g 4 ((g 4) + (1 : Int32))) 10 vc, va_up F 2 (upd (F 2) ((g 4).toNatClampNeg) (g 9))) from (if_neg c_1).trans (if_pos c_3)]
      dsimp only
      exact ct_vret cx hP hD hS dX7_openCallTo_50
    · skip
      refine lv_aload_n hx hb dX7_openCallTo_16 rfl (lv_at hl 0 rfl) ?_
      refine lv_iconst (v := (3 : Int32)) hx hb dX7_openCallTo_17 (by decide) ?_
      refine ct_callV (As := [.int (3 : Int32)]) (rest := []) (st1 := []) (V3 := [(h, .inr (7, [.ref a0, .ref a1, .ref a2, .ref a3, .int ((r_X7_fail (3 : Int32) g F) 4), .int ((r_X7_fail (3 : Int32) g F) 5), .int ((r_X7_fail (3 : Int32) g F) 6), .int ((r_X7_fail (3 : Int32) g F) 7), .int ((r_X7_fail (3 : Int32) g F) 8), .int ((r_X7_fail (3 : Int32) g F) 9), .int ((r_X7_fail (3 : Int32) g F) 10), .int ((r_X7_fail (3 : Int32) g F) 11)])), (a0, .inl (cyI, 8, .inl (F 0))), (a1, .inl (cyI, 16, .inl (F 1))), (a2, .inl (cyI, 8, .inl (F 2))), (a3, .inl (cyI, 160, .inl (F 3)))]) cx (c_X7_fail l D cyI cyZ h a0 a1 a2 a3 (3 : Int32) g F) hP hD hS [0, 1, 2, 3, 4] [(true, 0), (true, 1), (true, 2), (true, 3), (true, 4)] ⟨rfl, rfl, rfl⟩ rfl rfl mm_258 mm_259 mm_260 mm_42 mm_250 dd_X7_fail rfl hl.1 rfl dX7_openCallTo_18 rfl (fun H locs hP hD hS => ?_)
      obtain ⟨u_4, hu_4⟩ : ∃ z, z = r_X7_fail (3 : Int32) g F := ⟨_, rfl⟩
      rw [← hu_4] at hP hD
      rw [show r_X7_openCallTo vc g F = (u_4, F) from (by subst hu_4; exact (if_neg c_1).trans (if_neg c_3))]
      dsimp only
      exact ct_vret cx hP hD hS dX7_openCallTo_21
def r_X7_goBack (g : Nat → Int32) (F : Nat → Nat → Int32) : (Nat → Int32) := if (r_X7_openCall (0 : Int32) g F) = (-1 : Int32) then upd g 11 (0 : Int32) else upd (upd g 4 ((g 4) - (1 : Int32))) 10 ((r_X7_openCall (0 : Int32) g F) + (1 : Int32))
set_option maxHeartbeats 4000000 in
set_option maxRecDepth 100000 in
theorem c_X7_goBack (l : Launch) (D : va_G) (cyI cyZ : ClassId) (h : Nat) (a0 : Nat) (a1 : Nat) (a2 : Nat) (a3 : Nat) (g : Nat → Int32) (F : Nat → Nat → Int32)  : CT l D cyI cyZ yX7_goBack cX7_goBack 2 none ({ frames := 1, cells := 0, slots := 0, locals := 21 }) [.ref h] [(h, .inr (7, [.ref a0, .ref a1, .ref a2, .ref a3, .int (g 4), .int (g 5), .int (g 6), .int (g 7), .int (g 8), .int (g 9), .int (g 10), .int (g 11)])), (a0, .inl (cyI, 8, .inl (F 0))), (a1, .inl (cyI, 16, .inl (F 1))), (a2, .inl (cyI, 8, .inl (F 2))), (a3, .inl (cyI, 160, .inl (F 3)))] none [(h, .inr (7, [.ref a0, .ref a1, .ref a2, .ref a3, .int ((r_X7_goBack g F) 4), .int ((r_X7_goBack g F) 5), .int ((r_X7_goBack g F) 6), .int ((r_X7_goBack g F) 7), .int ((r_X7_goBack g F) 8), .int ((r_X7_goBack g F) 9), .int ((r_X7_goBack g F) 10), .int ((r_X7_goBack g F) 11)])), (a0, .inl (cyI, 8, .inl (F 0))), (a1, .inl (cyI, 16, .inl (F 1))), (a2, .inl (cyI, 8, .inl (F 2))), (a3, .inl (cyI, 160, .inl (F 3)))] := by
  refine ct_intro (by decide) (Nat.le_of_ble_eq_true rfl) ?_
  intro p e s m below meth c A ls cx hP hD hS hl
  obtain ⟨hx, hb, -⟩ := id cx
  refine lv_aload_n hx hb dX7_goBack_0 rfl (lv_at hl 0 rfl) ?_
  refine lv_iconst (v := (0 : Int32)) hx hb dX7_goBack_1 (by decide) ?_
  refine ct_callV (As := [.int (0 : Int32)]) (rest := []) (st1 := [.int (r_X7_openCall (0 : Int32) g F)]) (V3 := [(h, .inr (7, [.ref a0, .ref a1, .ref a2, .ref a3, .int (g 4), .int (g 5), .int (g 6), .int (g 7), .int (g 8), .int (g 9), .int (g 10), .int (g 11)])), (a0, .inl (cyI, 8, .inl (F 0))), (a1, .inl (cyI, 16, .inl (F 1))), (a2, .inl (cyI, 8, .inl (F 2))), (a3, .inl (cyI, 160, .inl (F 3)))]) cx (c_X7_openCall l D cyI cyZ h a0 a1 a2 a3 (0 : Int32) g F) hP hD hS [0, 1, 2, 3, 4] [(true, 0), (true, 1), (true, 2), (true, 3), (true, 4)] ⟨rfl, rfl, rfl⟩ rfl rfl mm_272 mm_103 mm_104 mm_42 mm_90 dd_X7_openCall rfl hl.1 rfl dX7_goBack_2 rfl (fun H locs hP hD hS => ?_)
  refine lv_istore_n (lv' := [(1, .int (r_X7_openCall (0 : Int32) g F)), (0, .ref h)]) hx hb dX7_goBack_5 rfl hl (by decide) rfl (fun ls hl => ?_)
  refine lv_iload_n hx hb dX7_goBack_6 rfl (lv_at hl 0 rfl) ?_
  refine lv_iconst (v := (-1 : Int32)) hx hb dX7_goBack_7 (by decide) ?_
  refine lv_icmp_ne (tgt := 17) hx hb dX7_goBack_8 (by decide) (fun c_1 => ?_) (fun c_1 => ?_)
  · skip
    refine lv_aload_n hx hb dX7_goBack_17 rfl (lv_at hl 1 rfl) ?_
    refine lv_dup hx hb dX7_goBack_18 rfl ?_
    refine ct_get (v := .int (g 4)) cx hP 0 rfl rfl bwX7 4 rfl mm_91 rfl dX7_goBack_19 ?_
    refine lv_iconst (v := (1 : Int32)) hx hb dX7_goBack_22 (by decide) ?_
    refine lv_isub hx hb dX7_goBack_23 ?_
    refine ct_put (V3 := [(h, .inr (7, [.ref a0, .ref a1, .ref a2, .ref a3, .int ((g 4) - (1 : Int32)), .int (g 5), .int (g 6), .int (g 7), .int (g 8), .int (g 9), .int (g 10), .int (g 11)])), (a0, .inl (cyI, 8, .inl (F 0))), (a1, .inl (cyI, 16, .inl (F 1))), (a2, .inl (cyI, 8, .inl (F 2))), (a3, .inl (cyI, 160, .inl (F 3)))]) cx hP hD hS 0 rfl rfl bwX7 tyX7_ok nmX7 4 rfl mm_91 rfl rfl rfl rfl dX7_goBack_24 rfl (fun H locs hP hD hS => ?_)
    refine lv_aload_n hx hb dX7_goBack_27 rfl (lv_at hl 1 rfl) ?_
    refine lv_iload_n hx hb dX7_goBack_28 rfl (lv_at hl 0 rfl) ?_
    refine lv_iconst (v := (1 : Int32)) hx hb dX7_goBack_29 (by decide) ?_
    refine lv_iadd hx hb dX7_goBack_30 ?_
    refine ct_put (V3 := [(h, .inr (7, [.ref a0, .ref a1, .ref a2, .ref a3, .int ((g 4) - (1 : Int32)), .int (g 5), .int (g 6), .int (g 7), .int (g 8), .int (g 9), .int ((r_X7_openCall (0 : Int32) g F) + (1 : Int32)), .int (g 11)])), (a0, .inl (cyI, 8, .inl (F 0))), (a1, .inl (cyI, 16, .inl (F 1))), (a2, .inl (cyI, 8, .inl (F 2))), (a3, .inl (cyI, 160, .inl (F 3)))]) cx hP hD hS 0 rfl rfl bwX7 tyX7_ok nmX7 10 rfl mm_218 rfl rfl rfl rfl dX7_goBack_31 rfl (fun H locs hP hD hS => ?_)
    rw [show r_X7_goBack g F = upd (upd g 4 ((g 4) - (1 : Int32))) 10 ((r_X7_openCall (0 : Int32) g F) + (1 : Int32)) from if_neg c_1]
    exact ct_vret cx hP hD hS dX7_goBack_34
  · skip
    refine lv_aload_n hx hb dX7_goBack_11 rfl (lv_at hl 1 rfl) ?_
    refine lv_iconst (v := (0 : Int32)) hx hb dX7_goBack_12 (by decide) ?_
    refine ct_put (V3 := [(h, .inr (7, [.ref a0, .ref a1, .ref a2, .ref a3, .int (g 4), .int (g 5), .int (g 6), .int (g 7), .int (g 8), .int (g 9), .int (g 10), .int (0 : Int32)])), (a0, .inl (cyI, 8, .inl (F 0))), (a1, .inl (cyI, 16, .inl (F 1))), (a2, .inl (cyI, 8, .inl (F 2))), (a3, .inl (cyI, 160, .inl (F 3)))]) cx hP hD hS 0 rfl rfl bwX7 tyX7_ok nmX7 11 rfl mm_219 rfl rfl rfl rfl dX7_goBack_13 rfl (fun H locs hP hD hS => ?_)
    rw [show r_X7_goBack g F = upd g 11 (0 : Int32) from if_pos c_1]
    exact ct_vret cx hP hD hS dX7_goBack_16
def r_X7_checkOrEnd (op : Int32) (va : Int32) (g : Nat → Int32) (F : Nat → Nat → Int32) : (Nat → Int32) := if op = (16 : Int32) then (if (r_X7_value va g F) = (0 : Int32) then (let u_3 : (Nat → Int32) := r_X7_fail (4 : Int32) g F; u_3) else g) else upd g 11 (0 : Int32)
set_option maxHeartbeats 4000000 in
set_option maxRecDepth 100000 in
theorem c_X7_checkOrEnd (l : Launch) (D : va_G) (cyI cyZ : ClassId) (h : Nat) (a0 : Nat) (a1 : Nat) (a2 : Nat) (a3 : Nat) (op : Int32) (va : Int32) (g : Nat → Int32) (F : Nat → Nat → Int32)  : CT l D cyI cyZ yX7_checkOrEnd cX7_checkOrEnd 3 none ({ frames := 1, cells := 0, slots := 0, locals := 21 }) [.ref h, .int op, .int va] [(h, .inr (7, [.ref a0, .ref a1, .ref a2, .ref a3, .int (g 4), .int (g 5), .int (g 6), .int (g 7), .int (g 8), .int (g 9), .int (g 10), .int (g 11)])), (a0, .inl (cyI, 8, .inl (F 0))), (a1, .inl (cyI, 16, .inl (F 1))), (a2, .inl (cyI, 8, .inl (F 2))), (a3, .inl (cyI, 160, .inl (F 3)))] none [(h, .inr (7, [.ref a0, .ref a1, .ref a2, .ref a3, .int ((r_X7_checkOrEnd op va g F) 4), .int ((r_X7_checkOrEnd op va g F) 5), .int ((r_X7_checkOrEnd op va g F) 6), .int ((r_X7_checkOrEnd op va g F) 7), .int ((r_X7_checkOrEnd op va g F) 8), .int ((r_X7_checkOrEnd op va g F) 9), .int ((r_X7_checkOrEnd op va g F) 10), .int ((r_X7_checkOrEnd op va g F) 11)])), (a0, .inl (cyI, 8, .inl (F 0))), (a1, .inl (cyI, 16, .inl (F 1))), (a2, .inl (cyI, 8, .inl (F 2))), (a3, .inl (cyI, 160, .inl (F 3)))] := by
  refine ct_intro (by decide) (Nat.le_of_ble_eq_true rfl) ?_
  intro p e s m below meth c A ls cx hP hD hS hl
  obtain ⟨hx, hb, -⟩ := id cx
  refine lv_iload_n hx hb dX7_checkOrEnd_0 rfl (lv_at hl 1 rfl) ?_
  refine lv_bipush (v := (16 : Int32)) hx hb dX7_checkOrEnd_1 (by decide) ?_
  refine lv_icmp_eq (tgt := 14) hx hb dX7_checkOrEnd_3 (by decide) (fun c_1 => ?_) (fun c_1 => ?_)
  · skip
    refine lv_aload_n hx hb dX7_checkOrEnd_14 rfl (lv_at hl 0 rfl) ?_
    refine lv_iload_n hx hb dX7_checkOrEnd_15 rfl (lv_at hl 2 rfl) ?_
    refine ct_callV (As := [.int va]) (rest := []) (st1 := [.int (r_X7_value va g F)]) (V3 := [(h, .inr (7, [.ref a0, .ref a1, .ref a2, .ref a3, .int (g 4), .int (g 5), .int (g 6), .int (g 7), .int (g 8), .int (g 9), .int (g 10), .int (g 11)])), (a0, .inl (cyI, 8, .inl (F 0))), (a1, .inl (cyI, 16, .inl (F 1))), (a2, .inl (cyI, 8, .inl (F 2))), (a3, .inl (cyI, 160, .inl (F 3)))]) cx (c_X7_value l D cyI cyZ h a0 a1 a2 a3 va g F) hP hD hS [0, 1, 2, 3, 4] [(true, 0), (true, 1), (true, 2), (true, 3), (true, 4)] ⟨rfl, rfl, rfl⟩ rfl rfl mm_252 mm_253 mm_254 mm_42 mm_248 dd_X7_value rfl hl.1 rfl dX7_checkOrEnd_16 rfl (fun H locs hP hD hS => ?_)
    refine lv_if_ne (tgt := 27) hx hb dX7_checkOrEnd_19 (by decide) (fun c_2 => ?_) (fun c_2 => ?_)
    · skip
      rw [show r_X7_checkOrEnd op va g F = g from (if_pos c_1).trans (if_neg c_2)]
      exact ct_vret cx hP hD hS dX7_checkOrEnd_27
    · skip
      refine lv_aload_n hx hb dX7_checkOrEnd_22 rfl (lv_at hl 0 rfl) ?_
      refine lv_iconst (v := (4 : Int32)) hx hb dX7_checkOrEnd_23 (by decide) ?_
      refine ct_callV (As := [.int (4 : Int32)]) (rest := []) (st1 := []) (V3 := [(h, .inr (7, [.ref a0, .ref a1, .ref a2, .ref a3, .int ((r_X7_fail (4 : Int32) g F) 4), .int ((r_X7_fail (4 : Int32) g F) 5), .int ((r_X7_fail (4 : Int32) g F) 6), .int ((r_X7_fail (4 : Int32) g F) 7), .int ((r_X7_fail (4 : Int32) g F) 8), .int ((r_X7_fail (4 : Int32) g F) 9), .int ((r_X7_fail (4 : Int32) g F) 10), .int ((r_X7_fail (4 : Int32) g F) 11)])), (a0, .inl (cyI, 8, .inl (F 0))), (a1, .inl (cyI, 16, .inl (F 1))), (a2, .inl (cyI, 8, .inl (F 2))), (a3, .inl (cyI, 160, .inl (F 3)))]) cx (c_X7_fail l D cyI cyZ h a0 a1 a2 a3 (4 : Int32) g F) hP hD hS [0, 1, 2, 3, 4] [(true, 0), (true, 1), (true, 2), (true, 3), (true, 4)] ⟨rfl, rfl, rfl⟩ rfl rfl mm_258 mm_259 mm_260 mm_42 mm_250 dd_X7_fail rfl hl.1 rfl dX7_checkOrEnd_24 rfl (fun H locs hP hD hS => ?_)
      obtain ⟨u_3, hu_3⟩ : ∃ z, z = r_X7_fail (4 : Int32) g F := ⟨_, rfl⟩
      rw [← hu_3] at hP hD
      rw [show r_X7_checkOrEnd op va g F = u_3 from (by subst hu_3; exact (if_pos c_1).trans (if_pos c_2))]
      exact ct_vret cx hP hD hS dX7_checkOrEnd_27
  · skip
    refine lv_aload_n hx hb dX7_checkOrEnd_6 rfl (lv_at hl 0 rfl) ?_
    refine lv_iconst (v := (0 : Int32)) hx hb dX7_checkOrEnd_7 (by decide) ?_
    refine ct_put (V3 := [(h, .inr (7, [.ref a0, .ref a1, .ref a2, .ref a3, .int (g 4), .int (g 5), .int (g 6), .int (g 7), .int (g 8), .int (g 9), .int (g 10), .int (0 : Int32)])), (a0, .inl (cyI, 8, .inl (F 0))), (a1, .inl (cyI, 16, .inl (F 1))), (a2, .inl (cyI, 8, .inl (F 2))), (a3, .inl (cyI, 160, .inl (F 3)))]) cx hP hD hS 0 rfl rfl bwX7 tyX7_ok nmX7 11 rfl mm_219 rfl rfl rfl rfl dX7_checkOrEnd_8 rfl (fun H locs hP hD hS => ?_)
    refine lv_goto (tgt := 27) hx hb dX7_checkOrEnd_11 (by decide) ?_
    rw [show r_X7_checkOrEnd op va g F = upd g 11 (0 : Int32) from if_neg c_1]
    exact ct_vret cx hP hD hS dX7_checkOrEnd_27
