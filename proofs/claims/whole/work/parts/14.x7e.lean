theorem mu_step {x y : Int32} {fu : Nat} (h : ¬ (400 : Int32) ≤ x) (e : y = x) (hm : (400 - x.toInt).toNat < fu + 1) : (400 - (y + 1).toInt).toNat < fu := by
  subst e
  simp only [sg_le] at h
  have e4 : (400 : Int32).toInt = 400 := rfl
  have e1 : (1 : Int32).toInt = 1 := rfl
  rw [e4] at h
  have hb := fb_rng y
  rw [fb_addI (by rw [e1]; omega) (by rw [e1]; omega), e1]
  omega
theorem k7_reckon (op : Int32) (va : Int32) (vb : Int32) (g : Nat → Int32) (F : Nat → Nat → Int32) : (r_X7_reckon op va vb g F).1 7 = g 7 := by
  unfold r_X7_reckon
  (try dsimp only)
  repeat (first | rfl | split)
theorem k7_readInput (op : Int32) (va : Int32) (vb : Int32) (g : Nat → Int32) (F : Nat → Nat → Int32) (un : Int32) (uf : Nat → Int32) : (r_X7_readInput op va vb g F un uf).1 7 = g 7 := by
  unfold r_X7_readInput
  (try dsimp only)
  repeat (first | rfl | split)
theorem k7_useRow (op : Int32) (va : Int32) (vb : Int32) (g : Nat → Int32) (F : Nat → Nat → Int32) : (r_X7_useRow op va vb g F).1 7 = g 7 := by
  unfold r_X7_useRow
  (try dsimp only)
  repeat (first | rfl | split)
theorem k7_jump (op : Int32) (va : Int32) (vb : Int32) (vc : Int32) (g : Nat → Int32) (F : Nat → Nat → Int32) : (r_X7_jump op va vb vc g F).1 7 = g 7 := by
  unfold r_X7_jump
  (try dsimp only)
  repeat (first | rfl | split)
theorem k7_openCallTo (vc : Int32) (g : Nat → Int32) (F : Nat → Nat → Int32) : (r_X7_openCallTo vc g F).1 7 = g 7 := by
  unfold r_X7_openCallTo
  (try dsimp only)
  repeat (first | rfl | split)
theorem k7_goBack (g : Nat → Int32) (F : Nat → Nat → Int32) : (r_X7_goBack g F) 7 = g 7 := by
  unfold r_X7_goBack
  (try dsimp only)
  repeat (first | rfl | split)
theorem k7_checkOrEnd (op : Int32) (va : Int32) (g : Nat → Int32) (F : Nat → Nat → Int32) : (r_X7_checkOrEnd op va g F) 7 = g 7 := by
  unfold r_X7_checkOrEnd
  (try dsimp only)
  repeat (first | rfl | split)
def g_X7_execute_9 (pn : Int32) (pf : Nat → Int32) (un : Int32) (uf : Nat → Int32) : Nat → (Nat → Int32) → (Nat → Nat → Int32) → (Nat → Int32) × (Nat → Nat → Int32)
  | 0, _, _ => (fun _ => 0, fun _ _ => 0)
  | fu + 1, g, F => if (400 : Int32) ≤ (g 7) then (if (r_X7_isOn g F pn pf) = (0 : Int32) then (if (g 5) = (0 : Int32) then (upd g 4 (0 : Int32), F) else (g, F)) else let u_26 : (Nat → Int32) := r_X7_fail (5 : Int32) g F; if (u_26 5) = (0 : Int32) then (upd u_26 4 (0 : Int32), F) else (u_26, F)) else if (r_X7_isOn g F pn pf) = (0 : Int32) then (if (g 5) = (0 : Int32) then (upd g 4 (0 : Int32), F) else (g, F)) else if (5 : Int32) < (r_X5_part (g 9) (0 : Int32) pn pf) then (if (8 : Int32) < (r_X5_part (g 9) (0 : Int32) pn pf) then (if (10 : Int32) < (r_X5_part (g 9) (0 : Int32) pn pf) then (if (13 : Int32) < (r_X5_part (g 9) (0 : Int32) pn pf) then (if (r_X5_part (g 9) (0 : Int32) pn pf) = (14 : Int32) then (let u_39 : (Nat → Int32) × (Nat → Nat → Int32) := r_X7_openCallTo (r_X5_part (g 9) (3 : Int32) pn pf) (upd g 10 ((g 9) + (1 : Int32))) F; g_X7_execute_9 pn pf un uf fu (upd (upd u_39.1 9 (u_39.1 10)) 7 ((u_39.1 7) + (1 : Int32))) u_39.2) else if (r_X5_part (g 9) (0 : Int32) pn pf) = (15 : Int32) then (let u_38 : (Nat → Int32) := r_X7_goBack (upd g 10 ((g 9) + (1 : Int32))) F; g_X7_execute_9 pn pf un uf fu (upd (upd u_38 9 (u_38 10)) 7 ((u_38 7) + (1 : Int32))) F) else let u_37 : (Nat → Int32) := r_X7_checkOrEnd (r_X5_part (g 9) (0 : Int32) pn pf) (r_X5_part (g 9) (1 : Int32) pn pf) (upd g 10 ((g 9) + (1 : Int32))) F; g_X7_execute_9 pn pf un uf fu (upd (upd u_37 9 (u_37 10)) 7 ((u_37 7) + (1 : Int32))) F) else let u_40 : (Nat → Int32) × (Nat → Nat → Int32) := r_X7_jump (r_X5_part (g 9) (0 : Int32) pn pf) (r_X5_part (g 9) (1 : Int32) pn pf) (r_X5_part (g 9) (2 : Int32) pn pf) (r_X5_part (g 9) (3 : Int32) pn pf) (upd g 10 ((g 9) + (1 : Int32))) F; g_X7_execute_9 pn pf un uf fu (upd (upd u_40.1 9 (u_40.1 10)) 7 ((u_40.1 7) + (1 : Int32))) u_40.2) else let u_41 : (Nat → Int32) × (Nat → Nat → Int32) := r_X7_useRow (r_X5_part (g 9) (0 : Int32) pn pf) (r_X5_part (g 9) (1 : Int32) pn pf) (r_X5_part (g 9) (2 : Int32) pn pf) (upd g 10 ((g 9) + (1 : Int32))) F; g_X7_execute_9 pn pf un uf fu (upd (upd u_41.1 9 (u_41.1 10)) 7 ((u_41.1 7) + (1 : Int32))) u_41.2) else let u_42 : (Nat → Int32) × (Nat → Nat → Int32) := r_X7_readInput (r_X5_part (g 9) (0 : Int32) pn pf) (r_X5_part (g 9) (1 : Int32) pn pf) (r_X5_part (g 9) (2 : Int32) pn pf) (upd g 10 ((g 9) + (1 : Int32))) F un uf; g_X7_execute_9 pn pf un uf fu (upd (upd u_42.1 9 (u_42.1 10)) 7 ((u_42.1 7) + (1 : Int32))) u_42.2) else let u_43 : (Nat → Int32) × (Nat → Nat → Int32) := r_X7_reckon (r_X5_part (g 9) (0 : Int32) pn pf) (r_X5_part (g 9) (1 : Int32) pn pf) (r_X5_part (g 9) (2 : Int32) pn pf) (upd g 10 ((g 9) + (1 : Int32))) F; g_X7_execute_9 pn pf un uf fu (upd (upd u_43.1 9 (u_43.1 10)) 7 ((u_43.1 7) + (1 : Int32))) u_43.2
def r_X7_execute (g : Nat → Int32) (F : Nat → Nat → Int32) (pn : Int32) (pf : Nat → Int32) (un : Int32) (uf : Nat → Int32) : (Nat → Int32) × (Nat → Nat → Int32) := let u_1 : (Nat → Int32) × (Nat → Nat → Int32) := r_X7_reset g F; g_X7_execute_9 pn pf un uf ((400 - ((upd u_1.1 7 (0 : Int32)) 7).toInt).toNat + 1) (upd u_1.1 7 (0 : Int32)) u_1.2
set_option maxHeartbeats 4000000 in
set_option maxRecDepth 100000 in
theorem lp_X7_execute_9 {p : Program} {l : Launch} {e : Env} {s : State} {m : MethodId} {below : List Frame} {meth : Method} {c : Code} {D : va_G} {cyI cyZ : ClassId} {A : Nat → Prop} {av : Array Value} (cx : CX p s m meth c D cyI cyZ A yX7_execute cX7_execute 7 none av) (h : Nat) (a0 : Nat) (a1 : Nat) (a2 : Nat) (a3 : Nat) (ph : Nat) (pa : Nat) (uh : Nat) (ua : Nat) (pn : Int32) (pf : Nat → Int32) (un : Int32) (uf : Nat → Int32) (hn : pn ≤ 80) : ∀ (fu : Nat) (g : Nat → Int32) (F : Nat → Nat → Int32), (400 - (g 7).toInt).toNat < fu → ∀ (H : Heap) (locs : List Loc) (ls : Array Slot), va_P D vwCl [(h, .inr (7, [.ref a0, .ref a1, .ref a2, .ref a3, .int (g 4), .int (g 5), .int (g 6), .int (g 7), .int (g 8), .int (g 9), .int (g 10), .int (g 11)])), (a0, .inl (cyI, 8, .inl (F 0))), (a1, .inl (cyI, 16, .inl (F 1))), (a2, .inl (cyI, 8, .inl (F 2))), (a3, .inl (cyI, 160, .inl (F 3))), (ph, .inr (5, [.ref pa, .int pn])), (pa, .inl (cyI, 320, .inl pf)), (uh, .inr (4, [.ref ua, .int un])), (ua, .inl (cyI, 24, .inl uf))] H → va_D A [(h, .inr (7, [.ref a0, .ref a1, .ref a2, .ref a3, .int (g 4), .int (g 5), .int (g 6), .int (g 7), .int (g 8), .int (g 9), .int (g 10), .int (g 11)])), (a0, .inl (cyI, 8, .inl (F 0))), (a1, .inl (cyI, 16, .inl (F 1))), (a2, .inl (cyI, 8, .inl (F 2))), (a3, .inl (cyI, 160, .inl (F 3))), (ph, .inr (5, [.ref pa, .int pn])), (pa, .inl (cyI, 320, .inl pf)), (uh, .inr (4, [.ref ua, .int un])), (ua, .inl (cyI, 24, .inl uf))] → va_S A s.heap H locs → lv_has ls 7 [(0, .ref h), (1, .ref ph), (2, .ref uh)] → W p l e ({ frames := 2, cells := 0, slots := 0, locals := 47 }) s m av below meth c H locs 0 0 (MQ below (QX D A none [(h, .inr (7, [.ref a0, .ref a1, .ref a2, .ref a3, .int (((g_X7_execute_9 pn pf un uf fu g F).1) 4), .int (((g_X7_execute_9 pn pf un uf fu g F).1) 5), .int (((g_X7_execute_9 pn pf un uf fu g F).1) 6), .int (((g_X7_execute_9 pn pf un uf fu g F).1) 7), .int (((g_X7_execute_9 pn pf un uf fu g F).1) 8), .int (((g_X7_execute_9 pn pf un uf fu g F).1) 9), .int (((g_X7_execute_9 pn pf un uf fu g F).1) 10), .int (((g_X7_execute_9 pn pf un uf fu g F).1) 11)])), (a0, .inl (cyI, 8, .inl (((g_X7_execute_9 pn pf un uf fu g F).2) 0))), (a1, .inl (cyI, 16, .inl (((g_X7_execute_9 pn pf un uf fu g F).2) 1))), (a2, .inl (cyI, 8, .inl (((g_X7_execute_9 pn pf un uf fu g F).2) 2))), (a3, .inl (cyI, 160, .inl (((g_X7_execute_9 pn pf un uf fu g F).2) 3))), (ph, .inr (5, [.ref pa, .int pn])), (pa, .inl (cyI, 320, .inl pf)), (uh, .inr (4, [.ref ua, .int un])), (ua, .inl (cyI, 24, .inl uf))]) av s 0 0 A) (F0 m 9 ls []) := by
  obtain ⟨hx, hb, -⟩ := id cx
  intro fu
  induction fu with
  | zero =>
    intro g F  hmu
    exact absurd hmu (Nat.not_lt_zero _)
  | succ fu ih =>
    intro g F  hmu H locs ls hP hD hS hl
    refine lv_aload_n hx hb dX7_execute_9 rfl (lv_at hl 0 rfl) ?_
    refine ct_get (v := .int (g 7)) cx hP 0 rfl rfl bwX7 7 rfl mm_215 rfl dX7_execute_10 ?_
    refine lv_sipush (v := (400 : Int32)) hx hb dX7_execute_13 (by decide) ?_
    refine lv_icmp_ge (tgt := 210) hx hb dX7_execute_16 (by decide) (fun c_23 => ?_) (fun c_23 => ?_)
    · skip
      refine lv_aload_n hx hb dX7_execute_210 rfl (lv_at hl 0 rfl) ?_
      refine lv_aload_n hx hb dX7_execute_211 rfl (lv_at hl 1 rfl) ?_
      refine ct_callV (As := [.ref ph]) (rest := []) (st1 := [.int (r_X7_isOn g F pn pf)]) (V3 := [(h, .inr (7, [.ref a0, .ref a1, .ref a2, .ref a3, .int (g 4), .int (g 5), .int (g 6), .int (g 7), .int (g 8), .int (g 9), .int (g 10), .int (g 11)])), (a0, .inl (cyI, 8, .inl (F 0))), (a1, .inl (cyI, 16, .inl (F 1))), (a2, .inl (cyI, 8, .inl (F 2))), (a3, .inl (cyI, 160, .inl (F 3))), (ph, .inr (5, [.ref pa, .int pn])), (pa, .inl (cyI, 320, .inl pf)), (uh, .inr (4, [.ref ua, .int un])), (ua, .inl (cyI, 24, .inl uf))]) cx (c_X7_isOn l D cyI cyZ h a0 a1 a2 a3 ph pa g F pn pf) hP hD hS [0, 1, 2, 3, 4, 5, 6] ⟨rfl, rfl, rfl⟩ rfl rfl mm_277 mm_278 mm_279 mm_42 mm_237 dd_X7_isOn rfl hl.1 rfl dX7_execute_212 rfl (fun H locs hP hD hS => ?_)
      refine lv_if_eq (tgt := 223) hx hb dX7_execute_215 (by decide) (fun c_24 => ?_) (fun c_24 => ?_)
      · skip
        refine lv_aload_n hx hb dX7_execute_223 rfl (lv_at hl 0 rfl) ?_
        refine ct_get (v := .int (g 5)) cx hP 0 rfl rfl bwX7 5 rfl mm_81 rfl dX7_execute_224 ?_
        refine lv_if_ne (tgt := 235) hx hb dX7_execute_227 (by decide) (fun c_25 => ?_) (fun c_25 => ?_)
        · skip
          rw [show g_X7_execute_9 pn pf un uf (fu + 1) g F = (g, F) from (if_pos c_23).trans ((if_pos c_24).trans (if_neg c_25))]
          dsimp only
          exact ct_vret cx hP hD hS dX7_execute_235
        · skip
          refine lv_aload_n hx hb dX7_execute_230 rfl (lv_at hl 0 rfl) ?_
          refine lv_iconst (v := (0 : Int32)) hx hb dX7_execute_231 (by decide) ?_
          refine ct_put (V3 := [(h, .inr (7, [.ref a0, .ref a1, .ref a2, .ref a3, .int (0 : Int32), .int (g 5), .int (g 6), .int (g 7), .int (g 8), .int (g 9), .int (g 10), .int (g 11)])), (a0, .inl (cyI, 8, .inl (F 0))), (a1, .inl (cyI, 16, .inl (F 1))), (a2, .inl (cyI, 8, .inl (F 2))), (a3, .inl (cyI, 160, .inl (F 3))), (ph, .inr (5, [.ref pa, .int pn])), (pa, .inl (cyI, 320, .inl pf)), (uh, .inr (4, [.ref ua, .int un])), (ua, .inl (cyI, 24, .inl uf))]) cx hP hD hS 0 rfl rfl bwX7 tyX7_ok nmX7 4 rfl mm_91 rfl rfl rfl rfl dX7_execute_232 rfl (fun H locs hP hD hS => ?_)
          rw [show g_X7_execute_9 pn pf un uf (fu + 1) g F = (upd g 4 (0 : Int32), F) from (if_pos c_23).trans ((if_pos c_24).trans (if_pos c_25))]
          dsimp only
          exact ct_vret cx hP hD hS dX7_execute_235
      · skip
        refine lv_aload_n hx hb dX7_execute_218 rfl (lv_at hl 0 rfl) ?_
        refine lv_iconst (v := (5 : Int32)) hx hb dX7_execute_219 (by decide) ?_
        refine ct_callV (As := [.int (5 : Int32)]) (rest := []) (st1 := []) (V3 := [(h, .inr (7, [.ref a0, .ref a1, .ref a2, .ref a3, .int ((r_X7_fail (5 : Int32) g F) 4), .int ((r_X7_fail (5 : Int32) g F) 5), .int ((r_X7_fail (5 : Int32) g F) 6), .int ((r_X7_fail (5 : Int32) g F) 7), .int ((r_X7_fail (5 : Int32) g F) 8), .int ((r_X7_fail (5 : Int32) g F) 9), .int ((r_X7_fail (5 : Int32) g F) 10), .int ((r_X7_fail (5 : Int32) g F) 11)])), (a0, .inl (cyI, 8, .inl (F 0))), (a1, .inl (cyI, 16, .inl (F 1))), (a2, .inl (cyI, 8, .inl (F 2))), (a3, .inl (cyI, 160, .inl (F 3))), (ph, .inr (5, [.ref pa, .int pn])), (pa, .inl (cyI, 320, .inl pf)), (uh, .inr (4, [.ref ua, .int un])), (ua, .inl (cyI, 24, .inl uf))]) cx (c_X7_fail l D cyI cyZ h a0 a1 a2 a3 (5 : Int32) g F) hP hD hS [0, 1, 2, 3, 4] ⟨rfl, rfl, rfl⟩ rfl rfl mm_258 mm_259 mm_260 mm_42 mm_250 dd_X7_fail rfl hl.1 rfl dX7_execute_220 rfl (fun H locs hP hD hS => ?_)
        obtain ⟨u_26, hu_26⟩ : ∃ z, z = r_X7_fail (5 : Int32) g F := ⟨_, rfl⟩
        rw [← hu_26] at hP hD
        refine lv_aload_n hx hb dX7_execute_223 rfl (lv_at hl 0 rfl) ?_
        refine ct_get (v := .int (u_26 5)) cx hP 0 rfl rfl bwX7 5 rfl mm_81 rfl dX7_execute_224 ?_
        refine lv_if_ne (tgt := 235) hx hb dX7_execute_227 (by decide) (fun c_27 => ?_) (fun c_27 => ?_)
        · skip
          rw [show g_X7_execute_9 pn pf un uf (fu + 1) g F = (u_26, F) from (by subst hu_26; exact (if_pos c_23).trans ((if_neg c_24).trans (if_neg c_27)))]
          dsimp only
          exact ct_vret cx hP hD hS dX7_execute_235
        · skip
          refine lv_aload_n hx hb dX7_execute_230 rfl (lv_at hl 0 rfl) ?_
          refine lv_iconst (v := (0 : Int32)) hx hb dX7_execute_231 (by decide) ?_
          refine ct_put (V3 := [(h, .inr (7, [.ref a0, .ref a1, .ref a2, .ref a3, .int (0 : Int32), .int (u_26 5), .int (u_26 6), .int (u_26 7), .int (u_26 8), .int (u_26 9), .int (u_26 10), .int (u_26 11)])), (a0, .inl (cyI, 8, .inl (F 0))), (a1, .inl (cyI, 16, .inl (F 1))), (a2, .inl (cyI, 8, .inl (F 2))), (a3, .inl (cyI, 160, .inl (F 3))), (ph, .inr (5, [.ref pa, .int pn])), (pa, .inl (cyI, 320, .inl pf)), (uh, .inr (4, [.ref ua, .int un])), (ua, .inl (cyI, 24, .inl uf))]) cx hP hD hS 0 rfl rfl bwX7 tyX7_ok nmX7 4 rfl mm_91 rfl rfl rfl rfl dX7_execute_232 rfl (fun H locs hP hD hS => ?_)
          rw [show g_X7_execute_9 pn pf un uf (fu + 1) g F = (upd u_26 4 (0 : Int32), F) from (by subst hu_26; exact (if_pos c_23).trans ((if_neg c_24).trans (if_pos c_27)))]
          dsimp only
          exact ct_vret cx hP hD hS dX7_execute_235
    · skip
      refine lv_aload_n hx hb dX7_execute_19 rfl (lv_at hl 0 rfl) ?_
      refine lv_aload_n hx hb dX7_execute_20 rfl (lv_at hl 1 rfl) ?_
      refine ct_callV (As := [.ref ph]) (rest := []) (st1 := [.int (r_X7_isOn g F pn pf)]) (V3 := [(h, .inr (7, [.ref a0, .ref a1, .ref a2, .ref a3, .int (g 4), .int (g 5), .int (g 6), .int (g 7), .int (g 8), .int (g 9), .int (g 10), .int (g 11)])), (a0, .inl (cyI, 8, .inl (F 0))), (a1, .inl (cyI, 16, .inl (F 1))), (a2, .inl (cyI, 8, .inl (F 2))), (a3, .inl (cyI, 160, .inl (F 3))), (ph, .inr (5, [.ref pa, .int pn])), (pa, .inl (cyI, 320, .inl pf)), (uh, .inr (4, [.ref ua, .int un])), (ua, .inl (cyI, 24, .inl uf))]) cx (c_X7_isOn l D cyI cyZ h a0 a1 a2 a3 ph pa g F pn pf) hP hD hS [0, 1, 2, 3, 4, 5, 6] ⟨rfl, rfl, rfl⟩ rfl rfl mm_277 mm_278 mm_279 mm_42 mm_237 dd_X7_isOn rfl hl.1 rfl dX7_execute_21 rfl (fun H locs hP hD hS => ?_)
      refine lv_if_eq (tgt := 210) hx hb dX7_execute_24 (by decide) (fun c_28 => ?_) (fun c_28 => ?_)
      · skip
        refine lv_aload_n hx hb dX7_execute_210 rfl (lv_at hl 0 rfl) ?_
        refine lv_aload_n hx hb dX7_execute_211 rfl (lv_at hl 1 rfl) ?_
        refine ct_callV (As := [.ref ph]) (rest := []) (st1 := [.int (r_X7_isOn g F pn pf)]) (V3 := [(h, .inr (7, [.ref a0, .ref a1, .ref a2, .ref a3, .int (g 4), .int (g 5), .int (g 6), .int (g 7), .int (g 8), .int (g 9), .int (g 10), .int (g 11)])), (a0, .inl (cyI, 8, .inl (F 0))), (a1, .inl (cyI, 16, .inl (F 1))), (a2, .inl (cyI, 8, .inl (F 2))), (a3, .inl (cyI, 160, .inl (F 3))), (ph, .inr (5, [.ref pa, .int pn])), (pa, .inl (cyI, 320, .inl pf)), (uh, .inr (4, [.ref ua, .int un])), (ua, .inl (cyI, 24, .inl uf))]) cx (c_X7_isOn l D cyI cyZ h a0 a1 a2 a3 ph pa g F pn pf) hP hD hS [0, 1, 2, 3, 4, 5, 6] ⟨rfl, rfl, rfl⟩ rfl rfl mm_277 mm_278 mm_279 mm_42 mm_237 dd_X7_isOn rfl hl.1 rfl dX7_execute_212 rfl (fun H locs hP hD hS => ?_)
        refine lv_if_eq (tgt := 223) hx hb dX7_execute_215 (by decide) (fun c_29 => ?_) (fun c_29 => ?_)
        · skip
          refine lv_aload_n hx hb dX7_execute_223 rfl (lv_at hl 0 rfl) ?_
          refine ct_get (v := .int (g 5)) cx hP 0 rfl rfl bwX7 5 rfl mm_81 rfl dX7_execute_224 ?_
          refine lv_if_ne (tgt := 235) hx hb dX7_execute_227 (by decide) (fun c_30 => ?_) (fun c_30 => ?_)
          · skip
            rw [show g_X7_execute_9 pn pf un uf (fu + 1) g F = (g, F) from (if_neg c_23).trans ((if_pos c_28).trans (if_neg c_30))]
            dsimp only
            exact ct_vret cx hP hD hS dX7_execute_235
          · skip
            refine lv_aload_n hx hb dX7_execute_230 rfl (lv_at hl 0 rfl) ?_
            refine lv_iconst (v := (0 : Int32)) hx hb dX7_execute_231 (by decide) ?_
            refine ct_put (V3 := [(h, .inr (7, [.ref a0, .ref a1, .ref a2, .ref a3, .int (0 : Int32), .int (g 5), .int (g 6), .int (g 7), .int (g 8), .int (g 9), .int (g 10), .int (g 11)])), (a0, .inl (cyI, 8, .inl (F 0))), (a1, .inl (cyI, 16, .inl (F 1))), (a2, .inl (cyI, 8, .inl (F 2))), (a3, .inl (cyI, 160, .inl (F 3))), (ph, .inr (5, [.ref pa, .int pn])), (pa, .inl (cyI, 320, .inl pf)), (uh, .inr (4, [.ref ua, .int un])), (ua, .inl (cyI, 24, .inl uf))]) cx hP hD hS 0 rfl rfl bwX7 tyX7_ok nmX7 4 rfl mm_91 rfl rfl rfl rfl dX7_execute_232 rfl (fun H locs hP hD hS => ?_)
            rw [show g_X7_execute_9 pn pf un uf (fu + 1) g F = (upd g 4 (0 : Int32), F) from (if_neg c_23).trans ((if_pos c_28).trans (if_pos c_30))]
            dsimp only
            exact ct_vret cx hP hD hS dX7_execute_235
        · exact absurd c_29 (fun k => k c_28)
      · skip
        refine lv_aload_n hx hb dX7_execute_27 rfl (lv_at hl 1 rfl) ?_
        refine lv_aload_n hx hb dX7_execute_28 rfl (lv_at hl 0 rfl) ?_
        refine ct_get (v := .int (g 9)) cx hP 0 rfl rfl bwX7 9 rfl mm_217 rfl dX7_execute_29 ?_
        refine lv_iconst (v := (0 : Int32)) hx hb dX7_execute_32 (by decide) ?_
        refine ct_callV (As := [.int (g 9), .int (0 : Int32)]) (rest := []) (st1 := [.int (r_X5_part (g 9) (0 : Int32) pn pf)]) (V3 := [(h, .inr (7, [.ref a0, .ref a1, .ref a2, .ref a3, .int (g 4), .int (g 5), .int (g 6), .int (g 7), .int (g 8), .int (g 9), .int (g 10), .int (g 11)])), (a0, .inl (cyI, 8, .inl (F 0))), (a1, .inl (cyI, 16, .inl (F 1))), (a2, .inl (cyI, 8, .inl (F 2))), (a3, .inl (cyI, 160, .inl (F 3))), (ph, .inr (5, [.ref pa, .int pn])), (pa, .inl (cyI, 320, .inl pf)), (uh, .inr (4, [.ref ua, .int un])), (ua, .inl (cyI, 24, .inl uf))]) cx (c_X5_part l D cyI cyZ ph pa (g 9) (0 : Int32) pn pf hn) hP hD hS [5, 6] ⟨rfl, rfl, rfl⟩ rfl rfl mm_280 mm_281 mm_282 mm_241 mm_243 dd_X5_part rfl hl.1 rfl dX7_execute_33 rfl (fun H locs hP hD hS => ?_)
        refine lv_istore_n (lv' := [(3, .int (r_X5_part (g 9) (0 : Int32) pn pf)), (0, .ref h), (1, .ref ph), (2, .ref uh)]) hx hb dX7_execute_36 rfl hl (by decide) rfl (fun ls hl => ?_)
        refine lv_aload_n hx hb dX7_execute_37 rfl (lv_at hl 2 rfl) ?_
        refine lv_aload_n hx hb dX7_execute_38 rfl (lv_at hl 1 rfl) ?_
        refine ct_get (v := .int (g 9)) cx hP 0 rfl rfl bwX7 9 rfl mm_217 rfl dX7_execute_39 ?_
        refine lv_iconst (v := (1 : Int32)) hx hb dX7_execute_42 (by decide) ?_
        refine ct_callV (As := [.int (g 9), .int (1 : Int32)]) (rest := []) (st1 := [.int (r_X5_part (g 9) (1 : Int32) pn pf)]) (V3 := [(h, .inr (7, [.ref a0, .ref a1, .ref a2, .ref a3, .int (g 4), .int (g 5), .int (g 6), .int (g 7), .int (g 8), .int (g 9), .int (g 10), .int (g 11)])), (a0, .inl (cyI, 8, .inl (F 0))), (a1, .inl (cyI, 16, .inl (F 1))), (a2, .inl (cyI, 8, .inl (F 2))), (a3, .inl (cyI, 160, .inl (F 3))), (ph, .inr (5, [.ref pa, .int pn])), (pa, .inl (cyI, 320, .inl pf)), (uh, .inr (4, [.ref ua, .int un])), (ua, .inl (cyI, 24, .inl uf))]) cx (c_X5_part l D cyI cyZ ph pa (g 9) (1 : Int32) pn pf hn) hP hD hS [5, 6] ⟨rfl, rfl, rfl⟩ rfl rfl mm_280 mm_281 mm_282 mm_241 mm_243 dd_X5_part rfl hl.1 rfl dX7_execute_43 rfl (fun H locs hP hD hS => ?_)
        refine lv_istore (lv' := [(4, .int (r_X5_part (g 9) (1 : Int32) pn pf)), (3, .int (r_X5_part (g 9) (0 : Int32) pn pf)), (0, .ref h), (1, .ref ph), (2, .ref uh)]) hx hb dX7_execute_46 hl (by decide) rfl (fun ls hl => ?_)
        refine lv_aload_n hx hb dX7_execute_48 rfl (lv_at hl 3 rfl) ?_
        refine lv_aload_n hx hb dX7_execute_49 rfl (lv_at hl 2 rfl) ?_
        refine ct_get (v := .int (g 9)) cx hP 0 rfl rfl bwX7 9 rfl mm_217 rfl dX7_execute_50 ?_
        refine lv_iconst (v := (2 : Int32)) hx hb dX7_execute_53 (by decide) ?_
        refine ct_callV (As := [.int (g 9), .int (2 : Int32)]) (rest := []) (st1 := [.int (r_X5_part (g 9) (2 : Int32) pn pf)]) (V3 := [(h, .inr (7, [.ref a0, .ref a1, .ref a2, .ref a3, .int (g 4), .int (g 5), .int (g 6), .int (g 7), .int (g 8), .int (g 9), .int (g 10), .int (g 11)])), (a0, .inl (cyI, 8, .inl (F 0))), (a1, .inl (cyI, 16, .inl (F 1))), (a2, .inl (cyI, 8, .inl (F 2))), (a3, .inl (cyI, 160, .inl (F 3))), (ph, .inr (5, [.ref pa, .int pn])), (pa, .inl (cyI, 320, .inl pf)), (uh, .inr (4, [.ref ua, .int un])), (ua, .inl (cyI, 24, .inl uf))]) cx (c_X5_part l D cyI cyZ ph pa (g 9) (2 : Int32) pn pf hn) hP hD hS [5, 6] ⟨rfl, rfl, rfl⟩ rfl rfl mm_280 mm_281 mm_282 mm_241 mm_243 dd_X5_part rfl hl.1 rfl dX7_execute_54 rfl (fun H locs hP hD hS => ?_)
        refine lv_istore (lv' := [(5, .int (r_X5_part (g 9) (2 : Int32) pn pf)), (4, .int (r_X5_part (g 9) (1 : Int32) pn pf)), (3, .int (r_X5_part (g 9) (0 : Int32) pn pf)), (0, .ref h), (1, .ref ph), (2, .ref uh)]) hx hb dX7_execute_57 hl (by decide) rfl (fun ls hl => ?_)
        refine lv_aload_n hx hb dX7_execute_59 rfl (lv_at hl 4 rfl) ?_
        refine lv_aload_n hx hb dX7_execute_60 rfl (lv_at hl 3 rfl) ?_
        refine ct_get (v := .int (g 9)) cx hP 0 rfl rfl bwX7 9 rfl mm_217 rfl dX7_execute_61 ?_
        refine lv_iconst (v := (3 : Int32)) hx hb dX7_execute_64 (by decide) ?_
        refine ct_callV (As := [.int (g 9), .int (3 : Int32)]) (rest := []) (st1 := [.int (r_X5_part (g 9) (3 : Int32) pn pf)]) (V3 := [(h, .inr (7, [.ref a0, .ref a1, .ref a2, .ref a3, .int (g 4), .int (g 5), .int (g 6), .int (g 7), .int (g 8), .int (g 9), .int (g 10), .int (g 11)])), (a0, .inl (cyI, 8, .inl (F 0))), (a1, .inl (cyI, 16, .inl (F 1))), (a2, .inl (cyI, 8, .inl (F 2))), (a3, .inl (cyI, 160, .inl (F 3))), (ph, .inr (5, [.ref pa, .int pn])), (pa, .inl (cyI, 320, .inl pf)), (uh, .inr (4, [.ref ua, .int un])), (ua, .inl (cyI, 24, .inl uf))]) cx (c_X5_part l D cyI cyZ ph pa (g 9) (3 : Int32) pn pf hn) hP hD hS [5, 6] ⟨rfl, rfl, rfl⟩ rfl rfl mm_280 mm_281 mm_282 mm_241 mm_243 dd_X5_part rfl hl.1 rfl dX7_execute_65 rfl (fun H locs hP hD hS => ?_)
        refine lv_istore (lv' := [(6, .int (r_X5_part (g 9) (3 : Int32) pn pf)), (5, .int (r_X5_part (g 9) (2 : Int32) pn pf)), (4, .int (r_X5_part (g 9) (1 : Int32) pn pf)), (3, .int (r_X5_part (g 9) (0 : Int32) pn pf)), (0, .ref h), (1, .ref ph), (2, .ref uh)]) hx hb dX7_execute_68 hl (by decide) rfl (fun ls hl => ?_)
        refine lv_aload_n hx hb dX7_execute_70 rfl (lv_at hl 4 rfl) ?_
        refine lv_aload_n hx hb dX7_execute_71 rfl (lv_at hl 4 rfl) ?_
        refine ct_get (v := .int (g 9)) cx hP 0 rfl rfl bwX7 9 rfl mm_217 rfl dX7_execute_72 ?_
        refine lv_iconst (v := (1 : Int32)) hx hb dX7_execute_75 (by decide) ?_
        refine lv_iadd hx hb dX7_execute_76 ?_
        refine ct_put (V3 := [(h, .inr (7, [.ref a0, .ref a1, .ref a2, .ref a3, .int (g 4), .int (g 5), .int (g 6), .int (g 7), .int (g 8), .int (g 9), .int ((g 9) + (1 : Int32)), .int (g 11)])), (a0, .inl (cyI, 8, .inl (F 0))), (a1, .inl (cyI, 16, .inl (F 1))), (a2, .inl (cyI, 8, .inl (F 2))), (a3, .inl (cyI, 160, .inl (F 3))), (ph, .inr (5, [.ref pa, .int pn])), (pa, .inl (cyI, 320, .inl pf)), (uh, .inr (4, [.ref ua, .int un])), (ua, .inl (cyI, 24, .inl uf))]) cx hP hD hS 0 rfl rfl bwX7 tyX7_ok nmX7 10 rfl mm_218 rfl rfl rfl rfl dX7_execute_77 rfl (fun H locs hP hD hS => ?_)
        refine lv_iload_n hx hb dX7_execute_80 rfl (lv_at hl 3 rfl) ?_
        refine lv_iconst (v := (5 : Int32)) hx hb dX7_execute_81 (by decide) ?_
        refine lv_icmp_gt (tgt := 97) hx hb dX7_execute_82 (by decide) (fun c_31 => ?_) (fun c_31 => ?_)
        · skip
          refine lv_iload_n hx hb dX7_execute_97 rfl (lv_at hl 3 rfl) ?_
          refine lv_bipush (v := (8 : Int32)) hx hb dX7_execute_98 (by decide) ?_
          refine lv_icmp_gt (tgt := 116) hx hb dX7_execute_100 (by decide) (fun c_32 => ?_) (fun c_32 => ?_)
          · skip
            refine lv_iload_n hx hb dX7_execute_116 rfl (lv_at hl 3 rfl) ?_
            refine lv_bipush (v := (10 : Int32)) hx hb dX7_execute_117 (by decide) ?_
            refine lv_icmp_gt (tgt := 134) hx hb dX7_execute_119 (by decide) (fun c_33 => ?_) (fun c_33 => ?_)
            · skip
              refine lv_iload_n hx hb dX7_execute_134 rfl (lv_at hl 3 rfl) ?_
              refine lv_bipush (v := (13 : Int32)) hx hb dX7_execute_135 (by decide) ?_
              refine lv_icmp_gt (tgt := 154) hx hb dX7_execute_137 (by decide) (fun c_34 => ?_) (fun c_34 => ?_)
              · skip
                refine lv_iload_n hx hb dX7_execute_154 rfl (lv_at hl 3 rfl) ?_
                refine lv_bipush (v := (14 : Int32)) hx hb dX7_execute_155 (by decide) ?_
                refine lv_icmp_ne (tgt := 169) hx hb dX7_execute_157 (by decide) (fun c_35 => ?_) (fun c_35 => ?_)
                · skip
                  refine lv_iload_n hx hb dX7_execute_169 rfl (lv_at hl 3 rfl) ?_
                  refine lv_bipush (v := (15 : Int32)) hx hb dX7_execute_170 (by decide) ?_
                  refine lv_icmp_ne (tgt := 182) hx hb dX7_execute_172 (by decide) (fun c_36 => ?_) (fun c_36 => ?_)
                  · skip
                    refine lv_aload_n hx hb dX7_execute_182 rfl (lv_at hl 4 rfl) ?_
                    refine lv_iload_n hx hb dX7_execute_183 rfl (lv_at hl 3 rfl) ?_
                    refine lv_iload hx hb dX7_execute_184 (lv_at hl 2 rfl) ?_
                    refine ct_callV (As := [.int (r_X5_part (g 9) (0 : Int32) pn pf), .int (r_X5_part (g 9) (1 : Int32) pn pf)]) (rest := []) (st1 := []) (V3 := [(h, .inr (7, [.ref a0, .ref a1, .ref a2, .ref a3, .int ((r_X7_checkOrEnd (r_X5_part (g 9) (0 : Int32) pn pf) (r_X5_part (g 9) (1 : Int32) pn pf) (upd g 10 ((g 9) + (1 : Int32))) F) 4), .int ((r_X7_checkOrEnd (r_X5_part (g 9) (0 : Int32) pn pf) (r_X5_part (g 9) (1 : Int32) pn pf) (upd g 10 ((g 9) + (1 : Int32))) F) 5), .int ((r_X7_checkOrEnd (r_X5_part (g 9) (0 : Int32) pn pf) (r_X5_part (g 9) (1 : Int32) pn pf) (upd g 10 ((g 9) + (1 : Int32))) F) 6), .int ((r_X7_checkOrEnd (r_X5_part (g 9) (0 : Int32) pn pf) (r_X5_part (g 9) (1 : Int32) pn pf) (upd g 10 ((g 9) + (1 : Int32))) F) 7), .int ((r_X7_checkOrEnd (r_X5_part (g 9) (0 : Int32) pn pf) (r_X5_part (g 9) (1 : Int32) pn pf) (upd g 10 ((g 9) + (1 : Int32))) F) 8), .int ((r_X7_checkOrEnd (r_X5_part (g 9) (0 : Int32) pn pf) (r_X5_part (g 9) (1 : Int32) pn pf) (upd g 10 ((g 9) + (1 : Int32))) F) 9), .int ((r_X7_checkOrEnd (r_X5_part (g 9) (0 : Int32) pn pf) (r_X5_part (g 9) (1 : Int32) pn pf) (upd g 10 ((g 9) + (1 : Int32))) F) 10), .int ((r_X7_checkOrEnd (r_X5_part (g 9) (0 : Int32) pn pf) (r_X5_part (g 9) (1 : Int32) pn pf) (upd g 10 ((g 9) + (1 : Int32))) F) 11)])), (a0, .inl (cyI, 8, .inl (F 0))), (a1, .inl (cyI, 16, .inl (F 1))), (a2, .inl (cyI, 8, .inl (F 2))), (a3, .inl (cyI, 160, .inl (F 3))), (ph, .inr (5, [.ref pa, .int pn])), (pa, .inl (cyI, 320, .inl pf)), (uh, .inr (4, [.ref ua, .int un])), (ua, .inl (cyI, 24, .inl uf))]) cx (c_X7_checkOrEnd l D cyI cyZ h a0 a1 a2 a3 (r_X5_part (g 9) (0 : Int32) pn pf) (r_X5_part (g 9) (1 : Int32) pn pf) (upd g 10 ((g 9) + (1 : Int32))) F) hP hD hS [0, 1, 2, 3, 4] ⟨rfl, rfl, rfl⟩ rfl rfl mm_301 mm_302 mm_303 mm_42 mm_273 dd_X7_checkOrEnd rfl hl.1 rfl dX7_execute_186 rfl (fun H locs hP hD hS => ?_)
                    obtain ⟨u_37, hu_37⟩ : ∃ z, z = r_X7_checkOrEnd (r_X5_part (g 9) (0 : Int32) pn pf) (r_X5_part (g 9) (1 : Int32) pn pf) (upd g 10 ((g 9) + (1 : Int32))) F := ⟨_, rfl⟩
                    rw [← hu_37] at hP hD
                    refine lv_aload_n hx hb dX7_execute_189 rfl (lv_at hl 4 rfl) ?_
                    refine lv_aload_n hx hb dX7_execute_190 rfl (lv_at hl 4 rfl) ?_
                    refine ct_get (v := .int (u_37 10)) cx hP 0 rfl rfl bwX7 10 rfl mm_218 rfl dX7_execute_191 ?_
                    refine ct_put (V3 := [(h, .inr (7, [.ref a0, .ref a1, .ref a2, .ref a3, .int (u_37 4), .int (u_37 5), .int (u_37 6), .int (u_37 7), .int (u_37 8), .int (u_37 10), .int (u_37 10), .int (u_37 11)])), (a0, .inl (cyI, 8, .inl (F 0))), (a1, .inl (cyI, 16, .inl (F 1))), (a2, .inl (cyI, 8, .inl (F 2))), (a3, .inl (cyI, 160, .inl (F 3))), (ph, .inr (5, [.ref pa, .int pn])), (pa, .inl (cyI, 320, .inl pf)), (uh, .inr (4, [.ref ua, .int un])), (ua, .inl (cyI, 24, .inl uf))]) cx hP hD hS 0 rfl rfl bwX7 tyX7_ok nmX7 9 rfl mm_217 rfl rfl rfl rfl dX7_execute_194 rfl (fun H locs hP hD hS => ?_)
                    refine lv_aload_n hx hb dX7_execute_197 rfl (lv_at hl 4 rfl) ?_
                    refine lv_dup hx hb dX7_execute_198 rfl ?_
                    refine ct_get (v := .int (u_37 7)) cx hP 0 rfl rfl bwX7 7 rfl mm_215 rfl dX7_execute_199 ?_
                    refine lv_iconst (v := (1 : Int32)) hx hb dX7_execute_202 (by decide) ?_
                    refine lv_iadd hx hb dX7_execute_203 ?_
                    refine ct_put (V3 := [(h, .inr (7, [.ref a0, .ref a1, .ref a2, .ref a3, .int (u_37 4), .int (u_37 5), .int (u_37 6), .int ((u_37 7) + (1 : Int32)), .int (u_37 8), .int (u_37 10), .int (u_37 10), .int (u_37 11)])), (a0, .inl (cyI, 8, .inl (F 0))), (a1, .inl (cyI, 16, .inl (F 1))), (a2, .inl (cyI, 8, .inl (F 2))), (a3, .inl (cyI, 160, .inl (F 3))), (ph, .inr (5, [.ref pa, .int pn])), (pa, .inl (cyI, 320, .inl pf)), (uh, .inr (4, [.ref ua, .int un])), (ua, .inl (cyI, 24, .inl uf))]) cx hP hD hS 0 rfl rfl bwX7 tyX7_ok nmX7 7 rfl mm_215 rfl rfl rfl rfl dX7_execute_204 rfl (fun H locs hP hD hS => ?_)
                    refine lv_goto (tgt := 9) hx hb dX7_execute_207 (by decide) ?_
                    rw [show g_X7_execute_9 pn pf un uf (fu + 1) g F = g_X7_execute_9 pn pf un uf fu (upd (upd u_37 9 (u_37 10)) 7 ((u_37 7) + (1 : Int32))) F from (by subst hu_37; exact (if_neg c_23).trans ((if_neg c_28).trans ((if_pos c_31).trans ((if_pos c_32).trans ((if_pos c_33).trans ((if_pos c_34).trans ((if_neg c_35).trans (if_neg c_36))))))))]
                    exact ih (upd (upd u_37 9 (u_37 10)) 7 ((u_37 7) + (1 : Int32))) F  (by subst_vars; exact mu_step c_23 (k7_checkOrEnd _ _ _ _) hmu) _ _ _ hP hD hS (lv_sub hl [4, 5, 6] rfl)
                  · skip
                    refine lv_aload_n hx hb dX7_execute_175 rfl (lv_at hl 4 rfl) ?_
                    refine ct_callV (As := []) (rest := []) (st1 := []) (V3 := [(h, .inr (7, [.ref a0, .ref a1, .ref a2, .ref a3, .int ((r_X7_goBack (upd g 10 ((g 9) + (1 : Int32))) F) 4), .int ((r_X7_goBack (upd g 10 ((g 9) + (1 : Int32))) F) 5), .int ((r_X7_goBack (upd g 10 ((g 9) + (1 : Int32))) F) 6), .int ((r_X7_goBack (upd g 10 ((g 9) + (1 : Int32))) F) 7), .int ((r_X7_goBack (upd g 10 ((g 9) + (1 : Int32))) F) 8), .int ((r_X7_goBack (upd g 10 ((g 9) + (1 : Int32))) F) 9), .int ((r_X7_goBack (upd g 10 ((g 9) + (1 : Int32))) F) 10), .int ((r_X7_goBack (upd g 10 ((g 9) + (1 : Int32))) F) 11)])), (a0, .inl (cyI, 8, .inl (F 0))), (a1, .inl (cyI, 16, .inl (F 1))), (a2, .inl (cyI, 8, .inl (F 2))), (a3, .inl (cyI, 160, .inl (F 3))), (ph, .inr (5, [.ref pa, .int pn])), (pa, .inl (cyI, 320, .inl pf)), (uh, .inr (4, [.ref ua, .int un])), (ua, .inl (cyI, 24, .inl uf))]) cx (c_X7_goBack l D cyI cyZ h a0 a1 a2 a3 (upd g 10 ((g 9) + (1 : Int32))) F) hP hD hS [0, 1, 2, 3, 4] ⟨rfl, rfl, rfl⟩ rfl rfl mm_298 mm_299 mm_300 mm_42 mm_271 dd_X7_goBack rfl hl.1 rfl dX7_execute_176 rfl (fun H locs hP hD hS => ?_)
                    obtain ⟨u_38, hu_38⟩ : ∃ z, z = r_X7_goBack (upd g 10 ((g 9) + (1 : Int32))) F := ⟨_, rfl⟩
                    rw [← hu_38] at hP hD
                    refine lv_goto (tgt := 189) hx hb dX7_execute_179 (by decide) ?_
                    refine lv_aload_n hx hb dX7_execute_189 rfl (lv_at hl 4 rfl) ?_
                    refine lv_aload_n hx hb dX7_execute_190 rfl (lv_at hl 4 rfl) ?_
                    refine ct_get (v := .int (u_38 10)) cx hP 0 rfl rfl bwX7 10 rfl mm_218 rfl dX7_execute_191 ?_
                    refine ct_put (V3 := [(h, .inr (7, [.ref a0, .ref a1, .ref a2, .ref a3, .int (u_38 4), .int (u_38 5), .int (u_38 6), .int (u_38 7), .int (u_38 8), .int (u_38 10), .int (u_38 10), .int (u_38 11)])), (a0, .inl (cyI, 8, .inl (F 0))), (a1, .inl (cyI, 16, .inl (F 1))), (a2, .inl (cyI, 8, .inl (F 2))), (a3, .inl (cyI, 160, .inl (F 3))), (ph, .inr (5, [.ref pa, .int pn])), (pa, .inl (cyI, 320, .inl pf)), (uh, .inr (4, [.ref ua, .int un])), (ua, .inl (cyI, 24, .inl uf))]) cx hP hD hS 0 rfl rfl bwX7 tyX7_ok nmX7 9 rfl mm_217 rfl rfl rfl rfl dX7_execute_194 rfl (fun H locs hP hD hS => ?_)
                    refine lv_aload_n hx hb dX7_execute_197 rfl (lv_at hl 4 rfl) ?_
                    refine lv_dup hx hb dX7_execute_198 rfl ?_
                    refine ct_get (v := .int (u_38 7)) cx hP 0 rfl rfl bwX7 7 rfl mm_215 rfl dX7_execute_199 ?_
                    refine lv_iconst (v := (1 : Int32)) hx hb dX7_execute_202 (by decide) ?_
                    refine lv_iadd hx hb dX7_execute_203 ?_
                    refine ct_put (V3 := [(h, .inr (7, [.ref a0, .ref a1, .ref a2, .ref a3, .int (u_38 4), .int (u_38 5), .int (u_38 6), .int ((u_38 7) + (1 : Int32)), .int (u_38 8), .int (u_38 10), .int (u_38 10), .int (u_38 11)])), (a0, .inl (cyI, 8, .inl (F 0))), (a1, .inl (cyI, 16, .inl (F 1))), (a2, .inl (cyI, 8, .inl (F 2))), (a3, .inl (cyI, 160, .inl (F 3))), (ph, .inr (5, [.ref pa, .int pn])), (pa, .inl (cyI, 320, .inl pf)), (uh, .inr (4, [.ref ua, .int un])), (ua, .inl (cyI, 24, .inl uf))]) cx hP hD hS 0 rfl rfl bwX7 tyX7_ok nmX7 7 rfl mm_215 rfl rfl rfl rfl dX7_execute_204 rfl (fun H locs hP hD hS => ?_)
                    refine lv_goto (tgt := 9) hx hb dX7_execute_207 (by decide) ?_
                    rw [show g_X7_execute_9 pn pf un uf (fu + 1) g F = g_X7_execute_9 pn pf un uf fu (upd (upd u_38 9 (u_38 10)) 7 ((u_38 7) + (1 : Int32))) F from (by subst hu_38; exact (if_neg c_23).trans ((if_neg c_28).trans ((if_pos c_31).trans ((if_pos c_32).trans ((if_pos c_33).trans ((if_pos c_34).trans ((if_neg c_35).trans (if_pos c_36))))))))]
                    exact ih (upd (upd u_38 9 (u_38 10)) 7 ((u_38 7) + (1 : Int32))) F  (by subst_vars; exact mu_step c_23 (k7_goBack _ _) hmu) _ _ _ hP hD hS (lv_sub hl [4, 5, 6] rfl)
                · skip
                  refine lv_aload_n hx hb dX7_execute_160 rfl (lv_at hl 4 rfl) ?_
                  refine lv_iload hx hb dX7_execute_161 (lv_at hl 0 rfl) ?_
                  refine ct_callV (As := [.int (r_X5_part (g 9) (3 : Int32) pn pf)]) (rest := []) (st1 := []) (V3 := [(h, .inr (7, [.ref a0, .ref a1, .ref a2, .ref a3, .int (((r_X7_openCallTo (r_X5_part (g 9) (3 : Int32) pn pf) (upd g 10 ((g 9) + (1 : Int32))) F).1) 4), .int (((r_X7_openCallTo (r_X5_part (g 9) (3 : Int32) pn pf) (upd g 10 ((g 9) + (1 : Int32))) F).1) 5), .int (((r_X7_openCallTo (r_X5_part (g 9) (3 : Int32) pn pf) (upd g 10 ((g 9) + (1 : Int32))) F).1) 6), .int (((r_X7_openCallTo (r_X5_part (g 9) (3 : Int32) pn pf) (upd g 10 ((g 9) + (1 : Int32))) F).1) 7), .int (((r_X7_openCallTo (r_X5_part (g 9) (3 : Int32) pn pf) (upd g 10 ((g 9) + (1 : Int32))) F).1) 8), .int (((r_X7_openCallTo (r_X5_part (g 9) (3 : Int32) pn pf) (upd g 10 ((g 9) + (1 : Int32))) F).1) 9), .int (((r_X7_openCallTo (r_X5_part (g 9) (3 : Int32) pn pf) (upd g 10 ((g 9) + (1 : Int32))) F).1) 10), .int (((r_X7_openCallTo (r_X5_part (g 9) (3 : Int32) pn pf) (upd g 10 ((g 9) + (1 : Int32))) F).1) 11)])), (a0, .inl (cyI, 8, .inl (((r_X7_openCallTo (r_X5_part (g 9) (3 : Int32) pn pf) (upd g 10 ((g 9) + (1 : Int32))) F).2) 0))), (a1, .inl (cyI, 16, .inl (((r_X7_openCallTo (r_X5_part (g 9) (3 : Int32) pn pf) (upd g 10 ((g 9) + (1 : Int32))) F).2) 1))), (a2, .inl (cyI, 8, .inl (((r_X7_openCallTo (r_X5_part (g 9) (3 : Int32) pn pf) (upd g 10 ((g 9) + (1 : Int32))) F).2) 2))), (a3, .inl (cyI, 160, .inl (((r_X7_openCallTo (r_X5_part (g 9) (3 : Int32) pn pf) (upd g 10 ((g 9) + (1 : Int32))) F).2) 3))), (ph, .inr (5, [.ref pa, .int pn])), (pa, .inl (cyI, 320, .inl pf)), (uh, .inr (4, [.ref ua, .int un])), (ua, .inl (cyI, 24, .inl uf))]) cx (c_X7_openCallTo l D cyI cyZ h a0 a1 a2 a3 (r_X5_part (g 9) (3 : Int32) pn pf) (upd g 10 ((g 9) + (1 : Int32))) F) hP hD hS [0, 1, 2, 3, 4] ⟨rfl, rfl, rfl⟩ rfl rfl mm_295 mm_296 mm_297 mm_42 mm_270 dd_X7_openCallTo rfl hl.1 rfl dX7_execute_163 rfl (fun H locs hP hD hS => ?_)
                  obtain ⟨u_39, hu_39⟩ : ∃ z, z = r_X7_openCallTo (r_X5_part (g 9) (3 : Int32) pn pf) (upd g 10 ((g 9) + (1 : Int32))) F := ⟨_, rfl⟩
                  rw [← hu_39] at hP hD
                  refine lv_goto (tgt := 189) hx hb dX7_execute_166 (by decide) ?_
                  refine lv_aload_n hx hb dX7_execute_189 rfl (lv_at hl 4 rfl) ?_
                  refine lv_aload_n hx hb dX7_execute_190 rfl (lv_at hl 4 rfl) ?_
                  refine ct_get (v := .int (u_39.1 10)) cx hP 0 rfl rfl bwX7 10 rfl mm_218 rfl dX7_execute_191 ?_
                  refine ct_put (V3 := [(h, .inr (7, [.ref a0, .ref a1, .ref a2, .ref a3, .int (u_39.1 4), .int (u_39.1 5), .int (u_39.1 6), .int (u_39.1 7), .int (u_39.1 8), .int (u_39.1 10), .int (u_39.1 10), .int (u_39.1 11)])), (a0, .inl (cyI, 8, .inl (u_39.2 0))), (a1, .inl (cyI, 16, .inl (u_39.2 1))), (a2, .inl (cyI, 8, .inl (u_39.2 2))), (a3, .inl (cyI, 160, .inl (u_39.2 3))), (ph, .inr (5, [.ref pa, .int pn])), (pa, .inl (cyI, 320, .inl pf)), (uh, .inr (4, [.ref ua, .int un])), (ua, .inl (cyI, 24, .inl uf))]) cx hP hD hS 0 rfl rfl bwX7 tyX7_ok nmX7 9 rfl mm_217 rfl rfl rfl rfl dX7_execute_194 rfl (fun H locs hP hD hS => ?_)
                  refine lv_aload_n hx hb dX7_execute_197 rfl (lv_at hl 4 rfl) ?_
                  refine lv_dup hx hb dX7_execute_198 rfl ?_
                  refine ct_get (v := .int (u_39.1 7)) cx hP 0 rfl rfl bwX7 7 rfl mm_215 rfl dX7_execute_199 ?_
                  refine lv_iconst (v := (1 : Int32)) hx hb dX7_execute_202 (by decide) ?_
                  refine lv_iadd hx hb dX7_execute_203 ?_
                  refine ct_put (V3 := [(h, .inr (7, [.ref a0, .ref a1, .ref a2, .ref a3, .int (u_39.1 4), .int (u_39.1 5), .int (u_39.1 6), .int ((u_39.1 7) + (1 : Int32)), .int (u_39.1 8), .int (u_39.1 10), .int (u_39.1 10), .int (u_39.1 11)])), (a0, .inl (cyI, 8, .inl (u_39.2 0))), (a1, .inl (cyI, 16, .inl (u_39.2 1))), (a2, .inl (cyI, 8, .inl (u_39.2 2))), (a3, .inl (cyI, 160, .inl (u_39.2 3))), (ph, .inr (5, [.ref pa, .int pn])), (pa, .inl (cyI, 320, .inl pf)), (uh, .inr (4, [.ref ua, .int un])), (ua, .inl (cyI, 24, .inl uf))]) cx hP hD hS 0 rfl rfl bwX7 tyX7_ok nmX7 7 rfl mm_215 rfl rfl rfl rfl dX7_execute_204 rfl (fun H locs hP hD hS => ?_)
                  refine lv_goto (tgt := 9) hx hb dX7_execute_207 (by decide) ?_
                  rw [show g_X7_execute_9 pn pf un uf (fu + 1) g F = g_X7_execute_9 pn pf un uf fu (upd (upd u_39.1 9 (u_39.1 10)) 7 ((u_39.1 7) + (1 : Int32))) u_39.2 from (by subst hu_39; exact (if_neg c_23).trans ((if_neg c_28).trans ((if_pos c_31).trans ((if_pos c_32).trans ((if_pos c_33).trans ((if_pos c_34).trans (if_pos c_35)))))))]
                  exact ih (upd (upd u_39.1 9 (u_39.1 10)) 7 ((u_39.1 7) + (1 : Int32))) u_39.2  (by subst_vars; exact mu_step c_23 (k7_openCallTo _ _ _) hmu) _ _ _ hP hD hS (lv_sub hl [4, 5, 6] rfl)
              · skip
                refine lv_aload_n hx hb dX7_execute_140 rfl (lv_at hl 4 rfl) ?_
                refine lv_iload_n hx hb dX7_execute_141 rfl (lv_at hl 3 rfl) ?_
                refine lv_iload hx hb dX7_execute_142 (lv_at hl 2 rfl) ?_
                refine lv_iload hx hb dX7_execute_144 (lv_at hl 1 rfl) ?_
                refine lv_iload hx hb dX7_execute_146 (lv_at hl 0 rfl) ?_
                refine ct_callV (As := [.int (r_X5_part (g 9) (0 : Int32) pn pf), .int (r_X5_part (g 9) (1 : Int32) pn pf), .int (r_X5_part (g 9) (2 : Int32) pn pf), .int (r_X5_part (g 9) (3 : Int32) pn pf)]) (rest := []) (st1 := []) (V3 := [(h, .inr (7, [.ref a0, .ref a1, .ref a2, .ref a3, .int (((r_X7_jump (r_X5_part (g 9) (0 : Int32) pn pf) (r_X5_part (g 9) (1 : Int32) pn pf) (r_X5_part (g 9) (2 : Int32) pn pf) (r_X5_part (g 9) (3 : Int32) pn pf) (upd g 10 ((g 9) + (1 : Int32))) F).1) 4), .int (((r_X7_jump (r_X5_part (g 9) (0 : Int32) pn pf) (r_X5_part (g 9) (1 : Int32) pn pf) (r_X5_part (g 9) (2 : Int32) pn pf) (r_X5_part (g 9) (3 : Int32) pn pf) (upd g 10 ((g 9) + (1 : Int32))) F).1) 5), .int (((r_X7_jump (r_X5_part (g 9) (0 : Int32) pn pf) (r_X5_part (g 9) (1 : Int32) pn pf) (r_X5_part (g 9) (2 : Int32) pn pf) (r_X5_part (g 9) (3 : Int32) pn pf) (upd g 10 ((g 9) + (1 : Int32))) F).1) 6), .int (((r_X7_jump (r_X5_part (g 9) (0 : Int32) pn pf) (r_X5_part (g 9) (1 : Int32) pn pf) (r_X5_part (g 9) (2 : Int32) pn pf) (r_X5_part (g 9) (3 : Int32) pn pf) (upd g 10 ((g 9) + (1 : Int32))) F).1) 7), .int (((r_X7_jump (r_X5_part (g 9) (0 : Int32) pn pf) (r_X5_part (g 9) (1 : Int32) pn pf) (r_X5_part (g 9) (2 : Int32) pn pf) (r_X5_part (g 9) (3 : Int32) pn pf) (upd g 10 ((g 9) + (1 : Int32))) F).1) 8), .int (((r_X7_jump (r_X5_part (g 9) (0 : Int32) pn pf) (r_X5_part (g 9) (1 : Int32) pn pf) (r_X5_part (g 9) (2 : Int32) pn pf) (r_X5_part (g 9) (3 : Int32) pn pf) (upd g 10 ((g 9) + (1 : Int32))) F).1) 9), .int (((r_X7_jump (r_X5_part (g 9) (0 : Int32) pn pf) (r_X5_part (g 9) (1 : Int32) pn pf) (r_X5_part (g 9) (2 : Int32) pn pf) (r_X5_part (g 9) (3 : Int32) pn pf) (upd g 10 ((g 9) + (1 : Int32))) F).1) 10), .int (((r_X7_jump (r_X5_part (g 9) (0 : Int32) pn pf) (r_X5_part (g 9) (1 : Int32) pn pf) (r_X5_part (g 9) (2 : Int32) pn pf) (r_X5_part (g 9) (3 : Int32) pn pf) (upd g 10 ((g 9) + (1 : Int32))) F).1) 11)])), (a0, .inl (cyI, 8, .inl (((r_X7_jump (r_X5_part (g 9) (0 : Int32) pn pf) (r_X5_part (g 9) (1 : Int32) pn pf) (r_X5_part (g 9) (2 : Int32) pn pf) (r_X5_part (g 9) (3 : Int32) pn pf) (upd g 10 ((g 9) + (1 : Int32))) F).2) 0))), (a1, .inl (cyI, 16, .inl (((r_X7_jump (r_X5_part (g 9) (0 : Int32) pn pf) (r_X5_part (g 9) (1 : Int32) pn pf) (r_X5_part (g 9) (2 : Int32) pn pf) (r_X5_part (g 9) (3 : Int32) pn pf) (upd g 10 ((g 9) + (1 : Int32))) F).2) 1))), (a2, .inl (cyI, 8, .inl (((r_X7_jump (r_X5_part (g 9) (0 : Int32) pn pf) (r_X5_part (g 9) (1 : Int32) pn pf) (r_X5_part (g 9) (2 : Int32) pn pf) (r_X5_part (g 9) (3 : Int32) pn pf) (upd g 10 ((g 9) + (1 : Int32))) F).2) 2))), (a3, .inl (cyI, 160, .inl (((r_X7_jump (r_X5_part (g 9) (0 : Int32) pn pf) (r_X5_part (g 9) (1 : Int32) pn pf) (r_X5_part (g 9) (2 : Int32) pn pf) (r_X5_part (g 9) (3 : Int32) pn pf) (upd g 10 ((g 9) + (1 : Int32))) F).2) 3))), (ph, .inr (5, [.ref pa, .int pn])), (pa, .inl (cyI, 320, .inl pf)), (uh, .inr (4, [.ref ua, .int un])), (ua, .inl (cyI, 24, .inl uf))]) cx (c_X7_jump l D cyI cyZ h a0 a1 a2 a3 (r_X5_part (g 9) (0 : Int32) pn pf) (r_X5_part (g 9) (1 : Int32) pn pf) (r_X5_part (g 9) (2 : Int32) pn pf) (r_X5_part (g 9) (3 : Int32) pn pf) (upd g 10 ((g 9) + (1 : Int32))) F) hP hD hS [0, 1, 2, 3, 4] ⟨rfl, rfl, rfl⟩ rfl rfl mm_292 mm_293 mm_294 mm_42 mm_269 dd_X7_jump rfl hl.1 rfl dX7_execute_148 rfl (fun H locs hP hD hS => ?_)
                obtain ⟨u_40, hu_40⟩ : ∃ z, z = r_X7_jump (r_X5_part (g 9) (0 : Int32) pn pf) (r_X5_part (g 9) (1 : Int32) pn pf) (r_X5_part (g 9) (2 : Int32) pn pf) (r_X5_part (g 9) (3 : Int32) pn pf) (upd g 10 ((g 9) + (1 : Int32))) F := ⟨_, rfl⟩
                rw [← hu_40] at hP hD
                refine lv_goto (tgt := 189) hx hb dX7_execute_151 (by decide) ?_
                refine lv_aload_n hx hb dX7_execute_189 rfl (lv_at hl 4 rfl) ?_
                refine lv_aload_n hx hb dX7_execute_190 rfl (lv_at hl 4 rfl) ?_
                refine ct_get (v := .int (u_40.1 10)) cx hP 0 rfl rfl bwX7 10 rfl mm_218 rfl dX7_execute_191 ?_
                refine ct_put (V3 := [(h, .inr (7, [.ref a0, .ref a1, .ref a2, .ref a3, .int (u_40.1 4), .int (u_40.1 5), .int (u_40.1 6), .int (u_40.1 7), .int (u_40.1 8), .int (u_40.1 10), .int (u_40.1 10), .int (u_40.1 11)])), (a0, .inl (cyI, 8, .inl (u_40.2 0))), (a1, .inl (cyI, 16, .inl (u_40.2 1))), (a2, .inl (cyI, 8, .inl (u_40.2 2))), (a3, .inl (cyI, 160, .inl (u_40.2 3))), (ph, .inr (5, [.ref pa, .int pn])), (pa, .inl (cyI, 320, .inl pf)), (uh, .inr (4, [.ref ua, .int un])), (ua, .inl (cyI, 24, .inl uf))]) cx hP hD hS 0 rfl rfl bwX7 tyX7_ok nmX7 9 rfl mm_217 rfl rfl rfl rfl dX7_execute_194 rfl (fun H locs hP hD hS => ?_)
                refine lv_aload_n hx hb dX7_execute_197 rfl (lv_at hl 4 rfl) ?_
                refine lv_dup hx hb dX7_execute_198 rfl ?_
                refine ct_get (v := .int (u_40.1 7)) cx hP 0 rfl rfl bwX7 7 rfl mm_215 rfl dX7_execute_199 ?_
                refine lv_iconst (v := (1 : Int32)) hx hb dX7_execute_202 (by decide) ?_
                refine lv_iadd hx hb dX7_execute_203 ?_
                refine ct_put (V3 := [(h, .inr (7, [.ref a0, .ref a1, .ref a2, .ref a3, .int (u_40.1 4), .int (u_40.1 5), .int (u_40.1 6), .int ((u_40.1 7) + (1 : Int32)), .int (u_40.1 8), .int (u_40.1 10), .int (u_40.1 10), .int (u_40.1 11)])), (a0, .inl (cyI, 8, .inl (u_40.2 0))), (a1, .inl (cyI, 16, .inl (u_40.2 1))), (a2, .inl (cyI, 8, .inl (u_40.2 2))), (a3, .inl (cyI, 160, .inl (u_40.2 3))), (ph, .inr (5, [.ref pa, .int pn])), (pa, .inl (cyI, 320, .inl pf)), (uh, .inr (4, [.ref ua, .int un])), (ua, .inl (cyI, 24, .inl uf))]) cx hP hD hS 0 rfl rfl bwX7 tyX7_ok nmX7 7 rfl mm_215 rfl rfl rfl rfl dX7_execute_204 rfl (fun H locs hP hD hS => ?_)
                refine lv_goto (tgt := 9) hx hb dX7_execute_207 (by decide) ?_
                rw [show g_X7_execute_9 pn pf un uf (fu + 1) g F = g_X7_execute_9 pn pf un uf fu (upd (upd u_40.1 9 (u_40.1 10)) 7 ((u_40.1 7) + (1 : Int32))) u_40.2 from (by subst hu_40; exact (if_neg c_23).trans ((if_neg c_28).trans ((if_pos c_31).trans ((if_pos c_32).trans ((if_pos c_33).trans (if_neg c_34))))))]
                exact ih (upd (upd u_40.1 9 (u_40.1 10)) 7 ((u_40.1 7) + (1 : Int32))) u_40.2  (by subst_vars; exact mu_step c_23 (k7_jump _ _ _ _ _ _) hmu) _ _ _ hP hD hS (lv_sub hl [4, 5, 6] rfl)
            · skip
              refine lv_aload_n hx hb dX7_execute_122 rfl (lv_at hl 4 rfl) ?_
              refine lv_iload_n hx hb dX7_execute_123 rfl (lv_at hl 3 rfl) ?_
              refine lv_iload hx hb dX7_execute_124 (lv_at hl 2 rfl) ?_
              refine lv_iload hx hb dX7_execute_126 (lv_at hl 1 rfl) ?_
              refine ct_callV (As := [.int (r_X5_part (g 9) (0 : Int32) pn pf), .int (r_X5_part (g 9) (1 : Int32) pn pf), .int (r_X5_part (g 9) (2 : Int32) pn pf)]) (rest := []) (st1 := []) (V3 := [(h, .inr (7, [.ref a0, .ref a1, .ref a2, .ref a3, .int (((r_X7_useRow (r_X5_part (g 9) (0 : Int32) pn pf) (r_X5_part (g 9) (1 : Int32) pn pf) (r_X5_part (g 9) (2 : Int32) pn pf) (upd g 10 ((g 9) + (1 : Int32))) F).1) 4), .int (((r_X7_useRow (r_X5_part (g 9) (0 : Int32) pn pf) (r_X5_part (g 9) (1 : Int32) pn pf) (r_X5_part (g 9) (2 : Int32) pn pf) (upd g 10 ((g 9) + (1 : Int32))) F).1) 5), .int (((r_X7_useRow (r_X5_part (g 9) (0 : Int32) pn pf) (r_X5_part (g 9) (1 : Int32) pn pf) (r_X5_part (g 9) (2 : Int32) pn pf) (upd g 10 ((g 9) + (1 : Int32))) F).1) 6), .int (((r_X7_useRow (r_X5_part (g 9) (0 : Int32) pn pf) (r_X5_part (g 9) (1 : Int32) pn pf) (r_X5_part (g 9) (2 : Int32) pn pf) (upd g 10 ((g 9) + (1 : Int32))) F).1) 7), .int (((r_X7_useRow (r_X5_part (g 9) (0 : Int32) pn pf) (r_X5_part (g 9) (1 : Int32) pn pf) (r_X5_part (g 9) (2 : Int32) pn pf) (upd g 10 ((g 9) + (1 : Int32))) F).1) 8), .int (((r_X7_useRow (r_X5_part (g 9) (0 : Int32) pn pf) (r_X5_part (g 9) (1 : Int32) pn pf) (r_X5_part (g 9) (2 : Int32) pn pf) (upd g 10 ((g 9) + (1 : Int32))) F).1) 9), .int (((r_X7_useRow (r_X5_part (g 9) (0 : Int32) pn pf) (r_X5_part (g 9) (1 : Int32) pn pf) (r_X5_part (g 9) (2 : Int32) pn pf) (upd g 10 ((g 9) + (1 : Int32))) F).1) 10), .int (((r_X7_useRow (r_X5_part (g 9) (0 : Int32) pn pf) (r_X5_part (g 9) (1 : Int32) pn pf) (r_X5_part (g 9) (2 : Int32) pn pf) (upd g 10 ((g 9) + (1 : Int32))) F).1) 11)])), (a0, .inl (cyI, 8, .inl (((r_X7_useRow (r_X5_part (g 9) (0 : Int32) pn pf) (r_X5_part (g 9) (1 : Int32) pn pf) (r_X5_part (g 9) (2 : Int32) pn pf) (upd g 10 ((g 9) + (1 : Int32))) F).2) 0))), (a1, .inl (cyI, 16, .inl (((r_X7_useRow (r_X5_part (g 9) (0 : Int32) pn pf) (r_X5_part (g 9) (1 : Int32) pn pf) (r_X5_part (g 9) (2 : Int32) pn pf) (upd g 10 ((g 9) + (1 : Int32))) F).2) 1))), (a2, .inl (cyI, 8, .inl (((r_X7_useRow (r_X5_part (g 9) (0 : Int32) pn pf) (r_X5_part (g 9) (1 : Int32) pn pf) (r_X5_part (g 9) (2 : Int32) pn pf) (upd g 10 ((g 9) + (1 : Int32))) F).2) 2))), (a3, .inl (cyI, 160, .inl (((r_X7_useRow (r_X5_part (g 9) (0 : Int32) pn pf) (r_X5_part (g 9) (1 : Int32) pn pf) (r_X5_part (g 9) (2 : Int32) pn pf) (upd g 10 ((g 9) + (1 : Int32))) F).2) 3))), (ph, .inr (5, [.ref pa, .int pn])), (pa, .inl (cyI, 320, .inl pf)), (uh, .inr (4, [.ref ua, .int un])), (ua, .inl (cyI, 24, .inl uf))]) cx (c_X7_useRow l D cyI cyZ h a0 a1 a2 a3 (r_X5_part (g 9) (0 : Int32) pn pf) (r_X5_part (g 9) (1 : Int32) pn pf) (r_X5_part (g 9) (2 : Int32) pn pf) (upd g 10 ((g 9) + (1 : Int32))) F) hP hD hS [0, 1, 2, 3, 4] ⟨rfl, rfl, rfl⟩ rfl rfl mm_289 mm_290 mm_291 mm_42 mm_266 dd_X7_useRow rfl hl.1 rfl dX7_execute_128 rfl (fun H locs hP hD hS => ?_)
              obtain ⟨u_41, hu_41⟩ : ∃ z, z = r_X7_useRow (r_X5_part (g 9) (0 : Int32) pn pf) (r_X5_part (g 9) (1 : Int32) pn pf) (r_X5_part (g 9) (2 : Int32) pn pf) (upd g 10 ((g 9) + (1 : Int32))) F := ⟨_, rfl⟩
              rw [← hu_41] at hP hD
              refine lv_goto (tgt := 189) hx hb dX7_execute_131 (by decide) ?_
              refine lv_aload_n hx hb dX7_execute_189 rfl (lv_at hl 4 rfl) ?_
              refine lv_aload_n hx hb dX7_execute_190 rfl (lv_at hl 4 rfl) ?_
              refine ct_get (v := .int (u_41.1 10)) cx hP 0 rfl rfl bwX7 10 rfl mm_218 rfl dX7_execute_191 ?_
              refine ct_put (V3 := [(h, .inr (7, [.ref a0, .ref a1, .ref a2, .ref a3, .int (u_41.1 4), .int (u_41.1 5), .int (u_41.1 6), .int (u_41.1 7), .int (u_41.1 8), .int (u_41.1 10), .int (u_41.1 10), .int (u_41.1 11)])), (a0, .inl (cyI, 8, .inl (u_41.2 0))), (a1, .inl (cyI, 16, .inl (u_41.2 1))), (a2, .inl (cyI, 8, .inl (u_41.2 2))), (a3, .inl (cyI, 160, .inl (u_41.2 3))), (ph, .inr (5, [.ref pa, .int pn])), (pa, .inl (cyI, 320, .inl pf)), (uh, .inr (4, [.ref ua, .int un])), (ua, .inl (cyI, 24, .inl uf))]) cx hP hD hS 0 rfl rfl bwX7 tyX7_ok nmX7 9 rfl mm_217 rfl rfl rfl rfl dX7_execute_194 rfl (fun H locs hP hD hS => ?_)
              refine lv_aload_n hx hb dX7_execute_197 rfl (lv_at hl 4 rfl) ?_
              refine lv_dup hx hb dX7_execute_198 rfl ?_
              refine ct_get (v := .int (u_41.1 7)) cx hP 0 rfl rfl bwX7 7 rfl mm_215 rfl dX7_execute_199 ?_
              refine lv_iconst (v := (1 : Int32)) hx hb dX7_execute_202 (by decide) ?_
              refine lv_iadd hx hb dX7_execute_203 ?_
              refine ct_put (V3 := [(h, .inr (7, [.ref a0, .ref a1, .ref a2, .ref a3, .int (u_41.1 4), .int (u_41.1 5), .int (u_41.1 6), .int ((u_41.1 7) + (1 : Int32)), .int (u_41.1 8), .int (u_41.1 10), .int (u_41.1 10), .int (u_41.1 11)])), (a0, .inl (cyI, 8, .inl (u_41.2 0))), (a1, .inl (cyI, 16, .inl (u_41.2 1))), (a2, .inl (cyI, 8, .inl (u_41.2 2))), (a3, .inl (cyI, 160, .inl (u_41.2 3))), (ph, .inr (5, [.ref pa, .int pn])), (pa, .inl (cyI, 320, .inl pf)), (uh, .inr (4, [.ref ua, .int un])), (ua, .inl (cyI, 24, .inl uf))]) cx hP hD hS 0 rfl rfl bwX7 tyX7_ok nmX7 7 rfl mm_215 rfl rfl rfl rfl dX7_execute_204 rfl (fun H locs hP hD hS => ?_)
              refine lv_goto (tgt := 9) hx hb dX7_execute_207 (by decide) ?_
              rw [show g_X7_execute_9 pn pf un uf (fu + 1) g F = g_X7_execute_9 pn pf un uf fu (upd (upd u_41.1 9 (u_41.1 10)) 7 ((u_41.1 7) + (1 : Int32))) u_41.2 from (by subst hu_41; exact (if_neg c_23).trans ((if_neg c_28).trans ((if_pos c_31).trans ((if_pos c_32).trans (if_neg c_33)))))]
              exact ih (upd (upd u_41.1 9 (u_41.1 10)) 7 ((u_41.1 7) + (1 : Int32))) u_41.2  (by subst_vars; exact mu_step c_23 (k7_useRow _ _ _ _ _) hmu) _ _ _ hP hD hS (lv_sub hl [4, 5, 6] rfl)
          · skip
            refine lv_aload_n hx hb dX7_execute_103 rfl (lv_at hl 4 rfl) ?_
            refine lv_iload_n hx hb dX7_execute_104 rfl (lv_at hl 3 rfl) ?_
            refine lv_iload hx hb dX7_execute_105 (lv_at hl 2 rfl) ?_
            refine lv_iload hx hb dX7_execute_107 (lv_at hl 1 rfl) ?_
            refine lv_aload_n hx hb dX7_execute_109 rfl (lv_at hl 6 rfl) ?_
            refine ct_callV (As := [.int (r_X5_part (g 9) (0 : Int32) pn pf), .int (r_X5_part (g 9) (1 : Int32) pn pf), .int (r_X5_part (g 9) (2 : Int32) pn pf), .ref uh]) (rest := []) (st1 := []) (V3 := [(h, .inr (7, [.ref a0, .ref a1, .ref a2, .ref a3, .int (((r_X7_readInput (r_X5_part (g 9) (0 : Int32) pn pf) (r_X5_part (g 9) (1 : Int32) pn pf) (r_X5_part (g 9) (2 : Int32) pn pf) (upd g 10 ((g 9) + (1 : Int32))) F un uf).1) 4), .int (((r_X7_readInput (r_X5_part (g 9) (0 : Int32) pn pf) (r_X5_part (g 9) (1 : Int32) pn pf) (r_X5_part (g 9) (2 : Int32) pn pf) (upd g 10 ((g 9) + (1 : Int32))) F un uf).1) 5), .int (((r_X7_readInput (r_X5_part (g 9) (0 : Int32) pn pf) (r_X5_part (g 9) (1 : Int32) pn pf) (r_X5_part (g 9) (2 : Int32) pn pf) (upd g 10 ((g 9) + (1 : Int32))) F un uf).1) 6), .int (((r_X7_readInput (r_X5_part (g 9) (0 : Int32) pn pf) (r_X5_part (g 9) (1 : Int32) pn pf) (r_X5_part (g 9) (2 : Int32) pn pf) (upd g 10 ((g 9) + (1 : Int32))) F un uf).1) 7), .int (((r_X7_readInput (r_X5_part (g 9) (0 : Int32) pn pf) (r_X5_part (g 9) (1 : Int32) pn pf) (r_X5_part (g 9) (2 : Int32) pn pf) (upd g 10 ((g 9) + (1 : Int32))) F un uf).1) 8), .int (((r_X7_readInput (r_X5_part (g 9) (0 : Int32) pn pf) (r_X5_part (g 9) (1 : Int32) pn pf) (r_X5_part (g 9) (2 : Int32) pn pf) (upd g 10 ((g 9) + (1 : Int32))) F un uf).1) 9), .int (((r_X7_readInput (r_X5_part (g 9) (0 : Int32) pn pf) (r_X5_part (g 9) (1 : Int32) pn pf) (r_X5_part (g 9) (2 : Int32) pn pf) (upd g 10 ((g 9) + (1 : Int32))) F un uf).1) 10), .int (((r_X7_readInput (r_X5_part (g 9) (0 : Int32) pn pf) (r_X5_part (g 9) (1 : Int32) pn pf) (r_X5_part (g 9) (2 : Int32) pn pf) (upd g 10 ((g 9) + (1 : Int32))) F un uf).1) 11)])), (a0, .inl (cyI, 8, .inl (((r_X7_readInput (r_X5_part (g 9) (0 : Int32) pn pf) (r_X5_part (g 9) (1 : Int32) pn pf) (r_X5_part (g 9) (2 : Int32) pn pf) (upd g 10 ((g 9) + (1 : Int32))) F un uf).2) 0))), (a1, .inl (cyI, 16, .inl (((r_X7_readInput (r_X5_part (g 9) (0 : Int32) pn pf) (r_X5_part (g 9) (1 : Int32) pn pf) (r_X5_part (g 9) (2 : Int32) pn pf) (upd g 10 ((g 9) + (1 : Int32))) F un uf).2) 1))), (a2, .inl (cyI, 8, .inl (((r_X7_readInput (r_X5_part (g 9) (0 : Int32) pn pf) (r_X5_part (g 9) (1 : Int32) pn pf) (r_X5_part (g 9) (2 : Int32) pn pf) (upd g 10 ((g 9) + (1 : Int32))) F un uf).2) 2))), (a3, .inl (cyI, 160, .inl (((r_X7_readInput (r_X5_part (g 9) (0 : Int32) pn pf) (r_X5_part (g 9) (1 : Int32) pn pf) (r_X5_part (g 9) (2 : Int32) pn pf) (upd g 10 ((g 9) + (1 : Int32))) F un uf).2) 3))), (ph, .inr (5, [.ref pa, .int pn])), (pa, .inl (cyI, 320, .inl pf)), (uh, .inr (4, [.ref ua, .int un])), (ua, .inl (cyI, 24, .inl uf))]) cx (c_X7_readInput l D cyI cyZ h a0 a1 a2 a3 uh ua (r_X5_part (g 9) (0 : Int32) pn pf) (r_X5_part (g 9) (1 : Int32) pn pf) (r_X5_part (g 9) (2 : Int32) pn pf) (upd g 10 ((g 9) + (1 : Int32))) F un uf) hP hD hS [0, 1, 2, 3, 4, 7, 8] ⟨rfl, rfl, rfl⟩ rfl rfl mm_286 mm_287 mm_288 mm_42 mm_264 dd_X7_readInput rfl hl.1 rfl dX7_execute_110 rfl (fun H locs hP hD hS => ?_)
            obtain ⟨u_42, hu_42⟩ : ∃ z, z = r_X7_readInput (r_X5_part (g 9) (0 : Int32) pn pf) (r_X5_part (g 9) (1 : Int32) pn pf) (r_X5_part (g 9) (2 : Int32) pn pf) (upd g 10 ((g 9) + (1 : Int32))) F un uf := ⟨_, rfl⟩
            rw [← hu_42] at hP hD
            refine lv_goto (tgt := 189) hx hb dX7_execute_113 (by decide) ?_
            refine lv_aload_n hx hb dX7_execute_189 rfl (lv_at hl 4 rfl) ?_
            refine lv_aload_n hx hb dX7_execute_190 rfl (lv_at hl 4 rfl) ?_
            refine ct_get (v := .int (u_42.1 10)) cx hP 0 rfl rfl bwX7 10 rfl mm_218 rfl dX7_execute_191 ?_
            refine ct_put (V3 := [(h, .inr (7, [.ref a0, .ref a1, .ref a2, .ref a3, .int (u_42.1 4), .int (u_42.1 5), .int (u_42.1 6), .int (u_42.1 7), .int (u_42.1 8), .int (u_42.1 10), .int (u_42.1 10), .int (u_42.1 11)])), (a0, .inl (cyI, 8, .inl (u_42.2 0))), (a1, .inl (cyI, 16, .inl (u_42.2 1))), (a2, .inl (cyI, 8, .inl (u_42.2 2))), (a3, .inl (cyI, 160, .inl (u_42.2 3))), (ph, .inr (5, [.ref pa, .int pn])), (pa, .inl (cyI, 320, .inl pf)), (uh, .inr (4, [.ref ua, .int un])), (ua, .inl (cyI, 24, .inl uf))]) cx hP hD hS 0 rfl rfl bwX7 tyX7_ok nmX7 9 rfl mm_217 rfl rfl rfl rfl dX7_execute_194 rfl (fun H locs hP hD hS => ?_)
            refine lv_aload_n hx hb dX7_execute_197 rfl (lv_at hl 4 rfl) ?_
            refine lv_dup hx hb dX7_execute_198 rfl ?_
            refine ct_get (v := .int (u_42.1 7)) cx hP 0 rfl rfl bwX7 7 rfl mm_215 rfl dX7_execute_199 ?_
            refine lv_iconst (v := (1 : Int32)) hx hb dX7_execute_202 (by decide) ?_
            refine lv_iadd hx hb dX7_execute_203 ?_
            refine ct_put (V3 := [(h, .inr (7, [.ref a0, .ref a1, .ref a2, .ref a3, .int (u_42.1 4), .int (u_42.1 5), .int (u_42.1 6), .int ((u_42.1 7) + (1 : Int32)), .int (u_42.1 8), .int (u_42.1 10), .int (u_42.1 10), .int (u_42.1 11)])), (a0, .inl (cyI, 8, .inl (u_42.2 0))), (a1, .inl (cyI, 16, .inl (u_42.2 1))), (a2, .inl (cyI, 8, .inl (u_42.2 2))), (a3, .inl (cyI, 160, .inl (u_42.2 3))), (ph, .inr (5, [.ref pa, .int pn])), (pa, .inl (cyI, 320, .inl pf)), (uh, .inr (4, [.ref ua, .int un])), (ua, .inl (cyI, 24, .inl uf))]) cx hP hD hS 0 rfl rfl bwX7 tyX7_ok nmX7 7 rfl mm_215 rfl rfl rfl rfl dX7_execute_204 rfl (fun H locs hP hD hS => ?_)
            refine lv_goto (tgt := 9) hx hb dX7_execute_207 (by decide) ?_
            rw [show g_X7_execute_9 pn pf un uf (fu + 1) g F = g_X7_execute_9 pn pf un uf fu (upd (upd u_42.1 9 (u_42.1 10)) 7 ((u_42.1 7) + (1 : Int32))) u_42.2 from (by subst hu_42; exact (if_neg c_23).trans ((if_neg c_28).trans ((if_pos c_31).trans (if_neg c_32))))]
            exact ih (upd (upd u_42.1 9 (u_42.1 10)) 7 ((u_42.1 7) + (1 : Int32))) u_42.2  (by subst_vars; exact mu_step c_23 (k7_readInput _ _ _ _ _ _ _) hmu) _ _ _ hP hD hS (lv_sub hl [4, 5, 6] rfl)
        · skip
          refine lv_aload_n hx hb dX7_execute_85 rfl (lv_at hl 4 rfl) ?_
          refine lv_iload_n hx hb dX7_execute_86 rfl (lv_at hl 3 rfl) ?_
          refine lv_iload hx hb dX7_execute_87 (lv_at hl 2 rfl) ?_
          refine lv_iload hx hb dX7_execute_89 (lv_at hl 1 rfl) ?_
          refine ct_callV (As := [.int (r_X5_part (g 9) (0 : Int32) pn pf), .int (r_X5_part (g 9) (1 : Int32) pn pf), .int (r_X5_part (g 9) (2 : Int32) pn pf)]) (rest := []) (st1 := []) (V3 := [(h, .inr (7, [.ref a0, .ref a1, .ref a2, .ref a3, .int (((r_X7_reckon (r_X5_part (g 9) (0 : Int32) pn pf) (r_X5_part (g 9) (1 : Int32) pn pf) (r_X5_part (g 9) (2 : Int32) pn pf) (upd g 10 ((g 9) + (1 : Int32))) F).1) 4), .int (((r_X7_reckon (r_X5_part (g 9) (0 : Int32) pn pf) (r_X5_part (g 9) (1 : Int32) pn pf) (r_X5_part (g 9) (2 : Int32) pn pf) (upd g 10 ((g 9) + (1 : Int32))) F).1) 5), .int (((r_X7_reckon (r_X5_part (g 9) (0 : Int32) pn pf) (r_X5_part (g 9) (1 : Int32) pn pf) (r_X5_part (g 9) (2 : Int32) pn pf) (upd g 10 ((g 9) + (1 : Int32))) F).1) 6), .int (((r_X7_reckon (r_X5_part (g 9) (0 : Int32) pn pf) (r_X5_part (g 9) (1 : Int32) pn pf) (r_X5_part (g 9) (2 : Int32) pn pf) (upd g 10 ((g 9) + (1 : Int32))) F).1) 7), .int (((r_X7_reckon (r_X5_part (g 9) (0 : Int32) pn pf) (r_X5_part (g 9) (1 : Int32) pn pf) (r_X5_part (g 9) (2 : Int32) pn pf) (upd g 10 ((g 9) + (1 : Int32))) F).1) 8), .int (((r_X7_reckon (r_X5_part (g 9) (0 : Int32) pn pf) (r_X5_part (g 9) (1 : Int32) pn pf) (r_X5_part (g 9) (2 : Int32) pn pf) (upd g 10 ((g 9) + (1 : Int32))) F).1) 9), .int (((r_X7_reckon (r_X5_part (g 9) (0 : Int32) pn pf) (r_X5_part (g 9) (1 : Int32) pn pf) (r_X5_part (g 9) (2 : Int32) pn pf) (upd g 10 ((g 9) + (1 : Int32))) F).1) 10), .int (((r_X7_reckon (r_X5_part (g 9) (0 : Int32) pn pf) (r_X5_part (g 9) (1 : Int32) pn pf) (r_X5_part (g 9) (2 : Int32) pn pf) (upd g 10 ((g 9) + (1 : Int32))) F).1) 11)])), (a0, .inl (cyI, 8, .inl (((r_X7_reckon (r_X5_part (g 9) (0 : Int32) pn pf) (r_X5_part (g 9) (1 : Int32) pn pf) (r_X5_part (g 9) (2 : Int32) pn pf) (upd g 10 ((g 9) + (1 : Int32))) F).2) 0))), (a1, .inl (cyI, 16, .inl (((r_X7_reckon (r_X5_part (g 9) (0 : Int32) pn pf) (r_X5_part (g 9) (1 : Int32) pn pf) (r_X5_part (g 9) (2 : Int32) pn pf) (upd g 10 ((g 9) + (1 : Int32))) F).2) 1))), (a2, .inl (cyI, 8, .inl (((r_X7_reckon (r_X5_part (g 9) (0 : Int32) pn pf) (r_X5_part (g 9) (1 : Int32) pn pf) (r_X5_part (g 9) (2 : Int32) pn pf) (upd g 10 ((g 9) + (1 : Int32))) F).2) 2))), (a3, .inl (cyI, 160, .inl (((r_X7_reckon (r_X5_part (g 9) (0 : Int32) pn pf) (r_X5_part (g 9) (1 : Int32) pn pf) (r_X5_part (g 9) (2 : Int32) pn pf) (upd g 10 ((g 9) + (1 : Int32))) F).2) 3))), (ph, .inr (5, [.ref pa, .int pn])), (pa, .inl (cyI, 320, .inl pf)), (uh, .inr (4, [.ref ua, .int un])), (ua, .inl (cyI, 24, .inl uf))]) cx (c_X7_reckon l D cyI cyZ h a0 a1 a2 a3 (r_X5_part (g 9) (0 : Int32) pn pf) (r_X5_part (g 9) (1 : Int32) pn pf) (r_X5_part (g 9) (2 : Int32) pn pf) (upd g 10 ((g 9) + (1 : Int32))) F) hP hD hS [0, 1, 2, 3, 4] ⟨rfl, rfl, rfl⟩ rfl rfl mm_283 mm_284 mm_285 mm_42 mm_251 dd_X7_reckon rfl hl.1 rfl dX7_execute_91 rfl (fun H locs hP hD hS => ?_)
          obtain ⟨u_43, hu_43⟩ : ∃ z, z = r_X7_reckon (r_X5_part (g 9) (0 : Int32) pn pf) (r_X5_part (g 9) (1 : Int32) pn pf) (r_X5_part (g 9) (2 : Int32) pn pf) (upd g 10 ((g 9) + (1 : Int32))) F := ⟨_, rfl⟩
          rw [← hu_43] at hP hD
          refine lv_goto (tgt := 189) hx hb dX7_execute_94 (by decide) ?_
          refine lv_aload_n hx hb dX7_execute_189 rfl (lv_at hl 4 rfl) ?_
          refine lv_aload_n hx hb dX7_execute_190 rfl (lv_at hl 4 rfl) ?_
          refine ct_get (v := .int (u_43.1 10)) cx hP 0 rfl rfl bwX7 10 rfl mm_218 rfl dX7_execute_191 ?_
          refine ct_put (V3 := [(h, .inr (7, [.ref a0, .ref a1, .ref a2, .ref a3, .int (u_43.1 4), .int (u_43.1 5), .int (u_43.1 6), .int (u_43.1 7), .int (u_43.1 8), .int (u_43.1 10), .int (u_43.1 10), .int (u_43.1 11)])), (a0, .inl (cyI, 8, .inl (u_43.2 0))), (a1, .inl (cyI, 16, .inl (u_43.2 1))), (a2, .inl (cyI, 8, .inl (u_43.2 2))), (a3, .inl (cyI, 160, .inl (u_43.2 3))), (ph, .inr (5, [.ref pa, .int pn])), (pa, .inl (cyI, 320, .inl pf)), (uh, .inr (4, [.ref ua, .int un])), (ua, .inl (cyI, 24, .inl uf))]) cx hP hD hS 0 rfl rfl bwX7 tyX7_ok nmX7 9 rfl mm_217 rfl rfl rfl rfl dX7_execute_194 rfl (fun H locs hP hD hS => ?_)
          refine lv_aload_n hx hb dX7_execute_197 rfl (lv_at hl 4 rfl) ?_
          refine lv_dup hx hb dX7_execute_198 rfl ?_
          refine ct_get (v := .int (u_43.1 7)) cx hP 0 rfl rfl bwX7 7 rfl mm_215 rfl dX7_execute_199 ?_
          refine lv_iconst (v := (1 : Int32)) hx hb dX7_execute_202 (by decide) ?_
          refine lv_iadd hx hb dX7_execute_203 ?_
          refine ct_put (V3 := [(h, .inr (7, [.ref a0, .ref a1, .ref a2, .ref a3, .int (u_43.1 4), .int (u_43.1 5), .int (u_43.1 6), .int ((u_43.1 7) + (1 : Int32)), .int (u_43.1 8), .int (u_43.1 10), .int (u_43.1 10), .int (u_43.1 11)])), (a0, .inl (cyI, 8, .inl (u_43.2 0))), (a1, .inl (cyI, 16, .inl (u_43.2 1))), (a2, .inl (cyI, 8, .inl (u_43.2 2))), (a3, .inl (cyI, 160, .inl (u_43.2 3))), (ph, .inr (5, [.ref pa, .int pn])), (pa, .inl (cyI, 320, .inl pf)), (uh, .inr (4, [.ref ua, .int un])), (ua, .inl (cyI, 24, .inl uf))]) cx hP hD hS 0 rfl rfl bwX7 tyX7_ok nmX7 7 rfl mm_215 rfl rfl rfl rfl dX7_execute_204 rfl (fun H locs hP hD hS => ?_)
          refine lv_goto (tgt := 9) hx hb dX7_execute_207 (by decide) ?_
          rw [show g_X7_execute_9 pn pf un uf (fu + 1) g F = g_X7_execute_9 pn pf un uf fu (upd (upd u_43.1 9 (u_43.1 10)) 7 ((u_43.1 7) + (1 : Int32))) u_43.2 from (by subst hu_43; exact (if_neg c_23).trans ((if_neg c_28).trans (if_neg c_31)))]
          exact ih (upd (upd u_43.1 9 (u_43.1 10)) 7 ((u_43.1 7) + (1 : Int32))) u_43.2  (by subst_vars; exact mu_step c_23 (k7_reckon _ _ _ _ _) hmu) _ _ _ hP hD hS (lv_sub hl [4, 5, 6] rfl)
set_option maxHeartbeats 4000000 in
set_option maxRecDepth 100000 in
theorem c_X7_execute (l : Launch) (D : va_G) (cyI cyZ : ClassId) (h : Nat) (a0 : Nat) (a1 : Nat) (a2 : Nat) (a3 : Nat) (ph : Nat) (pa : Nat) (uh : Nat) (ua : Nat) (g : Nat → Int32) (F : Nat → Nat → Int32) (pn : Int32) (pf : Nat → Int32) (un : Int32) (uf : Nat → Int32) (hn : pn ≤ 80) : CT l D cyI cyZ yX7_execute cX7_execute 7 none ({ frames := 2, cells := 0, slots := 0, locals := 47 }) [.ref h, .ref ph, .ref uh] [(h, .inr (7, [.ref a0, .ref a1, .ref a2, .ref a3, .int (g 4), .int (g 5), .int (g 6), .int (g 7), .int (g 8), .int (g 9), .int (g 10), .int (g 11)])), (a0, .inl (cyI, 8, .inl (F 0))), (a1, .inl (cyI, 16, .inl (F 1))), (a2, .inl (cyI, 8, .inl (F 2))), (a3, .inl (cyI, 160, .inl (F 3))), (ph, .inr (5, [.ref pa, .int pn])), (pa, .inl (cyI, 320, .inl pf)), (uh, .inr (4, [.ref ua, .int un])), (ua, .inl (cyI, 24, .inl uf))] none [(h, .inr (7, [.ref a0, .ref a1, .ref a2, .ref a3, .int (((r_X7_execute g F pn pf un uf).1) 4), .int (((r_X7_execute g F pn pf un uf).1) 5), .int (((r_X7_execute g F pn pf un uf).1) 6), .int (((r_X7_execute g F pn pf un uf).1) 7), .int (((r_X7_execute g F pn pf un uf).1) 8), .int (((r_X7_execute g F pn pf un uf).1) 9), .int (((r_X7_execute g F pn pf un uf).1) 10), .int (((r_X7_execute g F pn pf un uf).1) 11)])), (a0, .inl (cyI, 8, .inl (((r_X7_execute g F pn pf un uf).2) 0))), (a1, .inl (cyI, 16, .inl (((r_X7_execute g F pn pf un uf).2) 1))), (a2, .inl (cyI, 8, .inl (((r_X7_execute g F pn pf un uf).2) 2))), (a3, .inl (cyI, 160, .inl (((r_X7_execute g F pn pf un uf).2) 3))), (ph, .inr (5, [.ref pa, .int pn])), (pa, .inl (cyI, 320, .inl pf)), (uh, .inr (4, [.ref ua, .int un])), (ua, .inl (cyI, 24, .inl uf))] := by
  refine ct_intro (by decide) (Nat.le_of_ble_eq_true rfl) ?_
  intro p e s m below meth c A ls cx hP hD hS hl
  obtain ⟨hx, hb, -⟩ := id cx
  refine lv_aload_n hx hb dX7_execute_0 rfl (lv_at hl 0 rfl) ?_
  refine ct_callV (As := []) (rest := []) (st1 := []) (V3 := [(h, .inr (7, [.ref a0, .ref a1, .ref a2, .ref a3, .int (((r_X7_reset g F).1) 4), .int (((r_X7_reset g F).1) 5), .int (((r_X7_reset g F).1) 6), .int (((r_X7_reset g F).1) 7), .int (((r_X7_reset g F).1) 8), .int (((r_X7_reset g F).1) 9), .int (((r_X7_reset g F).1) 10), .int (((r_X7_reset g F).1) 11)])), (a0, .inl (cyI, 8, .inl (((r_X7_reset g F).2) 0))), (a1, .inl (cyI, 16, .inl (((r_X7_reset g F).2) 1))), (a2, .inl (cyI, 8, .inl (((r_X7_reset g F).2) 2))), (a3, .inl (cyI, 160, .inl (((r_X7_reset g F).2) 3))), (ph, .inr (5, [.ref pa, .int pn])), (pa, .inl (cyI, 320, .inl pf)), (uh, .inr (4, [.ref ua, .int un])), (ua, .inl (cyI, 24, .inl uf))]) cx (c_X7_reset l D cyI cyZ h a0 a1 a2 a3 g F) hP hD hS [0, 1, 2, 3, 4] ⟨rfl, rfl, rfl⟩ rfl rfl mm_274 mm_275 mm_276 mm_42 mm_233 dd_X7_reset rfl hl.1 rfl dX7_execute_1 rfl (fun H locs hP hD hS => ?_)
  obtain ⟨u_1, hu_1⟩ : ∃ z, z = r_X7_reset g F := ⟨_, rfl⟩
  rw [← hu_1] at hP hD
  refine lv_aload_n hx hb dX7_execute_4 rfl (lv_at hl 0 rfl) ?_
  refine lv_iconst (v := (0 : Int32)) hx hb dX7_execute_5 (by decide) ?_
  refine ct_put (V3 := [(h, .inr (7, [.ref a0, .ref a1, .ref a2, .ref a3, .int (u_1.1 4), .int (u_1.1 5), .int (u_1.1 6), .int (0 : Int32), .int (u_1.1 8), .int (u_1.1 9), .int (u_1.1 10), .int (u_1.1 11)])), (a0, .inl (cyI, 8, .inl (u_1.2 0))), (a1, .inl (cyI, 16, .inl (u_1.2 1))), (a2, .inl (cyI, 8, .inl (u_1.2 2))), (a3, .inl (cyI, 160, .inl (u_1.2 3))), (ph, .inr (5, [.ref pa, .int pn])), (pa, .inl (cyI, 320, .inl pf)), (uh, .inr (4, [.ref ua, .int un])), (ua, .inl (cyI, 24, .inl uf))]) cx hP hD hS 0 rfl rfl bwX7 tyX7_ok nmX7 7 rfl mm_215 rfl rfl rfl rfl dX7_execute_6 rfl (fun H locs hP hD hS => ?_)
  rw [show r_X7_execute g F pn pf un uf = g_X7_execute_9 pn pf un uf ((400 - ((upd u_1.1 7 (0 : Int32)) 7).toInt).toNat + 1) (upd u_1.1 7 (0 : Int32)) u_1.2 from (by subst hu_1; exact rfl)]
  exact (lp_X7_execute_9 cx h a0 a1 a2 a3 ph pa uh ua pn pf un uf hn) ((400 - ((upd u_1.1 7 (0 : Int32)) 7).toInt).toNat + 1) (upd u_1.1 7 (0 : Int32)) u_1.2  (Nat.lt_succ_self _) _ _ _ hP hD hS (lv_sub hl [0, 1, 2] rfl)
