def r_X8_code (op : Int32) (va : Int32) (vb : Int32) (vc : Int32) (rf : Int32) (pn : Int32) (pf : Nat → Int32) (bcv : Nat → Int32) (btr : Int32) (bpn : Int32) (bpf : Nat → Int32) (bpz : Nat → Int32) (bff : Nat → Int32) (bfsn : Int32) (bfsf : Nat → Int32) (bfsz : Nat → Int32) (dcv : Nat → Int32) (dtr : Int32) (dpn : Int32) (dpf : Nat → Int32) (dpz : Nat → Int32) (dff : Nat → Int32) (dfsn : Int32) (dfsf : Nat → Int32) (dfsz : Nat → Int32) : Int32 × Int32 × (Nat → Int32) := if (r_X5_fits op va vb vc) = (0 : Int32) then ((-2 : Int32), pn, pf) else if (0 : Int32) < btr then ((-3 : Int32), pn, pf) else if dtr ≤ (0 : Int32) then (let u_4 : Int32 × Int32 × (Nat → Int32) := r_X5_append op va vb vc pn pf; if u_4.1 = (0 : Int32) then ((-4 : Int32), u_4.2.1, u_4.2.2) else (u_4.2.1 - (1 : Int32), u_4.2.1, u_4.2.2)) else ((-3 : Int32), pn, pf)
set_option maxHeartbeats 4000000 in
set_option maxRecDepth 100000 in
theorem c_X8_code (l : Launch) (D : va_G) (cyI cyZ : ClassId) (h : Nat) (ph : Nat) (pa : Nat) (th : Nat) (sh : Nat) (lh : Nat) (oh : Nat) (bh : Nat) (bca : Nat) (bph : Nat) (bpa : Nat) (bpb : Nat) (bfh : Nat) (bfa : Nat) (bfsh : Nat) (bfsa : Nat) (bfsb : Nat) (dh : Nat) (dca : Nat) (dph : Nat) (dpa : Nat) (dpb : Nat) (dfh : Nat) (dfa : Nat) (dfsh : Nat) (dfsa : Nat) (dfsb : Nat) (ch : Nat) (kh : Nat) (op : Int32) (va : Int32) (vb : Int32) (vc : Int32) (rf : Int32) (pn : Int32) (pf : Nat → Int32) (bcv : Nat → Int32) (btr : Int32) (bpn : Int32) (bpf : Nat → Int32) (bpz : Nat → Int32) (bff : Nat → Int32) (bfsn : Int32) (bfsf : Nat → Int32) (bfsz : Nat → Int32) (dcv : Nat → Int32) (dtr : Int32) (dpn : Int32) (dpf : Nat → Int32) (dpz : Nat → Int32) (dff : Nat → Int32) (dfsn : Int32) (dfsf : Nat → Int32) (dfsz : Nat → Int32)  : CT l D cyI cyZ yX8_code cX8_code 5 (some .int) ({ frames := 2, cells := 0, slots := 0, locals := 44 }) [.ref h, .int op, .int va, .int vb, .int vc] [(h, .inr (8, [.ref ph, .ref th, .ref sh, .ref lh, .ref oh, .ref bh, .ref dh, .ref ch, .ref kh, .int rf])), (ph, .inr (5, [.ref pa, .int pn])), (pa, .inl (cyI, 320, .inl pf)), (bh, .inr (0, [.ref bph, .ref bfh, .ref bca, .int btr])), (bca, .inl (cyI, 160, .inl bcv)), (bph, .inr (6, [.int (nI 40), .ref bpa, .ref bpb, .int bpn])), (bpa, .inl (cyI, 40 * 24, .inl bpf)), (bpb, .inl (cyI, 40, .inl bpz)), (bfh, .inr (3, [.ref bfa, .ref bfsh])), (bfa, .inl (cyI, 100, .inl bff)), (bfsh, .inr (6, [.int (nI 20), .ref bfsa, .ref bfsb, .int bfsn])), (bfsa, .inl (cyI, 20 * 24, .inl bfsf)), (bfsb, .inl (cyI, 20, .inl bfsz)), (dh, .inr (0, [.ref dph, .ref dfh, .ref dca, .int dtr])), (dca, .inl (cyI, 160, .inl dcv)), (dph, .inr (6, [.int (nI 40), .ref dpa, .ref dpb, .int dpn])), (dpa, .inl (cyI, 40 * 24, .inl dpf)), (dpb, .inl (cyI, 40, .inl dpz)), (dfh, .inr (3, [.ref dfa, .ref dfsh])), (dfa, .inl (cyI, 100, .inl dff)), (dfsh, .inr (6, [.int (nI 20), .ref dfsa, .ref dfsb, .int dfsn])), (dfsa, .inl (cyI, 20 * 24, .inl dfsf)), (dfsb, .inl (cyI, 20, .inl dfsz))] (some (.int ((r_X8_code op va vb vc rf pn pf bcv btr bpn bpf bpz bff bfsn bfsf bfsz dcv dtr dpn dpf dpz dff dfsn dfsf dfsz).1))) [(h, .inr (8, [.ref ph, .ref th, .ref sh, .ref lh, .ref oh, .ref bh, .ref dh, .ref ch, .ref kh, .int rf])), (ph, .inr (5, [.ref pa, .int ((r_X8_code op va vb vc rf pn pf bcv btr bpn bpf bpz bff bfsn bfsf bfsz dcv dtr dpn dpf dpz dff dfsn dfsf dfsz).2.1)])), (pa, .inl (cyI, 320, .inl ((r_X8_code op va vb vc rf pn pf bcv btr bpn bpf bpz bff bfsn bfsf bfsz dcv dtr dpn dpf dpz dff dfsn dfsf dfsz).2.2))), (bh, .inr (0, [.ref bph, .ref bfh, .ref bca, .int btr])), (bca, .inl (cyI, 160, .inl bcv)), (bph, .inr (6, [.int (nI 40), .ref bpa, .ref bpb, .int bpn])), (bpa, .inl (cyI, 40 * 24, .inl bpf)), (bpb, .inl (cyI, 40, .inl bpz)), (bfh, .inr (3, [.ref bfa, .ref bfsh])), (bfa, .inl (cyI, 100, .inl bff)), (bfsh, .inr (6, [.int (nI 20), .ref bfsa, .ref bfsb, .int bfsn])), (bfsa, .inl (cyI, 20 * 24, .inl bfsf)), (bfsb, .inl (cyI, 20, .inl bfsz)), (dh, .inr (0, [.ref dph, .ref dfh, .ref dca, .int dtr])), (dca, .inl (cyI, 160, .inl dcv)), (dph, .inr (6, [.int (nI 40), .ref dpa, .ref dpb, .int dpn])), (dpa, .inl (cyI, 40 * 24, .inl dpf)), (dpb, .inl (cyI, 40, .inl dpz)), (dfh, .inr (3, [.ref dfa, .ref dfsh])), (dfa, .inl (cyI, 100, .inl dff)), (dfsh, .inr (6, [.int (nI 20), .ref dfsa, .ref dfsb, .int dfsn])), (dfsa, .inl (cyI, 20 * 24, .inl dfsf)), (dfsb, .inl (cyI, 20, .inl dfsz))] := by
  refine ct_intro (by decide) (Nat.le_of_ble_eq_true rfl) ?_
  intro p e s m below meth c A ls cx hP hD hS hl
  obtain ⟨hx, hb, -⟩ := id cx
  refine lv_iload_n hx hb dX8_code_0 rfl (lv_at hl 1 rfl) ?_
  refine lv_iload_n hx hb dX8_code_1 rfl (lv_at hl 2 rfl) ?_
  refine lv_iload_n hx hb dX8_code_2 rfl (lv_at hl 3 rfl) ?_
  refine lv_iload hx hb dX8_code_3 (lv_at hl 4 rfl) ?_
  refine ct_callS (As := [.int op, .int va, .int vb, .int vc]) (rest := []) (st1 := [.int (r_X5_fits op va vb vc)]) (V3 := [(h, .inr (8, [.ref ph, .ref th, .ref sh, .ref lh, .ref oh, .ref bh, .ref dh, .ref ch, .ref kh, .int rf])), (ph, .inr (5, [.ref pa, .int pn])), (pa, .inl (cyI, 320, .inl pf)), (bh, .inr (0, [.ref bph, .ref bfh, .ref bca, .int btr])), (bca, .inl (cyI, 160, .inl bcv)), (bph, .inr (6, [.int (nI 40), .ref bpa, .ref bpb, .int bpn])), (bpa, .inl (cyI, 40 * 24, .inl bpf)), (bpb, .inl (cyI, 40, .inl bpz)), (bfh, .inr (3, [.ref bfa, .ref bfsh])), (bfa, .inl (cyI, 100, .inl bff)), (bfsh, .inr (6, [.int (nI 20), .ref bfsa, .ref bfsb, .int bfsn])), (bfsa, .inl (cyI, 20 * 24, .inl bfsf)), (bfsb, .inl (cyI, 20, .inl bfsz)), (dh, .inr (0, [.ref dph, .ref dfh, .ref dca, .int dtr])), (dca, .inl (cyI, 160, .inl dcv)), (dph, .inr (6, [.int (nI 40), .ref dpa, .ref dpb, .int dpn])), (dpa, .inl (cyI, 40 * 24, .inl dpf)), (dpb, .inl (cyI, 40, .inl dpz)), (dfh, .inr (3, [.ref dfa, .ref dfsh])), (dfa, .inl (cyI, 100, .inl dff)), (dfsh, .inr (6, [.int (nI 20), .ref dfsa, .ref dfsb, .int dfsn])), (dfsa, .inl (cyI, 20 * 24, .inl dfsf)), (dfsb, .inl (cyI, 20, .inl dfsz))]) cx (c_X5_fits l D cyI cyZ op va vb vc) hP hD hS [] [(false, 0), (false, 1), (false, 2), (false, 3), (false, 4), (false, 5), (false, 6), (false, 7), (false, 8), (false, 9), (false, 10), (false, 11), (false, 12), (false, 13), (false, 14), (false, 15), (false, 16), (false, 17), (false, 18), (false, 19), (false, 20), (false, 21), (false, 22)] ⟨rfl, rfl, rfl⟩ mm_388 mm_389 mm_241 mm_344 dd_X5_fits rfl hl.1 rfl dX8_code_5 rfl (fun H locs hP hD hS => ?_)
  refine lv_if_ne (tgt := 14) hx hb dX8_code_8 (by decide) (fun c_1 => ?_) (fun c_1 => ?_)
  · skip
    refine lv_aload_n hx hb dX8_code_14 rfl (lv_at hl 0 rfl) ?_
    refine ct_get (v := .ref bh) cx hP 0 rfl rfl bwX8 5 rfl mm_374 rfl dX8_code_15 ?_
    refine ct_callV (As := []) (rest := []) (st1 := [.int btr]) (V3 := [(h, .inr (8, [.ref ph, .ref th, .ref sh, .ref lh, .ref oh, .ref bh, .ref dh, .ref ch, .ref kh, .int rf])), (ph, .inr (5, [.ref pa, .int pn])), (pa, .inl (cyI, 320, .inl pf)), (bh, .inr (0, [.ref bph, .ref bfh, .ref bca, .int btr])), (bca, .inl (cyI, 160, .inl bcv)), (bph, .inr (6, [.int (nI 40), .ref bpa, .ref bpb, .int bpn])), (bpa, .inl (cyI, 40 * 24, .inl bpf)), (bpb, .inl (cyI, 40, .inl bpz)), (bfh, .inr (3, [.ref bfa, .ref bfsh])), (bfa, .inl (cyI, 100, .inl bff)), (bfsh, .inr (6, [.int (nI 20), .ref bfsa, .ref bfsb, .int bfsn])), (bfsa, .inl (cyI, 20 * 24, .inl bfsf)), (bfsb, .inl (cyI, 20, .inl bfsz)), (dh, .inr (0, [.ref dph, .ref dfh, .ref dca, .int dtr])), (dca, .inl (cyI, 160, .inl dcv)), (dph, .inr (6, [.int (nI 40), .ref dpa, .ref dpb, .int dpn])), (dpa, .inl (cyI, 40 * 24, .inl dpf)), (dpb, .inl (cyI, 40, .inl dpz)), (dfh, .inr (3, [.ref dfa, .ref dfsh])), (dfa, .inl (cyI, 100, .inl dff)), (dfsh, .inr (6, [.int (nI 20), .ref dfsa, .ref dfsb, .int dfsn])), (dfsa, .inl (cyI, 20 * 24, .inl dfsf)), (dfsb, .inl (cyI, 20, .inl dfsz))]) cx (c_X0_tries l D cyI cyZ bh bca bph bpa bpb bfh bfa bfsh bfsa bfsb bcv btr bpn bpf bpz bff bfsn bfsf bfsz) hP hD hS [3, 4, 5, 6, 7, 8, 9, 10, 11, 12] [(false, 0), (false, 1), (false, 2), (true, 0), (true, 1), (true, 2), (true, 3), (true, 4), (true, 5), (true, 6), (true, 7), (true, 8), (true, 9), (false, 13), (false, 14), (false, 15), (false, 16), (false, 17), (false, 18), (false, 19), (false, 20), (false, 21), (false, 22)] ⟨rfl, rfl, rfl⟩ rfl rfl mm_390 mm_391 mm_392 mm_45 mm_37 dd_X0_tries rfl hl.1 rfl dX8_code_18 rfl (fun H locs hP hD hS => ?_)
    refine lv_if_gt (tgt := 34) hx hb dX8_code_21 (by decide) (fun c_2 => ?_) (fun c_2 => ?_)
    · skip
      refine lv_bipush (v := (-3 : Int32)) hx hb dX8_code_34 (by decide) ?_
      rw [show r_X8_code op va vb vc rf pn pf bcv btr bpn bpf bpz bff bfsn bfsf bfsz dcv dtr dpn dpf dpz dff dfsn dfsf dfsz = ((-3 : Int32), pn, pf) from (if_neg c_1).trans (if_pos c_2)]
      dsimp only
      exact ct_iret cx hP hD hS dX8_code_36
    · skip
      refine lv_aload_n hx hb dX8_code_24 rfl (lv_at hl 0 rfl) ?_
      refine ct_get (v := .ref dh) cx hP 0 rfl rfl bwX8 6 rfl mm_375 rfl dX8_code_25 ?_
      refine ct_callV (As := []) (rest := []) (st1 := [.int dtr]) (V3 := [(h, .inr (8, [.ref ph, .ref th, .ref sh, .ref lh, .ref oh, .ref bh, .ref dh, .ref ch, .ref kh, .int rf])), (ph, .inr (5, [.ref pa, .int pn])), (pa, .inl (cyI, 320, .inl pf)), (bh, .inr (0, [.ref bph, .ref bfh, .ref bca, .int btr])), (bca, .inl (cyI, 160, .inl bcv)), (bph, .inr (6, [.int (nI 40), .ref bpa, .ref bpb, .int bpn])), (bpa, .inl (cyI, 40 * 24, .inl bpf)), (bpb, .inl (cyI, 40, .inl bpz)), (bfh, .inr (3, [.ref bfa, .ref bfsh])), (bfa, .inl (cyI, 100, .inl bff)), (bfsh, .inr (6, [.int (nI 20), .ref bfsa, .ref bfsb, .int bfsn])), (bfsa, .inl (cyI, 20 * 24, .inl bfsf)), (bfsb, .inl (cyI, 20, .inl bfsz)), (dh, .inr (0, [.ref dph, .ref dfh, .ref dca, .int dtr])), (dca, .inl (cyI, 160, .inl dcv)), (dph, .inr (6, [.int (nI 40), .ref dpa, .ref dpb, .int dpn])), (dpa, .inl (cyI, 40 * 24, .inl dpf)), (dpb, .inl (cyI, 40, .inl dpz)), (dfh, .inr (3, [.ref dfa, .ref dfsh])), (dfa, .inl (cyI, 100, .inl dff)), (dfsh, .inr (6, [.int (nI 20), .ref dfsa, .ref dfsb, .int dfsn])), (dfsa, .inl (cyI, 20 * 24, .inl dfsf)), (dfsb, .inl (cyI, 20, .inl dfsz))]) cx (c_X0_tries l D cyI cyZ dh dca dph dpa dpb dfh dfa dfsh dfsa dfsb dcv dtr dpn dpf dpz dff dfsn dfsf dfsz) hP hD hS [13, 14, 15, 16, 17, 18, 19, 20, 21, 22] [(false, 0), (false, 1), (false, 2), (false, 3), (false, 4), (false, 5), (false, 6), (false, 7), (false, 8), (false, 9), (false, 10), (false, 11), (false, 12), (true, 0), (true, 1), (true, 2), (true, 3), (true, 4), (true, 5), (true, 6), (true, 7), (true, 8), (true, 9)] ⟨rfl, rfl, rfl⟩ rfl rfl mm_390 mm_391 mm_392 mm_45 mm_37 dd_X0_tries rfl hl.1 rfl dX8_code_28 rfl (fun H locs hP hD hS => ?_)
      refine lv_if_le (tgt := 37) hx hb dX8_code_31 (by decide) (fun c_3 => ?_) (fun c_3 => ?_)
      · skip
        refine lv_aload_n hx hb dX8_code_37 rfl (lv_at hl 0 rfl) ?_
        refine ct_get (v := .ref ph) cx hP 0 rfl rfl bwX8 0 rfl mm_365 rfl dX8_code_38 ?_
        refine lv_iload_n hx hb dX8_code_41 rfl (lv_at hl 1 rfl) ?_
        refine lv_iload_n hx hb dX8_code_42 rfl (lv_at hl 2 rfl) ?_
        refine lv_iload_n hx hb dX8_code_43 rfl (lv_at hl 3 rfl) ?_
        refine lv_iload hx hb dX8_code_44 (lv_at hl 4 rfl) ?_
        refine ct_callV (As := [.int op, .int va, .int vb, .int vc]) (rest := []) (st1 := [.int ((r_X5_append op va vb vc pn pf).1)]) (V3 := [(h, .inr (8, [.ref ph, .ref th, .ref sh, .ref lh, .ref oh, .ref bh, .ref dh, .ref ch, .ref kh, .int rf])), (ph, .inr (5, [.ref pa, .int ((r_X5_append op va vb vc pn pf).2.1)])), (pa, .inl (cyI, 320, .inl ((r_X5_append op va vb vc pn pf).2.2))), (bh, .inr (0, [.ref bph, .ref bfh, .ref bca, .int btr])), (bca, .inl (cyI, 160, .inl bcv)), (bph, .inr (6, [.int (nI 40), .ref bpa, .ref bpb, .int bpn])), (bpa, .inl (cyI, 40 * 24, .inl bpf)), (bpb, .inl (cyI, 40, .inl bpz)), (bfh, .inr (3, [.ref bfa, .ref bfsh])), (bfa, .inl (cyI, 100, .inl bff)), (bfsh, .inr (6, [.int (nI 20), .ref bfsa, .ref bfsb, .int bfsn])), (bfsa, .inl (cyI, 20 * 24, .inl bfsf)), (bfsb, .inl (cyI, 20, .inl bfsz)), (dh, .inr (0, [.ref dph, .ref dfh, .ref dca, .int dtr])), (dca, .inl (cyI, 160, .inl dcv)), (dph, .inr (6, [.int (nI 40), .ref dpa, .ref dpb, .int dpn])), (dpa, .inl (cyI, 40 * 24, .inl dpf)), (dpb, .inl (cyI, 40, .inl dpz)), (dfh, .inr (3, [.ref dfa, .ref dfsh])), (dfa, .inl (cyI, 100, .inl dff)), (dfsh, .inr (6, [.int (nI 20), .ref dfsa, .ref dfsb, .int dfsn])), (dfsa, .inl (cyI, 20 * 24, .inl dfsf)), (dfsb, .inl (cyI, 20, .inl dfsz))]) cx (c_X5_append l D cyI cyZ ph pa op va vb vc pn pf) hP hD hS [1, 2] [(false, 0), (true, 0), (true, 1), (false, 3), (false, 4), (false, 5), (false, 6), (false, 7), (false, 8), (false, 9), (false, 10), (false, 11), (false, 12), (false, 13), (false, 14), (false, 15), (false, 16), (false, 17), (false, 18), (false, 19), (false, 20), (false, 21), (false, 22)] ⟨rfl, rfl, rfl⟩ rfl rfl mm_393 mm_394 mm_395 mm_241 mm_356 dd_X5_append rfl hl.1 rfl dX8_code_46 rfl (fun H locs hP hD hS => ?_)
        obtain ⟨u_4, hu_4⟩ : ∃ z, z = r_X5_append op va vb vc pn pf := ⟨_, rfl⟩
        rw [← hu_4] at hP hD ⊢
        refine lv_if_eq (tgt := 64) hx hb dX8_code_49 (by decide) (fun c_5 => ?_) (fun c_5 => ?_)
        · skip
          refine lv_bipush (v := (-4 : Int32)) hx hb dX8_code_64 (by decide) ?_
          rw [show r_X8_code op va vb vc rf pn pf bcv btr bpn bpf bpz bff bfsn bfsf bfsz dcv dtr dpn dpf dpz dff dfsn dfsf dfsz = ((-4 : Int32), u_4.2.1, u_4.2.2) from (by subst hu_4; exact (if_neg c_1).trans ((if_neg c_2).trans ((if_pos c_3).trans (if_pos c_5))))]
          dsimp only
          exact ct_iret cx hP hD hS dX8_code_66
        · skip
          refine lv_aload_n hx hb dX8_code_52 rfl (lv_at hl 0 rfl) ?_
          refine ct_get (v := .ref ph) cx hP 0 rfl rfl bwX8 0 rfl mm_365 rfl dX8_code_53 ?_
          refine ct_callV (As := []) (rest := []) (st1 := [.int u_4.2.1]) (V3 := [(h, .inr (8, [.ref ph, .ref th, .ref sh, .ref lh, .ref oh, .ref bh, .ref dh, .ref ch, .ref kh, .int rf])), (ph, .inr (5, [.ref pa, .int u_4.2.1])), (pa, .inl (cyI, 320, .inl u_4.2.2)), (bh, .inr (0, [.ref bph, .ref bfh, .ref bca, .int btr])), (bca, .inl (cyI, 160, .inl bcv)), (bph, .inr (6, [.int (nI 40), .ref bpa, .ref bpb, .int bpn])), (bpa, .inl (cyI, 40 * 24, .inl bpf)), (bpb, .inl (cyI, 40, .inl bpz)), (bfh, .inr (3, [.ref bfa, .ref bfsh])), (bfa, .inl (cyI, 100, .inl bff)), (bfsh, .inr (6, [.int (nI 20), .ref bfsa, .ref bfsb, .int bfsn])), (bfsa, .inl (cyI, 20 * 24, .inl bfsf)), (bfsb, .inl (cyI, 20, .inl bfsz)), (dh, .inr (0, [.ref dph, .ref dfh, .ref dca, .int dtr])), (dca, .inl (cyI, 160, .inl dcv)), (dph, .inr (6, [.int (nI 40), .ref dpa, .ref dpb, .int dpn])), (dpa, .inl (cyI, 40 * 24, .inl dpf)), (dpb, .inl (cyI, 40, .inl dpz)), (dfh, .inr (3, [.ref dfa, .ref dfsh])), (dfa, .inl (cyI, 100, .inl dff)), (dfsh, .inr (6, [.int (nI 20), .ref dfsa, .ref dfsb, .int dfsn])), (dfsa, .inl (cyI, 20 * 24, .inl dfsf)), (dfsb, .inl (cyI, 20, .inl dfsz))]) cx (c_X5_size l D cyI cyZ ph pa u_4.2.1 u_4.2.2) hP hD hS [1, 2] [(false, 0), (true, 0), (true, 1), (false, 3), (false, 4), (false, 5), (false, 6), (false, 7), (false, 8), (false, 9), (false, 10), (false, 11), (false, 12), (false, 13), (false, 14), (false, 15), (false, 16), (false, 17), (false, 18), (false, 19), (false, 20), (false, 21), (false, 22)] ⟨rfl, rfl, rfl⟩ rfl rfl mm_396 mm_397 mm_398 mm_241 mm_353 dd_X5_size rfl hl.1 rfl dX8_code_56 rfl (fun H locs hP hD hS => ?_)
          refine lv_iconst (v := (1 : Int32)) hx hb dX8_code_59 (by decide) ?_
          refine lv_isub hx hb dX8_code_60 ?_
          refine lv_goto (tgt := 66) hx hb dX8_code_61 (by decide) ?_
          rw [show r_X8_code op va vb vc rf pn pf bcv btr bpn bpf bpz bff bfsn bfsf bfsz dcv dtr dpn dpf dpz dff dfsn dfsf dfsz = (u_4.2.1 - (1 : Int32), u_4.2.1, u_4.2.2) from (by subst hu_4; exact (if_neg c_1).trans ((if_neg c_2).trans ((if_pos c_3).trans (if_neg c_5))))]
          dsimp only
          exact ct_iret cx hP hD hS dX8_code_66
      · skip
        refine lv_bipush (v := (-3 : Int32)) hx hb dX8_code_34 (by decide) ?_
        rw [show r_X8_code op va vb vc rf pn pf bcv btr bpn bpf bpz bff bfsn bfsf bfsz dcv dtr dpn dpf dpz dff dfsn dfsf dfsz = ((-3 : Int32), pn, pf) from (if_neg c_1).trans ((if_neg c_2).trans (if_neg c_3))]
        dsimp only
        exact ct_iret cx hP hD hS dX8_code_36
  · skip
    refine lv_bipush (v := (-2 : Int32)) hx hb dX8_code_11 (by decide) ?_
    rw [show r_X8_code op va vb vc rf pn pf bcv btr bpn bpf bpz bff bfsn bfsf bfsz dcv dtr dpn dpf dpz dff dfsn dfsf dfsz = ((-2 : Int32), pn, pf) from if_pos c_1]
    dsimp only
    exact ct_iret cx hP hD hS dX8_code_13
def r_X8_wipe (rf : Int32) (pn : Int32) (pf : Nat → Int32) (bcv : Nat → Int32) (btr : Int32) (bpn : Int32) (bpf : Nat → Int32) (bpz : Nat → Int32) (bff : Nat → Int32) (bfsn : Int32) (bfsf : Nat → Int32) (bfsz : Nat → Int32) (dcv : Nat → Int32) (dtr : Int32) (dpn : Int32) (dpf : Nat → Int32) (dpz : Nat → Int32) (dff : Nat → Int32) (dfsn : Int32) (dfsf : Nat → Int32) (dfsz : Nat → Int32) : Int32 × Int32 × (Nat → Int32) × Int32 × Int32 × Int32 × (Nat → Int32) × Int32 × Int32 × Int32 := let u_1 : Int32 := r_X5_clear pn pf; let u_2 : (Nat → Int32) × Int32 × Int32 × Int32 := r_X0_clear bcv btr bpn bpf bpz bff bfsn bfsf bfsz; let u_3 : (Nat → Int32) × Int32 × Int32 × Int32 := r_X0_clear dcv dtr dpn dpf dpz dff dfsn dfsf dfsz; (pn, u_1, u_2.1, u_2.2.1, u_2.2.2.1, u_2.2.2.2, u_3.1, u_3.2.1, u_3.2.2.1, u_3.2.2.2)
set_option maxHeartbeats 4000000 in
set_option maxRecDepth 100000 in
theorem c_X8_wipe (l : Launch) (D : va_G) (cyI cyZ : ClassId) (h : Nat) (ph : Nat) (pa : Nat) (th : Nat) (sh : Nat) (lh : Nat) (oh : Nat) (bh : Nat) (bca : Nat) (bph : Nat) (bpa : Nat) (bpb : Nat) (bfh : Nat) (bfa : Nat) (bfsh : Nat) (bfsa : Nat) (bfsb : Nat) (dh : Nat) (dca : Nat) (dph : Nat) (dpa : Nat) (dpb : Nat) (dfh : Nat) (dfa : Nat) (dfsh : Nat) (dfsa : Nat) (dfsb : Nat) (ch : Nat) (kh : Nat) (rf : Int32) (pn : Int32) (pf : Nat → Int32) (bcv : Nat → Int32) (btr : Int32) (bpn : Int32) (bpf : Nat → Int32) (bpz : Nat → Int32) (bff : Nat → Int32) (bfsn : Int32) (bfsf : Nat → Int32) (bfsz : Nat → Int32) (dcv : Nat → Int32) (dtr : Int32) (dpn : Int32) (dpf : Nat → Int32) (dpz : Nat → Int32) (dff : Nat → Int32) (dfsn : Int32) (dfsf : Nat → Int32) (dfsz : Nat → Int32)  : CT l D cyI cyZ yX8_wipe cX8_wipe 2 (some .int) ({ frames := 3, cells := 0, slots := 0, locals := 60 }) [.ref h] [(h, .inr (8, [.ref ph, .ref th, .ref sh, .ref lh, .ref oh, .ref bh, .ref dh, .ref ch, .ref kh, .int rf])), (ph, .inr (5, [.ref pa, .int pn])), (pa, .inl (cyI, 320, .inl pf)), (bh, .inr (0, [.ref bph, .ref bfh, .ref bca, .int btr])), (bca, .inl (cyI, 160, .inl bcv)), (bph, .inr (6, [.int (nI 40), .ref bpa, .ref bpb, .int bpn])), (bpa, .inl (cyI, 40 * 24, .inl bpf)), (bpb, .inl (cyI, 40, .inl bpz)), (bfh, .inr (3, [.ref bfa, .ref bfsh])), (bfa, .inl (cyI, 100, .inl bff)), (bfsh, .inr (6, [.int (nI 20), .ref bfsa, .ref bfsb, .int bfsn])), (bfsa, .inl (cyI, 20 * 24, .inl bfsf)), (bfsb, .inl (cyI, 20, .inl bfsz)), (dh, .inr (0, [.ref dph, .ref dfh, .ref dca, .int dtr])), (dca, .inl (cyI, 160, .inl dcv)), (dph, .inr (6, [.int (nI 40), .ref dpa, .ref dpb, .int dpn])), (dpa, .inl (cyI, 40 * 24, .inl dpf)), (dpb, .inl (cyI, 40, .inl dpz)), (dfh, .inr (3, [.ref dfa, .ref dfsh])), (dfa, .inl (cyI, 100, .inl dff)), (dfsh, .inr (6, [.int (nI 20), .ref dfsa, .ref dfsb, .int dfsn])), (dfsa, .inl (cyI, 20 * 24, .inl dfsf)), (dfsb, .inl (cyI, 20, .inl dfsz))] (some (.int ((r_X8_wipe rf pn pf bcv btr bpn bpf bpz bff bfsn bfsf bfsz dcv dtr dpn dpf dpz dff dfsn dfsf dfsz).1))) [(h, .inr (8, [.ref ph, .ref th, .ref sh, .ref lh, .ref oh, .ref bh, .ref dh, .ref ch, .ref kh, .int rf])), (ph, .inr (5, [.ref pa, .int ((r_X8_wipe rf pn pf bcv btr bpn bpf bpz bff bfsn bfsf bfsz dcv dtr dpn dpf dpz dff dfsn dfsf dfsz).2.1)])), (pa, .inl (cyI, 320, .inl pf)), (bh, .inr (0, [.ref bph, .ref bfh, .ref bca, .int ((r_X8_wipe rf pn pf bcv btr bpn bpf bpz bff bfsn bfsf bfsz dcv dtr dpn dpf dpz dff dfsn dfsf dfsz).2.2.2.1)])), (bca, .inl (cyI, 160, .inl ((r_X8_wipe rf pn pf bcv btr bpn bpf bpz bff bfsn bfsf bfsz dcv dtr dpn dpf dpz dff dfsn dfsf dfsz).2.2.1))), (bph, .inr (6, [.int (nI 40), .ref bpa, .ref bpb, .int ((r_X8_wipe rf pn pf bcv btr bpn bpf bpz bff bfsn bfsf bfsz dcv dtr dpn dpf dpz dff dfsn dfsf dfsz).2.2.2.2.1)])), (bpa, .inl (cyI, 40 * 24, .inl bpf)), (bpb, .inl (cyI, 40, .inl bpz)), (bfh, .inr (3, [.ref bfa, .ref bfsh])), (bfa, .inl (cyI, 100, .inl bff)), (bfsh, .inr (6, [.int (nI 20), .ref bfsa, .ref bfsb, .int ((r_X8_wipe rf pn pf bcv btr bpn bpf bpz bff bfsn bfsf bfsz dcv dtr dpn dpf dpz dff dfsn dfsf dfsz).2.2.2.2.2.1)])), (bfsa, .inl (cyI, 20 * 24, .inl bfsf)), (bfsb, .inl (cyI, 20, .inl bfsz)), (dh, .inr (0, [.ref dph, .ref dfh, .ref dca, .int ((r_X8_wipe rf pn pf bcv btr bpn bpf bpz bff bfsn bfsf bfsz dcv dtr dpn dpf dpz dff dfsn dfsf dfsz).2.2.2.2.2.2.2.1)])), (dca, .inl (cyI, 160, .inl ((r_X8_wipe rf pn pf bcv btr bpn bpf bpz bff bfsn bfsf bfsz dcv dtr dpn dpf dpz dff dfsn dfsf dfsz).2.2.2.2.2.2.1))), (dph, .inr (6, [.int (nI 40), .ref dpa, .ref dpb, .int ((r_X8_wipe rf pn pf bcv btr bpn bpf bpz bff bfsn bfsf bfsz dcv dtr dpn dpf dpz dff dfsn dfsf dfsz).2.2.2.2.2.2.2.2.1)])), (dpa, .inl (cyI, 40 * 24, .inl dpf)), (dpb, .inl (cyI, 40, .inl dpz)), (dfh, .inr (3, [.ref dfa, .ref dfsh])), (dfa, .inl (cyI, 100, .inl dff)), (dfsh, .inr (6, [.int (nI 20), .ref dfsa, .ref dfsb, .int ((r_X8_wipe rf pn pf bcv btr bpn bpf bpz bff bfsn bfsf bfsz dcv dtr dpn dpf dpz dff dfsn dfsf dfsz).2.2.2.2.2.2.2.2.2)])), (dfsa, .inl (cyI, 20 * 24, .inl dfsf)), (dfsb, .inl (cyI, 20, .inl dfsz))] := by
  refine ct_intro (by decide) (Nat.le_of_ble_eq_true rfl) ?_
  intro p e s m below meth c A ls cx hP hD hS hl
  obtain ⟨hx, hb, -⟩ := id cx
  refine lv_aload_n hx hb dX8_wipe_0 rfl (lv_at hl 0 rfl) ?_
  refine ct_get (v := .ref ph) cx hP 0 rfl rfl bwX8 0 rfl mm_365 rfl dX8_wipe_1 ?_
  refine ct_callV (As := []) (rest := []) (st1 := [.int pn]) (V3 := [(h, .inr (8, [.ref ph, .ref th, .ref sh, .ref lh, .ref oh, .ref bh, .ref dh, .ref ch, .ref kh, .int rf])), (ph, .inr (5, [.ref pa, .int pn])), (pa, .inl (cyI, 320, .inl pf)), (bh, .inr (0, [.ref bph, .ref bfh, .ref bca, .int btr])), (bca, .inl (cyI, 160, .inl bcv)), (bph, .inr (6, [.int (nI 40), .ref bpa, .ref bpb, .int bpn])), (bpa, .inl (cyI, 40 * 24, .inl bpf)), (bpb, .inl (cyI, 40, .inl bpz)), (bfh, .inr (3, [.ref bfa, .ref bfsh])), (bfa, .inl (cyI, 100, .inl bff)), (bfsh, .inr (6, [.int (nI 20), .ref bfsa, .ref bfsb, .int bfsn])), (bfsa, .inl (cyI, 20 * 24, .inl bfsf)), (bfsb, .inl (cyI, 20, .inl bfsz)), (dh, .inr (0, [.ref dph, .ref dfh, .ref dca, .int dtr])), (dca, .inl (cyI, 160, .inl dcv)), (dph, .inr (6, [.int (nI 40), .ref dpa, .ref dpb, .int dpn])), (dpa, .inl (cyI, 40 * 24, .inl dpf)), (dpb, .inl (cyI, 40, .inl dpz)), (dfh, .inr (3, [.ref dfa, .ref dfsh])), (dfa, .inl (cyI, 100, .inl dff)), (dfsh, .inr (6, [.int (nI 20), .ref dfsa, .ref dfsb, .int dfsn])), (dfsa, .inl (cyI, 20 * 24, .inl dfsf)), (dfsb, .inl (cyI, 20, .inl dfsz))]) cx (c_X5_size l D cyI cyZ ph pa pn pf) hP hD hS [1, 2] [(false, 0), (true, 0), (true, 1), (false, 3), (false, 4), (false, 5), (false, 6), (false, 7), (false, 8), (false, 9), (false, 10), (false, 11), (false, 12), (false, 13), (false, 14), (false, 15), (false, 16), (false, 17), (false, 18), (false, 19), (false, 20), (false, 21), (false, 22)] ⟨rfl, rfl, rfl⟩ rfl rfl mm_396 mm_397 mm_398 mm_241 mm_353 dd_X5_size rfl hl.1 rfl dX8_wipe_4 rfl (fun H locs hP hD hS => ?_)
  refine lv_istore_n (lv' := [(1, .int pn), (0, .ref h)]) hx hb dX8_wipe_7 rfl hl (by decide) rfl (fun ls hl => ?_)
  refine lv_aload_n hx hb dX8_wipe_8 rfl (lv_at hl 1 rfl) ?_
  refine ct_get (v := .ref ph) cx hP 0 rfl rfl bwX8 0 rfl mm_365 rfl dX8_wipe_9 ?_
  refine ct_callV (As := []) (rest := []) (st1 := []) (V3 := [(h, .inr (8, [.ref ph, .ref th, .ref sh, .ref lh, .ref oh, .ref bh, .ref dh, .ref ch, .ref kh, .int rf])), (ph, .inr (5, [.ref pa, .int (r_X5_clear pn pf)])), (pa, .inl (cyI, 320, .inl pf)), (bh, .inr (0, [.ref bph, .ref bfh, .ref bca, .int btr])), (bca, .inl (cyI, 160, .inl bcv)), (bph, .inr (6, [.int (nI 40), .ref bpa, .ref bpb, .int bpn])), (bpa, .inl (cyI, 40 * 24, .inl bpf)), (bpb, .inl (cyI, 40, .inl bpz)), (bfh, .inr (3, [.ref bfa, .ref bfsh])), (bfa, .inl (cyI, 100, .inl bff)), (bfsh, .inr (6, [.int (nI 20), .ref bfsa, .ref bfsb, .int bfsn])), (bfsa, .inl (cyI, 20 * 24, .inl bfsf)), (bfsb, .inl (cyI, 20, .inl bfsz)), (dh, .inr (0, [.ref dph, .ref dfh, .ref dca, .int dtr])), (dca, .inl (cyI, 160, .inl dcv)), (dph, .inr (6, [.int (nI 40), .ref dpa, .ref dpb, .int dpn])), (dpa, .inl (cyI, 40 * 24, .inl dpf)), (dpb, .inl (cyI, 40, .inl dpz)), (dfh, .inr (3, [.ref dfa, .ref dfsh])), (dfa, .inl (cyI, 100, .inl dff)), (dfsh, .inr (6, [.int (nI 20), .ref dfsa, .ref dfsb, .int dfsn])), (dfsa, .inl (cyI, 20 * 24, .inl dfsf)), (dfsb, .inl (cyI, 20, .inl dfsz))]) cx (c_X5_clear l D cyI cyZ ph pa pn pf) hP hD hS [1, 2] [(false, 0), (true, 0), (true, 1), (false, 3), (false, 4), (false, 5), (false, 6), (false, 7), (false, 8), (false, 9), (false, 10), (false, 11), (false, 12), (false, 13), (false, 14), (false, 15), (false, 16), (false, 17), (false, 18), (false, 19), (false, 20), (false, 21), (false, 22)] ⟨rfl, rfl, rfl⟩ rfl rfl mm_400 mm_401 mm_402 mm_241 mm_357 dd_X5_clear rfl hl.1 rfl dX8_wipe_12 rfl (fun H locs hP hD hS => ?_)
  obtain ⟨u_1, hu_1⟩ : ∃ z, z = r_X5_clear pn pf := ⟨_, rfl⟩
  rw [← hu_1] at hP hD
  refine lv_aload_n hx hb dX8_wipe_15 rfl (lv_at hl 1 rfl) ?_
  refine ct_get (v := .ref bh) cx hP 0 rfl rfl bwX8 5 rfl mm_374 rfl dX8_wipe_16 ?_
  refine ct_callV (As := []) (rest := []) (st1 := []) (V3 := [(h, .inr (8, [.ref ph, .ref th, .ref sh, .ref lh, .ref oh, .ref bh, .ref dh, .ref ch, .ref kh, .int rf])), (ph, .inr (5, [.ref pa, .int u_1])), (pa, .inl (cyI, 320, .inl pf)), (bh, .inr (0, [.ref bph, .ref bfh, .ref bca, .int ((r_X0_clear bcv btr bpn bpf bpz bff bfsn bfsf bfsz).2.1)])), (bca, .inl (cyI, 160, .inl ((r_X0_clear bcv btr bpn bpf bpz bff bfsn bfsf bfsz).1))), (bph, .inr (6, [.int (nI 40), .ref bpa, .ref bpb, .int ((r_X0_clear bcv btr bpn bpf bpz bff bfsn bfsf bfsz).2.2.1)])), (bpa, .inl (cyI, 40 * 24, .inl bpf)), (bpb, .inl (cyI, 40, .inl bpz)), (bfh, .inr (3, [.ref bfa, .ref bfsh])), (bfa, .inl (cyI, 100, .inl bff)), (bfsh, .inr (6, [.int (nI 20), .ref bfsa, .ref bfsb, .int ((r_X0_clear bcv btr bpn bpf bpz bff bfsn bfsf bfsz).2.2.2)])), (bfsa, .inl (cyI, 20 * 24, .inl bfsf)), (bfsb, .inl (cyI, 20, .inl bfsz)), (dh, .inr (0, [.ref dph, .ref dfh, .ref dca, .int dtr])), (dca, .inl (cyI, 160, .inl dcv)), (dph, .inr (6, [.int (nI 40), .ref dpa, .ref dpb, .int dpn])), (dpa, .inl (cyI, 40 * 24, .inl dpf)), (dpb, .inl (cyI, 40, .inl dpz)), (dfh, .inr (3, [.ref dfa, .ref dfsh])), (dfa, .inl (cyI, 100, .inl dff)), (dfsh, .inr (6, [.int (nI 20), .ref dfsa, .ref dfsb, .int dfsn])), (dfsa, .inl (cyI, 20 * 24, .inl dfsf)), (dfsb, .inl (cyI, 20, .inl dfsz))]) cx (c_X0_clear l D cyI cyZ bh bca bph bpa bpb bfh bfa bfsh bfsa bfsb bcv btr bpn bpf bpz bff bfsn bfsf bfsz) hP hD hS [3, 4, 5, 6, 7, 8, 9, 10, 11, 12] [(false, 0), (false, 1), (false, 2), (true, 0), (true, 1), (true, 2), (true, 3), (true, 4), (true, 5), (true, 6), (true, 7), (true, 8), (true, 9), (false, 13), (false, 14), (false, 15), (false, 16), (false, 17), (false, 18), (false, 19), (false, 20), (false, 21), (false, 22)] ⟨rfl, rfl, rfl⟩ rfl rfl mm_403 mm_404 mm_405 mm_45 mm_134 dd_X0_clear rfl hl.1 rfl dX8_wipe_19 rfl (fun H locs hP hD hS => ?_)
  obtain ⟨u_2, hu_2⟩ : ∃ z, z = r_X0_clear bcv btr bpn bpf bpz bff bfsn bfsf bfsz := ⟨_, rfl⟩
  rw [← hu_2] at hP hD
  refine lv_aload_n hx hb dX8_wipe_22 rfl (lv_at hl 1 rfl) ?_
  refine ct_get (v := .ref dh) cx hP 0 rfl rfl bwX8 6 rfl mm_375 rfl dX8_wipe_23 ?_
  refine ct_callV (As := []) (rest := []) (st1 := []) (V3 := [(h, .inr (8, [.ref ph, .ref th, .ref sh, .ref lh, .ref oh, .ref bh, .ref dh, .ref ch, .ref kh, .int rf])), (ph, .inr (5, [.ref pa, .int u_1])), (pa, .inl (cyI, 320, .inl pf)), (bh, .inr (0, [.ref bph, .ref bfh, .ref bca, .int u_2.2.1])), (bca, .inl (cyI, 160, .inl u_2.1)), (bph, .inr (6, [.int (nI 40), .ref bpa, .ref bpb, .int u_2.2.2.1])), (bpa, .inl (cyI, 40 * 24, .inl bpf)), (bpb, .inl (cyI, 40, .inl bpz)), (bfh, .inr (3, [.ref bfa, .ref bfsh])), (bfa, .inl (cyI, 100, .inl bff)), (bfsh, .inr (6, [.int (nI 20), .ref bfsa, .ref bfsb, .int u_2.2.2.2])), (bfsa, .inl (cyI, 20 * 24, .inl bfsf)), (bfsb, .inl (cyI, 20, .inl bfsz)), (dh, .inr (0, [.ref dph, .ref dfh, .ref dca, .int ((r_X0_clear dcv dtr dpn dpf dpz dff dfsn dfsf dfsz).2.1)])), (dca, .inl (cyI, 160, .inl ((r_X0_clear dcv dtr dpn dpf dpz dff dfsn dfsf dfsz).1))), (dph, .inr (6, [.int (nI 40), .ref dpa, .ref dpb, .int ((r_X0_clear dcv dtr dpn dpf dpz dff dfsn dfsf dfsz).2.2.1)])), (dpa, .inl (cyI, 40 * 24, .inl dpf)), (dpb, .inl (cyI, 40, .inl dpz)), (dfh, .inr (3, [.ref dfa, .ref dfsh])), (dfa, .inl (cyI, 100, .inl dff)), (dfsh, .inr (6, [.int (nI 20), .ref dfsa, .ref dfsb, .int ((r_X0_clear dcv dtr dpn dpf dpz dff dfsn dfsf dfsz).2.2.2)])), (dfsa, .inl (cyI, 20 * 24, .inl dfsf)), (dfsb, .inl (cyI, 20, .inl dfsz))]) cx (c_X0_clear l D cyI cyZ dh dca dph dpa dpb dfh dfa dfsh dfsa dfsb dcv dtr dpn dpf dpz dff dfsn dfsf dfsz) hP hD hS [13, 14, 15, 16, 17, 18, 19, 20, 21, 22] [(false, 0), (false, 1), (false, 2), (false, 3), (false, 4), (false, 5), (false, 6), (false, 7), (false, 8), (false, 9), (false, 10), (false, 11), (false, 12), (true, 0), (true, 1), (true, 2), (true, 3), (true, 4), (true, 5), (true, 6), (true, 7), (true, 8), (true, 9)] ⟨rfl, rfl, rfl⟩ rfl rfl mm_403 mm_404 mm_405 mm_45 mm_134 dd_X0_clear rfl hl.1 rfl dX8_wipe_26 rfl (fun H locs hP hD hS => ?_)
  obtain ⟨u_3, hu_3⟩ : ∃ z, z = r_X0_clear dcv dtr dpn dpf dpz dff dfsn dfsf dfsz := ⟨_, rfl⟩
  rw [← hu_3] at hP hD
  refine lv_iload_n hx hb dX8_wipe_29 rfl (lv_at hl 0 rfl) ?_
  rw [show r_X8_wipe rf pn pf bcv btr bpn bpf bpz bff bfsn bfsf bfsz dcv dtr dpn dpf dpz dff dfsn dfsf dfsz = (pn, u_1, u_2.1, u_2.2.1, u_2.2.2.1, u_2.2.2.2, u_3.1, u_3.2.1, u_3.2.2.1, u_3.2.2.2) from (by subst hu_3; subst hu_2; subst hu_1; exact rfl)]
  dsimp only
  exact ct_iret cx hP hD hS dX8_wipe_30
def r_X8_instruction (place : Int32) (what : Int32) (rf : Int32) (pn : Int32) (pf : Nat → Int32) : Int32 × Int32 := if (r_X5_has place pn pf) = (0 : Int32) then ((-1 : Int32), (-1 : Int32)) else if (r_X5_isPart what) = (0 : Int32) then ((-1 : Int32), (-1 : Int32)) else (r_X5_part place what pn pf, (0 : Int32))
set_option maxHeartbeats 4000000 in
set_option maxRecDepth 100000 in
theorem c_X8_instruction (l : Launch) (D : va_G) (cyI cyZ : ClassId) (h : Nat) (ph : Nat) (pa : Nat) (th : Nat) (sh : Nat) (lh : Nat) (oh : Nat) (bh : Nat) (dh : Nat) (ch : Nat) (kh : Nat) (place : Int32) (what : Int32) (rf : Int32) (pn : Int32) (pf : Nat → Int32) (hn : pn ≤ 80) : CT l D cyI cyZ yX8_instruction cX8_instruction 4 (some .int) ({ frames := 2, cells := 0, slots := 0, locals := 43 }) [.ref h, .int place, .int what] [(h, .inr (8, [.ref ph, .ref th, .ref sh, .ref lh, .ref oh, .ref bh, .ref dh, .ref ch, .ref kh, .int rf])), (ph, .inr (5, [.ref pa, .int pn])), (pa, .inl (cyI, 320, .inl pf))] (some (.int ((r_X8_instruction place what rf pn pf).1))) [(h, .inr (8, [.ref ph, .ref th, .ref sh, .ref lh, .ref oh, .ref bh, .ref dh, .ref ch, .ref kh, .int ((r_X8_instruction place what rf pn pf).2)])), (ph, .inr (5, [.ref pa, .int pn])), (pa, .inl (cyI, 320, .inl pf))] := by
  refine ct_intro (by decide) (Nat.le_of_ble_eq_true rfl) ?_
  intro p e s m below meth c A ls cx hP hD hS hl
  obtain ⟨hx, hb, -⟩ := id cx
  refine lv_aload_n hx hb dX8_instruction_0 rfl (lv_at hl 0 rfl) ?_
  refine ct_get (v := .ref ph) cx hP 0 rfl rfl bwX8 0 rfl mm_365 rfl dX8_instruction_1 ?_
  refine lv_iload_n hx hb dX8_instruction_4 rfl (lv_at hl 1 rfl) ?_
  refine ct_callV (As := [.int place]) (rest := []) (st1 := [.int (r_X5_has place pn pf)]) (V3 := [(h, .inr (8, [.ref ph, .ref th, .ref sh, .ref lh, .ref oh, .ref bh, .ref dh, .ref ch, .ref kh, .int rf])), (ph, .inr (5, [.ref pa, .int pn])), (pa, .inl (cyI, 320, .inl pf))]) cx (c_X5_has l D cyI cyZ ph pa place pn pf) hP hD hS [1, 2] [(false, 0), (true, 0), (true, 1)] ⟨rfl, rfl, rfl⟩ rfl rfl mm_408 mm_239 mm_240 mm_241 mm_235 dd_X5_has rfl hl.1 rfl dX8_instruction_5 rfl (fun H locs hP hD hS => ?_)
  refine lv_if_eq (tgt := 22) hx hb dX8_instruction_8 (by decide) (fun c_1 => ?_) (fun c_1 => ?_)
  · skip
    refine lv_iconst (v := (0 : Int32)) hx hb dX8_instruction_22 (by decide) ?_
    refine lv_istore_n (lv' := [(3, .int (0 : Int32)), (0, .ref h), (1, .int place), (2, .int what)]) hx hb dX8_instruction_23 rfl hl (by decide) rfl (fun ls hl => ?_)
    refine lv_aload_n hx hb dX8_instruction_24 rfl (lv_at hl 1 rfl) ?_
    refine lv_iload_n hx hb dX8_instruction_25 rfl (lv_at hl 0 rfl) ?_
    refine lv_if_eq (tgt := 33) hx hb dX8_instruction_26 (by decide) (fun c_2 => ?_) (fun c_2 => ?_)
    · skip
      refine lv_iconst (v := (-1 : Int32)) hx hb dX8_instruction_33 (by decide) ?_
      refine ct_put (V3 := [(h, .inr (8, [.ref ph, .ref th, .ref sh, .ref lh, .ref oh, .ref bh, .ref dh, .ref ch, .ref kh, .int (-1 : Int32)])), (ph, .inr (5, [.ref pa, .int pn])), (pa, .inl (cyI, 320, .inl pf))]) cx hP hD hS 0 rfl rfl bwX8 tyX8_ok nmX8 9 rfl mm_382 rfl rfl rfl rfl dX8_instruction_34 rfl (fun H locs hP hD hS => ?_)
      refine lv_iload_n hx hb dX8_instruction_37 rfl (lv_at hl 0 rfl) ?_
      refine lv_if_eq (tgt := 53) hx hb dX8_instruction_38 (by decide) (fun c_3 => ?_) (fun c_3 => ?_)
      · skip
        refine lv_iconst (v := (-1 : Int32)) hx hb dX8_instruction_53 (by decide) ?_
        rw [show r_X8_instruction place what rf pn pf = ((-1 : Int32), (-1 : Int32)) from if_pos c_1]
        dsimp only
        exact ct_iret cx hP hD hS dX8_instruction_54
      · exact absurd c_3 (by decide)
    · exact absurd c_2 (by decide)
  · skip
    refine lv_iload_n hx hb dX8_instruction_11 rfl (lv_at hl 2 rfl) ?_
    refine ct_callS (As := [.int what]) (rest := []) (st1 := [.int (r_X5_isPart what)]) (V3 := [(h, .inr (8, [.ref ph, .ref th, .ref sh, .ref lh, .ref oh, .ref bh, .ref dh, .ref ch, .ref kh, .int rf])), (ph, .inr (5, [.ref pa, .int pn])), (pa, .inl (cyI, 320, .inl pf))]) cx (c_X5_isPart l D cyI cyZ what) hP hD hS [] [(false, 0), (false, 1), (false, 2)] ⟨rfl, rfl, rfl⟩ mm_409 mm_247 mm_241 mm_242 dd_X5_isPart rfl hl.1 rfl dX8_instruction_12 rfl (fun H locs hP hD hS => ?_)
    refine lv_if_eq (tgt := 22) hx hb dX8_instruction_15 (by decide) (fun c_4 => ?_) (fun c_4 => ?_)
    · skip
      refine lv_iconst (v := (0 : Int32)) hx hb dX8_instruction_22 (by decide) ?_
      refine lv_istore_n (lv' := [(3, .int (0 : Int32)), (0, .ref h), (1, .int place), (2, .int what)]) hx hb dX8_instruction_23 rfl hl (by decide) rfl (fun ls hl => ?_)
      refine lv_aload_n hx hb dX8_instruction_24 rfl (lv_at hl 1 rfl) ?_
      refine lv_iload_n hx hb dX8_instruction_25 rfl (lv_at hl 0 rfl) ?_
      refine lv_if_eq (tgt := 33) hx hb dX8_instruction_26 (by decide) (fun c_5 => ?_) (fun c_5 => ?_)
      · skip
        refine lv_iconst (v := (-1 : Int32)) hx hb dX8_instruction_33 (by decide) ?_
        refine ct_put (V3 := [(h, .inr (8, [.ref ph, .ref th, .ref sh, .ref lh, .ref oh, .ref bh, .ref dh, .ref ch, .ref kh, .int (-1 : Int32)])), (ph, .inr (5, [.ref pa, .int pn])), (pa, .inl (cyI, 320, .inl pf))]) cx hP hD hS 0 rfl rfl bwX8 tyX8_ok nmX8 9 rfl mm_382 rfl rfl rfl rfl dX8_instruction_34 rfl (fun H locs hP hD hS => ?_)
        refine lv_iload_n hx hb dX8_instruction_37 rfl (lv_at hl 0 rfl) ?_
        refine lv_if_eq (tgt := 53) hx hb dX8_instruction_38 (by decide) (fun c_6 => ?_) (fun c_6 => ?_)
        · skip
          refine lv_iconst (v := (-1 : Int32)) hx hb dX8_instruction_53 (by decide) ?_
          rw [show r_X8_instruction place what rf pn pf = ((-1 : Int32), (-1 : Int32)) from (if_neg c_1).trans (if_pos c_4)]
          dsimp only
          exact ct_iret cx hP hD hS dX8_instruction_54
        · exact absurd c_6 (by decide)
      · exact absurd c_5 (by decide)
    · skip
      refine lv_iconst (v := (1 : Int32)) hx hb dX8_instruction_18 (by decide) ?_
      refine lv_goto (tgt := 23) hx hb dX8_instruction_19 (by decide) ?_
      refine lv_istore_n (lv' := [(3, .int (1 : Int32)), (0, .ref h), (1, .int place), (2, .int what)]) hx hb dX8_instruction_23 rfl hl (by decide) rfl (fun ls hl => ?_)
      refine lv_aload_n hx hb dX8_instruction_24 rfl (lv_at hl 1 rfl) ?_
      refine lv_iload_n hx hb dX8_instruction_25 rfl (lv_at hl 0 rfl) ?_
      refine lv_if_eq (tgt := 33) hx hb dX8_instruction_26 (by decide) (fun c_7 => ?_) (fun c_7 => ?_)
      · exact absurd c_7 (by decide)
      · skip
        refine lv_iconst (v := (0 : Int32)) hx hb dX8_instruction_29 (by decide) ?_
        refine lv_goto (tgt := 34) hx hb dX8_instruction_30 (by decide) ?_
        refine ct_put (V3 := [(h, .inr (8, [.ref ph, .ref th, .ref sh, .ref lh, .ref oh, .ref bh, .ref dh, .ref ch, .ref kh, .int (0 : Int32)])), (ph, .inr (5, [.ref pa, .int pn])), (pa, .inl (cyI, 320, .inl pf))]) cx hP hD hS 0 rfl rfl bwX8 tyX8_ok nmX8 9 rfl mm_382 rfl rfl rfl rfl dX8_instruction_34 rfl (fun H locs hP hD hS => ?_)
        refine lv_iload_n hx hb dX8_instruction_37 rfl (lv_at hl 0 rfl) ?_
        refine lv_if_eq (tgt := 53) hx hb dX8_instruction_38 (by decide) (fun c_8 => ?_) (fun c_8 => ?_)
        · exact absurd c_8 (by decide)
        · skip
          refine lv_aload_n hx hb dX8_instruction_41 rfl (lv_at hl 1 rfl) ?_
          refine ct_get (v := .ref ph) cx hP 0 rfl rfl bwX8 0 rfl mm_365 rfl dX8_instruction_42 ?_
          refine lv_iload_n hx hb dX8_instruction_45 rfl (lv_at hl 2 rfl) ?_
          refine lv_iload_n hx hb dX8_instruction_46 rfl (lv_at hl 3 rfl) ?_
          refine ct_callV (As := [.int place, .int what]) (rest := []) (st1 := [.int (r_X5_part place what pn pf)]) (V3 := [(h, .inr (8, [.ref ph, .ref th, .ref sh, .ref lh, .ref oh, .ref bh, .ref dh, .ref ch, .ref kh, .int (0 : Int32)])), (ph, .inr (5, [.ref pa, .int pn])), (pa, .inl (cyI, 320, .inl pf))]) cx (c_X5_part l D cyI cyZ ph pa place what pn pf hn) hP hD hS [1, 2] [(false, 0), (true, 0), (true, 1)] ⟨rfl, rfl, rfl⟩ rfl rfl mm_410 mm_281 mm_282 mm_241 mm_243 dd_X5_part rfl hl.1 rfl dX8_instruction_47 rfl (fun H locs hP hD hS => ?_)
          refine lv_goto (tgt := 54) hx hb dX8_instruction_50 (by decide) ?_
          rw [show r_X8_instruction place what rf pn pf = (r_X5_part place what pn pf, (0 : Int32)) from (if_neg c_1).trans (if_neg c_4)]
          dsimp only
          exact ct_iret cx hP hD hS dX8_instruction_54
set_option maxHeartbeats 4000000 in
set_option maxRecDepth 100000 in
theorem c_X8_status (l : Launch) (D : va_G) (cyI cyZ : ClassId) (h : Nat) (ph : Nat) (th : Nat) (sh : Nat) (lh : Nat) (oh : Nat) (bh : Nat) (dh : Nat) (ch : Nat) (kh : Nat) (rf : Int32)  : CT l D cyI cyZ yX8_status cX8_status 1 (some .int) ({ frames := 0, cells := 0, slots := 0, locals := 0 }) [.ref h] [(h, .inr (8, [.ref ph, .ref th, .ref sh, .ref lh, .ref oh, .ref bh, .ref dh, .ref ch, .ref kh, .int rf]))] (some (.int rf)) [(h, .inr (8, [.ref ph, .ref th, .ref sh, .ref lh, .ref oh, .ref bh, .ref dh, .ref ch, .ref kh, .int rf]))] := by
  refine ct_intro (by decide) (Nat.le_of_ble_eq_true rfl) ?_
  intro p e s m below meth c A ls cx hP hD hS hl
  obtain ⟨hx, hb, -⟩ := id cx
  refine lv_aload_n hx hb dX8_status_0 rfl (lv_at hl 0 rfl) ?_
  refine ct_get (v := .int rf) cx hP 0 rfl rfl bwX8 9 rfl mm_382 rfl dX8_status_1 ?_
  exact ct_iret cx hP hD hS dX8_status_4
def r_X8_feed (b0 : Int32) (rf : Int32) (tn : Int32) (tf : Nat → Int32) : Int32 × Int32 × (Nat → Int32) := if (r_X4_isByte b0) = (0 : Int32) then ((-2 : Int32), tn, tf) else let u_2 : Int32 × Int32 × (Nat → Int32) := r_X4_append b0 tn tf; if u_2.1 = (0 : Int32) then ((-4 : Int32), u_2.2.1, u_2.2.2) else (u_2.2.1, u_2.2.1, u_2.2.2)
set_option maxHeartbeats 4000000 in
set_option maxRecDepth 100000 in
theorem c_X8_feed (l : Launch) (D : va_G) (cyI cyZ : ClassId) (h : Nat) (ph : Nat) (th : Nat) (ta : Nat) (sh : Nat) (lh : Nat) (oh : Nat) (bh : Nat) (dh : Nat) (ch : Nat) (kh : Nat) (b0 : Int32) (rf : Int32) (tn : Int32) (tf : Nat → Int32)  : CT l D cyI cyZ yX8_feed cX8_feed 2 (some .int) ({ frames := 1, cells := 0, slots := 0, locals := 21 }) [.ref h, .int b0] [(h, .inr (8, [.ref ph, .ref th, .ref sh, .ref lh, .ref oh, .ref bh, .ref dh, .ref ch, .ref kh, .int rf])), (th, .inr (4, [.ref ta, .int tn])), (ta, .inl (cyI, 24, .inl tf))] (some (.int ((r_X8_feed b0 rf tn tf).1))) [(h, .inr (8, [.ref ph, .ref th, .ref sh, .ref lh, .ref oh, .ref bh, .ref dh, .ref ch, .ref kh, .int rf])), (th, .inr (4, [.ref ta, .int ((r_X8_feed b0 rf tn tf).2.1)])), (ta, .inl (cyI, 24, .inl ((r_X8_feed b0 rf tn tf).2.2)))] := by
  refine ct_intro (by decide) (Nat.le_of_ble_eq_true rfl) ?_
  intro p e s m below meth c A ls cx hP hD hS hl
  obtain ⟨hx, hb, -⟩ := id cx
  refine lv_iload_n hx hb dX8_feed_0 rfl (lv_at hl 1 rfl) ?_
  refine ct_callS (As := [.int b0]) (rest := []) (st1 := [.int (r_X4_isByte b0)]) (V3 := [(h, .inr (8, [.ref ph, .ref th, .ref sh, .ref lh, .ref oh, .ref bh, .ref dh, .ref ch, .ref kh, .int rf])), (th, .inr (4, [.ref ta, .int tn])), (ta, .inl (cyI, 24, .inl tf))]) cx (c_X4_isByte l D cyI cyZ b0) hP hD hS [] [(false, 0), (false, 1), (false, 2)] ⟨rfl, rfl, rfl⟩ mm_413 mm_414 mm_76 mm_337 dd_X4_isByte rfl hl.1 rfl dX8_feed_1 rfl (fun H locs hP hD hS => ?_)
  refine lv_if_ne (tgt := 10) hx hb dX8_feed_4 (by decide) (fun c_1 => ?_) (fun c_1 => ?_)
  · skip
    refine lv_aload_n hx hb dX8_feed_10 rfl (lv_at hl 0 rfl) ?_
    refine ct_get (v := .ref th) cx hP 0 rfl rfl bwX8 1 rfl mm_367 rfl dX8_feed_11 ?_
    refine lv_iload_n hx hb dX8_feed_14 rfl (lv_at hl 1 rfl) ?_
    refine ct_callV (As := [.int b0]) (rest := []) (st1 := [.int ((r_X4_append b0 tn tf).1)]) (V3 := [(h, .inr (8, [.ref ph, .ref th, .ref sh, .ref lh, .ref oh, .ref bh, .ref dh, .ref ch, .ref kh, .int rf])), (th, .inr (4, [.ref ta, .int ((r_X4_append b0 tn tf).2.1)])), (ta, .inl (cyI, 24, .inl ((r_X4_append b0 tn tf).2.2)))]) cx (c_X4_append l D cyI cyZ th ta b0 tn tf) hP hD hS [1, 2] [(false, 0), (true, 0), (true, 1)] ⟨rfl, rfl, rfl⟩ rfl rfl mm_415 mm_160 mm_161 mm_76 mm_153 dd_X4_append rfl hl.1 rfl dX8_feed_15 rfl (fun H locs hP hD hS => ?_)
    obtain ⟨u_2, hu_2⟩ : ∃ z, z = r_X4_append b0 tn tf := ⟨_, rfl⟩
    rw [← hu_2] at hP hD ⊢
    refine lv_if_eq (tgt := 31) hx hb dX8_feed_18 (by decide) (fun c_3 => ?_) (fun c_3 => ?_)
    · skip
      refine lv_bipush (v := (-4 : Int32)) hx hb dX8_feed_31 (by decide) ?_
      rw [show r_X8_feed b0 rf tn tf = ((-4 : Int32), u_2.2.1, u_2.2.2) from (by subst hu_2; exact (if_neg c_1).trans (if_pos c_3))]
      dsimp only
      exact ct_iret cx hP hD hS dX8_feed_33
    · skip
      refine lv_aload_n hx hb dX8_feed_21 rfl (lv_at hl 0 rfl) ?_
      refine ct_get (v := .ref th) cx hP 0 rfl rfl bwX8 1 rfl mm_367 rfl dX8_feed_22 ?_
      refine ct_callV (As := []) (rest := []) (st1 := [.int u_2.2.1]) (V3 := [(h, .inr (8, [.ref ph, .ref th, .ref sh, .ref lh, .ref oh, .ref bh, .ref dh, .ref ch, .ref kh, .int rf])), (th, .inr (4, [.ref ta, .int u_2.2.1])), (ta, .inl (cyI, 24, .inl u_2.2.2))]) cx (c_X4_size l D cyI cyZ th ta u_2.2.1 u_2.2.2) hP hD hS [1, 2] [(false, 0), (true, 0), (true, 1)] ⟨rfl, rfl, rfl⟩ rfl rfl mm_416 mm_74 mm_75 mm_76 mm_68 dd_X4_size rfl hl.1 rfl dX8_feed_25 rfl (fun H locs hP hD hS => ?_)
      refine lv_goto (tgt := 33) hx hb dX8_feed_28 (by decide) ?_
      rw [show r_X8_feed b0 rf tn tf = (u_2.2.1, u_2.2.1, u_2.2.2) from (by subst hu_2; exact (if_neg c_1).trans (if_neg c_3))]
      dsimp only
      exact ct_iret cx hP hD hS dX8_feed_33
  · skip
    refine lv_bipush (v := (-2 : Int32)) hx hb dX8_feed_7 (by decide) ?_
    rw [show r_X8_feed b0 rf tn tf = ((-2 : Int32), tn, tf) from if_pos c_1]
    dsimp only
    exact ct_iret cx hP hD hS dX8_feed_9
def r_X8_keep (n0 : Int32) (rf : Int32) (tn : Int32) (tf : Nat → Int32) : Int32 × Int32 := if n0 < (0 : Int32) then ((-2 : Int32), tn) else if n0 ≤ tn then (let u_3 : Int32 := r_X4_shorten n0 tn tf; (n0, u_3)) else ((-2 : Int32), tn)
set_option maxHeartbeats 4000000 in
set_option maxRecDepth 100000 in
theorem c_X8_keep (l : Launch) (D : va_G) (cyI cyZ : ClassId) (h : Nat) (ph : Nat) (th : Nat) (ta : Nat) (sh : Nat) (lh : Nat) (oh : Nat) (bh : Nat) (dh : Nat) (ch : Nat) (kh : Nat) (n0 : Int32) (rf : Int32) (tn : Int32) (tf : Nat → Int32)  : CT l D cyI cyZ yX8_keep cX8_keep 2 (some .int) ({ frames := 1, cells := 0, slots := 0, locals := 21 }) [.ref h, .int n0] [(h, .inr (8, [.ref ph, .ref th, .ref sh, .ref lh, .ref oh, .ref bh, .ref dh, .ref ch, .ref kh, .int rf])), (th, .inr (4, [.ref ta, .int tn])), (ta, .inl (cyI, 24, .inl tf))] (some (.int ((r_X8_keep n0 rf tn tf).1))) [(h, .inr (8, [.ref ph, .ref th, .ref sh, .ref lh, .ref oh, .ref bh, .ref dh, .ref ch, .ref kh, .int rf])), (th, .inr (4, [.ref ta, .int ((r_X8_keep n0 rf tn tf).2)])), (ta, .inl (cyI, 24, .inl tf))] := by
  refine ct_intro (by decide) (Nat.le_of_ble_eq_true rfl) ?_
  intro p e s m below meth c A ls cx hP hD hS hl
  obtain ⟨hx, hb, -⟩ := id cx
  refine lv_iload_n hx hb dX8_keep_0 rfl (lv_at hl 1 rfl) ?_
  refine lv_if_lt (tgt := 15) hx hb dX8_keep_1 (by decide) (fun c_1 => ?_) (fun c_1 => ?_)
  · skip
    refine lv_bipush (v := (-2 : Int32)) hx hb dX8_keep_15 (by decide) ?_
    rw [show r_X8_keep n0 rf tn tf = ((-2 : Int32), tn) from if_pos c_1]
    dsimp only
    exact ct_iret cx hP hD hS dX8_keep_17
  · skip
    refine lv_iload_n hx hb dX8_keep_4 rfl (lv_at hl 1 rfl) ?_
    refine lv_aload_n hx hb dX8_keep_5 rfl (lv_at hl 0 rfl) ?_
    refine ct_get (v := .ref th) cx hP 0 rfl rfl bwX8 1 rfl mm_367 rfl dX8_keep_6 ?_
    refine ct_callV (As := []) (rest := [.int n0]) (st1 := [.int tn, .int n0]) (V3 := [(h, .inr (8, [.ref ph, .ref th, .ref sh, .ref lh, .ref oh, .ref bh, .ref dh, .ref ch, .ref kh, .int rf])), (th, .inr (4, [.ref ta, .int tn])), (ta, .inl (cyI, 24, .inl tf))]) cx (c_X4_size l D cyI cyZ th ta tn tf) hP hD hS [1, 2] [(false, 0), (true, 0), (true, 1)] ⟨rfl, rfl, rfl⟩ rfl rfl mm_416 mm_74 mm_75 mm_76 mm_68 dd_X4_size rfl hl.1 rfl dX8_keep_9 rfl (fun H locs hP hD hS => ?_)
    refine lv_icmp_le (tgt := 18) hx hb dX8_keep_12 (by decide) (fun c_2 => ?_) (fun c_2 => ?_)
    · skip
      refine lv_aload_n hx hb dX8_keep_18 rfl (lv_at hl 0 rfl) ?_
      refine ct_get (v := .ref th) cx hP 0 rfl rfl bwX8 1 rfl mm_367 rfl dX8_keep_19 ?_
      refine lv_iload_n hx hb dX8_keep_22 rfl (lv_at hl 1 rfl) ?_
      refine ct_callV (As := [.int n0]) (rest := []) (st1 := []) (V3 := [(h, .inr (8, [.ref ph, .ref th, .ref sh, .ref lh, .ref oh, .ref bh, .ref dh, .ref ch, .ref kh, .int rf])), (th, .inr (4, [.ref ta, .int (r_X4_shorten n0 tn tf)])), (ta, .inl (cyI, 24, .inl tf))]) cx (c_X4_shorten l D cyI cyZ th ta n0 tn tf) hP hD hS [1, 2] [(false, 0), (true, 0), (true, 1)] ⟨rfl, rfl, rfl⟩ rfl rfl mm_418 mm_164 mm_165 mm_76 mm_151 dd_X4_shorten rfl hl.1 rfl dX8_keep_23 rfl (fun H locs hP hD hS => ?_)
      obtain ⟨u_3, hu_3⟩ : ∃ z, z = r_X4_shorten n0 tn tf := ⟨_, rfl⟩
      rw [← hu_3] at hP hD
      refine lv_iload_n hx hb dX8_keep_26 rfl (lv_at hl 1 rfl) ?_
      rw [show r_X8_keep n0 rf tn tf = (n0, u_3) from (by subst hu_3; exact (if_neg c_1).trans (if_pos c_2))]
      dsimp only
      exact ct_iret cx hP hD hS dX8_keep_27
    · skip
      refine lv_bipush (v := (-2 : Int32)) hx hb dX8_keep_15 (by decide) ?_
      rw [show r_X8_keep n0 rf tn tf = ((-2 : Int32), tn) from (if_neg c_1).trans (if_neg c_2)]
      dsimp only
      exact ct_iret cx hP hD hS dX8_keep_17
def r_X8_at (i0 : Int32) (rf : Int32) (tn : Int32) (tf : Nat → Int32) : Int32 := if (r_X4_has i0 tn tf) = (0 : Int32) then (-1 : Int32) else r_X4_get i0 tn tf
set_option maxHeartbeats 4000000 in
set_option maxRecDepth 100000 in
theorem c_X8_at (l : Launch) (D : va_G) (cyI cyZ : ClassId) (h : Nat) (ph : Nat) (th : Nat) (ta : Nat) (sh : Nat) (lh : Nat) (oh : Nat) (bh : Nat) (dh : Nat) (ch : Nat) (kh : Nat) (i0 : Int32) (rf : Int32) (tn : Int32) (tf : Nat → Int32)  : CT l D cyI cyZ yX8_at cX8_at 2 (some .int) ({ frames := 1, cells := 0, slots := 0, locals := 21 }) [.ref h, .int i0] [(h, .inr (8, [.ref ph, .ref th, .ref sh, .ref lh, .ref oh, .ref bh, .ref dh, .ref ch, .ref kh, .int rf])), (th, .inr (4, [.ref ta, .int tn])), (ta, .inl (cyI, 24, .inl tf))] (some (.int (r_X8_at i0 rf tn tf))) [(h, .inr (8, [.ref ph, .ref th, .ref sh, .ref lh, .ref oh, .ref bh, .ref dh, .ref ch, .ref kh, .int rf])), (th, .inr (4, [.ref ta, .int tn])), (ta, .inl (cyI, 24, .inl tf))] := by
  refine ct_intro (by decide) (Nat.le_of_ble_eq_true rfl) ?_
  intro p e s m below meth c A ls cx hP hD hS hl
  obtain ⟨hx, hb, -⟩ := id cx
  refine lv_aload_n hx hb dX8_at_0 rfl (lv_at hl 0 rfl) ?_
  refine ct_get (v := .ref th) cx hP 0 rfl rfl bwX8 1 rfl mm_367 rfl dX8_at_1 ?_
  refine lv_iload_n hx hb dX8_at_4 rfl (lv_at hl 1 rfl) ?_
  refine ct_callV (As := [.int i0]) (rest := []) (st1 := [.int (r_X4_has i0 tn tf)]) (V3 := [(h, .inr (8, [.ref ph, .ref th, .ref sh, .ref lh, .ref oh, .ref bh, .ref dh, .ref ch, .ref kh, .int rf])), (th, .inr (4, [.ref ta, .int tn])), (ta, .inl (cyI, 24, .inl tf))]) cx (c_X4_has l D cyI cyZ th ta i0 tn tf) hP hD hS [1, 2] [(false, 0), (true, 0), (true, 1)] ⟨rfl, rfl, rfl⟩ rfl rfl mm_420 mm_156 mm_157 mm_76 mm_152 dd_X4_has rfl hl.1 rfl dX8_at_5 rfl (fun H locs hP hD hS => ?_)
  refine lv_if_eq (tgt := 22) hx hb dX8_at_8 (by decide) (fun c_1 => ?_) (fun c_1 => ?_)
  · skip
    refine lv_iconst (v := (-1 : Int32)) hx hb dX8_at_22 (by decide) ?_
    rw [show r_X8_at i0 rf tn tf = (-1 : Int32) from if_pos c_1]
    exact ct_iret cx hP hD hS dX8_at_23
  · skip
    refine lv_aload_n hx hb dX8_at_11 rfl (lv_at hl 0 rfl) ?_
    refine ct_get (v := .ref th) cx hP 0 rfl rfl bwX8 1 rfl mm_367 rfl dX8_at_12 ?_
    refine lv_iload_n hx hb dX8_at_15 rfl (lv_at hl 1 rfl) ?_
    refine ct_callV (As := [.int i0]) (rest := []) (st1 := [.int (r_X4_get i0 tn tf)]) (V3 := [(h, .inr (8, [.ref ph, .ref th, .ref sh, .ref lh, .ref oh, .ref bh, .ref dh, .ref ch, .ref kh, .int rf])), (th, .inr (4, [.ref ta, .int tn])), (ta, .inl (cyI, 24, .inl tf))]) cx (c_X4_get l D cyI cyZ th ta i0 tn tf) hP hD hS [1, 2] [(false, 0), (true, 0), (true, 1)] ⟨rfl, rfl, rfl⟩ rfl rfl mm_421 mm_78 mm_79 mm_76 mm_70 dd_X4_get rfl hl.1 rfl dX8_at_16 rfl (fun H locs hP hD hS => ?_)
    refine lv_goto (tgt := 23) hx hb dX8_at_19 (by decide) ?_
    rw [show r_X8_at i0 rf tn tf = r_X4_get i0 tn tf from if_neg c_1]
    exact ct_iret cx hP hD hS dX8_at_23
def r_X8_change_0 (kind : Int32) (xx : Int32) (yy : Int32) (rf : Int32) (tn : Int32) (tf : Nat → Int32) (bcv : Nat → Int32) (btr : Int32) (bpn : Int32) (bpf : Nat → Int32) (bpz : Nat → Int32) (bff : Nat → Int32) (bfsn : Int32) (bfsf : Nat → Int32) (bfsz : Nat → Int32) (cmn : Int32) (cmf : Nat → Int32) (ctn : Int32) (ctf : Nat → Int32) : Int32 × Int32 × (Nat → Int32) × Int32 × (Nat → Int32) × Int32 × (Nat → Int32) := if kind < (0 : Int32) then ((-2 : Int32), tn, tf, cmn, cmf, ctn, ctf) else if (7 : Int32) ≤ kind then ((-2 : Int32), tn, tf, cmn, cmf, ctn, ctf) else if (r_X8_isOfAChange xx) = (0 : Int32) then ((-2 : Int32), tn, tf, cmn, cmf, ctn, ctf) else if (r_X8_isOfAChange yy) = (0 : Int32) then ((-2 : Int32), tn, tf, cmn, cmf, ctn, ctf) else let u_5 : Int32 × (Nat → Int32) × Int32 × (Nat → Int32) × Int32 × (Nat → Int32) := r_X1_apply kind xx yy cmn cmf ctn ctf tn tf bpn bpf bpz; (u_5.2.2.2.2.1, u_5.2.2.2.2.1, u_5.2.2.2.2.2, u_5.1, u_5.2.1, u_5.2.2.1, u_5.2.2.2.1)
set_option maxHeartbeats 4000000 in
set_option maxRecDepth 100000 in
theorem c_X8_change_0 (l : Launch) (D : va_G) (cyI cyZ : ClassId) (h : Nat) (ph : Nat) (th : Nat) (ta : Nat) (sh : Nat) (lh : Nat) (oh : Nat) (bh : Nat) (bca : Nat) (bph : Nat) (bpa : Nat) (bpb : Nat) (bfh : Nat) (bfa : Nat) (bfsh : Nat) (bfsa : Nat) (bfsb : Nat) (dh : Nat) (ch : Nat) (cmh : Nat) (cma : Nat) (cth : Nat) (cta : Nat) (kh : Nat) (kind : Int32) (xx : Int32) (yy : Int32) (rf : Int32) (tn : Int32) (tf : Nat → Int32) (bcv : Nat → Int32) (btr : Int32) (bpn : Int32) (bpf : Nat → Int32) (bpz : Nat → Int32) (bff : Nat → Int32) (bfsn : Int32) (bfsf : Nat → Int32) (bfsz : Nat → Int32) (cmn : Int32) (cmf : Nat → Int32) (ctn : Int32) (ctf : Nat → Int32)  : CT l D cyI cyZ yX8_change cX8_change 6 (some .int) ({ frames := 5, cells := 0, slots := 0, locals := 120 }) [.ref h, .int (0 : Int32), .int kind, .int xx, .int yy] [(h, .inr (8, [.ref ph, .ref th, .ref sh, .ref lh, .ref oh, .ref bh, .ref dh, .ref ch, .ref kh, .int rf])), (th, .inr (4, [.ref ta, .int tn])), (ta, .inl (cyI, 24, .inl tf)), (bh, .inr (0, [.ref bph, .ref bfh, .ref bca, .int btr])), (bca, .inl (cyI, 160, .inl bcv)), (bph, .inr (6, [.int (nI 40), .ref bpa, .ref bpb, .int bpn])), (bpa, .inl (cyI, 40 * 24, .inl bpf)), (bpb, .inl (cyI, 40, .inl bpz)), (bfh, .inr (3, [.ref bfa, .ref bfsh])), (bfa, .inl (cyI, 100, .inl bff)), (bfsh, .inr (6, [.int (nI 20), .ref bfsa, .ref bfsb, .int bfsn])), (bfsa, .inl (cyI, 20 * 24, .inl bfsf)), (bfsb, .inl (cyI, 20, .inl bfsz)), (ch, .inr (1, [.ref cmh, .ref cth])), (cmh, .inr (4, [.ref cma, .int cmn])), (cma, .inl (cyI, 24, .inl cmf)), (cth, .inr (4, [.ref cta, .int ctn])), (cta, .inl (cyI, 24, .inl ctf))] (some (.int ((r_X8_change_0 kind xx yy rf tn tf bcv btr bpn bpf bpz bff bfsn bfsf bfsz cmn cmf ctn ctf).1))) [(h, .inr (8, [.ref ph, .ref th, .ref sh, .ref lh, .ref oh, .ref bh, .ref dh, .ref ch, .ref kh, .int rf])), (th, .inr (4, [.ref ta, .int ((r_X8_change_0 kind xx yy rf tn tf bcv btr bpn bpf bpz bff bfsn bfsf bfsz cmn cmf ctn ctf).2.1)])), (ta, .inl (cyI, 24, .inl ((r_X8_change_0 kind xx yy rf tn tf bcv btr bpn bpf bpz bff bfsn bfsf bfsz cmn cmf ctn ctf).2.2.1))), (bh, .inr (0, [.ref bph, .ref bfh, .ref bca, .int btr])), (bca, .inl (cyI, 160, .inl bcv)), (bph, .inr (6, [.int (nI 40), .ref bpa, .ref bpb, .int bpn])), (bpa, .inl (cyI, 40 * 24, .inl bpf)), (bpb, .inl (cyI, 40, .inl bpz)), (bfh, .inr (3, [.ref bfa, .ref bfsh])), (bfa, .inl (cyI, 100, .inl bff)), (bfsh, .inr (6, [.int (nI 20), .ref bfsa, .ref bfsb, .int bfsn])), (bfsa, .inl (cyI, 20 * 24, .inl bfsf)), (bfsb, .inl (cyI, 20, .inl bfsz)), (ch, .inr (1, [.ref cmh, .ref cth])), (cmh, .inr (4, [.ref cma, .int ((r_X8_change_0 kind xx yy rf tn tf bcv btr bpn bpf bpz bff bfsn bfsf bfsz cmn cmf ctn ctf).2.2.2.1)])), (cma, .inl (cyI, 24, .inl ((r_X8_change_0 kind xx yy rf tn tf bcv btr bpn bpf bpz bff bfsn bfsf bfsz cmn cmf ctn ctf).2.2.2.2.1))), (cth, .inr (4, [.ref cta, .int ((r_X8_change_0 kind xx yy rf tn tf bcv btr bpn bpf bpz bff bfsn bfsf bfsz cmn cmf ctn ctf).2.2.2.2.2.1)])), (cta, .inl (cyI, 24, .inl ((r_X8_change_0 kind xx yy rf tn tf bcv btr bpn bpf bpz bff bfsn bfsf bfsz cmn cmf ctn ctf).2.2.2.2.2.2)))] := by
  refine ct_intro (by decide) (Nat.le_of_ble_eq_true rfl) ?_
  intro p e s m below meth c A ls cx hP hD hS hl
  obtain ⟨hx, hb, -⟩ := id cx
  refine lv_aload_n hx hb dX8_change_0 rfl (lv_at hl 0 rfl) ?_
  refine lv_iload_n hx hb dX8_change_1 rfl (lv_at hl 1 rfl) ?_
  refine ct_callV (As := [.int (0 : Int32)]) (rest := []) (st1 := [.ref bh]) (V3 := [(h, .inr (8, [.ref ph, .ref th, .ref sh, .ref lh, .ref oh, .ref bh, .ref dh, .ref ch, .ref kh, .int rf])), (th, .inr (4, [.ref ta, .int tn])), (ta, .inl (cyI, 24, .inl tf)), (bh, .inr (0, [.ref bph, .ref bfh, .ref bca, .int btr])), (bca, .inl (cyI, 160, .inl bcv)), (bph, .inr (6, [.int (nI 40), .ref bpa, .ref bpb, .int bpn])), (bpa, .inl (cyI, 40 * 24, .inl bpf)), (bpb, .inl (cyI, 40, .inl bpz)), (bfh, .inr (3, [.ref bfa, .ref bfsh])), (bfa, .inl (cyI, 100, .inl bff)), (bfsh, .inr (6, [.int (nI 20), .ref bfsa, .ref bfsb, .int bfsn])), (bfsa, .inl (cyI, 20 * 24, .inl bfsf)), (bfsb, .inl (cyI, 20, .inl bfsz)), (ch, .inr (1, [.ref cmh, .ref cth])), (cmh, .inr (4, [.ref cma, .int cmn])), (cma, .inl (cyI, 24, .inl cmf)), (cth, .inr (4, [.ref cta, .int ctn])), (cta, .inl (cyI, 24, .inl ctf))]) cx (c_X8_benchOf_0 l D cyI cyZ h ph th sh lh oh bh dh ch kh rf) hP hD hS [0] [(true, 0), (false, 1), (false, 2), (false, 3), (false, 4), (false, 5), (false, 6), (false, 7), (false, 8), (false, 9), (false, 10), (false, 11), (false, 12), (false, 13), (false, 14), (false, 15), (false, 16), (false, 17)] ⟨rfl, rfl, rfl⟩ rfl rfl mm_425 mm_426 mm_427 mm_428 mm_422 dd_X8_benchOf rfl hl.1 rfl dX8_change_2 rfl (fun H locs hP hD hS => ?_)
  refine lv_astore (lv' := [(5, .ref bh), (0, .ref h), (1, .int (0 : Int32)), (2, .int kind), (3, .int xx), (4, .int yy)]) hx hb dX8_change_5 hl (by decide) rfl (fun ls hl => ?_)
  refine lv_aload hx hb dX8_change_7 (lv_at hl 0 rfl) ?_
  refine lv_ifnonnull (tgt := 14) hx hb dX8_change_9 (by decide) ?_
  refine lv_iload_n hx hb dX8_change_14 rfl (lv_at hl 3 rfl) ?_
  refine lv_if_lt (tgt := 39) hx hb dX8_change_15 (by decide) (fun c_1 => ?_) (fun c_1 => ?_)
  · skip
    refine lv_bipush (v := (-2 : Int32)) hx hb dX8_change_39 (by decide) ?_
    rw [show r_X8_change_0 kind xx yy rf tn tf bcv btr bpn bpf bpz bff bfsn bfsf bfsz cmn cmf ctn ctf = ((-2 : Int32), tn, tf, cmn, cmf, ctn, ctf) from if_pos c_1]
    dsimp only
    exact ct_iret cx hP hD hS dX8_change_41
  · skip
    refine lv_iload_n hx hb dX8_change_18 rfl (lv_at hl 3 rfl) ?_
    refine lv_bipush (v := (7 : Int32)) hx hb dX8_change_19 (by decide) ?_
    refine lv_icmp_ge (tgt := 39) hx hb dX8_change_21 (by decide) (fun c_2 => ?_) (fun c_2 => ?_)
    · skip
      refine lv_bipush (v := (-2 : Int32)) hx hb dX8_change_39 (by decide) ?_
      rw [show r_X8_change_0 kind xx yy rf tn tf bcv btr bpn bpf bpz bff bfsn bfsf bfsz cmn cmf ctn ctf = ((-2 : Int32), tn, tf, cmn, cmf, ctn, ctf) from (if_neg c_1).trans (if_pos c_2)]
      dsimp only
      exact ct_iret cx hP hD hS dX8_change_41
    · skip
      refine lv_iload_n hx hb dX8_change_24 rfl (lv_at hl 4 rfl) ?_
      refine ct_callS (As := [.int xx]) (rest := []) (st1 := [.int (r_X8_isOfAChange xx)]) (V3 := [(h, .inr (8, [.ref ph, .ref th, .ref sh, .ref lh, .ref oh, .ref bh, .ref dh, .ref ch, .ref kh, .int rf])), (th, .inr (4, [.ref ta, .int tn])), (ta, .inl (cyI, 24, .inl tf)), (bh, .inr (0, [.ref bph, .ref bfh, .ref bca, .int btr])), (bca, .inl (cyI, 160, .inl bcv)), (bph, .inr (6, [.int (nI 40), .ref bpa, .ref bpb, .int bpn])), (bpa, .inl (cyI, 40 * 24, .inl bpf)), (bpb, .inl (cyI, 40, .inl bpz)), (bfh, .inr (3, [.ref bfa, .ref bfsh])), (bfa, .inl (cyI, 100, .inl bff)), (bfsh, .inr (6, [.int (nI 20), .ref bfsa, .ref bfsb, .int bfsn])), (bfsa, .inl (cyI, 20 * 24, .inl bfsf)), (bfsb, .inl (cyI, 20, .inl bfsz)), (ch, .inr (1, [.ref cmh, .ref cth])), (cmh, .inr (4, [.ref cma, .int cmn])), (cma, .inl (cyI, 24, .inl cmf)), (cth, .inr (4, [.ref cta, .int ctn])), (cta, .inl (cyI, 24, .inl ctf))]) cx (c_X8_isOfAChange l D cyI cyZ xx) hP hD hS [] [(false, 0), (false, 1), (false, 2), (false, 3), (false, 4), (false, 5), (false, 6), (false, 7), (false, 8), (false, 9), (false, 10), (false, 11), (false, 12), (false, 13), (false, 14), (false, 15), (false, 16), (false, 17)] ⟨rfl, rfl, rfl⟩ mm_429 mm_430 mm_428 mm_423 dd_X8_isOfAChange rfl hl.1 rfl dX8_change_25 rfl (fun H locs hP hD hS => ?_)
      refine lv_if_eq (tgt := 39) hx hb dX8_change_28 (by decide) (fun c_3 => ?_) (fun c_3 => ?_)
      · skip
        refine lv_bipush (v := (-2 : Int32)) hx hb dX8_change_39 (by decide) ?_
        rw [show r_X8_change_0 kind xx yy rf tn tf bcv btr bpn bpf bpz bff bfsn bfsf bfsz cmn cmf ctn ctf = ((-2 : Int32), tn, tf, cmn, cmf, ctn, ctf) from (if_neg c_1).trans ((if_neg c_2).trans (if_pos c_3))]
        dsimp only
        exact ct_iret cx hP hD hS dX8_change_41
      · skip
        refine lv_iload hx hb dX8_change_31 (lv_at hl 5 rfl) ?_
        refine ct_callS (As := [.int yy]) (rest := []) (st1 := [.int (r_X8_isOfAChange yy)]) (V3 := [(h, .inr (8, [.ref ph, .ref th, .ref sh, .ref lh, .ref oh, .ref bh, .ref dh, .ref ch, .ref kh, .int rf])), (th, .inr (4, [.ref ta, .int tn])), (ta, .inl (cyI, 24, .inl tf)), (bh, .inr (0, [.ref bph, .ref bfh, .ref bca, .int btr])), (bca, .inl (cyI, 160, .inl bcv)), (bph, .inr (6, [.int (nI 40), .ref bpa, .ref bpb, .int bpn])), (bpa, .inl (cyI, 40 * 24, .inl bpf)), (bpb, .inl (cyI, 40, .inl bpz)), (bfh, .inr (3, [.ref bfa, .ref bfsh])), (bfa, .inl (cyI, 100, .inl bff)), (bfsh, .inr (6, [.int (nI 20), .ref bfsa, .ref bfsb, .int bfsn])), (bfsa, .inl (cyI, 20 * 24, .inl bfsf)), (bfsb, .inl (cyI, 20, .inl bfsz)), (ch, .inr (1, [.ref cmh, .ref cth])), (cmh, .inr (4, [.ref cma, .int cmn])), (cma, .inl (cyI, 24, .inl cmf)), (cth, .inr (4, [.ref cta, .int ctn])), (cta, .inl (cyI, 24, .inl ctf))]) cx (c_X8_isOfAChange l D cyI cyZ yy) hP hD hS [] [(false, 0), (false, 1), (false, 2), (false, 3), (false, 4), (false, 5), (false, 6), (false, 7), (false, 8), (false, 9), (false, 10), (false, 11), (false, 12), (false, 13), (false, 14), (false, 15), (false, 16), (false, 17)] ⟨rfl, rfl, rfl⟩ mm_429 mm_430 mm_428 mm_423 dd_X8_isOfAChange rfl hl.1 rfl dX8_change_33 rfl (fun H locs hP hD hS => ?_)
        refine lv_if_ne (tgt := 42) hx hb dX8_change_36 (by decide) (fun c_4 => ?_) (fun c_4 => ?_)
        · skip
          refine lv_aload_n hx hb dX8_change_42 rfl (lv_at hl 1 rfl) ?_
          refine ct_get (v := .ref ch) cx hP 0 rfl rfl bwX8 7 rfl mm_378 rfl dX8_change_43 ?_
          refine lv_aload_n hx hb dX8_change_46 rfl (lv_at hl 1 rfl) ?_
          refine ct_get (v := .ref th) cx hP 0 rfl rfl bwX8 1 rfl mm_367 rfl dX8_change_47 ?_
          refine lv_aload hx hb dX8_change_50 (lv_at hl 0 rfl) ?_
          refine ct_callV (As := []) (rest := [.ref th, .ref ch]) (st1 := [.ref bph, .ref th, .ref ch]) (V3 := [(h, .inr (8, [.ref ph, .ref th, .ref sh, .ref lh, .ref oh, .ref bh, .ref dh, .ref ch, .ref kh, .int rf])), (th, .inr (4, [.ref ta, .int tn])), (ta, .inl (cyI, 24, .inl tf)), (bh, .inr (0, [.ref bph, .ref bfh, .ref bca, .int btr])), (bca, .inl (cyI, 160, .inl bcv)), (bph, .inr (6, [.int (nI 40), .ref bpa, .ref bpb, .int bpn])), (bpa, .inl (cyI, 40 * 24, .inl bpf)), (bpb, .inl (cyI, 40, .inl bpz)), (bfh, .inr (3, [.ref bfa, .ref bfsh])), (bfa, .inl (cyI, 100, .inl bff)), (bfsh, .inr (6, [.int (nI 20), .ref bfsa, .ref bfsb, .int bfsn])), (bfsa, .inl (cyI, 20 * 24, .inl bfsf)), (bfsb, .inl (cyI, 20, .inl bfsz)), (ch, .inr (1, [.ref cmh, .ref cth])), (cmh, .inr (4, [.ref cma, .int cmn])), (cma, .inl (cyI, 24, .inl cmf)), (cth, .inr (4, [.ref cta, .int ctn])), (cta, .inl (cyI, 24, .inl ctf))]) cx (c_X0_inputs l D cyI cyZ bh bca bph bpa bpb bfh bfa bfsh bfsa bfsb bcv btr bpn bpf bpz bff bfsn bfsf bfsz) hP hD hS [3, 4, 5, 6, 7, 8, 9, 10, 11, 12] [(false, 0), (false, 1), (false, 2), (true, 0), (true, 1), (true, 2), (true, 3), (true, 4), (true, 5), (true, 6), (true, 7), (true, 8), (true, 9), (false, 13), (false, 14), (false, 15), (false, 16), (false, 17)] ⟨rfl, rfl, rfl⟩ rfl rfl mm_431 mm_432 mm_433 mm_45 mm_35 dd_X0_inputs rfl hl.1 rfl dX8_change_52 rfl (fun H locs hP hD hS => ?_)
          refine lv_iload_n hx hb dX8_change_55 rfl (lv_at hl 3 rfl) ?_
          refine lv_iload_n hx hb dX8_change_56 rfl (lv_at hl 4 rfl) ?_
          refine lv_iload hx hb dX8_change_57 (lv_at hl 5 rfl) ?_
          refine ct_callV (As := [.ref th, .ref bph, .int kind, .int xx, .int yy]) (rest := []) (st1 := []) (V3 := [(h, .inr (8, [.ref ph, .ref th, .ref sh, .ref lh, .ref oh, .ref bh, .ref dh, .ref ch, .ref kh, .int rf])), (th, .inr (4, [.ref ta, .int ((r_X1_apply kind xx yy cmn cmf ctn ctf tn tf bpn bpf bpz).2.2.2.2.1)])), (ta, .inl (cyI, 24, .inl ((r_X1_apply kind xx yy cmn cmf ctn ctf tn tf bpn bpf bpz).2.2.2.2.2))), (bh, .inr (0, [.ref bph, .ref bfh, .ref bca, .int btr])), (bca, .inl (cyI, 160, .inl bcv)), (bph, .inr (6, [.int (nI 40), .ref bpa, .ref bpb, .int bpn])), (bpa, .inl (cyI, 40 * 24, .inl bpf)), (bpb, .inl (cyI, 40, .inl bpz)), (bfh, .inr (3, [.ref bfa, .ref bfsh])), (bfa, .inl (cyI, 100, .inl bff)), (bfsh, .inr (6, [.int (nI 20), .ref bfsa, .ref bfsb, .int bfsn])), (bfsa, .inl (cyI, 20 * 24, .inl bfsf)), (bfsb, .inl (cyI, 20, .inl bfsz)), (ch, .inr (1, [.ref cmh, .ref cth])), (cmh, .inr (4, [.ref cma, .int ((r_X1_apply kind xx yy cmn cmf ctn ctf tn tf bpn bpf bpz).1)])), (cma, .inl (cyI, 24, .inl ((r_X1_apply kind xx yy cmn cmf ctn ctf tn tf bpn bpf bpz).2.1))), (cth, .inr (4, [.ref cta, .int ((r_X1_apply kind xx yy cmn cmf ctn ctf tn tf bpn bpf bpz).2.2.1)])), (cta, .inl (cyI, 24, .inl ((r_X1_apply kind xx yy cmn cmf ctn ctf tn tf bpn bpf bpz).2.2.2.1)))]) cx (c_X1_apply l D cyI cyZ ch cmh cma cth cta th ta bph bpa bpb kind xx yy cmn cmf ctn ctf tn tf bpn bpf bpz) hP hD hS [13, 14, 15, 16, 17, 1, 2, 5, 6, 7] [(false, 0), (true, 5), (true, 6), (false, 3), (false, 4), (true, 7), (true, 8), (true, 9), (false, 8), (false, 9), (false, 10), (false, 11), (false, 12), (true, 0), (true, 1), (true, 2), (true, 3), (true, 4)] ⟨rfl, rfl, rfl⟩ rfl rfl mm_434 mm_435 mm_436 mm_203 mm_210 dd_X1_apply rfl hl.1 rfl dX8_change_59 rfl (fun H locs hP hD hS => ?_)
          obtain ⟨u_5, hu_5⟩ : ∃ z, z = r_X1_apply kind xx yy cmn cmf ctn ctf tn tf bpn bpf bpz := ⟨_, rfl⟩
          rw [← hu_5] at hP hD
          refine lv_aload_n hx hb dX8_change_62 rfl (lv_at hl 1 rfl) ?_
          refine ct_get (v := .ref th) cx hP 0 rfl rfl bwX8 1 rfl mm_367 rfl dX8_change_63 ?_
          refine ct_callV (As := []) (rest := []) (st1 := [.int u_5.2.2.2.2.1]) (V3 := [(h, .inr (8, [.ref ph, .ref th, .ref sh, .ref lh, .ref oh, .ref bh, .ref dh, .ref ch, .ref kh, .int rf])), (th, .inr (4, [.ref ta, .int u_5.2.2.2.2.1])), (ta, .inl (cyI, 24, .inl u_5.2.2.2.2.2)), (bh, .inr (0, [.ref bph, .ref bfh, .ref bca, .int btr])), (bca, .inl (cyI, 160, .inl bcv)), (bph, .inr (6, [.int (nI 40), .ref bpa, .ref bpb, .int bpn])), (bpa, .inl (cyI, 40 * 24, .inl bpf)), (bpb, .inl (cyI, 40, .inl bpz)), (bfh, .inr (3, [.ref bfa, .ref bfsh])), (bfa, .inl (cyI, 100, .inl bff)), (bfsh, .inr (6, [.int (nI 20), .ref bfsa, .ref bfsb, .int bfsn])), (bfsa, .inl (cyI, 20 * 24, .inl bfsf)), (bfsb, .inl (cyI, 20, .inl bfsz)), (ch, .inr (1, [.ref cmh, .ref cth])), (cmh, .inr (4, [.ref cma, .int u_5.1])), (cma, .inl (cyI, 24, .inl u_5.2.1)), (cth, .inr (4, [.ref cta, .int u_5.2.2.1])), (cta, .inl (cyI, 24, .inl u_5.2.2.2.1))]) cx (c_X4_size l D cyI cyZ th ta u_5.2.2.2.2.1 u_5.2.2.2.2.2) hP hD hS [1, 2] [(false, 0), (true, 0), (true, 1), (false, 3), (false, 4), (false, 5), (false, 6), (false, 7), (false, 8), (false, 9), (false, 10), (false, 11), (false, 12), (false, 13), (false, 14), (false, 15), (false, 16), (false, 17)] ⟨rfl, rfl, rfl⟩ rfl rfl mm_416 mm_74 mm_75 mm_76 mm_68 dd_X4_size rfl hl.1 rfl dX8_change_66 rfl (fun H locs hP hD hS => ?_)
          rw [show r_X8_change_0 kind xx yy rf tn tf bcv btr bpn bpf bpz bff bfsn bfsf bfsz cmn cmf ctn ctf = (u_5.2.2.2.2.1, u_5.2.2.2.2.1, u_5.2.2.2.2.2, u_5.1, u_5.2.1, u_5.2.2.1, u_5.2.2.2.1) from (by subst hu_5; exact (if_neg c_1).trans ((if_neg c_2).trans ((if_neg c_3).trans (if_neg c_4))))]
          dsimp only
          exact ct_iret cx hP hD hS dX8_change_69
        · skip
          refine lv_bipush (v := (-2 : Int32)) hx hb dX8_change_39 (by decide) ?_
          rw [show r_X8_change_0 kind xx yy rf tn tf bcv btr bpn bpf bpz bff bfsn bfsf bfsz cmn cmf ctn ctf = ((-2 : Int32), tn, tf, cmn, cmf, ctn, ctf) from (if_neg c_1).trans ((if_neg c_2).trans ((if_neg c_3).trans (if_pos c_4)))]
          dsimp only
          exact ct_iret cx hP hD hS dX8_change_41
def r_X8_change_1 (kind : Int32) (xx : Int32) (yy : Int32) (rf : Int32) (tn : Int32) (tf : Nat → Int32) (dcv : Nat → Int32) (dtr : Int32) (dpn : Int32) (dpf : Nat → Int32) (dpz : Nat → Int32) (dff : Nat → Int32) (dfsn : Int32) (dfsf : Nat → Int32) (dfsz : Nat → Int32) (cmn : Int32) (cmf : Nat → Int32) (ctn : Int32) (ctf : Nat → Int32) : Int32 × Int32 × (Nat → Int32) × Int32 × (Nat → Int32) × Int32 × (Nat → Int32) := if kind < (0 : Int32) then ((-2 : Int32), tn, tf, cmn, cmf, ctn, ctf) else if (7 : Int32) ≤ kind then ((-2 : Int32), tn, tf, cmn, cmf, ctn, ctf) else if (r_X8_isOfAChange xx) = (0 : Int32) then ((-2 : Int32), tn, tf, cmn, cmf, ctn, ctf) else if (r_X8_isOfAChange yy) = (0 : Int32) then ((-2 : Int32), tn, tf, cmn, cmf, ctn, ctf) else let u_5 : Int32 × (Nat → Int32) × Int32 × (Nat → Int32) × Int32 × (Nat → Int32) := r_X1_apply kind xx yy cmn cmf ctn ctf tn tf dpn dpf dpz; (u_5.2.2.2.2.1, u_5.2.2.2.2.1, u_5.2.2.2.2.2, u_5.1, u_5.2.1, u_5.2.2.1, u_5.2.2.2.1)
set_option maxHeartbeats 4000000 in
set_option maxRecDepth 100000 in
theorem c_X8_change_1 (l : Launch) (D : va_G) (cyI cyZ : ClassId) (h : Nat) (ph : Nat) (th : Nat) (ta : Nat) (sh : Nat) (lh : Nat) (oh : Nat) (bh : Nat) (dh : Nat) (dca : Nat) (dph : Nat) (dpa : Nat) (dpb : Nat) (dfh : Nat) (dfa : Nat) (dfsh : Nat) (dfsa : Nat) (dfsb : Nat) (ch : Nat) (cmh : Nat) (cma : Nat) (cth : Nat) (cta : Nat) (kh : Nat) (kind : Int32) (xx : Int32) (yy : Int32) (rf : Int32) (tn : Int32) (tf : Nat → Int32) (dcv : Nat → Int32) (dtr : Int32) (dpn : Int32) (dpf : Nat → Int32) (dpz : Nat → Int32) (dff : Nat → Int32) (dfsn : Int32) (dfsf : Nat → Int32) (dfsz : Nat → Int32) (cmn : Int32) (cmf : Nat → Int32) (ctn : Int32) (ctf : Nat → Int32)  : CT l D cyI cyZ yX8_change cX8_change 6 (some .int) ({ frames := 5, cells := 0, slots := 0, locals := 120 }) [.ref h, .int (1 : Int32), .int kind, .int xx, .int yy] [(h, .inr (8, [.ref ph, .ref th, .ref sh, .ref lh, .ref oh, .ref bh, .ref dh, .ref ch, .ref kh, .int rf])), (th, .inr (4, [.ref ta, .int tn])), (ta, .inl (cyI, 24, .inl tf)), (dh, .inr (0, [.ref dph, .ref dfh, .ref dca, .int dtr])), (dca, .inl (cyI, 160, .inl dcv)), (dph, .inr (6, [.int (nI 40), .ref dpa, .ref dpb, .int dpn])), (dpa, .inl (cyI, 40 * 24, .inl dpf)), (dpb, .inl (cyI, 40, .inl dpz)), (dfh, .inr (3, [.ref dfa, .ref dfsh])), (dfa, .inl (cyI, 100, .inl dff)), (dfsh, .inr (6, [.int (nI 20), .ref dfsa, .ref dfsb, .int dfsn])), (dfsa, .inl (cyI, 20 * 24, .inl dfsf)), (dfsb, .inl (cyI, 20, .inl dfsz)), (ch, .inr (1, [.ref cmh, .ref cth])), (cmh, .inr (4, [.ref cma, .int cmn])), (cma, .inl (cyI, 24, .inl cmf)), (cth, .inr (4, [.ref cta, .int ctn])), (cta, .inl (cyI, 24, .inl ctf))] (some (.int ((r_X8_change_1 kind xx yy rf tn tf dcv dtr dpn dpf dpz dff dfsn dfsf dfsz cmn cmf ctn ctf).1))) [(h, .inr (8, [.ref ph, .ref th, .ref sh, .ref lh, .ref oh, .ref bh, .ref dh, .ref ch, .ref kh, .int rf])), (th, .inr (4, [.ref ta, .int ((r_X8_change_1 kind xx yy rf tn tf dcv dtr dpn dpf dpz dff dfsn dfsf dfsz cmn cmf ctn ctf).2.1)])), (ta, .inl (cyI, 24, .inl ((r_X8_change_1 kind xx yy rf tn tf dcv dtr dpn dpf dpz dff dfsn dfsf dfsz cmn cmf ctn ctf).2.2.1))), (dh, .inr (0, [.ref dph, .ref dfh, .ref dca, .int dtr])), (dca, .inl (cyI, 160, .inl dcv)), (dph, .inr (6, [.int (nI 40), .ref dpa, .ref dpb, .int dpn])), (dpa, .inl (cyI, 40 * 24, .inl dpf)), (dpb, .inl (cyI, 40, .inl dpz)), (dfh, .inr (3, [.ref dfa, .ref dfsh])), (dfa, .inl (cyI, 100, .inl dff)), (dfsh, .inr (6, [.int (nI 20), .ref dfsa, .ref dfsb, .int dfsn])), (dfsa, .inl (cyI, 20 * 24, .inl dfsf)), (dfsb, .inl (cyI, 20, .inl dfsz)), (ch, .inr (1, [.ref cmh, .ref cth])), (cmh, .inr (4, [.ref cma, .int ((r_X8_change_1 kind xx yy rf tn tf dcv dtr dpn dpf dpz dff dfsn dfsf dfsz cmn cmf ctn ctf).2.2.2.1)])), (cma, .inl (cyI, 24, .inl ((r_X8_change_1 kind xx yy rf tn tf dcv dtr dpn dpf dpz dff dfsn dfsf dfsz cmn cmf ctn ctf).2.2.2.2.1))), (cth, .inr (4, [.ref cta, .int ((r_X8_change_1 kind xx yy rf tn tf dcv dtr dpn dpf dpz dff dfsn dfsf dfsz cmn cmf ctn ctf).2.2.2.2.2.1)])), (cta, .inl (cyI, 24, .inl ((r_X8_change_1 kind xx yy rf tn tf dcv dtr dpn dpf dpz dff dfsn dfsf dfsz cmn cmf ctn ctf).2.2.2.2.2.2)))] := by
  refine ct_intro (by decide) (Nat.le_of_ble_eq_true rfl) ?_
  intro p e s m below meth c A ls cx hP hD hS hl
  obtain ⟨hx, hb, -⟩ := id cx
  refine lv_aload_n hx hb dX8_change_0 rfl (lv_at hl 0 rfl) ?_
  refine lv_iload_n hx hb dX8_change_1 rfl (lv_at hl 1 rfl) ?_
  refine ct_callV (As := [.int (1 : Int32)]) (rest := []) (st1 := [.ref dh]) (V3 := [(h, .inr (8, [.ref ph, .ref th, .ref sh, .ref lh, .ref oh, .ref bh, .ref dh, .ref ch, .ref kh, .int rf])), (th, .inr (4, [.ref ta, .int tn])), (ta, .inl (cyI, 24, .inl tf)), (dh, .inr (0, [.ref dph, .ref dfh, .ref dca, .int dtr])), (dca, .inl (cyI, 160, .inl dcv)), (dph, .inr (6, [.int (nI 40), .ref dpa, .ref dpb, .int dpn])), (dpa, .inl (cyI, 40 * 24, .inl dpf)), (dpb, .inl (cyI, 40, .inl dpz)), (dfh, .inr (3, [.ref dfa, .ref dfsh])), (dfa, .inl (cyI, 100, .inl dff)), (dfsh, .inr (6, [.int (nI 20), .ref dfsa, .ref dfsb, .int dfsn])), (dfsa, .inl (cyI, 20 * 24, .inl dfsf)), (dfsb, .inl (cyI, 20, .inl dfsz)), (ch, .inr (1, [.ref cmh, .ref cth])), (cmh, .inr (4, [.ref cma, .int cmn])), (cma, .inl (cyI, 24, .inl cmf)), (cth, .inr (4, [.ref cta, .int ctn])), (cta, .inl (cyI, 24, .inl ctf))]) cx (c_X8_benchOf_1 l D cyI cyZ h ph th sh lh oh bh dh ch kh rf) hP hD hS [0] [(true, 0), (false, 1), (false, 2), (false, 3), (false, 4), (false, 5), (false, 6), (false, 7), (false, 8), (false, 9), (false, 10), (false, 11), (false, 12), (false, 13), (false, 14), (false, 15), (false, 16), (false, 17)] ⟨rfl, rfl, rfl⟩ rfl rfl mm_425 mm_426 mm_427 mm_428 mm_422 dd_X8_benchOf rfl hl.1 rfl dX8_change_2 rfl (fun H locs hP hD hS => ?_)
  refine lv_astore (lv' := [(5, .ref dh), (0, .ref h), (1, .int (1 : Int32)), (2, .int kind), (3, .int xx), (4, .int yy)]) hx hb dX8_change_5 hl (by decide) rfl (fun ls hl => ?_)
  refine lv_aload hx hb dX8_change_7 (lv_at hl 0 rfl) ?_
  refine lv_ifnonnull (tgt := 14) hx hb dX8_change_9 (by decide) ?_
  refine lv_iload_n hx hb dX8_change_14 rfl (lv_at hl 3 rfl) ?_
  refine lv_if_lt (tgt := 39) hx hb dX8_change_15 (by decide) (fun c_1 => ?_) (fun c_1 => ?_)
  · skip
    refine lv_bipush (v := (-2 : Int32)) hx hb dX8_change_39 (by decide) ?_
    rw [show r_X8_change_1 kind xx yy rf tn tf dcv dtr dpn dpf dpz dff dfsn dfsf dfsz cmn cmf ctn ctf = ((-2 : Int32), tn, tf, cmn, cmf, ctn, ctf) from if_pos c_1]
    dsimp only
    exact ct_iret cx hP hD hS dX8_change_41
  · skip
    refine lv_iload_n hx hb dX8_change_18 rfl (lv_at hl 3 rfl) ?_
    refine lv_bipush (v := (7 : Int32)) hx hb dX8_change_19 (by decide) ?_
    refine lv_icmp_ge (tgt := 39) hx hb dX8_change_21 (by decide) (fun c_2 => ?_) (fun c_2 => ?_)
    · skip
      refine lv_bipush (v := (-2 : Int32)) hx hb dX8_change_39 (by decide) ?_
      rw [show r_X8_change_1 kind xx yy rf tn tf dcv dtr dpn dpf dpz dff dfsn dfsf dfsz cmn cmf ctn ctf = ((-2 : Int32), tn, tf, cmn, cmf, ctn, ctf) from (if_neg c_1).trans (if_pos c_2)]
      dsimp only
      exact ct_iret cx hP hD hS dX8_change_41
    · skip
      refine lv_iload_n hx hb dX8_change_24 rfl (lv_at hl 4 rfl) ?_
      refine ct_callS (As := [.int xx]) (rest := []) (st1 := [.int (r_X8_isOfAChange xx)]) (V3 := [(h, .inr (8, [.ref ph, .ref th, .ref sh, .ref lh, .ref oh, .ref bh, .ref dh, .ref ch, .ref kh, .int rf])), (th, .inr (4, [.ref ta, .int tn])), (ta, .inl (cyI, 24, .inl tf)), (dh, .inr (0, [.ref dph, .ref dfh, .ref dca, .int dtr])), (dca, .inl (cyI, 160, .inl dcv)), (dph, .inr (6, [.int (nI 40), .ref dpa, .ref dpb, .int dpn])), (dpa, .inl (cyI, 40 * 24, .inl dpf)), (dpb, .inl (cyI, 40, .inl dpz)), (dfh, .inr (3, [.ref dfa, .ref dfsh])), (dfa, .inl (cyI, 100, .inl dff)), (dfsh, .inr (6, [.int (nI 20), .ref dfsa, .ref dfsb, .int dfsn])), (dfsa, .inl (cyI, 20 * 24, .inl dfsf)), (dfsb, .inl (cyI, 20, .inl dfsz)), (ch, .inr (1, [.ref cmh, .ref cth])), (cmh, .inr (4, [.ref cma, .int cmn])), (cma, .inl (cyI, 24, .inl cmf)), (cth, .inr (4, [.ref cta, .int ctn])), (cta, .inl (cyI, 24, .inl ctf))]) cx (c_X8_isOfAChange l D cyI cyZ xx) hP hD hS [] [(false, 0), (false, 1), (false, 2), (false, 3), (false, 4), (false, 5), (false, 6), (false, 7), (false, 8), (false, 9), (false, 10), (false, 11), (false, 12), (false, 13), (false, 14), (false, 15), (false, 16), (false, 17)] ⟨rfl, rfl, rfl⟩ mm_429 mm_430 mm_428 mm_423 dd_X8_isOfAChange rfl hl.1 rfl dX8_change_25 rfl (fun H locs hP hD hS => ?_)
      refine lv_if_eq (tgt := 39) hx hb dX8_change_28 (by decide) (fun c_3 => ?_) (fun c_3 => ?_)
      · skip
        refine lv_bipush (v := (-2 : Int32)) hx hb dX8_change_39 (by decide) ?_
        rw [show r_X8_change_1 kind xx yy rf tn tf dcv dtr dpn dpf dpz dff dfsn dfsf dfsz cmn cmf ctn ctf = ((-2 : Int32), tn, tf, cmn, cmf, ctn, ctf) from (if_neg c_1).trans ((if_neg c_2).trans (if_pos c_3))]
        dsimp only
        exact ct_iret cx hP hD hS dX8_change_41
      · skip
        refine lv_iload hx hb dX8_change_31 (lv_at hl 5 rfl) ?_
        refine ct_callS (As := [.int yy]) (rest := []) (st1 := [.int (r_X8_isOfAChange yy)]) (V3 := [(h, .inr (8, [.ref ph, .ref th, .ref sh, .ref lh, .ref oh, .ref bh, .ref dh, .ref ch, .ref kh, .int rf])), (th, .inr (4, [.ref ta, .int tn])), (ta, .inl (cyI, 24, .inl tf)), (dh, .inr (0, [.ref dph, .ref dfh, .ref dca, .int dtr])), (dca, .inl (cyI, 160, .inl dcv)), (dph, .inr (6, [.int (nI 40), .ref dpa, .ref dpb, .int dpn])), (dpa, .inl (cyI, 40 * 24, .inl dpf)), (dpb, .inl (cyI, 40, .inl dpz)), (dfh, .inr (3, [.ref dfa, .ref dfsh])), (dfa, .inl (cyI, 100, .inl dff)), (dfsh, .inr (6, [.int (nI 20), .ref dfsa, .ref dfsb, .int dfsn])), (dfsa, .inl (cyI, 20 * 24, .inl dfsf)), (dfsb, .inl (cyI, 20, .inl dfsz)), (ch, .inr (1, [.ref cmh, .ref cth])), (cmh, .inr (4, [.ref cma, .int cmn])), (cma, .inl (cyI, 24, .inl cmf)), (cth, .inr (4, [.ref cta, .int ctn])), (cta, .inl (cyI, 24, .inl ctf))]) cx (c_X8_isOfAChange l D cyI cyZ yy) hP hD hS [] [(false, 0), (false, 1), (false, 2), (false, 3), (false, 4), (false, 5), (false, 6), (false, 7), (false, 8), (false, 9), (false, 10), (false, 11), (false, 12), (false, 13), (false, 14), (false, 15), (false, 16), (false, 17)] ⟨rfl, rfl, rfl⟩ mm_429 mm_430 mm_428 mm_423 dd_X8_isOfAChange rfl hl.1 rfl dX8_change_33 rfl (fun H locs hP hD hS => ?_)
        refine lv_if_ne (tgt := 42) hx hb dX8_change_36 (by decide) (fun c_4 => ?_) (fun c_4 => ?_)
        · skip
          refine lv_aload_n hx hb dX8_change_42 rfl (lv_at hl 1 rfl) ?_
          refine ct_get (v := .ref ch) cx hP 0 rfl rfl bwX8 7 rfl mm_378 rfl dX8_change_43 ?_
          refine lv_aload_n hx hb dX8_change_46 rfl (lv_at hl 1 rfl) ?_
          refine ct_get (v := .ref th) cx hP 0 rfl rfl bwX8 1 rfl mm_367 rfl dX8_change_47 ?_
          refine lv_aload hx hb dX8_change_50 (lv_at hl 0 rfl) ?_
          refine ct_callV (As := []) (rest := [.ref th, .ref ch]) (st1 := [.ref dph, .ref th, .ref ch]) (V3 := [(h, .inr (8, [.ref ph, .ref th, .ref sh, .ref lh, .ref oh, .ref bh, .ref dh, .ref ch, .ref kh, .int rf])), (th, .inr (4, [.ref ta, .int tn])), (ta, .inl (cyI, 24, .inl tf)), (dh, .inr (0, [.ref dph, .ref dfh, .ref dca, .int dtr])), (dca, .inl (cyI, 160, .inl dcv)), (dph, .inr (6, [.int (nI 40), .ref dpa, .ref dpb, .int dpn])), (dpa, .inl (cyI, 40 * 24, .inl dpf)), (dpb, .inl (cyI, 40, .inl dpz)), (dfh, .inr (3, [.ref dfa, .ref dfsh])), (dfa, .inl (cyI, 100, .inl dff)), (dfsh, .inr (6, [.int (nI 20), .ref dfsa, .ref dfsb, .int dfsn])), (dfsa, .inl (cyI, 20 * 24, .inl dfsf)), (dfsb, .inl (cyI, 20, .inl dfsz)), (ch, .inr (1, [.ref cmh, .ref cth])), (cmh, .inr (4, [.ref cma, .int cmn])), (cma, .inl (cyI, 24, .inl cmf)), (cth, .inr (4, [.ref cta, .int ctn])), (cta, .inl (cyI, 24, .inl ctf))]) cx (c_X0_inputs l D cyI cyZ dh dca dph dpa dpb dfh dfa dfsh dfsa dfsb dcv dtr dpn dpf dpz dff dfsn dfsf dfsz) hP hD hS [3, 4, 5, 6, 7, 8, 9, 10, 11, 12] [(false, 0), (false, 1), (false, 2), (true, 0), (true, 1), (true, 2), (true, 3), (true, 4), (true, 5), (true, 6), (true, 7), (true, 8), (true, 9), (false, 13), (false, 14), (false, 15), (false, 16), (false, 17)] ⟨rfl, rfl, rfl⟩ rfl rfl mm_431 mm_432 mm_433 mm_45 mm_35 dd_X0_inputs rfl hl.1 rfl dX8_change_52 rfl (fun H locs hP hD hS => ?_)
          refine lv_iload_n hx hb dX8_change_55 rfl (lv_at hl 3 rfl) ?_
          refine lv_iload_n hx hb dX8_change_56 rfl (lv_at hl 4 rfl) ?_
          refine lv_iload hx hb dX8_change_57 (lv_at hl 5 rfl) ?_
          refine ct_callV (As := [.ref th, .ref dph, .int kind, .int xx, .int yy]) (rest := []) (st1 := []) (V3 := [(h, .inr (8, [.ref ph, .ref th, .ref sh, .ref lh, .ref oh, .ref bh, .ref dh, .ref ch, .ref kh, .int rf])), (th, .inr (4, [.ref ta, .int ((r_X1_apply kind xx yy cmn cmf ctn ctf tn tf dpn dpf dpz).2.2.2.2.1)])), (ta, .inl (cyI, 24, .inl ((r_X1_apply kind xx yy cmn cmf ctn ctf tn tf dpn dpf dpz).2.2.2.2.2))), (dh, .inr (0, [.ref dph, .ref dfh, .ref dca, .int dtr])), (dca, .inl (cyI, 160, .inl dcv)), (dph, .inr (6, [.int (nI 40), .ref dpa, .ref dpb, .int dpn])), (dpa, .inl (cyI, 40 * 24, .inl dpf)), (dpb, .inl (cyI, 40, .inl dpz)), (dfh, .inr (3, [.ref dfa, .ref dfsh])), (dfa, .inl (cyI, 100, .inl dff)), (dfsh, .inr (6, [.int (nI 20), .ref dfsa, .ref dfsb, .int dfsn])), (dfsa, .inl (cyI, 20 * 24, .inl dfsf)), (dfsb, .inl (cyI, 20, .inl dfsz)), (ch, .inr (1, [.ref cmh, .ref cth])), (cmh, .inr (4, [.ref cma, .int ((r_X1_apply kind xx yy cmn cmf ctn ctf tn tf dpn dpf dpz).1)])), (cma, .inl (cyI, 24, .inl ((r_X1_apply kind xx yy cmn cmf ctn ctf tn tf dpn dpf dpz).2.1))), (cth, .inr (4, [.ref cta, .int ((r_X1_apply kind xx yy cmn cmf ctn ctf tn tf dpn dpf dpz).2.2.1)])), (cta, .inl (cyI, 24, .inl ((r_X1_apply kind xx yy cmn cmf ctn ctf tn tf dpn dpf dpz).2.2.2.1)))]) cx (c_X1_apply l D cyI cyZ ch cmh cma cth cta th ta dph dpa dpb kind xx yy cmn cmf ctn ctf tn tf dpn dpf dpz) hP hD hS [13, 14, 15, 16, 17, 1, 2, 5, 6, 7] [(false, 0), (true, 5), (true, 6), (false, 3), (false, 4), (true, 7), (true, 8), (true, 9), (false, 8), (false, 9), (false, 10), (false, 11), (false, 12), (true, 0), (true, 1), (true, 2), (true, 3), (true, 4)] ⟨rfl, rfl, rfl⟩ rfl rfl mm_434 mm_435 mm_436 mm_203 mm_210 dd_X1_apply rfl hl.1 rfl dX8_change_59 rfl (fun H locs hP hD hS => ?_)
          obtain ⟨u_5, hu_5⟩ : ∃ z, z = r_X1_apply kind xx yy cmn cmf ctn ctf tn tf dpn dpf dpz := ⟨_, rfl⟩
          rw [← hu_5] at hP hD
          refine lv_aload_n hx hb dX8_change_62 rfl (lv_at hl 1 rfl) ?_
          refine ct_get (v := .ref th) cx hP 0 rfl rfl bwX8 1 rfl mm_367 rfl dX8_change_63 ?_
          refine ct_callV (As := []) (rest := []) (st1 := [.int u_5.2.2.2.2.1]) (V3 := [(h, .inr (8, [.ref ph, .ref th, .ref sh, .ref lh, .ref oh, .ref bh, .ref dh, .ref ch, .ref kh, .int rf])), (th, .inr (4, [.ref ta, .int u_5.2.2.2.2.1])), (ta, .inl (cyI, 24, .inl u_5.2.2.2.2.2)), (dh, .inr (0, [.ref dph, .ref dfh, .ref dca, .int dtr])), (dca, .inl (cyI, 160, .inl dcv)), (dph, .inr (6, [.int (nI 40), .ref dpa, .ref dpb, .int dpn])), (dpa, .inl (cyI, 40 * 24, .inl dpf)), (dpb, .inl (cyI, 40, .inl dpz)), (dfh, .inr (3, [.ref dfa, .ref dfsh])), (dfa, .inl (cyI, 100, .inl dff)), (dfsh, .inr (6, [.int (nI 20), .ref dfsa, .ref dfsb, .int dfsn])), (dfsa, .inl (cyI, 20 * 24, .inl dfsf)), (dfsb, .inl (cyI, 20, .inl dfsz)), (ch, .inr (1, [.ref cmh, .ref cth])), (cmh, .inr (4, [.ref cma, .int u_5.1])), (cma, .inl (cyI, 24, .inl u_5.2.1)), (cth, .inr (4, [.ref cta, .int u_5.2.2.1])), (cta, .inl (cyI, 24, .inl u_5.2.2.2.1))]) cx (c_X4_size l D cyI cyZ th ta u_5.2.2.2.2.1 u_5.2.2.2.2.2) hP hD hS [1, 2] [(false, 0), (true, 0), (true, 1), (false, 3), (false, 4), (false, 5), (false, 6), (false, 7), (false, 8), (false, 9), (false, 10), (false, 11), (false, 12), (false, 13), (false, 14), (false, 15), (false, 16), (false, 17)] ⟨rfl, rfl, rfl⟩ rfl rfl mm_416 mm_74 mm_75 mm_76 mm_68 dd_X4_size rfl hl.1 rfl dX8_change_66 rfl (fun H locs hP hD hS => ?_)
          rw [show r_X8_change_1 kind xx yy rf tn tf dcv dtr dpn dpf dpz dff dfsn dfsf dfsz cmn cmf ctn ctf = (u_5.2.2.2.2.1, u_5.2.2.2.2.1, u_5.2.2.2.2.2, u_5.1, u_5.2.1, u_5.2.2.1, u_5.2.2.2.1) from (by subst hu_5; exact (if_neg c_1).trans ((if_neg c_2).trans ((if_neg c_3).trans (if_neg c_4))))]
          dsimp only
          exact ct_iret cx hP hD hS dX8_change_69
        · skip
          refine lv_bipush (v := (-2 : Int32)) hx hb dX8_change_39 (by decide) ?_
          rw [show r_X8_change_1 kind xx yy rf tn tf dcv dtr dpn dpf dpz dff dfsn dfsf dfsz cmn cmf ctn ctf = ((-2 : Int32), tn, tf, cmn, cmf, ctn, ctf) from (if_neg c_1).trans ((if_neg c_2).trans ((if_neg c_3).trans (if_pos c_4)))]
          dsimp only
          exact ct_iret cx hP hD hS dX8_change_41
set_option maxHeartbeats 4000000 in
set_option maxRecDepth 100000 in
theorem c_X8_change_n (l : Launch) (D : va_G) (cyI cyZ : ClassId) (h : Nat) (ph : Nat) (th : Nat) (sh : Nat) (lh : Nat) (oh : Nat) (bh : Nat) (dh : Nat) (ch : Nat) (kh : Nat) (bi : Int32) (kind : Int32) (xx : Int32) (yy : Int32) (rf : Int32) (h0 : ¬ bi = (0 : Int32)) (h1 : ¬ bi = (1 : Int32)) : CT l D cyI cyZ yX8_change cX8_change 6 (some .int) ({ frames := 1, cells := 0, slots := 0, locals := 21 }) [.ref h, .int bi, .int kind, .int xx, .int yy] [(h, .inr (8, [.ref ph, .ref th, .ref sh, .ref lh, .ref oh, .ref bh, .ref dh, .ref ch, .ref kh, .int rf]))] (some (.int (-1 : Int32))) [(h, .inr (8, [.ref ph, .ref th, .ref sh, .ref lh, .ref oh, .ref bh, .ref dh, .ref ch, .ref kh, .int rf]))] := by
  refine ct_intro (by decide) (Nat.le_of_ble_eq_true rfl) ?_
  intro p e s m below meth c A ls cx hP hD hS hl
  obtain ⟨hx, hb, -⟩ := id cx
  refine lv_aload_n hx hb dX8_change_0 rfl (lv_at hl 0 rfl) ?_
  refine lv_iload_n hx hb dX8_change_1 rfl (lv_at hl 1 rfl) ?_
  refine ct_callV (As := [.int bi]) (rest := []) (st1 := [.null]) (V3 := [(h, .inr (8, [.ref ph, .ref th, .ref sh, .ref lh, .ref oh, .ref bh, .ref dh, .ref ch, .ref kh, .int rf]))]) cx (c_X8_benchOf_n l D cyI cyZ h ph th sh lh oh bh dh ch kh bi rf h0 h1) hP hD hS [0] [(true, 0)] ⟨rfl, rfl, rfl⟩ rfl rfl mm_425 mm_426 mm_427 mm_428 mm_422 dd_X8_benchOf rfl hl.1 rfl dX8_change_2 rfl (fun H locs hP hD hS => ?_)
  refine lv_astoreN (lv' := [(5, .null), (0, .ref h), (1, .int bi), (2, .int kind), (3, .int xx), (4, .int yy)]) hx hb dX8_change_5 hl (by decide) rfl (fun ls hl => ?_)
  refine lv_aloadN hx hb dX8_change_7 (lv_at hl 0 rfl) ?_
  refine lv_ifnonnullN hx hb dX8_change_9 ?_
  refine lv_iconst (v := (-1 : Int32)) hx hb dX8_change_12 (by decide) ?_
  exact ct_iret cx hP hD hS dX8_change_13
def r_X8_run (rf : Int32) (pn : Int32) (pf : Nat → Int32) (tn : Int32) (tf : Nat → Int32) (lg : Nat → Int32) (lF : Nat → Nat → Int32) : Int32 × (Nat → Int32) × (Nat → Nat → Int32) := let u_1 : (Nat → Int32) × (Nat → Nat → Int32) := r_X7_execute lg lF pn pf tn tf; ((u_1.1 5), u_1.1, u_1.2)
set_option maxHeartbeats 4000000 in
set_option maxRecDepth 100000 in
theorem c_X8_run (l : Launch) (D : va_G) (cyI cyZ : ClassId) (h : Nat) (ph : Nat) (pa : Nat) (th : Nat) (ta : Nat) (sh : Nat) (lh : Nat) (la0 : Nat) (la1 : Nat) (la2 : Nat) (la3 : Nat) (oh : Nat) (bh : Nat) (dh : Nat) (ch : Nat) (kh : Nat) (rf : Int32) (pn : Int32) (pf : Nat → Int32) (tn : Int32) (tf : Nat → Int32) (lg : Nat → Int32) (lF : Nat → Nat → Int32) (hn : pn ≤ 80) : CT l D cyI cyZ yX8_run cX8_run 1 (some .int) ({ frames := 3, cells := 0, slots := 0, locals := 73 }) [.ref h] [(h, .inr (8, [.ref ph, .ref th, .ref sh, .ref lh, .ref oh, .ref bh, .ref dh, .ref ch, .ref kh, .int rf])), (ph, .inr (5, [.ref pa, .int pn])), (pa, .inl (cyI, 320, .inl pf)), (th, .inr (4, [.ref ta, .int tn])), (ta, .inl (cyI, 24, .inl tf)), (lh, .inr (7, [.ref la0, .ref la1, .ref la2, .ref la3, .int (lg 4), .int (lg 5), .int (lg 6), .int (lg 7), .int (lg 8), .int (lg 9), .int (lg 10), .int (lg 11)])), (la0, .inl (cyI, 8, .inl (lF 0))), (la1, .inl (cyI, 16, .inl (lF 1))), (la2, .inl (cyI, 8, .inl (lF 2))), (la3, .inl (cyI, 160, .inl (lF 3)))] (some (.int ((r_X8_run rf pn pf tn tf lg lF).1))) [(h, .inr (8, [.ref ph, .ref th, .ref sh, .ref lh, .ref oh, .ref bh, .ref dh, .ref ch, .ref kh, .int rf])), (ph, .inr (5, [.ref pa, .int pn])), (pa, .inl (cyI, 320, .inl pf)), (th, .inr (4, [.ref ta, .int tn])), (ta, .inl (cyI, 24, .inl tf)), (lh, .inr (7, [.ref la0, .ref la1, .ref la2, .ref la3, .int (((r_X8_run rf pn pf tn tf lg lF).2.1) 4), .int (((r_X8_run rf pn pf tn tf lg lF).2.1) 5), .int (((r_X8_run rf pn pf tn tf lg lF).2.1) 6), .int (((r_X8_run rf pn pf tn tf lg lF).2.1) 7), .int (((r_X8_run rf pn pf tn tf lg lF).2.1) 8), .int (((r_X8_run rf pn pf tn tf lg lF).2.1) 9), .int (((r_X8_run rf pn pf tn tf lg lF).2.1) 10), .int (((r_X8_run rf pn pf tn tf lg lF).2.1) 11)])), (la0, .inl (cyI, 8, .inl (((r_X8_run rf pn pf tn tf lg lF).2.2) 0))), (la1, .inl (cyI, 16, .inl (((r_X8_run rf pn pf tn tf lg lF).2.2) 1))), (la2, .inl (cyI, 8, .inl (((r_X8_run rf pn pf tn tf lg lF).2.2) 2))), (la3, .inl (cyI, 160, .inl (((r_X8_run rf pn pf tn tf lg lF).2.2) 3)))] := by
  refine ct_intro (by decide) (Nat.le_of_ble_eq_true rfl) ?_
  intro p e s m below meth c A ls cx hP hD hS hl
  obtain ⟨hx, hb, -⟩ := id cx
  refine lv_aload_n hx hb dX8_run_0 rfl (lv_at hl 0 rfl) ?_
  refine ct_get (v := .ref lh) cx hP 0 rfl rfl bwX8 3 rfl mm_370 rfl dX8_run_1 ?_
  refine lv_aload_n hx hb dX8_run_4 rfl (lv_at hl 0 rfl) ?_
  refine ct_get (v := .ref ph) cx hP 0 rfl rfl bwX8 0 rfl mm_365 rfl dX8_run_5 ?_
  refine lv_aload_n hx hb dX8_run_8 rfl (lv_at hl 0 rfl) ?_
  refine ct_get (v := .ref th) cx hP 0 rfl rfl bwX8 1 rfl mm_367 rfl dX8_run_9 ?_
  refine ct_callV (As := [.ref ph, .ref th]) (rest := []) (st1 := []) (V3 := [(h, .inr (8, [.ref ph, .ref th, .ref sh, .ref lh, .ref oh, .ref bh, .ref dh, .ref ch, .ref kh, .int rf])), (ph, .inr (5, [.ref pa, .int pn])), (pa, .inl (cyI, 320, .inl pf)), (th, .inr (4, [.ref ta, .int tn])), (ta, .inl (cyI, 24, .inl tf)), (lh, .inr (7, [.ref la0, .ref la1, .ref la2, .ref la3, .int (((r_X7_execute lg lF pn pf tn tf).1) 4), .int (((r_X7_execute lg lF pn pf tn tf).1) 5), .int (((r_X7_execute lg lF pn pf tn tf).1) 6), .int (((r_X7_execute lg lF pn pf tn tf).1) 7), .int (((r_X7_execute lg lF pn pf tn tf).1) 8), .int (((r_X7_execute lg lF pn pf tn tf).1) 9), .int (((r_X7_execute lg lF pn pf tn tf).1) 10), .int (((r_X7_execute lg lF pn pf tn tf).1) 11)])), (la0, .inl (cyI, 8, .inl (((r_X7_execute lg lF pn pf tn tf).2) 0))), (la1, .inl (cyI, 16, .inl (((r_X7_execute lg lF pn pf tn tf).2) 1))), (la2, .inl (cyI, 8, .inl (((r_X7_execute lg lF pn pf tn tf).2) 2))), (la3, .inl (cyI, 160, .inl (((r_X7_execute lg lF pn pf tn tf).2) 3)))]) cx (c_X7_execute l D cyI cyZ lh la0 la1 la2 la3 ph pa th ta lg lF pn pf tn tf hn) hP hD hS [5, 6, 7, 8, 9, 1, 2, 3, 4] [(false, 0), (true, 5), (true, 6), (true, 7), (true, 8), (true, 0), (true, 1), (true, 2), (true, 3), (true, 4)] ⟨rfl, rfl, rfl⟩ rfl rfl mm_438 mm_306 mm_307 mm_42 mm_304 dd_X7_execute rfl hl.1 rfl dX8_run_12 rfl (fun H locs hP hD hS => ?_)
  obtain ⟨u_1, hu_1⟩ : ∃ z, z = r_X7_execute lg lF pn pf tn tf := ⟨_, rfl⟩
  rw [← hu_1] at hP hD
  refine lv_aload_n hx hb dX8_run_15 rfl (lv_at hl 0 rfl) ?_
  refine ct_get (v := .ref lh) cx hP 0 rfl rfl bwX8 3 rfl mm_370 rfl dX8_run_16 ?_
  refine ct_callV (As := []) (rest := []) (st1 := [.int (u_1.1 5)]) (V3 := [(h, .inr (8, [.ref ph, .ref th, .ref sh, .ref lh, .ref oh, .ref bh, .ref dh, .ref ch, .ref kh, .int rf])), (ph, .inr (5, [.ref pa, .int pn])), (pa, .inl (cyI, 320, .inl pf)), (th, .inr (4, [.ref ta, .int tn])), (ta, .inl (cyI, 24, .inl tf)), (lh, .inr (7, [.ref la0, .ref la1, .ref la2, .ref la3, .int (u_1.1 4), .int (u_1.1 5), .int (u_1.1 6), .int (u_1.1 7), .int (u_1.1 8), .int (u_1.1 9), .int (u_1.1 10), .int (u_1.1 11)])), (la0, .inl (cyI, 8, .inl (u_1.2 0))), (la1, .inl (cyI, 16, .inl (u_1.2 1))), (la2, .inl (cyI, 8, .inl (u_1.2 2))), (la3, .inl (cyI, 160, .inl (u_1.2 3)))]) cx (c_X7_kind l D cyI cyZ lh la0 la1 la2 la3 u_1.1 u_1.2) hP hD hS [5, 6, 7, 8, 9] [(false, 0), (false, 1), (false, 2), (false, 3), (false, 4), (true, 0), (true, 1), (true, 2), (true, 3), (true, 4)] ⟨rfl, rfl, rfl⟩ rfl rfl mm_439 mm_97 mm_98 mm_42 mm_80 dd_X7_kind rfl hl.1 rfl dX8_run_19 rfl (fun H locs hP hD hS => ?_)
  rw [show r_X8_run rf pn pf tn tf lg lF = ((u_1.1 5), u_1.1, u_1.2) from (by subst hu_1; exact rfl)]
  dsimp only
  exact ct_iret cx hP hD hS dX8_run_22
def r_X8_told (what : Int32) (rf : Int32) (lg : Nat → Int32) (lF : Nat → Nat → Int32) : Int32 := if what = (0 : Int32) then (lg 5) else if what = (1 : Int32) then (lg 6) else if what = (2 : Int32) then (lg 4) else if what = (3 : Int32) then (lg 7) else if what = (4 : Int32) then r_X7_branchesReached lg lF else (-1 : Int32)
set_option maxHeartbeats 4000000 in
set_option maxRecDepth 100000 in
theorem c_X8_told (l : Launch) (D : va_G) (cyI cyZ : ClassId) (h : Nat) (ph : Nat) (th : Nat) (sh : Nat) (lh : Nat) (la0 : Nat) (la1 : Nat) (la2 : Nat) (la3 : Nat) (oh : Nat) (bh : Nat) (dh : Nat) (ch : Nat) (kh : Nat) (what : Int32) (rf : Int32) (lg : Nat → Int32) (lF : Nat → Nat → Int32)  : CT l D cyI cyZ yX8_told cX8_told 2 (some .int) ({ frames := 1, cells := 0, slots := 0, locals := 22 }) [.ref h, .int what] [(h, .inr (8, [.ref ph, .ref th, .ref sh, .ref lh, .ref oh, .ref bh, .ref dh, .ref ch, .ref kh, .int rf])), (lh, .inr (7, [.ref la0, .ref la1, .ref la2, .ref la3, .int (lg 4), .int (lg 5), .int (lg 6), .int (lg 7), .int (lg 8), .int (lg 9), .int (lg 10), .int (lg 11)])), (la0, .inl (cyI, 8, .inl (lF 0))), (la1, .inl (cyI, 16, .inl (lF 1))), (la2, .inl (cyI, 8, .inl (lF 2))), (la3, .inl (cyI, 160, .inl (lF 3)))] (some (.int (r_X8_told what rf lg lF))) [(h, .inr (8, [.ref ph, .ref th, .ref sh, .ref lh, .ref oh, .ref bh, .ref dh, .ref ch, .ref kh, .int rf])), (lh, .inr (7, [.ref la0, .ref la1, .ref la2, .ref la3, .int (lg 4), .int (lg 5), .int (lg 6), .int (lg 7), .int (lg 8), .int (lg 9), .int (lg 10), .int (lg 11)])), (la0, .inl (cyI, 8, .inl (lF 0))), (la1, .inl (cyI, 16, .inl (lF 1))), (la2, .inl (cyI, 8, .inl (lF 2))), (la3, .inl (cyI, 160, .inl (lF 3)))] := by
  refine ct_intro (by decide) (Nat.le_of_ble_eq_true rfl) ?_
  intro p e s m below meth c A ls cx hP hD hS hl
  obtain ⟨hx, hb, -⟩ := id cx
  refine lv_iload_n hx hb dX8_told_0 rfl (lv_at hl 1 rfl) ?_
  by_cases c_1 : what = (0 : Int32)
  · refine lv_tableIn (off := 35) (tgt := 36) hx hb dX8_told_1 (by rw [c_1]; decide) (by rw [c_1]; decide) (by rw [c_1]; rfl) (by decide) ?_
    refine lv_aload_n hx hb dX8_told_36 rfl (lv_at hl 0 rfl) ?_
    refine ct_get (v := .ref lh) cx hP 0 rfl rfl bwX8 3 rfl mm_370 rfl dX8_told_37 ?_
    refine ct_callV (As := []) (rest := []) (st1 := [.int (lg 5)]) (V3 := [(h, .inr (8, [.ref ph, .ref th, .ref sh, .ref lh, .ref oh, .ref bh, .ref dh, .ref ch, .ref kh, .int rf])), (lh, .inr (7, [.ref la0, .ref la1, .ref la2, .ref la3, .int (lg 4), .int (lg 5), .int (lg 6), .int (lg 7), .int (lg 8), .int (lg 9), .int (lg 10), .int (lg 11)])), (la0, .inl (cyI, 8, .inl (lF 0))), (la1, .inl (cyI, 16, .inl (lF 1))), (la2, .inl (cyI, 8, .inl (lF 2))), (la3, .inl (cyI, 160, .inl (lF 3)))]) cx (c_X7_kind l D cyI cyZ lh la0 la1 la2 la3 lg lF) hP hD hS [1, 2, 3, 4, 5] [(false, 0), (true, 0), (true, 1), (true, 2), (true, 3), (true, 4)] ⟨rfl, rfl, rfl⟩ rfl rfl mm_439 mm_97 mm_98 mm_42 mm_80 dd_X7_kind rfl hl.1 rfl dX8_told_40 rfl (fun H locs hP hD hS => ?_)
    rw [show r_X8_told what rf lg lF = (lg 5) from if_pos c_1]
    exact ct_iret cx hP hD hS dX8_told_43
  · skip
    by_cases c_2 : what = (1 : Int32)
    · refine lv_tableIn (off := 43) (tgt := 44) hx hb dX8_told_1 (by rw [c_2]; decide) (by rw [c_2]; decide) (by rw [c_2]; rfl) (by decide) ?_
      refine lv_aload_n hx hb dX8_told_44 rfl (lv_at hl 0 rfl) ?_
      refine ct_get (v := .ref lh) cx hP 0 rfl rfl bwX8 3 rfl mm_370 rfl dX8_told_45 ?_
      refine ct_callV (As := []) (rest := []) (st1 := [.int (lg 6)]) (V3 := [(h, .inr (8, [.ref ph, .ref th, .ref sh, .ref lh, .ref oh, .ref bh, .ref dh, .ref ch, .ref kh, .int rf])), (lh, .inr (7, [.ref la0, .ref la1, .ref la2, .ref la3, .int (lg 4), .int (lg 5), .int (lg 6), .int (lg 7), .int (lg 8), .int (lg 9), .int (lg 10), .int (lg 11)])), (la0, .inl (cyI, 8, .inl (lF 0))), (la1, .inl (cyI, 16, .inl (lF 1))), (la2, .inl (cyI, 8, .inl (lF 2))), (la3, .inl (cyI, 160, .inl (lF 3)))]) cx (c_X7_place l D cyI cyZ lh la0 la1 la2 la3 lg lF) hP hD hS [1, 2, 3, 4, 5] [(false, 0), (true, 0), (true, 1), (true, 2), (true, 3), (true, 4)] ⟨rfl, rfl, rfl⟩ rfl rfl mm_441 mm_100 mm_101 mm_42 mm_88 dd_X7_place rfl hl.1 rfl dX8_told_48 rfl (fun H locs hP hD hS => ?_)
      rw [show r_X8_told what rf lg lF = (lg 6) from (if_neg c_1).trans (if_pos c_2)]
      exact ct_iret cx hP hD hS dX8_told_51
    · skip
      by_cases c_3 : what = (2 : Int32)
      · refine lv_tableIn (off := 51) (tgt := 52) hx hb dX8_told_1 (by rw [c_3]; decide) (by rw [c_3]; decide) (by rw [c_3]; rfl) (by decide) ?_
        refine lv_aload_n hx hb dX8_told_52 rfl (lv_at hl 0 rfl) ?_
        refine ct_get (v := .ref lh) cx hP 0 rfl rfl bwX8 3 rfl mm_370 rfl dX8_told_53 ?_
        refine ct_callV (As := []) (rest := []) (st1 := [.int (lg 4)]) (V3 := [(h, .inr (8, [.ref ph, .ref th, .ref sh, .ref lh, .ref oh, .ref bh, .ref dh, .ref ch, .ref kh, .int rf])), (lh, .inr (7, [.ref la0, .ref la1, .ref la2, .ref la3, .int (lg 4), .int (lg 5), .int (lg 6), .int (lg 7), .int (lg 8), .int (lg 9), .int (lg 10), .int (lg 11)])), (la0, .inl (cyI, 8, .inl (lF 0))), (la1, .inl (cyI, 16, .inl (lF 1))), (la2, .inl (cyI, 8, .inl (lF 2))), (la3, .inl (cyI, 160, .inl (lF 3)))]) cx (c_X7_depth l D cyI cyZ lh la0 la1 la2 la3 lg lF) hP hD hS [1, 2, 3, 4, 5] [(false, 0), (true, 0), (true, 1), (true, 2), (true, 3), (true, 4)] ⟨rfl, rfl, rfl⟩ rfl rfl mm_442 mm_443 mm_444 mm_42 mm_359 dd_X7_depth rfl hl.1 rfl dX8_told_56 rfl (fun H locs hP hD hS => ?_)
        rw [show r_X8_told what rf lg lF = (lg 4) from (if_neg c_1).trans ((if_neg c_2).trans (if_pos c_3))]
        exact ct_iret cx hP hD hS dX8_told_59
      · skip
        by_cases c_4 : what = (3 : Int32)
        · refine lv_tableIn (off := 59) (tgt := 60) hx hb dX8_told_1 (by rw [c_4]; decide) (by rw [c_4]; decide) (by rw [c_4]; rfl) (by decide) ?_
          refine lv_aload_n hx hb dX8_told_60 rfl (lv_at hl 0 rfl) ?_
          refine ct_get (v := .ref lh) cx hP 0 rfl rfl bwX8 3 rfl mm_370 rfl dX8_told_61 ?_
          refine ct_callV (As := []) (rest := []) (st1 := [.int (lg 7)]) (V3 := [(h, .inr (8, [.ref ph, .ref th, .ref sh, .ref lh, .ref oh, .ref bh, .ref dh, .ref ch, .ref kh, .int rf])), (lh, .inr (7, [.ref la0, .ref la1, .ref la2, .ref la3, .int (lg 4), .int (lg 5), .int (lg 6), .int (lg 7), .int (lg 8), .int (lg 9), .int (lg 10), .int (lg 11)])), (la0, .inl (cyI, 8, .inl (lF 0))), (la1, .inl (cyI, 16, .inl (lF 1))), (la2, .inl (cyI, 8, .inl (lF 2))), (la3, .inl (cyI, 160, .inl (lF 3)))]) cx (c_X7_steps l D cyI cyZ lh la0 la1 la2 la3 lg lF) hP hD hS [1, 2, 3, 4, 5] [(false, 0), (true, 0), (true, 1), (true, 2), (true, 3), (true, 4)] ⟨rfl, rfl, rfl⟩ rfl rfl mm_445 mm_446 mm_447 mm_42 mm_360 dd_X7_steps rfl hl.1 rfl dX8_told_64 rfl (fun H locs hP hD hS => ?_)
          rw [show r_X8_told what rf lg lF = (lg 7) from (if_neg c_1).trans ((if_neg c_2).trans ((if_neg c_3).trans (if_pos c_4)))]
          exact ct_iret cx hP hD hS dX8_told_67
        · skip
          by_cases c_5 : what = (4 : Int32)
          · refine lv_tableIn (off := 67) (tgt := 68) hx hb dX8_told_1 (by rw [c_5]; decide) (by rw [c_5]; decide) (by rw [c_5]; rfl) (by decide) ?_
            refine lv_aload_n hx hb dX8_told_68 rfl (lv_at hl 0 rfl) ?_
            refine ct_get (v := .ref lh) cx hP 0 rfl rfl bwX8 3 rfl mm_370 rfl dX8_told_69 ?_
            refine ct_callV (As := []) (rest := []) (st1 := [.int (r_X7_branchesReached lg lF)]) (V3 := [(h, .inr (8, [.ref ph, .ref th, .ref sh, .ref lh, .ref oh, .ref bh, .ref dh, .ref ch, .ref kh, .int rf])), (lh, .inr (7, [.ref la0, .ref la1, .ref la2, .ref la3, .int (lg 4), .int (lg 5), .int (lg 6), .int (lg 7), .int (lg 8), .int (lg 9), .int (lg 10), .int (lg 11)])), (la0, .inl (cyI, 8, .inl (lF 0))), (la1, .inl (cyI, 16, .inl (lF 1))), (la2, .inl (cyI, 8, .inl (lF 2))), (la3, .inl (cyI, 160, .inl (lF 3)))]) cx (c_X7_branchesReached l D cyI cyZ lh la0 la1 la2 la3 lg lF) hP hD hS [1, 2, 3, 4, 5] [(false, 0), (true, 0), (true, 1), (true, 2), (true, 3), (true, 4)] ⟨rfl, rfl, rfl⟩ rfl rfl mm_448 mm_449 mm_450 mm_42 mm_361 dd_X7_branchesReached rfl hl.1 rfl dX8_told_72 rfl (fun H locs hP hD hS => ?_)
            rw [show r_X8_told what rf lg lF = r_X7_branchesReached lg lF from (if_neg c_1).trans ((if_neg c_2).trans ((if_neg c_3).trans ((if_neg c_4).trans (if_pos c_5))))]
            exact ct_iret cx hP hD hS dX8_told_75
          · skip
            have t_0 := lv_neT (a := 0) c_1 rfl
            have t_1 := lv_neT (a := 1) c_2 rfl
            have t_2 := lv_neT (a := 2) c_3 rfl
            have t_3 := lv_neT (a := 3) c_4 rfl
            have t_4 := lv_neT (a := 4) c_5 rfl
            refine lv_tableOut (tgt := 76) hx hb dX8_told_1 (by omega) (by decide) ?_
            refine lv_iconst (v := (-1 : Int32)) hx hb dX8_told_76 (by decide) ?_
            rw [show r_X8_told what rf lg lF = (-1 : Int32) from (if_neg c_1).trans ((if_neg c_2).trans ((if_neg c_3).trans ((if_neg c_4).trans (if_neg c_5))))]
            exact ct_iret cx hP hD hS dX8_told_77
set_option maxHeartbeats 4000000 in
set_option maxRecDepth 100000 in
theorem c_X8_called (l : Launch) (D : va_G) (cyI cyZ : ClassId) (h : Nat) (ph : Nat) (th : Nat) (sh : Nat) (lh : Nat) (la0 : Nat) (la1 : Nat) (la2 : Nat) (la3 : Nat) (oh : Nat) (bh : Nat) (dh : Nat) (ch : Nat) (kh : Nat) (i0 : Int32) (rf : Int32) (lg : Nat → Int32) (lF : Nat → Nat → Int32)  : CT l D cyI cyZ yX8_called cX8_called 2 (some .int) ({ frames := 1, cells := 0, slots := 0, locals := 21 }) [.ref h, .int i0] [(h, .inr (8, [.ref ph, .ref th, .ref sh, .ref lh, .ref oh, .ref bh, .ref dh, .ref ch, .ref kh, .int rf])), (lh, .inr (7, [.ref la0, .ref la1, .ref la2, .ref la3, .int (lg 4), .int (lg 5), .int (lg 6), .int (lg 7), .int (lg 8), .int (lg 9), .int (lg 10), .int (lg 11)])), (la0, .inl (cyI, 8, .inl (lF 0))), (la1, .inl (cyI, 16, .inl (lF 1))), (la2, .inl (cyI, 8, .inl (lF 2))), (la3, .inl (cyI, 160, .inl (lF 3)))] (some (.int (r_X7_openCall i0 lg lF))) [(h, .inr (8, [.ref ph, .ref th, .ref sh, .ref lh, .ref oh, .ref bh, .ref dh, .ref ch, .ref kh, .int rf])), (lh, .inr (7, [.ref la0, .ref la1, .ref la2, .ref la3, .int (lg 4), .int (lg 5), .int (lg 6), .int (lg 7), .int (lg 8), .int (lg 9), .int (lg 10), .int (lg 11)])), (la0, .inl (cyI, 8, .inl (lF 0))), (la1, .inl (cyI, 16, .inl (lF 1))), (la2, .inl (cyI, 8, .inl (lF 2))), (la3, .inl (cyI, 160, .inl (lF 3)))] := by
  refine ct_intro (by decide) (Nat.le_of_ble_eq_true rfl) ?_
  intro p e s m below meth c A ls cx hP hD hS hl
  obtain ⟨hx, hb, -⟩ := id cx
  refine lv_aload_n hx hb dX8_called_0 rfl (lv_at hl 0 rfl) ?_
  refine ct_get (v := .ref lh) cx hP 0 rfl rfl bwX8 3 rfl mm_370 rfl dX8_called_1 ?_
  refine lv_iload_n hx hb dX8_called_4 rfl (lv_at hl 1 rfl) ?_
  refine ct_callV (As := [.int i0]) (rest := []) (st1 := [.int (r_X7_openCall i0 lg lF)]) (V3 := [(h, .inr (8, [.ref ph, .ref th, .ref sh, .ref lh, .ref oh, .ref bh, .ref dh, .ref ch, .ref kh, .int rf])), (lh, .inr (7, [.ref la0, .ref la1, .ref la2, .ref la3, .int (lg 4), .int (lg 5), .int (lg 6), .int (lg 7), .int (lg 8), .int (lg 9), .int (lg 10), .int (lg 11)])), (la0, .inl (cyI, 8, .inl (lF 0))), (la1, .inl (cyI, 16, .inl (lF 1))), (la2, .inl (cyI, 8, .inl (lF 2))), (la3, .inl (cyI, 160, .inl (lF 3)))]) cx (c_X7_openCall l D cyI cyZ lh la0 la1 la2 la3 i0 lg lF) hP hD hS [1, 2, 3, 4, 5] [(false, 0), (true, 0), (true, 1), (true, 2), (true, 3), (true, 4)] ⟨rfl, rfl, rfl⟩ rfl rfl mm_453 mm_103 mm_104 mm_42 mm_90 dd_X7_openCall rfl hl.1 rfl dX8_called_5 rfl (fun H locs hP hD hS => ?_)
  exact ct_iret cx hP hD hS dX8_called_8
def r_X8_register (r0 : Int32) (rf : Int32) (lg : Nat → Int32) (lF : Nat → Nat → Int32) : Int32 × Int32 := if (r_X7_isRegister r0) = (0 : Int32) then ((-1 : Int32), (-1 : Int32)) else (r_X7_value r0 lg lF, (0 : Int32))
set_option maxHeartbeats 4000000 in
set_option maxRecDepth 100000 in
theorem c_X8_register (l : Launch) (D : va_G) (cyI cyZ : ClassId) (h : Nat) (ph : Nat) (th : Nat) (sh : Nat) (lh : Nat) (la0 : Nat) (la1 : Nat) (la2 : Nat) (la3 : Nat) (oh : Nat) (bh : Nat) (dh : Nat) (ch : Nat) (kh : Nat) (r0 : Int32) (rf : Int32) (lg : Nat → Int32) (lF : Nat → Nat → Int32)  : CT l D cyI cyZ yX8_register cX8_register 3 (some .int) ({ frames := 1, cells := 0, slots := 0, locals := 21 }) [.ref h, .int r0] [(h, .inr (8, [.ref ph, .ref th, .ref sh, .ref lh, .ref oh, .ref bh, .ref dh, .ref ch, .ref kh, .int rf])), (lh, .inr (7, [.ref la0, .ref la1, .ref la2, .ref la3, .int (lg 4), .int (lg 5), .int (lg 6), .int (lg 7), .int (lg 8), .int (lg 9), .int (lg 10), .int (lg 11)])), (la0, .inl (cyI, 8, .inl (lF 0))), (la1, .inl (cyI, 16, .inl (lF 1))), (la2, .inl (cyI, 8, .inl (lF 2))), (la3, .inl (cyI, 160, .inl (lF 3)))] (some (.int ((r_X8_register r0 rf lg lF).1))) [(h, .inr (8, [.ref ph, .ref th, .ref sh, .ref lh, .ref oh, .ref bh, .ref dh, .ref ch, .ref kh, .int ((r_X8_register r0 rf lg lF).2)])), (lh, .inr (7, [.ref la0, .ref la1, .ref la2, .ref la3, .int (lg 4), .int (lg 5), .int (lg 6), .int (lg 7), .int (lg 8), .int (lg 9), .int (lg 10), .int (lg 11)])), (la0, .inl (cyI, 8, .inl (lF 0))), (la1, .inl (cyI, 16, .inl (lF 1))), (la2, .inl (cyI, 8, .inl (lF 2))), (la3, .inl (cyI, 160, .inl (lF 3)))] := by
  refine ct_intro (by decide) (Nat.le_of_ble_eq_true rfl) ?_
  intro p e s m below meth c A ls cx hP hD hS hl
  obtain ⟨hx, hb, -⟩ := id cx
  refine lv_iload_n hx hb dX8_register_0 rfl (lv_at hl 1 rfl) ?_
  refine ct_callS (As := [.int r0]) (rest := []) (st1 := [.int (r_X7_isRegister r0)]) (V3 := [(h, .inr (8, [.ref ph, .ref th, .ref sh, .ref lh, .ref oh, .ref bh, .ref dh, .ref ch, .ref kh, .int rf])), (lh, .inr (7, [.ref la0, .ref la1, .ref la2, .ref la3, .int (lg 4), .int (lg 5), .int (lg 6), .int (lg 7), .int (lg 8), .int (lg 9), .int (lg 10), .int (lg 11)])), (la0, .inl (cyI, 8, .inl (lF 0))), (la1, .inl (cyI, 16, .inl (lF 1))), (la2, .inl (cyI, 8, .inl (lF 2))), (la3, .inl (cyI, 160, .inl (lF 3)))]) cx (c_X7_isRegister l D cyI cyZ r0) hP hD hS [] [(false, 0), (false, 1), (false, 2), (false, 3), (false, 4), (false, 5)] ⟨rfl, rfl, rfl⟩ mm_455 mm_456 mm_42 mm_358 dd_X7_isRegister rfl hl.1 rfl dX8_register_1 rfl (fun H locs hP hD hS => ?_)
  refine lv_istore_n (lv' := [(2, .int (r_X7_isRegister r0)), (0, .ref h), (1, .int r0)]) hx hb dX8_register_4 rfl hl (by decide) rfl (fun ls hl => ?_)
  refine lv_aload_n hx hb dX8_register_5 rfl (lv_at hl 1 rfl) ?_
  refine lv_iload_n hx hb dX8_register_6 rfl (lv_at hl 0 rfl) ?_
  refine lv_if_eq (tgt := 14) hx hb dX8_register_7 (by decide) (fun c_1 => ?_) (fun c_1 => ?_)
  · skip
    refine lv_iconst (v := (-1 : Int32)) hx hb dX8_register_14 (by decide) ?_
    refine ct_put (V3 := [(h, .inr (8, [.ref ph, .ref th, .ref sh, .ref lh, .ref oh, .ref bh, .ref dh, .ref ch, .ref kh, .int (-1 : Int32)])), (lh, .inr (7, [.ref la0, .ref la1, .ref la2, .ref la3, .int (lg 4), .int (lg 5), .int (lg 6), .int (lg 7), .int (lg 8), .int (lg 9), .int (lg 10), .int (lg 11)])), (la0, .inl (cyI, 8, .inl (lF 0))), (la1, .inl (cyI, 16, .inl (lF 1))), (la2, .inl (cyI, 8, .inl (lF 2))), (la3, .inl (cyI, 160, .inl (lF 3)))]) cx hP hD hS 0 rfl rfl bwX8 tyX8_ok nmX8 9 rfl mm_382 rfl rfl rfl rfl dX8_register_15 rfl (fun H locs hP hD hS => ?_)
    refine lv_iload_n hx hb dX8_register_18 rfl (lv_at hl 0 rfl) ?_
    refine lv_if_eq (tgt := 33) hx hb dX8_register_19 (by decide) (fun c_2 => ?_) (fun c_2 => ?_)
    · skip
      refine lv_iconst (v := (-1 : Int32)) hx hb dX8_register_33 (by decide) ?_
      rw [show r_X8_register r0 rf lg lF = ((-1 : Int32), (-1 : Int32)) from if_pos c_1]
      dsimp only
      exact ct_iret cx hP hD hS dX8_register_34
    · exact absurd c_2 (fun k => k c_1)
  · skip
    refine lv_iconst (v := (0 : Int32)) hx hb dX8_register_10 (by decide) ?_
    refine lv_goto (tgt := 15) hx hb dX8_register_11 (by decide) ?_
    refine ct_put (V3 := [(h, .inr (8, [.ref ph, .ref th, .ref sh, .ref lh, .ref oh, .ref bh, .ref dh, .ref ch, .ref kh, .int (0 : Int32)])), (lh, .inr (7, [.ref la0, .ref la1, .ref la2, .ref la3, .int (lg 4), .int (lg 5), .int (lg 6), .int (lg 7), .int (lg 8), .int (lg 9), .int (lg 10), .int (lg 11)])), (la0, .inl (cyI, 8, .inl (lF 0))), (la1, .inl (cyI, 16, .inl (lF 1))), (la2, .inl (cyI, 8, .inl (lF 2))), (la3, .inl (cyI, 160, .inl (lF 3)))]) cx hP hD hS 0 rfl rfl bwX8 tyX8_ok nmX8 9 rfl mm_382 rfl rfl rfl rfl dX8_register_15 rfl (fun H locs hP hD hS => ?_)
    refine lv_iload_n hx hb dX8_register_18 rfl (lv_at hl 0 rfl) ?_
    refine lv_if_eq (tgt := 33) hx hb dX8_register_19 (by decide) (fun c_3 => ?_) (fun c_3 => ?_)
    · exact absurd c_3 c_1
    · skip
      refine lv_aload_n hx hb dX8_register_22 rfl (lv_at hl 1 rfl) ?_
      refine ct_get (v := .ref lh) cx hP 0 rfl rfl bwX8 3 rfl mm_370 rfl dX8_register_23 ?_
      refine lv_iload_n hx hb dX8_register_26 rfl (lv_at hl 2 rfl) ?_
      refine ct_callV (As := [.int r0]) (rest := []) (st1 := [.int (r_X7_value r0 lg lF)]) (V3 := [(h, .inr (8, [.ref ph, .ref th, .ref sh, .ref lh, .ref oh, .ref bh, .ref dh, .ref ch, .ref kh, .int (0 : Int32)])), (lh, .inr (7, [.ref la0, .ref la1, .ref la2, .ref la3, .int (lg 4), .int (lg 5), .int (lg 6), .int (lg 7), .int (lg 8), .int (lg 9), .int (lg 10), .int (lg 11)])), (la0, .inl (cyI, 8, .inl (lF 0))), (la1, .inl (cyI, 16, .inl (lF 1))), (la2, .inl (cyI, 8, .inl (lF 2))), (la3, .inl (cyI, 160, .inl (lF 3)))]) cx (c_X7_value l D cyI cyZ lh la0 la1 la2 la3 r0 lg lF) hP hD hS [1, 2, 3, 4, 5] [(false, 0), (true, 0), (true, 1), (true, 2), (true, 3), (true, 4)] ⟨rfl, rfl, rfl⟩ rfl rfl mm_457 mm_253 mm_254 mm_42 mm_248 dd_X7_value rfl hl.1 rfl dX8_register_27 rfl (fun H locs hP hD hS => ?_)
      refine lv_goto (tgt := 34) hx hb dX8_register_30 (by decide) ?_
      rw [show r_X8_register r0 rf lg lF = (r_X7_value r0 lg lF, (0 : Int32)) from if_neg c_1]
      dsimp only
      exact ct_iret cx hP hD hS dX8_register_34
def r_X8_turns (br : Int32) (rf : Int32) (lg : Nat → Int32) (lF : Nat → Nat → Int32) : Int32 := if (r_X7_isBranch br) = (0 : Int32) then (-1 : Int32) else r_X7_turnsOf br lg lF
set_option maxHeartbeats 4000000 in
set_option maxRecDepth 100000 in
theorem c_X8_turns (l : Launch) (D : va_G) (cyI cyZ : ClassId) (h : Nat) (ph : Nat) (th : Nat) (sh : Nat) (lh : Nat) (la0 : Nat) (la1 : Nat) (la2 : Nat) (la3 : Nat) (oh : Nat) (bh : Nat) (dh : Nat) (ch : Nat) (kh : Nat) (br : Int32) (rf : Int32) (lg : Nat → Int32) (lF : Nat → Nat → Int32)  : CT l D cyI cyZ yX8_turns cX8_turns 2 (some .int) ({ frames := 2, cells := 0, slots := 0, locals := 41 }) [.ref h, .int br] [(h, .inr (8, [.ref ph, .ref th, .ref sh, .ref lh, .ref oh, .ref bh, .ref dh, .ref ch, .ref kh, .int rf])), (lh, .inr (7, [.ref la0, .ref la1, .ref la2, .ref la3, .int (lg 4), .int (lg 5), .int (lg 6), .int (lg 7), .int (lg 8), .int (lg 9), .int (lg 10), .int (lg 11)])), (la0, .inl (cyI, 8, .inl (lF 0))), (la1, .inl (cyI, 16, .inl (lF 1))), (la2, .inl (cyI, 8, .inl (lF 2))), (la3, .inl (cyI, 160, .inl (lF 3)))] (some (.int (r_X8_turns br rf lg lF))) [(h, .inr (8, [.ref ph, .ref th, .ref sh, .ref lh, .ref oh, .ref bh, .ref dh, .ref ch, .ref kh, .int rf])), (lh, .inr (7, [.ref la0, .ref la1, .ref la2, .ref la3, .int (lg 4), .int (lg 5), .int (lg 6), .int (lg 7), .int (lg 8), .int (lg 9), .int (lg 10), .int (lg 11)])), (la0, .inl (cyI, 8, .inl (lF 0))), (la1, .inl (cyI, 16, .inl (lF 1))), (la2, .inl (cyI, 8, .inl (lF 2))), (la3, .inl (cyI, 160, .inl (lF 3)))] := by
  refine ct_intro (by decide) (Nat.le_of_ble_eq_true rfl) ?_
  intro p e s m below meth c A ls cx hP hD hS hl
  obtain ⟨hx, hb, -⟩ := id cx
  refine lv_iload_n hx hb dX8_turns_0 rfl (lv_at hl 1 rfl) ?_
  refine ct_callS (As := [.int br]) (rest := []) (st1 := [.int (r_X7_isBranch br)]) (V3 := [(h, .inr (8, [.ref ph, .ref th, .ref sh, .ref lh, .ref oh, .ref bh, .ref dh, .ref ch, .ref kh, .int rf])), (lh, .inr (7, [.ref la0, .ref la1, .ref la2, .ref la3, .int (lg 4), .int (lg 5), .int (lg 6), .int (lg 7), .int (lg 8), .int (lg 9), .int (lg 10), .int (lg 11)])), (la0, .inl (cyI, 8, .inl (lF 0))), (la1, .inl (cyI, 16, .inl (lF 1))), (la2, .inl (cyI, 8, .inl (lF 2))), (la3, .inl (cyI, 160, .inl (lF 3)))]) cx (c_X7_isBranch l D cyI cyZ br) hP hD hS [] [(false, 0), (false, 1), (false, 2), (false, 3), (false, 4), (false, 5)] ⟨rfl, rfl, rfl⟩ mm_459 mm_41 mm_42 mm_38 dd_X7_isBranch rfl hl.1 rfl dX8_turns_1 rfl (fun H locs hP hD hS => ?_)
  refine lv_if_eq (tgt := 18) hx hb dX8_turns_4 (by decide) (fun c_1 => ?_) (fun c_1 => ?_)
  · skip
    refine lv_iconst (v := (-1 : Int32)) hx hb dX8_turns_18 (by decide) ?_
    rw [show r_X8_turns br rf lg lF = (-1 : Int32) from if_pos c_1]
    exact ct_iret cx hP hD hS dX8_turns_19
  · skip
    refine lv_aload_n hx hb dX8_turns_7 rfl (lv_at hl 0 rfl) ?_
    refine ct_get (v := .ref lh) cx hP 0 rfl rfl bwX8 3 rfl mm_370 rfl dX8_turns_8 ?_
    refine lv_iload_n hx hb dX8_turns_11 rfl (lv_at hl 1 rfl) ?_
    refine ct_callV (As := [.int br]) (rest := []) (st1 := [.int (r_X7_turnsOf br lg lF)]) (V3 := [(h, .inr (8, [.ref ph, .ref th, .ref sh, .ref lh, .ref oh, .ref bh, .ref dh, .ref ch, .ref kh, .int rf])), (lh, .inr (7, [.ref la0, .ref la1, .ref la2, .ref la3, .int (lg 4), .int (lg 5), .int (lg 6), .int (lg 7), .int (lg 8), .int (lg 9), .int (lg 10), .int (lg 11)])), (la0, .inl (cyI, 8, .inl (lF 0))), (la1, .inl (cyI, 16, .inl (lF 1))), (la2, .inl (cyI, 8, .inl (lF 2))), (la3, .inl (cyI, 160, .inl (lF 3)))]) cx (c_X7_turnsOf l D cyI cyZ lh la0 la1 la2 la3 br lg lF) hP hD hS [1, 2, 3, 4, 5] [(false, 0), (true, 0), (true, 1), (true, 2), (true, 3), (true, 4)] ⟨rfl, rfl, rfl⟩ rfl rfl mm_460 mm_61 mm_62 mm_42 mm_55 dd_X7_turnsOf rfl hl.1 rfl dX8_turns_12 rfl (fun H locs hP hD hS => ?_)
    refine lv_goto (tgt := 19) hx hb dX8_turns_15 (by decide) ?_
    rw [show r_X8_turns br rf lg lF = r_X7_turnsOf br lg lF from if_neg c_1]
    exact ct_iret cx hP hD hS dX8_turns_19
