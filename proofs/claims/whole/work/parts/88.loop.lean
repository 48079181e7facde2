/-! THE CLAIM OUT OF ONE WALK OF THE LAW'S BODY. Your part is whole_start (and what it stands on); all else here is the same for every law, but numbers. -/
def R_law : String := "ShrinkBenchLaw"
def lw_P (b : Addr) (xs : List Int32) (args : Array Value) (s : State) : Prop := args = #[.ref b] ∧ s.IntsAt b xs ∧ xs.length ≤ 2560 ∧ (Jvm.Cond.and given_1 narrow_1).before args s = true
def lw_Q (_ : Array Value) (s : State) (o : Outcome) (t : State) : Prop := o = .returned (some (.int 1)) ∧ Framed s o t [] 600000 7302250
def lw_Z (below : List Frame) (a : Array Value) (s : State) : State → Prop := fun t => ∃ o, t.status = .running ∧ Ended t below o ∧ lw_Q a s o t
/-- the law's own end, with 1 on the stack, nothing written that was there before, its room as the claim has it -/
theorem lw_ret {p : Program} {l : Launch} {e : Env} {s : State} {m : MethodId} {below : List Frame} {meth : Method} {c : Code} {b : Nat} (hx : p.tables.exec = Jvm.exec) (hb : c.code = code) (hr : meth.sig.returnType = ret) (hlocks : meth.locks = false) {pc : Nat} {H : Heap} {ls : Array Slot} (hdg : decode code pc = .ok (.ireturn, 1)) : W p l e room_1 s m #[Value.ref b] below meth c H [] 600000 7302250 (lw_Z below #[Value.ref b] s) (F0 m pc ls [.int 1]) := by
  intro T hT X
  obtain ⟨fs, hret, hrun, hended, hW, hframe⟩ := X.leave (v := some (.int 1)) (hlocks := hlocks) (fun h => by rw [hr] at h; cases h)
  have hmeth' : T.vm.method? m = some meth := X.method'
  refine ⟨T.setFrames fs, ?_, .returned (some (.int 1)), hrun, hended, rfl, ⟨_, rfl⟩, hW, hframe⟩
  jvm_step X.here [X.here.top, hx, hb, hdg, hmeth', hr, ret, narrow_b1]
  (try refine ⟨rfl, ?_⟩); (try refine ⟨rfl, ?_⟩)
  first | (intro acts; rw [hret _ acts rfl rfl rfl]) | rw [hret _ _ rfl rfl rfl]
  exact Steps.refl _
/-- what holds at the law's entry: the machine, the code, the tables' words (any of lw_tbl by 'hts w (by decide +kernel)'), the script of L ints xs at the cell b, what the Statement gives of the start (any of its parts by flat_of_before) -/
def lw_At (p : Program) (s : State) (m : MethodId) (meth : Method) (c : Code) (b L : Nat) (xs : Nat → Int32) : Prop :=
  p.tables.exec = Jvm.exec ∧ c.code = code ∧ meth.sig.returnType = ret ∧ c.maxLocals = 4 ∧ s.vm.findClass R_law = some m.cls ∧ (∀ w ∈ lw_tbl, w.before #[Value.ref b] s = true) ∧ va_X b L xs s s.heap ∧ b < s.heap.size ∧ meth.locks = false ∧ (Jvm.Cond.and given_1 narrow_1).before #[Value.ref b] s = true
theorem a31 (z : Int32) : 0 ≤ (z &&& 31).toInt ∧ (z &&& 31).toInt ≤ 31 := by
  have h : (z &&& 31).toBitVec.toNat ≤ 31 := by
    rw [Int32.toBitVec_and, BitVec.toNat_and]
    exact Nat.le_trans Nat.and_le_right (by decide)
  have e : (z &&& 31).toInt = (z &&& 31).toBitVec.toInt := rfl
  rw [e, BitVec.toInt_eq_toNat_of_lt (by omega)]
  omega
theorem room5 {L j : Nat} (hL : L ≤ 2560) (hj : j ≤ L) (h : ¬ Int32.ofNat L - 5 < nI j) : j + 5 ≤ L := by
  have eL : (Int32.ofNat L).toInt = (L : Int) := nI_toInt (n := L) (by omega)
  have ej : (nI j).toInt = (j : Int) := nI_toInt (by omega)
  have e5 : (5 : Int32).toInt = 5 := rfl
  rw [sg_lt, fb_subI (by rw [eL, e5]; omega) (by rw [eL, e5]; omega), eL, e5, ej] at h
  omega
set_option maxHeartbeats 8000000 in
set_option maxRecDepth 100000 in
/-- one turn of the law's loop: from the switch to its end -/
theorem law_turn {p : Program} {l : Launch} {e : Env} {s : State} {m : MethodId} {below : List Frame} {meth : Method} {c : Code} {D : va_G} {cyI cyZ : ClassId} {A : Nat → Prop} {b L : Nat} {xs : Nat → Int32} {h mh : Nat} {a ad : Nat → Nat} {Q : State → Prop} {rf : Int32} {pn : Int32} {pf : Nat → Int32} {tn : Int32} {tf : Nat → Int32} {sn : Int32} {sf : Nat → Int32} {lg : Nat → Int32} {lF : Nat → Nat → Int32} {og : Nat → Int32} {oF : Nat → Nat → Int32} {bcv : Nat → Int32} {btr : Int32} {bpn : Int32} {bpf : Nat → Int32} {bpz : Nat → Int32} {bff : Nat → Int32} {bfsn : Int32} {bfsf : Nat → Int32} {bfsz : Nat → Int32} {dcv : Nat → Int32} {dtr : Int32} {dpn : Int32} {dpf : Nat → Int32} {dpz : Nat → Int32} {dff : Nat → Int32} {dfsn : Int32} {dfsf : Nat → Int32} {dfsz : Nat → Int32} {cmn : Int32} {cmf : Nat → Int32} {ctn : Int32} {ctf : Nat → Int32} {kk : Int32} {knn : Int32} {knf : Nat → Int32} {ktn : Int32} {ktf : Nat → Int32} {krg : Nat → Int32} {krF : Nat → Nat → Int32} {g : Nat → Int32} {F : Nat → Nat → Int32} {j : Nat} {T : Int} {H : Heap} {locs : List Loc} {ls : Array Slot} (cx : CX p s m meth c D cyI cyZ A ⟨RL, meth.name, ""⟩ cL_law 4 ret #[.ref b]) (hX : va_X b L xs s s.heap) (hbl : b < s.heap.size) (hbA : ¬ A b) (hj : j + 5 ≤ L) (hL : L ≤ 2560) (hR : RR T rf pn pf tn tf sn lg lF bcv btr bpn bpf bpz bff bfsn bfsf bfsz dcv dtr dpn dpf dpz dff dfsn dfsf dfsz cmn ctn kk knn ktn g F) (hT : T ≤ 1000000) (KK : LK p l e s m below meth c D cyI cyZ A b h mh a ad j T Q) (hPD : LPD D A (SBW cyI h a rf pn pf tn tf sn sf lg lF og oF bcv btr bpn bpf bpz bff bfsn bfsf bfsz dcv dtr dpn dpf dpz dff dfsn dfsf dfsz cmn cmf ctn ctf kk knn knf ktn ktf krg krF) (MW cyI cyZ mh ad g F) H) (hS : va_S A s.heap H locs) (hl : lv_has ls 4 [(0, .ref b), (1, .ref h), (2, .ref mh), (3, .int (nI j))]) : W p l e room_1 s m #[.ref b] below meth c H locs 600000 7302250 Q (F0 m 26 ls []) := by
  obtain ⟨hx, hb, -⟩ := id cx
  refine lv_aload_n hx hb dL_law_26 rfl (lv_at hl 0 rfl) ?_
  refine lv_iload_n hx hb dL_law_27 rfl (lv_at hl 3 rfl) ?_
  refine va_sld hx hb hX hbl hbA hS (vp_s0 hj hL) dL_law_28 ?_
  refine lv_bipush (v := (31 : Int32)) hx hb dL_law_29 (by decide) ?_
  refine lv_iand hx hb dL_law_31 ?_
  have hw := a31 (xs (nI j).toNatClampNeg)
  generalize (xs (nI j).toNatClampNeg &&& 31) = w at hw ⊢
  by_cases out : 23 < w.toInt
  · refine lv_tableOut (tgt := 816) hx hb dL_law_32 (Or.inr out) (by decide) ?_
    exact KK rf pn pf tn tf sn sf lg lF og oF bcv btr bpn bpf bpz bff bfsn bfsf bfsz dcv dtr dpn dpf dpz dff dfsn dfsf dfsz cmn cmf ctn ctf kk knn knf ktn ktf krg krF g F H locs ls (hR.le (by omega)) hPD hS hl
  rcases (show w.toInt = 0 ∨ w.toInt = 1 ∨ w.toInt = 2 ∨ w.toInt = 3 ∨ w.toInt = 4 ∨ w.toInt = 5 ∨ w.toInt = 6 ∨ w.toInt = 7 ∨ w.toInt = 8 ∨ w.toInt = 9 ∨ w.toInt = 10 ∨ w.toInt = 11 ∨ w.toInt = 12 ∨ w.toInt = 13 ∨ w.toInt = 14 ∨ w.toInt = 15 ∨ w.toInt = 16 ∨ w.toInt = 17 ∨ w.toInt = 18 ∨ w.toInt = 19 ∨ w.toInt = 20 ∨ w.toInt = 21 ∨ w.toInt = 22 ∨ w.toInt = 23 by omega) with k | k | k | k | k | k | k | k | k | k | k | k | k | k | k | k | k | k | k | k | k | k | k | k
  · refine lv_tableIn (off := 112) (tgt := 144) hx hb dL_law_32 (by omega) out (by rw [k]; rfl) (by decide) ?_
    exact lc_code cx hX hbl hbA hj hL rfl rfl rfl rfl hR hT KK hPD hS hl
  · refine lv_tableIn (off := 165) (tgt := 197) hx hb dL_law_32 (by omega) out (by rw [k]; rfl) (by decide) ?_
    exact lc_wipe cx hX hbl hbA hj hL rfl rfl rfl rfl hR hT KK hPD hS hl
  · refine lv_tableIn (off := 178) (tgt := 210) hx hb dL_law_32 (by omega) out (by rw [k]; rfl) (by decide) ?_
    exact lc_instruction cx hX hbl hbA hj hL rfl rfl rfl rfl hR hT KK hPD hS hl
  · refine lv_tableIn (off := 211) (tgt := 243) hx hb dL_law_32 (by omega) out (by rw [k]; rfl) (by decide) ?_
    exact lc_status cx hX hbl hbA hj hL rfl rfl rfl rfl hR hT KK hPD hS hl
  · refine lv_tableIn (off := 224) (tgt := 256) hx hb dL_law_32 (by omega) out (by rw [k]; rfl) (by decide) ?_
    exact lc_feed cx hX hbl hbA hj hL rfl rfl rfl rfl hR hT KK hPD hS hl
  · refine lv_tableIn (off := 247) (tgt := 279) hx hb dL_law_32 (by omega) out (by rw [k]; rfl) (by decide) ?_
    exact lc_keep cx hX hbl hbA hj hL rfl rfl rfl rfl hR hT KK hPD hS hl
  · refine lv_tableIn (off := 270) (tgt := 302) hx hb dL_law_32 (by omega) out (by rw [k]; rfl) (by decide) ?_
    exact lc_at cx hX hbl hbA hj hL rfl rfl rfl rfl hR hT KK hPD hS hl
  · refine lv_tableIn (off := 293) (tgt := 325) hx hb dL_law_32 (by omega) out (by rw [k]; rfl) (by decide) ?_
    by_cases b0 : xs ((nI j) + (1 : Int32)).toNatClampNeg = (0 : Int32)
    · exact lc_change_0 cx hX hbl hbA hj hL b0 rfl rfl rfl hR hT KK hPD hS hl
    · by_cases b1 : xs ((nI j) + (1 : Int32)).toNatClampNeg = (1 : Int32)
      · exact lc_change_1 cx hX hbl hbA hj hL b1 rfl rfl rfl hR hT KK hPD hS hl
      · exact lc_change_n cx hX hbl hbA hj hL rfl rfl rfl rfl b0 b1 hR hT KK hPD hS hl
  · refine lv_tableIn (off := 346) (tgt := 378) hx hb dL_law_32 (by omega) out (by rw [k]; rfl) (by decide) ?_
    exact lc_run cx hX hbl hbA hj hL rfl rfl rfl rfl hR hT KK hPD hS hl
  · refine lv_tableIn (off := 359) (tgt := 391) hx hb dL_law_32 (by omega) out (by rw [k]; rfl) (by decide) ?_
    exact lc_told cx hX hbl hbA hj hL rfl rfl rfl rfl hR hT KK hPD hS hl
  · refine lv_tableIn (off := 382) (tgt := 414) hx hb dL_law_32 (by omega) out (by rw [k]; rfl) (by decide) ?_
    exact lc_called cx hX hbl hbA hj hL rfl rfl rfl rfl hR hT KK hPD hS hl
  · refine lv_tableIn (off := 405) (tgt := 437) hx hb dL_law_32 (by omega) out (by rw [k]; rfl) (by decide) ?_
    exact lc_register cx hX hbl hbA hj hL rfl rfl rfl rfl hR hT KK hPD hS hl
  · refine lv_tableIn (off := 428) (tgt := 460) hx hb dL_law_32 (by omega) out (by rw [k]; rfl) (by decide) ?_
    exact lc_turns cx hX hbl hbA hj hL rfl rfl rfl rfl hR hT KK hPD hS hl
  · refine lv_tableIn (off := 451) (tgt := 483) hx hb dL_law_32 (by omega) out (by rw [k]; rfl) (by decide) ?_
    by_cases b0 : xs ((nI j) + (1 : Int32)).toNatClampNeg = (0 : Int32)
    · exact lc_attempt_0 cx hX hbl hbA hj hL b0 rfl rfl rfl hR hT KK hPD hS hl
    · by_cases b1 : xs ((nI j) + (1 : Int32)).toNatClampNeg = (1 : Int32)
      · exact lc_attempt_1 cx hX hbl hbA hj hL b1 rfl rfl rfl hR hT KK hPD hS hl
      · exact lc_attempt_n cx hX hbl hbA hj hL rfl rfl rfl rfl b0 b1 hR hT KK hPD hS hl
  · refine lv_tableIn (off := 474) (tgt := 506) hx hb dL_law_32 (by omega) out (by rw [k]; rfl) (by decide) ?_
    by_cases b0 : xs ((nI j) + (1 : Int32)).toNatClampNeg = (0 : Int32)
    · exact lc_about_0 cx hX hbl hbA hj hL b0 rfl rfl rfl hR hT KK hPD hS hl
    · by_cases b1 : xs ((nI j) + (1 : Int32)).toNatClampNeg = (1 : Int32)
      · exact lc_about_1 cx hX hbl hbA hj hL b1 rfl rfl rfl hR hT KK hPD hS hl
      · exact lc_about_n cx hX hbl hbA hj hL rfl rfl rfl rfl b0 b1 hR hT KK hPD hS hl
  · refine lv_tableIn (off := 507) (tgt := 539) hx hb dL_law_32 (by omega) out (by rw [k]; rfl) (by decide) ?_
    by_cases b0 : xs ((nI j) + (1 : Int32)).toNatClampNeg = (0 : Int32)
    · exact lc_covered_0 cx hX hbl hbA hj hL b0 rfl rfl rfl hR hT KK hPD hS hl
    · by_cases b1 : xs ((nI j) + (1 : Int32)).toNatClampNeg = (1 : Int32)
      · exact lc_covered_1 cx hX hbl hbA hj hL b1 rfl rfl rfl hR hT KK hPD hS hl
      · exact lc_covered_n cx hX hbl hbA hj hL rfl rfl rfl rfl b0 b1 hR hT KK hPD hS hl
  · refine lv_tableIn (off := 550) (tgt := 582) hx hb dL_law_32 (by omega) out (by rw [k]; rfl) (by decide) ?_
    by_cases b0 : xs ((nI j) + (1 : Int32)).toNatClampNeg = (0 : Int32)
    · exact lc_pool_0 cx hX hbl hbA hj hL b0 rfl rfl rfl hR hT KK hPD hS hl
    · by_cases b1 : xs ((nI j) + (1 : Int32)).toNatClampNeg = (1 : Int32)
      · exact lc_pool_1 cx hX hbl hbA hj hL b1 rfl rfl rfl hR hT KK hPD hS hl
      · exact lc_pool_n cx hX hbl hbA hj hL rfl rfl rfl rfl b0 b1 hR hT KK hPD hS hl
  · refine lv_tableIn (off := 583) (tgt := 615) hx hb dL_law_32 (by omega) out (by rw [k]; rfl) (by decide) ?_
    by_cases b0 : xs ((nI j) + (1 : Int32)).toNatClampNeg = (0 : Int32)
    · exact lc_fault_0 cx hX hbl hbA hj hL b0 rfl rfl rfl hR hT KK hPD hS hl
    · by_cases b1 : xs ((nI j) + (1 : Int32)).toNatClampNeg = (1 : Int32)
      · exact lc_fault_1 cx hX hbl hbA hj hL b1 rfl rfl rfl hR hT KK hPD hS hl
      · exact lc_fault_n cx hX hbl hbA hj hL rfl rfl rfl rfl b0 b1 hR hT KK hPD hS hl
  · refine lv_tableIn (off := 626) (tgt := 658) hx hb dL_law_32 (by omega) out (by rw [k]; rfl) (by decide) ?_
    by_cases b0 : xs ((nI j) + (1 : Int32)).toNatClampNeg = (0 : Int32)
    · exact lc_first_0 cx hX hbl hbA hj hL b0 rfl rfl rfl hR hT KK hPD hS hl
    · by_cases b1 : xs ((nI j) + (1 : Int32)).toNatClampNeg = (1 : Int32)
      · exact lc_first_1 cx hX hbl hbA hj hL b1 rfl rfl rfl hR hT KK hPD hS hl
      · exact lc_first_n cx hX hbl hbA hj hL rfl rfl rfl rfl b0 b1 hR hT KK hPD hS hl
  · refine lv_tableIn (off := 659) (tgt := 691) hx hb dL_law_32 (by omega) out (by rw [k]; rfl) (by decide) ?_
    by_cases b0 : xs ((nI j) + (1 : Int32)).toNatClampNeg = (0 : Int32)
    · exact lc_cut_0 cx hX hbl hbA hj hL b0 rfl rfl rfl hR hT KK hPD hS hl
    · by_cases b1 : xs ((nI j) + (1 : Int32)).toNatClampNeg = (1 : Int32)
      · exact lc_cut_1 cx hX hbl hbA hj hL b1 rfl rfl rfl hR hT KK hPD hS hl
      · exact lc_cut_n cx hX hbl hbA hj hL rfl rfl rfl rfl b0 b1 hR hT KK hPD hS hl
  · refine lv_tableIn (off := 692) (tgt := 724) hx hb dL_law_32 (by omega) out (by rw [k]; rfl) (by decide) ?_
    exact lc_runs cx hX hbl hbA hj hL rfl rfl rfl rfl hR hT KK hPD hS hl
  · refine lv_tableIn (off := 705) (tgt := 737) hx hb dL_law_32 (by omega) out (by rw [k]; rfl) (by decide) ?_
    by_cases b0 : xs ((nI j) + (1 : Int32)).toNatClampNeg = (0 : Int32)
    · exact lc_least_0 cx hX hbl hbA hj hL b0 rfl rfl rfl hR hT KK hPD hS hl
    · by_cases b1 : xs ((nI j) + (1 : Int32)).toNatClampNeg = (1 : Int32)
      · exact lc_least_1 cx hX hbl hbA hj hL b1 rfl rfl rfl hR hT KK hPD hS hl
      · exact lc_least_n cx hX hbl hbA hj hL rfl rfl rfl rfl b0 b1 hR hT KK hPD hS hl
  · refine lv_tableIn (off := 738) (tgt := 770) hx hb dL_law_32 (by omega) out (by rw [k]; rfl) (by decide) ?_
    exact lc_unseen cx hX hbl hbA hj hL rfl rfl rfl rfl hR hT KK hPD hS hl
  · refine lv_tableIn (off := 761) (tgt := 793) hx hb dL_law_32 (by omega) out (by rw [k]; rfl) (by decide) ?_
    by_cases b0 : xs ((nI j) + (1 : Int32)).toNatClampNeg = (0 : Int32)
    · exact lc_merge_0 cx hX hbl hbA hj hL b0 rfl rfl rfl hR hT KK hPD hS hl
    · by_cases b1 : xs ((nI j) + (1 : Int32)).toNatClampNeg = (1 : Int32)
      · exact lc_merge_1 cx hX hbl hbA hj hL b1 rfl rfl rfl hR hT KK hPD hS hl
      · exact lc_merge_n cx hX hbl hbA hj hL rfl rfl rfl rfl b0 b1 hR hT KK hPD hS hl
set_option maxHeartbeats 8000000 in
set_option maxRecDepth 100000 in
/-- the law's loop -/
theorem law_loop {p : Program} {l : Launch} {e : Env} {s : State} {m : MethodId} {below : List Frame} {meth : Method} {c : Code} {D : va_G} {cyI cyZ : ClassId} {A : Nat → Prop} {b L : Nat} {xs : Nat → Int32} {h mh : Nat} {a ad : Nat → Nat} (hL : L ≤ 2560) (cx : CX p s m meth c D cyI cyZ A ⟨RL, meth.name, ""⟩ cL_law 4 ret #[.ref b]) (hX : va_X b L xs s s.heap) (hbl : b < s.heap.size) (hbA : ¬ A b) (hfr : ∀ q, A q → s.heap.size ≤ q) : ∀ (n j : Nat), j ≤ L → L + 1 ≤ j + n → ∀ (rf : Int32) (pn : Int32) (pf : Nat → Int32) (tn : Int32) (tf : Nat → Int32) (sn : Int32) (sf : Nat → Int32) (lg : Nat → Int32) (lF : Nat → Nat → Int32) (og : Nat → Int32) (oF : Nat → Nat → Int32) (bcv : Nat → Int32) (btr : Int32) (bpn : Int32) (bpf : Nat → Int32) (bpz : Nat → Int32) (bff : Nat → Int32) (bfsn : Int32) (bfsf : Nat → Int32) (bfsz : Nat → Int32) (dcv : Nat → Int32) (dtr : Int32) (dpn : Int32) (dpf : Nat → Int32) (dpz : Nat → Int32) (dff : Nat → Int32) (dfsn : Int32) (dfsf : Nat → Int32) (dfsz : Nat → Int32) (cmn : Int32) (cmf : Nat → Int32) (ctn : Int32) (ctf : Nat → Int32) (kk : Int32) (knn : Int32) (knf : Nat → Int32) (ktn : Int32) (ktf : Nat → Int32) (krg : Nat → Int32) (krF : Nat → Nat → Int32) (g : Nat → Int32) (F : Nat → Nat → Int32) (H : Heap) (locs : List Loc) (ls : Array Slot), RR (12 * (j : Int)) rf pn pf tn tf sn lg lF bcv btr bpn bpf bpz bff bfsn bfsf bfsz dcv dtr dpn dpf dpz dff dfsn dfsf dfsz cmn ctn kk knn ktn g F → LPD D A (SBW cyI h a rf pn pf tn tf sn sf lg lF og oF bcv btr bpn bpf bpz bff bfsn bfsf bfsz dcv dtr dpn dpf dpz dff dfsn dfsf dfsz cmn cmf ctn ctf kk knn knf ktn ktf krg krF) (MW cyI cyZ mh ad g F) H → va_S A s.heap H locs → lv_has ls 4 [(0, .ref b), (1, .ref h), (2, .ref mh), (3, .int (nI j))] → W p l e room_1 s m #[.ref b] below meth c H locs 600000 7302250 (lw_Z below #[.ref b] s) (F0 m 18 ls []) := by
  obtain ⟨hx, hb, hr, -, -, -, hlocks, -⟩ := id cx
  intro n
  induction n with
  | zero =>
    intro j h1 h2
    exact absurd h2 (by omega)
  | succ n ih =>
    intro j hj hn rf pn pf tn tf sn sf lg lF og oF bcv btr bpn bpf bpz bff bfsn bfsf bfsz dcv dtr dpn dpf dpz dff dfsn dfsf dfsz cmn cmf ctn ctf kk knn knf ktn ktf krg krF g F H locs ls hR hPD hS hl
    refine lv_iload_n hx hb dL_law_18 rfl (lv_at hl 3 rfl) ?_
    refine lv_aload_n hx hb dL_law_19 rfl (lv_at hl 0 rfl) ?_
    refine va_slen hx hb hX hbl hbA hS dL_law_20 ?_
    refine lv_iconst (v := (5 : Int32)) hx hb dL_law_21 (by decide) ?_
    refine lv_isub hx hb dL_law_22 ?_
    refine lv_icmp_gt (tgt := 822) hx hb dL_law_23 (by decide) (fun cg => ?_) (fun cg => ?_)
    · refine lv_iconst (v := (1 : Int32)) hx hb dL_law_822 (by decide) ?_
      refine va_forget (fun q hq => hfr _ (hS.2.2 q hq)) ?_
      exact lw_ret hx hb hr hlocks dL_law_823
    · have h5 := room5 hL hj cg
      refine law_turn cx hX hbl hbA h5 hL hR (by omega) ?_ hPD hS hl
      intro rf pn pf tn tf sn sf lg lF og oF bcv btr bpn bpf bpz bff bfsn bfsf bfsz dcv dtr dpn dpf dpz dff dfsn dfsf dfsz cmn cmf ctn ctf kk knn knf ktn ktf krg krF g F H locs ls hR hPD hS hl
      refine lv_iinc (v := nI (j + 5)) (lv' := [(3, .int (nI (j + 5))), (0, .ref b), (1, .ref h), (2, .ref mh)]) hx hb dL_law_816 hl (k := 3) rfl (by rw [show Int32.ofInt 5 = nI 5 by decide]; exact nI_add j 5) (by decide) rfl (fun ls hl => ?_)
      refine lv_goto (tgt := 18) hx hb dL_law_819 (by decide) ?_
      exact ih (j + 5) h5 (by omega) rf pn pf tn tf sn sf lg lF og oF bcv btr bpn bpf bpz bff bfsn bfsf bfsz dcv dtr dpn dpf dpz dff dfsn dfsf dfsz cmn cmf ctn ctf kk knn knf ktn ktf krg krF g F H locs ls (by rw [show (12 * ((j + 5 : Nat) : Int)) = 12 * (j : Int) + 60 by omega]; exact hR) hPD hS (lv_sub hl [1, 2, 3, 0] rfl)
