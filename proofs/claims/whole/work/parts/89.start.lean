theorem kx_arr {b : Nat} {s : State} {ty : FieldType} (h : (Cond.arrayClass ty).before #[Value.ref b] s = true) : ∃ cA : ClassId, ArrOfT s cA ty ∧ s.vm.findClass ("[" ++ ty.toString) = some cA := by
  obtain ⟨cA, kA, comp, h1, h2, h3⟩ := Cond.arrayClass_spec h
  exact ⟨cA, fun n z => ⟨fun k h => (by cases h), kA, h2, comp, h3⟩, h1⟩
set_option maxHeartbeats 8000000 in
theorem kx_start {b : Nat} {s : State} (hts : ∀ w ∈ lw_tbl, w.before #[Value.ref b] s = true) : ∃ (D : va_G) (cyI cyZ : ClassId), KX D cyI cyZ s := by
  obtain ⟨c0, i0, k0⟩ := u_known (C := RX0) (T := TX0) (N := 4) (n := 4) hts inX0 (hts _ (bw_tbl _ mm_373))
  obtain ⟨c1, i1, k1⟩ := u_known (C := RX1) (T := TX1) (N := 2) (n := 2) hts inX1 (hts _ (bw_tbl _ mm_377))
  obtain ⟨c2, i2, k2⟩ := u_known (C := RX2) (T := TX2) (N := 4) (n := 4) hts inX2 (hts _ (bw_tbl _ mm_380))
  obtain ⟨c3, i3, k3⟩ := u_known (C := RX3) (T := TX3) (N := 2) (n := 2) hts inX3 (hts _ (bw_tbl _ mm_26))
  obtain ⟨c4, i4, k4⟩ := u_known (C := RX4) (T := TX4) (N := 2) (n := 2) hts inX4 (hts _ (bw_tbl _ mm_147))
  obtain ⟨c5, i5, k5⟩ := u_known (C := RX5) (T := TX5) (N := 2) (n := 2) hts inX5 (hts _ (bw_tbl _ mm_364))
  obtain ⟨c6, i6, k6⟩ := u_known (C := RX6) (T := TX6) (N := 4) (n := 4) hts inX6 (hts _ (bw_tbl _ mm_17))
  obtain ⟨c7, i7, k7⟩ := u_known (C := RX7) (T := TX7) (N := 12) (n := 12) hts inX7 (hts _ (bw_tbl _ mm_225))
  obtain ⟨c8, i8, k8⟩ := u_known (C := RX8) (T := TX8) (N := 10) (n := 10) hts inX8 (hts _ (bw_tbl _ mm_698))
  obtain ⟨c9, i9, k9⟩ := u_known (C := RX9) (T := TX9) (N := 40) (n := 40) hts inX9 (hts _ (bw_tbl _ mm_700))
  obtain ⟨cyI, hI, hI2⟩ := kx_arr (hts _ (bw_tbl _ mm_10))
  obtain ⟨cyZ, hZ, hZ2⟩ := kx_arr (hts _ (bw_tbl _ mm_539))
  refine ⟨(fun k => [c0, c1, c2, c3, c4, c5, c6, c7, c8, c9].getD k c0, fun k => [i0, i1, i2, i3, i4, i5, i6, i7, i8, i9].getD k i0), cyI, cyZ, ⟨fun k q hq => ?_, fun k q hq => ?_⟩, fun w hw => ?_⟩
  · match k, hq with
    | 0, hq => cases hq; exact k0
    | 1, hq => cases hq; exact k1
    | 2, hq => cases hq; exact k2
    | 3, hq => cases hq; exact k3
    | 4, hq => cases hq; exact k4
    | 5, hq => cases hq; exact k5
    | 6, hq => cases hq; exact k6
    | 7, hq => cases hq; exact k7
    | 8, hq => cases hq; exact k8
    | 9, hq => cases hq; exact k9
    | k + 10, hq => simp [vwCl] at hq
  · match k, hq with
    | 0, hq => cases hq; exact ⟨hI, hI2⟩
    | 1, hq => cases hq; exact ⟨hZ, hZ2⟩
    | k + 2, hq => simp [TY] at hq
  · have h2 := hts w (nw_in w hw)
    obtain ⟨a, i, x, hh, rfl⟩ := nw_form w hw
    exact va_Nw.of rfl h2
theorem lpd_of {D : va_G} {A : Nat → Prop} {V V' : va_W} {H : Heap} (hP : va_P D vwCl (V ++ V') H) (hD : va_D A (V ++ V')) : LPD D A V V' H := by
  have l1 : ∀ (k : Nat) (q : Nat × va_E), V[k]? = some q → (V ++ V')[k]? = some q := by
    intro k q h
    rw [List.getElem?_append_left (List.getElem?_eq_some_iff.mp h).1]
    exact h
  have l2 : ∀ (k : Nat) (q : Nat × va_E), V'[k]? = some q → (V ++ V')[V.length + k]? = some q := by
    intro k q h
    rw [List.getElem?_append_right (by omega), Nat.add_sub_cancel_left]
    exact h
  refine ⟨fun k q h => hP k q (l1 k q h), ⟨fun i j x y hi hj e => hD.1 i j x y (l1 i x hi) (l1 j y hj) e, fun k q h => hD.2 k q (l1 k q h)⟩, fun k q h => hP _ q (l2 k q h), ⟨fun i j x y hi hj e => ?_, fun k q h => hD.2 _ q (l2 k q h)⟩, fun i j x y hi hj e => ?_⟩
  · have := hD.1 _ _ x y (l2 i x hi) (l2 j y hj) e
    omega
  · have h1 := hD.1 _ _ x y (l1 i x hi) (l2 j y hj) e
    have h2 := (List.getElem?_eq_some_iff.mp hi).1
    omega
set_option maxHeartbeats 8000000 in
set_option maxRecDepth 100000 in
/-- the law, from its entry -/
theorem whole_start {p : Program} {e : Env} {s : State} {m : MethodId} {below : List Frame} {meth : Method} {c : Code} (l : Launch) {b L : Nat} {xs : Nat → Int32} (hL : L ≤ 2560) (C0 : lw_At p s m meth c b L xs) : W p l e room_1 s m #[Value.ref b] below meth c s.heap [] 0 0 (lw_Z below #[Value.ref b] s) (entryFrame m ([Value.ref b] : List Value).toArray 4) := by
  obtain ⟨hx, hb, hr, hml, hown, hts, hX, hbl, hlocks, hgv⟩ := id C0
  obtain ⟨D, cyI, cyZ, hK⟩ := kx_start hts
  have hbA : ¬ (fun q : Nat => s.heap.size ≤ q) b := Nat.not_le.mpr hbl
  have cx : CX p s m meth c D cyI cyZ (fun q : Nat => s.heap.size ≤ q) ⟨RL, meth.name, ""⟩ cL_law 4 ret #[Value.ref b] := ⟨hx, hb, hr, hml, fun w h => hts w (bw_tbl w h), hown, hlocks, rfl, hK, fun _ h => h⟩
  have hS : va_S (fun q : Nat => s.heap.size ≤ q) s.heap s.heap [] := va_S.rf
  have hP : va_P D vwCl [] s.heap := fun k q h => by simp at h
  have hD : va_D (fun q : Nat => s.heap.size ≤ q) [] := ⟨fun i j p q h => by simp at h, fun k q h => by simp at h⟩
  have hl := lv_entry ([.ref b]) (n := 4) (Nat.le_of_ble_eq_true rfl)
  rw [lg_entry_eq]
  generalize (lg_sl ([.ref b]) ++ List.replicate (4 - (lg_sl ([.ref b])).length) Slot.unset).toArray = ls at hl ⊢
  have hl : lv_has ls 4 [(0, .ref b)] := hl
  refine ct_new (ci := 8) (fs := [.null, .null, .null, .null, .null, .null, .null, .null, .null, .int (0 : Int32)]) cx hP hD hS bwX8 tyX8_ok mm_697 mm_698 mm_428 rfl rfl rfl dL_law_0 (fun h H hP hD hS => ?_)
  refine lv_dup hx hb dL_law_3 rfl ?_
  refine ct_callIE (As := []) (rest := [.ref h]) cx (c_X8_init l D cyI cyZ h) [] hP hD hS mm_701 mm_702 mm_428 mm_387 dd_X8_init rfl hl.1 rfl dL_law_4 (fun a H locs hP hD hS => ?_)
  refine lv_astore_n (lv' := [(1, .ref h), (0, .ref b)]) hx hb dL_law_7 rfl hl (by decide) rfl (fun ls hl => ?_)
  have hP : va_P D vwCl (SBW cyI h a 0 0 z1f 0 z1f 0 z1f zl z2f zl z2f z1f 0 0 z1f z1f z1f 0 z1f z1f z1f 0 0 z1f z1f z1f 0 z1f z1f 0 z1f 0 z1f 0 0 z1f 0 z1f zl z2f) H := va_Psub hP [0, 1, 2, 3, 4, 5, 6, 7, 8, 9, 10, 11, 12, 13, 14, 15, 16, 17, 26, 18, 19, 20, 21, 22, 23, 24, 25, 27, 36, 28, 29, 30, 31, 32, 33, 34, 35, 37, 38, 39, 40, 41, 42, 43, 44, 45, 46, 47, 48, 49, 50, 51] rfl
  have hD : va_D (fun q : Nat => s.heap.size ≤ q) (SBW cyI h a 0 0 z1f 0 z1f 0 z1f zl z2f zl z2f z1f 0 0 z1f z1f z1f 0 z1f z1f z1f 0 0 z1f z1f z1f 0 z1f z1f 0 z1f 0 z1f 0 0 z1f 0 z1f zl z2f) := hD.sub [0, 1, 2, 3, 4, 5, 6, 7, 8, 9, 10, 11, 12, 13, 14, 15, 16, 17, 26, 18, 19, 20, 21, 22, 23, 24, 25, 27, 36, 28, 29, 30, 31, 32, 33, 34, 35, 37, 38, 39, 40, 41, 42, 43, 44, 45, 46, 47, 48, 49, 50, 51] rfl rfl
  obtain ⟨V0, hV0⟩ : ∃ V0, V0 = (SBW cyI h a 0 0 z1f 0 z1f 0 z1f zl z2f zl z2f z1f 0 0 z1f z1f z1f 0 z1f z1f z1f 0 0 z1f z1f z1f 0 z1f z1f 0 z1f 0 z1f 0 0 z1f 0 z1f zl z2f) := ⟨_, rfl⟩
  rw [← hV0] at hP hD
  refine ct_new (ci := 9) (fs := [.int (0 : Int32), .null, .null, .null, .null, .int (0 : Int32), .int (0 : Int32), .null, .int (0 : Int32), .null, .int (0 : Int32), .null, .null, .null, .int (0 : Int32), .int (0 : Int32), .int (0 : Int32), .int (0 : Int32), .int (0 : Int32), .null, .int (0 : Int32), .int (0 : Int32), .int (0 : Int32), .int (0 : Int32), .int (0 : Int32), .null, .null, .null, .null, .null, .null, .null, .null, .null, .null, .null, .null, .null, .int (0 : Int32), .int (0 : Int32)]) cx hP hD hS bwX9 tyX9_ok mm_699 mm_700 mm_553 rfl rfl rfl dL_law_8 (fun mh H hP hD hS => ?_)
  refine lv_dup hx hb dL_law_11 rfl ?_
  refine ct_callIE (As := []) (rest := [.ref mh]) cx (c_X9_init l D cyI cyZ mh) V0 hP hD hS mm_703 mm_704 mm_553 mm_547 dd_X9_init rfl hl.1 rfl dL_law_12 (fun ad H locs hP hD hS => ?_)
  refine lv_astore_n (lv' := [(2, .ref mh), (1, .ref h), (0, .ref b)]) hx hb dL_law_15 rfl hl (by decide) rfl (fun ls hl => ?_)
  refine lv_iconst (v := (0 : Int32)) hx hb dL_law_16 (by decide) ?_
  refine lv_istore_n (lv' := [(3, .int 0), (2, .ref mh), (1, .ref h), (0, .ref b)]) hx hb dL_law_17 rfl hl (by decide) rfl (fun ls hl => ?_)
  refine W.widen (k := 600000) (n := 7302250) (Nat.le_of_ble_eq_true rfl) (Nat.le_of_ble_eq_true rfl) ?_
  have hPD := lpd_of hP hD
  rw [hV0] at hPD
  have hPD : LPD D (fun q : Nat => s.heap.size ≤ q) (SBW cyI h a 0 0 z1f 0 z1f 0 z1f zl z2f zl z2f z1f 0 0 z1f z1f z1f 0 z1f z1f z1f 0 0 z1f z1f z1f 0 z1f z1f 0 z1f 0 z1f 0 0 z1f 0 z1f zl z2f) (MW cyI cyZ mh (fun k => ad ([0, 0, 1, 2, 3, 0, 0, 4, 0, 5, 0, 6, 7, 8, 0, 0, 0, 0, 0, 9, 0, 0, 0, 0, 0, 10, 11, 12, 13, 14, 15, 16, 17, 18, 19, 20, 21, 22].getD k 0)) zg z2f) H := hPD
  exact law_loop hL cx hX hbl hbA (fun _ h => h) (L + 1) 0 (Nat.zero_le L) (by omega) 0 0 z1f 0 z1f 0 z1f zl z2f zl z2f z1f 0 0 z1f z1f z1f 0 z1f z1f z1f 0 0 z1f z1f z1f 0 z1f z1f 0 z1f 0 z1f 0 0 z1f 0 z1f zl z2f zg z2f H locs ls (by rw [show (12 * ((0 : Nat) : Int)) = 0 from rfl]; exact rr_start) hPD hS (by rw [nI_0]; exact lv_sub hl [3, 2, 1, 0] rfl)
