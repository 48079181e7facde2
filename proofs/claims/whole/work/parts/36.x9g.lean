def Fr (S T : List Nat) (g : Nat → Int32) (F : Nat → Nat → Int32) (g' : Nat → Int32) (F' : Nat → Nat → Int32) : Prop := (∀ k, k ∉ S → g' k = g k) ∧ (∀ k, k ∉ T → F' k = F k)
theorem Fr.refl {S T : List Nat} {g : Nat → Int32} {F : Nat → Nat → Int32} : Fr S T g F g F := ⟨fun _ _ => rfl, fun _ _ => rfl⟩
theorem Fr.u {S T : List Nat} {g g1 : Nat → Int32} {F F1 : Nat → Nat → Int32} {k : Nat} {v : Int32} (hk : k ∈ S) (h : Fr S T g F g1 F1) : Fr S T g F (upd g1 k v) F1 := by
  refine ⟨fun j hj => ?_, h.2⟩
  rw [upd_n _ _ (fun e => hj (by rw [e]; exact hk))]
  exact h.1 j hj
theorem Fr.v {S T : List Nat} {g g1 : Nat → Int32} {F F1 : Nat → Nat → Int32} {k : Nat} {v : Nat → Int32} (hk : k ∈ T) (h : Fr S T g F g1 F1) : Fr S T g F g1 (va_up F1 k v) := by
  refine ⟨h.1, fun j hj => ?_⟩
  rw [va_up_ne _ _ (fun e => hj (by rw [e]; exact hk))]
  exact h.2 j hj
theorem Fr.trans {S T : List Nat} {g g1 g2 : Nat → Int32} {F F1 F2 : Nat → Nat → Int32} (h : Fr S T g F g1 F1) (h2 : Fr S T g1 F1 g2 F2) : Fr S T g F g2 F2 :=
  ⟨fun k hk => (h2.1 k hk).trans (h.1 k hk), fun k hk => (h2.2 k hk).trans (h.2 k hk)⟩
theorem Fr.mono {S T S' T' : List Nat} {g g1 : Nat → Int32} {F F1 : Nat → Nat → Int32} (h : Fr S T g F g1 F1) (hS : ∀ k ∈ S, k ∈ S') (hT : ∀ k ∈ T, k ∈ T') : Fr S' T' g F g1 F1 :=
  ⟨fun k hk => h.1 k (fun e => hk (hS k e)), fun k hk => h.2 k (fun e => hk (hT k e))⟩
theorem fa9 (pl kind : Int32) (g : Nat → Int32) (F : Nat → Nat → Int32) : r_X9_failsAt pl kind g F = (0, upd (upd g 16 pl) 15 kind) := rfl
theorem br0 (pl : Int32) (g : Nat → Int32) (F : Nat → Nat → Int32) : r_X9_branch pl 0 g F = (g, va_up F 19 (upd (F 19) ((((2 : Int32) * pl) + (0 : Int32)).toNatClampNeg) (((F 19) ((((2 : Int32) * pl) + (0 : Int32)).toNatClampNeg)) + (1 : Int32)))) := if_pos rfl
theorem br1 (pl : Int32) (g : Nat → Int32) (F : Nat → Nat → Int32) : r_X9_branch pl 1 g F = (upd g 16 ((F 4) pl.toNatClampNeg), va_up F 19 (upd (F 19) ((((2 : Int32) * pl) + (1 : Int32)).toNatClampNeg) (((F 19) ((((2 : Int32) * pl) + (1 : Int32)).toNatClampNeg)) + (1 : Int32)))) := if_neg (by decide)
def PE (g : Nat → Int32) (F : Nat → Nat → Int32) (t : Int32 × (Nat → Int32) × (Nat → Nat → Int32)) : Prop := Fr [14, 15, 16, 18] [11, 12, 13, 19] g F t.2.1 t.2.2 ∧ (∀ k, t.2.2 19 k = F 19 k ∨ t.2.2 19 k = F 19 k + (1 : Int32))
set_option maxHeartbeats 4000000 in
theorem does_pe (pl : Int32) (g : Nat → Int32) (F : Nat → Nat → Int32) : PE g F (r_X9_does pl g F) := by
  unfold r_X9_does
  simp only [fa9, br0, br1]
  repeat' (refine P_ite (PE g F) (fun _ => ?_) (fun _ => ?_))
  all_goals refine ⟨?_, ?_⟩
  all_goals first
    | (intro k; exact Or.inl rfl)
    | (intro k
       show upd _ _ _ k = _ ∨ upd _ _ _ k = _
       simp only [upd]
       split
       · rename_i e
         rw [e]
         exact Or.inr rfl
       · exact Or.inl rfl)
    | (repeat (first | exact Fr.refl | refine Fr.u (by decide) ?_ | refine Fr.v (by decide) ?_))
def GT (g : Nat → Int32) (F : Nat → Nat → Int32) (t : (Nat → Int32) × (Nat → Nat → Int32)) : Prop := Fr [14, 15, 16, 17, 18] [11, 12, 13, 19] g F t.1 t.2 ∧ (0 ≤ (t.1 14).toInt ∧ (t.1 14).toInt ≤ 8) ∧ (∀ k, k < 160 → 0 ≤ (t.2 19 k).toInt ∧ (t.2 19 k).toInt ≤ 400)
theorem inc_i {x : Int32} {n : Int} (h0 : 0 ≤ x.toInt) (h1 : x.toInt ≤ n) (hn : n < 2147483647) : (x + (1 : Int32)).toInt = x.toInt + 1 := by
  have e1 : (1 : Int32).toInt = 1 := rfl
  rw [fb_addI (by rw [e1]; omega) (by rw [e1]; omega), e1]
theorem go_gt : ∀ (fu : Nat) (g : Nat → Int32) (F : Nat → Nat → Int32) (x1 : Int32), (400 - (g 17).toInt).toNat < fu → (0 ≤ (g 17).toInt ∧ (g 17).toInt ≤ 400) → (0 ≤ (g 10).toInt ∧ (g 10).toInt ≤ 24) → 0 ≤ (g 18).toInt → (0 ≤ (g 14).toInt ∧ (g 14).toInt ≤ 8) → (∀ k, k < 160 → 0 ≤ (F 19 k).toInt ∧ (F 19 k).toInt ≤ (g 17).toInt) → GT g F (g_X9_goThrough_91 fu g F x1)
  | 0, _, _, _, h, _, _, _, _, _ => absurd h (Nat.not_lt_zero _)
  | fu + 1, g, F, x1, h, h17, h10, h18, h14, hF => by
    unfold g_X9_goThrough_91
    dsimp only
    have hF4 : ∀ k, k < 160 → 0 ≤ (F 19 k).toInt ∧ (F 19 k).toInt ≤ 400 := fun k hk => ⟨(hF k hk).1, by have := (hF k hk).2; omega⟩
    have hend : GT g F (if g 15 = 0 then (upd g 16 (-1 : Int32), F) else (g, F)) := by
      refine P_ite (GT g F) (fun _ => ?_) (fun _ => ?_)
      · exact ⟨Fr.u (by decide) Fr.refl, h14, hF4⟩
      · exact ⟨Fr.refl, h14, hF4⟩
    refine P_ite (GT g F) (fun _ => hend) (fun _ => ?_)
    refine P_ite (GT g F) (fun _ => hend) (fun _ => ?_)
    refine P_ite (GT g F) (fun _ => hend) (fun _ => ?_)
    refine P_ite (GT g F) (fun _ => ?_) (fun c => ?_)
    · exact ⟨Fr.u (by decide) Fr.refl, h14, hF4⟩
    · have hI := does_inv (g 16) (upd g 17 ((g 17) + (1 : Int32))) F h10 h18 h14
      have hE := does_pe (g 16) (upd g 17 ((g 17) + (1 : Int32))) F
      generalize r_X9_does (g 16) (upd g 17 ((g 17) + (1 : Int32))) F = u at hI hE ⊢
      have hm := mu_400 c h17 hI.2.2.1 h
      have e17 : (u.2.1 17).toInt = (g 17).toInt + 1 := by
        rw [hI.2.2.1]
        show (g 17 + 1).toInt = _
        exact inc_i h17.1 h17.2 (by omega)
      have ih := go_gt fu u.2.1 u.2.2 u.1 hm.1 hm.2 (by rw [hI.2.1]; exact h10) hI.2.2.2.1 hI.2.2.2.2.1 (fun k hk => by
        have hk2 := hF k hk
        rcases hE.2 k with e | e
        · rw [e, e17]; omega
        · rw [e, e17, inc_i hk2.1 hk2.2 (by omega)]; omega)
      refine ⟨Fr.trans (hE.1.mono (by decide) (by decide) |> fun q => Fr.trans (Fr.u (by decide) Fr.refl) q) ih.1, ih.2.1, ih.2.2⟩
theorem goThrough_gt (g : Nat → Int32) (F : Nat → Nat → Int32) (h10 : 0 ≤ (g 10).toInt ∧ (g 10).toInt ≤ 24) : GT g F (r_X9_goThrough g F) := by
  rw [cl_goThrough]
  have h := go_gt 401 (st9g g) (st9F F) (1 : Int32) (by show (400 - (0 : Int32).toInt).toNat < 401; decide) (by show 0 ≤ (0 : Int32).toInt ∧ (0 : Int32).toInt ≤ 400; decide) h10 (by show 0 ≤ (0 : Int32).toInt; decide) (by show 0 ≤ (0 : Int32).toInt ∧ (0 : Int32).toInt ≤ 8; decide) (fun k hk => by
    show 0 ≤ (cpy 160 (fun _ => (0 : Int32)) (F 19) k).toInt ∧ (cpy 160 (fun _ => (0 : Int32)) (F 19) k).toInt ≤ (0 : Int32).toInt
    rw [cpy_lt hk]
    decide)
  refine ⟨Fr.trans ?_ h.1, h.2.1, h.2.2⟩
  unfold st9g st9F
  repeat (first | exact Fr.refl | refine Fr.u (by decide) ?_ | refine Fr.v (by decide) ?_)
def J (g : Nat → Int32) (F : Nat → Nat → Int32) : Prop := (0 ≤ (g 5).toInt ∧ (g 5).toInt ≤ 80) ∧ (0 ≤ (g 8).toInt ∧ (g 8).toInt ≤ 24) ∧ (0 ≤ (g 10).toInt ∧ (g 10).toInt ≤ 24) ∧ (0 ≤ (g 14).toInt ∧ (g 14).toInt ≤ 8) ∧ (0 ≤ (g 23).toInt ∧ (g 23).toInt ≤ 8) ∧ (0 ≤ (g 38).toInt ∧ (g 38).toInt ≤ 24) ∧ (WF F) ∧ (∀ k, 0 ≤ (F 29 k).toInt ∧ (F 29 k).toInt ≤ 24) ∧ (∀ k, 0 ≤ (F 30 k).toInt ∧ (F 30 k).toInt ≤ 40) ∧ (∀ k, 0 ≤ (F 33 k).toInt ∧ (F 33 k).toInt ≤ 20) ∧ (∀ k, 0 ≤ (F 36 k).toInt ∧ (F 36 k).toInt ≤ 24)
theorem J.p5 {g : Nat → Int32} {F : Nat → Nat → Int32} (h : J g F) : 0 ≤ (g 5).toInt ∧ (g 5).toInt ≤ 80 := h.1
theorem J.p8 {g : Nat → Int32} {F : Nat → Nat → Int32} (h : J g F) : 0 ≤ (g 8).toInt ∧ (g 8).toInt ≤ 24 := h.2.1
theorem J.p10 {g : Nat → Int32} {F : Nat → Nat → Int32} (h : J g F) : 0 ≤ (g 10).toInt ∧ (g 10).toInt ≤ 24 := h.2.2.1
theorem J.p14 {g : Nat → Int32} {F : Nat → Nat → Int32} (h : J g F) : 0 ≤ (g 14).toInt ∧ (g 14).toInt ≤ 8 := h.2.2.2.1
theorem J.p23 {g : Nat → Int32} {F : Nat → Nat → Int32} (h : J g F) : 0 ≤ (g 23).toInt ∧ (g 23).toInt ≤ 8 := h.2.2.2.2.1
theorem J.p38 {g : Nat → Int32} {F : Nat → Nat → Int32} (h : J g F) : 0 ≤ (g 38).toInt ∧ (g 38).toInt ≤ 24 := h.2.2.2.2.2.1
theorem J.wf {g : Nat → Int32} {F : Nat → Nat → Int32} (h : J g F) : WF F := h.2.2.2.2.2.2.1
theorem J.q29 {g : Nat → Int32} {F : Nat → Nat → Int32} (h : J g F) : ∀ k, 0 ≤ (F 29 k).toInt ∧ (F 29 k).toInt ≤ 24 := h.2.2.2.2.2.2.2.1
theorem J.q30 {g : Nat → Int32} {F : Nat → Nat → Int32} (h : J g F) : ∀ k, 0 ≤ (F 30 k).toInt ∧ (F 30 k).toInt ≤ 40 := h.2.2.2.2.2.2.2.2.1
theorem J.q33 {g : Nat → Int32} {F : Nat → Nat → Int32} (h : J g F) : ∀ k, 0 ≤ (F 33 k).toInt ∧ (F 33 k).toInt ≤ 20 := h.2.2.2.2.2.2.2.2.2.1
theorem J.q36 {g : Nat → Int32} {F : Nat → Nat → Int32} (h : J g F) : ∀ k, 0 ≤ (F 36 k).toInt ∧ (F 36 k).toInt ≤ 24 := h.2.2.2.2.2.2.2.2.2.2
theorem b24 {x : Int32} (h : 0 ≤ x.toInt ∧ x.toInt ≤ 24) : x.toInt.toNat ≤ 24 := by omega
theorem J.goThrough {g : Nat → Int32} {F : Nat → Nat → Int32} (h : J g F) : J (r_X9_goThrough g F).1 (r_X9_goThrough g F).2 := by
  obtain ⟨f, h14, -⟩ := goThrough_gt g F h.p10
  exact ⟨(by rw [f.1 5 (by decide)]; exact h.p5), (by rw [f.1 8 (by decide)]; exact h.p8), (by rw [f.1 10 (by decide)]; exact h.p10), h14, (by rw [f.1 23 (by decide)]; exact h.p23), (by rw [f.1 38 (by decide)]; exact h.p38), h.wf.of (f.2 1 (by decide)) (f.2 2 (by decide)) (f.2 3 (by decide)), (by rw [f.2 29 (by decide)]; exact h.q29), (by rw [f.2 30 (by decide)]; exact h.q30), (by rw [f.2 33 (by decide)]; exact h.q33), (by rw [f.2 36 (by decide)]; exact h.q36)⟩
theorem J.fromTape {g : Nat → Int32} {F : Nat → Nat → Int32} (h : J g F) : J (r_X9_fromTape g F).1 (r_X9_fromTape g F).2 := by
  rw [cl_fromTape g F (b24 h.p8)]
  exact ⟨h.p5, h.p8, h.p8, h.p14, h.p23, h.p38, h.wf, h.q29, h.q30, h.q33, h.q36⟩
theorem J.toTape {g : Nat → Int32} {F : Nat → Nat → Int32} (h : J g F) : J (r_X9_toTape g F).2.1 (r_X9_toTape g F).2.2 := by
  rw [cl_toTape g F (b24 h.p10)]
  exact ⟨h.p5, h.p10, h.p10, h.p14, h.p23, h.p38, h.wf, h.q29, h.q30, h.q33, h.q36⟩
theorem J.toBest {g : Nat → Int32} {F : Nat → Nat → Int32} (h : J g F) : J (r_X9_toBest g F).1 (r_X9_toBest g F).2 := by
  rw [cl_toBest g F (b24 h.p10)]
  exact ⟨h.p5, h.p8, h.p10, h.p14, h.p23, h.p10, h.wf, h.q29, h.q30, h.q33, h.q36⟩
theorem J.fromBest {g : Nat → Int32} {F : Nat → Nat → Int32} (h : J g F) : J (r_X9_fromBest g F).1 (r_X9_fromBest g F).2 := by
  rw [cl_fromBest g F (b24 h.p38)]
  exact ⟨h.p5, h.p8, h.p38, h.p14, h.p23, h.p38, h.wf, h.q29, h.q30, h.q33, h.q36⟩
theorem J.keeps {g : Nat → Int32} {F : Nat → Nat → Int32} (h : J g F) : J (r_X9_keeps g F).1 (r_X9_keeps g F).2 := by
  rw [cl_keeps]
  refine ⟨h.p5, h.p8, h.p10, h.p14, ?_, h.p38, h.wf, h.q29, h.q30, h.q33, h.q36⟩
  show 0 ≤ (if g 15 = 0 then (0 : Int32) else g 14).toInt ∧ (if g 15 = 0 then (0 : Int32) else g 14).toInt ≤ 8
  exact P_ite (fun z : Int32 => 0 ≤ z.toInt ∧ z.toInt ≤ 8) (fun _ => by decide) (fun _ => h.p14)
theorem J.u {g : Nat → Int32} {F : Nat → Nat → Int32} (h : J g F) (k : Nat) (v : Int32) (hk : k ∉ [5, 8, 10, 14, 23, 38]) : J (upd g k v) F := by
  simp only [List.mem_cons, List.not_mem_nil, or_false, not_or] at hk
  obtain ⟨a, b, c, d, e, f⟩ := hk
  exact ⟨(by rw [upd_n _ _ (Ne.symm a)]; exact h.p5), (by rw [upd_n _ _ (Ne.symm b)]; exact h.p8), (by rw [upd_n _ _ (Ne.symm c)]; exact h.p10), (by rw [upd_n _ _ (Ne.symm d)]; exact h.p14), (by rw [upd_n _ _ (Ne.symm e)]; exact h.p23), (by rw [upd_n _ _ (Ne.symm f)]; exact h.p38), h.wf, h.q29, h.q30, h.q33, h.q36⟩
theorem J.v {g : Nat → Int32} {F : Nat → Nat → Int32} (h : J g F) (k : Nat) (v : Nat → Int32) (hk : k ∉ [1, 2, 3, 29, 30, 33, 36]) : J g (va_up F k v) := by
  simp only [List.mem_cons, List.not_mem_nil, or_false, not_or] at hk
  obtain ⟨a, b, c, d, e, f, i⟩ := hk
  exact ⟨h.p5, h.p8, h.p10, h.p14, h.p23, h.p38, h.wf.of (va_up_ne _ _ (Ne.symm a)) (va_up_ne _ _ (Ne.symm b)) (va_up_ne _ _ (Ne.symm c)), (by rw [va_up_ne _ _ (Ne.symm d)]; exact h.q29), (by rw [va_up_ne _ _ (Ne.symm e)]; exact h.q30), (by rw [va_up_ne _ _ (Ne.symm f)]; exact h.q33), (by rw [va_up_ne _ _ (Ne.symm i)]; exact h.q36)⟩
theorem half_i {x : Int32} (c : 0 ≤ x.toInt) : (x / (2 : Int32)).toInt = x.toInt / 2 := by
  rw [Int32.toInt_div]
  show (x.toInt.tdiv 2).bmod (2 ^ 32) = _
  have hr := fb_rng x
  rw [Int.tdiv_eq_ediv_of_nonneg (by omega), fb_bmod (by omega) (by omega)]
theorem dg_b (t : Int32) : ∀ (n fu : Nat) (x1 x2 : Int32), x2.toInt < 2 ^ n → x2.toInt.toNat < fu → (0 ≤ x1.toInt ∧ x1.toInt + n ≤ 100) → 0 ≤ (g_X9_digits_4 t fu x1 x2).toInt ∧ (g_X9_digits_4 t fu x1 x2).toInt ≤ x1.toInt + n
  | n, 0, _, _, _, h, _ => absurd h (Nat.not_lt_zero _)
  | 0, fu + 1, x1, x2, h2, h, hx => by
    unfold g_X9_digits_4
    rw [if_pos (by simp only [sg_le]; show x2.toInt ≤ 0; omega)]
    omega
  | n + 1, fu + 1, x1, x2, h2, h, hx => by
    unfold g_X9_digits_4
    by_cases c : x2 ≤ 0
    · rw [if_pos c]
      omega
    · rw [if_neg c]
      simp only [sg_le] at c
      have c : ¬ x2.toInt ≤ 0 := c
      have e2 := half_i (x := x2) (by omega)
      have e1 := inc_i (n := 100) hx.1 (by omega) (by omega)
      have e3 : (2 : Int) ^ (n + 1) = 2 * 2 ^ n := by rw [Int.pow_succ]; omega
      have := dg_b t n fu (x1 + 1) (x2 / 2) (by rw [e2]; omega) (by rw [e2]; omega) (by rw [e1]; omega)
      rw [e1] at this
      omega
theorem dg_9 {t : Int32} (h : t.toInt ≤ 400) : 0 ≤ (r_X9_digits t).toInt ∧ (r_X9_digits t).toInt ≤ 9 := by
  have := dg_b t 9 (t.toInt.toNat + 1) (0 : Int32) t (by omega) (by omega) (by decide)
  have e : (0 : Int32).toInt = 0 := rfl
  rw [e] at this
  unfold r_X9_digits
  omega
