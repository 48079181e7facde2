def shl (j m n : Nat) (f : Nat → Int32) : Nat → Int32 := fun k => if j ≤ k ∧ k + m < n then f (k + m) else f k
theorem shl_end {j m n : Nat} (h : n ≤ j + m) (f : Nat → Int32) : shl j m n f = f := by
  funext k
  simp only [shl]
  rw [if_neg (by omega)]
theorem shl_step {j m n : Nat} (h : j + m < n) (f : Nat → Int32) : shl (j + 1) m n (upd f j (f (j + m))) = shl j m n f := by
  funext k
  simp only [shl, upd]
  by_cases e : k = j
  · subst e
    rw [if_neg (by omega), if_pos rfl, if_pos ⟨Nat.le_refl _, h⟩]
  · by_cases c : j ≤ k ∧ k + m < n
    · rw [if_pos c, if_pos (by omega), if_neg (by omega)]
    · rw [if_neg c, if_neg (by omega), if_neg e]
theorem add_i {x y : Int32} {n : Int} (hx : 0 ≤ x.toInt ∧ x.toInt ≤ 1000000000) (hy : 0 ≤ y.toInt ∧ y.toInt ≤ 1000000000) : (x + y).toInt = x.toInt + y.toInt := fb_addI (by omega) (by omega)
theorem cl_leaveOut_g (g : Nat → Int32) (a0 m0 : Int32) (hm : 0 ≤ m0.toInt ∧ m0.toInt ≤ 24) (h10 : 0 ≤ (g 10).toInt ∧ (g 10).toInt ≤ 24) : ∀ (fu : Nat) (F : Nat → Nat → Int32) (x3 : Int32), (0 ≤ x3.toInt ∧ x3.toInt ≤ 24) → (24 - x3.toInt).toNat < fu → g_X9_leaveOut_2 g a0 m0 fu F x3 = (upd g 10 (g 10 - m0), va_up F 9 (shl x3.toInt.toNat m0.toInt.toNat (g 10).toInt.toNat (F 9)))
  | 0, _, _, _, h => absurd h (Nat.not_lt_zero _)
  | fu + 1, F, x3, hx, h => by
    unfold g_X9_leaveOut_2
    have ea := add_i (n := 0) (x := x3) (y := m0) (by omega) (by omega)
    by_cases c : g 10 ≤ x3 + m0
    · rw [if_pos c, shl_end (by simp only [sg_le] at c; rw [ea] at c; omega), vup_id]
    · have hl := lo1 c hx hm h10
      rw [if_neg c, cl_leaveOut_g g a0 m0 hm h10 fu _ _ hl.2.2.1 (by have := hl.2.2.2; omega), vup_vup]
      have e1 : (x3 + 1).toInt.toNat = x3.toInt.toNat + 1 := by
        rw [inc_i (n := 24) hx.1 hx.2 (by omega)]
        omega
      have e2 : (x3 + m0).toNatClampNeg = x3.toInt.toNat + m0.toInt.toNat := by
        show (x3 + m0).toInt.toNat = _
        rw [ea]
        omega
      rw [e1, e2]
      show (_, va_up F 9 (shl (x3.toInt.toNat + 1) m0.toInt.toNat (g 10).toInt.toNat (upd (F 9) x3.toInt.toNat (F 9 (x3.toInt.toNat + m0.toInt.toNat))))) = _
      rw [shl_step (by simp only [sg_le] at c; rw [ea] at c; omega)]
theorem cl_leaveOut (a0 m0 : Int32) (g : Nat → Int32) (F : Nat → Nat → Int32) (h10 : 0 ≤ (g 10).toInt ∧ (g 10).toInt ≤ 24) (ha : 0 ≤ a0.toInt ∧ a0.toInt ≤ 24) (hm : 0 ≤ m0.toInt ∧ m0.toInt ≤ 24) : r_X9_leaveOut a0 m0 g F = (upd g 10 (g 10 - m0), va_up F 9 (shl a0.toInt.toNat m0.toInt.toNat (g 10).toInt.toNat (F 9))) := by
  unfold r_X9_leaveOut
  exact cl_leaveOut_g g a0 m0 hm h10 _ F a0 ha (Nat.lt_succ_self _)
theorem sub_i {x y : Int32} (hx : 0 ≤ x.toInt) (hy : 0 ≤ y.toInt) : (x - y).toInt = x.toInt - y.toInt := by
  have h1 := fb_rng x
  have h2 := fb_rng y
  exact fb_subI (by omega) (by omega)
theorem J_X9_leaveOut (a0 m0 : Int32) (g : Nat → Int32) (F : Nat → Nat → Int32) (hJ : J g F) (ha : 0 ≤ a0.toInt ∧ a0.toInt ≤ 24) (hm : 0 ≤ m0.toInt ∧ m0.toInt ≤ (g 10).toInt) : J (r_X9_leaveOut a0 m0 g F).1 (r_X9_leaveOut a0 m0 g F).2 := by
  have h := hJ.p10
  rw [cl_leaveOut a0 m0 g F h ha (by omega)]
  refine ⟨hJ.p5, hJ.p8, ?_, hJ.p14, hJ.p23, hJ.p38, hJ.wf, hJ.q29, hJ.q30, hJ.q33, hJ.q36⟩
  show 0 ≤ (g 10 - m0).toInt ∧ (g 10 - m0).toInt ≤ 24
  rw [sub_i h.1 hm.1]
  omega
/-- what the best input weighs -/
def msr : Nat → (Nat → Int32) → Nat
  | 0, _ => 0
  | n + 1, f => msr n f + (f n).toInt.toNat + 1
theorem msr_congr {f e : Nat → Int32} : ∀ (n : Nat), (∀ k, k < n → f k = e k) → msr n f = msr n e
  | 0, _ => rfl
  | n + 1, h => by
    show msr n f + (f n).toInt.toNat + 1 = msr n e + (e n).toInt.toNat + 1
    rw [msr_congr n (fun k hk => h k (by omega)), h n (by omega)]
theorem msr_add (a m : Nat) (f : Nat → Int32) : msr a f + m ≤ msr (a + m) f := by
  induction m with
  | zero => exact Nat.le_refl _
  | succ m ih =>
    show msr a f + (m + 1) ≤ msr (a + m) f + (f (a + m)).toInt.toNat + 1
    omega
theorem msr_shl {a m n : Nat} (f : Nat → Int32) : ∀ (i : Nat), a + m + i ≤ n → msr (a + i) (shl a m n f) + msr (a + m) f = msr a f + msr (a + m + i) f
  | 0, _ => by
    show msr a (shl a m n f) + msr (a + m) f = msr a f + msr (a + m) f
    rw [msr_congr (f := shl a m n f) (e := f) a (fun k hk => by simp only [shl]; rw [if_neg (by omega)])]
  | i + 1, h => by
    have ih := msr_shl f i (by omega : a + m + i ≤ n)
    show msr (a + i) (shl a m n f) + (shl a m n f (a + i)).toInt.toNat + 1 + msr (a + m) f = msr a f + (msr (a + m + i) f + (f (a + m + i)).toInt.toNat + 1)
    have e : shl a m n f (a + i) = f (a + m + i) := by
      simp only [shl]
      rw [if_pos (by omega), show a + i + m = a + m + i by omega]
    rw [e]
    omega
theorem msr_less {a m n : Nat} (f : Nat → Int32) (h : a + m ≤ n) (hm : 0 < m) : msr (n - m) (shl a m n f) < msr n f := by
  have h1 := msr_shl f (n - m - a) (by omega : a + m + (n - m - a) ≤ n)
  have h2 := msr_add a m f
  rw [show a + (n - m - a) = n - m by omega, show a + m + (n - m - a) = n by omega] at h1
  omega
theorem msr_upd {f : Nat → Int32} {k : Nat} {v : Int32} (hv : v.toInt.toNat < (f k).toInt.toNat) : ∀ (n : Nat), k < n → msr n (upd f k v) < msr n f
  | 0, h => absurd h (Nat.not_lt_zero _)
  | n + 1, h => by
    show msr n (upd f k v) + (upd f k v n).toInt.toNat + 1 < msr n f + (f n).toInt.toNat + 1
    by_cases c : k = n
    · subst c
      rw [msr_congr (e := f) k (fun j hj => upd_n f v (by omega)), upd_s]
      omega
    · rw [upd_n f v (by omega : n ≠ k)]
      have := msr_upd hv n (by omega)
      omega
def bst (g : Nat → Int32) (F : Nat → Nat → Int32) : Nat := msr (g 38).toInt.toNat (F 37)
/-- what a trial leaves of the best input -/
def HR (g : Nat → Int32) (F : Nat → Nat → Int32) (t : Int32 × (Nat → Int32) × (Nat → Nat → Int32)) : Prop := (t.1 = 0 ∧ t.2.1 38 = g 38 ∧ t.2.2 37 = F 37) ∨ (t.1 = 1 ∧ t.2.1 38 = g 10 ∧ t.2.2 37 = cpy (g 10).toInt.toNat (F 9) (F 37))
theorem holds_r (fi : Int32) (g : Nat → Int32) (F : Nat → Nat → Int32) (hJ : J g F) : HR g F (r_X9_holds fi g F) := by
  have hG := (goThrough_gt g F hJ.p10).1
  have hK := hJ.goThrough
  unfold r_X9_holds
  dsimp only
  generalize r_X9_goThrough g F = u at hG hK ⊢
  refine P_ite (HR g F) (fun _ => ?_) (fun _ => ?_)
  · exact Or.inl ⟨rfl, hG.1 38 (by decide), hG.2 37 (by decide)⟩
  · rw [cl_toBest _ _ (b24 (hK.u 39 _ (by decide)).p10)]
    refine Or.inr ⟨rfl, hG.1 10 (by decide), ?_⟩
    show cpy (u.1 10).toInt.toNat (u.2 9) (u.2 37) = _
    rw [hG.1 10 (by decide), hG.2 9 (by decide), hG.2 37 (by decide)]
/-- either nothing was found, or the best input weighs less -/
def PB (g : Nat → Int32) (F : Nat → Nat → Int32) (z : Int32) (g' : Nat → Int32) (F' : Nat → Nat → Int32) (z' : Int32) : Prop := (z' = z ∧ g' 38 = g 38 ∧ F' 37 = F 37) ∨ (z' = 1 ∧ bst g' F' < bst g F ∧ (g' 38).toInt ≤ (g 38).toInt)
theorem PB.refl {g : Nat → Int32} {F : Nat → Nat → Int32} {z : Int32} : PB g F z g F z := Or.inl ⟨rfl, rfl, rfl⟩
theorem PB.trans {g g1 g2 : Nat → Int32} {F F1 F2 : Nat → Nat → Int32} {z z1 z2 : Int32} (h1 : PB g F z g1 F1 z1) (h2 : PB g1 F1 z1 g2 F2 z2) : PB g F z g2 F2 z2 := by
  rcases h1 with ⟨a, b, c⟩ | ⟨a, b, c⟩
  · rcases h2 with ⟨d, e, f⟩ | ⟨d, e, f⟩
    · exact Or.inl ⟨d.trans a, e.trans b, f.trans c⟩
    · refine Or.inr ⟨d, ?_, by rw [← b]; exact f⟩
      unfold bst at e ⊢
      rw [b, c] at e
      exact e
  · rcases h2 with ⟨d, e, f⟩ | ⟨d, e, f⟩
    · refine Or.inr ⟨d.trans a, ?_, by rw [e]; exact c⟩
      unfold bst at b ⊢
      rw [e, f]
      exact b
    · exact Or.inr ⟨d, by omega, by omega⟩
