theorem P_ite {α : Type} {c : Prop} [Decidable c] (P : α → Prop) {a b : α} (ha : c → P a) (hb : ¬ c → P b) : P (if c then a else b) := by
  by_cases h : c
  · rw [if_pos h]; exact ha h
  · rw [if_neg h]; exact hb h
theorem vup_vup {α : Type} (F : Nat → α) (k : Nat) (a b : α) : va_up (va_up F k a) k b = va_up F k b := by
  funext j
  simp only [va_up]
  split <;> rfl
theorem vup_id {α : Type} (F : Nat → α) (k : Nat) : va_up F k (F k) = F := by
  funext j
  simp only [va_up]
  split
  · rename_i h; rw [h]
  · rfl
theorem upd_upd (f : Nat → Int32) (k : Nat) (a b : Int32) : upd (upd f k a) k b = upd f k b := vup_vup f k a b
theorem upd_s (f : Nat → Int32) (k : Nat) (x : Int32) : upd f k x k = x := by simp [upd]
theorem upd_n (f : Nat → Int32) {k j : Nat} (x : Int32) (h : j ≠ k) : upd f k x j = f j := by simp [upd, h]
def cpy (n : Nat) (f h : Nat → Int32) : Nat → Int32 := fun k => if k < n then f k else h k
def cpyF (j n : Nat) (f h : Nat → Int32) : Nat → Int32 := fun k => if j ≤ k ∧ k < n then f k else h k
theorem cpyF_0 (n : Nat) (f h : Nat → Int32) : cpyF 0 n f h = cpy n f h := by
  funext k
  simp [cpyF, cpy]
theorem cpyF_end {j n : Nat} (hj : n ≤ j) (f h : Nat → Int32) : cpyF j n f h = h := by
  funext k
  simp only [cpyF]
  rw [if_neg (by omega)]
theorem cpyF_step {j n : Nat} (hj : j < n) (f h : Nat → Int32) : cpyF (j + 1) n f (upd h j (f j)) = cpyF j n f h := by
  funext k
  simp only [cpyF, upd]
  by_cases e : k = j
  · subst e
    rw [if_neg (by omega), if_pos rfl, if_pos ⟨Nat.le_refl _, hj⟩]
  · rw [if_neg e]
    by_cases c : j ≤ k ∧ k < n
    · rw [if_pos c, if_pos (by omega)]
    · rw [if_neg c, if_neg (by omega)]
theorem cpy_lt {n k : Nat} (h : k < n) (f e : Nat → Int32) : cpy n f e k = f k := if_pos h
theorem le_nI {z : Int32} {j : Nat} (hj : j < 2 ^ 31) : z ≤ nI j ↔ z.toInt.toNat ≤ j := by
  simp only [sg_le]
  rw [nI_toInt hj]
  omega
theorem cl_fromTape_g (g : Nat → Int32) {N : Nat} (hN : (g 8).toInt.toNat = N) (h24 : N ≤ 24) : ∀ (fu : Nat) (F : Nat → Nat → Int32) (j : Nat), N - j < fu → j ≤ 24 → g_X9_fromTape_10 g fu F j = (g, va_up F 9 (cpyF j N (F 7) (F 9)))
  | 0, _, _, h, _ => absurd h (Nat.not_lt_zero _)
  | fu + 1, F, j, h, hj => by
    unfold g_X9_fromTape_10
    by_cases c : N ≤ j
    · rw [if_pos ((le_nI (by omega)).mpr (by omega)), cpyF_end c, vup_id]
    · rw [if_neg (fun k => c (by have := (le_nI (by omega)).mp k; omega)), cl_fromTape_g g hN h24 fu _ (j + 1) (by omega) (by omega), vup_vup]
      show (g, va_up F 9 (cpyF (j + 1) N (F 7) (upd (F 9) j ((F 7) j)))) = _
      rw [cpyF_step (by omega) (F 7)]
theorem cl_fromTape (g : Nat → Int32) (F : Nat → Nat → Int32) (h : (g 8).toInt.toNat ≤ 24) : r_X9_fromTape g F = (upd g 10 (g 8), va_up F 9 (cpy (g 8).toInt.toNat (F 7) (F 9))) := by
  unfold r_X9_fromTape
  rw [cl_fromTape_g (upd g 10 (g 8)) (N := (g 8).toInt.toNat) rfl h _ _ _ (by omega) (by omega), cpyF_0]
  try rfl
theorem cl_toTape_g (g : Nat → Int32) {N : Nat} (hN : (g 10).toInt.toNat = N) (h24 : N ≤ 24) : ∀ (fu : Nat) (F : Nat → Nat → Int32) (j : Nat), N - j < fu → j ≤ 24 → g_X9_toTape_10 g fu F j = (g 8, g, va_up F 7 (cpyF j N (F 9) (F 7)))
  | 0, _, _, h, _ => absurd h (Nat.not_lt_zero _)
  | fu + 1, F, j, h, hj => by
    unfold g_X9_toTape_10
    by_cases c : N ≤ j
    · rw [if_pos ((le_nI (by omega)).mpr (by omega)), cpyF_end c, vup_id]
    · rw [if_neg (fun k => c (by have := (le_nI (by omega)).mp k; omega)), cl_toTape_g g hN h24 fu _ (j + 1) (by omega) (by omega), vup_vup]
      show (g 8, g, va_up F 7 (cpyF (j + 1) N (F 9) (upd (F 7) j ((F 9) j)))) = _
      rw [cpyF_step (by omega) (F 9)]
theorem cl_toTape (g : Nat → Int32) (F : Nat → Nat → Int32) (h : (g 10).toInt.toNat ≤ 24) : r_X9_toTape g F = (g 10, upd g 8 (g 10), va_up F 7 (cpy (g 10).toInt.toNat (F 9) (F 7))) := by
  unfold r_X9_toTape
  rw [cl_toTape_g (upd g 8 (g 10)) (N := (g 10).toInt.toNat) rfl h _ _ _ (by omega) (by omega), cpyF_0]
  try rfl
theorem cl_toBest_g (g : Nat → Int32) {N : Nat} (hN : (g 10).toInt.toNat = N) (h24 : N ≤ 24) : ∀ (fu : Nat) (F : Nat → Nat → Int32) (j : Nat), N - j < fu → j ≤ 24 → g_X9_toBest_10 g fu F j = (g, va_up F 37 (cpyF j N (F 9) (F 37)))
  | 0, _, _, h, _ => absurd h (Nat.not_lt_zero _)
  | fu + 1, F, j, h, hj => by
    unfold g_X9_toBest_10
    by_cases c : N ≤ j
    · rw [if_pos ((le_nI (by omega)).mpr (by omega)), cpyF_end c, vup_id]
    · rw [if_neg (fun k => c (by have := (le_nI (by omega)).mp k; omega)), cl_toBest_g g hN h24 fu _ (j + 1) (by omega) (by omega), vup_vup]
      show (g, va_up F 37 (cpyF (j + 1) N (F 9) (upd (F 37) j ((F 9) j)))) = _
      rw [cpyF_step (by omega) (F 9)]
theorem cl_toBest (g : Nat → Int32) (F : Nat → Nat → Int32) (h : (g 10).toInt.toNat ≤ 24) : r_X9_toBest g F = (upd g 38 (g 10), va_up F 37 (cpy (g 10).toInt.toNat (F 9) (F 37))) := by
  unfold r_X9_toBest
  rw [cl_toBest_g (upd g 38 (g 10)) (N := (g 10).toInt.toNat) rfl h _ _ _ (by omega) (by omega), cpyF_0]
  try rfl
theorem cl_fromBest_g (g : Nat → Int32) {N : Nat} (hN : (g 10).toInt.toNat = N) (h24 : N ≤ 24) : ∀ (fu : Nat) (F : Nat → Nat → Int32) (j : Nat), N - j < fu → j ≤ 24 → g_X9_fromBest_10 g fu F j = (g, va_up F 9 (cpyF j N (F 37) (F 9)))
  | 0, _, _, h, _ => absurd h (Nat.not_lt_zero _)
  | fu + 1, F, j, h, hj => by
    unfold g_X9_fromBest_10
    by_cases c : N ≤ j
    · rw [if_pos ((le_nI (by omega)).mpr (by omega)), cpyF_end c, vup_id]
    · rw [if_neg (fun k => c (by have := (le_nI (by omega)).mp k; omega)), cl_fromBest_g g hN h24 fu _ (j + 1) (by omega) (by omega), vup_vup]
      show (g, va_up F 9 (cpyF (j + 1) N (F 37) (upd (F 9) j ((F 37) j)))) = _
      rw [cpyF_step (by omega) (F 37)]
theorem cl_fromBest (g : Nat → Int32) (F : Nat → Nat → Int32) (h : (g 38).toInt.toNat ≤ 24) : r_X9_fromBest g F = (upd g 10 (g 38), va_up F 9 (cpy (g 38).toInt.toNat (F 37) (F 9))) := by
  unfold r_X9_fromBest
  rw [cl_fromBest_g (upd g 10 (g 38)) (N := (g 38).toInt.toNat) rfl h _ _ _ (by omega) (by omega), cpyF_0]
  try rfl
theorem cl_goThrough_2 (g : Nat → Int32) : ∀ (fu : Nat) (F : Nat → Nat → Int32) (j : Nat), 8 - j < fu → j ≤ 8 → g_X9_goThrough_2 g fu F j = (va_up F 11 (cpyF j 8 (fun _ => (0 : Int32)) (F 11)), 8)
  | 0, _, _, h, _ => absurd h (Nat.not_lt_zero _)
  | fu + 1, F, j, h, hj => by
    unfold g_X9_goThrough_2
    by_cases c : 8 ≤ j
    · obtain rfl : j = 8 := by omega
      rw [if_pos (by decide), cpyF_end c, vup_id]
    · rw [if_neg (fun k => c (by have := (le_nI (by omega)).mp k; exact this)), cl_goThrough_2 g fu _ (j + 1) (by omega) (by omega), vup_vup]
      show (va_up F 11 (cpyF (j + 1) 8 (fun _ => (0 : Int32)) (upd (F 11) j ((fun _ => (0 : Int32)) j))), 8) = _
      rw [cpyF_step (by omega) (fun _ => (0 : Int32))]
theorem cl_goThrough_23 (g : Nat → Int32) : ∀ (fu : Nat) (F : Nat → Nat → Int32) (j : Nat), 16 - j < fu → j ≤ 16 → g_X9_goThrough_23 g fu F j = (va_up F 12 (cpyF j 16 (fun _ => (0 : Int32)) (F 12)), 16)
  | 0, _, _, h, _ => absurd h (Nat.not_lt_zero _)
  | fu + 1, F, j, h, hj => by
    unfold g_X9_goThrough_23
    by_cases c : 16 ≤ j
    · obtain rfl : j = 16 := by omega
      rw [if_pos (by decide), cpyF_end c, vup_id]
    · rw [if_neg (fun k => c (by have := (le_nI (by omega)).mp k; exact this)), cl_goThrough_23 g fu _ (j + 1) (by omega) (by omega), vup_vup]
      show (va_up F 12 (cpyF (j + 1) 16 (fun _ => (0 : Int32)) (upd (F 12) j ((fun _ => (0 : Int32)) j))), 16) = _
      rw [cpyF_step (by omega) (fun _ => (0 : Int32))]
theorem cl_goThrough_44 (g : Nat → Int32) : ∀ (fu : Nat) (F : Nat → Nat → Int32) (j : Nat), 160 - j < fu → j ≤ 160 → g_X9_goThrough_44 g fu F j = (va_up F 19 (cpyF j 160 (fun _ => (0 : Int32)) (F 19)), 160)
  | 0, _, _, h, _ => absurd h (Nat.not_lt_zero _)
  | fu + 1, F, j, h, hj => by
    unfold g_X9_goThrough_44
    by_cases c : 160 ≤ j
    · obtain rfl : j = 160 := by omega
      rw [if_pos (by decide), cpyF_end c, vup_id]
    · rw [if_neg (fun k => c (by have := (le_nI (by omega)).mp k; exact this)), cl_goThrough_44 g fu _ (j + 1) (by omega) (by omega), vup_vup]
      show (va_up F 19 (cpyF (j + 1) 160 (fun _ => (0 : Int32)) (upd (F 19) j ((fun _ => (0 : Int32)) j))), 160) = _
      rw [cpyF_step (by omega) (fun _ => (0 : Int32))]
theorem cl_keeps_61 (g : Nat → Int32) : ∀ (fu : Nat) (F : Nat → Nat → Int32) (j : Nat), 8 - j < fu → j ≤ 8 → g_X9_keeps_61 g fu F j = (va_up F 25 (cpyF j 8 (fun k => r_X9_openAt (nI k) g F) (F 25)), 8)
  | 0, _, _, h, _ => absurd h (Nat.not_lt_zero _)
  | fu + 1, F, j, h, hj => by
    unfold g_X9_keeps_61
    by_cases c : 8 ≤ j
    · obtain rfl : j = 8 := by omega
      rw [if_pos (by decide), cpyF_end c, vup_id]
    · rw [if_neg (fun k => c (by have := (le_nI (by omega)).mp k; exact this)), cl_keeps_61 g fu _ (j + 1) (by omega) (by omega), vup_vup]
      show (va_up F 25 (cpyF (j + 1) 8 (fun k => r_X9_openAt (nI k) g F) (upd (F 25) j ((fun k => r_X9_openAt (nI k) g F) j))), 8) = _
      rw [cpyF_step (by omega) (fun k => r_X9_openAt (nI k) g F)]
theorem cl_keeps_86 (g : Nat → Int32) : ∀ (fu : Nat) (F : Nat → Nat → Int32) (j : Nat), 8 - j < fu → j ≤ 8 → g_X9_keeps_86 g fu F j = (va_up F 26 (cpyF j 8 (F 11) (F 26)), 8)
  | 0, _, _, h, _ => absurd h (Nat.not_lt_zero _)
  | fu + 1, F, j, h, hj => by
    unfold g_X9_keeps_86
    by_cases c : 8 ≤ j
    · obtain rfl : j = 8 := by omega
      rw [if_pos (by decide), cpyF_end c, vup_id]
    · rw [if_neg (fun k => c (by have := (le_nI (by omega)).mp k; exact this)), cl_keeps_86 g fu _ (j + 1) (by omega) (by omega), vup_vup]
      show (va_up F 26 (cpyF (j + 1) 8 (F 11) (upd (F 26) j ((F 11) j))), 8) = _
      rw [cpyF_step (by omega) (F 11)]
/-- the state in which the reference begins a run -/
def st9g (g : Nat → Int32) : Nat → Int32 := upd (upd (upd (upd (upd g 14 (0 : Int32)) 15 (0 : Int32)) 16 (0 : Int32)) 17 (0 : Int32)) 18 (0 : Int32)
def st9F (F : Nat → Nat → Int32) : Nat → Nat → Int32 := va_up (va_up (va_up F 11 (cpy 8 (fun _ => (0 : Int32)) (F 11))) 12 (cpy 16 (fun _ => (0 : Int32)) (F 12))) 19 (cpy 160 (fun _ => (0 : Int32)) (F 19))
theorem cl_goThrough (g : Nat → Int32) (F : Nat → Nat → Int32) : r_X9_goThrough g F = g_X9_goThrough_91 401 (st9g g) (st9F F) (1 : Int32) := by
  unfold r_X9_goThrough
  rw [cl_goThrough_2 g _ _ _ (by omega) (by omega), cl_goThrough_23 g _ _ _ (by omega) (by omega), cl_goThrough_44 g _ _ _ (by omega) (by omega), cpyF_0, cpyF_0, cpyF_0]
  rfl
def bcnt (f : Nat → Int32) : Nat → Nat → Int32 → Int32
  | 0, _, a => a
  | n + 1, j, a => bcnt f n (j + 1) (if f j ≤ (0 : Int32) then a + (0 : Int32) else a + (1 : Int32))
theorem cl_keeps_112 : ∀ (n fu : Nat) (g : Nat → Int32) (F : Nat → Nat → Int32) (j : Nat), n < fu → n + j = 160 → g_X9_keeps_112 fu g F j = (upd g 24 (bcnt (F 19) n j (g 24)), va_up F 27 (cpyF j 160 (F 19) (F 27)), 160)
  | n, 0, _, _, _, h, _ => absurd h (Nat.not_lt_zero _)
  | 0, fu + 1, g, F, j, h, hj => by
    obtain rfl : j = 160 := by omega
    unfold g_X9_keeps_112
    rw [if_pos (by decide), cpyF_end (Nat.le_refl _), vup_id]
    show (g, F, 160) = (upd g 24 (g 24), F, 160)
    rw [show upd g 24 (g 24) = g from vup_id g 24]
  | n + 1, fu + 1, g, F, j, h, hj => by
    unfold g_X9_keeps_112
    rw [if_neg (fun k => by have := (le_nI (by omega)).mp k; have e : (160 : Int32).toInt.toNat = 160 := rfl; omega)]
    by_cases c : F 19 j ≤ (0 : Int32)
    · rw [if_pos c, cl_keeps_112 n fu _ _ (j + 1) (by omega) (by omega), vup_vup]
      show (upd (upd g 24 (g 24 + 0)) 24 (bcnt (F 19) n (j + 1) (g 24 + 0)), va_up F 27 (cpyF (j + 1) 160 (F 19) (upd (F 27) j (F 19 j))), 160) = _
      rw [cpyF_step (by omega), show upd (upd g 24 (g 24 + 0)) 24 (bcnt (F 19) n (j + 1) (g 24 + 0)) = upd g 24 (bcnt (F 19) n (j + 1) (g 24 + 0)) from vup_vup g 24 _ _]
      show _ = (upd g 24 (bcnt (F 19) n (j + 1) (if F 19 j ≤ (0 : Int32) then g 24 + 0 else g 24 + 1)), _, _)
      rw [if_pos c]
    · rw [if_neg c, cl_keeps_112 n fu _ _ (j + 1) (by omega) (by omega), vup_vup]
      show (upd (upd g 24 (g 24 + 1)) 24 (bcnt (F 19) n (j + 1) (g 24 + 1)), va_up F 27 (cpyF (j + 1) 160 (F 19) (upd (F 27) j (F 19 j))), 160) = _
      rw [cpyF_step (by omega), show upd (upd g 24 (g 24 + 1)) 24 (bcnt (F 19) n (j + 1) (g 24 + 1)) = upd g 24 (bcnt (F 19) n (j + 1) (g 24 + 1)) from vup_vup g 24 _ _]
      show _ = (upd g 24 (bcnt (F 19) n (j + 1) (if F 19 j ≤ (0 : Int32) then g 24 + 0 else g 24 + 1)), _, _)
      rw [if_neg c]
def kp9g (g : Nat → Int32) (F : Nat → Nat → Int32) : Nat → Int32 := upd (upd (upd (upd (upd g 20 (g 15)) 21 (if g 15 = 0 then (-1 : Int32) else g 16)) 22 (g 17)) 23 (if g 15 = 0 then (0 : Int32) else g 14)) 24 (bcnt (F 19) 160 0 (0 : Int32))
def kp9F (g : Nat → Int32) (F : Nat → Nat → Int32) : Nat → Nat → Int32 := va_up (va_up (va_up F 25 (cpy 8 (fun k => r_X9_openAt (nI k) g F) (F 25))) 26 (cpy 8 (F 11) (F 26))) 27 (cpy 160 (F 19) (F 27))
set_option maxHeartbeats 4000000 in
theorem cl_keeps (g : Nat → Int32) (F : Nat → Nat → Int32) : r_X9_keeps g F = (kp9g g F, kp9F g F) := by
  unfold r_X9_keeps
  rw [cl_keeps_61 _ _ _ _ (by omega) (by omega), cl_keeps_86 _ _ _ _ (by omega) (by omega), cl_keeps_112 160 _ _ _ _ (by omega) (by omega)]
  by_cases c : g 15 = 0
  · rw [if_pos c]
    simp only [cpyF_0]
    rw [upd_upd]
    unfold kp9g kp9F
    rw [if_pos c, if_pos c]
    rfl
  · rw [if_neg c]
    rw [cl_keeps_61 _ _ _ _ (by omega) (by omega), cl_keeps_86 _ _ _ _ (by omega) (by omega), cl_keeps_112 160 _ _ _ _ (by omega) (by omega)]
    simp only [cpyF_0]
    rw [upd_upd]
    unfold kp9g kp9F
    rw [if_neg c, if_neg c]
    rfl
