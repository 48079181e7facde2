/-! the class's inputs and shelves, in closed form -/
def mov (n x c : Nat) (e f : Nat → Int32) : Nat → Int32 := fun k => if n ≤ k ∧ k < n + c then e (x + (k - n)) else f k
theorem mov_0 (n x : Nat) (e f : Nat → Int32) : mov n x 0 e f = f := by
  funext k
  simp only [mov]
  rw [if_neg (by omega)]
theorem mov_step {n x c : Nat} (e f : Nat → Int32) : mov (n + 1) (x + 1) c e (upd f n (e x)) = mov n x (c + 1) e f := by
  funext k
  simp only [mov, upd]
  by_cases h : k = n
  · subst h
    rw [if_neg (by omega), if_pos rfl, if_pos (by omega), Nat.sub_self, Nat.add_zero]
  · rw [if_neg h]
    by_cases c2 : n + 1 ≤ k ∧ k < n + 1 + c
    · rw [if_pos c2, if_pos (by omega), show x + 1 + (k - (n + 1)) = x + (k - n) by omega]
    · rw [if_neg c2, if_neg (by omega)]
theorem mov_cpy (c : Nat) (e f : Nat → Int32) : mov 0 0 c e f = cpy c e f := by
  funext k
  simp only [mov, cpy]
  by_cases h : k < c
  · rw [if_pos (by omega), if_pos h]
    congr 1
    omega
  · rw [if_neg (by omega), if_neg h]
theorem nI_self {x : Int32} (h : 0 ≤ x.toInt) : nI x.toInt.toNat = x := by
  have hr := fb_rng x
  apply Int32.toInt_inj.mp
  rw [nI_toInt (by omega)]
  omega
theorem ap_lt {n b : Int32} {f : Nat → Int32} (h : 0 ≤ n.toInt ∧ n.toInt < 24) : r_X4_append b n f = (1, n + 1, upd f n.toNatClampNeg b) := by
  unfold r_X4_append
  have z : (0 : Int32).toInt = 0 := rfl
  have e24 : (24 : Int32).toInt = 24 := rfl
  rw [if_neg (show ¬ n < 0 by simp only [sg_lt]; omega), if_pos (show n < 24 by simp only [sg_lt]; omega)]
theorem ap_full {n b : Int32} {f : Nat → Int32} (h : 24 ≤ n.toInt) : r_X4_append b n f = (0, n, f) := by
  unfold r_X4_append
  have z : (0 : Int32).toInt = 0 := rfl
  have e24 : (24 : Int32).toInt = 24 := rfl
  rw [if_neg (show ¬ n < 0 by simp only [sg_lt]; omega), if_neg (show ¬ n < 24 by simp only [sg_lt]; omega)]
theorem sh_0 {n : Int32} {f : Nat → Int32} (h : 0 ≤ n.toInt) : r_X4_shorten (0 : Int32) n f = 0 := by
  unfold r_X4_shorten
  rw [if_neg (by decide)]
  have z : (0 : Int32).toInt = 0 := rfl
  by_cases c : n ≤ 0
  · rw [if_pos c]
    simp only [sg_le] at c
    apply Int32.toInt_inj.mp
    omega
  · rw [if_neg c]
theorem has_nI {on : Int32} {of : Nat → Int32} {x : Nat} (hon : 0 ≤ on.toInt ∧ on.toInt ≤ 24) (hx : x ≤ 24) : (r_X4_has (nI x) on of = 0 ↔ on.toInt.toNat ≤ x) ∧ (x < on.toInt.toNat → r_X4_get (nI x) on of = of x) := by
  have e := nI_toInt (n := x) (by omega)
  have q := in0 (x := nI x) (uf := of) hon
  constructor
  · constructor
    · intro h
      by_cases c : x < on.toInt.toNat
      · exfalso
        unfold r_X4_has at h
        have z : (0 : Int32).toInt = 0 := rfl
        have e24 : (24 : Int32).toInt = 24 := rfl
        rw [if_neg (show ¬ nI x < 0 by simp only [sg_lt]; omega), if_neg (show ¬ on ≤ nI x by simp only [sg_le]; omega), if_neg (show ¬ 24 ≤ nI x by simp only [sg_le]; omega)] at h
        exact absurd h (by decide)
      · omega
    · intro h
      by_cases c : r_X4_has (nI x) on of = 0
      · exact c
      · have := (q.2 c).1
        omega
  · intro h
    by_cases c : r_X4_has (nI x) on of = 0
    · exfalso
      unfold r_X4_has at c
      have z : (0 : Int32).toInt = 0 := rfl
      have e24 : (24 : Int32).toInt = 24 := rfl
      rw [if_neg (show ¬ nI x < 0 by simp only [sg_lt]; omega), if_neg (show ¬ on ≤ nI x by simp only [sg_le]; omega), if_neg (show ¬ 24 ≤ nI x by simp only [sg_le]; omega)] at c
      exact absurd c (by decide)
    · rw [(q.2 c).2, nI_clamp (by omega)]
theorem ap_g (on : Int32) (of : Nat → Int32) (hon : 0 ≤ on.toInt ∧ on.toInt ≤ 24) (fr up : Int32) (hup : 0 ≤ up.toInt) : ∀ (fu : Nat) (N x : Nat) (f : Nat → Int32), 24 - x < fu → N ≤ 24 → x ≤ 24 → g_X4_appendPart_3 on of fr up fu (nI N) f (nI x) = (nI (N + min (min up.toInt.toNat on.toInt.toNat - x) (24 - N)), mov N x (min (min up.toInt.toNat on.toInt.toNat - x) (24 - N)) of f)
  | 0, _, _, _, h, _, _ => absurd h (Nat.not_lt_zero _)
  | fu + 1, N, x, f, h, hN, hx => by
    unfold g_X4_appendPart_3
    dsimp only
    have hh := has_nI (on := on) (of := of) hon hx
    have e := nI_toInt (n := x) (by omega)
    have eN := nI_toInt (n := N) (by omega)
    by_cases c : up ≤ nI x
    · have c2 : up.toInt.toNat ≤ x := (le_nI (by omega)).mp c
      rw [if_pos c, show min (min up.toInt.toNat on.toInt.toNat - x) (24 - N) = 0 by omega, mov_0, Nat.add_zero]
    · have c2 : ¬ up.toInt.toNat ≤ x := fun q => c ((le_nI (by omega)).mpr q)
      rw [if_neg c]
      by_cases d : r_X4_has (nI x) on of = 0
      · have d2 := hh.1.mp d
        rw [if_pos d, show min (min up.toInt.toNat on.toInt.toNat - x) (24 - N) = 0 by omega, mov_0, Nat.add_zero]
      · have d2 : ¬ on.toInt.toNat ≤ x := fun q => d (hh.1.mpr q)
        rw [if_neg d, hh.2 (by omega), nI_1]
        by_cases n24 : N < 24
        · rw [ap_lt (by omega)]
          dsimp only
          rw [nI_clamp (by omega), nI_1, ap_g on of hon fr up hup fu (N + 1) (x + 1) _ (by omega) (by omega) (by omega), show min (min up.toInt.toNat on.toInt.toNat - x) (24 - N) = min (min up.toInt.toNat on.toInt.toNat - (x + 1)) (24 - (N + 1)) + 1 by omega, mov_step, show N + 1 + min (min up.toInt.toNat on.toInt.toNat - (x + 1)) (24 - (N + 1)) = N + (min (min up.toInt.toNat on.toInt.toNat - (x + 1)) (24 - (N + 1)) + 1) by omega]
        · rw [ap_full (by omega)]
          dsimp only
          rw [ap_g on of hon fr up hup fu N (x + 1) _ (by omega) (by omega) (by omega), show min (min up.toInt.toNat on.toInt.toNat - (x + 1)) (24 - N) = 0 by omega, show min (min up.toInt.toNat on.toInt.toNat - x) (24 - N) = 0 by omega, mov_0, mov_0]
theorem ap_big (on : Int32) (of : Nat → Int32) (hon : 0 ≤ on.toInt ∧ on.toInt ≤ 24) {fr up : Int32} (hfr : 24 ≤ fr.toInt) (n : Int32) (f : Nat → Int32) (fu : Nat) : g_X4_appendPart_3 on of fr up (fu + 1) n f fr = (n, f) := by
  unfold g_X4_appendPart_3
  dsimp only
  by_cases c : up ≤ fr
  · rw [if_pos c]
  · rw [if_neg c, if_pos]
    unfold r_X4_has
    have z : (0 : Int32).toInt = 0 := rfl
    rw [if_neg (show ¬ fr < 0 by simp only [sg_lt]; omega), if_pos (show on ≤ fr by simp only [sg_le]; omega)]
theorem ap_cl {n fr up on : Int32} {f of : Nat → Int32} (hn : 0 ≤ n.toInt ∧ n.toInt ≤ 24) (hon : 0 ≤ on.toInt ∧ on.toInt ≤ 24) (hup : 0 ≤ up.toInt) (hfr : 0 ≤ fr.toInt) : r_X4_appendPart fr up n f on of = (nI (n.toInt.toNat + min (min up.toInt.toNat on.toInt.toNat - fr.toInt.toNat) (24 - n.toInt.toNat)), mov n.toInt.toNat fr.toInt.toNat (min (min up.toInt.toNat on.toInt.toNat - fr.toInt.toNat) (24 - n.toInt.toNat)) of f) := by
  unfold r_X4_appendPart
  by_cases c : fr.toInt ≤ 24
  · have h := ap_g on of hon fr up hup ((24 - fr.toInt).toNat + 1) n.toInt.toNat fr.toInt.toNat f (by omega) (by omega) (by omega)
    rw [nI_self hn.1, nI_self hfr] at h
    exact h
  · rw [ap_big on of hon (by omega), show min (min up.toInt.toNat on.toInt.toNat - fr.toInt.toNat) (24 - n.toInt.toNat) = 0 by omega, mov_0, Nat.add_zero, nI_self hn.1]
theorem copy_cl {n on : Int32} {f of : Nat → Int32} (hn : 0 ≤ n.toInt) (hon : 0 ≤ on.toInt ∧ on.toInt ≤ 24) : r_X4_copy n f on of = (on, cpy on.toInt.toNat of f) := by
  unfold r_X4_copy
  have e24 : (24 : Int32).toInt.toNat = 24 := rfl
  have z : (0 : Int32).toInt.toNat = 0 := rfl
  rw [sh_0 hn]
  dsimp only
  rw [ap_cl (by decide) hon (by decide) (by decide), e24, z, show 0 + min (min 24 on.toInt.toNat - 0) (24 - 0) = on.toInt.toNat by omega, show min (min 24 on.toInt.toNat - 0) (24 - 0) = on.toInt.toNat by omega, mov_cpy, nI_self hon.1]
theorem parts_cl {up fr n on : Int32} {f of : Nat → Int32} (hn : 0 ≤ n.toInt) (hon : 0 ≤ on.toInt ∧ on.toInt ≤ 24) (hup : 0 ≤ up.toInt) (hfr : 0 ≤ fr.toInt) : r_X4_copyParts up fr n f on of = (nI (min up.toInt.toNat on.toInt.toNat + min (on.toInt.toNat - fr.toInt.toNat) (24 - min up.toInt.toNat on.toInt.toNat)), mov (min up.toInt.toNat on.toInt.toNat) fr.toInt.toNat (min (on.toInt.toNat - fr.toInt.toNat) (24 - min up.toInt.toNat on.toInt.toNat)) of (cpy (min up.toInt.toNat on.toInt.toNat) of f)) := by
  unfold r_X4_copyParts
  have e24 : (24 : Int32).toInt.toNat = 24 := rfl
  have z : (0 : Int32).toInt.toNat = 0 := rfl
  rw [sh_0 hn]
  dsimp only
  rw [ap_cl (fr := 0) (by decide) hon hup (by decide), z, show min (min up.toInt.toNat on.toInt.toNat - 0) (24 - 0) = min up.toInt.toNat on.toInt.toNat by omega, mov_cpy, Nat.zero_add]
  have e1 := nI_toInt (n := min up.toInt.toNat on.toInt.toNat) (by omega)
  rw [ap_cl (n := nI (min up.toInt.toNat on.toInt.toNat)) (by rw [e1]; omega) hon (by decide) hfr, e1, e24, show ((min up.toInt.toNat on.toInt.toNat : Nat) : Int).toNat = min up.toInt.toNat on.toInt.toNat by omega, show min (min 24 on.toInt.toNat - fr.toInt.toNat) (24 - min up.toInt.toNat on.toInt.toNat) = min (on.toInt.toNat - fr.toInt.toNat) (24 - min up.toInt.toNat on.toInt.toNat) by omega]
theorem put_cl {i b n : Int32} {f : Nat → Int32} (h : 0 ≤ i.toInt ∧ i.toInt < n.toInt) (hn : n.toInt ≤ 24) : r_X4_put i b n f = upd f i.toNatClampNeg b := by
  unfold r_X4_put
  have z : (0 : Int32).toInt = 0 := rfl
  have e24 : (24 : Int32).toInt = 24 := rfl
  rw [if_neg (show ¬ i < 0 by simp only [sg_lt]; omega), if_neg (show ¬ n ≤ i by simp only [sg_le]; omega), if_neg (show ¬ 24 ≤ i by simp only [sg_le]; omega)]
theorem get_cl {i n : Int32} {f : Nat → Int32} (h : 0 ≤ i.toInt ∧ i.toInt < n.toInt) (hn : n.toInt ≤ 24) : r_X4_get i n f = f i.toNatClampNeg := by
  unfold r_X4_get
  have z : (0 : Int32).toInt = 0 := rfl
  have e24 : (24 : Int32).toInt = 24 := rfl
  rw [if_neg (show ¬ i < 0 by simp only [sg_lt]; omega), if_neg (show ¬ n ≤ i by simp only [sg_le]; omega), if_neg (show ¬ 24 ≤ i by simp only [sg_le]; omega)]
theorem get_out {i n : Int32} {f : Nat → Int32} (h : i.toInt < 0 ∨ n.toInt ≤ i.toInt) : r_X4_get i n f = -1 := by
  unfold r_X4_get
  have z : (0 : Int32).toInt = 0 := rfl
  by_cases c : i < 0
  · rw [if_pos c]
  · simp only [sg_lt] at c
    rw [if_neg (show ¬ i < 0 by simp only [sg_lt]; omega), if_pos (show n ≤ i by simp only [sg_le]; omega)]
theorem ct_g (n : Int32) (f z : Nat → Int32) (M : Nat) (i : Int32) (hi : 0 ≤ i.toInt ∧ i.toInt < 80) {Z : Nat} (hZ : (z i.toNatClampNeg).toInt.toNat = Z) (h24 : Z ≤ 24) : ∀ (fu : Nat) (uf : Nat → Int32) (j : Nat), Z - j < fu → j ≤ Z → g_X6_copyTo_22 n f z M i (i * (24 : Int32)) fu (nI j) uf j = (nI Z, cpyF j Z (fun k => f (24 * i.toInt.toNat + k)) uf)
  | 0, _, _, h, _ => absurd h (Nat.not_lt_zero _)
  | fu + 1, uf, j, h, hj => by
    unfold g_X6_copyTo_22
    dsimp only
    have e := nI_toInt (n := j) (by omega)
    have e24 : (24 : Int32).toInt = 24 := rfl
    by_cases c : Z ≤ j
    · obtain rfl : j = Z := by omega
      rw [if_pos ((le_nI (by omega)).mpr (by omega)), cpyF_end (Nat.le_refl _)]
    · rw [if_neg (fun q => c (by have := (le_nI (by omega)).mp q; omega)), if_neg (show ¬ (24 : Int32) ≤ nI j by simp only [sg_le]; omega), ap_lt (by omega)]
      dsimp only
      rw [nI_clamp (by omega), nI_1, Int32.mul_comm, ix24 hi (by omega), ← Int32.mul_comm, ct_g n f z M i hi hZ h24 fu _ (j + 1) (by omega) (by omega)]
      rw [cpyF_step (by omega) (fun k => f (24 * i.toInt.toNat + k))]
theorem copyTo_cl {i n un : Int32} {M : Nat} {f z uf : Nat → Int32} (hi : 0 ≤ i.toInt ∧ i.toInt < n.toInt) (hn : n.toInt ≤ (M : Int)) (hM : M ≤ 80) (hz : 0 ≤ (z i.toNatClampNeg).toInt ∧ (z i.toNatClampNeg).toInt ≤ 24) (hu : 0 ≤ un.toInt) : r_X6_copyTo i M n f z un uf = (z i.toNatClampNeg, cpy (z i.toNatClampNeg).toInt.toNat (fun k => f (24 * i.toInt.toNat + k)) uf) := by
  unfold r_X6_copyTo
  have h : ¬ r_X6_has i M n f z = 0 := by
    unfold r_X6_has
    have z0 : (0 : Int32).toInt = 0 := rfl
    rw [if_neg (show ¬ i < 0 by simp only [sg_lt]; omega), if_neg (show ¬ n ≤ i by simp only [sg_le]; omega), if_neg (show ¬ nI M ≤ i by simp only [sg_le]; rw [nI_toInt (by omega)]; omega)]
    decide
  rw [if_neg h]
  dsimp only
  rw [sh_0 hu]
  have q := ct_g n f z M i (by omega) rfl (by omega) (24 - 0 + 1) uf 0 (by omega) (by omega)
  rw [show nI 0 = 0 from rfl, cpyF_0, nI_self hz.1] at q
  exact q
theorem sa_g (n : Int32) (z : Nat → Int32) (un : Int32) (uf : Nat → Int32) (M : Nat) (hn : 0 ≤ n.toInt ∧ n.toInt < 80) (hu : 0 ≤ un.toInt ∧ un.toInt ≤ 24) : ∀ (fu : Nat) (f : Nat → Int32) (j : Nat), un.toInt.toNat - j < fu → j ≤ 24 → g_X6_append_30 n z un uf M (n * (24 : Int32)) fu f j = (1, n + 1, stoF (24 * n.toInt.toNat) j un.toInt.toNat uf f, upd z n.toNatClampNeg un)
  | 0, _, _, h, _ => absurd h (Nat.not_lt_zero _)
  | fu + 1, f, j, h, hj => by
    unfold g_X6_append_30
    have e := nI_toInt (n := j) (by omega)
    have e24 : (24 : Int32).toInt = 24 := rfl
    by_cases c : un.toInt.toNat ≤ j
    · rw [if_pos ((le_nI (by omega)).mpr (by omega)), stoF_end c]
    · rw [if_neg (fun q => c (by have := (le_nI (by omega)).mp q; omega)), if_neg (show ¬ (24 : Int32) ≤ nI j by simp only [sg_le]; omega), (has_nI hu (by omega)).2 (by omega), Int32.mul_comm, ix24 hn (by omega), ← Int32.mul_comm, sa_g n z un uf M hn hu fu _ (j + 1) (by omega) (by omega), stoF_step (by omega)]
theorem sapp_cl {n un : Int32} {M : Nat} {f z uf : Nat → Int32} (hn : 0 ≤ n.toInt ∧ n.toInt < (M : Int)) (hM : M ≤ 80) (hu : 0 ≤ un.toInt ∧ un.toInt ≤ 24) : r_X6_append M n f z un uf = (1, n + 1, stoF (24 * n.toInt.toNat) 0 un.toInt.toNat uf f, upd z n.toNatClampNeg un) := by
  unfold r_X6_append
  have z0 : (0 : Int32).toInt = 0 := rfl
  rw [if_neg (show ¬ n < 0 by simp only [sg_lt]; omega), if_pos (show n < nI M by simp only [sg_lt]; rw [nI_toInt (by omega)]; omega)]
  exact sa_g n z un uf M (by omega) hu _ f 0 (by omega) (by omega)
theorem sapp_full {n un : Int32} {M : Nat} {f z uf : Nat → Int32} (hn : (M : Int) ≤ n.toInt) (hM : M ≤ 80) : r_X6_append M n f z un uf = (0, n, f, z) := by
  unfold r_X6_append
  have z0 : (0 : Int32).toInt = 0 := rfl
  rw [if_neg (show ¬ n < 0 by simp only [sg_lt]; omega), if_neg (show ¬ n < nI M by simp only [sg_lt]; rw [nI_toInt (by omega)]; omega)]
