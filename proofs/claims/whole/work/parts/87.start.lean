/-! the first state: all is zero, but what stands for 'none' -/
def zg : Nat → Int32 := fun k => if k = 21 then (-1 : Int32) else 0
def zl : Nat → Int32 := fun k => if k = 6 then (-1 : Int32) else 0
def z1f : Nat → Int32 := fun _ => 0
def z2f : Nat → Nat → Int32 := fun _ _ => 0
theorem wf_start : WF z2f := fun _ => ⟨⟨show (0 : Int) ≤ (0 : Int32).toInt by decide, show (0 : Int32).toInt < (8 : Int) by decide⟩, fun h => absurd rfl h⟩
theorem j_start : J zg z2f :=
  ⟨⟨by decide, by decide⟩, ⟨by decide, by decide⟩, ⟨by decide, by decide⟩, ⟨by decide, by decide⟩, ⟨by decide, by decide⟩, ⟨by decide, by decide⟩, wf_start,
   fun _ => ⟨show (0 : Int) ≤ (0 : Int32).toInt by decide, show (0 : Int32).toInt ≤ (24 : Int) by decide⟩, fun _ => ⟨show (0 : Int) ≤ (0 : Int32).toInt by decide, show (0 : Int32).toInt ≤ (40 : Int) by decide⟩, fun _ => ⟨show (0 : Int) ≤ (0 : Int32).toInt by decide, show (0 : Int32).toInt ≤ (20 : Int) by decide⟩, fun _ => ⟨show (0 : Int) ≤ (0 : Int32).toInt by decide, show (0 : Int32).toInt ≤ (24 : Int) by decide⟩⟩
theorem lt_z {k : Nat} (h : (k : Int) < (0 : Int32).toInt) : False := by
  have e : (0 : Int32).toInt = 0 := rfl
  rw [e] at h
  omega
theorem lr_start : LR zl z2f zg z2f := by
  refine ⟨rfl, rfl, rfl, rfl, ?_, fun i => ?_, fun _ _ => rfl, fun _ _ => rfl⟩
  · exact (br_sim zl z2f z1f (fun _ _ => rfl) 160 _ 0 0 (by omega) (by omega)).trans (by decide +kernel)
  · have z : (0 : Int32).toInt = 0 := rfl
    have e : r_X9_in i 0 (zg 23 - 1) = 0 := by
      unfold r_X9_in
      by_cases c : i < 0
      · rw [if_pos c]
      · rw [if_neg c, if_pos]
        have e2 : (zg 23 - 1 : Int32).toInt = -1 := rfl
        simp only [sg_lt] at c ⊢
        omega
    unfold r_X9_called r_X7_openCall
    rw [if_pos e]
    by_cases c : i < 0
    · rw [if_pos c]
    · rw [if_neg c, if_pos]
      have e2 : (zl 4).toInt = 0 := rfl
      simp only [sg_lt, sg_le] at c ⊢
      omega
theorem br_start (b : Nat) : BR b 0 z1f 0 0 z1f z1f z1f 0 z1f z1f z2f := by
  refine ⟨⟨rfl, by decide, by decide⟩, ⟨rfl, ⟨show (0 : Int) ≤ (0 : Int32).toInt by decide, show (0 : Int32).toInt ≤ ((40 : Nat) : Int) by decide⟩, fun i hi => absurd hi (fun h => lt_z h)⟩, ⟨rfl, ⟨show (0 : Int) ≤ (0 : Int32).toInt by decide, show (0 : Int32).toInt ≤ ((20 : Nat) : Int) by decide⟩, fun i hi => absurd hi (fun h => lt_z h)⟩, fun f hf => absurd hf (fun h => lt_z h), fun k _ => ⟨0, by decide, rfl, by decide, fun d _ => ?_⟩⟩
  rw [Nat.zero_testBit]
  rfl
theorem rr_start : RR 0 0 0 z1f 0 z1f 0 zl z2f z1f 0 0 z1f z1f z1f 0 z1f z1f z1f 0 0 z1f z1f z1f 0 z1f z1f 0 0 0 0 0 zg z2f :=
  ⟨rfl, ⟨rfl, ⟨by decide, by decide⟩, wf_start, fun _ => ⟨show (0 : Int) ≤ (0 : Int32).toInt by decide, show (0 : Int32).toInt ≤ (17 : Int) by decide⟩, fun k hk => ⟨rfl, rfl, rfl, rfl⟩⟩, ⟨rfl, ⟨by decide, by decide⟩, fun k hk => absurd hk (fun h => lt_z h)⟩, lr_start, br_start 0, br_start 1, ⟨by decide, by decide, by decide, ⟨by decide, by decide⟩, by decide⟩, rfl, j_start⟩
