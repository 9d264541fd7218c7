/-! THE REFERENCE: plans -/
section KV
variable {L : Nat} {xs : Nat → Int32}
end KV
theorem zq_0 : (((1010 : Nat) : Int) - 1010) = 0 := rfl
theorem zq_1 : (((1011 : Nat) : Int) - 1010) = 1 := rfl
theorem zq_2 : (((1012 : Nat) : Int) - 1010) = 2 := rfl
theorem zq_3 : (((1013 : Nat) : Int) - 1010) = 3 := rfl
section RF6
variable {L : Nat} {xs : Nat → Int32} {d t : Nat} {T : zT} {A B C F : Int → Int}
def rOff (row l : Int) (A X : Int → Int) : Prop := ∀ j, ¬ (63 * row ≤ j ∧ j < 63 * (row + l)) → X j = A j
theorem zfPlan_1 {b m : Int} (h : zfPlan A b m = 1010) : 0 ≤ b ∧ b < A 0 ∧ 1 ≤ m ∧ m ≤ 4 := by
  unfold zfPlan at h
  split at h
  · split at h <;> omega
  · omega
end RF6
