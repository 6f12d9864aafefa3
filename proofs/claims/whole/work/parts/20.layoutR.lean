/-! the layout of the reference's world (wip/gen/interp.py) -/
def LR : List (Nat × Nat) := [(9, 13), (0, 11), (1, 133), (1, 6), (3, 80), (5, 40), (1, 54), (3, 40), (3, 40), (1, 6), (1, 36), (1, 36), (1, 36), (1, 1596), (1, 133), (1, 133), (1, 36), (1, 240), (1, 36), (1, 12), (1, 41), (1, 266), (2, 2), (1, 2)]
def PRl : List Nat := [2, 0, 0, 0, 0, 3, 4, 0, 5, 0, 0, 0, 0, 0, 0, 0, 6, 7, 8, 0, 0, 9, 10, 11, 12, 0, 13, 0, 14, 15, 16, 0, 0, 17, 18, 19, 0, 0, 20, 0, 0, 21, 22, 23]
/-- the pointers; rd: what is being read, ru: the rule that stands -/
def PR (rd ru : Nat) : PM := fun o k => if o = 1 ∧ k = 11 then rd else if o = 1 ∧ k = 17 then ru else if o = 1 then PRl.getD k 0 else 0
theorem kR_0 : kd (kz LR) 0 = (9, 13) := rfl
theorem kR_1 : kd (kz LR) 1 = (0, 11) := rfl
theorem kR_2 : kd (kz LR) 2 = (1, 133) := rfl
theorem kR_3 : kd (kz LR) 3 = (1, 6) := rfl
theorem kR_4 : kd (kz LR) 4 = (3, 80) := rfl
theorem kR_5 : kd (kz LR) 5 = (5, 40) := rfl
theorem kR_6 : kd (kz LR) 6 = (1, 54) := rfl
theorem kR_7 : kd (kz LR) 7 = (3, 40) := rfl
theorem kR_8 : kd (kz LR) 8 = (3, 40) := rfl
theorem kR_9 : kd (kz LR) 9 = (1, 6) := rfl
theorem kR_10 : kd (kz LR) 10 = (1, 36) := rfl
theorem kR_11 : kd (kz LR) 11 = (1, 36) := rfl
theorem kR_12 : kd (kz LR) 12 = (1, 36) := rfl
theorem kR_13 : kd (kz LR) 13 = (1, 1596) := rfl
theorem kR_14 : kd (kz LR) 14 = (1, 133) := rfl
theorem kR_15 : kd (kz LR) 15 = (1, 133) := rfl
theorem kR_16 : kd (kz LR) 16 = (1, 36) := rfl
theorem kR_17 : kd (kz LR) 17 = (1, 240) := rfl
theorem kR_18 : kd (kz LR) 18 = (1, 36) := rfl
theorem kR_19 : kd (kz LR) 19 = (1, 12) := rfl
theorem kR_20 : kd (kz LR) 20 = (1, 41) := rfl
theorem kR_21 : kd (kz LR) 21 = (1, 266) := rfl
theorem kR_22 : kd (kz LR) 22 = (2, 2) := rfl
theorem kR_23 : kd (kz LR) 23 = (1, 2) := rfl
theorem pR_0 {rd ru : Nat} : PR rd ru 1 0 = 2 := rfl
theorem pR_5 {rd ru : Nat} : PR rd ru 1 5 = 3 := rfl
theorem pR_6 {rd ru : Nat} : PR rd ru 1 6 = 4 := rfl
theorem pR_8 {rd ru : Nat} : PR rd ru 1 8 = 5 := rfl
theorem pR_16 {rd ru : Nat} : PR rd ru 1 16 = 6 := rfl
theorem pR_18 {rd ru : Nat} : PR rd ru 1 18 = 8 := rfl
theorem pR_21 {rd ru : Nat} : PR rd ru 1 21 = 9 := rfl
theorem pR_22 {rd ru : Nat} : PR rd ru 1 22 = 10 := rfl
theorem pR_23 {rd ru : Nat} : PR rd ru 1 23 = 11 := rfl
theorem pR_24 {rd ru : Nat} : PR rd ru 1 24 = 12 := rfl
theorem pR_26 {rd ru : Nat} : PR rd ru 1 26 = 13 := rfl
theorem pR_28 {rd ru : Nat} : PR rd ru 1 28 = 14 := rfl
theorem pR_29 {rd ru : Nat} : PR rd ru 1 29 = 15 := rfl
theorem pR_30 {rd ru : Nat} : PR rd ru 1 30 = 16 := rfl
theorem pR_33 {rd ru : Nat} : PR rd ru 1 33 = 17 := rfl
theorem pR_34 {rd ru : Nat} : PR rd ru 1 34 = 18 := rfl
theorem pR_35 {rd ru : Nat} : PR rd ru 1 35 = 19 := rfl
theorem pR_38 {rd ru : Nat} : PR rd ru 1 38 = 20 := rfl
theorem pR_41 {rd ru : Nat} : PR rd ru 1 41 = 21 := rfl
theorem pR_42 {rd ru : Nat} : PR rd ru 1 42 = 22 := rfl
theorem pR_43 {rd ru : Nat} : PR rd ru 1 43 = 23 := rfl
theorem pR_11 {rd ru : Nat} : PR rd ru 1 11 = rd := rfl
theorem pR_17 {rd ru : Nat} : PR rd ru 1 17 = ru := rfl
theorem uP_rd {rd ru x : Nat} : uP (PR rd ru) 1 11 x = PR x ru := by
  funext o k
  unfold uP PR
  by_cases h : o = 1
  · by_cases h2 : k = 11 <;> simp [h, h2]
  · simp [h]
theorem uP_ru {rd ru x : Nat} : uP (PR rd ru) 1 17 x = PR rd x := by
  funext o k
  unfold uP PR
  by_cases h : o = 1
  · by_cases h2 : k = 17
    · simp [h, h2]
    · by_cases h3 : k = 11 <;> simp [h, h2, h3]
  · simp [h]
