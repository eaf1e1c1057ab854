/-! new objects' fields -/
theorem nwM : ∀ j, j < 13 → defaultValue (tyX4 j) = vp_V (mvL fun _ => 0) j := by
  intro j hj
  rcases (show j = 0 ∨ j = 1 ∨ j = 2 ∨ j = 3 ∨ j = 4 ∨ j = 5 ∨ j = 6 ∨ j = 7 ∨ j = 8 ∨ j = 9 ∨ j = 10 ∨ j = 11 ∨ j = 12 by omega) with h | h | h | h | h | h | h | h | h | h | h | h | h <;> subst h <;> rfl
theorem nwL : ∀ j, j < 3 → defaultValue (tyX3 j) = vp_V (ldL fun _ => 0) j := by
  intro j hj
  rcases (show j = 0 ∨ j = 1 ∨ j = 2 by omega) with h | h | h <;> subst h <;> rfl
def hoD : List Value := [.null, .null, .null, .int (zI 0), .int (zI 0), .int (zI 0), .int (zI 0)]
theorem nwH : ∀ j, j < 7 → defaultValue (tyX2 j) = vp_V hoD j := by
  intro j hj
  rcases (show j = 0 ∨ j = 1 ∨ j = 2 ∨ j = 3 ∨ j = 4 ∨ j = 5 ∨ j = 6 by omega) with h | h | h | h | h | h | h <;> subst h <;> rfl
def pdD : List Value := [.null, .int (zI 0)]
theorem nwP : ∀ j, j < 2 → defaultValue (tyX5 j) = vp_V pdD j := by
  intro j hj
  rcases (show j = 0 ∨ j = 1 by omega) with h | h <;> subst h <;> rfl
def hyD : List Value := [.null, .int (zI 0), .int (zI 0)]
theorem nwY : ∀ j, j < 3 → defaultValue (tyX1 j) = vp_V hyD j := by
  intro j hj
  rcases (show j = 0 ∨ j = 1 ∨ j = 2 by omega) with h | h | h <;> subst h <;> rfl
def edD : List Value := [.null, .null, .null, .null, .null, .null]
theorem nwE : ∀ j, j < 6 → defaultValue (tyX6 j) = vp_V edD j := by
  intro j hj
  rcases (show j = 0 ∨ j = 1 ∨ j = 2 ∨ j = 3 ∨ j = 4 ∨ j = 5 by omega) with h | h | h | h | h | h <;> subst h <;> rfl