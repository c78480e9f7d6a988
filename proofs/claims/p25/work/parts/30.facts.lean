section FACTS
/-- the first table: no process but 0 -/
def Ti : Tb := fun f p => if f = 8 ∧ p = 0 then 1 else 0
theorem wf_i : WF Ti 1 := ⟨⟨by omega, by omega⟩, by decide, fun p h1 h2 => by omega⟩
def U1 : Tb := bT Ti 1 1 0 0 0 0
def U2 (y : Nat) : Tb := bT U1 2 4 3 y 1 0
def U3 (x y : Nat) : Tb := bT (U2 y) 3 3 x 0 2 0
def U4 (x y : Nat) : Tb := bT (U3 x y) 4 3 x 0 0 0
def U5 (x y : Nat) : Tb := bT (U4 x y) 5 3 x 0 1 0
def U6 (x y : Nat) : Tb := bT (U5 x y) 6 5 0 0 5 4
def U7 (x y : Nat) : Tb := bT (U6 x y) 7 5 0 0 6 3
theorem f_1 : 1 < 24 ∧ bD Ti 1 0 0 ≤ 3 ∧ bB Ti 1 0 0 ≤ 3 := by decide +kernel
theorem f_2 : 2 < 24 ∧ bD U1 4 1 0 ≤ 3 ∧ bB U1 4 1 0 ≤ 3 := by decide +kernel
theorem f_3 : ∀ y, y < 3 → 3 < 24 ∧ bD (U2 y) 3 2 0 ≤ 3 ∧ bB (U2 y) 3 2 0 ≤ 3 := by decide +kernel
theorem f_4 : ∀ x, x < 3 → ∀ y, y < 3 → 4 < 24 ∧ bD (U3 x y) 3 0 0 ≤ 3 ∧ bB (U3 x y) 3 0 0 ≤ 3 := by decide +kernel
theorem f_5 : ∀ x, x < 3 → ∀ y, y < 3 → 5 < 24 ∧ bD (U4 x y) 3 1 0 ≤ 3 ∧ bB (U4 x y) 3 1 0 ≤ 3 := by decide +kernel
theorem f_6 : ∀ x, x < 3 → ∀ y, y < 3 → 6 < 24 ∧ bD (U5 x y) 5 5 4 ≤ 3 ∧ bB (U5 x y) 5 5 4 ≤ 3 := by decide +kernel
theorem f_7 : ∀ x, x < 3 → ∀ y, y < 3 → 7 < 24 ∧ bD (U6 x y) 5 6 3 ≤ 3 ∧ bB (U6 x y) 5 6 3 ≤ 3 := by decide +kernel
theorem f_8 : ∀ x, x < 3 → ∀ y, y < 3 → ¬ (8 < 24 ∧ bD (U7 x y) 5 7 2 ≤ 3 ∧ bB (U7 x y) 5 7 2 ≤ 3) := by decide +kernel
theorem q_n : ∀ x, x < 3 → ∀ y, y < 3 → U4 x y 7 2 = 1 ∧ U4 x y 7 3 = 0 ∧ U4 x y 7 4 = 0 ∧ U7 x y 7 6 = 0 ∧ U7 x y 7 7 = 0 := by decide +kernel
theorem q_r : ∀ x, x < 3 → ∀ y, y < 3 → x ≠ y → rnd (U4 x y) 0 3 4 = 4 ∧ rnd (U4 x y) 1 3 4 = 2 ∧ rnd (U4 x y) 2 3 4 = 2 ∧ rnd (U4 x y) 1 4 3 = 2 := by decide +kernel
theorem q_a : ∀ x, x < 3 → ∀ y, y < 3 → x ≠ y → atkR (U4 x y) 1 3 4 = nI y ∧ atkR (U4 x y) 2 3 4 = nI 9 := by decide +kernel
theorem q_m : ∀ x, x < 3 → ∀ y, y < 3 → x ≠ y → (mvs (U7 x y) 7 []).length = 3 := by decide +kernel
theorem q_s : ∀ x, x < 3 → ∀ y, y < 3 → x ≠ y → rnd (U7 x y) 0 6 7 = 4 ∧ rnd (U7 x y) 1 6 7 = 4 ∧ rnd (U7 x y) 2 6 7 = 2 := by decide +kernel
theorem q_b : ∀ x, x < 3 → ∀ y, y < 3 → x ≠ y → atkR (U7 x y) 2 6 7 = nI 1029 ∧ atkR (U7 x y) 2 7 6 = nI 29 := by decide +kernel
theorem q_l : ∀ x, x < 3 → ∀ y, y < 3 → x ≠ y → lows (U7 x y) 1 7 = 6 ∧ lows (U7 x y) 2 7 = 7 := by decide +kernel
theorem q_c : ∀ x, x < 3 → ∀ y, y < 3 → x ≠ y → cls (U7 x y) 8 0 ≤ cls (U7 x y) 8 1 ∧ cls (U7 x y) 8 1 ≤ cls (U7 x y) 8 2 ∧ cls (U7 x y) 8 2 ≤ 8 := by decide +kernel
end FACTS
