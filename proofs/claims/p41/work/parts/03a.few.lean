def inR (x : Int) : Prop := -2147483648 ≤ x ∧ x < 2147483648
