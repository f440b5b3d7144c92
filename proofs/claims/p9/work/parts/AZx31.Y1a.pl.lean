/-! ### a place: what was read -/
/-- the words of a place: the class behind in, the TYPE's row, the class behind above -/
def yPl (T : yT) (B : yB) (o : Int) (L : List Int) (k : Int) : Prop := ∃ p p1 n1 f, yqo T B = .inl (o, p) ∧ yR T (10, p, 0, [], yQB B 0 o 4) (14, p1, 0, [f], yN (yQB B 0 o 4) 0 2 n1) ∧ L = ycd f ∧ k = yfc B (ynm T (ynx T p1)).toInt ∧ 0 ≤ k
