/-! unwrap's fuel. -/
theorem uw_fuel : ∀ (k k' : Nat) (l : List Int32), l.length < 4 * k → l.length < 4 * k' → uw k l = uw k' l
  | 0, _, _, h, _ => absurd h (by omega)
  | _ + 1, 0, _, _, h => absurd h (by omega)
  | k + 1, k' + 1, l, h, h' => by
    rw [uw, uw]
    by_cases e : l.length < 4
    · rw [if_pos e, if_pos e]
    · rw [uw_fuel k k' (l.drop (4 + fcn (wat l 0))) (by rw [List.length_drop]; omega) (by rw [List.length_drop]; omega)]
theorem uw_60 {l : List Int32} (h : l.length ≤ 210) : uw l.length l = uw 60 l := by
  by_cases e : l.length = 0
  · have : l = [] := List.eq_nil_of_length_eq_zero e
    subst this
    rfl
  · exact uw_fuel _ _ l (by omega) (by omega)
