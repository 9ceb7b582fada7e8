/-! The relation of the class's row and the reference's state at base b: boards, settings, time -/
/-- how a fuse is: what is left of its arc, whether it is open -/
def hwR (lf : Int32) (op : Bool) (how rl : Int32) : Prop := ∃ a, a ≤ 9 ∧ lf = nI a ∧ rl = nI a ∧ ((op = false ∧ ((a = 0 ∧ how = 0) ∨ (0 < a ∧ how = 1))) ∨ (op = true ∧ a = 0 ∧ how = 2))
theorem upd_eq (f : zA) (k : Nat) (x : Int32) : upd f k x k = x := if_pos rfl
theorem upd_ne {f : zA} {k j : Nat} {x : Int32} (h : j ≠ k) : upd f k x j = f j := if_neg h
def FRr (row row' : zA) : Prop := ∀ j, (j = 2 ∨ j = 5 ∨ j = 6 ∨ 97 ≤ j) → row' j = row j
theorem FRr.rf (row : zA) : FRr row row := fun _ _ => rfl
theorem FRr.tr {a c d : zA} (h : FRr a c) (k : FRr c d) : FRr a d := fun j hj => (k j hj).trans (h j hj)
/-- what one board's step may change -/
def stR (row row' : zA) (k : Nat) : Prop := ∀ j, j ≠ 47 + k → j ≠ 57 + k → j ≠ 67 + k → j ≠ 77 + k → j ≠ 7 → row' j = row j
theorem stR.FR {row row' : zA} {k : Nat} (hk : k < 10) (h : stR row row' k) : FRr row row' := fun j hj => h j (by omega) (by omega) (by omega) (by omega) (by omega)
