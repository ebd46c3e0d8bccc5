/-! THE LAW'S WORLD: the class's cells, the reference's cells, the two rows of one place -/
section LW
theorem z_set_app {α : Type} (x y : α) (t : List α) : ∀ a : List α, (a ++ x :: t).set a.length y = a ++ y :: t
  | [] => rfl
  | z :: a => by
    show z :: (a ++ x :: t).set a.length y = z :: (a ++ y :: t)
    rw [z_set_app x y t a]
theorem z_zg_app {α : Type} (x : α) (t : List α) : ∀ a : List α, zg (a ++ x :: t) a.length = some x
  | [] => rfl
  | z :: a => by
    show zg (a ++ x :: t) a.length = some x
    exact z_zg_app x t a
theorem zput_nil (w r : zW) (f : zE → zE) : zput w [] r f = w := by cases r <;> rfl
variable {wx wm : zW} {fo : Nat → Int64} {fd : Nat → UInt64}
/-! what a wrapper answers: 0 and the answer in its row, or the place of the exception -/
end LW
