-- a try: Weave.begin, Math.max
theorem tst_max (x y : Int32) (h : pm_H) (Q : Option Value → pm_H → Prop) (k : Q (some (.int (if x < y then y else x))) h) : WP 179 0 [some (.int x), some (.int y)] [] h Q := by
  refine WP.nx rfl (WP.nx rfl (WP.br rfl (fun c => ?_) (fun c => ?_)))
  · refine WP.nx rfl (WP.rt rfl trivial ?_)
    rw [if_pos c] at k
    exact k
  · refine WP.nx rfl (WP.nx rfl (WP.rt rfl trivial ?_))
    rw [if_neg c] at k
    exact k
