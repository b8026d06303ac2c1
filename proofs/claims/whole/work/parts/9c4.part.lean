/-! what a life leaves of what is counted -/
section S9c4
variable {e s s' t u : ZS} {o n i k V m ov en par : Int} {sd : Int32} {Fa Wh : Int32} {K : Nat → Int} {F : Nat → Int → Int}
theorem zLf.fx (h : zLf e K F s V Fa Wh s') : zFx e s s' := by
  obtain ⟨sd, Fb, Wb, ob, sb, h1, V1, F1, W1, o1, s1, h2, h3⟩ := h
  refine h1.fx.tr (zFx.tr ?_ h3.fx)
  rcases h2 with ⟨-, z, -⟩ | ⟨-, u, z, -, z2, -⟩
  · rw [z]; exact zFx.r
  · rw [z2]
    exact zFx.tr (t := zw sb 0 0 0 (iI (K 3))) (zFx.eq rfl rfl rfl rfl ⟨rfl, rfl⟩) z.fx
end S9c4
