/-! what a life leaves of what is counted -/
def zFx (e s t : ZS) : Prop := t.1 12 0 0 - t.1 9 0 0 = s.1 12 0 0 - s.1 9 0 0 ∧ (0 ≤ s.1 12 0 0 → 0 ≤ t.1 12 0 0) ∧ (s.1 12 0 0 < 0 → t.1 12 0 0 < 0) ∧ (e.1 10 1 0 ≠ 1 → t.1 17 = s.1 17) ∧ s.1 14 0 0 ≤ t.1 14 0 0 ∧ t.1 12 0 0 ≤ s.1 12 0 0
section S9c4
variable {e s s' t u : ZS} {o n i k V m ov en par : Int} {sd : Int32} {Fa Wh : Int32} {K : Nat → Int} {F : Nat → Int → Int}
theorem zFx.r : zFx e s s := ⟨rfl, fun z => z, fun z => z, fun _ => rfl, Int.le_refl _, Int.le_refl _⟩
theorem zFx.tr (h : zFx e s t) (g : zFx e t u) : zFx e s u := ⟨g.1.trans h.1, fun z => g.2.1 (h.2.1 z), fun z => g.2.2.1 (h.2.2.1 z), fun z => (g.2.2.2.1 z).trans (h.2.2.2.1 z), Int.le_trans h.2.2.2.2.1 g.2.2.2.2.1, Int.le_trans g.2.2.2.2.2 h.2.2.2.2.2⟩
theorem zFx.eq (h9 : t.1 9 = s.1 9) (h12 : t.1 12 = s.1 12) (h14 : t.1 14 0 0 = s.1 14 0 0) (h17 : t.1 17 = s.1 17) : zFx e s t := ⟨by rw [h9, h12], fun z => by rw [h12]; exact z, fun z => by rw [h12]; exact z, fun _ => h17, by omega, by rw [h12]; exact Int.le_refl _⟩
theorem zmem_17 (h : e.1 10 1 0 ≠ 1) : (zmem e s o i).1 17 = s.1 17 := by
  unfold zmem
  split
  · rfl
  split
  · rfl
  split
  · split <;> rfl
  split
  · split <;> rfl
  rw [if_neg fun z => h z.2, zcall_k (by omega)]
theorem zuse_17 (h : e.1 10 1 0 ≠ 1) : (zuse e s o i k).1 17 = s.1 17 := by
  unfold zuse
  split
  · rfl
  split
  · exact zmem_17 h
  split
  · rfl
  split
  · rw [zmem_17 h]; rfl
  split
  · rfl
  · rfl
theorem zex_17 (h : e.1 10 1 0 ≠ 1) : (zex e s o n).1 17 = s.1 17 := zex_by (P := fun t => t.1 17 = s.1 17) rfl rfl rfl (fun _ => (zuse_17 h)) (fun _ => rfl) (fun _ => rfl) rfl rfl (fun _ => rfl) (fun _ => rfl) rfl rfl (fun _ => zdraw_k (by decide)) rfl rfl rfl rfl rfl (fun _ => rfl) (fun _ => rfl) (fun _ => rfl) rfl rfl
theorem zex_fx : zFx e s (zex e s o n) := by
  have e9 : (zex e s o n).1 9 = s.1 9 := zex_k (by omega)
  have e12 : (zex e s o n).1 12 = s.1 12 := zex_k (by omega)
  have d := zex_d (e := e) (s := s) (o := o) (n := n)
  refine ⟨by rw [e9, e12], fun z => by rw [e12]; exact z, fun z => by rw [e12]; exact z, fun z => zex_17 z, by omega, by rw [e12]; exact Int.le_refl _⟩
theorem zstep_fx : zFx e s (zstep e s) := by
  unfold zstep
  split
  · split
    · exact zFx.eq rfl rfl rfl rfl
    split
    · exact zFx.eq rfl rfl rfl rfl
    · rename_i h9 h12
      refine zFx.tr (t := ztick e s) ⟨?_, fun z => ?_, fun z => ?_, fun _ => rfl, Int.le_refl _, ?_⟩ zex_fx
      · show (s.1 12 0 0 - 1) - (s.1 9 0 0 - 1) = _
        omega
      · show 0 ≤ s.1 12 0 0 - 1
        omega
      · show s.1 12 0 0 - 1 < 0
        omega
      · show s.1 12 0 0 - 1 ≤ s.1 12 0 0
        omega
  split
  · exact zFx.tr (t := zi s 1 0 0 0) (zFx.eq rfl rfl rfl rfl) zex_fx
  split
  · unfold zret
    split
    · exact zFx.eq rfl rfl rfl rfl
    split
    · exact zFx.r
    · exact zFx.eq rfl rfl rfl rfl
  split
  · unfold zthr
    split
    · exact zFx.eq rfl rfl rfl rfl
    · exact zFx.eq rfl rfl rfl rfl
  split
  · unfold zunw
    split
    · exact zFx.eq rfl rfl rfl rfl
    split
    · exact zFx.r
    · exact zFx.eq rfl rfl rfl rfl
  · exact zFx.r
theorem zgoes_fx : ∀ (k : Nat) (s : ZS), zFx e s (zgoes e s k)
  | 0, _ => zFx.r
  | k + 1, s => zstep_fx.tr (zgoes_fx k (zstep e s))
theorem zto.fx (h : zto e s t) : zFx e s t := by
  obtain ⟨k, rfl⟩ := h
  exact zgoes_fx k s
theorem zEx.fx (h : zEx e s en par u) : zFx e s (znb u) := zFx.tr (t := zbeg s en par) (zFx.eq rfl rfl rfl rfl) (h.1.fx.tr (zFx.eq rfl rfl rfl rfl))
theorem zBf.fx : ∀ {m : Nat} {i : Int} {s : ZS} {sd : Int} {Fa Wh : Int32} {ov : Int} {s' : ZS}, zBf e F m i s sd Fa Wh ov s' → zFx e s s'
  | 0, _, _, _, _, _, _, _, ⟨_, h⟩ => by rw [h]; exact zFx.r
  | m + 1, i, s, sd, Fa, Wh, ov, s', ⟨u, h1, h2, h3⟩ => by
    rcases h3 with ⟨-, h3⟩ | ⟨-, -, h3, -⟩
    · exact h1.fx.tr (zBf.fx h3)
    · rw [h3]; exact h1.fx
theorem zAf.fx : ∀ {m : Nat} {s : ZS} {ov V : Int} {Fa Wh : Int32} {V' : Int} {Fa' Wh' : Int32} {s' : ZS}, zAf e F m s ov V Fa Wh V' Fa' Wh' s' → zFx e s s'
  | 0, _, _, _, _, _, _, _, _, _, ⟨h, _⟩ => by rw [h]; exact zFx.r
  | m + 1, s, ov, V, Fa, Wh, V', Fa', Wh', s', h => by
    rcases h with ⟨-, h, -⟩ | ⟨-, u, h1, h2, h3⟩
    · rw [h]; exact zFx.r
    · rcases h3 with ⟨-, -, h3⟩ | ⟨-, h3⟩
      · exact h1.fx.tr (zAf.fx h3)
      · exact h1.fx.tr (zAf.fx h3)
theorem zLf.fx (h : zLf e K F s V Fa Wh s') : zFx e s s' := by
  obtain ⟨sd, Fb, Wb, ob, sb, h1, V1, F1, W1, o1, s1, h2, h3⟩ := h
  refine h1.fx.tr (zFx.tr ?_ h3.fx)
  rcases h2 with ⟨-, z, -⟩ | ⟨-, u, z, -, z2, -⟩
  · rw [z]; exact zFx.r
  · rw [z2]
    exact zFx.tr (t := zw sb 0 0 0 (iI (K 3))) (zFx.eq rfl rfl rfl rfl) z.fx
end S9c4
