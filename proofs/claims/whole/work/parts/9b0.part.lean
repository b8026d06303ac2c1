/-! the reference's machine: a number of the code; a LOCAL; what is caught -/
section S9b0
variable {d : Nat} {e s s' t u A : ZS} {M M' M1 M2 : Mem} {a b j N x y : Nat} {v v1 v2 v3 w : Int32} {c k i n m p o q id : Int}
theorem zSa.px : zSa s (znx (zpush s v)) := by
  have := zSa.pd (s := s) (c := 0) (v := v)
  rw [zdn_0] at this
  exact this
theorem rr0 (hd : 2 ≤ d) (h : zRM e s M) (hm : s.1 1 0 0 = 0) (hl : zLr s) (hh : zh s < 200) (hv : v1 = iI 0) (hv2 : v2 = iI n) : ∃ M', runX d 244 [va_rf (some 160), .int v1, .int v2, .int v3] M = some (.null, M') ∧ zRA e s (zex e s 0 n) M M' := by
  obtain ⟨d, rfl⟩ : ∃ e, d = e + 1 := ⟨d - 1, by omega⟩
  subst hv; subst hv2
  obtain ⟨M2, q2, c2, f2⟩ := rq1 (d := d) (v := iI n) (by omega) h hl hh
  refine ⟨M2, ?_, _, zto.r, (f2).q, Or.inl ⟨hm, zSa.px, znx_pc, c2.at _⟩⟩
  rw [r244]; unfold b244; rw [aR_e, aI_e, aI_e, aI_e, aZ_e]; unfold c244
  rw [jn_v, if_pos (show iI 0 = 0 from li_0.symm), vC_e (rk_160 h.1.1), cV_e q2]
  rfl
/-- a LOCAL is set -/
theorem zRM.loc (h : zRM e s M) (hl : zLr s) (hn : 0 ≤ n ∧ n ≤ 9 ∧ n ≤ s.1 16 (zf s) 0) : zRM e (zi (zw s 0 (zf s) n v) 16 (zf s) 0 (if n < s.1 16 (zf s) 0 then s.1 16 (zf s) 0 else n + 1)) (sI M 214 (10 * zf s + n).toNat v) ∧ zRo e M (sI M 214 (10 * zf s + n).toNat v) := by
  obtain ⟨hG, hF, h76, h73, h85, h86⟩ := h
  have l1 := hl.1
  have zfe : zf s = s.1 0 0 0 - 1 := rfl
  have e16 : (zi (zw s 0 (zf s) n v) 16 (zf s) 0 (if n < s.1 16 (zf s) 0 then s.1 16 (zf s) 0 else n + 1)).1 16 (zf s) 0 = if n < s.1 16 (zf s) 0 then s.1 16 (zf s) 0 else n + 1 := zi_e
  refine ⟨⟨hG.ff (zRw.sI zRw.r (inW_c (by decide) _)) ⟨fun k p => ?_, fun k p q r => ?_⟩, fun i p q => ?_, (sI_ne (by decide)).trans h76, (sI_ne (by decide)).trans h73, (sI_ne (by decide)).trans h85, (sI_ne (by decide)).trans h86⟩, (zRw.sI zRw.r (inW_c (by decide) _)).ro⟩
  · rcases p with p | p | p | p | p | p | p | p <;> subst p <;> rfl
  · funext x y; exact zw_k (by omega)
  · have q' : i < s.1 0 0 0 := q
    obtain ⟨x1, x2, x3, x4, x5⟩ := hl.2.1 i p q'
    by_cases y : i = zf s
    · subst y
      obtain ⟨a1, a2, a3⟩ := hF (zf s) p q'
      refine ⟨fun k u w => ?_, fun k u w => (sI_ne (by decide)).trans (a2 k u w), fun k u w => (sI_ne (by decide)).trans (a3 k u w)⟩
      rw [e16] at w
      by_cases z : k = n
      · rw [z]; exact sI_eq.trans zw_e.symm
      · refine ((sI_nej (by omega)).trans (a1 k u ?_)).trans (zw_j z).symm
        by_cases z2 : n < s.1 16 (zf s) 0
        · rw [if_pos z2] at w; exact w
        · rw [if_neg z2] at w; omega
    · exact (hF i p q').lo (fun k u w => sI_nej (by omega)) (fun k u w => sI_ne (by decide)) (fun k u w => sI_ne (by decide)) rfl rfl rfl (zi_i y) (fun _ => rfl) (fun k => zw_i y) (fun _ => rfl)
end S9b0
