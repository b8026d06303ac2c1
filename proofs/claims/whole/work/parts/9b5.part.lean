/-! the reference's machine: a unit is seen to -/
section S9b5
variable {d : Nat} {e s s' t u A : ZS} {M M' M1 M2 : Mem} {a b j N x y : Nat} {v v1 v2 v3 w : Int32} {c k i n m p o q id key par : Int} {R : Int → RG} {G : RG} {L : Int → Int} {Y : Nat → Int → Int}
theorem zq_if {f : Int32 → XA} {x y : Int32} {a : Int} (hx : x = iI a) (hy : y = iI 0) (hb : 0 ≤ id ∧ id < 192) : (if (96 : Int32) ≤ iI id then f x else f y) = f (iI (a * zq id)) := by
  unfold zq
  by_cases z : id < 96
  · rw [if_neg (show ¬ (96 : Int32) ≤ iI id from leI_n (x := 96) rfl rfl (by omega)), if_pos z, Int.mul_zero, hy]
  · rw [if_pos (show (96 : Int32) ≤ iI id from leI_p (x := 96) rfl rfl (by omega)), if_neg z, Int.mul_one, hx]
theorem zRE.q_if (h : zRE e R L M) (hR : RT M) (hi : zId e id) {f : Int32 → XA} : (if (96 : Int32) ≤ iI id then (gtI (13, 157) M (some 160) 67 fun x => f x) else (gtI (13, 157) M (some 160) 66 fun x => f x) : XA) = f (iI (e.1 29 (zq id) 0)) := by
  obtain ⟨g1, g2, g3, g4, g5⟩ := h.sd hi
  have a2 := (h.1 _ g1).2.1
  have b := (h.mb hi).1
  rcases g5 with ⟨y, z⟩ | ⟨y, z⟩
  · rw [z] at a2 ⊢
    rw [if_neg (show ¬ (96 : Int32) ≤ iI id from leI_n (x := 96) rfl rfl (by omega))]
    exact gtI_q (rk_160 hR) a2
  · rw [z] at a2 ⊢
    rw [if_pos (show (96 : Int32) ≤ iI id from leI_p (x := 96) rfl rfl (by omega))]
    exact gtI_q (rk_160 hR) a2
/-- it is noted what fails, whatever failed before -/
theorem rfl9g {m : Int} (hd : 1 ≤ d) (hG : zRG e s M) (hF : ∀ i, 0 ≤ i → i < s.1 0 0 0 → zRf s M i) (h85 : M.1 160 85 = iI 0) (hv2 : v2 = iI (zpc s)) (hm : m = 3 ∧ v3 = 0 ∨ m = 7 ∧ v3 = 1) : ∃ M', runX d 239 [va_rf (some 160), .int v1, .int v2, .int v3] M = some (.null, M') ∧ zRX e (zerr s v1 m) M' ∧ zRo e M M' := by
  have em : (zerr s v1 m).1 1 0 0 = m := zi_e
  have f : zRw M (rF M v1 v2 v3) := zRw.sI (zRw.sI (zRw.sI (zRw.sI zRw.r (by decide)) (by decide)) (by decide)) (by decide)
  have o : ∀ a j, a ≠ 160 → (rF M v1 v2 v3).1 a j = M.1 a j := fun a j p => (sI_ne p).trans ((sI_ne p).trans ((sI_ne p).trans (sI_ne p)))
  refine ⟨rF M v1 v2 v3, mR239 hd hG.1 (by rcases hm with z | z; exact Or.inl z.2; exact Or.inr z.2), ⟨hG.ff f ⟨fun k p => ?_, fun k p q r => ?_⟩, fun i p q => ?_, ?_, ?_, ?_, ?_, ?_⟩, f.ro⟩
  · rcases p with p | p | p | p | p | p | p | p <;> subst p <;> rfl
  · funext x y; exact zw_k (by omega)
  · exact (hF i p q).lo (fun _ _ _ => o _ _ (by decide)) (fun _ _ _ => o _ _ (by decide)) (fun _ _ _ => o _ _ (by decide)) rfl rfl rfl rfl (fun _ => rfl) (fun _ => rfl) (fun _ => rfl)
  · exact (sI_nej (by decide)).trans ((sI_nej (by decide)).trans ((sI_nej (by decide)).trans ((sI_nej (by decide)).trans h85)))
  · exact (sI_nej (by decide)).trans ((sI_nej (by decide)).trans ((sI_nej (by decide)).trans (sI_eq.trans li_1)))
  · rw [em]
    refine sI_eq.trans ?_
    rcases hm with ⟨z1, z2⟩ | ⟨z1, z2⟩
    · rw [z1, z2]; rfl
    · rw [z1, z2]; rfl
  · exact (sI_nej (by decide)).trans ((sI_nej (by decide)).trans (sI_eq.trans (zw_e (s := s) (k := 5) (i := 0) (j := 0) (w := v1)).symm))
  · exact ((sI_nej (by decide)).trans sI_eq).trans (hv2.trans (congrArg iI (zi_e (s := zw s 5 0 0 v1) (k := 13) (i := 0) (j := 0) (v := zpc s)).symm))
/-- a unit is lost -/
theorem zRG.lost (h : zRG e s M) (hk : 0 ≤ key ∧ key < 16) : zRG e (zi s 8 key 0 2) (sI M 210 key.toNat (iI 2)) ∧ zRo e M (sI M 210 key.toNat (iI 2)) := by
  obtain ⟨g0, g1, g2, g3, g4, g5, g6, g7⟩ := h
  have K : ∀ id', (zi s 8 key 0 2).1 8 (e.1 3 id' 0) 0 = 1 → s.1 8 (e.1 3 id' 0) 0 = 1 := fun id' z => by
    by_cases y : e.1 3 id' 0 = key
    · rw [y] at z
      have : (zi s 8 key 0 2).1 8 key 0 = 2 := zi_e
      omega
    · rw [← z]; exact (zi_i y).symm
  have o : ∀ a j, a ≠ 210 → (sI M 210 key.toNat (iI 2)).1 a j = M.1 a j := fun a j p => sI_ne p
  refine ⟨⟨g0.keep rfl, fun id' p z => ?_, fun id' p z z2 i u w => ?_, fun k p z => ?_, ⟨?_, ?_, ?_, ?_, ?_⟩, fun x p u w => ?_, fun q' p z => ?_, fun x => ?_⟩, rfl, fun a j p => ?_, fun a j p _ => o a j (by omega)⟩
  · rw [o _ _ (by decide)]
    exact g1 id' p (z.imp id fun w => ⟨w.1, K id' w.2⟩)
  · rw [o _ _ (by decide)]
    exact g2 id' p z (K id' z2) i u w
  · by_cases y : k = key
    · rw [y]
      exact sI_eq.trans (congrArg iI (zi_e (s := s) (k := 8) (i := key) (j := 0) (v := 2)).symm)
    · have : (zi s 8 key 0 2).1 8 k 0 = s.1 8 k 0 := zi_i y
      rw [this]
      exact (sI_nej (by omega)).trans (g3 k p z)
  · rw [o _ _ (by decide)]; exact g4.1
  · rw [o _ _ (by decide)]; exact g4.2.1
  · rw [o _ _ (by decide)]; exact g4.2.2.1
  · rw [o _ _ (by decide)]; exact g4.2.2.2.1
  · rw [o _ _ (by decide)]; exact g4.2.2.2.2
  · rw [o _ _ (by decide), o _ _ (by decide), o _ _ (by decide)]; exact g5 x p u w
  · obtain ⟨c1, c2, c3⟩ := g6 q' p z
    rw [o _ _ (by decide)]
    exact ⟨c1, fun j x y => by rw [o _ _ (by decide)]; exact c2 j x y, fun j x y => by rw [o _ _ (by decide)]; exact c3 j x y⟩
  · rw [o _ _ (by decide)]
    exact ⟨(g7 x).1, fun t p q => by rw [o _ _ (by decide), o _ _ (by decide)]; exact (g7 x).2 t p q⟩
  · exact o a j (fun z => by rw [z, inW_c (by decide)] at p; cases p)
/-- what stays of the code on top -/
theorem zBl.sa (h : zBl u t n) (g : ∀ i, 0 ≤ i → i < n → zBe s u i) (hn : n = s.1 0 0 0) (h1 : 1 ≤ n) : zSa s t ∧ zpc t = zpc s ∧ zh t = zh s ∧ zf t = zf s := by
  obtain ⟨h0, hb, -⟩ := h
  have B : ∀ i, 0 ≤ i → i < n → zBe s t i := fun i p q => (g i p q).tr (hb i p q)
  have zfe : zf s = s.1 0 0 0 - 1 := rfl
  have ef : zf t = zf s := by unfold zf; rw [h0, hn]
  refine ⟨⟨by rw [h0, hn], fun i p q => B i p (by omega), fun k p => (B (zf s) (by omega) (by omega)).1 k (by omega), fun x => (B (zf s) (by omega) (by omega)).2.1 x⟩, ?_, ?_, ef⟩
  · unfold zpc; rw [ef]; exact (B (zf s) (by omega) (by omega)).1 2 (by omega)
  · unfold zh; rw [ef]; exact (B (zf s) (by omega) (by omega)).1 3 (by omega)
end S9b5
