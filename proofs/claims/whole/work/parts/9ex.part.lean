/-! the start, and all calls -/
def pg00 : PG := (fun _ _ => 0, (fun _ => 0, fun _ => 0, fun _ _ => 0, fun _ => 0, fun _ _ _ => 0, fun _ _ => 0, fun _ _ => 0, fun _ _ _ => 0), (fun _ _ _ => 0, fun _ _ => 0), 0, 0, 0)
def ho00 : HO := ((0, fun _ => pg00), (fun k _ _ => if k = 0 then -1 else 0), fun _ _ _ => iI 0)
def zs00 : ZS := (fun _ _ _ => 0, fun _ _ _ => iI 0)
section S9ex
variable {L : Nat} {xs : Nat → Int32}
theorem iO_no : ∀ {l : List Op} {a : Nat} (j : Nat), (∀ o, o ∈ l → ¬ (o.1 = 1 ∧ o.2.1 = a)) → iO l a j = 0
  | [], _, _, _ => rfl
  | o :: l, a, j, h => by
    show (if o.1 = 1 ∧ o.2.1 = a ∧ o.2.2.1 = j then o.2.2.2 else iO l a j) = 0
    rw [if_neg fun z => h o List.mem_cons_self ⟨z.1, z.2.1⟩]
    exact iO_no j fun q hq => h q (List.mem_cons_of_mem _ hq)
theorem iO_n8 (c : Nat) (hc : c = 1 ∨ c = 2 ∨ c = 3) : ∀ q : Nat, q < 8 → ∀ r : Nat, iO LQ183 (136 - 4 * q + c) r = 0 := fun q hq r => by
  have g : ∀ q : Nat, q < 8 → ∀ o, o ∈ LQ183 → ¬ (o.1 = 1 ∧ (o.2.1 = 136 - 4 * q + 1 ∨ o.2.1 = 136 - 4 * q + 2 ∨ o.2.1 = 136 - 4 * q + 3)) := by decide +kernel
  refine iO_no r fun o ho z => g q hq o ho ⟨z.1, ?_⟩
  omega
theorem iO_nr (c : Nat) (hc : (231 ≤ c ∧ c ≤ 234) ∨ c = 236 ∨ c = 237) : ∀ r : Nat, iO LQ183 c r = 0 := fun r => by
  have g : ∀ o, o ∈ LQ183 → ¬ (o.1 = 1 ∧ ((231 ≤ o.2.1 ∧ o.2.1 ≤ 234) ∨ o.2.1 = 236 ∨ o.2.1 = 237)) := by decide +kernel
  refine iO_no r fun o ho z => g o ho ⟨z.1, ?_⟩
  omega
theorem s_CT : CT (app (Minit L xs) LQ183) := ⟨fun q h => by
  have g : ∀ q, q ∈ CK → kA LQ183 q.1 = some q.2 := by decide +kernel
  exact kA_ok (g q h), fun q h => by
  have g : ∀ q, q ∈ CFd → pO LQ183 q.1 q.2.1 = some q.2.2 := by decide +kernel
  exact F0p _ _ _ (g q h)⟩
theorem s_RT : RT (app (Minit L xs) LQ183) := ⟨fun q h => by
  have g : ∀ q, q ∈ RK → kA LQ183 q.1 = some q.2 := by decide +kernel
  exact kA_ok (g q h), fun q h => by
  have g : ∀ q, q ∈ RFd → pO LQ183 160 q.1 = some q.2 := by decide +kernel
  exact F0p _ _ _ (g q h)⟩
theorem s_ln : ln (app (Minit L xs) LQ183) = nl LQ183 := nl_ok
theorem s_2 : (app (Minit L xs) LQ183).2.2.2[2]? = some (210, 0) := (app_ok (L := L) (xs := xs) vq).1 2 (by decide)
theorem s_259 : 259 ≤ ln (app (Minit L xs) LQ183) := by rw [s_ln]; decide +kernel
theorem s_lf {a : Nat} {r : Int} {ow : Nat → Int} {C : Int → Nat} (h1 : kA LQ183 a = some (0, 3)) (h2 : a < 259) (h3 : 64 ≤ a) (h4 : iO LQ183 a 2 = 0) (h5 : pO LQ183 a 1 = some 2) : Lf ow a r C 0 (app (Minit L xs) LQ183) := ⟨⟨kA_ok h1, h2, by decide, by decide⟩, F0i a 2 0 h3 h4, fun j a b => by omega, Or.inl ⟨rfl, F0p a 1 _ h5, s_2⟩⟩
theorem s_i (a j : Nat) (z : Int) (ha : 64 ≤ a) (h : iO LQ183 a j = z) : (app (Minit L xs) LQ183).1 a j = iI z := F0i a j z ha h
theorem s_dP : dbP (oD ho00) 0 (fun _ => pg00) := fun q a b => by
  show (-1 ≤ (-1 : Int) ∧ (-1 : Int) ≤ 100000) ∧ ((0 : Int) ≤ 0 ∧ (0 : Int) ≤ 7) ∧ ((0 : Int) ≤ 0 ∧ (0 : Int) ≤ 95) ∧ ((0 : Int) ≤ 0 ∧ (0 : Int) ≤ 8) ∧ (∀ r : Int, 0 ≤ r → r < 8 → (0 : Int) ≤ 0 ∧ (0 : Int) ≤ 1) ∧ ((0 : Int) ≤ -1 → _) ∧ ∀ q' : Int, 0 ≤ q' → q' < 8 → (0 : Int) ≤ -1 → _
  exact ⟨by decide, by decide, by decide, by decide, fun _ _ _ => by decide, fun z => absurd z (by decide), fun _ _ _ z => absurd z (by decide)⟩
theorem s_dC : dbC (oD ho00) (oW ho00) (app (Minit L xs) LQ183) := fun q a b => by
  have g : ∀ q : Nat, q < 8 → iO LQ183 (136 - 4 * q) 0 = -2 ∧ iO LQ183 (136 - 4 * q) 7 = 0 ∧ iO LQ183 (136 - 4 * q) 8 = 0 ∧ iO LQ183 (136 - 4 * q) 2 = 0 := by decide +kernel
  have g2 : ∀ q : Nat, q < 8 → ∀ r : Nat, r < 32 → iO LQ183 (136 - 4 * q + 1) r = 0 := fun q h r _ => iO_n8 1 (by decide) q h r
  obtain ⟨n, rfl⟩ : ∃ n : Nat, q = n := ⟨q.toNat, by omega⟩
  have ez : zTw (n : Int) = 136 - 4 * n := by unfold zTw; omega
  obtain ⟨y1, y2, y3, y4⟩ := g n (by omega)
  rw [ez]
  exact ⟨⟨s_i _ _ _ (by omega) y1, s_i _ _ _ (by omega) y2, s_i _ _ _ (by omega) y3, s_i _ _ _ (by omega) y4, fun z => absurd (show (0 : Int) ≤ -1 from z) (by decide)⟩, fun r x y => ⟨s_i _ _ _ (by omega) (g2 n (by omega) _ (by omega)), s_i _ _ _ (by omega) (g2 n (by omega) _ (by omega)), s_i _ _ _ (by omega) (g2 n (by omega) _ (by omega)), s_i _ _ _ (by omega) (g2 n (by omega) _ (by omega))⟩⟩
theorem s_dR : dbR (oD ho00) (oW ho00) (app (Minit L xs) LQ183) := fun q a b => by
  have g : ∀ q : Nat, q < 8 → iO LQ183 227 q = -1 ∧ iO LQ183 228 q = 0 ∧ iO LQ183 229 q = 0 ∧ iO LQ183 230 q = 0 := by decide +kernel
  have g2 : ∀ r : Nat, r < 64 → iO LQ183 231 r = 0 ∧ iO LQ183 232 r = 0 ∧ iO LQ183 233 r = 0 ∧ iO LQ183 234 r = 0 := fun r _ => ⟨iO_nr 231 (by decide) r, iO_nr 232 (by decide) r, iO_nr 233 (by decide) r, iO_nr 234 (by decide) r⟩
  obtain ⟨y1, y2, y3, y4⟩ := g q.toNat (by omega)
  exact ⟨⟨s_i _ _ _ (by decide) y1, s_i _ _ _ (by decide) y2, s_i _ _ _ (by decide) y3, s_i _ _ _ (by decide) y4⟩, fun r x y => by
    obtain ⟨z1, z2, z3, z4⟩ := g2 (8 * q + r).toNat (by omega)
    exact ⟨s_i _ _ _ (by decide) z1, s_i _ _ _ (by decide) z2, s_i _ _ _ (by decide) z3, s_i _ _ _ (by decide) z4⟩⟩
theorem s_hd : iHd (app (Minit L xs) LQ183) (app (Minit L xs) LQ183) := by
  refine ⟨zs00, fun q a b => ?_, fun q a b => ?_, fun D => by show (0 : Int) ≤ 0 ∧ (0 : Int) ≤ 34000; decide⟩
  · have g : ∀ q : Nat, q < 8 → iO LQ183 (136 - 4 * q) 4 = 0 := by decide +kernel
    have g2 : ∀ q : Nat, q < 8 → ∀ r : Nat, r < 50 → iO LQ183 (136 - 4 * q + 3) r = 0 := fun q h r _ => iO_n8 3 (by decide) q h r
    have g3 : ∀ q : Nat, q < 8 → ∀ r : Nat, r < 200 → iO LQ183 (136 - 4 * q + 2) r = 0 := fun q h r _ => iO_n8 2 (by decide) q h r
    obtain ⟨n, rfl⟩ : ∃ n : Nat, q = n := ⟨q.toNat, by omega⟩
    have ez : zTw (n : Int) = 136 - 4 * n := by unfold zTw; omega
    rw [ez]
    exact ⟨s_i _ _ _ (by omega) (g n (by omega)), fun j x y => s_i _ _ _ (by omega) (g2 n (by omega) _ (by omega)), fun j x y => s_i _ _ _ (by omega) (g3 n (by omega) _ (by omega))⟩
  · have g : ∀ q : Nat, q < 8 → iO LQ183 235 q = 0 := by decide +kernel
    have g2 : ∀ r : Nat, r < 400 → iO LQ183 236 r = 0 := fun r _ => iO_nr 236 (by decide) r
    have g3 : ∀ r : Nat, r < 1600 → iO LQ183 237 r = 0 := fun r _ => iO_nr 237 (by decide) r
    exact ⟨s_i _ _ _ (by decide) (g q.toNat (by omega)), fun j x y => s_i _ _ _ (by decide) (g2 _ (by omega)), fun j x y => s_i _ _ _ (by decide) (g3 _ (by omega))⟩
theorem s_IV : IV L xs (nl LQ183) (tot (app (Minit L xs) LQ183).2.2.2) 0 (app (Minit L xs) LQ183) (app (Minit L xs) LQ183) := by
  obtain ⟨sl, hsl⟩ : ∃ sl, sl = iO LQ183 88 1 := ⟨_, rfl⟩
  have b1 : 1 ≤ iO LQ183 88 1 ∧ iO LQ183 88 1 ≤ 1000 := by decide +kernel
  have b2 : iO LQ183 160 77 = iO LQ183 88 1 := by decide +kernel
  have b3 : iO LQ183 160 78 = iO LQ183 88 2 := by decide +kernel
  have b4 : iO LQ183 160 48 = 0 ∧ iO LQ183 160 49 = 0 := by decide +kernel
  refine ⟨ho00, fun _ => 0, iO LQ183 88 1, ⟨⟨by show (0 : Int) ≤ 0 ∧ (0 : Int) ≤ 8; decide, s_dP, fun p a b => absurd (show p < 0 from b) (by omega), fun p q a b => absurd (show p < 0 from b) (by omega)⟩, ⟨⟨⟨s_CT, app_ok vq, s_259⟩, fun p a b => absurd (show p < 0 from b) (by omega), s_dC⟩, ⟨s_lf (by decide +kernel) (by decide) (by decide) (by decide +kernel) (by decide +kernel), fun p a b => absurd (show p < 0 from b) (by omega)⟩, s_i _ _ _ (by decide) rfl⟩, ⟨⟨s_RT, s_259⟩, fun p a b => absurd (show p < 0 from b) (by omega), s_dR⟩, s_i _ _ _ (by decide) (by decide +kernel), s_i _ _ _ (by decide) b2, s_i _ _ _ (by decide) (by decide +kernel), s_i _ _ _ (by decide) (by decide +kernel), s_i _ _ _ (by decide) (by decide +kernel), s_i _ _ _ (by decide) (by decide +kernel)⟩, b1, (s_i 88 2 _ (by decide) rfl).trans (s_i 160 78 _ (by decide) b3).symm, ⟨⟨fun _ => 0, 0, ⟨s_i _ _ _ (by decide) (by decide +kernel), by decide, by decide, fun i a b => by omega, fun _ _ => rfl, fun i => by show -128 ≤ (0 : Int) ∧ (0 : Int) ≤ 127; decide⟩, ⟨s_i _ _ _ (by decide) (by decide +kernel), by decide, by decide, fun i a b => by omega, fun _ _ => rfl, fun i => by show -128 ≤ (0 : Int) ∧ (0 : Int) ≤ 127; decide⟩, by decide⟩, s_2, fun i a b => app_l vq 71 i.toNat, fun i a b => app_l vq 194 i.toNat, ⟨0, s_i _ _ _ (by decide) (by decide +kernel), by decide, by decide⟩, ⟨0, 0, s_i _ _ _ (by decide) b4.1, s_i _ _ _ (by decide) b4.2, by decide⟩, (s_i 65 10 0 (by decide) (by decide +kernel)).trans (s_i 160 65 0 (by decide) (by decide +kernel)).symm⟩, ⟨0, by decide, fun q a b => ⟨by show (-1 : Int) < 0; decide, fun q' x y z => absurd (show (0 : Int) ≤ -1 from z) (by decide)⟩, s_i _ _ _ (by decide) (by decide +kernel), s_i _ _ _ (by decide) (by decide +kernel)⟩, s_hd, fun p a b => absurd (show p < 0 from b) (by omega), ⟨?_, Or.inl ⟨s_i _ _ _ (by decide) (by decide +kernel), s_i _ _ _ (by decide) (by decide +kernel)⟩, ⟨0, 0, by decide, ⟨s_i _ _ _ (by decide) (by decide +kernel), s_i _ _ _ (by decide) (by decide +kernel)⟩, s_i _ _ _ (by decide) (by decide +kernel), fun z => absurd rfl z⟩, ⟨0, by decide, ⟨s_i _ _ _ (by decide) (by decide +kernel), s_i _ _ _ (by decide) (by decide +kernel)⟩, fun j a b => by omega⟩⟩, ⟨0, fun _ => ((0, 0), 0, fun _ => 0, fun _ => 0), by decide, ⟨s_lf (by decide +kernel) (by decide) (by decide) (by decide +kernel) (by decide +kernel), fun k a b => by omega⟩, s_i _ _ _ (by decide) (by decide +kernel), fun k a b => by omega⟩, ⟨0, fun _ => (((0, 0), fun _ _ => 0, fun _ _ => 0), 0), ⟨s_lf (by decide +kernel) (by decide) (by decide) (by decide +kernel) (by decide +kernel), fun k a b => by omega⟩, s_i _ _ _ (by decide) (by decide +kernel), fun k a b => by omega⟩, Nat.le_trans (Nat.le_of_eq s_ln) (Nat.le_add_right _ _), Nat.le_add_right _ _⟩
  have e1 : (app (Minit L xs) LQ183).1 64 7 = iI 0 := s_i _ _ _ (by decide) (by decide +kernel)
  refine ⟨e1.trans (s_i 160 109 0 (by decide) (by decide +kernel)).symm, Or.inl e1, fun z => ?_⟩
  rw [e1] at z
  exact absurd z (by decide)
theorem good64 : Good 64 L xs (fun k M => IV L xs (nl LQ183) (tot (app (Minit L xs) LQ183).2.2.2) k M M) := by
  refine ⟨s_IV, fun k M hk h => ?_, fun k M _ h => h.up (by omega), ?_⟩
  · obtain ⟨o, ow, sl, ⟨-, g2, g3⟩, -, -, -, -, -, -, -, -, -, h1, h2⟩ := h
    have b1 : nl LQ183 ≤ 400000 := by decide +kernel
    have b2 : tot (kl LQ183) ≤ 2000000 := by decide +kernel
    have e : tot (app (Minit L xs) LQ183).2.2.2 = tot (Minit L xs).2.2.2 + tot (kl LQ183) := by
      rw [app_k]; unfold tot; rw [List.map_append, List.sum_append]
    rw [e] at h2
    have m1 : 1900 * k ≤ 1900 * 64 := Nat.mul_le_mul_left _ hk
    have m2 : 75000 * k ≤ 75000 * 64 := Nat.mul_le_mul_left _ hk
    refine ⟨⟨g2.1.1.2.1, ck_64 g2.1.1.1, rk_160 g3.1.1.1⟩, ?_, ?_⟩
    · have h1 : M.2.2.2.length ≤ nl LQ183 + 1900 * k := h1
      omega
    · omega
  · exact ⟨fun _ _ _ _ _ => op_0.sim rfl, fun _ => op_1.sim rfl, op_2.sim rfl, op_3.sim rfl, fun _ _ => op_4.sim rfl, fun _ _ _ => op_5.sim rfl, fun _ _ _ => op_6.sim rfl, fun _ _ _ _ => op_7.sim rfl, fun _ _ _ => op_8.sim rfl, fun _ => op_9.sim rfl, fun _ => op_10.sim rfl, fun _ _ _ => op_11.sim rfl, fun _ => op_12.sim rfl, fun _ _ _ => op_13.sim rfl, fun _ _ _ => op_14.sim rfl, fun _ _ => op_15.sim rfl, fun _ => op_16.sim rfl, fun _ _ => op_17.sim rfl, fun _ _ _ _ _ h => (op_18 h).sim rfl, fun _ => op_19.sim rfl, fun _ _ _ => op_20.sim rfl, fun _ _ _ => op_21.sim rfl, fun _ => op_22.sim rfl, fun _ _ _ => op_23.sim rfl, fun _ _ => op_24.sim rfl, fun _ _ _ => op_25.sim rfl, fun _ => op_26.sim rfl, fun _ _ => op_27.sim rfl, fun _ => op_28.sim rfl, fun _ _ _ _ _ _ => op_29.sim rfl, fun _ => op_30.sim rfl, fun _ _ => op_31.sim rfl, fun _ _ => op_32.sim rfl, fun _ => op_33.sim rfl, fun _ _ => op_34.sim rfl, fun _ => op_35.sim rfl, fun _ _ => op_36.sim rfl, fun _ _ => op_37.sim rfl, fun _ _ => op_38.sim rfl⟩
end S9ex
