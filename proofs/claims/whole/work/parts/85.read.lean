/-! a reading: both -/
section S85
variable {dl d LL : Nat} {T : Int → Int} {n p ut cnt dq mu s s0 : Int} {Mc Mr : Mem} {xs : Nat → Int32} {Q : Value → Mem → Value → Mem → Prop}
theorem read_pair (hdl : 960 ≤ dl) (hd : 960 ≤ d) (hO : OldOK LL xs Mc) (hC : CT Mc) (h259 : 259 ≤ ln Mc) (h2 : Mc.2.2.2[2]? = some (210, 0)) (hT : Tp 66 1 67 T n Mc) (hn : n ≤ 1399) (hW : ∀ i, 0 ≤ i → i < 28 → Mc.2.1 71 i.toNat = WC i) (h16 : Mc.1 65 16 = iI s0) (hs0 : 0 ≤ s0 ∧ s0 ≤ 10) (hX : RX T n Mr) (hr2 : Mr.1 160 2 = iI p) (hp : 0 ≤ p ∧ p ≤ 7) (h48 : Mr.1 160 48 = iI mu) (h49 : Mr.1 160 49 = iI ut) (hb : 0 ≤ mu ∧ mu ≤ 1 ∧ 0 ≤ ut ∧ ut ≤ 8) (h50 : Mr.1 160 50 = iI dq) (h51 : Mr.1 160 51 = iI s) (h64 : Mr.1 160 64 = iI cnt) (hok : ∀ m kd pl E tx M0c M0r M4, TkS T n m kd pl E tx → NLs Mc 4 M4 → Fr [(65, 9), (65, 10), (65, 12), (65, 13), (65, 19), (66, 6), (66, 7), (68, 9999), (69, 9999), (70, 9999)] M4 M0c → Fr W_mr Mr M0r → KP p Mr M0r → ∀ i' Mc' Mr' G' U' X' H' R' e' s' u' uc' k' ut' cnt' dq' Gs, 1 ≤ k' → kd i' = 0 → HRC G' e' H' R' k' → DGK G' U' X' e' u' → (0 ≤ e' ∧ e' ≤ 1000) → CMK Mc' G' e' → SetU (R'.2 1) (R'.2 2) (R'.1 1 0 0) (R'.1 2 0 0) (R'.1 2) U' X' G' u'.toNat Gs → CA1 Mc' Gs e' → CQ m kd pl tx (ln Mc) (tot Mc.2.2.2) 0 M0c Mc' e' s' uc' Mc' H' (i', 0, 0) → RA1 Mr' Gs e' → (∃ sr, RQ T n 2500 m kd pl E tx M0r Mr' p ut' cnt' e' sr u' dq' Mr' R' (i', 0, 0)) → Rs (some (.null, Mc')) (rest231 d p Mr') Q) (hft : ∀ M0c M0r M4, NLs Mc 4 M4 → Fr [(65, 9), (65, 10), (65, 12), (65, 13), (65, 19), (66, 6), (66, 7), (68, 9999), (69, 9999), (70, 9999)] M4 M0c → Fr W_mr Mr M0r → KP p Mr M0r → ∀ F P Mc' Mr', CFo (ln Mc) (tot Mc.2.2.2) M0c F P Mc' → RFo n p M0r F P Mr' → Q .null Mc' (.int (iI (-10 - P))) Mr') : Rs (runX (dl + 1) 61 [va_rf (some 65)] Mc) (runX (d + 1) 231 [va_rf (some 160)] Mr) Q := by
  obtain ⟨m, kd, pl, E, tx, M1, e1, hS, g, M4, nl, f4⟩ := mc61 (d := dl) (by omega) hO hC h259 h2 hT hn hW h16
  obtain ⟨M2, R, e2, q, ⟨z1, z2, z3, z4⟩, f2, k2⟩ := mr231 (d := d) (by omega) hS hX hr2 hp h48 h49 hb h50 h51 h64
  rw [e1, e2]
  have hm := hS.2.1.1
  have hm14 := hS.2.2.1
  refine tails (G := fun _ _ => 0) (U := fun _ _ => 0) (X := fun _ _ => 0) (L := fun _ => 0) (R := R) (ut := ut) (cnt := cnt) (dq := dq) (s := s0) (e := 0) (u := 0) (uc := 0) rfl rfl hdl hd hS ⟨g, ⟨s, q⟩, ⟨?_, ?_, ?_, ?_, ⟨?_, ?_, ?_⟩, ?_⟩, ?_, by omega, ⟨⟨rfl, z1, z2.symm, z3.symm, z4.symm⟩, ?_, ?_, ?_, ?_, ?_, ?_⟩, ⟨?_, ?_⟩, ?_⟩ hp (hok m kd pl E tx M1 M2 M4 hS nl f4 f2 k2) (hft M1 M2 M4 nl f4 f2 k2)
  · exact fun j a b => absurd b (by omega)
  · exact fun j a b => absurd b (by omega)
  · exact fun j a b => absurd b (by omega)
  · exact fun j a b => absurd b (by omega)
  · exact fun j a b => absurd b (by omega)
  · exact fun a b p q w => absurd w (by omega)
  · exact fun x a b => absurd b (by omega)
  · exact fun j a b => absurd b (by omega)
  · unfold BD; omega
  · show (0 : Int) ≤ 0 ∧ (0 : Int) ≤ 8 ∧ (0 : Int) ≤ 0 ∧ (0 : Int) ≤ 12 * 0 ∧ (0 : Int) ≤ 0 ∧ (0 : Int) ≤ 16 ∧ (0 : Int) ≤ 0 ∧ (0 : Int) ≤ 6 ∧ (0 : Int) ≤ 0
    omega
  · exact fun j a b => absurd b (by omega)
  · exact fun j a b => absurd (show j < 0 from b) (by omega)
  · exact fun j a b => absurd (show j < 0 from b) (by omega)
  · exact fun j a b => absurd (show j < 0 from b) (by omega)
  · exact fun j a b => absurd b (by omega)
  · exact fun j a b => absurd b (by omega)
  · exact fun j a b => absurd b (by omega)
  · exact fun j a b => absurd b (by omega)
end S85
