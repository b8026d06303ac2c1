/-! tokens as members see them: the place of one (F = 0), or a FAULT F with its place P -/
abbrev TS : Type := Int × Int × Int
def tA (t : TS) : TS := if t.2.1 = 0 then (t.1 + 1, 0, 0) else t
def tX (kd pl : Int → Int) (f : Int) (t : TS) : TS := if t.2.1 = 0 then (t.1, if kd t.1 = 1 then 1 else f, pl t.1) else t
def tE (kd pl : Int → Int) (K : Int) (t : TS) : TS := if t.2.1 = 0 ∧ kd t.1 = K then (t.1 + 1, 0, 0) else tX kd pl 2 t
def tN (kd pl : Int → Int) (a b : Int) (t : TS) : TS := if t.2.1 = 0 ∧ kd t.1 = 3 then (if a = 1 then (t.1, 3, pl t.1) else if b = 1 then (t.1, 6, pl t.1) else (t.1 + 1, 0, 0)) else tX kd pl 2 t
def tG (kd : Int → Int) (t : TS) : TS := if t.2.1 = 0 ∧ kd t.1 = 45 then (t.1 + 1, 0, 0) else t
def tS (kd pl : Int → Int) (t : TS) : TS := tE kd pl 4 (tG kd t)
def nb (tx : Int → Int64) (i : Int) : Int := (tx i).toInt32.toInt
def vSg (kd : Int → Int) (tx : Int → Int64) (t : TS) : Int := if kd t.1 = 45 then -(nb tx (t.1 + 1)) else nb tx t.1
def tM (kd pl : Int → Int) (tx : Int → Int64) (lo hi : Int) (t : TS) : TS := if t.2.1 = 0 ∧ kd t.1 = 4 then (if lo ≤ nb tx t.1 ∧ nb tx t.1 ≤ hi then (t.1 + 1, 0, 0) else (t.1, 5, pl t.1)) else tX kd pl 2 t
def CS (m : Int) (kd : Int → Int) (e s uc : Int) (M : Mem) (t : TS) : Prop := (t.2.1 = 0 ∧ SC M kd t.1 e s uc ∧ 0 ≤ t.1 ∧ t.1 < m) ∨ (1 ≤ t.2.1 ∧ FTc m t.2.1 t.2.2 M)
def CP (m : Int) (kd : Int → Int) (e s uc : Int) (M : Mem) (t : TS) (M2 : Mem) : Prop := CS m kd e s uc M2 t ∧ Fr W_cp M M2 ∧ (t.2.1 = 0 → Fr W_66 M M2)
def CB (m e s uc : Int) : Prop := m ≤ 1400 ∧ 0 ≤ e ∧ e ≤ 4000 ∧ 0 ≤ s ∧ s ≤ 10 ∧ 0 ≤ uc ∧ uc ≤ 1400
def RM (M : Mem) : Prop := ∃ mu ut : Int, M.1 160 48 = iI mu ∧ M.1 160 49 = iI ut ∧ (0 ≤ mu ∧ mu ≤ 1 ∧ 0 ≤ ut ∧ ut ≤ 8)
def RX (T : Int → Int) (n : Int) (M : Mem) : Prop := RT M ∧ Tp 160 1 161 T n M ∧ ∀ i, 0 ≤ i → i < 28 → M.2.1 194 i.toNat = WR i
def RS (b m : Int) (kd pl E : Int → Int) (tx : Int → Int64) (e s u dp : Int) (M : Mem) (t : TS) : Prop := (t.2.1 = 0 ∧ SR M kd pl E tx t.1 e s u dp ∧ RM M ∧ 0 ≤ t.1 ∧ t.1 < m) ∨ (1 ≤ t.2.1 ∧ t.2.1 ≤ 6 ∧ FTr b t.2.1 t.2.2 M)
def RP (b m : Int) (kd pl E : Int → Int) (tx : Int → Int64) (e s u dp : Int) (M : Mem) (t : TS) (M2 : Mem) : Prop := RS b m kd pl E tx e s u dp M2 t ∧ Fr W_rp M M2 ∧ (t.2.1 = 0 → Fr W_219 M M2)
section S54
variable {d : Nat} {T : Int → Int} {n m b e s u uc dp i i2 i3 F P f K c : Int} {kd pl E : Int → Int} {tx : Int → Int64} {M M2 : Mem} {t : TS} {v0 v1 : Int32} {W : List (Nat × Nat)}
theorem Rt.of {x : XA} {v : Value} {Q : Value → Mem → Prop} (h : x = some (v, M)) (k : Q v M) : Rt x Q := ⟨v, M, h, k⟩
theorem tA_f (h : 1 ≤ t.2.1) : tA t = t := if_neg (by omega)
theorem tX_f (h : 1 ≤ t.2.1) : tX kd pl f t = t := if_neg (by omega)
theorem tE_f (h : 1 ≤ t.2.1) : tE kd pl K t = t := (if_neg (by omega)).trans (tX_f h)
theorem tN_f {a b : Int} (h : 1 ≤ t.2.1) : tN kd pl a b t = t := (if_neg (by omega)).trans (tX_f h)
theorem tG_f (h : 1 ≤ t.2.1) : tG kd t = t := if_neg (by omega)
theorem tS_f (h : 1 ≤ t.2.1) : tS kd pl t = t := by unfold tS; rw [tG_f h, tE_f h]
theorem tM_f {lo hi : Int} (h : 1 ≤ t.2.1) : tM kd pl tx lo hi t = t := (if_neg (by omega)).trans (tX_f h)
theorem nb_r (hS : TkS T n m kd pl E tx) (h : 0 ≤ i ∧ i < m ∧ kd i = 4) : 0 ≤ nb tx i ∧ nb tx i ≤ 999999999 := by
  obtain ⟨z, h1, h2, h3⟩ := hS.nr i h.1 h.2.1 h.2.2
  have : nb tx i = z := by unfold nb; rw [h1, iI_toInt (by omega) (by omega)]
  omega
theorem nb_e : (tx i).toInt32 = iI (nb tx i) := (iI_eta _).symm
/-- the first object: goes on, or a FAULT comes -/
theorem CP.ok (hc : SC M kd i e s uc) (fr : Fr W_66 M M2) (h12 : M2.1 65 12 = iI i2) (h13 : M2.1 65 13 = iI (kd i2)) (h10 : M2.1 65 10 = iI 0) (hb : 0 ≤ i2 ∧ i2 < m) : CP m kd e s uc M (i2, 0, 0) M2 := by
  obtain ⟨-, -, -, g9, g16, g19⟩ := hc
  exact ⟨Or.inl ⟨rfl, ⟨h12, h13, h10, (fr.i _ _ (by decide)).trans g9, (fr.i _ _ (by decide)).trans g16, (fr.i _ _ (by decide)).trans g19⟩, hb⟩, Fr.m fr (by decide), fun _ => fr⟩
theorem CP.fl (hc : SC M kd i e s uc) (hB : CB m e s uc) (fr : Fr W_66 M M2) (h12 : M2.1 65 12 = iI i2) (h13 : M2.1 65 13 = iI 2) (h10 : M2.1 65 10 = iI F) (h11 : M2.1 65 11 = iI P) (hb : 0 ≤ i2 ∧ i2 < m ∧ 1 ≤ F ∧ F ≤ 6) : CP m kd e s uc M (i3, F, P) M2 := by
  obtain ⟨-, -, -, g9, g16, g19⟩ := hc
  unfold CB at hB
  exact ⟨Or.inr ⟨hb.2.2.1, i2, e, s, uc, h13, h10, h11, h12, (fr.i _ _ (by decide)).trans g9, (fr.i _ _ (by decide)).trans g16, (fr.i _ _ (by decide)).trans g19, by dsimp only; omega⟩, Fr.m fr (by decide), fun z => absurd z (by show ¬ F = 0; omega)⟩
theorem CP.adv (hc : SC M kd i e s uc) (hb : 0 ≤ i ∧ i + 1 < m) : CP m kd e s uc M (i + 1, 0, 0) (sI (sI M 65 12 (iI (i + 1))) 65 13 (iI (kd (i + 1)))) := CP.ok hc (Fr.sI (by decide) (Fr.sI (by decide) Fr.r)) ((sI_nej (by decide)).trans sI_eq) sI_eq ((sI_nej (by decide)).trans ((sI_nej (by decide)).trans hc.2.2.1)) (by omega)
theorem CP.stop (hc : SC M kd i e s uc) (hB : CB m e s uc) (hb : 0 ≤ i ∧ i < m ∧ 1 ≤ F ∧ F ≤ 6) : CP m kd e s uc M (i, F, P) (sI (sI (sI M 65 10 (iI F)) 65 11 (iI P)) 65 13 (iI 2)) := CP.fl hc hB (Fr.sI (by decide) (Fr.sI (by decide) (Fr.sI (by decide) Fr.r))) ((sI_nej (by decide)).trans ((sI_nej (by decide)).trans ((sI_nej (by decide)).trans hc.1))) sI_eq ((sI_nej (by decide)).trans ((sI_nej (by decide)).trans sI_eq)) ((sI_nej (by decide)).trans sI_eq) hb
/-- behind a FAULT -/
theorem CP.flt (h1 : 1 ≤ t.2.1) (hb : 0 ≤ i ∧ i < m ∧ m ≤ 3001 ∧ t.2.1 ≤ 6) (h : ∃ (sz sn uc : Int), Fr W_cp M M2 ∧ M2.1 65 9 = iI sz ∧ M2.1 65 16 = iI sn ∧ M2.1 65 19 = iI uc ∧ M2.1 65 13 = iI 2 ∧ M2.1 65 10 = iI t.2.1 ∧ M2.1 65 11 = iI t.2.2 ∧ M2.1 65 12 = iI i ∧ (0 ≤ sz ∧ sz ≤ 4096) ∧ (0 ≤ sn ∧ sn ≤ 10) ∧ (0 ≤ uc ∧ uc ≤ 1500)) : CP m kd e s uc M t M2 := by
  obtain ⟨sz, sn, u2, f, h9, h16, h19, h13, h10, h11, h12, b1, b2, b3⟩ := h
  exact ⟨Or.inr ⟨h1, i, sz, sn, u2, h13, h10, h11, h12, h9, h16, h19, by omega⟩, f, fun z => absurd z (by omega)⟩
theorem cq62 (hd : 1 ≤ d) (hS : TkS T n m kd pl E tx) (hR : CT M) (hTk : TkA M m kd pl tx) (hc : CS m kd e s uc M t) (hB : CB m e s uc) (hv0 : v0 = iI f) (hf : 1 ≤ f ∧ f ≤ 6) : Rt (runX d 62 [va_rf (some 65), .int v0] M) (fun _ M2 => CP m kd e s uc M (tX kd pl f t) M2) := by
  rcases hc with ⟨h0, hc, hi⟩ | ⟨h1, i, sz, sn, u2, g13, g10, g11, g12, g9, g16, g19, gb⟩
  · have et : tX kd pl f t = (t.1, if kd t.1 = 1 then 1 else f, pl t.1) := if_pos h0
    rw [et]
    by_cases c : kd t.1 = 1
    · rw [if_pos c]
      exact Rt.of (a62_1 hd hS hR hTk hc.1 hc.2.1 hc.2.2.1 hv0 ⟨hi.1, hi.2, c⟩) (CP.stop hc hB (by omega))
    · rw [if_neg c]
      exact Rt.of (a62_2 hd hS hR hTk hc.1 hc.2.1 hc.2.2.1 hv0 ⟨hi.1, hi.2, c⟩) (CP.stop hc hB (by omega))
  · rw [tX_f h1]
    exact (y62 hd hR hTk g12 g13 g10 g11 g9 g16 g19 hv0 gb).mono fun v M2 h => CP.flt h1 (by omega) h
theorem cq63 (hd : 1 ≤ d) (hS : TkS T n m kd pl E tx) (hR : CT M) (hTk : TkA M m kd pl tx) (hc : CS m kd e s uc M t) (hn : t.2.1 = 0 → t.1 + 1 < m) : Rt (runX d 63 [va_rf (some 65)] M) (fun _ M2 => CP m kd e s uc M (tA t) M2) := by
  rcases hc with ⟨h0, hc, hi⟩ | ⟨h1, i, sz, sn, u2, g13, g10, g11, g12, g9, g16, g19, gb⟩
  · have et : tA t = (t.1 + 1, 0, 0) := if_pos h0
    rw [et]
    exact Rt.of (a63 hd hS hR hTk hc.1 hc.2.1 hc.2.2.1 ⟨hi.1, hi.2, hn h0⟩) (CP.adv hc ⟨hi.1, hn h0⟩)
  · rw [tA_f h1]
    exact (y63 hd hR hTk g12 g13 g10 g11 g9 g16 g19 gb).mono fun v M2 h => CP.flt h1 (by omega) h
theorem cq64 (hd : 2 ≤ d) (hS : TkS T n m kd pl E tx) (hR : CT M) (hTk : TkA M m kd pl tx) (hc : CS m kd e s uc M t) (hB : CB m e s uc) (hv0 : v0 = iI K) (hK : 3 ≤ K ∧ K ≤ 300) : Rt (runX d 64 [va_rf (some 65), .int v0] M) (fun _ M2 => CP m kd e s uc M (tE kd pl K t) M2) := by
  rcases hc with ⟨h0, hc, hi⟩ | ⟨h1, i, sz, sn, u2, g13, g10, g11, g12, g9, g16, g19, gb⟩
  · by_cases c : kd t.1 = K
    · have et : tE kd pl K t = (t.1 + 1, 0, 0) := if_pos ⟨h0, c⟩
      rw [et]
      have hm := hS.more t.1 (by omega) (by omega) (by omega)
      exact Rt.of (a64_p hd hS hR hTk hc.1 hc.2.1 hc.2.2.1 hv0 ⟨hi.1, hi.2, hm, c⟩) (CP.adv hc ⟨hi.1, hm⟩)
    · have et : tE kd pl K t = (t.1, if kd t.1 = 1 then 1 else 2, pl t.1) := (if_neg fun z => c z.2).trans (if_pos h0)
      rw [et]
      by_cases c1 : kd t.1 = 1
      · rw [if_pos c1]
        exact Rt.of (a64_1 hd hS hR hTk hc.1 hc.2.1 hc.2.2.1 hv0 ⟨hi.1, hi.2, c1, hK⟩) (CP.stop hc hB (by omega))
      · rw [if_neg c1]
        exact Rt.of (a64_2 hd hS hR hTk hc.1 hc.2.1 hc.2.2.1 hv0 ⟨hi.1, hi.2, c1, c, hK⟩) (CP.stop hc hB (by omega))
  · rw [tE_f h1]
    exact (y64 hd hR hTk g12 g13 g10 g11 g9 g16 g19 hv0 (by omega)).mono fun v M2 h => CP.flt h1 (by omega) h
theorem cq66 {a b : Int} (hd : 2 ≤ d) (hS : TkS T n m kd pl E tx) (hR : CT M) (hTk : TkA M m kd pl tx) (hc : CS m kd e s uc M t) (hB : CB m e s uc) (hv0 : v0 = iI a) (hv1 : v1 = iI b) (ha : a = 0 ∨ a = 1) (hb : b = 0 ∨ b = 1) : Rt (runX d 66 [va_rf (some 65), .int v0, .int v1] M) (fun v M2 => ∃ y, v = .long y ∧ (t.2.1 = 0 → y = tx t.1) ∧ CP m kd e s uc M (tN kd pl a b t) M2) := by
  rcases hc with ⟨h0, hc, hi⟩ | ⟨h1, i, sz, sn, u2, g13, g10, g11, g12, g9, g16, g19, gb⟩
  · by_cases c : kd t.1 = 3
    · have et : tN kd pl a b t = if a = 1 then (t.1, 3, pl t.1) else if b = 1 then (t.1, 6, pl t.1) else (t.1 + 1, 0, 0) := if_pos ⟨h0, c⟩
      rw [et]
      have hm := hS.more t.1 (by omega) (by omega) (by omega)
      rcases ha with ha | ha
      · rw [if_neg (by omega)]
        rcases hb with hb | hb
        · rw [if_neg (by omega)]
          exact Rt.of (a66_p hd hS hR hTk hc.1 hc.2.1 hc.2.2.1 hv0 hv1 ⟨hi.1, hi.2, hm, c, ha, hb⟩) ⟨_, rfl, fun _ => rfl, CP.adv hc ⟨hi.1, hm⟩⟩
        · rw [if_pos hb]
          exact Rt.of (a66_6 hd hS hR hTk hc.1 hc.2.1 hc.2.2.1 hv0 hv1 ⟨hi.1, hi.2, c, ha, hb⟩) ⟨_, rfl, fun _ => rfl, CP.stop hc hB (by omega)⟩
      · rw [if_pos ha]
        exact Rt.of (a66_3 hd hS hR hTk hc.1 hc.2.1 hc.2.2.1 hv0 hv1 ⟨hi.1, hi.2, c, ha⟩) ⟨_, rfl, fun _ => rfl, CP.stop hc hB (by omega)⟩
    · have et : tN kd pl a b t = (t.1, if kd t.1 = 1 then 1 else 2, pl t.1) := (if_neg fun z => c z.2).trans (if_pos h0)
      rw [et]
      by_cases c1 : kd t.1 = 1
      · rw [if_pos c1]
        exact Rt.of (a66_1 hd hS hR hTk hc.1 hc.2.1 hc.2.2.1 hv0 hv1 ⟨hi.1, hi.2, c1⟩) ⟨_, rfl, fun _ => rfl, CP.stop hc hB (by omega)⟩
      · rw [if_neg c1]
        exact Rt.of (a66_2 hd hS hR hTk hc.1 hc.2.1 hc.2.2.1 hv0 hv1 ⟨hi.1, hi.2, c1, c⟩) ⟨_, rfl, fun _ => rfl, CP.stop hc hB (by omega)⟩
  · rw [tN_f h1]
    exact (y66 hd hR hTk g12 g13 g10 g11 g9 g16 g19 hv0 hv1 gb).mono fun v M2 ⟨y, x1, x2, x3, h, g⟩ => ⟨y, h, fun z => absurd z (by omega), CP.flt h1 (by omega) ⟨x1, x2, x3, g⟩⟩
theorem cq68 (hd : 3 ≤ d) (hS : TkS T n m kd pl E tx) (hR : CT M) (hTk : TkA M m kd pl tx) (hc : CS m kd e s uc M t) (hB : CB m e s uc) : Rt (runX d 68 [va_rf (some 65)] M) (fun v M2 => ∃ r, v = .int (iI r) ∧ ((tS kd pl t).2.1 = 0 → r = vSg kd tx t) ∧ CP m kd e s uc M (tS kd pl t) M2) := by
  rcases hc with ⟨h0, hc, hi⟩ | ⟨h1, i, sz, sn, u2, g13, g10, g11, g12, g9, g16, g19, gb⟩
  · have hB' := hB
    unfold CB at hB'
    by_cases c : kd t.1 = 45
    · have hm := hS.more t.1 (by omega) (by omega) (by omega)
      have eg : tG kd t = (t.1 + 1, 0, 0) := if_pos ⟨h0, c⟩
      have ev : vSg kd tx t = -(nb tx (t.1 + 1)) := if_pos c
      rw [ev]
      by_cases c4 : kd (t.1 + 1) = 4
      · have et : tS kd pl t = (t.1 + 1 + 1, 0, 0) := by unfold tS; rw [eg]; exact if_pos ⟨rfl, c4⟩
        rw [et]
        have hm2 := hS.more (t.1 + 1) (by omega) (by omega) (by omega)
        have hz := nb_r hS (i := t.1 + 1) ⟨by omega, by omega, c4⟩
        refine (a68_b hd hS hR hTk hc.1 hc.2.1 hc.2.2.1 nb_e (by omega)).mono fun v M2 ⟨q1, q2, q3, q4, q5⟩ => ⟨_, q1, fun _ => rfl, ?_⟩
        have e2 : t.1 + 2 = t.1 + 1 + 1 := by omega
        rw [e2] at q3 q4
        exact CP.ok hc q2 q3 q4 q5 (by omega)
      · have et : tS kd pl t = (t.1 + 1, if kd (t.1 + 1) = 1 then 1 else 2, pl (t.1 + 1)) := by unfold tS; rw [eg]; exact (if_neg fun z => c4 z.2).trans (if_pos rfl)
        rw [et]
        by_cases c1 : kd (t.1 + 1) = 1
        · rw [if_pos c1]
          refine (a68_d1 hd hS hR hTk hc.1 hc.2.1 hc.2.2.1 (by omega)).mono fun v M2 ⟨r, q1, q2, q3, q4, q5, q6⟩ => ⟨r, q1, fun z => absurd z (by dsimp only; omega), ?_⟩
          exact CP.fl (i := t.1) hc hB q2 q3 q4 q5 q6 (by omega)
        · rw [if_neg c1]
          refine (a68_d2 hd hS hR hTk hc.1 hc.2.1 hc.2.2.1 (by omega)).mono fun v M2 ⟨r, q1, q2, q3, q4, q5, q6⟩ => ⟨r, q1, fun z => absurd z (by dsimp only; omega), ?_⟩
          exact CP.fl (i := t.1) hc hB q2 q3 q4 q5 q6 (by omega)
    · have eg : tG kd t = t := if_neg fun z => c z.2
      have ev : vSg kd tx t = nb tx t.1 := if_neg c
      rw [ev]
      by_cases c4 : kd t.1 = 4
      · have et : tS kd pl t = (t.1 + 1, 0, 0) := by unfold tS; rw [eg]; exact if_pos ⟨h0, c4⟩
        rw [et]
        have hm2 := hS.more t.1 (by omega) (by omega) (by omega)
        have hz := nb_r hS (i := t.1) ⟨by omega, by omega, c4⟩
        exact (a68_a hd hS hR hTk hc.1 hc.2.1 hc.2.2.1 nb_e (by omega)).mono fun v M2 ⟨q1, q2, q3, q4, q5⟩ => ⟨_, q1, fun _ => rfl, CP.ok hc q2 q3 q4 q5 (by omega)⟩
      · have et : tS kd pl t = (t.1, if kd t.1 = 1 then 1 else 2, pl t.1) := by unfold tS; rw [eg]; exact (if_neg fun z => c4 z.2).trans (if_pos h0)
        rw [et]
        by_cases c1 : kd t.1 = 1
        · rw [if_pos c1]
          exact (a68_1 hd hS hR hTk hc.1 hc.2.1 hc.2.2.1 (by omega)).mono fun v M2 ⟨r, q1, q2, q3, q4, q5, q6⟩ => ⟨r, q1, fun z => absurd z (by dsimp only; omega), CP.fl hc hB q2 q3 q4 q5 q6 (by omega)⟩
        · rw [if_neg c1]
          exact (a68_2 hd hS hR hTk hc.1 hc.2.1 hc.2.2.1 (by omega)).mono fun v M2 ⟨r, q1, q2, q3, q4, q5, q6⟩ => ⟨r, q1, fun z => absurd z (by dsimp only; omega), CP.fl hc hB q2 q3 q4 q5 q6 (by omega)⟩
  · rw [tS_f h1]
    exact (y68 hd hR hTk g12 g13 g10 g11 g9 g16 g19 gb).mono fun v M2 ⟨y, x1, x2, x3, h, g⟩ => ⟨y, h, fun z => absurd z (by omega), CP.flt h1 (by omega) ⟨x1, x2, x3, g⟩⟩
theorem cq67 {lo hi : Int} (hd : 3 ≤ d) (hS : TkS T n m kd pl E tx) (hR : CT M) (hTk : TkA M m kd pl tx) (hc : CS m kd e s uc M t) (hB : CB m e s uc) (hv0 : v0 = iI lo) (hv1 : v1 = iI hi) (hl : -1000 ≤ lo ∧ lo ≤ 1000 ∧ 0 ≤ hi ∧ hi ≤ 999999999) : Rt (runX d 67 [va_rf (some 65), .int v0, .int v1] M) (fun v M2 => ∃ r, v = .int (iI r) ∧ ((tM kd pl tx lo hi t).2.1 = 0 → r = nb tx t.1) ∧ CP m kd e s uc M (tM kd pl tx lo hi t) M2) := by
  rcases hc with ⟨h0, hc, hi'⟩ | ⟨h1, i, sz, sn, u2, g13, g10, g11, g12, g9, g16, g19, gb⟩
  · have hB' := hB
    unfold CB at hB'
    by_cases c4 : kd t.1 = 4
    · have et : tM kd pl tx lo hi t = if lo ≤ nb tx t.1 ∧ nb tx t.1 ≤ hi then (t.1 + 1, 0, 0) else (t.1, 5, pl t.1) := if_pos ⟨h0, c4⟩
      rw [et]
      have hm2 := hS.more t.1 (by omega) (by omega) (by omega)
      have hz := nb_r hS (i := t.1) ⟨by omega, by omega, c4⟩
      by_cases cl : lo ≤ nb tx t.1
      · by_cases ch : nb tx t.1 ≤ hi
        · rw [if_pos ⟨cl, ch⟩]
          exact (a67_p hd hS hR hTk hc.1 hc.2.1 hc.2.2.1 nb_e hv0 hv1 (by omega)).mono fun v M2 ⟨q1, q2, q3, q4, q5⟩ => ⟨_, q1, fun _ => rfl, CP.ok hc q2 q3 q4 q5 (by omega)⟩
        · rw [if_neg fun z => ch z.2]
          exact (a67_5h hd hS hR hTk hc.1 hc.2.1 hc.2.2.1 nb_e hv0 hv1 hc.2.2.2.1 hc.2.2.2.2.1 hc.2.2.2.2.2 (by omega)).mono fun v M2 ⟨q1, q2, q3⟩ => ⟨_, q1, fun z => absurd z (by dsimp only; omega), Or.inr ⟨by dsimp only; omega, q3⟩, q2, fun z => absurd z (by dsimp only; omega)⟩
      · rw [if_neg fun z => cl z.1]
        exact (a67_5l hd hS hR hTk hc.1 hc.2.1 hc.2.2.1 nb_e hv0 hv1 hc.2.2.2.1 hc.2.2.2.2.1 hc.2.2.2.2.2 (by omega)).mono fun v M2 ⟨q1, q2, q3⟩ => ⟨_, q1, fun z => absurd z (by dsimp only; omega), Or.inr ⟨by dsimp only; omega, q3⟩, q2, fun z => absurd z (by dsimp only; omega)⟩
    · have et : tM kd pl tx lo hi t = (t.1, if kd t.1 = 1 then 1 else 2, pl t.1) := (if_neg fun z => c4 z.2).trans (if_pos h0)
      rw [et]
      by_cases c1 : kd t.1 = 1
      · rw [if_pos c1]
        exact (a67_1 hd hS hR hTk hc.1 hc.2.1 hc.2.2.1 hv0 hv1 (by omega)).mono fun v M2 ⟨r, q1, q2, q3, q4, q5, q6⟩ => ⟨r, q1, fun z => absurd z (by dsimp only; omega), CP.fl hc hB q2 q3 q4 q5 q6 (by omega)⟩
      · rw [if_neg c1]
        exact (a67_2 hd hS hR hTk hc.1 hc.2.1 hc.2.2.1 hv0 hv1 (by omega)).mono fun v M2 ⟨r, q1, q2, q3, q4, q5, q6⟩ => ⟨r, q1, fun z => absurd z (by dsimp only; omega), CP.fl hc hB q2 q3 q4 q5 q6 (by omega)⟩
  · rw [tM_f h1]
    exact (y67 hd hR hTk g12 g13 g10 g11 g9 g16 g19 hv0 hv1 gb).mono fun v M2 ⟨y, x1, x2, x3, h, g⟩ => ⟨y, h, fun z => absurd z (by omega), CP.flt h1 (by omega) ⟨x1, x2, x3, g⟩⟩
/-- the reference: goes on, or a FAULT comes -/
theorem RX.fr (h : RX T n M) (f : Fr W M M2) (w : (∀ z, z ∈ W → z ≠ (160, 1)) ∧ (∀ z, z ∈ W → z.1 ≠ 161 ∧ z.1 ≠ 194) ∧ ∀ z, z ∈ W → z ≠ (160, 9999)) : RX T n M2 := by
  refine ⟨h.1.fr f, ?_, fun i a b => ?_⟩
  · obtain ⟨h1, h2, h3, h4, h5⟩ := h.2.1
    refine ⟨(f.i _ _ ?_).trans h1, h2, h3, fun i a b => (f.c _ (fun z y => (w.2.1 z y).1) _).trans (h4 i a b), h5⟩
    unfold inW
    refine List.any_eq_false.mpr fun z hz => ?_
    have w1 := w.1 z hz
    have w2 := w.2.2 z hz
    obtain ⟨z1, z2⟩ := z
    intro q
    simp only [Bool.and_eq_true, Bool.or_eq_true, beq_iff_eq] at q
    rcases q with ⟨q1, q2 | q2⟩
    · exact w2 (by rw [q1, q2])
    · exact w1 (by rw [q1, q2])
  · exact (f.lc _ (fun z y => (w.2.1 z y).2) _).trans (h.2.2 i a b)
theorem RM.fr (h : RM M) (f : Fr W_219 M M2) : RM M2 := by
  obtain ⟨mu, ut, h1, h2, h3⟩ := h
  exact ⟨mu, ut, (f.i _ _ (by decide)).trans h1, (f.i _ _ (by decide)).trans h2, h3⟩
theorem RM.frw (h : RM M) (f : Fr W M M2) (w : inW W 160 48 = false ∧ inW W 160 49 = false) : RM M2 := by
  obtain ⟨mu, ut, h1, h2, h3⟩ := h
  exact ⟨mu, ut, (f.i _ _ w.1).trans h1, (f.i _ _ w.2).trans h2, h3⟩
theorem RP.ok (hr : SR M kd pl E tx i e s u dp) (hm : RM M) (fr : Fr W_219 M M2) (h36 : M2.1 160 36 = iI (kr (kd i2))) (h37 : M2.1 160 37 = iI (pl i2)) (h38 : M2.1 160 38 = iI (E i2)) (h41 : M2.1 160 41 = iI 0) (hn : NmR M2 (kd i2) (tx i2)) (hb : 0 ≤ i2 ∧ i2 < m) : RP b m kd pl E tx e s u dp M (i2, 0, 0) M2 := by
  obtain ⟨-, -, -, -, g43, g51, g53, g50, -⟩ := hr
  exact ⟨Or.inl ⟨rfl, ⟨h36, h37, h38, h41, (fr.i _ _ (by decide)).trans g43, (fr.i _ _ (by decide)).trans g51, (fr.i _ _ (by decide)).trans g53, (fr.i _ _ (by decide)).trans g50, hn⟩, hm.fr fr, hb⟩, Fr.m fr (by decide), fun _ => fr⟩
theorem RP.fl (hr : SR M kd pl E tx i e s u dp) (hm : RM M) (he : 0 ≤ e ∧ e ≤ b) (fr : Fr W_219 M M2) (h41 : M2.1 160 41 = iI F) (h42 : M2.1 160 42 = iI P) (hb : 1 ≤ F ∧ F ≤ 6) : RP b m kd pl E tx e s u dp M (i2, F, P) M2 := by
  obtain ⟨-, -, -, -, g43, g51, g53, g50, -⟩ := hr
  obtain ⟨mu, ut, q1, q2, q3⟩ := hm
  exact ⟨Or.inr ⟨hb.1, hb.2, e, s, u, mu, ut, h41, h42, (fr.i _ _ (by decide)).trans g43, (fr.i _ _ (by decide)).trans g51, (fr.i _ _ (by decide)).trans g53, (fr.i _ _ (by decide)).trans q1, (fr.i _ _ (by decide)).trans q2, by omega⟩, Fr.m fr (by decide), fun z => absurd z (by show ¬ F = 0; omega)⟩
theorem RP.stop (hr : SR M kd pl E tx i e s u dp) (hm : RM M) (he : 0 ≤ e ∧ e ≤ b) (hb : 1 ≤ F ∧ F ≤ 6) : RP b m kd pl E tx e s u dp M (i2, F, P) (sI (sI M 160 41 (iI F)) 160 42 (iI P)) := RP.fl hr hm he (Fr.sI (by decide) (Fr.sI (by decide) Fr.r)) ((sI_nej (by decide)).trans sI_eq) sI_eq hb
theorem q193n (hd : 2 ≤ d) (hS : TkS T n m kd pl E tx) (hR : RT M) (hr : SR M kd pl E tx i e s u dp) (hm : RM M) (he : 0 ≤ e ∧ e ≤ b) (hb : 0 ≤ i ∧ i < m) (hv0 : v0 = iI 0) : ∃ M2, runX d 193 [va_rf (some 160), .int v0] M = some (.int (iI 0), M2) ∧ RP b m kd pl E tx e s u dp M (i, if kd i = 1 then 1 else 2, pl i) M2 := by
  by_cases c : kd i = 1
  · rw [if_pos c]
    exact ⟨_, ar193_1 hd hS hR hr.1 hr.2.1 hr.2.2.2.1 hv0 ⟨hb.1, hb.2, c, rfl⟩, RP.stop hr hm he (by omega)⟩
  · rw [if_neg c]
    exact ⟨_, ar193_2 hd hS hR hr.1 hr.2.1 hr.2.2.2.1 hv0 ⟨hb.1, hb.2, c, rfl⟩, RP.stop hr hm he (by omega)⟩
theorem q194n (hd : 2 ≤ d) (hS : TkS T n m kd pl E tx) (hR : RT M) (hr : SR M kd pl E tx i e s u dp) (hm : RM M) (he : 0 ≤ e ∧ e ≤ b) (hb : 0 ≤ i ∧ i < m) (hv0 : v0 = iI 0) (hv1 : v1 = iI f) (hf : 1 ≤ f ∧ f ≤ 6) : ∃ M2, runX d 194 [va_rf (some 160), .int v0, .int v1] M = some (.int (iI 0), M2) ∧ RP b m kd pl E tx e s u dp M (i, f, pl i) M2 := ⟨_, ar194_f hd hS hR hr.1 hr.2.1 hr.2.2.2.1 hv0 hv1 ⟨hb.1, hb.2, rfl, hf⟩, RP.stop hr hm he hf⟩
/-- behind a FAULT -/
theorem RP.flt (h1 : 1 ≤ t.2.1 ∧ t.2.1 ≤ 6) {em sn us mu ut : Int} (h49 : M.1 160 49 = iI ut) (hb : 0 ≤ em ∧ em ≤ b ∧ 0 ≤ mu ∧ mu ≤ 1 ∧ 0 ≤ ut ∧ ut ≤ 8) (h : ∃ (emq : Int), Fr W_rp M M2 ∧ M2.1 160 43 = iI emq ∧ M2.1 160 41 = iI t.2.1 ∧ M2.1 160 42 = iI t.2.2 ∧ M2.1 160 51 = iI sn ∧ M2.1 160 53 = iI us ∧ M2.1 160 48 = iI mu ∧ (em ≤ emq ∧ emq ≤ em + 0)) : RP b m kd pl E tx e s u dp M t M2 := by
  obtain ⟨emq, f, g43, g41, g42, g51, g53, g48, g⟩ := h
  exact ⟨Or.inr ⟨h1.1, h1.2, emq, sn, us, mu, ut, g41, g42, g43, g51, g53, g48, (f.i _ _ (by decide)).trans h49, by omega⟩, f, fun z => absurd z (by omega)⟩
theorem q191 (hd : 4 ≤ d) (hS : TkS T n m kd pl E tx) (hX : RX T n M) (hr : RS b m kd pl E tx e s u dp M t) (hb : b ≤ 3000) (hk : t.2.1 = 0 → kd t.1 ≠ 0 ∧ kd t.1 ≠ 1) : Rt (runX d 191 [va_rf (some 160)] M) (fun _ M2 => RP b m kd pl E tx e s u dp M (tA t) M2) := by
  rcases hr with ⟨h0, hr, hm, hi⟩ | ⟨h1, h6, em, sn, us, mu, ut, g41, g42, g43, g51, g53, g48, g49, gb⟩
  · have et : tA t = (t.1 + 1, 0, 0) := if_pos h0
    rw [et]
    have hmo := hS.more t.1 hi.1 hi.2 (hk h0)
    refine (nx_ok hd hS hX.1 hX.2.1 hX.2.2 hr.2.2.2.1 hr.2.2.1 hi (hk h0)).mono fun v M2 ⟨f, q1, q2, q3, q4⟩ => RP.ok hr hm (Fr.m f (by decide)) q1 q2 q3 ((f.i _ _ (by decide)).trans hr.2.2.2.1) q4 (by omega)
  · rw [tA_f h1]
    exact (x191_s (by omega) hX.1 g41 g42 g43 g51 g53 g48 g49 (by omega)).mono fun v M2 h => RP.flt ⟨h1, h6⟩ g49 gb h
theorem q195 (hd : 5 ≤ d) (hS : TkS T n m kd pl E tx) (hX : RX T n M) (hr : RS b m kd pl E tx e s u dp M t) (he : 0 ≤ e ∧ e ≤ b ∧ b ≤ 3000) (hv0 : v0 = iI c) (hK : KdOK K) (hKc : kr K = c) (hK3 : 3 ≤ K) : Rt (runX d 195 [va_rf (some 160), .int v0] M) (fun v M2 => ∃ r, v = .int (iI r) ∧ RP b m kd pl E tx e s u dp M (tE kd pl K t) M2) := by
  rcases hr with ⟨h0, hr, hm, hi⟩ | ⟨h1, h6, em, sn, us, mu, ut, g41, g42, g43, g51, g53, g48, g49, gb⟩
  · obtain ⟨d, rfl⟩ : ∃ e, d = e + 1 := ⟨d - 1, by omega⟩
    have hcr : -2147483648 ≤ c ∧ c ≤ 2147483647 := by rw [← hKc]; have := hK.r; unfold kr wp; split <;> (try omega) <;> split <;> (try omega) <;> split <;> (try omega) <;> split <;> (try omega) <;> split <;> omega
    rw [r195]; unfold b195; rw [aR_e, aI_e, aZ_e]; unfold c195
    refine rs1 (gtI_q (w := iI 0) (rk_160 hX.1) hr.2.2.2.1) ?_
    refine rs1 (jn_v) ?_
    refine rs1 (if_pos (eqI_p rfl li_0 rfl)) ?_
    refine rs1 (gtI_q (rk_160 hX.1) hr.1) ?_
    refine rs1 (jn_v) ?_
    by_cases c1 : kd t.1 = K
    · have et : tE kd pl K t = (t.1 + 1, 0, 0) := if_pos ⟨h0, c1⟩
      rw [et]
      refine rs1 (if_pos (krI_p (k := K) rfl hv0 c1 hKc)) ?_
      refine rs1 (jv_e) ?_
      refine rs1 (vC_e (rk_160 hX.1)) ?_
      refine rs1 (cI_e (ar193_p (by omega) hS hX.1 hr.1 hr.2.1 hr.2.2.2.1 li_1 ⟨hi.1, hi.2, by omega, rfl⟩)) ?_
      refine rs1 (if_neg (eqI_n (x := 1) (y := 0) rfl li_0 (by omega))) ?_
      refine rs1 (vC_e (rk_160 hX.1)) ?_
      have hmo := hS.more t.1 (by omega) (by omega) (by omega)
      refine Rc_V (nx_ok (by omega) hS hX.1 hX.2.1 hX.2.2 hr.2.2.2.1 hr.2.2.1 hi ⟨by omega, by omega⟩) fun v M2 ⟨f, q1, q2, q3, q4⟩ => ?_
      have h41 := (f.i 160 41 (by decide)).trans hr.2.2.2.1
      refine rs1 (cV_e rfl) ?_
      refine rs1 (jv_e) ?_
      refine rs1 (gtI_q (w := iI 0) (rk_160 (hX.1.fr f)) h41) ?_
      refine rs1 (jn_v) ?_
      refine rs1 (if_pos (eqI_p rfl li_0 rfl)) ?_
      refine rs1 (jv_e) ?_
      refine rs1 (rtZ_q (z := 1) li_1 (by omega)) ?_
      exact Rt.ok ⟨1, rfl, RP.ok hr hm (Fr.m f (by decide)) q1 q2 q3 h41 q4 (by omega)⟩
    · have et : tE kd pl K t = (t.1, if kd t.1 = 1 then 1 else 2, pl t.1) := (if_neg fun z => c1 z.2).trans (if_pos h0)
      rw [et]
      refine rs1 (if_neg (krI_n (k := K) rfl hv0 (hS.ok t.1 hi.1 hi.2) hK hKc c1 hcr)) ?_
      refine rs1 (jv_e) ?_
      refine rs1 (vC_e (rk_160 hX.1)) ?_
      obtain ⟨M2, q1, q2⟩ := q193n (d := d) (b := b) (by omega) hS hX.1 hr hm ⟨he.1, he.2.1⟩ hi li_0
      refine rs1 (cI_e q1) ?_
      refine rs1 (if_pos (eqI_p rfl li_0 rfl)) ?_
      refine rs1 (jv_e) ?_
      have q3 := q2
      obtain ⟨z | ⟨z1, z6, em, sn, us, mu, ut, g41, -⟩, f, -⟩ := q3
      · exfalso
        have := z.1
        dsimp only at this
        split at this <;> omega
      · refine rs1 (gtI_q (rk_160 (hX.1.fr f)) g41) ?_
        refine rs1 (jn_v) ?_
        refine rs1 (if_neg (eqI_n rfl li_0 (by dsimp only at z1 z6 ⊢; omega))) ?_
        refine rs1 (jv_e) ?_
        refine rs1 (rtZ_q (z := 0) li_0 (by omega)) ?_
        exact Rt.ok ⟨0, rfl, q2⟩
  · rw [tE_f h1]
    exact (x195_s (by omega) hX.1 g41 g42 g43 g51 g53 g48 g49 hv0 (by omega)).mono fun v M2 ⟨rv, emq, q0, f, q1, q2, q3, q4, q5, q6, q7, q8⟩ => ⟨rv, q0, RP.flt ⟨h1, h6⟩ g49 gb ⟨emq, f, q1, q2, q3, q4, q5, q6, q7⟩⟩
theorem q219 (hd : 6 ≤ d) (hS : TkS T n m kd pl E tx) (hX : RX T n M) (hr : RS b m kd pl E tx e s u dp M t) (he : 0 ≤ e ∧ e ≤ b ∧ b ≤ 3000) (hm14 : m ≤ 1400) : Rt (runX d 219 [va_rf (some 160)] M) (fun _ M2 => ((tS kd pl t).2.1 = 0 → M2.1 160 62 = iI (vSg kd tx t)) ∧ RP b m kd pl E tx e s u dp M (tS kd pl t) M2) := by
  rcases hr with ⟨h0, hr, hm, hi⟩ | ⟨h1, h6, em, sn, us, mu, ut, g41, g42, g43, g51, g53, g48, g49, gb⟩
  · by_cases c : kd t.1 = 45
    · have hmo := hS.more t.1 (by omega) (by omega) (by omega)
      have eg : tG kd t = (t.1 + 1, 0, 0) := if_pos ⟨h0, c⟩
      have ev : vSg kd tx t = -(nb tx (t.1 + 1)) := if_pos c
      rw [ev]
      by_cases c4 : kd (t.1 + 1) = 4
      · have et : tS kd pl t = (t.1 + 1 + 1, 0, 0) := by unfold tS; rw [eg]; exact if_pos ⟨rfl, c4⟩
        rw [et]
        have hm2 := hS.more (t.1 + 1) (by omega) (by omega) (by omega)
        have hz := nb_r hS (i := t.1 + 1) ⟨by omega, by omega, c4⟩
        refine (a219_b hd hS hX.1 hX.2.1 hX.2.2 hr.1 hr.2.1 hr.2.2.1 hr.2.2.2.1 hr.2.2.2.2.2.2.2.2 nb_e (by omega)).mono fun v M2 ⟨f, q1, q2, q3, q4, q5, q6⟩ => ⟨fun _ => q5, ?_⟩
        have e2 : t.1 + 2 = t.1 + 1 + 1 := by omega
        rw [e2] at q1 q2 q3 q6
        exact RP.ok hr hm f q1 q2 q3 q4 q6 (by omega)
      · have et : tS kd pl t = (t.1 + 1, if kd (t.1 + 1) = 1 then 1 else 2, pl (t.1 + 1)) := by unfold tS; rw [eg]; exact (if_neg fun z => c4 z.2).trans (if_pos rfl)
        rw [et]
        by_cases c1 : kd (t.1 + 1) = 1
        · rw [if_pos c1]
          exact (a219_d1 hd hS hX.1 hX.2.1 hX.2.2 hr.1 hr.2.1 hr.2.2.1 hr.2.2.2.1 hr.2.2.2.2.2.2.2.2 (by omega)).mono fun v M2 ⟨f, q1, q2, q3, q4, q5⟩ => ⟨fun z => absurd z (by dsimp only; omega), RP.fl hr hm ⟨he.1, he.2.1⟩ f q4 q5 (by omega)⟩
        · rw [if_neg c1]
          exact (a219_d2 hd hS hX.1 hX.2.1 hX.2.2 hr.1 hr.2.1 hr.2.2.1 hr.2.2.2.1 hr.2.2.2.2.2.2.2.2 (by omega)).mono fun v M2 ⟨f, q1, q2, q3, q4, q5⟩ => ⟨fun z => absurd z (by dsimp only; omega), RP.fl hr hm ⟨he.1, he.2.1⟩ f q4 q5 (by omega)⟩
    · have eg : tG kd t = t := if_neg fun z => c z.2
      have ev : vSg kd tx t = nb tx t.1 := if_neg c
      rw [ev]
      by_cases c4 : kd t.1 = 4
      · have et : tS kd pl t = (t.1 + 1, 0, 0) := by unfold tS; rw [eg]; exact if_pos ⟨h0, c4⟩
        rw [et]
        have hm2 := hS.more t.1 (by omega) (by omega) (by omega)
        have hz := nb_r hS (i := t.1) ⟨by omega, by omega, c4⟩
        exact (a219_a hd hS hX.1 hX.2.1 hX.2.2 hr.1 hr.2.1 hr.2.2.1 hr.2.2.2.1 hr.2.2.2.2.2.2.2.2 nb_e (by omega)).mono fun v M2 ⟨f, q1, q2, q3, q4, q5, q6⟩ => ⟨fun _ => q5, RP.ok hr hm f q1 q2 q3 q4 q6 (by omega)⟩
      · have et : tS kd pl t = (t.1, if kd t.1 = 1 then 1 else 2, pl t.1) := by unfold tS; rw [eg]; exact (if_neg fun z => c4 z.2).trans (if_pos h0)
        rw [et]
        by_cases c1 : kd t.1 = 1
        · rw [if_pos c1]
          exact (a219_1 hd hS hX.1 hX.2.1 hX.2.2 hr.1 hr.2.1 hr.2.2.1 hr.2.2.2.1 hr.2.2.2.2.2.2.2.2 (by omega)).mono fun v M2 ⟨f, q1, q2, q3, q4, q5⟩ => ⟨fun z => absurd z (by dsimp only; omega), RP.fl hr hm ⟨he.1, he.2.1⟩ f q4 q5 (by omega)⟩
        · rw [if_neg c1]
          exact (a219_2 hd hS hX.1 hX.2.1 hX.2.2 hr.1 hr.2.1 hr.2.2.1 hr.2.2.2.1 hr.2.2.2.2.2.2.2.2 (by omega)).mono fun v M2 ⟨f, q1, q2, q3, q4, q5⟩ => ⟨fun z => absurd z (by dsimp only; omega), RP.fl hr hm ⟨he.1, he.2.1⟩ f q4 q5 (by omega)⟩
  · rw [tS_f h1]
    exact (x219_s (by omega) hX.1 g41 g42 g43 g51 g53 g48 g49 (by omega)).mono fun v M2 h => ⟨fun z => absurd z (by omega), RP.flt ⟨h1, h6⟩ g49 gb h⟩
end S54
