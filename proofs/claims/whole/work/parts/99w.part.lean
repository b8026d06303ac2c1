/-! the first object's machine: execute() -/
section S99w
variable {d : Nat} {e s s' t u : ZS} {κ : ZK} {M M' M1 M2 : Mem} {a b j N x y T LL : Nat} {xs : Nat → Int32} {v v1 v2 v3 w : Int32} {c k i n m p o q id fl ar st key par r B h D H S P en : Int} {Y : Nat → Int → Int} {DT : Option Nat}
/-- a code begins, with par LOCALS -/
def zbeg (s : ZS) (en par : Int) : ZS := zent s en (-1) 0 par
theorem zc28 (hd : 10 ≤ d) (hT : zET e) (h8 : zE8 e) (hEl : zEl e) (hC : CT M) (hG : zCG e κ s M) (hE : zCE e κ M) (hO : OldOK LL xs M) (h0 : s.1 0 0 0 = 0) (hm : s.1 1 0 0 = 0) (hK : zKn e (zbeg s en par)) (hP : ∀ k, 0 ≤ k → k < par → M.1 92 k.toNat = s.2 0 0 k) (hv : v1 = iI en) (hen : en < 1000) : ∃ M' r u, runX d 28 [va_rf (some 88), .int v1] M = some (.int r, M') ∧ zFo κ M M' ∧ zto e (zbeg s en par) u ∧ zend u ∧ zCN e κ u M' ∧ zCE e κ M' ∧ OldOK LL xs M' ∧ (r = 1 ∧ u.1 1 0 0 = 2 ∨ r = 0 ∧ u.1 1 0 0 ≠ 2) := by
  obtain ⟨d, rfl⟩ : ∃ e, d = e + 1 := ⟨d - 1, by omega⟩
  subst hv
  have hk := hE.2.2.2.2.1.k8
  have k := ck_88 hC
  obtain ⟨M3, hM3⟩ : ∃ z, z = sI (sI (sI M 88 19 (iI 0)) 88 15 (iI 0)) 88 14 (iI 0) := ⟨_, rfl⟩
  have f3 : zFf M M3 := by rw [hM3]; exact zFf.sI (zFf.sI (zFf.sI zFf.r (by decide)) (by decide)) (by decide)
  have C3 := hC.f f3
  have a14 : M3.1 88 14 = iI 0 := by rw [hM3]; exact sI_eq
  have run29 := mC29 (d := d) (M := M3) (n := 0) (v1 := iI en) (v2 := 0) (v3 := 0) (v4 := -2) (by omega) C3 a14 (by omega)
  obtain ⟨M4, hM4⟩ : ∃ z, z = sI (sI (sI (sI (sI (sI M3 (94 + (0 : Int).toNat) 0 (iI en)) (94 + (0 : Int).toNat) 1 0) (94 + (0 : Int).toNat) 2 0) (94 + (0 : Int).toNat) 3 (-2)) 88 14 (iI (0 + 1))) 88 12 (0 + 10) := ⟨_, rfl⟩
  rw [← hM4] at run29
  have z94 : 94 + (0 : Int).toNat = 94 := rfl
  rw [z94] at hM4
  have f4 : zFf M M4 := by
    rw [hM4]
    exact zFf.sI (zFf.sI (zFf.sI (zFf.sI (zFf.sI (zFf.sI f3 (inW_c (by decide) _)) (inW_c (by decide) _)) (inW_c (by decide) _)) (inW_c (by decide) _)) (by decide)) (by decide)
  have C4 := hC.f f4
  have fo := f4.fo (κ := κ)
  have E4 := hE.fo fo
  have zn := zent_n (s := s) (t := en) (st := -1) (k := 0) (c := par)
  obtain ⟨S, hS⟩ : ∃ S, S = zbeg s en par := ⟨_, rfl⟩
  have zn' : S.1 0 0 0 = s.1 0 0 0 + 1 ∧ S.1 2 (s.1 0 0 0) 0 = en ∧ S.1 3 (s.1 0 0 0) 0 = 0 ∧ S.1 5 (s.1 0 0 0) 0 = -1 ∧ S.1 6 (s.1 0 0 0) 0 = 0 ∧ S.1 16 (s.1 0 0 0) 0 = par := by
    rw [hS]; exact ⟨zn.1, zn.2.1, zn.2.2.1, zn.2.2.2.1, zn.2.2.2.2.1, zn.2.2.2.2.2.1⟩
  rw [h0] at zn'
  obtain ⟨s0, s2, s3, s5, s6, s16⟩ := zn'
  rw [← hS] at hK ⊢
  have zf0 : zf S = 0 := by unfold zf; rw [s0]; rfl
  have en0 : zoff en = 0 := if_pos hen
  have Sm : S.1 1 0 0 = 0 := by rw [hS]; exact hm
  have cm : zCM e κ S M4 := by
    refine ⟨C4, hG.ff f4 ⟨fun k p => ?_, fun k p q r => by rw [hS]; rfl, by rw [hS]; exact Iff.rfl⟩ hk, fun i p q => ?_, ?_, ?_, ?_, ?_⟩
    · rw [hS]; rcases p with p | p | p | p | p | p | p <;> subst p <;> rfl
    · have i0 : i = 0 := by omega
      subst i0
      refine ⟨⟨?_, ?_, ?_, ?_⟩, fun k u w => ?_, fun k u w => ?_⟩
      · rw [s2, en0, hM4]
        exact ((sI_ne (by decide)).trans ((sI_ne (by decide)).trans ((sI_nej (by decide)).trans ((sI_nej (by decide)).trans ((sI_nej (by decide)).trans sI_eq))))).trans (congrArg iI (by omega))
      · rw [s6, hM4]
        exact ((sI_ne (by decide)).trans ((sI_ne (by decide)).trans ((sI_nej (by decide)).trans ((sI_nej (by decide)).trans sI_eq)))).trans li_0
      · rw [s2, if_pos hen, hM4]
        exact ((sI_ne (by decide)).trans ((sI_ne (by decide)).trans ((sI_nej (by decide)).trans sI_eq))).trans li_0
      · rw [s5, if_pos (by decide), hM4]
        exact ((sI_ne (by decide)).trans ((sI_ne (by decide)).trans sI_eq)).trans rfl
      · rw [s16] at w
        rw [s6, show (10 * 0 + 0 + k : Int) = k by omega, hM4, hM3]
        refine Eq.trans ?_ ((hP k u w).trans (by rw [hS]; rfl))
        exact (sI_ne (by decide)).trans ((sI_ne (by decide)).trans ((sI_ne (by decide)).trans ((sI_ne (by decide)).trans ((sI_ne (by decide)).trans ((sI_ne (by decide)).trans ((sI_ne (by decide)).trans ((sI_ne (by decide)).trans (sI_ne (by decide)))))))))
      · rw [s3] at w; omega
    · rw [s0, hM4]; exact (sI_nej (by decide)).trans sI_eq
    · have : ztp S = 10 := by unfold ztp zh; rw [zf0, s6, s3]; rfl
      rw [this, hM4]; exact sI_eq.trans rfl
    · rw [hM4, hM3]
      exact (sI_nej (by decide)).trans ((sI_nej (by decide)).trans ((sI_ne (by decide)).trans ((sI_ne (by decide)).trans ((sI_ne (by decide)).trans ((sI_ne (by decide)).trans ((sI_nej (by decide)).trans sI_eq))))))
    · rw [hM4, hM3]
      exact (sI_nej (by decide)).trans ((sI_nej (by decide)).trans ((sI_ne (by decide)).trans ((sI_ne (by decide)).trans ((sI_ne (by decide)).trans ((sI_ne (by decide)).trans ((sI_nej (by decide)).trans ((sI_nej (by decide)).trans sI_eq)))))))
  obtain ⟨⟨i1, i1'⟩, -⟩ := hK.2.1
  have h9 : 0 ≤ S.1 9 0 0 := hK.1.1.1.2.2.2.2.1
  have l20 := hEl.1
  obtain ⟨M', u, y1, y2, y3, y4, y5⟩ := exec_lp (d := d) (J := jv fun (s5 : Mem) => gtI (4, 22) s5 (some 88) 19 fun x6 => jn (fun (s7 : Int32) => rtZ s7 s5) fun j138 => if x6 = 0 then (j138 ((1 : Int32))) else (j138 ((0 : Int32)))) (by omega) hT h8 hEl 3000 S M4 0 4294967296 (by rw [if_neg (by omega)]; omega) hK E4 (hO.zfo fo hk) (Or.inl ⟨cm, Sm⟩) (by omega) (by omega) (by omega)
  have fo' := fo.tr y5
  have head : runX (d + 1) 28 [va_rf (some 88), .int (iI en)] M = (jv fun (s5 : Mem) => gtI (4, 22) s5 (some 88) 19 fun x6 => jn (fun (s7 : Int32) => rtZ s7 s5) fun j138 => if x6 = 0 then (j138 ((1 : Int32))) else (j138 ((0 : Int32)))) M' := by
    rw [r28]; unfold b28; rw [aR_e, aI_e, aZ_e]; unfold c28
    rw [ptI_q (z := 0) k li_0, ptZ_q (M := sI M 88 19 (iI 0)) (z := 0) k li_0 (by omega), ptI_q (M := sI (sI M 88 19 (iI 0)) 88 15 (iI 0)) (z := 0) k li_0, ← hM3, vC_e (ck_88 C3), cV_e run29, jn_v]
    exact y1
  have kk := ck_88 y4.1
  have fin : ∀ x : Int32, M'.1 88 19 = x → runX (d + 1) 28 [va_rf (some 88), .int (iI en)] M = some (.int (if x = 0 then 1 else 0), M') := fun x hx => by
    rw [head, jv_e, gtI_q kk hx, jn_v]
    by_cases y : x = 0
    · rw [if_pos y, if_pos y]; rfl
    · rw [if_neg y, if_neg y]; rfl
  have y4' := y4
  obtain ⟨-, -, -, y7⟩ := y4'
  rcases y7 with ⟨m2, e19⟩ | ⟨m2, e19, -⟩ | ⟨m2, e19, -⟩ | ⟨m2, e19, -⟩ | ⟨m2, e19⟩
  · exact ⟨M', 1, u, by rw [fin _ e19]; rfl, fo', y2, y3, y4, hE.fo fo', hO.zfo fo' hk, Or.inl ⟨rfl, m2⟩⟩
  · exact ⟨M', 0, u, by rw [fin _ e19]; rfl, fo', y2, y3, y4, hE.fo fo', hO.zfo fo' hk, Or.inr ⟨rfl, by omega⟩⟩
  · exact ⟨M', 0, u, by rw [fin _ e19]; rfl, fo', y2, y3, y4, hE.fo fo', hO.zfo fo' hk, Or.inr ⟨rfl, by omega⟩⟩
  · exact ⟨M', 0, u, by rw [fin _ e19]; rfl, fo', y2, y3, y4, hE.fo fo', hO.zfo fo' hk, Or.inr ⟨rfl, by omega⟩⟩
  · exact ⟨M', 0, u, by rw [fin _ e19]; rfl, fo', y2, y3, y4, hE.fo fo', hO.zfo fo' hk, Or.inr ⟨rfl, by omega⟩⟩
end S99w
