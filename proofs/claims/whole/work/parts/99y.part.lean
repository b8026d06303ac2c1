/-! the reference's machine: operations without members -/
/-- something fails -/
def zRX (e u : ZS) (M : Mem) : Prop := zRG e u M ∧ (∀ i, 0 ≤ i → i < u.1 0 0 0 → zRf u M i) ∧ M.1 160 85 = iI 0 ∧ M.1 160 86 = iI 1 ∧ M.1 160 87 = iI (if u.1 1 0 0 = 7 then 1 else 0) ∧ M.1 160 88 = u.2 5 0 0 ∧ M.1 160 89 = iI (u.1 13 0 0)
/-- no STEP or no WORK is left -/
def zRZ (e t : ZS) (M : Mem) : Prop := zRG e t M ∧ M.1 160 85 = iI 1 ∧ M.1 160 86 = iI 1 ∧ (t.1 1 0 0 = 5 → M.1 160 88 = t.2 5 0 0 ∧ M.1 160 89 = iI (t.1 13 0 0)) ∧ (t.1 1 0 0 = 6 → M.1 160 84 = iI 1)
/-- the codes below and the TRYs of the one on top are the same -/
def zSa (s t : ZS) : Prop := t.1 0 0 0 = s.1 0 0 0 ∧ (∀ i, 0 ≤ i → i < zf s → (∀ k, k = 2 ∨ k = 3 ∨ k = 4 ∨ k = 5 ∨ k = 6 ∨ k = 16 → t.1 k i 0 = s.1 k i 0) ∧ (∀ x, t.1 7 i x = s.1 7 i x) ∧ ∀ x, t.2 0 i x = s.2 0 i x ∧ t.2 1 i x = s.2 1 i x) ∧ (∀ k, k = 4 ∨ k = 5 ∨ k = 6 → t.1 k (zf s) 0 = s.1 k (zf s) 0) ∧ ∀ x, t.1 7 (zf s) x = s.1 7 (zf s) x
/-- what may change until t: in the end it may be noted that no WORK is left -/
def zRq (e t : ZS) (M M' : Mem) : Prop := M'.2 = M.2 ∧ (∀ a j, inW W_r a j = false → ¬ (a = 160 ∧ j = 84 ∧ t.1 1 0 0 = 6) → M'.1 a j = M.1 a j) ∧ ∀ a j : Nat, a = 216 ∨ a = 217 ∨ a = 218 → ((j : Int) < 1000 * e.1 29 0 0 ∨ 1000 * e.1 29 0 0 + 1000 ≤ j ∨ e.1 10 0 0 ≠ 1) → M'.1 a j = M.1 a j
theorem zRo.q {e t : ZS} {M M' : Mem} (h : zRo e M M') : zRq e t M M' := ⟨h.1, fun a j p _ => h.2.1 a j p, h.2.2⟩
theorem zRq.o {e t : ZS} {M M' : Mem} (h : zRq e t M M') (hm : t.1 1 0 0 ≠ 6) : zRo e M M' := ⟨h.1, fun a j p => h.2.1 a j p fun z => hm z.2.2, h.2.2⟩
theorem zRq.pre {e t : ZS} {M M1 M2 : Mem} (h : zRq e t M1 M2) (f : zRo e M M1) : zRq e t M M2 := ⟨h.1.trans f.1, fun a j p q => (h.2.1 a j p q).trans (f.2.1 a j p), fun a j p q => (h.2.2 a j p q).trans (f.2.2 a j p q)⟩
theorem zRq.post {e t : ZS} {M M1 M2 : Mem} (h : zRq e t M M1) (f : zRo e M1 M2) : zRq e t M M2 := ⟨f.1.trans h.1, fun a j p q => (f.2.1 a j p).trans (h.2.1 a j p q), fun a j p q => (f.2.2 a j p q).trans (h.2.2 a j p q)⟩
/-- what comes of an operation -/
def zRA (e s u : ZS) (M M' : Mem) : Prop := ∃ t, zto e u t ∧ zRq e t M M' ∧ ((t.1 1 0 0 = 0 ∧ zSa s t ∧ zpc t = zpc s + 1 ∧ zRM e t M') ∨ ((t.1 1 0 0 = 3 ∨ t.1 1 0 0 = 7) ∧ zSa s t ∧ zpc t = zpc s ∧ zRX e t M') ∨ ((t.1 1 0 0 = 5 ∨ t.1 1 0 0 = 6) ∧ zRZ e t M'))
section S99y
variable {d : Nat} {e s s' t u : ZS} {M M' M1 M2 : Mem} {a b j N x y : Nat} {v v1 v2 v3 w : Int32} {c k i n m p o q id : Int} {Y : Nat → Int → Int}
theorem zSa.r : zSa s s := ⟨rfl, fun _ _ _ => ⟨fun _ _ => rfl, fun _ => rfl, fun _ => ⟨rfl, rfl⟩⟩, fun _ _ => rfl, fun _ => rfl⟩
/-- push(), pop() -/
theorem rq1 (hd : 1 ≤ d) (h : zRM e s M) (hl : zLr s) (hh : zh s < 200) : ∃ M', runX d 241 [va_rf (some 160), .int v] M = some (.null, M') ∧ zRM e (zpush s v) M' ∧ zRo e M M' := by
  have sp := hl.sp
  exact ⟨_, mR241 hd h.1.1 h.2.2.2.1 (by omega), h.push hl hh, (zRw.sI (zRw.sI zRw.r (inW_c (by decide) _)) (by decide)).ro⟩
theorem rq2 (hd : 1 ≤ d) (h : zRM e s M) (hl : zLr s) (hh : 1 ≤ zh s) : ∃ M', runX d 242 [va_rf (some 160)] M = some (.int (ztop s 1), M') ∧ zRM e (zdn s 1) M' ∧ zRo e M M' := by
  have sp := hl.sp
  have l1 := hl.1
  have zfe : zf s = s.1 0 0 0 - 1 := rfl
  have t : M.1 213 (zsp s - 1).toNat = ztop s 1 := by
    have := (h.2.1 (zf s) (by omega) (by omega)).2.2 (zh s - 1) (by omega) (by show zh s - 1 < zh s; omega)
    show _ = s.2 1 (zf s) (zh s - 1)
    rw [← this]
    exact congrArg (fun z : Int => M.1 213 z.toNat) (by unfold zsp; omega)
  refine ⟨_, ?_, h.dn hl ⟨by omega, hh⟩, (zRw.sI zRw.r (by decide)).ro⟩
  rw [mR242 hd h.1.1 h.2.2.2.1 (by unfold zsp at sp ⊢; omega), t]
theorem zLr.dn (h : zLr s) (hc : 0 ≤ c ∧ c ≤ zh s) : zLr (zdn s c) := by
  obtain ⟨h1, h2, h3, h4, h5⟩ := h
  refine ⟨h1, h2, fun i p q => ?_, ?_, ?_⟩
  · have q' : i < zf s := q
    rw [show (zdn s c).1 3 i 0 = s.1 3 i 0 from zi_i (by omega)]
    exact h3 i p q
  · rw [zdn_h]; omega
  · rw [zdn_h]; omega
/-- another place -/
theorem zRM.at (h : zRM e s M) (c : Int) : zRM e (zgo s c) M := by
  obtain ⟨hG, hF, h76, h73, h85, h86⟩ := h
  exact ⟨hG.ff zRw.r ⟨fun k p => by rcases p with p | p | p | p | p | p | p | p <;> subst p <;> rfl, fun k p q r => rfl⟩, fun i p q => (hF i p q).lo (fun _ _ _ => rfl) (fun _ _ _ => rfl) (fun _ _ _ => rfl) rfl rfl rfl rfl (fun _ => rfl) (fun _ => rfl) (fun _ => rfl), h76, h73, h85, h86⟩
/-- it is noted what fails -/
theorem rfl9 {m : Int} (hd : 1 ≤ d) (h : zRM e s M) (hv2 : v2 = iI (zpc s)) (hm : m = 3 ∧ v3 = 0 ∨ m = 7 ∧ v3 = 1) : ∃ M', runX d 239 [va_rf (some 160), .int v1, .int v2, .int v3] M = some (.null, M') ∧ zRX e (zerr s v1 m) M' ∧ zRo e M M' := by
  obtain ⟨hG, hF, h76, h73, h85, h86⟩ := h
  have em : (zerr s v1 m).1 1 0 0 = m := zi_e
  have f : zRw M (rF M v1 v2 v3) := zRw.sI (zRw.sI (zRw.sI (zRw.sI zRw.r (by decide)) (by decide)) (by decide)) (by decide)
  have o : ∀ a j, a ≠ 160 → (rF M v1 v2 v3).1 a j = M.1 a j := fun a j p => (sI_ne p).trans ((sI_ne p).trans ((sI_ne p).trans (sI_ne p)))
  refine ⟨rF M v1 v2 v3, mR239 hd hG.1 (by rcases hm with z | z; exact Or.inl z.2; exact Or.inr z.2), ⟨hG.ff f ⟨fun k p => ?_, fun k p q r => ?_⟩, fun i p q => ?_, ?_, ?_, ?_, ?_, ?_⟩, f.ro⟩
  · rcases p with p | p | p | p | p | p | p | p <;> subst p <;> rfl
  · funext x y; exact zw_k (by omega)
  · exact (hF i p q).lo (fun _ _ _ => o _ _ (by decide)) (fun _ _ _ => o _ _ (by decide)) (fun _ _ _ => o _ _ (by decide)) rfl rfl rfl rfl (fun _ => rfl) (fun _ => rfl) (fun _ => rfl)
  · exact (sI_nej (by decide)).trans ((sI_nej (by decide)).trans ((sI_nej (by decide)).trans ((sI_nej (by decide)).trans h85)))
  · exact (sI_nej (by decide)).trans ((sI_nej (by decide)).trans ((sI_nej (by decide)).trans (sI_eq.trans li_1)))
  · rw [em]
    refine sI_eq.trans ?_
    rcases hm with ⟨z1, z2⟩ | ⟨z1, z2⟩
    · rw [z1, z2]; rfl
    · rw [z1, z2]; rfl
  · exact (sI_nej (by decide)).trans ((sI_nej (by decide)).trans (sI_eq.trans (zw_e (s := s) (k := 5) (i := 0) (j := 0) (w := v1)).symm))
  · exact ((sI_nej (by decide)).trans sI_eq).trans (hv2.trans (congrArg iI (zi_e (s := zw s 5 0 0 v1) (k := 13) (i := 0) (j := 0) (v := zpc s)).symm))
/-- a number on top, and on -/
theorem zSa.pd : zSa s (znx (zpush (zdn s c) v)) := by
  refine ⟨rfl, fun i p q => ?_, fun k w => by rcases w with w | w | w <;> subst w <;> rfl, fun _ => rfl⟩
  have ne : i ≠ zf s := by omega
  refine ⟨fun k w => ?_, fun _ => rfl, fun x => ⟨rfl, zw_i (s := zdn s c) ne⟩⟩
  rcases w with w | w | w | w | w | w <;> subst w
  · exact zi_i ne
  · have z1 : (zdn s c).1 3 i 0 = s.1 3 i 0 := zi_i ne
    have z2 : (zpush (zdn s c) v).1 3 i 0 = (zdn s c).1 3 i 0 := zi_i ne
    exact z2.trans z1
  · rfl
  · rfl
  · rfl
  · rfl
theorem zSa.dx : zSa s (znx (zdn s c)) := by
  refine ⟨rfl, fun i p q => ?_, fun k w => by rcases w with w | w | w <;> subst w <;> rfl, fun _ => rfl⟩
  have ne : i ≠ zf s := by omega
  refine ⟨fun k w => ?_, fun _ => rfl, fun x => ⟨rfl, rfl⟩⟩
  rcases w with w | w | w | w | w | w <;> subst w
  · exact zi_i ne
  · have z1 : (zdn s c).1 3 i 0 = s.1 3 i 0 := zi_i ne
    exact z1
  · rfl
  · rfl
  · rfl
  · rfl
theorem zSa.er {m : Int} : zSa s (zerr (zdn s c) v m) := by
  refine ⟨rfl, fun i p q => ?_, fun k w => by rcases w with w | w | w <;> subst w <;> rfl, fun _ => rfl⟩
  have ne : i ≠ zf s := by omega
  refine ⟨fun k w => ?_, fun _ => rfl, fun x => ⟨rfl, rfl⟩⟩
  rcases w with w | w | w | w | w | w <;> subst w
  · rfl
  · have z1 : (zdn s c).1 3 i 0 = s.1 3 i 0 := zi_i ne
    exact z1
  · rfl
  · rfl
  · rfl
  · rfl
theorem znx_pc : zpc (znx s) = zpc s + 1 := zi_e
/-- operations 10 to 20 -/
theorem rr2 (hd : 3 ≤ d) (h : zRM e s M) (hm : s.1 1 0 0 = 0) (hl : zLr s) (hv : v = iI o) (ho : 10 ≤ o ∧ o ≤ 20) (hh : 2 ≤ zh s) (hp : v3 = iI (zpc s)) : ∃ M', runX d 244 [va_rf (some 160), .int v, .int v2, .int v3] M = some (.null, M') ∧ zRA e s (if ztop s 1 = 0 ∧ (o = 13 ∨ o = 14) then zerr (zdn s 2) 1 3 else znx (zpush (zdn s 2) (ztwo o (ztop s 2) (ztop s 1)))) M M' := by
  obtain ⟨d, rfl⟩ : ∃ e, d = e + 1 := ⟨d - 1, by omega⟩
  subst hv; subst hp
  have l45 := hl.2.2.2
  obtain ⟨M1, q1, c1, f1⟩ := rq2 (d := d) (by omega) h hl (by omega)
  have l1 := hl.dn (c := 1) (by omega)
  have e1 : zh (zdn s 1) = zh s - 1 := zdn_h
  obtain ⟨M2, q2, c2, f2⟩ := rq2 (d := d) (by omega) c1 l1 (by omega)
  rw [zdn_dn, show (1 : Int) + 1 = 2 from rfl] at c2
  rw [zdn_top, show (1 : Int) + 1 = 2 from rfl] at q2
  have l2 := hl.dn (c := 2) (by omega)
  have e2 : zh (zdn s 2) = zh s - 2 := zdn_h
  have sp := l2.sp
  have f12 := f1.tr f2
  have q3 := mR246 (d := d) (M := M2) (t := zsp (zdn s 2)) (v := iI o) (o := o) (a := ztop s 2) (b := ztop s 1) (v1 := iI (zpc s)) (by omega) c2.1.1 c2.2.2.2.1 (by omega) rfl ho
  have head : runX (d + 1) 244 [va_rf (some 160), .int (iI o), .int v2, .int (iI (zpc s))] M = some (.null, if ztop s 1 = 0 ∧ (o = 13 ∨ o = 14) then rF M2 1 (iI (zpc s)) 0 else sI (sI M2 213 (zsp (zdn s 2)).toNat (ztwo o (ztop s 2) (ztop s 1))) 160 73 (iI (zsp (zdn s 2) + 1))) := by
    rw [r244]; unfold b244; rw [aR_e, aI_e, aI_e, aI_e, aZ_e]; unfold c244
    rw [jn_v, if_neg (show ¬ iI o = 0 from eqI_n rfl li_0 (by omega)), jn_v, if_neg (show ¬ iI o < 10 from lsI_n (y := 10) rfl rfl (by omega)), if_neg (show ¬ (20 : Int32) < iI o from lsI_n (x := 20) rfl rfl (by omega)), vC_e (rk_160 h.1.1), cI_e q1, vC_e (rk_160 c1.1.1), cI_e q2, vC_e (rk_160 c2.1.1), cV_e q3]
    rfl
  by_cases y : ztop s 1 = 0 ∧ (o = 13 ∨ o = 14)
  · rw [if_pos y] at head ⊢
    rw [if_pos y] at q3
    obtain ⟨M', z1, z2, z3⟩ := rfl9 (d := 1) (e := e) (s := zdn s 2) (M := M2) (v1 := 1) (v2 := iI (zpc s)) (v3 := 0) (m := 3) (by omega) c2 rfl (Or.inl ⟨rfl, rfl⟩)
    have z0 := mR239 (d := 1) (M := M2) (v1 := 1) (v2 := iI (zpc s)) (v3 := 0) (by omega) c2.1.1 (Or.inl rfl)
    rw [z1] at z0
    have e0 : M' = rF M2 1 (iI (zpc s)) 0 := by injection z0 with z0; exact (Prod.mk.inj z0).2
    rw [e0] at z2 z3
    exact ⟨_, head, _, zto.r, (f12.tr z3).q, Or.inr (Or.inl ⟨Or.inl zi_e, zSa.er, rfl, z2⟩)⟩
  · rw [if_neg y] at head ⊢
    have c3 := c2.push (v := ztwo o (ztop s 2) (ztop s 1)) l2 (by omega)
    have f3 : zRo e M2 (sI (sI M2 213 (zsp (zdn s 2)).toNat (ztwo o (ztop s 2) (ztop s 1))) 160 73 (iI (zsp (zdn s 2) + 1))) := (zRw.sI (zRw.sI zRw.r (inW_c (by decide) _)) (by decide)).ro
    exact ⟨_, head, _, zto.r, (f12.tr f3).q, Or.inl ⟨hm, zSa.pd, znx_pc, c3.at _⟩⟩
end S99y
