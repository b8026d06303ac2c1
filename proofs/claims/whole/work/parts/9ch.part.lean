/-! a run begins: all that stands then -/
/-- the state at the beginning of a run: WORK, DRAWS told, CALLS heard -/
def zst (e : ZS) (w t : Int) (hs : ZS) : ZS := (fun k i j => if k = 12 then w else if k = 14 then t else if k = 15 then -1 else if k = 17 then hs.1 17 i j else 0, fun k i j => if k = 2 then e.2 0 i 0 else if k = 7 then 0 else if k = 8 then 0 else hs.2 k i j)
def hs0 (hs : ZS) : ZS := (fun k i j => if k = 17 then 0 else hs.1 k i j, hs.2)
section S9ch
variable {d dl : Nat} {o : HO} {v : VR} {q : QN} {s s' u hs : ZS} {M M' M2 Mc Mr Mc' Mr' : Mem} {LL a j x N : Nat} {xs : Nat → Int32} {c p i n nc k t b : Int} {w : Int32} {Z Z' : Nat → Nat → Prop} {Od : Int → Int} {T : Nat → Int → Int32}
theorem RI.mk (hC : hoC LL xs o Mc) (hR : hoR o Mr) (hW : rvW o v q Mc) (hX : rvX o v q Mr) (e78 : Mc.1 88 2 = Mr.1 160 78) (e77 : Mr.1 160 77 = iI q.1) (h106 : ∀ id, zId (rE o v (pf q 0 0)) id → (rE o v (pf q 0 0)).1 4 id 0 = 2 → Mc.1 106 ((rE o v (pf q 0 0)).1 23 id 0).toNat = (rE o v (pf q 0 0)).2 0 id 0) (h211 : ∀ id, zId (rE o v (pf q 0 0)) id → (rE o v (pf q 0 0)).1 4 id 0 = 2 → Mr.1 211 id.toNat = (rE o v (pf q 0 0)).2 0 id 0) (h10 : Mc.1 88 10 = iI (if 0 ≤ b then b else 2147483648 + b)) (h83 : Mr.1 160 83 = iI b) (hcv : q.2.2.1 = 1 → ∀ p, 0 ≤ p → p < gE (oP o (vP v)) → (Mc.1 (gX (oP o (vP v)) + 13) p.toNat = iI 0 ∧ Mc.1 (gX (oP o (vP v)) + 14) p.toNat = iI 0 ∧ Mc.1 (gX (oP o (vP v)) + 15) p.toNat = iI 0) ∧ Mr.1 216 (1000 * vP v + p).toNat = iI 0 ∧ Mr.1 217 (1000 * vP v + p).toNat = iI 0 ∧ Mr.1 218 (1000 * vP v + p).toNat = iI (-1)) (hdc : hdC hs Mc) (hdr : hdR hs Mr) (hlu : q.2.2.2.2 = 1 → (Mc.1 143 5 = iI t ∧ ∀ z, 0 ≤ z → z < t → Mc.1 144 z.toNat = hs.2 9 z 0 ∧ Mc.1 145 z.toNat = hs.2 10 z 0) ∧ Mr.1 160 98 = iI t ∧ ∀ z, 0 ≤ z → z < t → Mr.1 219 z.toNat = hs.2 9 z 0 ∧ Mr.1 220 z.toNat = hs.2 10 z 0) (hh : ∀ D, 0 ≤ hs.1 17 D 0 ∧ hs.1 17 D 0 ≤ 2000 * n) (hb : (0 ≤ b ∨ -1000 * n - 1 ≤ b) ∧ b ≤ 2147483647) (ht : t ≤ 1000) (hn : 0 ≤ n) (hE : gE (oP o (vP v)) ≤ 1000) : RI LL xs o v q n (zst (rE o v (pf q 0 0)) b t hs) Mc Mr := by
  refine ⟨⟨hC, hR⟩, ⟨hW, hX⟩, ⟨⟨h106, ?_, fun z p p0 p1 => ?_, fun Q p0 p1 => ?_, fun z => ?_⟩, ⟨hR.1.1, h211, h83, fun z p p0 p1 => ?_, fun Q p0 p1 => ?_, fun z => ?_⟩⟩, ⟨e78, e77⟩, ⟨⟨rfl, rfl⟩, ht, hh, fun p => ?_, hb.1, hb.2⟩, hn⟩
  · rw [h10]; rfl
  · have z1 : q.2.2.1 = 1 := z
    have p2 : p < gE (oP o (vP v)) := p1
    obtain ⟨⟨y1, y2, y3⟩, -⟩ := hcv z1 p p0 p2
    exact ⟨y1, y2, y3⟩
  · exact hdc Q p0 p1
  · exact (hlu z).1
  · have z1 : q.2.2.1 = 1 := z
    have p2 : p < gE (oP o (vP v)) := p1
    obtain ⟨-, y1, y2, y3⟩ := hcv z1 p p0 p2
    have ez : zrp (rE o v (pf q 0 0)) p = 1000 * vP v + p := by
      unfold zrp
      rw [if_pos (by omega)]; rfl
    rw [ez]
    exact ⟨y1, y2, y3⟩
  · exact hdr Q p0 p1
  · exact (hlu z).2
  · show -1 ≤ (-1 : Int) ∧ (-1 : Int) ≤ 16
    omega
/-- how many PASSED, in the class -/
theorem zc140_64 {J : Int32 → XA} (hx : M.2.2.2[x]? = some (6, 18) ∧ M.2.2.1 x 10 = some (x + 6) ∧ M.2.2.1 x 11 = some (x + 7)) (hk : M.2.2.2[x + 6]? = some (100, nc.toNat) ∧ M.2.2.2[x + 7]? = some (113, 4) ∧ M.2.2.1 (x + 7) 0 = some (x + 8) ∧ M.2.2.2[x + 8]? = some (100, nc.toNat)) (hn : 0 ≤ nc ∧ nc ≤ 16) (hT : ∀ c, 0 ≤ c → c < nc → M.1 (x + 8) c.toNat = T 0 c) : lp (c140_64 (runX d) M J (some x)) 4294967296 ((0 : Int32), (0 : Int32)) = J (iI (psum (fun c => if T 0 c = iI 1 then 1 else 0) nc.toNat)) := by
  refine lp_use (body := c140_64 (runX d) M J (some x)) (R := fun s => J s.1) nc.toNat (fun k s => s.1 = iI (psum (fun c => if T 0 c = iI 1 then 1 else 0) k) ∧ s.2 = iI (k : Int)) ((0 : Int32), (0 : Int32)) 4294967296 (by omega) ⟨li_0, li_0⟩ (fun s' g1 g2 => ?_) (fun k s hk' hI => ?_) (fun s hI go => ?_)
  · rw [g2, g1.1]
  · obtain ⟨i1, i2⟩ := s
    obtain ⟨u1, u2⟩ := hI
    dsimp only at u1 u2
    subst u1; subst u2
    refine ⟨(iI (psum (fun c => if T 0 c = iI 1 then 1 else 0) (k + 1)), iI ((k + 1 : Nat) : Int)), ⟨rfl, rfl⟩, fun go => ?_⟩
    unfold c140_64
    dsimp only
    rw [gtP_q hx.1 hx.2.1, aln_q' hk.1, if_neg (leI_n rfl rfl (by omega)), gtP_q hx.1 hx.2.2, alP_q hk.2.1 li_0 (by decide) hk.2.2.1, alI_q (z := (k : Int)) hk.2.2.2 rfl (by omega) (hT k (by omega) (by omega)), jn_v]
    have e : psum (fun c => if T 0 c = iI 1 then 1 else 0) (k + 1) = psum (fun c => if T 0 c = iI 1 then 1 else 0) k + (if T 0 (k : Int) = iI 1 then 1 else 0) := rfl
    rw [e]
    by_cases y : T 0 (k : Int) = iI 1
    · rw [if_pos (show T 0 (k : Int) = 1 from y), if_pos y, ltI_q (adI rfl li_1), jv_e]
      exact ltI_q (cvI (adI rfl li_1) (by omega))
    · rw [if_neg (show ¬ T 0 (k : Int) = 1 from y), if_neg y, jv_e, Int.add_zero]
      exact ltI_q (cvI (adI rfl li_1) (by omega))
  · obtain ⟨i1, i2⟩ := s
    obtain ⟨u1, u2⟩ := hI
    dsimp only at u1 u2
    subst u2
    unfold c140_64
    dsimp only
    rw [gtP_q hx.1 hx.2.1, aln_q' hk.1, if_pos (leI_p rfl rfl (by omega))]
end S9ch
