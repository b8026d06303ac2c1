/-! the reference's machine: an instruction that uses a member, all of it -/
section S9ba
variable {d : Nat} {e s s' t u A : ZS} {M M' M1 M2 : Mem} {a b j N x y : Nat} {v v1 v2 v3 w : Int32} {c k i n m p o q id key par NN D r : Int} {R : Int → RG} {G : RG} {L : Int → Int} {Y : Nat → Int → Int}
theorem rr249 (hd : 4 * (12 - s.1 0 0 0) + 14 ≤ d ∧ 14 ≤ d) (hT : zET e) (hl : zEl e) (hD : zRD e R L NN) (hE : zRE e R L M) (h : zRM e s M) (hm : s.1 1 0 0 = 0) (hw : zWT e s) (ho : o = zop e (zpc s) ∧ 3 ≤ o ∧ o ≤ 7) (hid : id = e.1 2 (zpc s) 0) (hii : 0 ≤ id → zId e id) (hk : key = e.1 3 id 0) (hK : zKn e (zuse e s o id key)) (hN : s.1 9 0 0 ≤ NN) (h17 : ∀ D, 0 ≤ s.1 17 D 0 ∧ s.1 17 D 0 ≤ 100000) (hv : v1 = iI o) (hv2 : v2 = iI (zpc s)) : ∃ M', runX d 249 [va_rf (some 160), .int v1, .int v2] M = some (.null, M') ∧ zRA e s (zuse e s o id key) M M' := by
  obtain ⟨d, rfl⟩ : ∃ e, d = e + 1 := ⟨d - 1, by omega⟩
  subst hv; subst hv2
  have hR := h.1.1
  have k := rk_160 hR
  have hlr := hw.lr (Or.inl hm)
  obtain ⟨hin, hu1, hu2, hu3⟩ := hw.hu hm hT ⟨by omega, by omega⟩
  have ty := hT.2.1 (zpc s) hin (by omega) (by omega)
  rw [← ho.1] at ty hu1 hu2 hu3
  rw [← hid] at ty hu3
  have q238 := hE.r238 (d := d) (p := zpc s) (by omega) hR hin ⟨by omega, by omega⟩ rfl
  rw [← hid] at q238
  rw [r249]; unfold b249; rw [aR_e, aI_e, aI_e, aZ_e]; unfold c249
  rw [vC_e k, cI_e q238]
  rcases ty with ⟨t1, t2⟩ | ⟨t1, t2, t3, t4, t5, t6⟩
  · -- it fails by what was found
    have us : zuse e s o id key = zerr s (iI (-id)) 3 := if_pos t1
    obtain ⟨M', z1, z2, z3⟩ := rfl9 (d := d) (e := e) (s := s) (M := M) (v1 := iI (-id)) (v2 := iI (zpc s)) (v3 := 0) (m := 3) (by omega) h rfl (Or.inl ⟨rfl, rfl⟩)
    have sa : zSa s (zerr s (iI (-id)) 3) := by
      have := zSa.er (s := s) (c := 0) (v := iI (-id)) (m := 3)
      rw [zdn_0] at this
      exact this
    refine ⟨M', ?_, by rw [us]; exact ⟨_, zto.r, (z3).q, Or.inr (Or.inl ⟨Or.inl zi_e, sa, rfl, z2⟩)⟩⟩
    rw [if_neg (leI_n li_0 rfl (by omega)), vC_e k, ngI (v := iI id) (x := id) rfl, cV_e z1]
  · rw [if_pos (leI_p li_0 rfl (by omega)), vC_e k]
    have hi := hii t1
    obtain ⟨r, M1, z1, z3⟩ := rr240 (d := d) (v1 := iI id) (v2 := iI (zpc s)) (by omega) hT hl hD hE h hm hw ho hi hid hk hK hN h17 rfl rfl
    rw [cI_e z1]
    rcases z3 with ⟨r1, f1, s1, y1, y2, y3, y4, y5, y6, y7, y8, y9, y10⟩ | ⟨r0, t, y1, f1, y2⟩
    · have E1 := hE.ro f1
      have R1 := y6.1.1
      have k1 := rk_160 R1
      obtain ⟨b1, b2, m171, m172, m174, m175⟩ := E1.mb hi
      have s10 : s1.1 0 0 0 = s.1 0 0 0 := y2.1
      rw [r1, if_neg (show ¬ iI 1 = 0 by decide), gtP_q k1 (rf_15 R1), vC_e k1, cI_e (E1.r236 (d := d) (by omega) R1 hi rfl), alI_q (n := 768) (z := zrm e id) (rk_174 R1) rfl (by omega) m174]
      obtain ⟨M', x1, x2⟩ := rmem (d := d) (v1 := iI o) (v2 := iI (zpc s)) (v3 := iI id) (v2' := iI (e.1 5 id 0)) (by rw [s10]; omega) hT hl hD E1 y6 y5 y7 hi ho.2 (by rw [← hk]; exact y8) ⟨fun z => t4 (by omega), fun z => (t5 (by omega)).1, fun z => (t6 (by omega)).1⟩ ⟨fun z => by rw [y4]; exact hu1 z, fun z => by rw [y4]; exact hu2 z, fun z => by rw [y4]; have := hu3 z t1; omega⟩ (zto_kn hT hl hK y1) (by omega) y9 rfl (by rw [y3]) rfl rfl
      exact ⟨M', x1, (x2.tr f1 y2 y3).to y1⟩
    · refine ⟨M1, ?_, t, y1, f1, Or.inr y2⟩
      rw [r0, if_pos (show iI 0 = 0 from rfl)]
theorem rr244u (hd : 4 * (12 - s.1 0 0 0) + 15 ≤ d ∧ 15 ≤ d) (hT : zET e) (hl : zEl e) (hD : zRD e R L NN) (hE : zRE e R L M) (h : zRM e s M) (hm : s.1 1 0 0 = 0) (hw : zWT e s) (ho : o = zop e (zpc s) ∧ 3 ≤ o ∧ o ≤ 7) (hid : id = e.1 2 (zpc s) 0) (hii : 0 ≤ id → zId e id) (hk : key = e.1 3 id 0) (hK : zKn e (zuse e s o id key)) (hN : s.1 9 0 0 ≤ NN) (h17 : ∀ D, 0 ≤ s.1 17 D 0 ∧ s.1 17 D 0 ≤ 100000) (hv : v1 = iI o) (hv3 : v3 = iI (zpc s)) : ∃ M', runX d 244 [va_rf (some 160), .int v1, .int v2, .int v3] M = some (.null, M') ∧ zRA e s (zuse e s o id key) M M' := by
  obtain ⟨d, rfl⟩ : ∃ e, d = e + 1 := ⟨d - 1, by omega⟩
  subst hv; subst hv3
  obtain ⟨M', z1, z2⟩ := rr249 (d := d) (v1 := iI o) (v2 := iI (zpc s)) (by omega) hT hl hD hE h hm hw ho hid hii hk hK hN h17 rfl rfl
  refine ⟨M', ?_, z2⟩
  have k := rk_160 h.1.1
  rw [r244]; unfold b244; rw [aR_e, aI_e, aI_e, aI_e, aZ_e]; unfold c244
  rw [jn_v, if_neg (show ¬ iI o = 0 from eqI_n rfl li_0 (by omega)), jn_v, if_pos (show iI o < 10 from lsI_p (y := 10) rfl rfl (by omega)), jv_e, jn_v, if_neg (show ¬ iI o < 3 from lsI_n (y := 3) rfl rfl (by omega)), if_neg (show ¬ (7 : Int32) < iI o from lsI_n (x := 7) rfl rfl (by omega)), vC_e k, cV_e z1]
  rfl
end S9ba
