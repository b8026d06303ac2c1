/-! the reference's machine: the loop of a code -/
section S9be
variable {d : Nat} {e s s' t u A : ZS} {M M' M1 M2 : Mem} {a b j N x y : Nat} {v v1 v2 v3 w : Int32} {c k i n m p o q id key par NN D r B : Int} {R : Int → RG} {G : RG} {L : Int → Int} {Y : Nat → Int → Int}
theorem zRB.of {r : Int32} (h : zRB e s' n M1 M2 r) (g : zto e s s') (f : zRo e M M1) (be : ∀ i, 0 ≤ i → i < n → zBe s s' i) (e5 : s'.1 5 n 0 = s.1 5 n 0) (e6 : s'.1 6 n 0 = s.1 6 n 0) : zRB e s n M M2 r := by
  obtain ⟨t, z1, z2, z3⟩ := h
  refine ⟨t, g.tr z1, z2.pre f, ?_⟩
  rcases z3 with ⟨⟨c1, c2, c3, c4⟩, c5, c6, c7, c8⟩ | z3
  · refine Or.inl ⟨⟨c1, fun i p q => (be i p q).tr (c2 i p q), c3.trans e5, c4.trans e6⟩, c5, c6, ?_, c8⟩
    rw [← e6]; exact c7
  · exact Or.inr z3
theorem zSa.be (h : zSa s t) (hn : s.1 0 0 0 = n + 1) : (∀ i, 0 ≤ i → i < n → zBe s t i) ∧ t.1 5 n 0 = s.1 5 n 0 ∧ t.1 6 n 0 = s.1 6 n 0 ∧ t.1 4 n 0 = s.1 4 n 0 ∧ t.1 0 0 0 = n + 1 ∧ t.1 7 n = s.1 7 n := by
  have zfn : zf s = n := by unfold zf; omega
  obtain ⟨h1, h2, h3, h4⟩ := h
  rw [zfn] at h2 h3 h4
  exact ⟨h2, h3 5 (by omega), h3 6 (by omega), h3 4 (by omega), h1.trans hn, funext h4⟩
/-- behind an operation done elsewhere, or here: what comes of the code -/
theorem g726_go {J : Int32 × Int32 × Mem → XA} (hd : 1 ≤ d) (hT : zET e) (hl : zEl e) (hK : zKn e A) (hA : A.1 1 0 0 ≠ 1 ∧ A.1 1 0 0 ≠ 2) (hn : s.1 0 0 0 = n + 1 ∧ 0 ≤ n ∧ n < 12) (hB : B = s.1 6 n 0) (g : zto e s A) (f : zRo e M M1) (h : zRA e (ztick e s) A M1 M2) (hp : v = iI (zpc s + 1)) (htr : w = iI (s.1 4 n 0))
    (ih : ∀ (t : ZS) (M3 : Mem), t.1 9 0 0 ≤ A.1 9 0 0 → t.1 0 0 0 = n + 1 → t.1 1 0 0 = 0 → t.1 6 n 0 = B → zKn e t → zRo e M1 M3 → zRM e t M3 → ∃ r M', J (iI (t.1 4 n 0), iI (zpc t), M3) = some (.int r, M') ∧ zRB e t n M3 M' r) :
    ∃ r M', g726 d (iI n) (iI B) (rj142 (iI n) (iI B)) (rj778 (iI n)) J (w, v, M2) = some (.int r, M') ∧ zRB e s n M M' r := by
  subst hp; subst htr
  have e0 : (ztick e s).1 0 0 0 = s.1 0 0 0 := rfl
  obtain ⟨t, z1, z2, z3⟩ := h
  have K' := zto_kn hT hl hK z1
  have le := zto_left hT hl hK z1 hA
  have zfn : zf s = n := by unfold zf; omega
  have tb : ∀ i, zBe s (ztick e s) i := fun i => ⟨fun kk z => by rcases z with z | z | z | z | z | z <;> subst z <;> rfl, fun _ => rfl, fun _ => ⟨rfl, rfl⟩⟩
  rcases z3 with ⟨y1, y2, y3, y4⟩ | ⟨y1, y2, y3, y4⟩ | ⟨y1, y4⟩
  · obtain ⟨b1, b2, b3, b4, b5, b6⟩ := y2.be (n := n) (by rw [e0]; exact hn.1)
    have b1 : ∀ i, 0 ≤ i → i < n → zBe s t i := fun i p q => (tb i).tr (b1 i p q)
    have b4' : t.1 4 n 0 = s.1 4 n 0 := b4
    have y3' : zpc t = zpc s + 1 := y3
    have k := rk_160 y4.1.1
    obtain ⟨r, M', x1, x2⟩ := ih t M2 le b5 y1 (b3.trans hB.symm) K' (z2.o (by omega)) y4
    refine ⟨r, M', ?_, x2.of (g.tr z1) (f.tr (z2.o (by omega))) b1 b2 b3⟩
    unfold g726
    rw [gtI_q k y4.2.2.2.2.1, if_pos (show iI 0 = 0 from rfl), gtI_q k y4.2.2.2.2.2, jn_v, if_pos (show iI 0 = 0 from rfl), jv_e, ← y3', ← b4']
    exact x1
  · obtain ⟨b1, b2, b3, b4, b5, b6⟩ := y2.be (n := n) (by rw [e0]; exact hn.1)
    have b1 : ∀ i, 0 ≤ i → i < n → zBe s t i := fun i p q => (tb i).tr (b1 i p q)
    have b4' : t.1 4 n 0 = s.1 4 n 0 := b4
    have zt : zstep e t = zthr t (t.1 1 0 0) := by
      unfold zstep
      rw [if_neg (by omega), if_neg (by omega), if_neg (by omega), if_pos (by omega)]
    have zft : zf t = n := by unfold zf; omega
    have to2 : zto e s (zthr t (t.1 1 0 0)) := g.tr (z1.tr (zto.st (by rw [zt]; exact zto.r)))
    have K2 : zKn e (zthr t (t.1 1 0 0)) := zto_kn hT hl K' (zto.st (by rw [zt]; exact zto.r))
    by_cases y : t.1 1 0 0 = 3 ∧ 0 < t.1 4 n 0
    · rw [y.1] at to2 K2
      have zt2 : zthr t 3 = zi (zi (zi (zi (zw t 1 n 0 (t.2 5 0 0)) 3 n 0 1) 2 n 0 (t.1 7 n (t.1 4 n 0 - 1))) 4 n 0 (t.1 4 n 0 - 1)) 1 0 0 0 := by
        unfold zthr
        rw [zft, if_pos ⟨rfl, y.2⟩]
      have m0 : (zthr t 3).1 1 0 0 = 0 := by rw [zt2]; exact zi_e
      have l2 := K2.1.lr (Or.inl m0)
      have e4 : (zthr t 3).1 4 n 0 = t.1 4 n 0 - 1 := by rw [zt2]; exact zi_e (s := zi (zi (zw t 1 n 0 (t.2 5 0 0)) 3 n 0 1) 2 n 0 (t.1 7 n (t.1 4 n 0 - 1))) (k := 4) (i := n) (j := 0) (v := t.1 4 n 0 - 1)
      have e00 : (zthr t 3).1 0 0 0 = n + 1 := by rw [zt2]; exact b5
      have tk : ∀ kk, kk = 5 ∨ kk = 6 ∨ kk = 7 ∨ kk = 9 ∨ kk = 16 → (zthr t 3).1 kk = t.1 kk := fun kk z => by rw [zt2]; rcases z with z | z | z | z | z <;> subst z <;> rfl
      have ti : ∀ i, i ≠ n → zBe t (zthr t 3) i := fun i z => by
        rw [zt2]
        refine ⟨fun kk w => ?_, fun _ => rfl, fun x => ⟨rfl, zw_i z⟩⟩
        rcases w with w | w | w | w | w | w <;> subst w
        · exact zi_i (s := t) z
        · exact zi_i (s := t) z
        · exact zi_i (s := t) z
        · rfl
        · rfl
        · rfl
      have e2 : zpc (zthr t 3) = t.1 7 n (t.1 4 n 0 - 1) := by
        have f' : zf (zthr t 3) = n := by unfold zf; omega
        unfold zpc
        rw [f', zt2]
        exact zi_e (s := zi (zw t 1 n 0 (t.2 5 0 0)) 3 n 0 1) (k := 2) (i := n) (j := 0) (v := t.1 7 n (t.1 4 n 0 - 1))
      have lA : zLr (zi (zi t 3 n 0 0) 1 0 0 0) := by
        obtain ⟨q1, q2, q3, q4⟩ := l2
        have ez : zf (zthr t 3) = n := by unfold zf; omega
        have e3 : (zi (zi t 3 n 0 0) 1 0 0 0).1 3 n 0 = 0 := zi_e (s := t) (k := 3) (i := n) (j := 0) (v := 0)
        have ez' : zf (zi (zi t 3 n 0 0) 1 0 0 0) = n := zft
        have e0' : (zi (zi t 3 n 0 0) 1 0 0 0).1 0 0 0 = t.1 0 0 0 := rfl
        refine ⟨by rw [e0', b5]; rw [e00] at q1; exact q1, fun i p q => ?_, fun i p q => ?_, ?_⟩
        · have := q2 i p (by rw [e00]; rw [e0', b5] at q; exact q)
          rw [tk 6 (by omega), tk 16 (by omega)] at this
          refine ⟨this.1, this.2.1, this.2.2.1, this.2.2.2.1, ?_⟩
          show 0 ≤ t.1 4 i 0 ∧ t.1 4 i 0 ≤ 20
          by_cases w : i = n
          · rw [w]
            have hw := K'.1
            have : 0 ≤ t.1 4 n 0 ∧ t.1 4 n 0 ≤ 20 := by
              rcases hw.2 with ⟨z, -⟩ | ⟨-, -, Y, a, c, w'⟩ | ⟨z, -⟩ | z | z
              · omega
              · rw [zft] at w'; exact w'.tr
              all_goals omega
            exact this
          · rw [(ti i w).1 4 (by omega)] at this
            exact this.2.2.2.2
        · rw [ez'] at q ⊢
          have := q3 i p (by rw [ez]; exact q)
          rw [ez, tk 6 (by omega), (ti i (by omega)).1 3 (by omega)] at this
          have e3' : (zi (zi t 3 n 0 0) 1 0 0 0).1 3 i 0 = t.1 3 i 0 := zi_i (s := t) (show i ≠ n by omega)
          rw [e3']
          exact this
        · unfold zh; rw [ez', e3]; omega
      have b420 : t.1 4 n 0 ≤ 20 := by
        have := (lA.2.1 n (by omega) (by show n < t.1 0 0 0; omega)).2.2.2.2.2
        exact this
      obtain ⟨M3, q1, q2, q3⟩ := g726_c (d := d) (B := B) (x39 := iI (zpc s + 1)) (j733 := rj142 (iI n) (iI B)) (j778 := rj778 (iI n)) (j89 := J) hd y4 y.1 ⟨b5, hn.2.1, hn.2.2⟩ ⟨y.2, b420⟩ (by rw [hB, b3]; rfl) lA
      rw [← e2, ← e4] at q1
      obtain ⟨r, M', x1, x2⟩ := ih (zthr t 3) M3 (by rw [tk 9 (by omega)]; exact le) e00 m0 (by rw [tk 6 (by omega), b3, hB]; rfl) K2 ((z2.o (by omega)).tr q3) q2
      rw [b4'] at q1
      refine ⟨r, M', q1.trans x1, x2.of to2 (f.tr ((z2.o (by omega)).tr q3)) (fun i p q => (b1 i p q).tr (ti i (by omega))) (by rw [tk 5 (by omega)]; exact b2) (by rw [tk 6 (by omega)]; exact b3)⟩
    · have zt2 : zthr t (t.1 1 0 0) = zi (zi t 0 0 0 (zf t)) 1 0 0 (t.1 1 0 0 + 1) := by
        unfold zthr
        rw [zft, if_neg y]
      have ht4 : 0 ≤ t.1 4 n 0 := by
        rcases K'.1.2 with ⟨z, -⟩ | ⟨-, -, Y, a, c, w'⟩ | ⟨z, -⟩ | z | z
        · omega
        · rw [zft] at w'; exact w'.tr.1
        all_goals omega
      obtain ⟨M3, q1, q2, q3, q4, q5, q6, q7, q8, q9, q10, q11⟩ := g726_u (d := d) (B := B) (x39 := iI (zpc s + 1)) (tr := iI (s.1 4 n 0)) (j733 := rj142 (iI n) (iI B)) (j89 := J) y4 y1 ⟨b5, hn.2.1, hn.2.2⟩ (by omega) (show B = t.1 6 n 0 by rw [hB, b3]; rfl) (by rw [b4'])
      rw [zt2] at to2
      have me : (zi (zi t 0 0 0 (zf t)) 1 0 0 (t.1 1 0 0 + 1)).1 1 0 0 = t.1 1 0 0 + 1 := zi_e
      refine ⟨0, M3, q1, _, to2, (f.tr ((z2.o (by omega)).tr q2)).q, Or.inl ⟨⟨?_, fun i p q => ?_, ?_, ?_⟩, q3, q4, ⟨q5, by rw [q6, hB], q7⟩, Or.inr ⟨by rw [me]; omega, q8, by rw [me]; exact q9, q10, q11⟩⟩⟩
      · show (zi t 0 0 0 (zf t)).1 0 0 0 = n
        rw [← zft]; exact zi_e
      · exact (b1 i p q).tr ⟨fun kk w => by rcases w with w | w | w | w | w | w <;> subst w <;> rfl, fun _ => rfl, fun _ => ⟨rfl, rfl⟩⟩
      · exact b2
      · exact b3
  · obtain ⟨M3, q1, q2, q3⟩ := rend (n := n) (B := B) y4
    refine ⟨0, M3, ?_, t, g.tr z1, (z2.post q3).pre f, Or.inr ⟨y1, q2⟩⟩
    unfold g726
    rw [gtI_q (rk_160 y4.1.1) y4.2.1, if_neg (show ¬ iI 1 = 0 by decide)]
    exact q1
end S9be
