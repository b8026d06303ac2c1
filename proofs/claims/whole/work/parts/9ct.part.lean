/-! the least suite in the class -/
def klT (km : Int → Nat) (n s : Nat) (k : Int) : Prop := ∀ j : Int, k ≤ j → j < n → km j = 0 ∨ km j &&& s ≠ 0
/-- the kills of a parcel, in the class -/
def kiC (x ka n : Nat) (km : Int → Nat) (M : Mem) : Prop := (M.2.2.2[x]? = some (6, 18) ∧ M.2.2.1 x 14 = some ka ∧ M.2.2.2[ka]? = some (100, n) ∧ n ≤ 1000) ∧ ∀ k : Int, 0 ≤ k → k < n → M.1 ka k.toNat = iI (km k : Int) ∧ km k < 65536
section S9ct
variable {d : Nat} {M : Mem} {w U s t n a b c e N x ka : Nat} {k : Int} {km : Int → Nat} {v1 v2 : Int32}
theorem klT.st (hk : 0 ≤ k ∧ k < n) : klT km n s k ↔ (km k = 0 ∨ km k &&& s ≠ 0) ∧ klT km n s (k + 1) := by
  constructor
  · exact fun h => ⟨h k (Int.le_refl _) hk.2, fun j a b => h j (by omega) b⟩
  · intro h j a b
    by_cases y : j = k
    · rw [y]; exact h.1
    · exact h.2 j (by omega) b
theorem c59_l {J0 J1 : Unit → XA} (h : kiC x ka n km M) (hs : s < 65536) : ∀ (m : Nat) (k : Int) (N : Nat), k + m = n → 0 ≤ k → m < N → (klT km n s k → lp (c59_2 (runX d) (some x) (iI (s : Int)) M J0 J1) N (iI k) = J1 ()) ∧ (¬ klT km n s k → lp (c59_2 (runX d) (some x) (iI (s : Int)) M J0 J1) N (iI k) = J0 ()) := by
  obtain ⟨⟨h1, h2, h3, h4⟩, h5⟩ := h
  intro m
  induction m with
  | zero =>
    intro k N e1 e2 e3
    obtain ⟨N, rfl⟩ : ∃ e, N = e + 1 := ⟨N - 1, by omega⟩
    have e : lp (c59_2 (runX d) (some x) (iI (s : Int)) M J0 J1) (N + 1) (iI k) = J1 () := by
      rw [lp_e]
      unfold c59_2
      rw [gtP_q h1 h2, aln_q' h3, if_pos (leI_p rfl rfl (by omega))]
    exact ⟨fun _ => e, fun z => absurd (fun j a b => by omega) z⟩
  | succ m ih =>
    intro k N e1 e2 e3
    obtain ⟨N, rfl⟩ : ∃ e, N = e + 1 := ⟨N - 1, by omega⟩
    obtain ⟨g1, g2⟩ := h5 k e2 (by omega)
    have i := ih (k + 1) N (by omega) (by omega) (by omega)
    have st := klT.st (km := km) (n := n) (s := s) (k := k) ⟨e2, by omega⟩
    have on : (km k = 0 ∨ km k &&& s ≠ 0) → lp (c59_2 (runX d) (some x) (iI (s : Int)) M J0 J1) (N + 1) (iI k) = lp (c59_2 (runX d) (some x) (iI (s : Int)) M J0 J1) N (iI (k + 1)) := fun z => by
      rw [lp_e]
      generalize lp (c59_2 (runX d) (some x) (iI (s : Int)) M J0 J1) N = go
      unfold c59_2
      rw [gtP_q h1 h2, aln_q' h3, if_neg (leI_n rfl rfl (by omega)), gtP_q h1 h2, alI_q h3 rfl (by omega) g1, jn_v]
      by_cases y : km k = 0
      · rw [if_pos ((bz g2).2 y), jv_e]
        exact ltI_q (adI rfl li_1)
      · rw [if_neg (fun y2 => y ((bz g2).1 y2)), gtP_q h1 h2, alI_q h3 rfl (by omega) g1, iI_and, if_neg (fun y2 => (z.resolve_left y) ((bz (Nat.lt_of_le_of_lt Nat.and_le_right hs)).1 y2)), jv_e]
        exact ltI_q (adI rfl li_1)
    by_cases z : km k = 0 ∨ km k &&& s ≠ 0
    · rw [on z]
      exact ⟨fun y => i.1 (st.1 y).2, fun y => i.2 fun y2 => y (st.2 ⟨z, y2⟩)⟩
    · refine ⟨fun y => absurd (st.1 y).1 z, fun _ => ?_⟩
      have z1 : km k ≠ 0 := fun y => z (Or.inl y)
      have z2 : km k &&& s = 0 := by
        by_cases y : km k &&& s = 0
        · exact y
        · exact absurd (Or.inr y) z
      rw [lp_e]
      unfold c59_2
      rw [gtP_q h1 h2, aln_q' h3, if_neg (leI_n rfl rfl (by omega)), gtP_q h1 h2, alI_q h3 rfl (by omega) g1, jn_v, if_neg (fun y2 => z1 ((bz g2).1 y2)), gtP_q h1 h2, alI_q h3 rfl (by omega) g1, iI_and, if_pos ((bz (Nat.lt_of_le_of_lt Nat.and_le_right hs)).2 z2)]
theorem zc59 (hd : 1 ≤ d) (h : kiC x ka n km M) (hs : s < 65536) (h1 : v1 = iI (s : Int)) : (klA km n s → runX d 59 [va_rf (some x), .int v1] M = some (.int 1, M)) ∧ (¬ klA km n s → runX d 59 [va_rf (some x), .int v1] M = some (.int 0, M)) := by
  obtain ⟨d, rfl⟩ : ∃ e, d = e + 1 := ⟨d - 1, by omega⟩
  subst h1
  have l := c59_l (d := d) (J0 := jv fun (s1 : Unit) => rtZ ((0 : Int32)) M) (J1 := jv fun (s2 : Unit) => rtZ ((1 : Int32)) M) h hs n 0 4294967296 (by omega) (by omega) (by have := h.1.2.2.2; omega)
  have e : runX (d + 1) 59 [va_rf (some x), .int (iI (s : Int))] M = lp (c59_2 (runX d) (some x) (iI (s : Int)) M (jv fun (s1 : Unit) => rtZ ((0 : Int32)) M) (jv fun (s2 : Unit) => rtZ ((1 : Int32)) M)) 4294967296 (iI 0) := by
    rw [r59]; unfold b59; rw [aR_e, aI_e, aZ_e]; unfold c59
    rw [jn_v, jn_v, li_0]
  refine ⟨fun z => ?_, fun z => ?_⟩
  · rw [e, l.1 (fun j a b => z j a b), jv_e, rtZ_e (Or.inr rfl)]
  · rw [e, l.2 (fun y => z fun j a b => y j a b), jv_e, rtZ_e (Or.inl rfl)]
theorem nx_i (hU : U < 65536) (hs : s < 65536) : (iI (s : Int) - iI (U : Int)) &&& iI (U : Int) = iI ((nxw 16 U s : Nat) : Int) := by
  rw [iI_sub, ← iI_p32 (z := (s : Int) - U), show ((s : Int) - U + 4294967296) = ((s + 4294967296 - U : Nat) : Int) by omega, iI_and, Nat.and_comm, and_16 hU, Nat.and_comm]
  unfold nxw
  rw [show (s + 4294967296 - U) % 65536 = (s + (2 ^ 16 - U)) % 2 ^ 16 by omega]
/-- all subsets of U, in a row -/
theorem c57_l {J : Int32 × Mem → XA} (hd : 2 ≤ d) (h : kiC x ka n km M) (hU : porN km n = U) (hU' : U < 65536) : ∀ (f s c m N : Nat), U - s ≤ f → f + 1 < N → s &&& U = s → c ≤ s → m < 65536 → m &&& U = m → klA km n m → keyN m ≤ keyN U → (∀ t, t < s → t &&& U = t → klA km n t → keyN m ≤ keyN t) → ∃ m', lsS km n m' ∧ lp (c57_49 (runX d) (some x) J (iI (U : Int))) N (iI (m : Int), iI (s : Int), iI (c : Int), M) = J (iI (m' : Int), M) := by
  intro f
  induction f with
  | zero =>
    intro s c m N e1 e2 e3 e4 e5 e6 e7 e8 e9
    obtain ⟨N, rfl⟩ : ∃ e, N = e + 1 := ⟨N - 1, by omega⟩
    have sU : s ≤ U := by rw [← e3]; exact Nat.and_le_right
    have es : s = U := by omega
    subst es
    refine ⟨m, ⟨e5, by rw [hU]; exact e6, e7, fun t a b c => ?_⟩, ?_⟩
    · rw [hU] at b
      have tU : t ≤ s := by rw [← b]; exact Nat.and_le_right
      by_cases y : t = s
      · rw [y]; exact e8
      · exact e9 t (by omega) b c
    · rw [lp_e]
      unfold c57_49
      dsimp only
      rw [if_neg (leI_n li_65536 rfl (by omega)), if_pos rfl]
  | succ f ih =>
    intro s c m N e1 e2 e3 e4 e5 e6 e7 e8 e9
    by_cases es : s = U
    · exact ih s c m N (by omega) (by omega) e3 e4 e5 e6 e7 e8 e9
    · obtain ⟨N, rfl⟩ : ∃ e, N = e + 1 := ⟨N - 1, by omega⟩
      have sU : s ≤ U := by rw [← e3]; exact Nat.and_le_right
      have nx := nxw_le 16 U s U hU' e3 (Nat.and_self U) (by omega)
      have nin := nxw_in (w := 16) (U := U) (s := s)
      have old : ∀ t, t < nxw 16 U s → t &&& U = t → t ≤ s := fun t a b => by
        by_cases y : s < t
        · have := (nxw_le 16 U s t hU' e3 b y).1
          omega
        · omega
      have b58 := zc58 (d := d) (M := M) (s := s) (t := m) hd (by omega) e5 rfl rfl
      have b59 := zc59 (d := d) (s := s) (by omega) h (by omega) rfl
      have go : ∀ m2 : Nat, m2 < 65536 → m2 &&& U = m2 → klA km n m2 → keyN m2 ≤ keyN U → (∀ t, t < nxw 16 U s → t &&& U = t → klA km n t → keyN m2 ≤ keyN t) → ∃ m', lsS km n m' ∧ (jv (fun (s9 : Int32 × Mem) => lt ((iI (s : Int) - iI (U : Int)) &&& iI (U : Int)) fun (x10 : Int32) => lt (iI (c : Int) + (1 : Int32)) fun (x11 : Int32) => lp (c57_49 (runX d) (some x) J (iI (U : Int))) N (s9.1, x10, x11, s9.2)) (iI (m2 : Int), M) : XA) = J (iI (m' : Int), M) := fun m2 a1 a2 a3 a4 a5 => by
        obtain ⟨m', y1, y2⟩ := ih (nxw 16 U s) (c + 1) m2 N (by omega) (by omega) nin (by omega) a1 a2 a3 a4 a5
        refine ⟨m', y1, ?_⟩
        rw [jv_e, nx_i hU' (by omega), lt_e, ltI_q (z := ((c + 1 : Nat) : Int)) (cvI (adI rfl li_1) (by omega))]
        exact y2
      have keep : ¬ (keyN s < keyN m ∧ klA km n s) → ∀ t, t < nxw 16 U s → t &&& U = t → klA km n t → keyN m ≤ keyN t := fun z t a b c => by
        by_cases y : t = s
        · subst y
          by_cases y2 : keyN t < keyN m
          · exact absurd ⟨y2, c⟩ z
          · omega
        · exact e9 t (by have := old t a b; omega) b c
      rw [lp_e]
      generalize hG : lp (c57_49 (runX d) (some x) J (iI (U : Int))) N = G
      unfold c57_49
      dsimp only
      rw [hG] at go
      rw [if_neg (leI_n li_65536 rfl (by omega)), if_neg (eqI_n rfl rfl (by omega)), cI_e b58, jn_v]
      by_cases y : keyN s < keyN m
      · rw [if_pos y, if_neg (show ¬ iI 1 = 0 by decide), vC_e h.1.1]
        by_cases y2 : klA km n s
        · rw [cI_e (b59.1 y2), if_neg (show ¬ (1 : Int32) = 0 by decide)]
          exact go s (by omega) e3 y2 (by omega) fun t a b c => by
            by_cases y3 : t = s
            · rw [y3]; exact Nat.le_refl _
            · have := e9 t (by have := old t a b; omega) b c
              omega
        · rw [cI_e (b59.2 y2), if_pos rfl]
          exact go m e5 e6 e7 e8 (keep fun z => y2 z.2)
      · rw [if_neg y, if_pos (show iI 0 = 0 from rfl)]
        exact go m e5 e6 e7 e8 (keep fun z => y z.1)
theorem c57_u {J : Int32 → XA} (h : kiC x ka n km M) : lp (c57_18 (runX d) (some x) M J) 4294967296 ((0 : Int32), (0 : Int32)) = J (iI (porN km n : Int)) := by
  obtain ⟨⟨h1, h2, h3, h4⟩, h5⟩ := h
  refine lp_use (body := c57_18 (runX d) (some x) M J) (R := fun s => J s.1) n (fun k s => s.1 = iI (porN km k : Int) ∧ s.2 = iI (k : Int)) ((0 : Int32), (0 : Int32)) 4294967296 (by omega) ⟨li_0, li_0⟩ (fun s' g1 g2 => ?_) (fun k s hk' hI => ?_) (fun s hI go => ?_)
  · rw [g2, g1.1]
  · obtain ⟨i1, i2⟩ := s
    obtain ⟨u1, u2⟩ := hI
    dsimp only at u1 u2
    subst u1; subst u2
    refine ⟨(iI ((porN km (k + 1) : Nat) : Int), iI ((k + 1 : Nat) : Int)), ⟨rfl, rfl⟩, fun go => ?_⟩
    unfold c57_18
    dsimp only
    rw [gtP_q h1 h2, aln_q' h3, if_neg (leI_n rfl rfl (by omega)), gtP_q h1 h2, alI_q h3 rfl (by omega) (h5 k (by omega) (by omega)).1, iI_or, lt_e]
    exact ltI_q (z := ((k + 1 : Nat) : Int)) (cvI (adI rfl li_1) (by omega))
  · obtain ⟨i1, i2⟩ := s
    obtain ⟨u1, u2⟩ := hI
    dsimp only at u1 u2
    subst u2
    unfold c57_18
    dsimp only
    rw [gtP_q h1 h2, aln_q' h3, if_pos (leI_p rfl rfl (by omega))]
/-- leastSuite() -/
theorem zc57 (hd : 3 ≤ d) (h : kiC x ka n km M) (h17 : M.1 x 17 = iI (-2)) : ∃ m, lsS km n m ∧ runX d 57 [va_rf (some x)] M = some (.int (iI (m : Int)), sI M x 17 (iI (m : Int))) := by
  obtain ⟨d, rfl⟩ : ∃ e, d = e + 1 := ⟨d - 1, by omega⟩
  obtain ⟨⟨h1, h2, h3, h4⟩, h5⟩ := id h
  obtain ⟨U, hU⟩ : ∃ U, porN km n = U := ⟨_, rfl⟩
  have hU' : U < 65536 := by rw [← hU]; exact porN_b (m := 16) fun k a b => (h5 k a b).2
  obtain ⟨m, y1, y2⟩ := c57_l (d := d) (J := jv fun (s3 : Int32 × Mem) => ptI (6, 18) s3.2 (some x) 17 s3.1 fun M4 => gtI (6, 18) M4 (some x) 17 fun x5 => some (.int x5, M4)) (by omega) h hU hU' U 0 0 U 4294967296 (by omega) (by omega) (Nat.zero_and _) (Nat.le_refl _) hU' (Nat.and_self _) (by rw [← hU]; exact klA.all) (Nat.le_refl _) (fun t a => by omega)
  refine ⟨m, y1, ?_⟩
  rw [r57]; unfold b57; rw [aR_e, aZ_e]; unfold c57
  rw [gtI_q h1 h17, if_pos (show iI (-2) = (-2 : Int32) from rfl), jn_v, c57_u h, jv_e, jn_v, hU]
  rw [show iI ((0 : Nat) : Int) = (0 : Int32) from rfl] at y2
  have y2' : lp (c57_49 (runX d) (some x) (jv fun (s3 : Int32 × Mem) => ptI (6, 18) s3.2 (some x) 17 s3.1 fun M4 => gtI (6, 18) M4 (some x) 17 fun x5 => some (.int x5, M4)) (iI (U : Int))) 4294967296 (iI (U : Int), (0 : Int32), (0 : Int32), M) = _ := y2
  rw [y2', jv_e, ptI_e h1, gtI_q (M := sI M x 17 (iI (m : Int))) h1 sI_eq]
end S9ct
