/-! the start of a reading: the first object -/
section S76
variable {d : Nat} {T : Int → Int} {n m e9 s0 : Int} {kd pl E : Int → Int} {tx : Int → Int64} {M M' Mj M1 : Mem} {x j k L : Nat} {xs : Nat → Int32} {W : Int → Int64}
theorem tks_m (h : Tks T W n m kd pl tx E) (hn : 0 ≤ n) (h1 : 1 ≤ m) (h2 : NoE kd (m - 1)) : m ≤ n + 1 := by
  have key : ∀ k : Nat, (k : Int) < m - 1 → (k : Int) + 1 ≤ E k ∧ E k ≤ n := by
    intro k
    have step : ∀ i : Int, 0 ≤ i → i < m - 1 → prv E i + 1 ≤ E i ∧ E i ≤ n := fun i a b => by
      obtain ⟨⟨q1, q2, q3⟩, q4, q5, q6⟩ := h i a (by omega)
      have ne := (h2 i a b).1
      refine ⟨?_, q5⟩
      rcases q6 with ⟨-, z, -⟩ | ⟨-, z1, -, z2, -⟩ | ⟨-, z1, -, z2, -⟩ | ⟨-, -, -, z⟩
      · exact absurd z ne
      · have : pl i ≠ E i := fun w => by
          rw [w] at z1
          unfold lt8 at z1; unfold an8 dg8 lt8 at z2; omega
        omega
      · have : pl i ≠ E i := fun w => by rw [w] at z1; exact z2 z1
        omega
      · unfold Sg at z; omega
    induction k with
    | zero =>
      intro hk
      have := step 0 (by omega) hk
      rw [show prv E 0 = 0 from if_pos (Int.le_refl _)] at this
      show (0 : Int) + 1 ≤ E 0 ∧ E 0 ≤ n
      omega
    | succ k ih =>
      intro hk
      have a := ih (by omega)
      have b := step ((k : Int) + 1) (by omega) (by omega)
      have e : prv E ((k : Int) + 1) = E (k : Int) := by
        unfold prv
        rw [if_neg (by omega), show (k : Int) + 1 - 1 = k by omega]
      rw [e] at b
      show (k : Int) + 1 + 1 ≤ E ((k : Int) + 1) ∧ E ((k : Int) + 1) ≤ n
      omega
  by_cases c : m = 1
  · omega
  · have := key (m - 2).toNat (by omega)
    omega
/-- up to the loop of its units -/
theorem mc61 (hd : 8 ≤ d) (hO : OldOK L xs M) (hC : CT M) (h259 : 259 ≤ ln M) (h2 : M.2.2.2[2]? = some (210, 0)) (hT : Tp 66 1 67 T n M) (hn : n ≤ 1399) (hW : ∀ i, 0 ≤ i → i < 28 → M.2.1 71 i.toNat = WC i) (h16 : M.1 65 16 = iI s0) : ∃ (m : Int) (kd pl E : Int → Int) (tx : Int → Int64) (M2 : Mem), runX (d + 1) 61 [va_rf (some 65)] M = lp (c61_86 (runX d) (some 65) (jv fun s27 => gtI (7, 20) s27 (some 65) 13 fun x28 => jn (fun (s29 : Mem) => vC (7, 20) s29 (some 65) <| cV (runX d 107 [va_rf (some 65)] s29) fun M30 => some (.null, M30)) fun j210 => if x28 = 0 then (j210 s27) else (vC (7, 20) s27 (some 65) <| cV (runX d 62 [va_rf (some 65), .int ((2 : Int32))] s27) fun M31 => j210 M31))) 4294967296 ((0 : Int32), M2) ∧ TkS T n m kd pl E tx ∧ CQ m kd pl tx (ln M) (tot M.2.2.2) 0 M2 M2 0 s0 0 M2 (H00 (ln M)) (0, 0, 0) ∧ (∃ M4, NLs M 4 M4 ∧ Fr [(65, 9), (65, 10), (65, 12), (65, 13), (65, 19), (66, 6), (66, 7), (68, 9999), (69, 9999), (70, 9999)] M4 M2) := by
  have k65 : M.2.2.2[65]? = some (7, 20) := ck_65 hC
  obtain ⟨Ma, hMa⟩ : ∃ z, z = nL M 1 := ⟨_, rfl⟩
  have na : NLs M 1 Ma := by rw [hMa]; exact NLs.z.add (by omega)
  obtain ⟨Mb, hMb⟩ : ∃ z, z = nL Ma 2 := ⟨_, rfl⟩
  have nb_ : NLs M 2 Mb := by rw [hMb]; exact na.add (by omega)
  obtain ⟨Mc, hMc⟩ : ∃ z, z = nL Mb 3 := ⟨_, rfl⟩
  have nc : NLs M 3 Mc := by rw [hMc]; exact nb_.add (by omega)
  obtain ⟨Md, hMd⟩ : ∃ z, z = nL Mc 4 := ⟨_, rfl⟩
  have nd : NLs M 4 Md := by rw [hMd]; exact nc.add (by omega)
  have hs := nd.hs h259 h2
  have nd0 := nd
  obtain ⟨f4, l4, i4, p4, -⟩ := nd
  have cl : ∀ q, q ∈ CFd → q.1 < 259 ∧ ¬ (q.1 = 65 ∧ 1 ≤ q.2.1 ∧ q.2.1 ≤ 4) := by decide
  have hCd : CT Md := ⟨fun q e => f4.kd (hC.1 q e), fun q e => (p4 q.1 q.2.1 (Nat.lt_of_lt_of_le (cl q e).1 h259) (cl q e).2).trans (hC.2 q e)⟩
  obtain ⟨Me, hMe⟩ : ∃ z, z = sI (sI (sI Md 65 9 (iI 0)) 65 10 (iI 0)) 65 19 (iI 0) := ⟨_, rfl⟩
  have fe : Fr [(65, 9), (65, 10), (65, 19)] Md Me := by rw [hMe]; exact Fr.sI (by decide) (Fr.sI (by decide) (Fr.sI (by decide) Fr.r))
  have hCe := hCd.fr fe
  have hOe : OldOK L xs Me := ⟨fun a p => by rw [fe.k]; exact f4.kd (hO.1 a p), fun a j p => by
    rw [fe.c a (by intro z y; simp only [List.mem_cons, List.not_mem_nil, or_false] at y; rcases y with rfl | rfl | rfl <;> (dsimp only; omega))]
    exact (i4 a j (by omega)).1.trans (hO.2 a j p)⟩
  have hTe : Tp 66 1 67 T n Me := by
    obtain ⟨t1, t2, t3, t4, t5⟩ := hT
    exact ⟨(fe.i _ _ (by decide)).trans ((i4 66 1 (by omega)).1.trans t1), t2, t3, fun i a b => (fe.c 67 (by decide) _).trans ((i4 67 _ (by omega)).1.trans (t4 i a b)), t5⟩
  have hWe : ∀ i, 0 ≤ i → i < 28 → Me.2.1 71 i.toNat = WC i := fun i a b => (fe.lc 71 (by decide) _).trans ((i4 71 _ (by omega)).2.trans (hW i a b))
  obtain ⟨vz, Mf, ez, m, kd, pl, tx, E, ff, hm, hTk, hTks, hL⟩ := z113 (d := d) (by omega) hOe hCe hTe hWe
  have hS : TkS T n m kd pl E tx := ⟨hTks, hL, by have := tks_m hTks hT.2.1 hm.1 hL.2.1; omega, hT.2.2.1⟩
  have hCf := hCe.fr ff
  obtain ⟨Mg, hMg⟩ : ∃ z, z = sI (sI Mf 65 12 (iI 0)) 65 13 (iI (kd 0)) := ⟨_, rfl⟩
  have fg : Fr [(65, 12), (65, 13)] Mf Mg := by rw [hMg]; exact Fr.sI (by decide) (Fr.sI (by decide) Fr.r)
  have hCg := hCf.fr fg
  have fall : Fr [(65, 9), (65, 10), (65, 12), (65, 13), (65, 19), (66, 6), (66, 7), (68, 9999), (69, 9999), (70, 9999)] Md Mg := Fr.t (Fr.t (Fr.m fe (by decide)) (Fr.m ff (by decide))) (Fr.m fg (by decide))
  have hsg := hs.fr fall (by decide)
  refine ⟨m, kd, pl, E, tx, Mg, ?_, hS, ⟨⟨hCg, hTk.fr fg (by decide)⟩, ⟨FN.z hsg.1.1, rfl⟩, fun _ => FN.z hsg.1.1, hsg, Or.inl ⟨rfl, ⟨by rw [hMg]; exact (sI_nej (by decide)).trans sI_eq, by rw [hMg]; exact sI_eq, ?_, ?_, ?_, ?_⟩, Int.le_refl _, hm.1⟩⟩, Md, nd0, fall⟩
  · rw [r61]; unfold b61; rw [aR_e, aZ_e]; unfold c61
    refine (nlist (k := 1) (by omega) k65).trans ?_
    rw [← hMa]
    refine (nlist (k := 2) (by omega) (na.1.kd k65)).trans ?_
    rw [← hMb]
    refine (nlist (k := 3) (by omega) (nb_.1.kd k65)).trans ?_
    rw [← hMc]
    refine (nlist (k := 4) (by omega) (nc.1.kd k65)).trans ?_
    rw [← hMd]
    have kd65 := ck_65 hCd
    have k9 : (sI Md 65 9 (iI 0)).2.2.2[65]? = some (7, 20) := kd65
    have k10 : (sI (sI Md 65 9 (iI 0)) 65 10 (iI 0)).2.2.2[65]? = some (7, 20) := kd65
    refine (ptI_q (z := 0) kd65 li_0).trans ?_
    refine (ptI_q (z := 0) k9 li_0).trans ?_
    refine (ptI_q (z := 0) k10 li_0).trans ?_
    rw [← hMe]
    refine (gtP_q (w := some 66) (ck_65 hCe) (cf_65_0 hCe)).trans ?_
    refine (vC_e (ck_66 hCe)).trans ?_
    refine (cV_e ez).trans ?_
    refine (ptI_q (z := 0) (ck_65 hCf) li_0).trans ?_
    have f1 : Fr [(65, 12)] Mf (sI Mf 65 12 (iI 0)) := Fr.sI (by decide) Fr.r
    have hC1 := hCf.fr f1
    refine (gtP_q (w := some 66) (ck_65 hC1) (cf_65_0 hC1)).trans ?_
    refine (gtP_q (w := some 68) (ck_66 hC1) (cf_66_2 hC1)).trans ?_
    refine (alI_q (n := 3001) (z := 0) (w := iI (kd 0)) (ck_68 hC1) li_0 (by omega) ((f1.c 68 (by decide) _).trans (hTk 0 (Int.le_refl _) (by omega)).1)).trans ?_
    refine (ptI_q (z := kd 0) (ck_65 hC1) rfl).trans ?_
    rw [← hMg]
    exact jn_v
  · exact (fg.i _ _ (by decide)).trans ((ff.i _ _ (by decide)).trans (by rw [hMe]; exact (sI_nej (by decide)).trans sI_eq))
  · exact (fg.i _ _ (by decide)).trans ((ff.i _ _ (by decide)).trans (by rw [hMe]; exact (sI_nej (by decide)).trans ((sI_nej (by decide)).trans sI_eq)))
  · exact (fall.i _ _ (by decide)).trans ((i4 65 16 (by omega)).1.trans h16)
  · exact (fg.i _ _ (by decide)).trans ((ff.i _ _ (by decide)).trans (by rw [hMe]; exact sI_eq))
end S76
