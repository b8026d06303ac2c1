/-! the first object's machine: a code is done to its end -/
section S99u
variable {d : Nat} {e s s' t u : ZS} {κ : ZK} {M M' M1 M2 : Mem} {a b j N x y T LL : Nat} {xs : Nat → Int32} {v v1 v2 v3 w : Int32} {c k i n m p o q id fl ar st key par r B h D H S P : Int} {Y : Nat → Int → Int} {DT : Option Nat}
/-- behind a STEP that was begun, a code goes on behind a START only when a code has answered -/
theorem zto_12 {m0 : Int} (hm : s.1 1 0 0 ≠ 1 ∧ s.1 1 0 0 ≠ 2) (h0 : s.1 10 0 0 = m0) (g : zto e s t) : m0 < t.1 10 0 0 ∨ (t.1 10 0 0 = m0 ∧ t.1 1 0 0 ≠ 1 ∧ t.1 1 0 0 ≠ 2) := by
  have one : ∀ s : ZS, (m0 < s.1 10 0 0 ∨ (s.1 10 0 0 = m0 ∧ s.1 1 0 0 ≠ 1 ∧ s.1 1 0 0 ≠ 2)) → (m0 < (zstep e s).1 10 0 0 ∨ ((zstep e s).1 10 0 0 = m0 ∧ (zstep e s).1 1 0 0 ≠ 1 ∧ (zstep e s).1 1 0 0 ≠ 2)) := fun s hs => by
    have k10 : ∀ (s : ZS) (o n : Int), (zex e s o n).1 10 0 0 = s.1 10 0 0 := fun s o n => by rw [zex_k (by decide)]
    by_cases a0 : s.1 1 0 0 = 0
    · by_cases a9 : s.1 9 0 0 = 0
      · have z : zstep e s = zerr s 6 5 := by unfold zstep; rw [if_pos a0, if_pos a9]
        have em : (zerr s 6 5).1 1 0 0 = 5 := zi_e
        have ek : (zerr s 6 5).1 10 0 0 = s.1 10 0 0 := rfl
        rw [z, em, ek]; omega
      by_cases a12 : s.1 12 0 0 = 0
      · have z : zstep e s = zi s 1 0 0 6 := by unfold zstep; rw [if_pos a0, if_neg a9, if_pos a12]
        have em : (zi s 1 0 0 6).1 1 0 0 = 6 := zi_e
        have ek : (zi s 1 0 0 6).1 10 0 0 = s.1 10 0 0 := rfl
        rw [z, em, ek]; omega
      have z : zstep e s = zex e (ztick e s) (zop e (zpc s)) (znum e (zpc s)) := by unfold zstep; rw [if_pos a0, if_neg a9, if_neg a12]
      have ek : (ztick e s).1 10 0 0 = s.1 10 0 0 + 1 := rfl
      rw [z, k10, ek]; omega
    by_cases a1 : s.1 1 0 0 = 1
    · have z : zstep e s = zex e (zi s 1 0 0 0) (zop e (zpc s)) (znum e (zpc s)) := by unfold zstep; rw [if_neg a0, if_pos a1]
      have ek : (zi s 1 0 0 0).1 10 0 0 = s.1 10 0 0 := rfl
      rw [z, k10, ek]; omega
    by_cases a2 : s.1 1 0 0 = 2
    · have z : zstep e s = zret s := by unfold zstep; rw [if_neg a0, if_neg a1, if_pos a2]
      have ek : (zret s).1 10 0 0 = s.1 10 0 0 := by
        unfold zret
        by_cases y : 0 ≤ s.1 5 (s.1 0 0 0) 0
        · rw [if_pos y]; rfl
        · rw [if_neg y]
          by_cases y2 : s.1 0 0 0 = 0
          · rw [if_pos y2]
          · rw [if_neg y2]; rfl
      rw [z, ek]; omega
    by_cases a3 : s.1 1 0 0 = 3 ∨ s.1 1 0 0 = 7
    · have z : zstep e s = zthr s (s.1 1 0 0) := by unfold zstep; rw [if_neg a0, if_neg a1, if_neg a2, if_pos a3]
      rw [z]
      unfold zthr
      by_cases y : s.1 1 0 0 = 3 ∧ 0 < s.1 4 (zf s) 0
      · rw [if_pos y]
        obtain ⟨X, hX⟩ : ∃ X, X = zi (zi (zi (zw s 1 (zf s) 0 (s.2 5 0 0)) 3 (zf s) 0 1) 2 (zf s) 0 (s.1 7 (zf s) (s.1 4 (zf s) 0 - 1))) 4 (zf s) 0 (s.1 4 (zf s) 0 - 1) := ⟨_, rfl⟩
        rw [← hX]
        have em : (zi X 1 0 0 0).1 1 0 0 = 0 := zi_e
        have ek : (zi X 1 0 0 0).1 10 0 0 = s.1 10 0 0 := by rw [hX]; rfl
        rw [em, ek]; omega
      · rw [if_neg y]
        have em : (zi (zi s 0 0 0 (zf s)) 1 0 0 (s.1 1 0 0 + 1)).1 1 0 0 = s.1 1 0 0 + 1 := zi_e
        have ek : (zi (zi s 0 0 0 (zf s)) 1 0 0 (s.1 1 0 0 + 1)).1 10 0 0 = s.1 10 0 0 := rfl
        rw [em, ek]; omega
    by_cases a4 : s.1 1 0 0 = 4 ∨ s.1 1 0 0 = 8
    · have z : zstep e s = zunw s (s.1 1 0 0) := by unfold zstep; rw [if_neg a0, if_neg a1, if_neg a2, if_neg a3, if_pos a4]
      rw [z]
      unfold zunw
      by_cases y : 0 ≤ s.1 5 (s.1 0 0 0) 0
      · rw [if_pos y]
        have em : (zi (zerr s 8 3) 8 (s.1 5 (s.1 0 0 0) 0) 0 2).1 1 0 0 = 3 := zi_e (s := zi (zw s 5 0 0 8) 13 0 0 (zpc s)) (k := 1) (i := 0) (j := 0) (v := 3)
        have ek : (zi (zerr s 8 3) 8 (s.1 5 (s.1 0 0 0) 0) 0 2).1 10 0 0 = s.1 10 0 0 := rfl
        rw [em, ek]; omega
      · rw [if_neg y]
        by_cases y2 : s.1 0 0 0 = 0
        · rw [if_pos y2]; exact hs
        · rw [if_neg y2]
          have em : (zi s 1 0 0 (s.1 1 0 0 - 1)).1 1 0 0 = s.1 1 0 0 - 1 := zi_e
          have ek : (zi s 1 0 0 (s.1 1 0 0 - 1)).1 10 0 0 = s.1 10 0 0 := rfl
          rw [em, ek]; omega
    have z : zstep e s = s := by unfold zstep; rw [if_neg a0, if_neg a1, if_neg a2, if_neg a3, if_neg a4]
    rw [z]; exact hs
  obtain ⟨k, g⟩ := g
  subst g
  have all : ∀ (k : Nat) (s : ZS), (m0 < s.1 10 0 0 ∨ (s.1 10 0 0 = m0 ∧ s.1 1 0 0 ≠ 1 ∧ s.1 1 0 0 ≠ 2)) → (m0 < (zgoes e s k).1 10 0 0 ∨ ((zgoes e s k).1 10 0 0 = m0 ∧ (zgoes e s k).1 1 0 0 ≠ 1 ∧ (zgoes e s k).1 1 0 0 ≠ 2)) := fun k => by
    induction k with
    | zero => exact fun s h => h
    | succ k ih => exact fun s h => ih (zstep e s) (one s h)
  exact all k s (Or.inr ⟨h0, hm⟩)
/-- a turn of the loop -/
theorem exec_hd {J : Mem → XA} (hC : CT M) (hE : zE1 e κ M) (ht : 0 ≤ m ∧ m < 1000000) (h14 : M.1 88 14 = iI (s.1 0 0 0)) (hl : zLy s) (hF : zCi s M (zf s)) (hin : zIn e (zpc s)) (h15 : M.1 88 15 = iI ar) (har : ar = 0 ∨ ar = 1) (go : Int32 × Mem → XA) : c28_26 (runX d) (some 88) J (iI m, M) go = (jn (fun (s16 : Mem) => lt (iI m + (1 : Int32)) fun (x17 : Int32) => go (x17, s16)) fun j120 => jn (fun (s24 : Mem) => ptZ (4, 22) s24 (some 88) 15 ((0 : Int32)) fun M25 => vC (4, 22) M25 (some 88) <| cV (runX d 31 [va_rf (some 88), va_rf (some (κ 0 (zsd (zpc s)))), va_rf (some (94 + (zf s).toNat))] M25) fun M26 => j120 M26) fun j108 => if ar = 0 then (cI (runX d 30 [va_rf (some 88), va_rf (some (κ 0 (zsd (zpc s)))), va_rf (some (94 + (zf s).toNat))] M) fun x28 M27 => if x28 = 0 then (j120 M27) else (j108 M27)) else (j108 M)) := by
  have k := ck_88 hC
  have l1 := hl.1
  have zfe : zf s = s.1 0 0 0 - 1 := rfl
  have kf : M.2.2.2[94 + (zf s).toNat]? = some (100, 4) := ck94n hC (by omega)
  obtain ⟨s1, s2, s3, s4⟩ := hin.sd hE
  obtain ⟨⟨x1, x2, -, x5, -⟩, -⟩ := hE.2.2 _ s1
  have f0 : M.1 (94 + (zf s).toNat) 0 = iI (zpc s - zoff (zpc s)) := hF.1.1
  have f2 : M.1 (94 + (zf s).toNat) 2 = iI (zsd (zpc s)) := hF.1.2.2.1
  have zs01 : zsd (zpc s) = 0 ∨ zsd (zpc s) = 1 := by unfold zsd; split <;> omega
  have b21 := hE.2.1
  have bd : e.1 21 (zsd (zpc s)) 0 ≤ 1000 := by rcases zs01 with z | z <;> rw [z] <;> omega
  have fr : M.2.2.1 93 (s.1 0 0 0 - 1).toNat = some (94 + (zf s).toNat) := by
    rw [← zfe]; exact cf93n hC (by omega)
  unfold c28_26
  dsimp only
  rw [if_neg (show ¬ (1000000 : Int32) ≤ iI m from leI_n (x := 1000000) rfl rfl (by omega)), gtI_q k h14, if_neg (leI_n rfl li_0 (by omega)), gtP_q k (cf_88_13 hC), gtI_q k h14, alP_q (z := s.1 0 0 0 - 1) (ck_93 hC) (cvI (sbI rfl li_1) rfl) (by omega) fr, gtP_q k (cf_88_8 hC), alI_q (n := 4) (z := 2) (c := 2) kf li_2 (by omega) f2, alP_q (z := zsd (zpc s)) (ck_91 hC) rfl (by omega) x1, jn_v, jn_v, if_neg (show ¬ some (κ 0 (zsd (zpc s))) = none from fun z => nomatch z), alI_q (n := 4) (z := 0) kf li_0 (by omega) f0, if_neg (lsI_n rfl li_0 (by omega)), alI_q (n := 4) (z := 0) kf li_0 (by omega) f0, gtI_q x2 x5, if_pos (lsI_p rfl rfl (by omega)), gtI_q k h15, jn_v]
  rcases har with z | z
  · rw [if_pos (eqI_p rfl li_0 z), vC_e k, jn_v, jn_v, if_pos z]
  · rw [if_neg (eqI_n rfl li_0 (by omega)), jn_v, jn_v, if_neg (show ¬ ar = 0 by omega)]
end S99u
