/-! the small machine: what is counted -/
section S99q
variable {e s s' t u : ZS} {Y : Nat → Int → Int} {a c i k o n m p D : Int} {kk : Nat}
def zIv (e s : ZS) : Prop := (s.1 9 0 0 + s.1 10 0 0 = e.1 20 0 0 ∧ 0 ≤ s.1 10 0 0) ∧ (0 ≤ s.1 11 0 0 ∧ s.1 11 0 0 ≤ s.1 10 0 0) ∧ s.1 14 0 0 ≤ 1000 ∧ (∀ D, 0 ≤ s.1 17 D 0 ∧ s.1 17 D 0 + (if s.1 1 0 0 = 1 ∨ s.1 1 0 0 = 2 then 1 else 0) ≤ 2 * s.1 10 0 0 + e.1 30 0 0) ∧ (∀ p, -1 ≤ s.1 15 p 0 ∧ s.1 15 p 0 ≤ 16) ∧ (-2000000000 ≤ s.1 12 0 0 - s.1 9 0 0 ∧ s.1 12 0 0 ≤ 2147483647)
/-- what is asked of the numbers of the run -/
def zEl (e : ZS) : Prop := (1 ≤ e.1 20 0 0 ∧ e.1 20 0 0 ≤ 1000) ∧ (e.1 10 0 0 = 1 → 0 ≤ e.1 16 0 0 ∧ e.1 16 0 0 < 16) ∧ 0 ≤ e.1 30 0 0 ∧ e.1 30 0 0 ≤ 40000
theorem zcall_k {d par r : Int} (h : kk = 9 ∨ kk = 10 ∨ kk = 11 ∨ kk = 12 ∨ kk = 14 ∨ kk = 15 ∨ kk = 17) : (zcall e s i d par r).1 kk = s.1 kk := by
  unfold zcall
  rcases h with h | h | h | h | h | h | h <;> subst h <;> (repeat' split) <;> rfl
theorem zmem_k (h : kk = 9 ∨ kk = 10 ∨ kk = 11 ∨ kk = 12 ∨ kk = 14 ∨ kk = 15) : (zmem e s o i).1 kk = s.1 kk := by
  unfold zmem
  split
  · rcases h with h | h | h | h | h | h <;> subst h <;> rfl
  split
  · rcases h with h | h | h | h | h | h <;> subst h <;> rfl
  split
  · rcases h with h | h | h | h | h | h <;> subst h <;> split <;> rfl
  split
  · rcases h with h | h | h | h | h | h <;> subst h <;> split <;> rfl
  rw [zcall_k (by omega)]
  rcases h with h | h | h | h | h | h <;> subst h <;> split <;> rfl
theorem zuse_k (h : kk = 9 ∨ kk = 10 ∨ kk = 11 ∨ kk = 12 ∨ kk = 14 ∨ kk = 15) : (zuse e s o i k).1 kk = s.1 kk := by
  unfold zuse
  split
  · rcases h with h | h | h | h | h | h <;> subst h <;> rfl
  split
  · exact zmem_k h
  split
  · rcases h with h | h | h | h | h | h <;> subst h <;> rfl
  split
  · rw [zmem_k h]
    rcases h with h | h | h | h | h | h <;> subst h <;> rfl
  split
  · rcases h with h | h | h | h | h | h <;> subst h <;> rfl
  · rcases h with h | h | h | h | h | h <;> subst h <;> rfl
theorem zdraw_k {v : Int32} (h : kk = 9 ∨ kk = 10 ∨ kk = 12 ∨ kk = 15 ∨ kk = 17) : (zdraw e s v).1 kk = s.1 kk := by
  unfold zdraw
  rcases h with h | h | h | h | h <;> subst h <;> (repeat' split) <;> rfl
/-- what is counted stays, when an instruction is done -/
theorem zex_by {P : ZS → Prop} (b0 : P (znx (zpush s (iI n)))) (b1 : P (znx (zpush s (s.2 0 (zf s) n)))) (b2 : P (znx (zi (zw (zdn s 1) 0 (zf s) n (ztop s 1)) 16 (zf s) 0 (if n < s.1 16 (zf s) 0 then s.1 16 (zf s) 0 else n + 1)))) (b3 : o ≤ 7 → P (zuse e s o (e.1 2 (zpc s) 0) (e.1 3 (e.1 2 (zpc s) 0) 0))) (b4 : o = 8 → P (zi (zi (zw s 6 0 0 (ztop s 1)) 0 0 0 (zf s)) 1 0 0 2)) (b5 : o = 34 → P (zi (zi (zw s 6 0 0 0) 0 0 0 (zf s)) 1 0 0 2)) (b6 : P (znx (zdn s 1))) (b7 : P (znx (zdn s 2))) (b8 : o ≤ 20 → P (zerr (zdn s 2) 1 3)) (b8' : o ≤ 20 → P (znx (zpush (zdn s 2) (ztwo o (ztop s 2) (ztop s 1))))) (b9 : P (znx (zpush (zdn s 1) (if ztop s 1 = 0 then 1 else 0)))) (b10 : P (znx (zpush (zdn s 1) (-(ztop s 1))))) (b11 : o = 23 → P (zdraw e s (ztop s 1))) (b12 : P (zgo (zdn s 1) (if ztop s 1 = 0 then n + zoff (zpc s) else zpc s + 1))) (b13 : P (zgo (zdn s 1) (if ztop s 1 = 0 then zpc s + 1 else n + zoff (zpc s)))) (b14 : P (zgo s (n + zoff (zpc s)))) (b15 : P (znx (zi (zi s 7 (zf s) (s.1 4 (zf s) 0) (n + zoff (zpc s))) 4 (zf s) 0 (s.1 4 (zf s) 0 + 1)))) (b16 : P (znx (zi s 4 (zf s) 0 (s.1 4 (zf s) 0 - 1)))) (b17 : o = 28 → P (zerr (zdn s 1) 5 3)) (b17' : o = 28 → P (znx (zdn s 1))) (b18 : o = 29 → P (zerr (zdn s 1) (ztop s 1) 3)) (b19 : P (znx (zpush (zdn s (e.1 5 n 0)) 0))) (bz : P (znx s)) : P (zex e s o n) := by
  unfold zex
  by_cases c0 : o = 0
  · rw [if_pos c0]; exact b0
  rw [if_neg c0]
  by_cases c1 : o = 1
  · rw [if_pos c1]; exact b1
  rw [if_neg c1]
  by_cases c2 : o = 2
  · rw [if_pos c2]; exact b2
  rw [if_neg c2]
  by_cases c3 : o ≤ 7
  · rw [if_pos c3]; exact b3 c3
  rw [if_neg c3]
  by_cases c4 : o = 8
  · rw [if_pos c4]; exact b4 c4
  rw [if_neg c4]
  by_cases c5 : o = 34
  · rw [if_pos c5]; exact b5 c5
  rw [if_neg c5]
  by_cases c6 : o = 9
  · rw [if_pos c6]; exact b6
  rw [if_neg c6]
  by_cases c7 : o = 33
  · rw [if_pos c7]; exact b7
  rw [if_neg c7]
  by_cases c8 : o ≤ 20
  · rw [if_pos c8]
    by_cases y : ztop s 1 = 0 ∧ (o = 13 ∨ o = 14)
    · rw [if_pos y]; exact b8 c8
    · rw [if_neg y]; exact b8' c8
  rw [if_neg c8]
  by_cases c9 : o = 21
  · rw [if_pos c9]; exact b9
  rw [if_neg c9]
  by_cases c10 : o = 22
  · rw [if_pos c10]; exact b10
  rw [if_neg c10]
  by_cases c11 : o = 23
  · rw [if_pos c11]; exact b11 c11
  rw [if_neg c11]
  by_cases c12 : o = 24
  · rw [if_pos c12]; exact b12
  rw [if_neg c12]
  by_cases c13 : o = 31
  · rw [if_pos c13]; exact b13
  rw [if_neg c13]
  by_cases c14 : o = 25
  · rw [if_pos c14]; exact b14
  rw [if_neg c14]
  by_cases c15 : o = 26
  · rw [if_pos c15]; exact b15
  rw [if_neg c15]
  by_cases c16 : o = 27
  · rw [if_pos c16]; exact b16
  rw [if_neg c16]
  by_cases c17 : o = 28
  · rw [if_pos c17]
    by_cases y : ztop s 1 = 0
    · rw [if_pos y]; exact b17 c17
    · rw [if_neg y]; exact b17' c17
  rw [if_neg c17]
  by_cases c18 : o = 29
  · rw [if_pos c18]; exact b18 c18
  rw [if_neg c18]
  by_cases c19 : o = 32
  · rw [if_pos c19]; exact b19
  rw [if_neg c19]
  exact bz
theorem zex_k (h : kk = 9 ∨ kk = 10 ∨ kk = 12 ∨ kk = 15) : (zex e s o n).1 kk = s.1 kk := by
  rcases h with h | h | h | h <;> subst h
  · exact zex_by (P := fun t => t.1 9 = s.1 9) rfl rfl rfl (fun _ => (zuse_k (by decide))) (fun _ => rfl) (fun _ => rfl) rfl rfl (fun _ => rfl) (fun _ => rfl) rfl rfl (fun _ => zdraw_k (by decide)) rfl rfl rfl rfl rfl (fun _ => rfl) (fun _ => rfl) (fun _ => rfl) rfl rfl
  · exact zex_by (P := fun t => t.1 10 = s.1 10) rfl rfl rfl (fun _ => (zuse_k (by decide))) (fun _ => rfl) (fun _ => rfl) rfl rfl (fun _ => rfl) (fun _ => rfl) rfl rfl (fun _ => zdraw_k (by decide)) rfl rfl rfl rfl rfl (fun _ => rfl) (fun _ => rfl) (fun _ => rfl) rfl rfl
  · exact zex_by (P := fun t => t.1 12 = s.1 12) rfl rfl rfl (fun _ => (zuse_k (by decide))) (fun _ => rfl) (fun _ => rfl) rfl rfl (fun _ => rfl) (fun _ => rfl) rfl rfl (fun _ => zdraw_k (by decide)) rfl rfl rfl rfl rfl (fun _ => rfl) (fun _ => rfl) (fun _ => rfl) rfl rfl
  · exact zex_by (P := fun t => t.1 15 = s.1 15) rfl rfl rfl (fun _ => (zuse_k (by decide))) (fun _ => rfl) (fun _ => rfl) rfl rfl (fun _ => rfl) (fun _ => rfl) rfl rfl (fun _ => zdraw_k (by decide)) rfl rfl rfl rfl rfl (fun _ => rfl) (fun _ => rfl) (fun _ => rfl) rfl rfl
/-- DRAWS -/
theorem zex_d : ((zex e s o n).1 11 0 0 = s.1 11 0 0 ∧ (zex e s o n).1 14 0 0 = s.1 14 0 0) ∨ (o = 23 ∧ (zex e s o n).1 11 0 0 = s.1 11 0 0 + 1 ∧ ((zex e s o n).1 14 0 0 = s.1 14 0 0 ∨ s.1 11 0 0 = s.1 14 0 0 ∧ (zex e s o n).1 14 0 0 = s.1 14 0 0 + 1)) := by
  have dr : o = 23 → ((zdraw e s (ztop s 1)).1 11 0 0 = s.1 11 0 0 ∧ (zdraw e s (ztop s 1)).1 14 0 0 = s.1 14 0 0) ∨ (o = 23 ∧ (zdraw e s (ztop s 1)).1 11 0 0 = s.1 11 0 0 + 1 ∧ ((zdraw e s (ztop s 1)).1 14 0 0 = s.1 14 0 0 ∨ s.1 11 0 0 = s.1 14 0 0 ∧ (zdraw e s (ztop s 1)).1 14 0 0 = s.1 14 0 0 + 1)) := fun c23 => by
    unfold zdraw
    by_cases y1 : (1 : Int32) ≤ ztop s 1
    · rw [if_pos y1]
      by_cases y2 : e.1 10 2 0 = 1
      · rw [if_pos y2]
        by_cases y3 : s.1 11 0 0 = s.1 14 0 0
        · rw [if_pos y3]
          exact Or.inr ⟨c23, zi_e, Or.inr ⟨y3, zi_e (s := zw (zw s 9 (s.1 14 0 0) 0 0) 10 (s.1 14 0 0) 0 (ztop s 1)) (k := 14) (i := 0) (j := 0) (v := s.1 14 0 0 + 1)⟩⟩
        · rw [if_neg y3]; exact Or.inr ⟨c23, zi_e, Or.inl rfl⟩
      · rw [if_neg y2]; exact Or.inr ⟨c23, zi_e, Or.inl rfl⟩
    · rw [if_neg y1]; exact Or.inl ⟨rfl, rfl⟩
  exact zex_by (P := fun t => (t.1 11 0 0 = s.1 11 0 0 ∧ t.1 14 0 0 = s.1 14 0 0) ∨ (o = 23 ∧ t.1 11 0 0 = s.1 11 0 0 + 1 ∧ (t.1 14 0 0 = s.1 14 0 0 ∨ s.1 11 0 0 = s.1 14 0 0 ∧ t.1 14 0 0 = s.1 14 0 0 + 1))) (Or.inl ⟨rfl, rfl⟩) (Or.inl ⟨rfl, rfl⟩) (Or.inl ⟨rfl, rfl⟩) (fun _ => (Or.inl ⟨by rw [zuse_k (by decide)], by rw [zuse_k (by decide)]⟩)) (fun _ => Or.inl ⟨rfl, rfl⟩) (fun _ => Or.inl ⟨rfl, rfl⟩) (Or.inl ⟨rfl, rfl⟩) (Or.inl ⟨rfl, rfl⟩) (fun _ => (Or.inl ⟨rfl, rfl⟩)) (fun _ => (Or.inl ⟨rfl, rfl⟩)) (Or.inl ⟨rfl, rfl⟩) (Or.inl ⟨rfl, rfl⟩) dr (Or.inl ⟨rfl, rfl⟩) (Or.inl ⟨rfl, rfl⟩) (Or.inl ⟨rfl, rfl⟩) (Or.inl ⟨rfl, rfl⟩) (Or.inl ⟨rfl, rfl⟩) (fun _ => (Or.inl ⟨rfl, rfl⟩)) (fun _ => (Or.inl ⟨rfl, rfl⟩)) (fun _ => (Or.inl ⟨rfl, rfl⟩)) (Or.inl ⟨rfl, rfl⟩) (Or.inl ⟨rfl, rfl⟩)
theorem zcall_m {d par r : Int} (hm : s.1 1 0 0 = 0) : (zcall e s i d par r).1 1 0 0 = 0 ∨ (zcall e s i d par r).1 1 0 0 = 3 ∨ (zcall e s i d par r).1 1 0 0 = 7 := by
  unfold zcall
  split
  · split
    · exact Or.inr (Or.inl zi_e)
    · exact Or.inl hm
  split
  · exact Or.inr (Or.inr zi_e)
  · exact Or.inl hm
theorem zmem_m (hm : s.1 1 0 0 = 0) : ((zmem e s o i).1 1 0 0 = 0 ∨ (zmem e s o i).1 1 0 0 = 3 ∨ (zmem e s o i).1 1 0 0 = 7) ∧ ∀ D, (zmem e s o i).1 17 D 0 = s.1 17 D 0 ∨ (zmem e s o i).1 17 D 0 = s.1 17 D 0 + 1 := by
  unfold zmem
  split
  · exact ⟨Or.inl hm, fun _ => Or.inl rfl⟩
  split
  · exact ⟨Or.inl hm, fun _ => Or.inl rfl⟩
  split
  · split
    · exact ⟨Or.inr (Or.inl zi_e), fun _ => Or.inl rfl⟩
    · exact ⟨Or.inl hm, fun _ => Or.inl rfl⟩
  split
  · split
    · exact ⟨Or.inr (Or.inl zi_e), fun _ => Or.inl rfl⟩
    · exact ⟨Or.inl hm, fun _ => Or.inl rfl⟩
  split
  · refine ⟨zcall_m hm, fun D => ?_⟩
    rw [zcall_k (by omega)]
    by_cases y : D = e.1 11 i 0
    · exact Or.inr ((if_pos ⟨rfl, y, rfl⟩).trans (by rw [y]))
    · exact Or.inl (if_neg fun z => y z.2.1)
  · exact ⟨zcall_m hm, fun D => by rw [zcall_k (by omega)]; exact Or.inl rfl⟩
theorem zuse_m (hm : s.1 1 0 0 = 0) : ((zuse e s o i k).1 1 0 0 = 0 ∨ (zuse e s o i k).1 1 0 0 = 3 ∨ (zuse e s o i k).1 1 0 0 = 7) ∧ ∀ D, (zuse e s o i k).1 17 D 0 = s.1 17 D 0 ∨ (zuse e s o i k).1 17 D 0 = s.1 17 D 0 + 1 := by
  unfold zuse
  split
  · exact ⟨Or.inr (Or.inl zi_e), fun _ => Or.inl rfl⟩
  split
  · exact zmem_m hm
  split
  · exact ⟨Or.inr (Or.inl zi_e), fun _ => Or.inl rfl⟩
  split
  · exact zmem_m (s := zinit e (zi s 8 k 0 1) k) hm
  split
  · exact ⟨Or.inl hm, fun _ => Or.inl rfl⟩
  · exact ⟨Or.inr (Or.inl zi_e), fun _ => Or.inl rfl⟩
/-- CALLS heard, and how it goes on -/
theorem zex_m (hm : s.1 1 0 0 = 0) : (((zex e s o n).1 1 0 0 = 0 ∨ (zex e s o n).1 1 0 0 = 3 ∨ (zex e s o n).1 1 0 0 = 7) ∧ ∀ D, (zex e s o n).1 17 D 0 = s.1 17 D 0 ∨ (zex e s o n).1 17 D 0 = s.1 17 D 0 + 1) ∨ ((o = 8 ∨ o = 34) ∧ (zex e s o n).1 1 0 0 = 2 ∧ ∀ D, (zex e s o n).1 17 D 0 = s.1 17 D 0) := by
  have dr : ((zdraw e s (ztop s 1)).1 1 0 0 = 0 ∨ (zdraw e s (ztop s 1)).1 1 0 0 = 3 ∨ (zdraw e s (ztop s 1)).1 1 0 0 = 7) ∧ ∀ D, (zdraw e s (ztop s 1)).1 17 D 0 = s.1 17 D 0 ∨ (zdraw e s (ztop s 1)).1 17 D 0 = s.1 17 D 0 + 1 := by
    refine ⟨?_, fun D => Or.inl (by rw [zdraw_k (by decide)])⟩
    unfold zdraw
    by_cases y1 : (1 : Int32) ≤ ztop s 1
    · rw [if_pos y1]
      by_cases y2 : e.1 10 2 0 = 1
      · rw [if_pos y2]
        by_cases y3 : s.1 11 0 0 = s.1 14 0 0
        · rw [if_pos y3]; exact Or.inl hm
        · rw [if_neg y3]; exact Or.inl hm
      · rw [if_neg y2]; exact Or.inl hm
    · rw [if_neg y1]; exact Or.inr (Or.inl zi_e)
  exact zex_by (P := fun t => ((t.1 1 0 0 = 0 ∨ t.1 1 0 0 = 3 ∨ t.1 1 0 0 = 7) ∧ ∀ D, t.1 17 D 0 = s.1 17 D 0 ∨ t.1 17 D 0 = s.1 17 D 0 + 1) ∨ ((o = 8 ∨ o = 34) ∧ t.1 1 0 0 = 2 ∧ ∀ D, t.1 17 D 0 = s.1 17 D 0)) (Or.inl ⟨Or.inl hm, fun _ => Or.inl rfl⟩) (Or.inl ⟨Or.inl hm, fun _ => Or.inl rfl⟩) (Or.inl ⟨Or.inl hm, fun _ => Or.inl rfl⟩) (fun _ => (Or.inl (zuse_m hm))) (fun q => Or.inr ⟨Or.inl q, zi_e, fun _ => rfl⟩) (fun q => Or.inr ⟨Or.inr q, zi_e, fun _ => rfl⟩) (Or.inl ⟨Or.inl hm, fun _ => Or.inl rfl⟩) (Or.inl ⟨Or.inl hm, fun _ => Or.inl rfl⟩) (fun _ => (Or.inl ⟨Or.inr (Or.inl zi_e), fun _ => Or.inl rfl⟩)) (fun _ => (Or.inl ⟨Or.inl hm, fun _ => Or.inl rfl⟩)) (Or.inl ⟨Or.inl hm, fun _ => Or.inl rfl⟩) (Or.inl ⟨Or.inl hm, fun _ => Or.inl rfl⟩) (fun _ => Or.inl dr) (Or.inl ⟨Or.inl hm, fun _ => Or.inl rfl⟩) (Or.inl ⟨Or.inl hm, fun _ => Or.inl rfl⟩) (Or.inl ⟨Or.inl hm, fun _ => Or.inl rfl⟩) (Or.inl ⟨Or.inl hm, fun _ => Or.inl rfl⟩) (Or.inl ⟨Or.inl hm, fun _ => Or.inl rfl⟩) (fun _ => (Or.inl ⟨Or.inr (Or.inl zi_e), fun _ => Or.inl rfl⟩)) (fun _ => (Or.inl ⟨Or.inl hm, fun _ => Or.inl rfl⟩)) (fun _ => (Or.inl ⟨Or.inr (Or.inl zi_e), fun _ => Or.inl rfl⟩)) (Or.inl ⟨Or.inl hm, fun _ => Or.inl rfl⟩) (Or.inl ⟨Or.inl hm, fun _ => Or.inl rfl⟩)
/-- what fails is not an ENDTRY -/
theorem zcall_7 {d par r : Int} (hm : s.1 1 0 0 = 0) : (zcall e s i d par r).1 1 0 0 = 0 ∨ zpc (zcall e s i d par r) = zpc s := by
  unfold zcall
  split
  · split
    · exact Or.inr rfl
    · exact Or.inl hm
  split
  · exact Or.inr rfl
  · exact Or.inl hm
theorem zmem_7 (hm : s.1 1 0 0 = 0) : (zmem e s o i).1 1 0 0 = 0 ∨ zpc (zmem e s o i) = zpc s := by
  unfold zmem
  split
  · exact Or.inl hm
  split
  · exact Or.inl hm
  split
  · split
    · exact Or.inr rfl
    · exact Or.inl hm
  split
  · split
    · exact Or.inr rfl
    · exact Or.inl hm
  split
  · exact zcall_7 (s := zhear s (e.1 11 i 0) (e.1 5 i 0) (zruleOf e s i)) hm
  · exact zcall_7 hm
theorem zuse_7 (hm : s.1 1 0 0 = 0) : (zuse e s o i k).1 1 0 0 = 0 ∨ zpc (zuse e s o i k) = zpc s := by
  unfold zuse
  split
  · exact Or.inr rfl
  split
  · exact zmem_7 hm
  split
  · exact Or.inr rfl
  split
  · exact zmem_7 (s := zinit e (zi s 8 k 0 1) k) hm
  split
  · exact Or.inl hm
  · exact Or.inr rfl
theorem zex_7 (hm : s.1 1 0 0 = 0) : ((zex e s o n).1 1 0 0 = 0 ∨ (zex e s o n).1 1 0 0 = 2) ∨ (o ≠ 27 ∧ zpc (zex e s o n) = zpc s) := by
  have dr : o = 23 → ((zdraw e s (ztop s 1)).1 1 0 0 = 0 ∨ (zdraw e s (ztop s 1)).1 1 0 0 = 2) ∨ (o ≠ 27 ∧ zpc (zdraw e s (ztop s 1)) = zpc s) := fun q => by
    unfold zdraw
    by_cases y1 : (1 : Int32) ≤ ztop s 1
    · rw [if_pos y1]
      by_cases y2 : e.1 10 2 0 = 1
      · rw [if_pos y2]
        by_cases y3 : s.1 11 0 0 = s.1 14 0 0
        · rw [if_pos y3]; exact Or.inl (Or.inl hm)
        · rw [if_neg y3]; exact Or.inl (Or.inl hm)
      · rw [if_neg y2]; exact Or.inl (Or.inl hm)
    · rw [if_neg y1]; exact Or.inr ⟨by omega, rfl⟩
  exact zex_by (P := fun t => (t.1 1 0 0 = 0 ∨ t.1 1 0 0 = 2) ∨ (o ≠ 27 ∧ zpc t = zpc s)) (Or.inl (Or.inl hm)) (Or.inl (Or.inl hm)) (Or.inl (Or.inl hm)) (fun q => (zuse_7 hm).elim (fun z => Or.inl (Or.inl z)) fun z => Or.inr ⟨by omega, z⟩) (fun _ => Or.inl (Or.inr zi_e)) (fun _ => Or.inl (Or.inr zi_e)) (Or.inl (Or.inl hm)) (Or.inl (Or.inl hm)) (fun q => Or.inr ⟨by omega, rfl⟩) (fun _ => Or.inl (Or.inl hm)) (Or.inl (Or.inl hm)) (Or.inl (Or.inl hm)) dr (Or.inl (Or.inl hm)) (Or.inl (Or.inl hm)) (Or.inl (Or.inl hm)) (Or.inl (Or.inl hm)) (Or.inl (Or.inl hm)) (fun q => Or.inr ⟨by omega, rfl⟩) (fun _ => Or.inl (Or.inl hm)) (fun q => Or.inr ⟨by omega, rfl⟩) (Or.inl (Or.inl hm)) (Or.inl (Or.inl hm))
end S99q
