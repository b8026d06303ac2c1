/-! DRAWS that are told: what steps do with them -/
/-- they stay -/
def zKp (s t : ZS) : Prop := t.1 14 0 0 = s.1 14 0 0 ∧ t.2 9 = s.2 9 ∧ t.2 10 = s.2 10
/-- new ones come behind: 0, of one at least -/
def zDn (s t : ZS) : Prop := s.1 14 0 0 ≤ t.1 14 0 0 ∧ ∀ i : Int, 0 ≤ i → (i < s.1 14 0 0 → t.2 9 i 0 = s.2 9 i 0 ∧ t.2 10 i 0 = s.2 10 i 0) ∧ (s.1 14 0 0 ≤ i → i < t.1 14 0 0 → t.2 9 i 0 = 0 ∧ (1 : Int32) ≤ t.2 10 i 0)
/-- as many were done as are told -/
def zPd (s : ZS) : Prop := s.1 11 0 0 = s.1 14 0 0
section S9dt
variable {e s s' t u : ZS} {o n i k V m ov en par : Int} {K : Nat → Int} {F : Nat → Int → Int} {Fa Wh : Int32}
theorem zKp.r : zKp s s := ⟨rfl, rfl, rfl⟩
theorem zKp.tr (h : zKp s t) (g : zKp t u) : zKp s u := ⟨g.1.trans h.1, g.2.1.trans h.2.1, g.2.2.trans h.2.2⟩
theorem zDn.eq (h : zKp s t) : zDn s t := ⟨by rw [h.1]; exact Int.le_refl _, fun i _ => ⟨fun _ => ⟨by rw [h.2.1], by rw [h.2.2]⟩, fun a b => by rw [h.1] at b; omega⟩⟩
theorem zDn.r : zDn s s := zDn.eq zKp.r
theorem zDn.tr (h : zDn s t) (g : zDn t u) : zDn s u := ⟨Int.le_trans h.1 g.1, fun i a => ⟨fun b => by
  have b2 : i < t.1 14 0 0 := Int.lt_of_lt_of_le b h.1
  exact ⟨((g.2 i a).1 b2).1.trans ((h.2 i a).1 b).1, ((g.2 i a).1 b2).2.trans ((h.2 i a).1 b).2⟩, fun b c => by
  by_cases y : i < t.1 14 0 0
  · have := (g.2 i a).1 y
    rw [this.1, this.2]
    exact (h.2 i a).2 b y
  · exact (g.2 i a).2 (by omega) c⟩⟩
theorem zcall_p {d par r : Int} : zKp s (zcall e s i d par r) := by
  unfold zcall
  (repeat' split) <;> exact ⟨rfl, rfl, rfl⟩
theorem zmem_p : zKp s (zmem e s o i) := by
  unfold zmem
  split
  · exact ⟨rfl, rfl, rfl⟩
  split
  · exact ⟨rfl, rfl, rfl⟩
  split
  · split <;> exact ⟨rfl, rfl, rfl⟩
  split
  · split <;> exact ⟨rfl, rfl, rfl⟩
  refine zKp.tr ?_ zcall_p
  split <;> exact ⟨rfl, rfl, rfl⟩
theorem zuse_p : zKp s (zuse e s o i k) := by
  unfold zuse
  split
  · exact ⟨rfl, rfl, rfl⟩
  split
  · exact zmem_p
  split
  · exact ⟨rfl, rfl, rfl⟩
  split
  · exact zKp.tr (t := zinit e (zi s 8 k 0 1) k) ⟨rfl, rfl, rfl⟩ zmem_p
  split
  · exact ⟨rfl, rfl, rfl⟩
  · exact ⟨rfl, rfl, rfl⟩
theorem zdraw_dn {v : Int32} : zDn s (zdraw e s v) := by
  unfold zdraw
  by_cases y : (1 : Int32) ≤ v
  · rw [if_pos y]
    by_cases y2 : e.1 10 2 0 = 1
    · rw [if_pos y2]
      by_cases y3 : s.1 11 0 0 = s.1 14 0 0
      · rw [if_pos y3]
        refine ⟨?_, fun i a => ⟨fun b => ⟨?_, ?_⟩, fun b c => ?_⟩⟩
        · show s.1 14 0 0 ≤ s.1 14 0 0 + 1
          omega
        · show (if (9 : Nat) = 10 ∧ i = s.1 14 0 0 ∧ (0 : Int) = 0 then v else if (9 : Nat) = 9 ∧ i = s.1 14 0 0 ∧ (0 : Int) = 0 then (0 : Int32) else s.2 9 i 0) = _
          rw [if_neg (by omega), if_neg (by omega)]
        · show (if (10 : Nat) = 10 ∧ i = s.1 14 0 0 ∧ (0 : Int) = 0 then v else if (10 : Nat) = 9 ∧ i = s.1 14 0 0 ∧ (0 : Int) = 0 then (0 : Int32) else s.2 10 i 0) = _
          rw [if_neg (by omega), if_neg (by omega)]
        · have c' : i < s.1 14 0 0 + 1 := c
          have ei : i = s.1 14 0 0 := by omega
          constructor
          · show (if (9 : Nat) = 10 ∧ i = s.1 14 0 0 ∧ (0 : Int) = 0 then v else if (9 : Nat) = 9 ∧ i = s.1 14 0 0 ∧ (0 : Int) = 0 then (0 : Int32) else s.2 9 i 0) = _
            rw [if_neg (by omega), if_pos ⟨rfl, ei, rfl⟩]
          · show (1 : Int32) ≤ (if (10 : Nat) = 10 ∧ i = s.1 14 0 0 ∧ (0 : Int) = 0 then v else if (10 : Nat) = 9 ∧ i = s.1 14 0 0 ∧ (0 : Int) = 0 then (0 : Int32) else s.2 10 i 0)
            rw [if_pos ⟨rfl, ei, rfl⟩]
            exact y
      · rw [if_neg y3]; exact zDn.eq ⟨rfl, rfl, rfl⟩
    · rw [if_neg y2]; exact zDn.eq ⟨rfl, rfl, rfl⟩
  · rw [if_neg y]; exact zDn.eq ⟨rfl, rfl, rfl⟩
theorem zex_dn : zDn s (zex e s o n) := zex_by (P := fun t => zDn s t) (zDn.eq ⟨rfl, rfl, rfl⟩) (zDn.eq ⟨rfl, rfl, rfl⟩) (zDn.eq ⟨rfl, rfl, rfl⟩) (fun _ => zDn.eq zuse_p) (fun _ => (zDn.eq ⟨rfl, rfl, rfl⟩)) (fun _ => (zDn.eq ⟨rfl, rfl, rfl⟩)) (zDn.eq ⟨rfl, rfl, rfl⟩) (zDn.eq ⟨rfl, rfl, rfl⟩) (fun _ => (zDn.eq ⟨rfl, rfl, rfl⟩)) (fun _ => (zDn.eq ⟨rfl, rfl, rfl⟩)) (zDn.eq ⟨rfl, rfl, rfl⟩) (zDn.eq ⟨rfl, rfl, rfl⟩) (fun _ => zdraw_dn) (zDn.eq ⟨rfl, rfl, rfl⟩) (zDn.eq ⟨rfl, rfl, rfl⟩) (zDn.eq ⟨rfl, rfl, rfl⟩) (zDn.eq ⟨rfl, rfl, rfl⟩) (zDn.eq ⟨rfl, rfl, rfl⟩) (fun _ => (zDn.eq ⟨rfl, rfl, rfl⟩)) (fun _ => (zDn.eq ⟨rfl, rfl, rfl⟩)) (fun _ => (zDn.eq ⟨rfl, rfl, rfl⟩)) (zDn.eq ⟨rfl, rfl, rfl⟩) (zDn.eq ⟨rfl, rfl, rfl⟩)
/-- a step that does no instruction -/
theorem zret_p : zKp s (zret s) := by
  unfold zret
  (repeat' split) <;> exact ⟨rfl, rfl, rfl⟩
theorem zthr_p : zKp s (zthr s m) := by
  unfold zthr
  split <;> exact ⟨rfl, rfl, rfl⟩
theorem zunw_p : zKp s (zunw s m) := by
  unfold zunw
  (repeat' split) <;> exact ⟨rfl, rfl, rfl⟩
theorem zstep_dn : zDn s (zstep e s) := by
  unfold zstep
  split
  · split
    · exact zDn.eq ⟨rfl, rfl, rfl⟩
    split
    · exact zDn.eq ⟨rfl, rfl, rfl⟩
    · exact zDn.tr (t := ztick e s) (zDn.eq ⟨rfl, rfl, rfl⟩) zex_dn
  split
  · exact zDn.tr (t := zi s 1 0 0 0) (zDn.eq ⟨rfl, rfl, rfl⟩) zex_dn
  split
  · exact zDn.eq zret_p
  split
  · exact zDn.eq zthr_p
  split
  · exact zDn.eq zunw_p
  · exact zDn.r
theorem zgoes_dn : ∀ (k : Nat) (s : ZS), zDn s (zgoes e s k)
  | 0, _ => zDn.r
  | k + 1, s => zstep_dn.tr (zgoes_dn k (zstep e s))
theorem zto.dn (h : zto e s t) : zDn s t := by
  obtain ⟨k, rfl⟩ := h
  exact zgoes_dn k s
theorem zEx.dn (h : zEx e s en par u) : zDn s u := zDn.tr (t := zbeg s en par) (zDn.eq ⟨rfl, rfl, rfl⟩) h.1.dn
theorem znb_dn : zDn u (znb u) := zDn.eq ⟨rfl, rfl, rfl⟩
theorem zBf.dn : ∀ {m : Nat} {i : Int} {s : ZS} {sd : Int} {Fa Wh : Int32} {ov : Int} {s' : ZS}, zBf e F m i s sd Fa Wh ov s' → zDn s s'
  | 0, _, _, _, _, _, _, _, ⟨_, h⟩ => by rw [h]; exact zDn.r
  | m + 1, i, s, sd, Fa, Wh, ov, s', ⟨u, h1, h2, h3⟩ => by
    refine h1.dn.tr (znb_dn.tr ?_)
    rcases h3 with ⟨_, h4⟩ | ⟨_, _, h4, _⟩
    · exact h4.dn
    · rw [h4]; exact zDn.r
theorem zAf.dn : ∀ {m : Nat} {s : ZS} {ov V : Int} {Fa Wh : Int32} {V' : Int} {Fa' Wh' : Int32} {s' : ZS}, zAf e F m s ov V Fa Wh V' Fa' Wh' s' → zDn s s'
  | 0, _, _, _, _, _, _, _, _, _, ⟨h, _⟩ => by rw [h]; exact zDn.r
  | m + 1, s, ov, V, Fa, Wh, V', Fa', Wh', s', h => by
    rcases h with ⟨_, h, _⟩ | ⟨_, u, h1, h2, h3⟩
    · rw [h]; exact zDn.r
    · refine h1.dn.tr (znb_dn.tr ?_)
      rcases h3 with ⟨_, _, h4⟩ | ⟨_, h4⟩
      · exact h4.dn
      · exact h4.dn
theorem zLf.dn (h : zLf e K F s V Fa Wh s') : zDn s s' := by
  obtain ⟨sd, Fb, Wb, ob, sb, h1, V1, F1, W1, o1, s1, h2, h3⟩ := h
  refine h1.dn.tr (zDn.tr ?_ h3.dn)
  rcases h2 with ⟨_, h4, _⟩ | ⟨_, u, h4, _, h5, _⟩
  · rw [h4]; exact zDn.r
  · rw [h5]
    exact zDn.tr (t := zw sb 0 0 0 (iI (K 3))) (zDn.eq ⟨rfl, rfl, rfl⟩) (h4.dn.tr znb_dn)
/-- all that are told are done -/
theorem zPd.eq (h : zPd s) (h1 : t.1 11 0 0 = s.1 11 0 0) (h2 : t.1 14 0 0 = s.1 14 0 0) : zPd t := by
  unfold zPd at *
  omega
theorem zdraw_pd {v : Int32} (hl : e.1 10 2 0 = 1) (h : zPd s) : zPd (zdraw e s v) := by
  unfold zdraw
  by_cases y : (1 : Int32) ≤ v
  · rw [if_pos y, if_pos hl, if_pos (show s.1 11 0 0 = s.1 14 0 0 from h)]
    show s.1 11 0 0 + 1 = s.1 14 0 0 + 1
    rw [show s.1 11 0 0 = s.1 14 0 0 from h]
  · rw [if_neg y]; exact h.eq rfl rfl
theorem zex_pd (hl : e.1 10 2 0 = 1) (h : zPd s) : zPd (zex e s o n) := zex_by (P := zPd) (h.eq rfl rfl) (h.eq rfl rfl) (h.eq rfl rfl) (fun _ => h.eq (by rw [zuse_k (by decide)]) (by rw [zuse_k (by decide)])) (fun _ => h.eq rfl rfl) (fun _ => h.eq rfl rfl) (h.eq rfl rfl) (h.eq rfl rfl) (fun _ => h.eq rfl rfl) (fun _ => h.eq rfl rfl) (h.eq rfl rfl) (h.eq rfl rfl) (fun _ => zdraw_pd hl h) (h.eq rfl rfl) (h.eq rfl rfl) (h.eq rfl rfl) (h.eq rfl rfl) (h.eq rfl rfl) (fun _ => h.eq rfl rfl) (fun _ => h.eq rfl rfl) (fun _ => h.eq rfl rfl) (h.eq rfl rfl) (h.eq rfl rfl)
theorem zret_pd (h : zPd s) : zPd (zret s) := by
  unfold zret
  (repeat' split) <;> first | exact h | exact h.eq rfl rfl
theorem zthr_pd (h : zPd s) : zPd (zthr s m) := by
  unfold zthr
  split <;> exact h.eq rfl rfl
theorem zunw_pd (h : zPd s) : zPd (zunw s m) := by
  unfold zunw
  (repeat' split) <;> first | exact h | exact h.eq rfl rfl
theorem zstep_pd (hl : e.1 10 2 0 = 1) (h : zPd s) : zPd (zstep e s) := by
  unfold zstep
  split
  · split
    · exact h.eq rfl rfl
    split
    · exact h.eq rfl rfl
    · exact zex_pd hl (h.eq (t := ztick e s) rfl rfl)
  split
  · exact zex_pd hl (h.eq (t := zi s 1 0 0 0) rfl rfl)
  split
  · exact zret_pd h
  split
  · exact zthr_pd h
  split
  · exact zunw_pd h
  · exact h
theorem zgoes_pd (hl : e.1 10 2 0 = 1) : ∀ (k : Nat) (s : ZS), zPd s → zPd (zgoes e s k)
  | 0, _, h => h
  | k + 1, s, h => zgoes_pd hl k (zstep e s) (zstep_pd hl h)
theorem zto.pd (hl : e.1 10 2 0 = 1) (h : zto e s t) (g : zPd s) : zPd t := by
  obtain ⟨k, rfl⟩ := h
  exact zgoes_pd hl k s g
theorem zEx.pd (hl : e.1 10 2 0 = 1) (h : zEx e s en par u) (g : zPd s) : zPd u := h.1.pd hl (g.eq (t := zbeg s en par) rfl rfl)
theorem znb_pd (g : zPd u) : zPd (znb u) := g.eq rfl rfl
theorem zBf.pd (hl : e.1 10 2 0 = 1) : ∀ {m : Nat} {i : Int} {s : ZS} {sd : Int} {Fa Wh : Int32} {ov : Int} {s' : ZS}, zBf e F m i s sd Fa Wh ov s' → zPd s → zPd s'
  | 0, _, _, _, _, _, _, _, ⟨_, h⟩, g => by rw [h]; exact g
  | m + 1, i, s, sd, Fa, Wh, ov, s', ⟨u, h1, h2, h3⟩, g => by
    have g2 := znb_pd (h1.pd hl g)
    rcases h3 with ⟨_, h4⟩ | ⟨_, _, h4, _⟩
    · exact h4.pd hl g2
    · rw [h4]; exact g2
theorem zAf.pd (hl : e.1 10 2 0 = 1) : ∀ {m : Nat} {s : ZS} {ov V : Int} {Fa Wh : Int32} {V' : Int} {Fa' Wh' : Int32} {s' : ZS}, zAf e F m s ov V Fa Wh V' Fa' Wh' s' → zPd s → zPd s'
  | 0, _, _, _, _, _, _, _, _, _, ⟨h, _⟩, g => by rw [h]; exact g
  | m + 1, s, ov, V, Fa, Wh, V', Fa', Wh', s', h, g => by
    rcases h with ⟨_, h, _⟩ | ⟨_, u, h1, h2, h3⟩
    · rw [h]; exact g
    · have g2 := znb_pd (h1.pd hl g)
      rcases h3 with ⟨_, _, h4⟩ | ⟨_, h4⟩
      · exact h4.pd hl g2
      · exact h4.pd hl g2
theorem zLf.pd (hl : e.1 10 2 0 = 1) (h : zLf e K F s V Fa Wh s') (g : zPd s) : zPd s' := by
  obtain ⟨sd, Fb, Wb, ob, sb, h1, V1, F1, W1, o1, s1, h2, h3⟩ := h
  have g1 := h1.pd hl g
  refine h3.pd hl ?_
  rcases h2 with ⟨_, h4, _⟩ | ⟨_, u, h4, _, h5, _⟩
  · rw [h4]; exact g1
  · rw [h5]
    exact znb_pd (h4.pd hl (g1.eq (t := zw sb 0 0 0 (iI (K 3))) rfl rfl))
end S9dt
