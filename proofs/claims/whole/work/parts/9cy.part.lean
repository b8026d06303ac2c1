/-! a prop is tried, both -/
def Zhc (o : HO) (a j : Nat) : Prop := ZM o 0 0 a j ∨ (a = 146 ∧ (j = 4 ∨ j = 5))
def Zhr (a j : Nat) : Prop := ZR 0 0 a j ∨ (a = 160 ∧ j = 136)
/-- numbers stand where parameters do -/
def zpm (s : ZS) (tv : Int → Int32) : ZS := (s.1, fun k i j => if k = 0 then tv j else s.2 k i j)
section S9cy
variable {d dl : Nat} {e s s' u hs : ZS} {κ : ZK} {R : Int → RG} {L : Int → Int} {o : HO} {v : VR} {q : QN} {M M' M1 M2 Mc Mr Mc' Mr' : Mem} {LL a j x N bs n kd sw : Nat} {xs : Nat → Int32} {ow : Nat → Int} {c p i nc k t b sl al lu mc wk en par tr : Int} {w v1 v2 : Int32} {Z Z' : Nat → Nat → Prop} {tv : Int → Int32}
/-- a code makes a STEP at least, if there is WORK -/
theorem zEx.dec (h : zEx e s en par u) (h1 : s.1 1 0 0 = 0) (h9 : s.1 9 0 0 ≠ 0) (h6 : u.1 1 0 0 ≠ 6) : u.1 12 0 0 < s.1 12 0 0 := by
  obtain ⟨⟨k, hk⟩, he⟩ := h
  obtain ⟨t, ht⟩ : ∃ t, t = zbeg s en par := ⟨_, rfl⟩
  rw [← ht] at hk
  have t1 : t.1 1 0 0 = 0 := by rw [ht]; exact h1
  have t9 : t.1 9 0 0 = s.1 9 0 0 := by rw [ht]; rfl
  have t12 : t.1 12 0 0 = s.1 12 0 0 := by rw [ht]; rfl
  have tn : ¬ zend t := by
    have t0 : t.1 0 0 0 = s.1 0 0 0 + 1 := by rw [ht]; exact zi_e
    unfold zend
    omega
  cases k with
  | zero =>
    have : t = u := hk
    rw [← this] at he
    exact absurd he tn
  | succ k =>
    have g : zgoes e t (k + 1) = zgoes e (zstep e t) k := by
      show (if zend t then t else zgoes e (zstep e t) k) = _
      rw [if_neg tn]
    rw [g] at hk
    have fx := zgoes_fx (e := e) k (zstep e t)
    rw [hk] at fx
    by_cases y : t.1 12 0 0 = 0
    · have z : zstep e t = zi t 1 0 0 6 := by unfold zstep; rw [if_pos t1, if_neg (by omega), if_pos y]
      have m6 : (zstep e t).1 1 0 0 = 6 := by rw [z]; exact zi_e
      have e6 : ∀ k, zgoes e (zstep e t) k = zstep e t := fun k => by
        cases k with
        | zero => rfl
        | succ k =>
          show (if zend (zstep e t) then zstep e t else _) = _
          rw [if_pos (Or.inr (Or.inl m6))]
      rw [e6 k] at hk
      rw [← hk] at h6
      exact absurd m6 h6
    · have z : (zstep e t).1 12 0 0 ≤ (ztick e t).1 12 0 0 := by
        unfold zstep
        rw [if_pos t1, if_neg (by omega), if_neg y]
        exact zex_fx.2.2.2.2.2
      have z2 : (ztick e t).1 12 0 0 = t.1 12 0 0 - 1 := rfl
      have := fx.2.2.2.2.2
      omega
theorem zPr.pm (h : zPr LL xs e κ R L s Mc Mr) : zPr LL xs e κ R L (zpm s tv) Mc Mr := ⟨h.1, ⟨h.2.1.1, h.2.1.2.1, h.2.1.2.2⟩, h.2.2.1, h.2.2.2⟩
end S9cy
