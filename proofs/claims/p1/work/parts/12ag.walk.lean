set_option maxRecDepth 100000 in
def c96 (rec : Nat → List Value → Mem → XA) (a0 : Option Nat) (a1 : Int32) (M0 : Mem) : XA :=
  vC (7, 20) M0 a0 <|
  cI (rec 104 [va_rf a0] M0) fun x2 M1 =>
  gtI (7, 20) M1 a0 13 fun x3 =>
  if x3 = ((40 : Int32)) then (
    vC (7, 20) M1 a0 <|
    cV (rec 97 [va_rf a0, .int x2, .int a1] M1) fun M4 =>
    vC (7, 20) M4 a0 <|
    cV (rec 64 [va_rf a0, .int ((59 : Int32))] M4) fun M5 =>
    vC (7, 20) M5 a0 <|
    cI (rec 87 [va_rf a0, .int ((9 : Int32)), .int ((0 : Int32))] M5) fun x7 M6 =>
    some (.null, M6)) else (
    gtI (7, 20) M1 a0 13 fun x8 =>
    jn (fun (s9 : Int32) =>
      jn (fun (s10 : Mem) =>
        vC (7, 20) s10 a0 <|
        cV (rec 64 [va_rf a0, .int ((61 : Int32))] s10) fun M11 =>
        vC (7, 20) M11 a0 <|
        cV (rec 99 [va_rf a0, .int ((0 : Int32)), .int a1] M11) fun M12 =>
        vC (7, 20) M12 a0 <|
        cV (rec 64 [va_rf a0, .int ((59 : Int32))] M12) fun M13 =>
        jn (fun (s14 : Mem) =>
          some (.null, s14)) fun j100 =>
        if s9 = 0 then (
          vC (7, 20) M13 a0 <|
          cV (rec 106 [va_rf a0, .int x2, .int ((2 : Int32)), .int ((2 : Int32)), .int ((4 : Int32))] M13) fun M15 =>
          j100 M15) else (
          vC (7, 20) M13 a0 <|
          cV (rec 105 [va_rf a0, .int x2, .int ((3 : Int32)), .int ((6 : Int32))] M13) fun M16 =>
          j100 M16)) fun j59 =>
      if s9 = 0 then (
        j59 M1) else (
        vC (7, 20) M1 a0 <|
        cV (rec 98 [va_rf a0, .int a1] M1) fun M17 =>
        j59 M17)) fun j49 =>
    if x8 = ((91 : Int32)) then (
      j49 ((1 : Int32))) else (
      j49 ((0 : Int32))))
def b96 (rec : Nat → List Value → Mem → XA) (as : List Value) (M0 : Mem) : XA := aR as fun a0 as => aI as fun a1 as => aZ as (c96 rec a0 a1 M0)
set_option maxRecDepth 100000 in
set_option maxHeartbeats 4000000 in
theorem k96 {S : XS} {G : XG} {K : Nat × Nat} {l : Launch} {d : Nat} {rec : Nat → List Value → Mem → XA} (hs : XSnd l xmt rec d) (a0 : Option Nat) (a1 : Int32) (M0 : Mem) : Xe S G K l (yX6_nameStatement, cX6_nameStatement, 4, none) d 0 [some (va_rf a0), some (.int a1), none, none] [] M0 (c96 rec a0 a1 M0) := by
  unfold c96
  refine x_aload_n dX6_nameStatement_0 rfl ?_
  refine cmX6_289 rfl hs (Nat.le_of_ble_eq_true rfl) dX6_nameStatement_1 (fun x2 M1 => ?_)
  refine x_istore_n (lo' := [some (va_rf a0), some (.int a1), some (.int x2), none]) dX6_nameStatement_4 (by decide) rfl rfl ?_
  refine x_aload_n dX6_nameStatement_5 rfl ?_
  refine gfX6_81 rfl dX6_nameStatement_6 (fun x3 => ?_)
  refine x_bipush (v := 40) dX6_nameStatement_9 (by decide) ?_
  refine x_icmp_ne (tgt := 35) dX6_nameStatement_11 (by decide) (fun _ => ?_) (fun _ => ?_)
  · refine x_aload_n dX6_nameStatement_14 rfl ?_
    refine x_iload_n dX6_nameStatement_15 rfl ?_
    refine x_iload_n dX6_nameStatement_16 rfl ?_
    refine cmX6_292 rfl hs (Nat.le_of_ble_eq_true rfl) dX6_nameStatement_17 (fun M4 => ?_)
    refine x_aload_n dX6_nameStatement_20 rfl ?_
    refine x_bipush (v := 59) dX6_nameStatement_21 (by decide) ?_
    refine cmX6_90 rfl hs (Nat.le_of_ble_eq_true rfl) dX6_nameStatement_23 (fun M5 => ?_)
    refine x_aload_n dX6_nameStatement_26 rfl ?_
    refine x_bipush (v := 9) dX6_nameStatement_27 (by decide) ?_
    refine x_iconst (v := 0) dX6_nameStatement_29 (by decide) ?_
    refine cmX6_256 rfl hs (Nat.le_of_ble_eq_true rfl) dX6_nameStatement_30 (fun x7 M6 => ?_)
    refine x_pop dX6_nameStatement_33 (xc1_i _) ?_
    exact x_vret rfl dX6_nameStatement_34
  · refine x_aload_n dX6_nameStatement_35 rfl ?_
    refine gfX6_81 rfl dX6_nameStatement_36 (fun x8 => ?_)
    refine x_bipush (v := 91) dX6_nameStatement_39 (by decide) ?_
    refine x_jn (σ := Int32) 49 (fun s9 => [some (va_rf a0), some (.int a1), some (.int x2), none]) (fun s9 => [.int s9]) (fun s9 => M1) (fun s9 => ?_) (fun j49 hj49 => ?_)
    · refine x_istore_n (lo' := [some (va_rf a0), some (.int a1), some (.int x2), some (.int s9)]) dX6_nameStatement_49 (by decide) rfl rfl ?_
      refine x_iload_n dX6_nameStatement_50 rfl ?_
      refine x_jn (σ := Mem) 59 (fun s10 => [some (va_rf a0), some (.int a1), some (.int x2), some (.int s9)]) (fun s10 => []) (fun s10 => s10) (fun s10 => ?_) (fun j59 hj59 => ?_)
      · refine x_aload_n dX6_nameStatement_59 rfl ?_
        refine x_bipush (v := 61) dX6_nameStatement_60 (by decide) ?_
        refine cmX6_90 rfl hs (Nat.le_of_ble_eq_true rfl) dX6_nameStatement_62 (fun M11 => ?_)
        refine x_aload_n dX6_nameStatement_65 rfl ?_
        refine x_iconst (v := 0) dX6_nameStatement_66 (by decide) ?_
        refine x_iload_n dX6_nameStatement_67 rfl ?_
        refine cmX6_286 rfl hs (Nat.le_of_ble_eq_true rfl) dX6_nameStatement_68 (fun M12 => ?_)
        refine x_aload_n dX6_nameStatement_71 rfl ?_
        refine x_bipush (v := 59) dX6_nameStatement_72 (by decide) ?_
        refine cmX6_90 rfl hs (Nat.le_of_ble_eq_true rfl) dX6_nameStatement_74 (fun M13 => ?_)
        refine x_iload_n dX6_nameStatement_77 rfl ?_
        refine x_jn (σ := Mem) 100 (fun s14 => [none, none, none, none]) (fun s14 => []) (fun s14 => s14) (fun s14 => ?_) (fun j100 hj100 => ?_)
        · exact x_vret rfl dX6_nameStatement_100
        refine x_if_eq (tgt := 92) dX6_nameStatement_78 (by decide) (fun _ => ?_) (fun _ => ?_)
        · refine x_aload_n dX6_nameStatement_92 rfl ?_
          refine x_iload_n dX6_nameStatement_93 rfl ?_
          refine x_iconst (v := 2) dX6_nameStatement_94 (by decide) ?_
          refine x_iconst (v := 2) dX6_nameStatement_95 (by decide) ?_
          refine x_iconst (v := 4) dX6_nameStatement_96 (by decide) ?_
          refine cmX6_302 rfl hs (Nat.le_of_ble_eq_true rfl) dX6_nameStatement_97 (fun M15 => ?_)
          exact x_weak (by exact trivial) (hj100 M15)
        · refine x_aload_n dX6_nameStatement_81 rfl ?_
          refine x_iload_n dX6_nameStatement_82 rfl ?_
          refine x_iconst (v := 3) dX6_nameStatement_83 (by decide) ?_
          refine x_bipush (v := 6) dX6_nameStatement_84 (by decide) ?_
          refine cmX6_298 rfl hs (Nat.le_of_ble_eq_true rfl) dX6_nameStatement_86 (fun M16 => ?_)
          refine x_goto (tgt := 100) dX6_nameStatement_89 (by decide) ?_
          exact x_weak (by exact trivial) (hj100 M16)
      refine x_if_eq (tgt := 59) dX6_nameStatement_51 (by decide) (fun _ => ?_) (fun _ => ?_)
      · exact x_weak (by exact ⟨rfl, ⟨rfl, ⟨rfl, ⟨rfl, trivial⟩⟩⟩⟩) (hj59 M1)
      · refine x_aload_n dX6_nameStatement_54 rfl ?_
        refine x_iload_n dX6_nameStatement_55 rfl ?_
        refine cmX6_295 rfl hs (Nat.le_of_ble_eq_true rfl) dX6_nameStatement_56 (fun M17 => ?_)
        exact x_weak (by exact ⟨rfl, ⟨rfl, ⟨rfl, ⟨rfl, trivial⟩⟩⟩⟩) (hj59 M17)
    refine x_icmp_ne (tgt := 48) dX6_nameStatement_41 (by decide) (fun _ => ?_) (fun _ => ?_)
    · refine x_iconst (v := 1) dX6_nameStatement_44 (by decide) ?_
      refine x_goto (tgt := 49) dX6_nameStatement_45 (by decide) ?_
      exact x_weak (by exact ⟨rfl, ⟨rfl, ⟨rfl, trivial⟩⟩⟩) (hj49 ((1 : Int32)))
    · refine x_iconst (v := 0) dX6_nameStatement_48 (by decide) ?_
      exact x_weak (by exact ⟨rfl, ⟨rfl, ⟨rfl, trivial⟩⟩⟩) (hj49 ((0 : Int32)))
theorem s96 {l : Launch} {d : Nat} {rec : Nat → List Value → Mem → XA} (hS : Nonempty XS) (hs : XSnd l xmt rec d) : Snd1 l 96 (b96 rec) d := by
  intro as M r M' h0
  unfold b96 at h0
  obtain ⟨a0, l1, e1, h1⟩ := aR_inv h0
  obtain ⟨a1, l2, e2, h2⟩ := aI_inv h1
  obtain ⟨ez, h⟩ := aZ_inv h2
  subst ez
  subst e2
  subst e1
  exact xmet (M := M) (as := [va_rf a0, .int a1]) (lo := [some (va_rf a0), some (.int a1)]) 96 xq96 xm96 (by rw [xargs_rf, xargs_i, xargs_nil]; exact ⟨rfl, ⟨rfl, trivial⟩⟩) (by rw [xargs_rf, xargs_i, xargs_nil]; exact Nat.le_of_ble_eq_true rfl) (fun S G K => x_weak (by exact ⟨rfl, ⟨rfl, trivial⟩⟩) (k96 hs a0 a1 M)) h hS
set_option maxRecDepth 100000 in
def c97_28 (rec : Nat → List Value → Mem → XA) (a0 : Option Nat) (a2 : Int32) (j83 : Int32 × Mem → XA) : (Int32 × Int32 × Int32 × Mem) → ((Int32 × Int32 × Int32 × Mem) → XA) → XA := fun s10 j28 =>
  if ((3000 : Int32)) ≤ s10.2.2.1 then (
    j83 (s10.1, s10.2.2.2)) else (
    if s10.2.1 = 0 then (
      j83 (s10.1, s10.2.2.2)) else (
      vC (7, 20) s10.2.2.2 a0 <|
      cV (rec 99 [va_rf a0, .int ((0 : Int32)), .int (a2 + ((1 : Int32)))] s10.2.2.2) fun M11 =>
      lt (s10.1 + (1 : Int32)) fun (x12 : Int32) =>
      gtI (7, 20) M11 a0 13 fun x13 =>
      jn (fun (s14 : Int32) =>
        jn (fun (s15 : Mem) =>
          lt (s10.2.2.1 + (1 : Int32)) fun (x16 : Int32) =>
          j28 (x12, s14, x16, s15)) fun j77 =>
        if s14 = 0 then (
          j77 M11) else (
          vC (7, 20) M11 a0 <|
          cV (rec 63 [va_rf a0] M11) fun M17 =>
          j77 M17)) fun j66 =>
      if x13 = ((44 : Int32)) then (
        j66 ((1 : Int32))) else (
        j66 ((0 : Int32)))))
set_option maxRecDepth 100000 in
def c97 (rec : Nat → List Value → Mem → XA) (a0 : Option Nat) (a1 : Int32) (a2 : Int32) (M0 : Mem) : XA :=
  vC (7, 20) M0 a0 <|
  cV (rec 69 [va_rf a0, .int ((40 : Int32)), .int a2] M0) fun M1 =>
  gtI (7, 20) M1 a0 13 fun x2 =>
  jn (fun (s3 : Int32) =>
    jn (fun (s4 : Int32 × Mem) =>
      vC (7, 20) s4.2 a0 <|
      cV (rec 64 [va_rf a0, .int ((41 : Int32))] s4.2) fun M5 =>
      gtP (7, 20) M5 a0 17 fun x6 =>
      alP 113 M5 x6 ((2 : Int32)) fun x7 =>
      asI 100 M5 x7 a1 s4.1 fun M8 =>
      vC (7, 20) M8 a0 <|
      cV (rec 105 [va_rf a0, .int a1, .int ((4 : Int32)), .int ((7 : Int32))] M8) fun M9 =>
      some (.null, M9)) fun j83 =>
    lp (c97_28 rec a0 a2 j83) 4294967296 ((0 : Int32), s3, (0 : Int32), M1)) fun j23 =>
  if x2 = ((41 : Int32)) then (
    j23 ((0 : Int32))) else (
    j23 ((1 : Int32)))
def b97 (rec : Nat → List Value → Mem → XA) (as : List Value) (M0 : Mem) : XA := aR as fun a0 as => aI as fun a1 as => aI as fun a2 as => aZ as (c97 rec a0 a1 a2 M0)
set_option maxRecDepth 100000 in
set_option maxHeartbeats 4000000 in
theorem k97 {S : XS} {G : XG} {K : Nat × Nat} {l : Launch} {d : Nat} {rec : Nat → List Value → Mem → XA} (hs : XSnd l xmt rec d) (a0 : Option Nat) (a1 : Int32) (a2 : Int32) (M0 : Mem) : Xe S G K l (yX6_readCall, cX6_readCall, 6, none) d 0 [some (va_rf a0), some (.int a1), some (.int a2), none, none, none] [] M0 (c97 rec a0 a1 a2 M0) := by
  unfold c97
  refine x_aload_n dX6_readCall_0 rfl ?_
  refine x_bipush (v := 40) dX6_readCall_1 (by decide) ?_
  refine x_iload_n dX6_readCall_3 rfl ?_
  refine cmX6_259 rfl hs (Nat.le_of_ble_eq_true rfl) dX6_readCall_4 (fun M1 => ?_)
  refine x_iconst (v := 0) dX6_readCall_7 (by decide) ?_
  refine x_istore_n (lo' := [some (va_rf a0), some (.int a1), some (.int a2), some (.int ((0 : Int32))), none, none]) dX6_readCall_8 (by decide) rfl rfl ?_
  refine x_aload_n dX6_readCall_9 rfl ?_
  refine gfX6_81 rfl dX6_readCall_10 (fun x2 => ?_)
  refine x_bipush (v := 41) dX6_readCall_13 (by decide) ?_
  refine x_jn (σ := Int32) 23 (fun s3 => [some (va_rf a0), some (.int a1), some (.int a2), some (.int ((0 : Int32))), none, none]) (fun s3 => [.int s3]) (fun s3 => M1) (fun s3 => ?_) (fun j23 hj23 => ?_)
  · refine x_istore (lo' := [some (va_rf a0), some (.int a1), some (.int a2), some (.int ((0 : Int32))), some (.int s3), none]) dX6_readCall_23 (by decide) rfl rfl ?_
    refine x_iconst (v := 0) dX6_readCall_25 (by decide) ?_
    refine x_istore (lo' := [some (va_rf a0), some (.int a1), some (.int a2), some (.int ((0 : Int32))), some (.int s3), some (.int ((0 : Int32)))]) dX6_readCall_26 (by decide) rfl rfl ?_
    refine x_jn (σ := Int32 × Mem) 83 (fun s4 => [some (va_rf a0), some (.int a1), none, some (.int s4.1), none, none]) (fun s4 => []) (fun s4 => s4.2) (fun s4 => ?_) (fun j83 hj83 => ?_)
    · refine x_aload_n dX6_readCall_83 rfl ?_
      refine x_bipush (v := 41) dX6_readCall_84 (by decide) ?_
      refine cmX6_90 rfl hs (Nat.le_of_ble_eq_true rfl) dX6_readCall_86 (fun M5 => ?_)
      refine x_aload_n dX6_readCall_89 rfl ?_
      refine gfX6_38 rfl dX6_readCall_90 (fun x6 => ?_)
      refine x_iconst (v := 2) dX6_readCall_93 (by decide) ?_
      refine x_aldg (t := 113) (tn := 8) (by decide) (by decide) rfl rfl dX6_readCall_94 (fun x7 => ?_)
      refine x_iload_n dX6_readCall_95 rfl ?_
      refine x_iload_n dX6_readCall_96 rfl ?_
      refine x_iast dX6_readCall_97 (fun M8 => ?_)
      refine x_aload_n dX6_readCall_98 rfl ?_
      refine x_iload_n dX6_readCall_99 rfl ?_
      refine x_iconst (v := 4) dX6_readCall_100 (by decide) ?_
      refine x_bipush (v := 7) dX6_readCall_101 (by decide) ?_
      refine cmX6_298 rfl hs (Nat.le_of_ble_eq_true rfl) dX6_readCall_103 (fun M9 => ?_)
      exact x_vret rfl dX6_readCall_106
    refine x_weak (by exact ⟨rfl, ⟨rfl, ⟨rfl, ⟨rfl, ⟨rfl, ⟨rfl, trivial⟩⟩⟩⟩⟩⟩) (x_lp (σ := Int32 × Int32 × Int32 × Mem) 28 (fun s10 => [some (va_rf a0), some (.int a1), some (.int a2), some (.int s10.1), some (.int s10.2.1), some (.int s10.2.2.1)]) (fun s10 => []) (fun s10 => s10.2.2.2) (fun s10 j28 hj28 => ?_) 4294967296 ((0 : Int32), s3, (0 : Int32), M1))
    · refine x_iload dX6_readCall_28 rfl ?_
      refine x_sipush (v := 3000) dX6_readCall_30 (by decide) ?_
      refine x_icmp_ge (tgt := 83) dX6_readCall_33 (by decide) (fun _ => ?_) (fun _ => ?_)
      · exact x_weak (by exact ⟨rfl, ⟨rfl, ⟨rfl, trivial⟩⟩⟩) (hj83 (s10.1, s10.2.2.2))
      · refine x_iload dX6_readCall_36 rfl ?_
        refine x_if_eq (tgt := 83) dX6_readCall_38 (by decide) (fun _ => ?_) (fun _ => ?_)
        · exact x_weak (by exact ⟨rfl, ⟨rfl, ⟨rfl, trivial⟩⟩⟩) (hj83 (s10.1, s10.2.2.2))
        · refine x_aload_n dX6_readCall_41 rfl ?_
          refine x_iconst (v := 0) dX6_readCall_42 (by decide) ?_
          refine x_iload_n dX6_readCall_43 rfl ?_
          refine x_iconst (v := 1) dX6_readCall_44 (by decide) ?_
          refine x_iadd dX6_readCall_45 ?_
          refine cmX6_286 rfl hs (Nat.le_of_ble_eq_true rfl) dX6_readCall_46 (fun M11 => ?_)
          refine x_iincN (v := 1) (lo' := fun x12 => [some (va_rf a0), some (.int a1), some (.int a2), some (.int x12), some (.int s10.2.1), some (.int s10.2.2.1)]) (by decide) dX6_readCall_49 rfl (by decide) rfl (fun _ => rfl) (fun x12 => ?_)
          refine x_aload_n dX6_readCall_52 rfl ?_
          refine gfX6_81 rfl dX6_readCall_53 (fun x13 => ?_)
          refine x_bipush (v := 44) dX6_readCall_56 (by decide) ?_
          refine x_jn (σ := Int32) 66 (fun s14 => [some (va_rf a0), some (.int a1), some (.int a2), some (.int x12), none, some (.int s10.2.2.1)]) (fun s14 => [.int s14]) (fun s14 => M11) (fun s14 => ?_) (fun j66 hj66 => ?_)
          · refine x_istore (lo' := [some (va_rf a0), some (.int a1), some (.int a2), some (.int x12), some (.int s14), some (.int s10.2.2.1)]) dX6_readCall_66 (by decide) rfl rfl ?_
            refine x_iload dX6_readCall_68 rfl ?_
            refine x_jn (σ := Mem) 77 (fun s15 => [some (va_rf a0), some (.int a1), some (.int a2), some (.int x12), some (.int s14), some (.int s10.2.2.1)]) (fun s15 => []) (fun s15 => s15) (fun s15 => ?_) (fun j77 hj77 => ?_)
            · refine x_iincN (v := 1) (lo' := fun x16 => [some (va_rf a0), some (.int a1), some (.int a2), some (.int x12), some (.int s14), some (.int x16)]) (by decide) dX6_readCall_77 rfl (by decide) rfl (fun _ => rfl) (fun x16 => ?_)
              refine x_goto (tgt := 28) dX6_readCall_80 (by decide) ?_
              exact x_weak (by exact ⟨rfl, ⟨rfl, ⟨rfl, ⟨rfl, ⟨rfl, ⟨rfl, trivial⟩⟩⟩⟩⟩⟩) (hj28 (x12, s14, x16, s15))
            refine x_if_eq (tgt := 77) dX6_readCall_70 (by decide) (fun _ => ?_) (fun _ => ?_)
            · exact x_weak (by exact ⟨rfl, ⟨rfl, ⟨rfl, ⟨rfl, ⟨rfl, ⟨rfl, trivial⟩⟩⟩⟩⟩⟩) (hj77 M11)
            · refine x_aload_n dX6_readCall_73 rfl ?_
              refine cmX6_121 rfl hs (Nat.le_of_ble_eq_true rfl) dX6_readCall_74 (fun M17 => ?_)
              exact x_weak (by exact ⟨rfl, ⟨rfl, ⟨rfl, ⟨rfl, ⟨rfl, ⟨rfl, trivial⟩⟩⟩⟩⟩⟩) (hj77 M17)
          refine x_icmp_ne (tgt := 65) dX6_readCall_58 (by decide) (fun _ => ?_) (fun _ => ?_)
          · refine x_iconst (v := 1) dX6_readCall_61 (by decide) ?_
            refine x_goto (tgt := 66) dX6_readCall_62 (by decide) ?_
            exact x_weak (by exact ⟨rfl, ⟨rfl, ⟨rfl, ⟨rfl, ⟨rfl, trivial⟩⟩⟩⟩⟩) (hj66 ((1 : Int32)))
          · refine x_iconst (v := 0) dX6_readCall_65 (by decide) ?_
            exact x_weak (by exact ⟨rfl, ⟨rfl, ⟨rfl, ⟨rfl, ⟨rfl, trivial⟩⟩⟩⟩⟩) (hj66 ((0 : Int32)))
  refine x_icmp_eq (tgt := 22) dX6_readCall_15 (by decide) (fun _ => ?_) (fun _ => ?_)
  · refine x_iconst (v := 0) dX6_readCall_22 (by decide) ?_
    exact x_weak (by exact ⟨rfl, ⟨rfl, ⟨rfl, ⟨rfl, trivial⟩⟩⟩⟩) (hj23 ((0 : Int32)))
  · refine x_iconst (v := 1) dX6_readCall_18 (by decide) ?_
    refine x_goto (tgt := 23) dX6_readCall_19 (by decide) ?_
    exact x_weak (by exact ⟨rfl, ⟨rfl, ⟨rfl, ⟨rfl, trivial⟩⟩⟩⟩) (hj23 ((1 : Int32)))
theorem s97 {l : Launch} {d : Nat} {rec : Nat → List Value → Mem → XA} (hS : Nonempty XS) (hs : XSnd l xmt rec d) : Snd1 l 97 (b97 rec) d := by
  intro as M r M' h0
  unfold b97 at h0
  obtain ⟨a0, l1, e1, h1⟩ := aR_inv h0
  obtain ⟨a1, l2, e2, h2⟩ := aI_inv h1
  obtain ⟨a2, l3, e3, h3⟩ := aI_inv h2
  obtain ⟨ez, h⟩ := aZ_inv h3
  subst ez
  subst e3
  subst e2
  subst e1
  exact xmet (M := M) (as := [va_rf a0, .int a1, .int a2]) (lo := [some (va_rf a0), some (.int a1), some (.int a2)]) 97 xq97 xm97 (by rw [xargs_rf, xargs_i, xargs_i, xargs_nil]; exact ⟨rfl, ⟨rfl, ⟨rfl, trivial⟩⟩⟩) (by rw [xargs_rf, xargs_i, xargs_i, xargs_nil]; exact Nat.le_of_ble_eq_true rfl) (fun S G K => x_weak (by exact ⟨rfl, ⟨rfl, ⟨rfl, trivial⟩⟩⟩) (k97 hs a0 a1 a2 M)) h hS
set_option maxRecDepth 100000 in
def c98 (rec : Nat → List Value → Mem → XA) (a0 : Option Nat) (a1 : Int32) (M0 : Mem) : XA :=
  vC (7, 20) M0 a0 <|
  cV (rec 69 [va_rf a0, .int ((91 : Int32)), .int a1] M0) fun M1 =>
  vC (7, 20) M1 a0 <|
  cV (rec 99 [va_rf a0, .int ((0 : Int32)), .int (a1 + ((1 : Int32)))] M1) fun M2 =>
  vC (7, 20) M2 a0 <|
  cV (rec 64 [va_rf a0, .int ((93 : Int32))] M2) fun M3 =>
  some (.null, M3)
def b98 (rec : Nat → List Value → Mem → XA) (as : List Value) (M0 : Mem) : XA := aR as fun a0 as => aI as fun a1 as => aZ as (c98 rec a0 a1 M0)
set_option maxRecDepth 100000 in
set_option maxHeartbeats 4000000 in
theorem k98 {S : XS} {G : XG} {K : Nat × Nat} {l : Launch} {d : Nat} {rec : Nat → List Value → Mem → XA} (hs : XSnd l xmt rec d) (a0 : Option Nat) (a1 : Int32) (M0 : Mem) : Xe S G K l (yX6_readIndex, cX6_readIndex, 2, none) d 0 [some (va_rf a0), some (.int a1)] [] M0 (c98 rec a0 a1 M0) := by
  unfold c98
  refine x_aload_n dX6_readIndex_0 rfl ?_
  refine x_bipush (v := 91) dX6_readIndex_1 (by decide) ?_
  refine x_iload_n dX6_readIndex_3 rfl ?_
  refine cmX6_259 rfl hs (Nat.le_of_ble_eq_true rfl) dX6_readIndex_4 (fun M1 => ?_)
  refine x_aload_n dX6_readIndex_7 rfl ?_
  refine x_iconst (v := 0) dX6_readIndex_8 (by decide) ?_
  refine x_iload_n dX6_readIndex_9 rfl ?_
  refine x_iconst (v := 1) dX6_readIndex_10 (by decide) ?_
  refine x_iadd dX6_readIndex_11 ?_
  refine cmX6_286 rfl hs (Nat.le_of_ble_eq_true rfl) dX6_readIndex_12 (fun M2 => ?_)
  refine x_aload_n dX6_readIndex_15 rfl ?_
  refine x_bipush (v := 93) dX6_readIndex_16 (by decide) ?_
  refine cmX6_90 rfl hs (Nat.le_of_ble_eq_true rfl) dX6_readIndex_18 (fun M3 => ?_)
  exact x_vret rfl dX6_readIndex_21
theorem s98 {l : Launch} {d : Nat} {rec : Nat → List Value → Mem → XA} (hS : Nonempty XS) (hs : XSnd l xmt rec d) : Snd1 l 98 (b98 rec) d := by
  intro as M r M' h0
  unfold b98 at h0
  obtain ⟨a0, l1, e1, h1⟩ := aR_inv h0
  obtain ⟨a1, l2, e2, h2⟩ := aI_inv h1
  obtain ⟨ez, h⟩ := aZ_inv h2
  subst ez
  subst e2
  subst e1
  exact xmet (M := M) (as := [va_rf a0, .int a1]) (lo := [some (va_rf a0), some (.int a1)]) 98 xq98 xm98 (by rw [xargs_rf, xargs_i, xargs_nil]; exact ⟨rfl, ⟨rfl, trivial⟩⟩) (by rw [xargs_rf, xargs_i, xargs_nil]; exact Nat.le_of_ble_eq_true rfl) (fun S G K => x_weak (by exact ⟨rfl, ⟨rfl, trivial⟩⟩) (k98 hs a0 a1 M)) h hS
set_option maxRecDepth 100000 in
def c99_61 (rec : Nat → List Value → Mem → XA) (a0 : Option Nat) (a1 : Int32) (a2 : Int32) (j113 : Mem → XA) (j120 : Mem → XA) : (Int32 × Mem) → ((Int32 × Mem) → XA) → XA := fun s5 j61 =>
  if ((3000 : Int32)) ≤ s5.1 then (
    j120 s5.2) else (
    gtI (7, 20) s5.2 a0 13 fun x6 =>
    cI (rec 102 [.int x6] s5.2) fun x8 M7 =>
    if x8 = a1 then (
      gtI (7, 20) M7 a0 13 fun x9 =>
      cI (rec 103 [.int x9] M7) fun x11 M10 =>
      vC (7, 20) M10 a0 <|
      cV (rec 63 [va_rf a0] M10) fun M12 =>
      vC (7, 20) M12 a0 <|
      cV (rec 99 [va_rf a0, .int (a1 + ((1 : Int32))), .int a2] M12) fun M13 =>
      vC (7, 20) M13 a0 <|
      cI (rec 87 [va_rf a0, .int x11, .int ((0 : Int32))] M13) fun x15 M14 =>
      if a1 = ((3 : Int32)) then (
        j113 M14) else (
        lt (s5.1 + (1 : Int32)) fun (x16 : Int32) =>
        j61 (x16, M14))) else (
      j120 M7))
set_option maxRecDepth 100000 in
def c99 (rec : Nat → List Value → Mem → XA) (a0 : Option Nat) (a1 : Int32) (a2 : Int32) (M0 : Mem) : XA :=
  if a1 ≤ ((5 : Int32)) then (
    jn (fun (s1 : Unit) =>
      vC (7, 20) M0 a0 <|
      cV (rec 99 [va_rf a0, .int (a1 + ((1 : Int32))), .int a2] M0) fun M2 =>
      jn (fun (s3 : Mem) =>
        some (.null, s3)) fun j113 =>
      jn (fun (s4 : Mem) =>
        some (.null, s4)) fun j120 =>
      lp (c99_61 rec a0 a1 a2 j113 j120) 4294967296 ((0 : Int32), M2)) fun j51 =>
    if a1 = ((2 : Int32)) then (
      gtI (7, 20) M0 a0 13 fun x17 =>
      if x17 = ((227 : Int32)) then (
        vC (7, 20) M0 a0 <|
        cV (rec 69 [va_rf a0, .int ((227 : Int32)), .int a2] M0) fun M18 =>
        vC (7, 20) M18 a0 <|
        cV (rec 99 [va_rf a0, .int ((2 : Int32)), .int (a2 + ((1 : Int32)))] M18) fun M19 =>
        vC (7, 20) M19 a0 <|
        cI (rec 87 [va_rf a0, .int ((21 : Int32)), .int ((0 : Int32))] M19) fun x21 M20 =>
        some (.null, M20)) else (
        j51 ())) else (
      j51 ())) else (
    vC (7, 20) M0 a0 <|
    cV (rec 100 [va_rf a0, .int a2] M0) fun M22 =>
    some (.null, M22))
def b99 (rec : Nat → List Value → Mem → XA) (as : List Value) (M0 : Mem) : XA := aR as fun a0 as => aI as fun a1 as => aI as fun a2 as => aZ as (c99 rec a0 a1 a2 M0)
set_option maxRecDepth 100000 in
set_option maxHeartbeats 4000000 in
theorem k99 {S : XS} {G : XG} {K : Nat × Nat} {l : Launch} {d : Nat} {rec : Nat → List Value → Mem → XA} (hs : XSnd l xmt rec d) (a0 : Option Nat) (a1 : Int32) (a2 : Int32) (M0 : Mem) : Xe S G K l (yX6_expression, cX6_expression, 5, none) d 0 [some (va_rf a0), some (.int a1), some (.int a2), none, none] [] M0 (c99 rec a0 a1 a2 M0) := by
  unfold c99
  refine x_iload_n dX6_expression_0 rfl ?_
  refine x_iconst (v := 5) dX6_expression_1 (by decide) ?_
  refine x_icmp_le (tgt := 11) dX6_expression_2 (by decide) (fun _ => ?_) (fun _ => ?_)
  · refine x_iload_n dX6_expression_11 rfl ?_
    refine x_iconst (v := 2) dX6_expression_12 (by decide) ?_
    refine x_jn (σ := Unit) 51 (fun s1 => [some (va_rf a0), some (.int a1), some (.int a2), none, none]) (fun s1 => []) (fun s1 => M0) (fun s1 => ?_) (fun j51 hj51 => ?_)
    · refine x_aload_n dX6_expression_51 rfl ?_
      refine x_iload_n dX6_expression_52 rfl ?_
      refine x_iconst (v := 1) dX6_expression_53 (by decide) ?_
      refine x_iadd dX6_expression_54 ?_
      refine x_iload_n dX6_expression_55 rfl ?_
      refine cmX6_286 rfl hs (Nat.le_of_ble_eq_true rfl) dX6_expression_56 (fun M2 => ?_)
      refine x_iconst (v := 0) dX6_expression_59 (by decide) ?_
      refine x_istore_n (lo' := [some (va_rf a0), some (.int a1), some (.int a2), some (.int ((0 : Int32))), none]) dX6_expression_60 (by decide) rfl rfl ?_
      refine x_jn (σ := Mem) 113 (fun s3 => [none, none, none, none, none]) (fun s3 => []) (fun s3 => s3) (fun s3 => ?_) (fun j113 hj113 => ?_)
      · exact x_vret rfl dX6_expression_113
      refine x_jn (σ := Mem) 120 (fun s4 => [none, none, none, none, none]) (fun s4 => []) (fun s4 => s4) (fun s4 => ?_) (fun j120 hj120 => ?_)
      · exact x_vret rfl dX6_expression_120
      refine x_weak (by exact ⟨rfl, ⟨rfl, ⟨rfl, ⟨rfl, trivial⟩⟩⟩⟩) (x_lp (σ := Int32 × Mem) 61 (fun s5 => [some (va_rf a0), some (.int a1), some (.int a2), some (.int s5.1), none]) (fun s5 => []) (fun s5 => s5.2) (fun s5 j61 hj61 => ?_) 4294967296 ((0 : Int32), M2))
      · refine x_iload_n dX6_expression_61 rfl ?_
        refine x_sipush (v := 3000) dX6_expression_62 (by decide) ?_
        refine x_icmp_ge (tgt := 120) dX6_expression_65 (by decide) (fun _ => ?_) (fun _ => ?_)
        · exact x_weak (by exact trivial) (hj120 s5.2)
        · refine x_aload_n dX6_expression_68 rfl ?_
          refine gfX6_81 rfl dX6_expression_69 (fun x6 => ?_)
          refine cmX6_309 rfl hs (Nat.le_of_ble_eq_true rfl) dX6_expression_72 (fun x8 M7 => ?_)
          refine x_iload_n dX6_expression_75 rfl ?_
          refine x_icmp_ne (tgt := 120) dX6_expression_76 (by decide) (fun _ => ?_) (fun _ => ?_)
          · refine x_aload_n dX6_expression_79 rfl ?_
            refine gfX6_81 rfl dX6_expression_80 (fun x9 => ?_)
            refine cmX6_313 rfl hs (Nat.le_of_ble_eq_true rfl) dX6_expression_83 (fun x11 M10 => ?_)
            refine x_istore (lo' := [some (va_rf a0), some (.int a1), some (.int a2), some (.int s5.1), some (.int x11)]) dX6_expression_86 (by decide) rfl rfl ?_
            refine x_aload_n dX6_expression_88 rfl ?_
            refine cmX6_121 rfl hs (Nat.le_of_ble_eq_true rfl) dX6_expression_89 (fun M12 => ?_)
            refine x_aload_n dX6_expression_92 rfl ?_
            refine x_iload_n dX6_expression_93 rfl ?_
            refine x_iconst (v := 1) dX6_expression_94 (by decide) ?_
            refine x_iadd dX6_expression_95 ?_
            refine x_iload_n dX6_expression_96 rfl ?_
            refine cmX6_286 rfl hs (Nat.le_of_ble_eq_true rfl) dX6_expression_97 (fun M13 => ?_)
            refine x_aload_n dX6_expression_100 rfl ?_
            refine x_iload dX6_expression_101 rfl ?_
            refine x_iconst (v := 0) dX6_expression_103 (by decide) ?_
            refine cmX6_256 rfl hs (Nat.le_of_ble_eq_true rfl) dX6_expression_104 (fun x15 M14 => ?_)
            refine x_pop dX6_expression_107 (xc1_i _) ?_
            refine x_iload_n dX6_expression_108 rfl ?_
            refine x_iconst (v := 3) dX6_expression_109 (by decide) ?_
            refine x_icmp_ne (tgt := 114) dX6_expression_110 (by decide) (fun _ => ?_) (fun _ => ?_)
            · exact x_weak (by exact trivial) (hj113 M14)
            · refine x_iincN (v := 1) (lo' := fun x16 => [some (va_rf a0), some (.int a1), some (.int a2), some (.int x16), some (.int x11)]) (by decide) dX6_expression_114 rfl (by decide) rfl (fun _ => rfl) (fun x16 => ?_)
              refine x_goto (tgt := 61) dX6_expression_117 (by decide) ?_
              exact x_weak (by exact ⟨rfl, ⟨rfl, ⟨rfl, ⟨rfl, trivial⟩⟩⟩⟩) (hj61 (x16, M14))
          · exact x_weak (by exact trivial) (hj120 M7)
    refine x_icmp_ne (tgt := 51) dX6_expression_13 (by decide) (fun _ => ?_) (fun _ => ?_)
    · refine x_aload_n dX6_expression_16 rfl ?_
      refine gfX6_81 rfl dX6_expression_17 (fun x17 => ?_)
      refine x_sipush (v := 227) dX6_expression_20 (by decide) ?_
      refine x_icmp_ne (tgt := 51) dX6_expression_23 (by decide) (fun _ => ?_) (fun _ => ?_)
      · refine x_aload_n dX6_expression_26 rfl ?_
        refine x_sipush (v := 227) dX6_expression_27 (by decide) ?_
        refine x_iload_n dX6_expression_30 rfl ?_
        refine cmX6_259 rfl hs (Nat.le_of_ble_eq_true rfl) dX6_expression_31 (fun M18 => ?_)
        refine x_aload_n dX6_expression_34 rfl ?_
        refine x_iconst (v := 2) dX6_expression_35 (by decide) ?_
        refine x_iload_n dX6_expression_36 rfl ?_
        refine x_iconst (v := 1) dX6_expression_37 (by decide) ?_
        refine x_iadd dX6_expression_38 ?_
        refine cmX6_286 rfl hs (Nat.le_of_ble_eq_true rfl) dX6_expression_39 (fun M19 => ?_)
        refine x_aload_n dX6_expression_42 rfl ?_
        refine x_bipush (v := 21) dX6_expression_43 (by decide) ?_
        refine x_iconst (v := 0) dX6_expression_45 (by decide) ?_
        refine cmX6_256 rfl hs (Nat.le_of_ble_eq_true rfl) dX6_expression_46 (fun x21 M20 => ?_)
        refine x_pop dX6_expression_49 (xc1_i _) ?_
        exact x_vret rfl dX6_expression_50
      · exact x_weak (by exact ⟨rfl, ⟨rfl, ⟨rfl, trivial⟩⟩⟩) (hj51 ())
    · exact x_weak (by exact ⟨rfl, ⟨rfl, ⟨rfl, trivial⟩⟩⟩) (hj51 ())
  · refine x_aload_n dX6_expression_5 rfl ?_
    refine x_iload_n dX6_expression_6 rfl ?_
    refine cmX6_306 rfl hs (Nat.le_of_ble_eq_true rfl) dX6_expression_7 (fun M22 => ?_)
    exact x_vret rfl dX6_expression_10
theorem s99 {l : Launch} {d : Nat} {rec : Nat → List Value → Mem → XA} (hS : Nonempty XS) (hs : XSnd l xmt rec d) : Snd1 l 99 (b99 rec) d := by
  intro as M r M' h0
  unfold b99 at h0
  obtain ⟨a0, l1, e1, h1⟩ := aR_inv h0
  obtain ⟨a1, l2, e2, h2⟩ := aI_inv h1
  obtain ⟨a2, l3, e3, h3⟩ := aI_inv h2
  obtain ⟨ez, h⟩ := aZ_inv h3
  subst ez
  subst e3
  subst e2
  subst e1
  exact xmet (M := M) (as := [va_rf a0, .int a1, .int a2]) (lo := [some (va_rf a0), some (.int a1), some (.int a2)]) 99 xq99 xm99 (by rw [xargs_rf, xargs_i, xargs_i, xargs_nil]; exact ⟨rfl, ⟨rfl, ⟨rfl, trivial⟩⟩⟩) (by rw [xargs_rf, xargs_i, xargs_i, xargs_nil]; exact Nat.le_of_ble_eq_true rfl) (fun S G K => x_weak (by exact ⟨rfl, ⟨rfl, ⟨rfl, trivial⟩⟩⟩) (k99 hs a0 a1 a2 M)) h hS
set_option maxRecDepth 100000 in
def c100 (rec : Nat → List Value → Mem → XA) (a0 : Option Nat) (a1 : Int32) (M0 : Mem) : XA :=
  gtI (7, 20) M0 a0 13 fun x1 =>
  jn (fun (s2 : Mem) =>
    some (.null, s2)) fun j162 =>
  swI x1 [
   ((3 : Int32), (
      vC (7, 20) M0 a0 <|
      cV (rec 101 [va_rf a0, .int a1] M0) fun M3 =>
      j162 M3)),
   ((4 : Int32), (
      vC (7, 20) M0 a0 <|
      cL (rec 65 [va_rf a0] M0) fun x5 M4 =>
      vC (7, 20) M4 a0 <|
      cI (rec 87 [va_rf a0, .int ((0 : Int32)), .int x5.toInt32] M4) fun x7 M6 =>
      vC (7, 20) M6 a0 <|
      cV (rec 63 [va_rf a0] M6) fun M8 =>
      j162 M8)),
   ((40 : Int32), (
      vC (7, 20) M0 a0 <|
      cV (rec 69 [va_rf a0, .int ((40 : Int32)), .int a1] M0) fun M9 =>
      vC (7, 20) M9 a0 <|
      cV (rec 99 [va_rf a0, .int ((0 : Int32)), .int (a1 + ((1 : Int32)))] M9) fun M10 =>
      vC (7, 20) M10 a0 <|
      cV (rec 64 [va_rf a0, .int ((41 : Int32))] M10) fun M11 =>
      j162 M11)),
   ((45 : Int32), (
      vC (7, 20) M0 a0 <|
      cV (rec 69 [va_rf a0, .int ((45 : Int32)), .int a1] M0) fun M12 =>
      vC (7, 20) M12 a0 <|
      cV (rec 100 [va_rf a0, .int (a1 + ((1 : Int32)))] M12) fun M13 =>
      vC (7, 20) M13 a0 <|
      cI (rec 87 [va_rf a0, .int ((22 : Int32)), .int ((0 : Int32))] M13) fun x15 M14 =>
      j162 M14)),
   ((224 : Int32), (
      vC (7, 20) M0 a0 <|
      cV (rec 69 [va_rf a0, .int ((224 : Int32)), .int a1] M0) fun M16 =>
      vC (7, 20) M16 a0 <|
      cV (rec 100 [va_rf a0, .int (a1 + ((1 : Int32)))] M16) fun M17 =>
      vC (7, 20) M17 a0 <|
      cI (rec 87 [va_rf a0, .int ((23 : Int32)), .int ((0 : Int32))] M17) fun x19 M18 =>
      j162 M18))] (
    vC (7, 20) M0 a0 <|
    cV (rec 62 [va_rf a0, .int ((2 : Int32))] M0) fun M20 =>
    j162 M20)
def b100 (rec : Nat → List Value → Mem → XA) (as : List Value) (M0 : Mem) : XA := aR as fun a0 as => aI as fun a1 as => aZ as (c100 rec a0 a1 M0)
set_option maxRecDepth 100000 in
set_option maxHeartbeats 4000000 in
theorem k100 {S : XS} {G : XG} {K : Nat × Nat} {l : Launch} {d : Nat} {rec : Nat → List Value → Mem → XA} (hs : XSnd l xmt rec d) (a0 : Option Nat) (a1 : Int32) (M0 : Mem) : Xe S G K l (yX6_factor, cX6_factor, 2, none) d 0 [some (va_rf a0), some (.int a1)] [] M0 (c100 rec a0 a1 M0) := by
  unfold c100
  refine x_aload_n dX6_factor_0 rfl ?_
  refine gfX6_81 rfl dX6_factor_1 (fun x1 => ?_)
  refine x_jn (σ := Mem) 162 (fun s2 => [none, none]) (fun s2 => []) (fun s2 => s2) (fun s2 => ?_) (fun j162 hj162 => ?_)
  · exact x_vret rfl dX6_factor_162
  refine x_lookup (tgt := 157) dX6_factor_4 [(3, 149), (4, 56), (40, 125), (45, 74), (224, 99)] (by decide +kernel) (by decide +kernel) (by decide) ?_ ?_
  · refine swG_d (by decide) ?_ (swG_d (by decide) ?_ (swG_d (by decide) ?_ (swG_d (by decide) ?_ (swG_d (by decide) ?_ (trivial)))))
    · refine x_aload_n dX6_factor_149 rfl ?_
      refine x_iload_n dX6_factor_150 rfl ?_
      refine cmX6_316 rfl hs (Nat.le_of_ble_eq_true rfl) dX6_factor_151 (fun M3 => ?_)
      refine x_goto (tgt := 162) dX6_factor_154 (by decide) ?_
      exact x_weak (by exact trivial) (hj162 M3)
    · refine x_aload_n dX6_factor_56 rfl ?_
      refine x_iconst (v := 0) dX6_factor_57 (by decide) ?_
      refine x_aload_n dX6_factor_58 rfl ?_
      refine cmX6_127 rfl hs (Nat.le_of_ble_eq_true rfl) dX6_factor_59 (fun x5 M4 => ?_)
      refine x_l2i dX6_factor_62 ?_
      refine cmX6_256 rfl hs (Nat.le_of_ble_eq_true rfl) dX6_factor_63 (fun x7 M6 => ?_)
      refine x_pop dX6_factor_66 (xc1_i _) ?_
      refine x_aload_n dX6_factor_67 rfl ?_
      refine cmX6_121 rfl hs (Nat.le_of_ble_eq_true rfl) dX6_factor_68 (fun M8 => ?_)
      refine x_goto (tgt := 162) dX6_factor_71 (by decide) ?_
      exact x_weak (by exact trivial) (hj162 M8)
    · refine x_aload_n dX6_factor_125 rfl ?_
      refine x_bipush (v := 40) dX6_factor_126 (by decide) ?_
      refine x_iload_n dX6_factor_128 rfl ?_
      refine cmX6_259 rfl hs (Nat.le_of_ble_eq_true rfl) dX6_factor_129 (fun M9 => ?_)
      refine x_aload_n dX6_factor_132 rfl ?_
      refine x_iconst (v := 0) dX6_factor_133 (by decide) ?_
      refine x_iload_n dX6_factor_134 rfl ?_
      refine x_iconst (v := 1) dX6_factor_135 (by decide) ?_
      refine x_iadd dX6_factor_136 ?_
      refine cmX6_286 rfl hs (Nat.le_of_ble_eq_true rfl) dX6_factor_137 (fun M10 => ?_)
      refine x_aload_n dX6_factor_140 rfl ?_
      refine x_bipush (v := 41) dX6_factor_141 (by decide) ?_
      refine cmX6_90 rfl hs (Nat.le_of_ble_eq_true rfl) dX6_factor_143 (fun M11 => ?_)
      refine x_goto (tgt := 162) dX6_factor_146 (by decide) ?_
      exact x_weak (by exact trivial) (hj162 M11)
    · refine x_aload_n dX6_factor_74 rfl ?_
      refine x_bipush (v := 45) dX6_factor_75 (by decide) ?_
      refine x_iload_n dX6_factor_77 rfl ?_
      refine cmX6_259 rfl hs (Nat.le_of_ble_eq_true rfl) dX6_factor_78 (fun M12 => ?_)
      refine x_aload_n dX6_factor_81 rfl ?_
      refine x_iload_n dX6_factor_82 rfl ?_
      refine x_iconst (v := 1) dX6_factor_83 (by decide) ?_
      refine x_iadd dX6_factor_84 ?_
      refine cmX6_306 rfl hs (Nat.le_of_ble_eq_true rfl) dX6_factor_85 (fun M13 => ?_)
      refine x_aload_n dX6_factor_88 rfl ?_
      refine x_bipush (v := 22) dX6_factor_89 (by decide) ?_
      refine x_iconst (v := 0) dX6_factor_91 (by decide) ?_
      refine cmX6_256 rfl hs (Nat.le_of_ble_eq_true rfl) dX6_factor_92 (fun x15 M14 => ?_)
      refine x_pop dX6_factor_95 (xc1_i _) ?_
      refine x_goto (tgt := 162) dX6_factor_96 (by decide) ?_
      exact x_weak (by exact trivial) (hj162 M14)
    · refine x_aload_n dX6_factor_99 rfl ?_
      refine x_sipush (v := 224) dX6_factor_100 (by decide) ?_
      refine x_iload_n dX6_factor_103 rfl ?_
      refine cmX6_259 rfl hs (Nat.le_of_ble_eq_true rfl) dX6_factor_104 (fun M16 => ?_)
      refine x_aload_n dX6_factor_107 rfl ?_
      refine x_iload_n dX6_factor_108 rfl ?_
      refine x_iconst (v := 1) dX6_factor_109 (by decide) ?_
      refine x_iadd dX6_factor_110 ?_
      refine cmX6_306 rfl hs (Nat.le_of_ble_eq_true rfl) dX6_factor_111 (fun M17 => ?_)
      refine x_aload_n dX6_factor_114 rfl ?_
      refine x_bipush (v := 23) dX6_factor_115 (by decide) ?_
      refine x_iconst (v := 0) dX6_factor_117 (by decide) ?_
      refine cmX6_256 rfl hs (Nat.le_of_ble_eq_true rfl) dX6_factor_118 (fun x19 M18 => ?_)
      refine x_pop dX6_factor_121 (xc1_i _) ?_
      refine x_goto (tgt := 162) dX6_factor_122 (by decide) ?_
      exact x_weak (by exact trivial) (hj162 M18)
  · refine x_aload_n dX6_factor_157 rfl ?_
    refine x_iconst (v := 2) dX6_factor_158 (by decide) ?_
    refine cmX6_109 rfl hs (Nat.le_of_ble_eq_true rfl) dX6_factor_159 (fun M20 => ?_)
    exact x_weak (by exact trivial) (hj162 M20)
theorem s100 {l : Launch} {d : Nat} {rec : Nat → List Value → Mem → XA} (hS : Nonempty XS) (hs : XSnd l xmt rec d) : Snd1 l 100 (b100 rec) d := by
  intro as M r M' h0
  unfold b100 at h0
  obtain ⟨a0, l1, e1, h1⟩ := aR_inv h0
  obtain ⟨a1, l2, e2, h2⟩ := aI_inv h1
  obtain ⟨ez, h⟩ := aZ_inv h2
  subst ez
  subst e2
  subst e1
  exact xmet (M := M) (as := [va_rf a0, .int a1]) (lo := [some (va_rf a0), some (.int a1)]) 100 xq100 xm100 (by rw [xargs_rf, xargs_i, xargs_nil]; exact ⟨rfl, ⟨rfl, trivial⟩⟩) (by rw [xargs_rf, xargs_i, xargs_nil]; exact Nat.le_of_ble_eq_true rfl) (fun S G K => x_weak (by exact ⟨rfl, ⟨rfl, trivial⟩⟩) (k100 hs a0 a1 M)) h hS
set_option maxRecDepth 100000 in
def c101 (rec : Nat → List Value → Mem → XA) (a0 : Option Nat) (a1 : Int32) (M0 : Mem) : XA :=
  vC (7, 20) M0 a0 <|
  cI (rec 104 [va_rf a0] M0) fun x2 M1 =>
  gtI (7, 20) M1 a0 13 fun x3 =>
  jn (fun (s4 : Mem) =>
    some (.null, s4)) fun j55 =>
  if x3 = ((40 : Int32)) then (
    vC (7, 20) M1 a0 <|
    cV (rec 97 [va_rf a0, .int x2, .int a1] M1) fun M5 =>
    j55 M5) else (
    gtI (7, 20) M1 a0 13 fun x6 =>
    if x6 = ((91 : Int32)) then (
      vC (7, 20) M1 a0 <|
      cV (rec 98 [va_rf a0, .int a1] M1) fun M7 =>
      vC (7, 20) M7 a0 <|
      cV (rec 105 [va_rf a0, .int x2, .int ((3 : Int32)), .int ((5 : Int32))] M7) fun M8 =>
      j55 M8) else (
      vC (7, 20) M1 a0 <|
      cV (rec 106 [va_rf a0, .int x2, .int ((1 : Int32)), .int ((1 : Int32)), .int ((3 : Int32))] M1) fun M9 =>
      j55 M9))
def b101 (rec : Nat → List Value → Mem → XA) (as : List Value) (M0 : Mem) : XA := aR as fun a0 as => aI as fun a1 as => aZ as (c101 rec a0 a1 M0)
set_option maxRecDepth 100000 in
set_option maxHeartbeats 4000000 in
theorem k101 {S : XS} {G : XG} {K : Nat × Nat} {l : Launch} {d : Nat} {rec : Nat → List Value → Mem → XA} (hs : XSnd l xmt rec d) (a0 : Option Nat) (a1 : Int32) (M0 : Mem) : Xe S G K l (yX6_nameFactor, cX6_nameFactor, 3, none) d 0 [some (va_rf a0), some (.int a1), none] [] M0 (c101 rec a0 a1 M0) := by
  unfold c101
  refine x_aload_n dX6_nameFactor_0 rfl ?_
  refine cmX6_289 rfl hs (Nat.le_of_ble_eq_true rfl) dX6_nameFactor_1 (fun x2 M1 => ?_)
  refine x_istore_n (lo' := [some (va_rf a0), some (.int a1), some (.int x2)]) dX6_nameFactor_4 (by decide) rfl rfl ?_
  refine x_aload_n dX6_nameFactor_5 rfl ?_
  refine gfX6_81 rfl dX6_nameFactor_6 (fun x3 => ?_)
  refine x_bipush (v := 40) dX6_nameFactor_9 (by decide) ?_
  refine x_jn (σ := Mem) 55 (fun s4 => [none, none, none]) (fun s4 => []) (fun s4 => s4) (fun s4 => ?_) (fun j55 hj55 => ?_)
  · exact x_vret rfl dX6_nameFactor_55
  refine x_icmp_ne (tgt := 23) dX6_nameFactor_11 (by decide) (fun _ => ?_) (fun _ => ?_)
  · refine x_aload_n dX6_nameFactor_14 rfl ?_
    refine x_iload_n dX6_nameFactor_15 rfl ?_
    refine x_iload_n dX6_nameFactor_16 rfl ?_
    refine cmX6_292 rfl hs (Nat.le_of_ble_eq_true rfl) dX6_nameFactor_17 (fun M5 => ?_)
    refine x_goto (tgt := 55) dX6_nameFactor_20 (by decide) ?_
    exact x_weak (by exact trivial) (hj55 M5)
  · refine x_aload_n dX6_nameFactor_23 rfl ?_
    refine gfX6_81 rfl dX6_nameFactor_24 (fun x6 => ?_)
    refine x_bipush (v := 91) dX6_nameFactor_27 (by decide) ?_
    refine x_icmp_ne (tgt := 47) dX6_nameFactor_29 (by decide) (fun _ => ?_) (fun _ => ?_)
    · refine x_aload_n dX6_nameFactor_32 rfl ?_
      refine x_iload_n dX6_nameFactor_33 rfl ?_
      refine cmX6_295 rfl hs (Nat.le_of_ble_eq_true rfl) dX6_nameFactor_34 (fun M7 => ?_)
      refine x_aload_n dX6_nameFactor_37 rfl ?_
      refine x_iload_n dX6_nameFactor_38 rfl ?_
      refine x_iconst (v := 3) dX6_nameFactor_39 (by decide) ?_
      refine x_iconst (v := 5) dX6_nameFactor_40 (by decide) ?_
      refine cmX6_298 rfl hs (Nat.le_of_ble_eq_true rfl) dX6_nameFactor_41 (fun M8 => ?_)
      refine x_goto (tgt := 55) dX6_nameFactor_44 (by decide) ?_
      exact x_weak (by exact trivial) (hj55 M8)
    · refine x_aload_n dX6_nameFactor_47 rfl ?_
      refine x_iload_n dX6_nameFactor_48 rfl ?_
      refine x_iconst (v := 1) dX6_nameFactor_49 (by decide) ?_
      refine x_iconst (v := 1) dX6_nameFactor_50 (by decide) ?_
      refine x_iconst (v := 3) dX6_nameFactor_51 (by decide) ?_
      refine cmX6_302 rfl hs (Nat.le_of_ble_eq_true rfl) dX6_nameFactor_52 (fun M9 => ?_)
      exact x_weak (by exact trivial) (hj55 M9)
theorem s101 {l : Launch} {d : Nat} {rec : Nat → List Value → Mem → XA} (hS : Nonempty XS) (hs : XSnd l xmt rec d) : Snd1 l 101 (b101 rec) d := by
  intro as M r M' h0
  unfold b101 at h0
  obtain ⟨a0, l1, e1, h1⟩ := aR_inv h0
  obtain ⟨a1, l2, e2, h2⟩ := aI_inv h1
  obtain ⟨ez, h⟩ := aZ_inv h2
  subst ez
  subst e2
  subst e1
  exact xmet (M := M) (as := [va_rf a0, .int a1]) (lo := [some (va_rf a0), some (.int a1)]) 101 xq101 xm101 (by rw [xargs_rf, xargs_i, xargs_nil]; exact ⟨rfl, ⟨rfl, trivial⟩⟩) (by rw [xargs_rf, xargs_i, xargs_nil]; exact Nat.le_of_ble_eq_true rfl) (fun S G K => x_weak (by exact ⟨rfl, ⟨rfl, trivial⟩⟩) (k101 hs a0 a1 M)) h hS
set_option maxRecDepth 100000 in
def c102 (rec : Nat → List Value → Mem → XA) (a0 : Int32) (M0 : Mem) : XA :=
  swI a0 [
   ((37 : Int32), (
      some (.int ((5 : Int32)), M0))),
   ((42 : Int32), (
      some (.int ((5 : Int32)), M0))),
   ((43 : Int32), (
      some (.int ((4 : Int32)), M0))),
   ((45 : Int32), (
      some (.int ((4 : Int32)), M0))),
   ((47 : Int32), (
      some (.int ((5 : Int32)), M0))),
   ((60 : Int32), (
      some (.int ((3 : Int32)), M0))),
   ((128 : Int32), (
      some (.int ((3 : Int32)), M0))),
   ((129 : Int32), (
      some (.int ((3 : Int32)), M0))),
   ((130 : Int32), (
      some (.int ((3 : Int32)), M0))),
   ((225 : Int32), (
      some (.int ((1 : Int32)), M0))),
   ((226 : Int32), (
      some (.int ((0 : Int32)), M0)))] (
    some (.int ((-2 : Int32)), M0))
def b102 (rec : Nat → List Value → Mem → XA) (as : List Value) (M0 : Mem) : XA := aI as fun a0 as => aZ as (c102 rec a0 M0)
set_option maxRecDepth 100000 in
set_option maxHeartbeats 4000000 in
theorem k102 {S : XS} {G : XG} {K : Nat × Nat} {l : Launch} {d : Nat} {rec : Nat → List Value → Mem → XA} (hs : XSnd l xmt rec d) (a0 : Int32) (M0 : Mem) : Xe S G K l (yX6_levelOf, cX6_levelOf, 1, some .int) d 0 [some (.int a0)] [] M0 (c102 rec a0 M0) := by
  unfold c102
  refine x_iload_n dX6_levelOf_0 rfl ?_
  refine x_lookup (tgt := 110) dX6_levelOf_1 [(37, 108), (42, 108), (43, 106), (45, 106), (47, 108), (60, 104), (128, 104), (129, 104), (130, 104), (225, 102), (226, 100)] (by decide +kernel) (by decide +kernel) (by decide) ?_ ?_
  · refine swG_d (by decide) ?_ (swG_d (by decide) ?_ (swG_d (by decide) ?_ (swG_d (by decide) ?_ (swG_d (by decide) ?_ (swG_d (by decide) ?_ (swG_d (by decide) ?_ (swG_d (by decide) ?_ (swG_d (by decide) ?_ (swG_d (by decide) ?_ (swG_d (by decide) ?_ (trivial)))))))))))
    · refine x_iconst (v := 5) dX6_levelOf_108 (by decide) ?_
      exact x_iret rfl dX6_levelOf_109
    · refine x_iconst (v := 5) dX6_levelOf_108 (by decide) ?_
      exact x_iret rfl dX6_levelOf_109
    · refine x_iconst (v := 4) dX6_levelOf_106 (by decide) ?_
      exact x_iret rfl dX6_levelOf_107
    · refine x_iconst (v := 4) dX6_levelOf_106 (by decide) ?_
      exact x_iret rfl dX6_levelOf_107
    · refine x_iconst (v := 5) dX6_levelOf_108 (by decide) ?_
      exact x_iret rfl dX6_levelOf_109
    · refine x_iconst (v := 3) dX6_levelOf_104 (by decide) ?_
      exact x_iret rfl dX6_levelOf_105
    · refine x_iconst (v := 3) dX6_levelOf_104 (by decide) ?_
      exact x_iret rfl dX6_levelOf_105
    · refine x_iconst (v := 3) dX6_levelOf_104 (by decide) ?_
      exact x_iret rfl dX6_levelOf_105
    · refine x_iconst (v := 3) dX6_levelOf_104 (by decide) ?_
      exact x_iret rfl dX6_levelOf_105
    · refine x_iconst (v := 1) dX6_levelOf_102 (by decide) ?_
      exact x_iret rfl dX6_levelOf_103
    · refine x_iconst (v := 0) dX6_levelOf_100 (by decide) ?_
      exact x_iret rfl dX6_levelOf_101
  · refine x_bipush (v := -2) dX6_levelOf_110 (by decide) ?_
    exact x_iret rfl dX6_levelOf_112
theorem s102 {l : Launch} {d : Nat} {rec : Nat → List Value → Mem → XA} (hS : Nonempty XS) (hs : XSnd l xmt rec d) : Snd1 l 102 (b102 rec) d := by
  intro as M r M' h0
  unfold b102 at h0
  obtain ⟨a0, l1, e1, h1⟩ := aI_inv h0
  obtain ⟨ez, h⟩ := aZ_inv h1
  subst ez
  subst e1
  exact xmet (M := M) (as := [.int a0]) (lo := [some (.int a0)]) 102 xq102 xm102 (by rw [xargs_i, xargs_nil]; exact ⟨rfl, trivial⟩) (by rw [xargs_i, xargs_nil]; exact Nat.le_of_ble_eq_true rfl) (fun S G K => x_weak (by exact ⟨rfl, trivial⟩) (k102 hs a0 M)) h hS
set_option maxRecDepth 100000 in
def c103 (rec : Nat → List Value → Mem → XA) (a0 : Int32) (M0 : Mem) : XA :=
  swI a0 [
   ((42 : Int32), (
      some (.int ((12 : Int32)), M0))),
   ((43 : Int32), (
      some (.int ((10 : Int32)), M0))),
   ((45 : Int32), (
      some (.int ((11 : Int32)), M0))),
   ((47 : Int32), (
      some (.int ((13 : Int32)), M0))),
   ((60 : Int32), (
      some (.int ((15 : Int32)), M0))),
   ((128 : Int32), (
      some (.int ((16 : Int32)), M0))),
   ((129 : Int32), (
      some (.int ((17 : Int32)), M0))),
   ((130 : Int32), (
      some (.int ((18 : Int32)), M0))),
   ((225 : Int32), (
      some (.int ((19 : Int32)), M0))),
   ((226 : Int32), (
      some (.int ((20 : Int32)), M0)))] (
    some (.int ((14 : Int32)), M0))
def b103 (rec : Nat → List Value → Mem → XA) (as : List Value) (M0 : Mem) : XA := aI as fun a0 as => aZ as (c103 rec a0 M0)
set_option maxRecDepth 100000 in
set_option maxHeartbeats 4000000 in
theorem k103 {S : XS} {G : XG} {K : Nat × Nat} {l : Launch} {d : Nat} {rec : Nat → List Value → Mem → XA} (hs : XSnd l xmt rec d) (a0 : Int32) (M0 : Mem) : Xe S G K l (yX6_operationOf, cX6_operationOf, 1, some .int) d 0 [some (.int a0)] [] M0 (c103 rec a0 M0) := by
  unfold c103
  refine x_iload_n dX6_operationOf_0 rfl ?_
  refine x_lookup (tgt := 122) dX6_operationOf_1 [(42, 116), (43, 110), (45, 113), (47, 119), (60, 98), (128, 101), (129, 104), (130, 107), (225, 95), (226, 92)] (by decide +kernel) (by decide +kernel) (by decide) ?_ ?_
  · refine swG_d (by decide) ?_ (swG_d (by decide) ?_ (swG_d (by decide) ?_ (swG_d (by decide) ?_ (swG_d (by decide) ?_ (swG_d (by decide) ?_ (swG_d (by decide) ?_ (swG_d (by decide) ?_ (swG_d (by decide) ?_ (swG_d (by decide) ?_ (trivial))))))))))
    · refine x_bipush (v := 12) dX6_operationOf_116 (by decide) ?_
      exact x_iret rfl dX6_operationOf_118
    · refine x_bipush (v := 10) dX6_operationOf_110 (by decide) ?_
      exact x_iret rfl dX6_operationOf_112
    · refine x_bipush (v := 11) dX6_operationOf_113 (by decide) ?_
      exact x_iret rfl dX6_operationOf_115
    · refine x_bipush (v := 13) dX6_operationOf_119 (by decide) ?_
      exact x_iret rfl dX6_operationOf_121
    · refine x_bipush (v := 15) dX6_operationOf_98 (by decide) ?_
      exact x_iret rfl dX6_operationOf_100
    · refine x_bipush (v := 16) dX6_operationOf_101 (by decide) ?_
      exact x_iret rfl dX6_operationOf_103
    · refine x_bipush (v := 17) dX6_operationOf_104 (by decide) ?_
      exact x_iret rfl dX6_operationOf_106
    · refine x_bipush (v := 18) dX6_operationOf_107 (by decide) ?_
      exact x_iret rfl dX6_operationOf_109
    · refine x_bipush (v := 19) dX6_operationOf_95 (by decide) ?_
      exact x_iret rfl dX6_operationOf_97
    · refine x_bipush (v := 20) dX6_operationOf_92 (by decide) ?_
      exact x_iret rfl dX6_operationOf_94
  · refine x_bipush (v := 14) dX6_operationOf_122 (by decide) ?_
    exact x_iret rfl dX6_operationOf_124
theorem s103 {l : Launch} {d : Nat} {rec : Nat → List Value → Mem → XA} (hS : Nonempty XS) (hs : XSnd l xmt rec d) : Snd1 l 103 (b103 rec) d := by
  intro as M r M' h0
  unfold b103 at h0
  obtain ⟨a0, l1, e1, h1⟩ := aI_inv h0
  obtain ⟨ez, h⟩ := aZ_inv h1
  subst ez
  subst e1
  exact xmet (M := M) (as := [.int a0]) (lo := [some (.int a0)]) 103 xq103 xm103 (by rw [xargs_i, xargs_nil]; exact ⟨rfl, trivial⟩) (by rw [xargs_i, xargs_nil]; exact Nat.le_of_ble_eq_true rfl) (fun S G K => x_weak (by exact ⟨rfl, trivial⟩) (k103 hs a0 M)) h hS
set_option maxRecDepth 100000 in
def c104 (rec : Nat → List Value → Mem → XA) (a0 : Option Nat) (M0 : Mem) : XA :=
  gtI (7, 20) M0 a0 19 fun x1 =>
  lt (if ((1499 : Int32)) < x1 then ((1499 : Int32)) else x1) fun x2 =>
  ptI (7, 20) M0 a0 19 (x2 + ((1 : Int32))) fun M3 =>
  gtP (7, 20) M3 a0 17 fun x4 =>
  alP 113 M3 x4 ((0 : Int32)) fun x5 =>
  asI 100 M3 x5 x2 (((0 : Int32))) fun M6 =>
  gtP (7, 20) M6 a0 17 fun x7 =>
  alP 113 M6 x7 ((3 : Int32)) fun x8 =>
  gtP (7, 20) M6 a0 1 fun x9 =>
  vC (0, 3) M6 x9 <|
  cI (rec 346 [va_rf x9] M6) fun x11 M10 =>
  asI 100 M10 x8 x2 ((x11 - ((1 : Int32)))) fun M12 =>
  gtP (7, 20) M12 a0 18 fun x13 =>
  alP 114 M12 x13 ((0 : Int32)) fun x14 =>
  asL M12 x14 x2 ((0 : Int64)) fun M15 =>
  gtP (7, 20) M15 a0 18 fun x16 =>
  alP 114 M15 x16 ((1 : Int32)) fun x17 =>
  vC (7, 20) M15 a0 <|
  cL (rec 65 [va_rf a0] M15) fun x19 M18 =>
  asL M18 x17 x2 x19 fun M20 =>
  gtP (7, 20) M20 a0 17 fun x21 =>
  alP 113 M20 x21 ((5 : Int32)) fun x22 =>
  gtP (7, 20) M20 a0 0 fun x23 =>
  gtP (9, 8) M20 x23 3 fun x24 =>
  gtI (7, 20) M20 a0 12 fun x25 =>
  alI 100 M20 x24 x25 fun x26 =>
  asI 100 M20 x22 x2 x26 fun M27 =>
  vC (7, 20) M27 a0 <|
  cV (rec 63 [va_rf a0] M27) fun M28 =>
  gtI (7, 20) M28 a0 13 fun x29 =>
  jn (fun (s30 : Mem) =>
    some (.int x2, s30)) fun j186 =>
  if x29 = ((46 : Int32)) then (
    vC (7, 20) M28 a0 <|
    cV (rec 63 [va_rf a0] M28) fun M31 =>
    gtP (7, 20) M31 a0 18 fun x32 =>
    alP 114 M31 x32 ((0 : Int32)) fun x33 =>
    gtP (7, 20) M31 a0 18 fun x34 =>
    alP 114 M31 x34 ((1 : Int32)) fun x35 =>
    alL M31 x35 x2 fun x36 =>
    asL M31 x33 x2 x36 fun M37 =>
    gtP (7, 20) M37 a0 17 fun x38 =>
    alP 113 M37 x38 ((4 : Int32)) fun x39 =>
    gtP (7, 20) M37 a0 17 fun x40 =>
    alP 113 M37 x40 ((5 : Int32)) fun x41 =>
    alI 100 M37 x41 x2 fun x42 =>
    asI 100 M37 x39 x2 x42 fun M43 =>
    gtP (7, 20) M43 a0 18 fun x44 =>
    alP 114 M43 x44 ((1 : Int32)) fun x45 =>
    vC (7, 20) M43 a0 <|
    cL (rec 65 [va_rf a0] M43) fun x47 M46 =>
    asL M46 x45 x2 x47 fun M48 =>
    gtP (7, 20) M48 a0 17 fun x49 =>
    alP 113 M48 x49 ((5 : Int32)) fun x50 =>
    gtP (7, 20) M48 a0 0 fun x51 =>
    gtP (9, 8) M48 x51 3 fun x52 =>
    gtI (7, 20) M48 a0 12 fun x53 =>
    alI 100 M48 x52 x53 fun x54 =>
    asI 100 M48 x50 x2 x54 fun M55 =>
    gtI (7, 20) M55 a0 13 fun x56 =>
    if x56 = ((3 : Int32)) then (
      vC (7, 20) M55 a0 <|
      cV (rec 63 [va_rf a0] M55) fun M57 =>
      j186 M57) else (
      vC (7, 20) M55 a0 <|
      cV (rec 62 [va_rf a0, .int ((2 : Int32))] M55) fun M58 =>
      j186 M58)) else (
    j186 M28)
def b104 (rec : Nat → List Value → Mem → XA) (as : List Value) (M0 : Mem) : XA := aR as fun a0 as => aZ as (c104 rec a0 M0)
set_option maxRecDepth 100000 in
set_option maxHeartbeats 4000000 in
theorem k104 {S : XS} {G : XG} {K : Nat × Nat} {l : Launch} {d : Nat} {rec : Nat → List Value → Mem → XA} (hs : XSnd l xmt rec d) (a0 : Option Nat) (M0 : Mem) : Xe S G K l (yX6_readUse, cX6_readUse, 2, some .int) d 0 [some (va_rf a0), none] [] M0 (c104 rec a0 M0) := by
  unfold c104
  refine x_aload_n dX6_readUse_0 rfl ?_
  refine gfX6_69 rfl dX6_readUse_1 (fun x1 => ?_)
  refine x_sipush (v := 1499) dX6_readUse_4 (by decide) ?_
  refine x_mmin lk_methodLink_X6_319 w_mmin1 w_mi w_mmin2 (Nat.le_of_ble_eq_true rfl) dX6_readUse_7 (fun x2 => ?_)
  refine x_istore_n (lo' := [some (va_rf a0), some (.int x2)]) dX6_readUse_10 (by decide) (xok_r rfl) rfl ?_
  refine x_aload_n dX6_readUse_11 rfl ?_
  refine x_iload_n dX6_readUse_12 rfl ?_
  refine x_iconst (v := 1) dX6_readUse_13 (by decide) ?_
  refine x_iadd dX6_readUse_14 ?_
  refine pfX6_69 rfl dX6_readUse_15 (fun M3 => ?_)
  refine x_aload_n dX6_readUse_18 rfl ?_
  refine gfX6_38 rfl dX6_readUse_19 (fun x4 => ?_)
  refine x_iconst (v := 0) dX6_readUse_22 (by decide) ?_
  refine x_aldg (t := 113) (tn := 8) (by decide) (by decide) rfl rfl dX6_readUse_23 (fun x5 => ?_)
  refine x_iload_n dX6_readUse_24 rfl ?_
  refine x_iconst (v := 0) dX6_readUse_25 (by decide) ?_
  refine x_iast dX6_readUse_26 (fun M6 => ?_)
  refine x_aload_n dX6_readUse_27 rfl ?_
  refine gfX6_38 rfl dX6_readUse_28 (fun x7 => ?_)
  refine x_iconst (v := 3) dX6_readUse_31 (by decide) ?_
  refine x_aldg (t := 113) (tn := 8) (by decide) (by decide) rfl rfl dX6_readUse_32 (fun x8 => ?_)
  refine x_iload_n dX6_readUse_33 rfl ?_
  refine x_aload_n dX6_readUse_34 rfl ?_
  refine gfX6_49 rfl dX6_readUse_35 (fun x9 => ?_)
  refine cmX6_94 rfl hs (Nat.le_of_ble_eq_true rfl) dX6_readUse_38 (fun x11 M10 => ?_)
  refine x_iconst (v := 1) dX6_readUse_41 (by decide) ?_
  refine x_isub dX6_readUse_42 ?_
  refine x_iast dX6_readUse_43 (fun M12 => ?_)
  refine x_aload_n dX6_readUse_44 rfl ?_
  refine gfX6_43 rfl dX6_readUse_45 (fun x13 => ?_)
  refine x_iconst (v := 0) dX6_readUse_48 (by decide) ?_
  refine x_aldg (t := 114) (tn := 9) (by decide) (by decide) rfl rfl dX6_readUse_49 (fun x14 => ?_)
  refine x_iload_n dX6_readUse_50 rfl ?_
  refine x_lconst (v := 0) dX6_readUse_51 (by decide) ?_
  refine x_last dX6_readUse_52 (fun M15 => ?_)
  refine x_aload_n dX6_readUse_53 rfl ?_
  refine gfX6_43 rfl dX6_readUse_54 (fun x16 => ?_)
  refine x_iconst (v := 1) dX6_readUse_57 (by decide) ?_
  refine x_aldg (t := 114) (tn := 9) (by decide) (by decide) rfl rfl dX6_readUse_58 (fun x17 => ?_)
  refine x_iload_n dX6_readUse_59 rfl ?_
  refine x_aload_n dX6_readUse_60 rfl ?_
  refine cmX6_127 rfl hs (Nat.le_of_ble_eq_true rfl) dX6_readUse_61 (fun x19 M18 => ?_)
  refine x_last dX6_readUse_64 (fun M20 => ?_)
  refine x_aload_n dX6_readUse_65 rfl ?_
  refine gfX6_38 rfl dX6_readUse_66 (fun x21 => ?_)
  refine x_iconst (v := 5) dX6_readUse_69 (by decide) ?_
  refine x_aldg (t := 113) (tn := 8) (by decide) (by decide) rfl rfl dX6_readUse_70 (fun x22 => ?_)
  refine x_iload_n dX6_readUse_71 rfl ?_
  refine x_aload_n dX6_readUse_72 rfl ?_
  refine gfX6_12 rfl dX6_readUse_73 (fun x23 => ?_)
  refine gfX6_115 rfl dX6_readUse_76 (fun x24 => ?_)
  refine x_aload_n dX6_readUse_79 rfl ?_
  refine gfX6_75 rfl dX6_readUse_80 (fun x25 => ?_)
  refine x_iald dX6_readUse_83 (fun x26 => ?_)
  refine x_iast dX6_readUse_84 (fun M27 => ?_)
  refine x_aload_n dX6_readUse_85 rfl ?_
  refine cmX6_121 rfl hs (Nat.le_of_ble_eq_true rfl) dX6_readUse_86 (fun M28 => ?_)
  refine x_aload_n dX6_readUse_89 rfl ?_
  refine gfX6_81 rfl dX6_readUse_90 (fun x29 => ?_)
  refine x_bipush (v := 46) dX6_readUse_93 (by decide) ?_
  refine x_jn (σ := Mem) 186 (fun s30 => [none, some (.int x2)]) (fun s30 => []) (fun s30 => s30) (fun s30 => ?_) (fun j186 hj186 => ?_)
  · refine x_iload_n dX6_readUse_186 rfl ?_
    exact x_iret rfl dX6_readUse_187
  refine x_icmp_ne (tgt := 186) dX6_readUse_95 (by decide) (fun _ => ?_) (fun _ => ?_)
  · refine x_aload_n dX6_readUse_98 rfl ?_
    refine cmX6_121 rfl hs (Nat.le_of_ble_eq_true rfl) dX6_readUse_99 (fun M31 => ?_)
    refine x_aload_n dX6_readUse_102 rfl ?_
    refine gfX6_43 rfl dX6_readUse_103 (fun x32 => ?_)
    refine x_iconst (v := 0) dX6_readUse_106 (by decide) ?_
    refine x_aldg (t := 114) (tn := 9) (by decide) (by decide) rfl rfl dX6_readUse_107 (fun x33 => ?_)
    refine x_iload_n dX6_readUse_108 rfl ?_
    refine x_aload_n dX6_readUse_109 rfl ?_
    refine gfX6_43 rfl dX6_readUse_110 (fun x34 => ?_)
    refine x_iconst (v := 1) dX6_readUse_113 (by decide) ?_
    refine x_aldg (t := 114) (tn := 9) (by decide) (by decide) rfl rfl dX6_readUse_114 (fun x35 => ?_)
    refine x_iload_n dX6_readUse_115 rfl ?_
    refine x_lald dX6_readUse_116 (fun x36 => ?_)
    refine x_last dX6_readUse_117 (fun M37 => ?_)
    refine x_aload_n dX6_readUse_118 rfl ?_
    refine gfX6_38 rfl dX6_readUse_119 (fun x38 => ?_)
    refine x_iconst (v := 4) dX6_readUse_122 (by decide) ?_
    refine x_aldg (t := 113) (tn := 8) (by decide) (by decide) rfl rfl dX6_readUse_123 (fun x39 => ?_)
    refine x_iload_n dX6_readUse_124 rfl ?_
    refine x_aload_n dX6_readUse_125 rfl ?_
    refine gfX6_38 rfl dX6_readUse_126 (fun x40 => ?_)
    refine x_iconst (v := 5) dX6_readUse_129 (by decide) ?_
    refine x_aldg (t := 113) (tn := 8) (by decide) (by decide) rfl rfl dX6_readUse_130 (fun x41 => ?_)
    refine x_iload_n dX6_readUse_131 rfl ?_
    refine x_iald dX6_readUse_132 (fun x42 => ?_)
    refine x_iast dX6_readUse_133 (fun M43 => ?_)
    refine x_aload_n dX6_readUse_134 rfl ?_
    refine gfX6_43 rfl dX6_readUse_135 (fun x44 => ?_)
    refine x_iconst (v := 1) dX6_readUse_138 (by decide) ?_
    refine x_aldg (t := 114) (tn := 9) (by decide) (by decide) rfl rfl dX6_readUse_139 (fun x45 => ?_)
    refine x_iload_n dX6_readUse_140 rfl ?_
    refine x_aload_n dX6_readUse_141 rfl ?_
    refine cmX6_127 rfl hs (Nat.le_of_ble_eq_true rfl) dX6_readUse_142 (fun x47 M46 => ?_)
    refine x_last dX6_readUse_145 (fun M48 => ?_)
    refine x_aload_n dX6_readUse_146 rfl ?_
    refine gfX6_38 rfl dX6_readUse_147 (fun x49 => ?_)
    refine x_iconst (v := 5) dX6_readUse_150 (by decide) ?_
    refine x_aldg (t := 113) (tn := 8) (by decide) (by decide) rfl rfl dX6_readUse_151 (fun x50 => ?_)
    refine x_iload_n dX6_readUse_152 rfl ?_
    refine x_aload_n dX6_readUse_153 rfl ?_
    refine gfX6_12 rfl dX6_readUse_154 (fun x51 => ?_)
    refine gfX6_115 rfl dX6_readUse_157 (fun x52 => ?_)
    refine x_aload_n dX6_readUse_160 rfl ?_
    refine gfX6_75 rfl dX6_readUse_161 (fun x53 => ?_)
    refine x_iald dX6_readUse_164 (fun x54 => ?_)
    refine x_iast dX6_readUse_165 (fun M55 => ?_)
    refine x_aload_n dX6_readUse_166 rfl ?_
    refine gfX6_81 rfl dX6_readUse_167 (fun x56 => ?_)
    refine x_iconst (v := 3) dX6_readUse_170 (by decide) ?_
    refine x_icmp_ne (tgt := 181) dX6_readUse_171 (by decide) (fun _ => ?_) (fun _ => ?_)
    · refine x_aload_n dX6_readUse_174 rfl ?_
      refine cmX6_121 rfl hs (Nat.le_of_ble_eq_true rfl) dX6_readUse_175 (fun M57 => ?_)
      refine x_goto (tgt := 186) dX6_readUse_178 (by decide) ?_
      exact x_weak (by exact ⟨rfl, trivial⟩) (hj186 M57)
    · refine x_aload_n dX6_readUse_181 rfl ?_
      refine x_iconst (v := 2) dX6_readUse_182 (by decide) ?_
      refine cmX6_109 rfl hs (Nat.le_of_ble_eq_true rfl) dX6_readUse_183 (fun M58 => ?_)
      exact x_weak (by exact ⟨rfl, trivial⟩) (hj186 M58)
  · exact x_weak (by exact ⟨rfl, trivial⟩) (hj186 M28)
theorem s104 {l : Launch} {d : Nat} {rec : Nat → List Value → Mem → XA} (hS : Nonempty XS) (hs : XSnd l xmt rec d) : Snd1 l 104 (b104 rec) d := by
  intro as M r M' h0
  unfold b104 at h0
  obtain ⟨a0, l1, e1, h1⟩ := aR_inv h0
  obtain ⟨ez, h⟩ := aZ_inv h1
  subst ez
  subst e1
  exact xmet (M := M) (as := [va_rf a0]) (lo := [some (va_rf a0)]) 104 xq104 xm104 (by rw [xargs_rf, xargs_nil]; exact ⟨rfl, trivial⟩) (by rw [xargs_rf, xargs_nil]; exact Nat.le_of_ble_eq_true rfl) (fun S G K => x_weak (by exact ⟨rfl, trivial⟩) (k104 hs a0 M)) h hS
set_option maxRecDepth 100000 in
def c105 (rec : Nat → List Value → Mem → XA) (a0 : Option Nat) (a1 : Int32) (a2 : Int32) (a3 : Int32) (M0 : Mem) : XA :=
  gtP (7, 20) M0 a0 17 fun x1 =>
  alP 113 M0 x1 ((0 : Int32)) fun x2 =>
  asI 100 M0 x2 a1 a2 fun M3 =>
  gtP (7, 20) M3 a0 17 fun x4 =>
  alP 113 M3 x4 ((1 : Int32)) fun x5 =>
  vC (7, 20) M3 a0 <|
  cI (rec 87 [va_rf a0, .int a3, .int ((0 : Int32))] M3) fun x7 M6 =>
  asI 100 M6 x5 a1 x7 fun M8 =>
  some (.null, M8)
def b105 (rec : Nat → List Value → Mem → XA) (as : List Value) (M0 : Mem) : XA := aR as fun a0 as => aI as fun a1 as => aI as fun a2 as => aI as fun a3 as => aZ as (c105 rec a0 a1 a2 a3 M0)
set_option maxRecDepth 100000 in
set_option maxHeartbeats 4000000 in
theorem k105 {S : XS} {G : XG} {K : Nat × Nat} {l : Launch} {d : Nat} {rec : Nat → List Value → Mem → XA} (hs : XSnd l xmt rec d) (a0 : Option Nat) (a1 : Int32) (a2 : Int32) (a3 : Int32) (M0 : Mem) : Xe S G K l (yX6_settleLater, cX6_settleLater, 4, none) d 0 [some (va_rf a0), some (.int a1), some (.int a2), some (.int a3)] [] M0 (c105 rec a0 a1 a2 a3 M0) := by
  unfold c105
  refine x_aload_n dX6_settleLater_0 rfl ?_
  refine gfX6_38 rfl dX6_settleLater_1 (fun x1 => ?_)
  refine x_iconst (v := 0) dX6_settleLater_4 (by decide) ?_
  refine x_aldg (t := 113) (tn := 8) (by decide) (by decide) rfl rfl dX6_settleLater_5 (fun x2 => ?_)
  refine x_iload_n dX6_settleLater_6 rfl ?_
  refine x_iload_n dX6_settleLater_7 rfl ?_
  refine x_iast dX6_settleLater_8 (fun M3 => ?_)
  refine x_aload_n dX6_settleLater_9 rfl ?_
  refine gfX6_38 rfl dX6_settleLater_10 (fun x4 => ?_)
  refine x_iconst (v := 1) dX6_settleLater_13 (by decide) ?_
  refine x_aldg (t := 113) (tn := 8) (by decide) (by decide) rfl rfl dX6_settleLater_14 (fun x5 => ?_)
  refine x_iload_n dX6_settleLater_15 rfl ?_
  refine x_aload_n dX6_settleLater_16 rfl ?_
  refine x_iload_n dX6_settleLater_17 rfl ?_
  refine x_iconst (v := 0) dX6_settleLater_18 (by decide) ?_
  refine cmX6_256 rfl hs (Nat.le_of_ble_eq_true rfl) dX6_settleLater_19 (fun x7 M6 => ?_)
  refine x_iast dX6_settleLater_22 (fun M8 => ?_)
  exact x_vret rfl dX6_settleLater_23
theorem s105 {l : Launch} {d : Nat} {rec : Nat → List Value → Mem → XA} (hS : Nonempty XS) (hs : XSnd l xmt rec d) : Snd1 l 105 (b105 rec) d := by
  intro as M r M' h0
  unfold b105 at h0
  obtain ⟨a0, l1, e1, h1⟩ := aR_inv h0
  obtain ⟨a1, l2, e2, h2⟩ := aI_inv h1
  obtain ⟨a2, l3, e3, h3⟩ := aI_inv h2
  obtain ⟨a3, l4, e4, h4⟩ := aI_inv h3
  obtain ⟨ez, h⟩ := aZ_inv h4
  subst ez
  subst e4
  subst e3
  subst e2
  subst e1
  exact xmet (M := M) (as := [va_rf a0, .int a1, .int a2, .int a3]) (lo := [some (va_rf a0), some (.int a1), some (.int a2), some (.int a3)]) 105 xq105 xm105 (by rw [xargs_rf, xargs_i, xargs_i, xargs_i, xargs_nil]; exact ⟨rfl, ⟨rfl, ⟨rfl, ⟨rfl, trivial⟩⟩⟩⟩) (by rw [xargs_rf, xargs_i, xargs_i, xargs_i, xargs_nil]; exact Nat.le_of_ble_eq_true rfl) (fun S G K => x_weak (by exact ⟨rfl, ⟨rfl, ⟨rfl, ⟨rfl, trivial⟩⟩⟩⟩) (k105 hs a0 a1 a2 a3 M)) h hS
set_option maxRecDepth 100000 in
def c106 (rec : Nat → List Value → Mem → XA) (a0 : Option Nat) (a1 : Int32) (a2 : Int32) (a3 : Int32) (a4 : Int32) (M0 : Mem) : XA :=
  gtP (7, 20) M0 a0 18 fun x1 =>
  alP 114 M0 x1 ((0 : Int32)) fun x2 =>
  alL M0 x2 a1 fun x3 =>
  jn (fun (s4 : Int32 × Mem) =>
    gtP (7, 20) s4.2 a0 17 fun x5 =>
    alP 113 s4.2 x5 ((0 : Int32)) fun x6 =>
    jn (fun (s7 : Int32) =>
      asI 100 s4.2 x6 a1 s7 fun M8 =>
      gtP (7, 20) M8 a0 17 fun x9 =>
      alP 113 M8 x9 ((1 : Int32)) fun x10 =>
      jn (fun (s11 : Int32 × Mem) =>
        asI 100 s11.2 x10 a1 s11.1 fun M12 =>
        some (.null, M12)) fun j79 =>
      if s4.1 < 0 then (
        vC (7, 20) M8 a0 <|
        cI (rec 87 [va_rf a0, .int a4, .int ((0 : Int32))] M8) fun x14 M13 =>
        j79 (x14, M13)) else (
        vC (7, 20) M8 a0 <|
        cI (rec 87 [va_rf a0, .int a3, .int s4.1] M8) fun x16 M15 =>
        j79 (x16, M15))) fun j49 =>
    if s4.1 < 0 then (
      j49 a2) else (
      j49 ((0 : Int32)))) fun j30 =>
  if (lg_cmp x3 ((0 : Int64))) = 0 then (
    gtP (7, 20) M0 a0 18 fun x17 =>
    alP 114 M0 x17 ((1 : Int32)) fun x18 =>
    alL M0 x18 a1 fun x19 =>
    vC (7, 20) M0 a0 <|
    cI (rec 74 [va_rf a0, .long x19] M0) fun x21 M20 =>
    j30 (x21, M20)) else (
    j30 ((-2 : Int32), M0))
def b106 (rec : Nat → List Value → Mem → XA) (as : List Value) (M0 : Mem) : XA := aR as fun a0 as => aI as fun a1 as => aI as fun a2 as => aI as fun a3 as => aI as fun a4 as => aZ as (c106 rec a0 a1 a2 a3 a4 M0)
set_option maxRecDepth 100000 in
set_option maxHeartbeats 4000000 in
theorem k106 {S : XS} {G : XG} {K : Nat × Nat} {l : Launch} {d : Nat} {rec : Nat → List Value → Mem → XA} (hs : XSnd l xmt rec d) (a0 : Option Nat) (a1 : Int32) (a2 : Int32) (a3 : Int32) (a4 : Int32) (M0 : Mem) : Xe S G K l (yX6_emitPlain, cX6_emitPlain, 6, none) d 0 [some (va_rf a0), some (.int a1), some (.int a2), some (.int a3), some (.int a4), none] [] M0 (c106 rec a0 a1 a2 a3 a4 M0) := by
  unfold c106
  refine x_aload_n dX6_emitPlain_0 rfl ?_
  refine gfX6_43 rfl dX6_emitPlain_1 (fun x1 => ?_)
  refine x_iconst (v := 0) dX6_emitPlain_4 (by decide) ?_
  refine x_aldg (t := 114) (tn := 9) (by decide) (by decide) rfl rfl dX6_emitPlain_5 (fun x2 => ?_)
  refine x_iload_n dX6_emitPlain_6 rfl ?_
  refine x_lald dX6_emitPlain_7 (fun x3 => ?_)
  refine x_lconst (v := 0) dX6_emitPlain_8 (by decide) ?_
  refine x_lcmp dX6_emitPlain_9 ?_
  refine x_jn (σ := Int32 × Mem) 30 (fun s4 => [some (va_rf a0), some (.int a1), some (.int a2), some (.int a3), some (.int a4), none]) (fun s4 => [.int s4.1]) (fun s4 => s4.2) (fun s4 => ?_) (fun j30 hj30 => ?_)
  · refine x_istore (lo' := [some (va_rf a0), some (.int a1), some (.int a2), some (.int a3), some (.int a4), some (.int s4.1)]) dX6_emitPlain_30 (by decide) rfl rfl ?_
    refine x_aload_n dX6_emitPlain_32 rfl ?_
    refine gfX6_38 rfl dX6_emitPlain_33 (fun x5 => ?_)
    refine x_iconst (v := 0) dX6_emitPlain_36 (by decide) ?_
    refine x_aldg (t := 113) (tn := 8) (by decide) (by decide) rfl rfl dX6_emitPlain_37 (fun x6 => ?_)
    refine x_iload_n dX6_emitPlain_38 rfl ?_
    refine x_iload dX6_emitPlain_39 rfl ?_
    refine x_jn (σ := Int32) 49 (fun s7 => [some (va_rf a0), some (.int a1), none, some (.int a3), some (.int a4), some (.int s4.1)]) (fun s7 => [.int s7, .int a1, va_rf x6]) (fun s7 => s4.2) (fun s7 => ?_) (fun j49 hj49 => ?_)
    · refine x_iast dX6_emitPlain_49 (fun M8 => ?_)
      refine x_aload_n dX6_emitPlain_50 rfl ?_
      refine gfX6_38 rfl dX6_emitPlain_51 (fun x9 => ?_)
      refine x_iconst (v := 1) dX6_emitPlain_54 (by decide) ?_
      refine x_aldg (t := 113) (tn := 8) (by decide) (by decide) rfl rfl dX6_emitPlain_55 (fun x10 => ?_)
      refine x_iload_n dX6_emitPlain_56 rfl ?_
      refine x_iload dX6_emitPlain_57 rfl ?_
      refine x_jn (σ := Int32 × Mem) 79 (fun s11 => [none, none, none, none, none, none]) (fun s11 => [.int s11.1, .int a1, va_rf x10]) (fun s11 => s11.2) (fun s11 => ?_) (fun j79 hj79 => ?_)
      · refine x_iast dX6_emitPlain_79 (fun M12 => ?_)
        exact x_vret rfl dX6_emitPlain_80
      refine x_if_lt (tgt := 72) dX6_emitPlain_59 (by decide) (fun _ => ?_) (fun _ => ?_)
      · refine x_aload_n dX6_emitPlain_72 rfl ?_
        refine x_iload dX6_emitPlain_73 rfl ?_
        refine x_iconst (v := 0) dX6_emitPlain_75 (by decide) ?_
        refine cmX6_256 rfl hs (Nat.le_of_ble_eq_true rfl) dX6_emitPlain_76 (fun x14 M13 => ?_)
        exact x_weak (by exact trivial) (hj79 (x14, M13))
      · refine x_aload_n dX6_emitPlain_62 rfl ?_
        refine x_iload_n dX6_emitPlain_63 rfl ?_
        refine x_iload dX6_emitPlain_64 rfl ?_
        refine cmX6_256 rfl hs (Nat.le_of_ble_eq_true rfl) dX6_emitPlain_66 (fun x16 M15 => ?_)
        refine x_goto (tgt := 79) dX6_emitPlain_69 (by decide) ?_
        exact x_weak (by exact trivial) (hj79 (x16, M15))
    refine x_if_lt (tgt := 48) dX6_emitPlain_41 (by decide) (fun _ => ?_) (fun _ => ?_)
    · refine x_iload_n dX6_emitPlain_48 rfl ?_
      exact x_weak (by exact ⟨rfl, ⟨rfl, ⟨rfl, ⟨rfl, ⟨rfl, trivial⟩⟩⟩⟩⟩) (hj49 a2)
    · refine x_iconst (v := 0) dX6_emitPlain_44 (by decide) ?_
      refine x_goto (tgt := 49) dX6_emitPlain_45 (by decide) ?_
      exact x_weak (by exact ⟨rfl, ⟨rfl, ⟨rfl, ⟨rfl, ⟨rfl, trivial⟩⟩⟩⟩⟩) (hj49 ((0 : Int32)))
  refine x_if_ne (tgt := 28) dX6_emitPlain_10 (by decide) (fun _ => ?_) (fun _ => ?_)
  · refine x_aload_n dX6_emitPlain_13 rfl ?_
    refine x_aload_n dX6_emitPlain_14 rfl ?_
    refine gfX6_43 rfl dX6_emitPlain_15 (fun x17 => ?_)
    refine x_iconst (v := 1) dX6_emitPlain_18 (by decide) ?_
    refine x_aldg (t := 114) (tn := 9) (by decide) (by decide) rfl rfl dX6_emitPlain_19 (fun x18 => ?_)
    refine x_iload_n dX6_emitPlain_20 rfl ?_
    refine x_lald dX6_emitPlain_21 (fun x19 => ?_)
    refine cmX6_221 rfl hs (Nat.le_of_ble_eq_true rfl) dX6_emitPlain_22 (fun x21 M20 => ?_)
    refine x_goto (tgt := 30) dX6_emitPlain_25 (by decide) ?_
    exact x_weak (by exact ⟨rfl, ⟨rfl, ⟨rfl, ⟨rfl, ⟨rfl, trivial⟩⟩⟩⟩⟩) (hj30 (x21, M20))
  · refine x_bipush (v := -2) dX6_emitPlain_28 (by decide) ?_
    exact x_weak (by exact ⟨rfl, ⟨rfl, ⟨rfl, ⟨rfl, ⟨rfl, trivial⟩⟩⟩⟩⟩) (hj30 ((-2 : Int32), M0))
theorem s106 {l : Launch} {d : Nat} {rec : Nat → List Value → Mem → XA} (hS : Nonempty XS) (hs : XSnd l xmt rec d) : Snd1 l 106 (b106 rec) d := by
  intro as M r M' h0
  unfold b106 at h0
  obtain ⟨a0, l1, e1, h1⟩ := aR_inv h0
  obtain ⟨a1, l2, e2, h2⟩ := aI_inv h1
  obtain ⟨a2, l3, e3, h3⟩ := aI_inv h2
  obtain ⟨a3, l4, e4, h4⟩ := aI_inv h3
  obtain ⟨a4, l5, e5, h5⟩ := aI_inv h4
  obtain ⟨ez, h⟩ := aZ_inv h5
  subst ez
  subst e5
  subst e4
  subst e3
  subst e2
  subst e1
  exact xmet (M := M) (as := [va_rf a0, .int a1, .int a2, .int a3, .int a4]) (lo := [some (va_rf a0), some (.int a1), some (.int a2), some (.int a3), some (.int a4)]) 106 xq106 xm106 (by rw [xargs_rf, xargs_i, xargs_i, xargs_i, xargs_i, xargs_nil]; exact ⟨rfl, ⟨rfl, ⟨rfl, ⟨rfl, ⟨rfl, trivial⟩⟩⟩⟩⟩) (by rw [xargs_rf, xargs_i, xargs_i, xargs_i, xargs_i, xargs_nil]; exact Nat.le_of_ble_eq_true rfl) (fun S G K => x_weak (by exact ⟨rfl, ⟨rfl, ⟨rfl, ⟨rfl, ⟨rfl, trivial⟩⟩⟩⟩⟩) (k106 hs a0 a1 a2 a3 a4 M)) h hS
set_option maxRecDepth 100000 in
def c107_2 (rec : Nat → List Value → Mem → XA) (a0 : Option Nat) (j39 : Mem → XA) : (Int32 × Mem) → ((Int32 × Mem) → XA) → XA := fun s2 j2 =>
  gtI (7, 20) s2.2 a0 19 fun x3 =>
  if x3 ≤ s2.1 then (
    j39 s2.2) else (
    gtI (7, 20) s2.2 a0 10 fun x4 =>
    if x4 = 0 then (
      gtP (7, 20) s2.2 a0 17 fun x5 =>
      alP 113 s2.2 x5 ((0 : Int32)) fun x6 =>
      alI 100 s2.2 x6 s2.1 fun x7 =>
      jn (fun (s8 : Mem) =>
        lt (s2.1 + (1 : Int32)) fun (x9 : Int32) =>
        j2 (x9, s8)) fun j33 =>
      if x7 = 0 then (
        j33 s2.2) else (
        vC (7, 20) s2.2 a0 <|
        cV (rec 108 [va_rf a0, .int s2.1] s2.2) fun M10 =>
        j33 M10)) else (
      j39 s2.2))
set_option maxRecDepth 100000 in
def c107 (rec : Nat → List Value → Mem → XA) (a0 : Option Nat) (M0 : Mem) : XA :=
  jn (fun (s1 : Mem) =>
    some (.null, s1)) fun j39 =>
  lp (c107_2 rec a0 j39) 4294967296 ((0 : Int32), M0)
def b107 (rec : Nat → List Value → Mem → XA) (as : List Value) (M0 : Mem) : XA := aR as fun a0 as => aZ as (c107 rec a0 M0)
set_option maxRecDepth 100000 in
set_option maxHeartbeats 4000000 in
theorem k107 {S : XS} {G : XG} {K : Nat × Nat} {l : Launch} {d : Nat} {rec : Nat → List Value → Mem → XA} (hs : XSnd l xmt rec d) (a0 : Option Nat) (M0 : Mem) : Xe S G K l (yX6_settleUses, cX6_settleUses, 2, none) d 0 [some (va_rf a0), none] [] M0 (c107 rec a0 M0) := by
  unfold c107
  refine x_iconst (v := 0) dX6_settleUses_0 (by decide) ?_
  refine x_istore_n (lo' := [some (va_rf a0), some (.int ((0 : Int32)))]) dX6_settleUses_1 (by decide) (xok_r rfl) rfl ?_
  refine x_jn (σ := Mem) 39 (fun s1 => [none, none]) (fun s1 => []) (fun s1 => s1) (fun s1 => ?_) (fun j39 hj39 => ?_)
  · exact x_vret rfl dX6_settleUses_39
  refine x_weak (by exact ⟨rfl, ⟨rfl, trivial⟩⟩) (x_lp (σ := Int32 × Mem) 2 (fun s2 => [some (va_rf a0), some (.int s2.1)]) (fun s2 => []) (fun s2 => s2.2) (fun s2 j2 hj2 => ?_) 4294967296 ((0 : Int32), M0))
  · refine x_iload_n dX6_settleUses_2 rfl ?_
    refine x_aload_n dX6_settleUses_3 rfl ?_
    refine gfX6_69 rfl dX6_settleUses_4 (fun x3 => ?_)
    refine x_icmp_ge (tgt := 39) dX6_settleUses_7 (by decide) (fun _ => ?_) (fun _ => ?_)
    · exact x_weak (by exact trivial) (hj39 s2.2)
    · refine x_aload_n dX6_settleUses_10 rfl ?_
      refine gfX6_66 rfl dX6_settleUses_11 (fun x4 => ?_)
      refine x_if_ne (tgt := 39) dX6_settleUses_14 (by decide) (fun _ => ?_) (fun _ => ?_)
      · refine x_aload_n dX6_settleUses_17 rfl ?_
        refine gfX6_38 rfl dX6_settleUses_18 (fun x5 => ?_)
        refine x_iconst (v := 0) dX6_settleUses_21 (by decide) ?_
        refine x_aldg (t := 113) (tn := 8) (by decide) (by decide) rfl rfl dX6_settleUses_22 (fun x6 => ?_)
        refine x_iload_n dX6_settleUses_23 rfl ?_
        refine x_iald dX6_settleUses_24 (fun x7 => ?_)
        refine x_jn (σ := Mem) 33 (fun s8 => [some (va_rf a0), some (.int s2.1)]) (fun s8 => []) (fun s8 => s8) (fun s8 => ?_) (fun j33 hj33 => ?_)
        · refine x_iincN (v := 1) (lo' := fun x9 => [some (va_rf a0), some (.int x9)]) (by decide) dX6_settleUses_33 rfl (by decide) (xok_r rfl) (fun _ => rfl) (fun x9 => ?_)
          refine x_goto (tgt := 2) dX6_settleUses_36 (by decide) ?_
          exact x_weak (by exact ⟨rfl, ⟨rfl, trivial⟩⟩) (hj2 (x9, s8))
        refine x_if_eq (tgt := 33) dX6_settleUses_25 (by decide) (fun _ => ?_) (fun _ => ?_)
        · exact x_weak (by exact ⟨rfl, ⟨rfl, trivial⟩⟩) (hj33 s2.2)
        · refine x_aload_n dX6_settleUses_28 rfl ?_
          refine x_iload_n dX6_settleUses_29 rfl ?_
          refine cmX6_324 rfl hs (Nat.le_of_ble_eq_true rfl) dX6_settleUses_30 (fun M10 => ?_)
          exact x_weak (by exact ⟨rfl, ⟨rfl, trivial⟩⟩) (hj33 M10)
      · exact x_weak (by exact trivial) (hj39 s2.2)
theorem s107 {l : Launch} {d : Nat} {rec : Nat → List Value → Mem → XA} (hS : Nonempty XS) (hs : XSnd l xmt rec d) : Snd1 l 107 (b107 rec) d := by
  intro as M r M' h0
  unfold b107 at h0
  obtain ⟨a0, l1, e1, h1⟩ := aR_inv h0
  obtain ⟨ez, h⟩ := aZ_inv h1
  subst ez
  subst e1
  exact xmet (M := M) (as := [va_rf a0]) (lo := [some (va_rf a0)]) 107 xq107 xm107 (by rw [xargs_rf, xargs_nil]; exact ⟨rfl, trivial⟩) (by rw [xargs_rf, xargs_nil]; exact Nat.le_of_ble_eq_true rfl) (fun S G K => x_weak (by exact ⟨rfl, trivial⟩) (k107 hs a0 M)) h hS
set_option maxRecDepth 100000 in
def c108 (rec : Nat → List Value → Mem → XA) (a0 : Option Nat) (a1 : Int32) (M0 : Mem) : XA :=
  gtP (7, 20) M0 a0 17 fun x1 =>
  alP 113 M0 x1 ((3 : Int32)) fun x2 =>
  alI 100 M0 x2 a1 fun x3 =>
  gtP (7, 20) M0 a0 18 fun x4 =>
  alP 114 M0 x4 ((0 : Int32)) fun x5 =>
  alL M0 x5 a1 fun x6 =>
  jn (fun (s7 : Int32 × Mem) =>
    gtP (7, 20) s7.2 a0 18 fun x8 =>
    alP 114 s7.2 x8 ((1 : Int32)) fun x9 =>
    alL s7.2 x9 a1 fun x10 =>
    vC (7, 20) s7.2 a0 <|
    cI (rec 71 [va_rf a0, .int s7.1, .long x10] s7.2) fun x12 M11 =>
    jn (fun (s13 : Option Nat × Mem) =>
      jn (fun (s14 : Int32 × Mem) =>
        if s14.1 = 0 then (
          ptI (7, 20) s14.2 a0 10 ((4 : Int32)) fun M15 =>
          gtP (7, 20) M15 a0 17 fun x16 =>
          jn (fun (s17 : Int32) =>
            alP 113 M15 x16 s17 fun x18 =>
            alI 100 M15 x18 a1 fun x19 =>
            ptI (7, 20) M15 a0 11 x19 fun M20 =>
            some (.null, M20)) fun j135 =>
          if 0 ≤ s7.1 then (
            j135 ((5 : Int32))) else (
            j135 ((4 : Int32)))) else (
          gtP (7, 20) s14.2 a0 17 fun x21 =>
          alP 113 s14.2 x21 ((1 : Int32)) fun x22 =>
          alI 100 s14.2 x22 a1 fun x23 =>
          gtI (8, 9) s14.2 s13.1 2 fun x24 =>
          jn (fun (s25 : Mem) =>
            some (.null, s25)) fun j192 =>
          if x24 = 0 then (
            gtP (7, 20) s14.2 a0 5 fun x26 =>
            asI 100 s14.2 x26 x23 (((0 : Int32))) fun M27 =>
            gtP (7, 20) M27 a0 6 fun x28 =>
            gtI (8, 9) M27 s13.1 4 fun x29 =>
            asI 100 M27 x28 x23 x29 fun M30 =>
            j192 M30) else (
            gtP (7, 20) s14.2 a0 6 fun x31 =>
            asI 100 s14.2 x31 x23 x12 fun M32 =>
            j192 M32))) fun j108 =>
      jn (fun (s33 : Mem) =>
        j108 ((0 : Int32), s33)) fun j107 =>
      if s13.1 = none then (
        j107 s13.2) else (
        gtI (8, 9) s13.2 s13.1 3 fun x34 =>
        jn (fun (s35 : Unit) =>
          vC (7, 20) s13.2 a0 <|
          cI (rec 109 [va_rf a0, va_rf s13.1, .int a1] s13.2) fun x37 M36 =>
          if x37 = 0 then (
            j107 M36) else (
            j108 ((1 : Int32), M36))) fun j93 =>
        if x34 = 0 then (
          j93 ()) else (
          if s7.1 = x3 then (
            j93 ()) else (
            j107 s13.2)))) fun j72 =>
    if 0 ≤ x12 then (
      gtP (7, 20) M11 a0 2 fun x38 =>
      vC (0, 3) M11 x38 <|
      cP (rec 348 [va_rf x38, .int x12] M11) fun x40 M39 =>
      cst (8, 9) M39 x40 <|
      j72 (x40, M39)) else (
      j72 (none, M11))) fun j33 =>
  if (lg_cmp x6 ((0 : Int64))) = 0 then (
    j33 (x3, M0)) else (
    vC (7, 20) M0 a0 <|
    cI (rec 70 [va_rf a0, .long x6] M0) fun x42 M41 =>
    j33 (x42, M41))
def b108 (rec : Nat → List Value → Mem → XA) (as : List Value) (M0 : Mem) : XA := aR as fun a0 as => aI as fun a1 as => aZ as (c108 rec a0 a1 M0)
set_option maxRecDepth 100000 in
set_option maxHeartbeats 4000000 in
theorem k108 {S : XS} {G : XG} {K : Nat × Nat} {l : Launch} {d : Nat} {rec : Nat → List Value → Mem → XA} (hs : XSnd l xmt rec d) (a0 : Option Nat) (a1 : Int32) (M0 : Mem) : Xe S G K l (yX6_settle, cX6_settle, 10, none) d 0 [some (va_rf a0), some (.int a1), none, none, none, none, none, none, none, none] [] M0 (c108 rec a0 a1 M0) := by
  unfold c108
  refine x_aload_n dX6_settle_0 rfl ?_
  refine gfX6_38 rfl dX6_settle_1 (fun x1 => ?_)
  refine x_iconst (v := 3) dX6_settle_4 (by decide) ?_
  refine x_aldg (t := 113) (tn := 8) (by decide) (by decide) rfl rfl dX6_settle_5 (fun x2 => ?_)
  refine x_iload_n dX6_settle_6 rfl ?_
  refine x_iald dX6_settle_7 (fun x3 => ?_)
  refine x_istore_n (lo' := [some (va_rf a0), some (.int a1), some (.int x3), none, none, none, none, none, none, none]) dX6_settle_8 (by decide) rfl rfl ?_
  refine x_aload_n dX6_settle_9 rfl ?_
  refine gfX6_43 rfl dX6_settle_10 (fun x4 => ?_)
  refine x_iconst (v := 0) dX6_settle_13 (by decide) ?_
  refine x_aldg (t := 114) (tn := 9) (by decide) (by decide) rfl rfl dX6_settle_14 (fun x5 => ?_)
  refine x_iload_n dX6_settle_15 rfl ?_
  refine x_lald dX6_settle_16 (fun x6 => ?_)
  refine x_lstore_n (lo' := [some (va_rf a0), some (.int a1), some (.int x3), some (.long x6), none, none, none, none, none, none]) dX6_settle_17 (by decide) rfl rfl ?_
  refine x_lload_n dX6_settle_18 rfl ?_
  refine x_lconst (v := 0) dX6_settle_19 (by decide) ?_
  refine x_lcmp dX6_settle_20 ?_
  refine x_jn (σ := Int32 × Mem) 33 (fun s7 => [some (va_rf a0), some (.int a1), some (.int x3), none, none, none, none, none, none, none]) (fun s7 => [.int s7.1]) (fun s7 => s7.2) (fun s7 => ?_) (fun j33 hj33 => ?_)
  · refine x_istore (lo' := [some (va_rf a0), some (.int a1), some (.int x3), none, none, some (.int s7.1), none, none, none, none]) dX6_settle_33 (by decide) rfl rfl ?_
    refine x_aload_n dX6_settle_35 rfl ?_
    refine x_iload dX6_settle_36 rfl ?_
    refine x_aload_n dX6_settle_38 rfl ?_
    refine gfX6_43 rfl dX6_settle_39 (fun x8 => ?_)
    refine x_iconst (v := 1) dX6_settle_42 (by decide) ?_
    refine x_aldg (t := 114) (tn := 9) (by decide) (by decide) rfl rfl dX6_settle_43 (fun x9 => ?_)
    refine x_iload_n dX6_settle_44 rfl ?_
    refine x_lald dX6_settle_45 (fun x10 => ?_)
    refine cmX6_327 rfl hs (Nat.le_of_ble_eq_true rfl) dX6_settle_46 (fun x12 M11 => ?_)
    refine x_istore (lo' := [some (va_rf a0), some (.int a1), some (.int x3), none, none, some (.int s7.1), some (.int x12), none, none, none]) dX6_settle_49 (by decide) rfl rfl ?_
    refine x_iload dX6_settle_51 rfl ?_
    refine x_jn (σ := Option Nat × Mem) 72 (fun s13 => [some (va_rf a0), some (.int a1), some (.int x3), none, none, some (.int s7.1), some (.int x12), none, none, none]) (fun s13 => [va_rf s13.1]) (fun s13 => s13.2) (fun s13 => ?_) (fun j72 hj72 => ?_)
    · refine x_astore (lo' := [some (va_rf a0), some (.int a1), some (.int x3), none, none, some (.int s7.1), some (.int x12), some (va_rf s13.1), none, none]) dX6_settle_72 (by decide) rfl rfl ?_
      refine x_aload dX6_settle_74 rfl ?_
      refine x_jn (σ := Int32 × Mem) 108 (fun s14 => [some (va_rf a0), some (.int a1), none, none, none, some (.int s7.1), some (.int x12), some (va_rf s13.1), none, none]) (fun s14 => [.int s14.1]) (fun s14 => s14.2) (fun s14 => ?_) (fun j108 hj108 => ?_)
      · refine x_istore (lo' := [some (va_rf a0), some (.int a1), none, none, none, some (.int s7.1), some (.int x12), some (va_rf s13.1), some (.int s14.1), none]) dX6_settle_108 (by decide) (xok_r rfl) rfl ?_
        refine x_iload dX6_settle_110 rfl ?_
        refine x_if_ne (tgt := 142) dX6_settle_112 (by decide) (fun _ => ?_) (fun _ => ?_)
        · refine x_aload_n dX6_settle_115 rfl ?_
          refine x_iconst (v := 4) dX6_settle_116 (by decide) ?_
          refine pfX6_66 rfl dX6_settle_117 (fun M15 => ?_)
          refine x_aload_n dX6_settle_120 rfl ?_
          refine x_aload_n dX6_settle_121 rfl ?_
          refine gfX6_38 rfl dX6_settle_122 (fun x16 => ?_)
          refine x_iload dX6_settle_125 rfl ?_
          refine x_jn (σ := Int32) 135 (fun s17 => [none, some (.int a1), none, none, none, none, none, none, none, none]) (fun s17 => [.int s17, va_rf x16, va_rf a0]) (fun s17 => M15) (fun s17 => ?_) (fun j135 hj135 => ?_)
          · refine x_aldg (t := 113) (tn := 8) (by decide) (by decide) rfl rfl dX6_settle_135 (fun x18 => ?_)
            refine x_iload_n dX6_settle_136 rfl ?_
            refine x_iald dX6_settle_137 (fun x19 => ?_)
            refine pfX6_118 rfl dX6_settle_138 (fun M20 => ?_)
            exact x_vret rfl dX6_settle_141
          refine x_if_ge (tgt := 134) dX6_settle_127 (by decide) (fun _ => ?_) (fun _ => ?_)
          · refine x_iconst (v := 5) dX6_settle_134 (by decide) ?_
            exact x_weak (by exact ⟨rfl, trivial⟩) (hj135 ((5 : Int32)))
          · refine x_iconst (v := 4) dX6_settle_130 (by decide) ?_
            refine x_goto (tgt := 135) dX6_settle_131 (by decide) ?_
            exact x_weak (by exact ⟨rfl, trivial⟩) (hj135 ((4 : Int32)))
        · refine x_aload_n dX6_settle_142 rfl ?_
          refine gfX6_38 rfl dX6_settle_143 (fun x21 => ?_)
          refine x_iconst (v := 1) dX6_settle_146 (by decide) ?_
          refine x_aldg (t := 113) (tn := 8) (by decide) (by decide) rfl rfl dX6_settle_147 (fun x22 => ?_)
          refine x_iload_n dX6_settle_148 rfl ?_
          refine x_iald dX6_settle_149 (fun x23 => ?_)
          refine x_istore (lo' := [some (va_rf a0), some (.int a1), none, none, none, some (.int s7.1), some (.int x12), some (va_rf s13.1), some (.int s14.1), some (.int x23)]) dX6_settle_150 (by decide) rfl rfl ?_
          refine x_aload dX6_settle_152 rfl ?_
          refine gfX6_335 rfl dX6_settle_154 (fun x24 => ?_)
          refine x_jn (σ := Mem) 192 (fun s25 => [none, none, none, none, none, none, none, none, none, none]) (fun s25 => []) (fun s25 => s25) (fun s25 => ?_) (fun j192 hj192 => ?_)
          · exact x_vret rfl dX6_settle_192
          refine x_if_ne (tgt := 183) dX6_settle_157 (by decide) (fun _ => ?_) (fun _ => ?_)
          · refine x_aload_n dX6_settle_160 rfl ?_
            refine gfX6_18 rfl dX6_settle_161 (fun x26 => ?_)
            refine x_iload dX6_settle_164 rfl ?_
            refine x_iconst (v := 0) dX6_settle_166 (by decide) ?_
            refine x_iast dX6_settle_167 (fun M27 => ?_)
            refine x_aload_n dX6_settle_168 rfl ?_
            refine gfX6_22 rfl dX6_settle_169 (fun x28 => ?_)
            refine x_iload dX6_settle_172 rfl ?_
            refine x_aload dX6_settle_174 rfl ?_
            refine gfX6_208 rfl dX6_settle_176 (fun x29 => ?_)
            refine x_iast dX6_settle_179 (fun M30 => ?_)
            refine x_goto (tgt := 192) dX6_settle_180 (by decide) ?_
            exact x_weak (by exact trivial) (hj192 M30)
          · refine x_aload_n dX6_settle_183 rfl ?_
            refine gfX6_22 rfl dX6_settle_184 (fun x31 => ?_)
            refine x_iload dX6_settle_187 rfl ?_
            refine x_iload dX6_settle_189 rfl ?_
            refine x_iast dX6_settle_191 (fun M32 => ?_)
            exact x_weak (by exact trivial) (hj192 M32)
      refine x_jn (σ := Mem) 107 (fun s33 => [some (va_rf a0), some (.int a1), none, none, none, some (.int s7.1), some (.int x12), some (va_rf s13.1), none, none]) (fun s33 => []) (fun s33 => s33) (fun s33 => ?_) (fun j107 hj107 => ?_)
      · refine x_iconst (v := 0) dX6_settle_107 (by decide) ?_
        exact x_weak (by exact ⟨rfl, ⟨rfl, ⟨rfl, ⟨rfl, ⟨rfl, trivial⟩⟩⟩⟩⟩) (hj108 ((0 : Int32), s33))
      refine x_ifnull (tgt := 107) dX6_settle_76 (by decide) (fun _ => ?_) (fun _ => ?_)
      · exact x_weak (by exact ⟨rfl, ⟨rfl, ⟨rfl, ⟨rfl, ⟨rfl, trivial⟩⟩⟩⟩⟩) (hj107 s13.2)
      · refine x_aload dX6_settle_79 rfl ?_
        refine gfX6_197 rfl dX6_settle_81 (fun x34 => ?_)
        refine x_jn (σ := Unit) 93 (fun s35 => [some (va_rf a0), some (.int a1), none, none, none, some (.int s7.1), some (.int x12), some (va_rf s13.1), none, none]) (fun s35 => []) (fun s35 => s13.2) (fun s35 => ?_) (fun j93 hj93 => ?_)
        · refine x_aload_n dX6_settle_93 rfl ?_
          refine x_aload dX6_settle_94 rfl ?_
          refine x_iload_n dX6_settle_96 rfl ?_
          refine cmX6_331 rfl hs (Nat.le_of_ble_eq_true rfl) dX6_settle_97 (fun x37 M36 => ?_)
          refine x_if_eq (tgt := 107) dX6_settle_100 (by decide) (fun _ => ?_) (fun _ => ?_)
          · exact x_weak (by exact ⟨rfl, ⟨rfl, ⟨rfl, ⟨rfl, ⟨rfl, trivial⟩⟩⟩⟩⟩) (hj107 M36)
          · refine x_iconst (v := 1) dX6_settle_103 (by decide) ?_
            refine x_goto (tgt := 108) dX6_settle_104 (by decide) ?_
            exact x_weak (by exact ⟨rfl, ⟨rfl, ⟨rfl, ⟨rfl, ⟨rfl, trivial⟩⟩⟩⟩⟩) (hj108 ((1 : Int32), M36))
        refine x_if_eq (tgt := 93) dX6_settle_84 (by decide) (fun _ => ?_) (fun _ => ?_)
        · exact x_weak (by exact ⟨rfl, ⟨rfl, ⟨rfl, ⟨rfl, ⟨rfl, trivial⟩⟩⟩⟩⟩) (hj93 ())
        · refine x_iload dX6_settle_87 rfl ?_
          refine x_iload_n dX6_settle_89 rfl ?_
          refine x_icmp_ne (tgt := 107) dX6_settle_90 (by decide) (fun _ => ?_) (fun _ => ?_)
          · exact x_weak (by exact ⟨rfl, ⟨rfl, ⟨rfl, ⟨rfl, ⟨rfl, trivial⟩⟩⟩⟩⟩) (hj93 ())
          · exact x_weak (by exact ⟨rfl, ⟨rfl, ⟨rfl, ⟨rfl, ⟨rfl, trivial⟩⟩⟩⟩⟩) (hj107 s13.2)
    refine x_if_ge (tgt := 60) dX6_settle_53 (by decide) (fun _ => ?_) (fun _ => ?_)
    · refine x_aload_n dX6_settle_60 rfl ?_
      refine gfX6_53 rfl dX6_settle_61 (fun x38 => ?_)
      refine x_iload dX6_settle_64 rfl ?_
      refine cmX6_97 rfl hs (Nat.le_of_ble_eq_true rfl) dX6_settle_66 (fun x40 M39 => ?_)
      refine ccX6_135 rfl dX6_settle_69 ?_
      exact x_weak (by exact ⟨rfl, ⟨rfl, ⟨rfl, ⟨rfl, ⟨rfl, trivial⟩⟩⟩⟩⟩) (hj72 (x40, M39))
    · refine x_null dX6_settle_56 ?_
      refine x_goto (tgt := 72) dX6_settle_57 (by decide) ?_
      exact x_weak (by exact ⟨rfl, ⟨rfl, ⟨rfl, ⟨rfl, ⟨rfl, trivial⟩⟩⟩⟩⟩) (hj72 (none, M11))
  refine x_if_ne (tgt := 28) dX6_settle_21 (by decide) (fun _ => ?_) (fun _ => ?_)
  · refine x_iload_n dX6_settle_24 rfl ?_
    refine x_goto (tgt := 33) dX6_settle_25 (by decide) ?_
    exact x_weak (by exact ⟨rfl, ⟨rfl, ⟨rfl, trivial⟩⟩⟩) (hj33 (x3, M0))
  · refine x_aload_n dX6_settle_28 rfl ?_
    refine x_lload_n dX6_settle_29 rfl ?_
    refine cmX6_148 rfl hs (Nat.le_of_ble_eq_true rfl) dX6_settle_30 (fun x42 M41 => ?_)
    exact x_weak (by exact ⟨rfl, ⟨rfl, ⟨rfl, trivial⟩⟩⟩) (hj33 (x42, M41))
theorem s108 {l : Launch} {d : Nat} {rec : Nat → List Value → Mem → XA} (hS : Nonempty XS) (hs : XSnd l xmt rec d) : Snd1 l 108 (b108 rec) d := by
  intro as M r M' h0
  unfold b108 at h0
  obtain ⟨a0, l1, e1, h1⟩ := aR_inv h0
  obtain ⟨a1, l2, e2, h2⟩ := aI_inv h1
  obtain ⟨ez, h⟩ := aZ_inv h2
  subst ez
  subst e2
  subst e1
  exact xmet (M := M) (as := [va_rf a0, .int a1]) (lo := [some (va_rf a0), some (.int a1)]) 108 xq108 xm108 (by rw [xargs_rf, xargs_i, xargs_nil]; exact ⟨rfl, ⟨rfl, trivial⟩⟩) (by rw [xargs_rf, xargs_i, xargs_nil]; exact Nat.le_of_ble_eq_true rfl) (fun S G K => x_weak (by exact ⟨rfl, ⟨rfl, trivial⟩⟩) (k108 hs a0 a1 M)) h hS
set_option maxRecDepth 100000 in
def c109 (rec : Nat → List Value → Mem → XA) (a0 : Option Nat) (a1 : Option Nat) (a2 : Int32) (M0 : Mem) : XA :=
  gtP (7, 20) M0 a0 17 fun x1 =>
  alP 113 M0 x1 ((0 : Int32)) fun x2 =>
  alI 100 M0 x2 a2 fun x3 =>
  swI x3 [
   ((1 : Int32), (
      gtI (8, 9) M0 a1 2 fun x4 =>
      jn (fun (s5 : Int32) =>
        rtZ s5 M0) fun j49 =>
      if ((2 : Int32)) < x4 then (
        j49 ((0 : Int32))) else (
        j49 ((1 : Int32))))),
   ((2 : Int32), (
      gtI (8, 9) M0 a1 2 fun x6 =>
      jn (fun (s7 : Int32) =>
        rtZ s7 M0) fun j71 =>
      jn (fun (s8 : Unit) =>
        j71 ((1 : Int32))) fun j66 =>
      if x6 = ((1 : Int32)) then (
        j66 ()) else (
        gtI (8, 9) M0 a1 2 fun x9 =>
        if x9 = ((2 : Int32)) then (
          j66 ()) else (
          j71 ((0 : Int32)))))),
   ((3 : Int32), (
      gtI (8, 9) M0 a1 2 fun x10 =>
      jn (fun (s11 : Int32) =>
        rtZ s11 M0) fun j85 =>
      if x10 = ((3 : Int32)) then (
        j85 ((1 : Int32))) else (
        j85 ((0 : Int32)))))] (
    gtI (8, 9) M0 a1 2 fun x12 =>
    jn (fun (s13 : Int32) =>
      rtZ s13 M0) fun j114 =>
    jn (fun (s14 : Unit) =>
      j114 ((0 : Int32))) fun j113 =>
    if x12 = ((4 : Int32)) then (
      gtI (8, 9) M0 a1 4 fun x15 =>
      gtP (7, 20) M0 a0 17 fun x16 =>
      alP 113 M0 x16 ((2 : Int32)) fun x17 =>
      alI 100 M0 x17 a2 fun x18 =>
      if x15 = x18 then (
        j114 ((1 : Int32))) else (
        j113 ())) else (
      j113 ()))
def b109 (rec : Nat → List Value → Mem → XA) (as : List Value) (M0 : Mem) : XA := aR as fun a0 as => aR as fun a1 as => aI as fun a2 as => aZ as (c109 rec a0 a1 a2 M0)
set_option maxRecDepth 100000 in
set_option maxHeartbeats 4000000 in
theorem k109 {S : XS} {G : XG} {K : Nat × Nat} {l : Launch} {d : Nat} {rec : Nat → List Value → Mem → XA} (hs : XSnd l xmt rec d) (a0 : Option Nat) (a1 : Option Nat) (a2 : Int32) (M0 : Mem) : Xe S G K l (yX6_suits, cX6_suits, 3, some .boolean) d 0 [some (va_rf a0), some (va_rf a1), some (.int a2)] [] M0 (c109 rec a0 a1 a2 M0) := by
  unfold c109
  refine x_aload_n dX6_suits_0 rfl ?_
  refine gfX6_38 rfl dX6_suits_1 (fun x1 => ?_)
  refine x_iconst (v := 0) dX6_suits_4 (by decide) ?_
  refine x_aldg (t := 113) (tn := 8) (by decide) (by decide) rfl rfl dX6_suits_5 (fun x2 => ?_)
  refine x_iload_n dX6_suits_6 rfl ?_
  refine x_iald dX6_suits_7 (fun x3 => ?_)
  refine x_table (tgt := 86) dX6_suits_8 [(1, 36), (2, 50), (3, 72)] (by decide +kernel) (by decide +kernel) (by decide) ?_ ?_
  · refine swG_d (by decide) ?_ (swG_d (by decide) ?_ (swG_d (by decide) ?_ (trivial)))
    · refine x_aload_n dX6_suits_36 rfl ?_
      refine gfX6_335 rfl dX6_suits_37 (fun x4 => ?_)
      refine x_iconst (v := 2) dX6_suits_40 (by decide) ?_
      refine x_jn (σ := Int32) 49 (fun s5 => [none, none, none]) (fun s5 => [.int s5]) (fun s5 => M0) (fun s5 => ?_) (fun j49 hj49 => ?_)
      · exact x_zret rfl dX6_suits_49
      refine x_icmp_gt (tgt := 48) dX6_suits_41 (by decide) (fun _ => ?_) (fun _ => ?_)
      · refine x_iconst (v := 0) dX6_suits_48 (by decide) ?_
        exact x_weak (by exact trivial) (hj49 ((0 : Int32)))
      · refine x_iconst (v := 1) dX6_suits_44 (by decide) ?_
        refine x_goto (tgt := 49) dX6_suits_45 (by decide) ?_
        exact x_weak (by exact trivial) (hj49 ((1 : Int32)))
    · refine x_aload_n dX6_suits_50 rfl ?_
      refine gfX6_335 rfl dX6_suits_51 (fun x6 => ?_)
      refine x_iconst (v := 1) dX6_suits_54 (by decide) ?_
      refine x_jn (σ := Int32) 71 (fun s7 => [none, none, none]) (fun s7 => [.int s7]) (fun s7 => M0) (fun s7 => ?_) (fun j71 hj71 => ?_)
      · exact x_zret rfl dX6_suits_71
      refine x_jn (σ := Unit) 66 (fun s8 => [none, none, none]) (fun s8 => []) (fun s8 => M0) (fun s8 => ?_) (fun j66 hj66 => ?_)
      · refine x_iconst (v := 1) dX6_suits_66 (by decide) ?_
        refine x_goto (tgt := 71) dX6_suits_67 (by decide) ?_
        exact x_weak (by exact trivial) (hj71 ((1 : Int32)))
      refine x_icmp_eq (tgt := 66) dX6_suits_55 (by decide) (fun _ => ?_) (fun _ => ?_)
      · exact x_weak (by exact trivial) (hj66 ())
      · refine x_aload_n dX6_suits_58 rfl ?_
        refine gfX6_335 rfl dX6_suits_59 (fun x9 => ?_)
        refine x_iconst (v := 2) dX6_suits_62 (by decide) ?_
        refine x_icmp_ne (tgt := 70) dX6_suits_63 (by decide) (fun _ => ?_) (fun _ => ?_)
        · exact x_weak (by exact trivial) (hj66 ())
        · refine x_iconst (v := 0) dX6_suits_70 (by decide) ?_
          exact x_weak (by exact trivial) (hj71 ((0 : Int32)))
    · refine x_aload_n dX6_suits_72 rfl ?_
      refine gfX6_335 rfl dX6_suits_73 (fun x10 => ?_)
      refine x_iconst (v := 3) dX6_suits_76 (by decide) ?_
      refine x_jn (σ := Int32) 85 (fun s11 => [none, none, none]) (fun s11 => [.int s11]) (fun s11 => M0) (fun s11 => ?_) (fun j85 hj85 => ?_)
      · exact x_zret rfl dX6_suits_85
      refine x_icmp_ne (tgt := 84) dX6_suits_77 (by decide) (fun _ => ?_) (fun _ => ?_)
      · refine x_iconst (v := 1) dX6_suits_80 (by decide) ?_
        refine x_goto (tgt := 85) dX6_suits_81 (by decide) ?_
        exact x_weak (by exact trivial) (hj85 ((1 : Int32)))
      · refine x_iconst (v := 0) dX6_suits_84 (by decide) ?_
        exact x_weak (by exact trivial) (hj85 ((0 : Int32)))
  · refine x_aload_n dX6_suits_86 rfl ?_
    refine gfX6_335 rfl dX6_suits_87 (fun x12 => ?_)
    refine x_iconst (v := 4) dX6_suits_90 (by decide) ?_
    refine x_jn (σ := Int32) 114 (fun s13 => [none, none, none]) (fun s13 => [.int s13]) (fun s13 => M0) (fun s13 => ?_) (fun j114 hj114 => ?_)
    · exact x_zret rfl dX6_suits_114
    refine x_jn (σ := Unit) 113 (fun s14 => [none, none, none]) (fun s14 => []) (fun s14 => M0) (fun s14 => ?_) (fun j113 hj113 => ?_)
    · refine x_iconst (v := 0) dX6_suits_113 (by decide) ?_
      exact x_weak (by exact trivial) (hj114 ((0 : Int32)))
    refine x_icmp_ne (tgt := 113) dX6_suits_91 (by decide) (fun _ => ?_) (fun _ => ?_)
    · refine x_aload_n dX6_suits_94 rfl ?_
      refine gfX6_208 rfl dX6_suits_95 (fun x15 => ?_)
      refine x_aload_n dX6_suits_98 rfl ?_
      refine gfX6_38 rfl dX6_suits_99 (fun x16 => ?_)
      refine x_iconst (v := 2) dX6_suits_102 (by decide) ?_
      refine x_aldg (t := 113) (tn := 8) (by decide) (by decide) rfl rfl dX6_suits_103 (fun x17 => ?_)
      refine x_iload_n dX6_suits_104 rfl ?_
      refine x_iald dX6_suits_105 (fun x18 => ?_)
      refine x_icmp_ne (tgt := 113) dX6_suits_106 (by decide) (fun _ => ?_) (fun _ => ?_)
      · refine x_iconst (v := 1) dX6_suits_109 (by decide) ?_
        refine x_goto (tgt := 114) dX6_suits_110 (by decide) ?_
        exact x_weak (by exact trivial) (hj114 ((1 : Int32)))
      · exact x_weak (by exact trivial) (hj113 ())
    · exact x_weak (by exact trivial) (hj113 ())
theorem s109 {l : Launch} {d : Nat} {rec : Nat → List Value → Mem → XA} (hS : Nonempty XS) (hs : XSnd l xmt rec d) : Snd1 l 109 (b109 rec) d := by
  intro as M r M' h0
  unfold b109 at h0
  obtain ⟨a0, l1, e1, h1⟩ := aR_inv h0
  obtain ⟨a1, l2, e2, h2⟩ := aR_inv h1
  obtain ⟨a2, l3, e3, h3⟩ := aI_inv h2
  obtain ⟨ez, h⟩ := aZ_inv h3
  subst ez
  subst e3
  subst e2
  subst e1
  exact xmet (M := M) (as := [va_rf a0, va_rf a1, .int a2]) (lo := [some (va_rf a0), some (va_rf a1), some (.int a2)]) 109 xq109 xm109 (by rw [xargs_rf, xargs_rf, xargs_i, xargs_nil]; exact ⟨rfl, ⟨rfl, ⟨rfl, trivial⟩⟩⟩) (by rw [xargs_rf, xargs_rf, xargs_i, xargs_nil]; exact Nat.le_of_ble_eq_true rfl) (fun S G K => x_weak (by exact ⟨rfl, ⟨rfl, ⟨rfl, trivial⟩⟩⟩) (k109 hs a0 a1 a2 M)) h hS
