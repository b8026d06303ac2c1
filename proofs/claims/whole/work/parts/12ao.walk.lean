set_option maxRecDepth 100000 in
def c223 (rec : Nat → List Value → Mem → XA) (a0 : Option Nat) (M0 : Mem) : XA :=
  lp (fun (s1 : Int32 × Mem) j2 =>
    if s1.1 = 0 then (
      some (.null, s1.2)) else (
      gtI (13, 157) s1.2 a0 41 fun x2 =>
      if x2 = 0 then (
        gtI (13, 157) s1.2 a0 36 fun x3 =>
        jn (fun (s4 : Int32) =>
          vC (13, 157) s1.2 a0 <|
          cI (rec 193 [va_rf a0, .int s4] s1.2) fun x6 M5 =>
          if x6 = 0 then (
            j2 ((0 : Int32), M5)) else (
            gtL (13, 157) M5 a0 39 fun x7 =>
            vC (13, 157) M5 a0 <|
            cI (rec 197 [va_rf a0, .long x7] M5) fun x9 M8 =>
            jn (fun (s10 : Int32) =>
              vC (13, 157) M8 a0 <|
              cI (rec 194 [va_rf a0, .int s10, .int ((3 : Int32))] M8) fun x12 M11 =>
              if x12 = 0 then (
                j2 ((0 : Int32), M11)) else (
                gtI (13, 157) M11 a0 51 fun x13 =>
                jn (fun (s14 : Int32) =>
                  vC (13, 157) M11 a0 <|
                  cI (rec 194 [va_rf a0, .int s14, .int ((6 : Int32))] M11) fun x16 M15 =>
                  if x16 = 0 then (
                    j2 ((0 : Int32), M15)) else (
                    gtL (13, 157) M15 a0 39 fun x17 =>
                    vC (13, 157) M15 a0 <|
                    cV (rec 199 [va_rf a0, .long x17] M15) fun M18 =>
                    vC (13, 157) M18 a0 <|
                    cV (rec 191 [va_rf a0] M18) fun M19 =>
                    gtI (13, 157) M19 a0 41 fun x20 =>
                    jn (fun (s21 : Int32) =>
                      if s21 = 0 then (
                        j2 (s21, M19)) else (
                        vC (13, 157) M19 a0 <|
                        cV (rec 191 [va_rf a0] M19) fun M22 =>
                        j2 (s21, M22))) fun j114 =>
                    jn (fun (s23 : Unit) =>
                      j114 ((0 : Int32))) fun j113 =>
                    if x20 = 0 then (
                      gtI (13, 157) M19 a0 36 fun x24 =>
                      if x24 = ((44 : Int32)) then (
                        j114 ((1 : Int32))) else (
                        j113 ())) else (
                      j113 ()))) fun j73 =>
                if ((4 : Int32)) ≤ x13 then (
                  j73 ((0 : Int32))) else (
                  j73 ((1 : Int32))))) fun j52 =>
            if 0 ≤ x9 then (
              j52 ((0 : Int32))) else (
              j52 ((1 : Int32))))) fun j29 =>
        if x3 = ((1 : Int32)) then (
          j29 ((1 : Int32))) else (
          j29 ((0 : Int32)))) else (
        j2 ((0 : Int32), s1.2)))) 4294967296 ((1 : Int32), M0)
def b223 (rec : Nat → List Value → Mem → XA) (as : List Value) (M0 : Mem) : XA := aR as fun a0 as => aZ as (c223 rec a0 M0)
set_option maxRecDepth 100000 in
set_option maxHeartbeats 4000000 in
theorem k223 {S : XS} {G : XG} {K : Nat × Nat} {l : Launch} {d : Nat} {rec : Nat → List Value → Mem → XA} (hs : XSnd l xmt rec d) (a0 : Option Nat) (M0 : Mem) : Xe S G K l (yX12_parameters, cX12_parameters, 2, none) d 0 [some (va_rf a0), none] [] M0 (c223 rec a0 M0) := by
  unfold c223
  refine x_iconst (v := 1) dX12_parameters_0 (by decide) ?_
  refine x_istore_n (lo' := [some (va_rf a0), some (.int ((1 : Int32)))]) dX12_parameters_1 (by decide) (xok_r rfl) rfl ?_
  refine x_weak (by exact ⟨rfl, ⟨rfl, trivial⟩⟩) (x_lp (σ := Int32 × Mem) 2 (fun s1 => [some (va_rf a0), some (.int s1.1)]) (fun s1 => []) (fun s1 => s1.2) (fun s1 j2 hj2 => ?_) 4294967296 ((1 : Int32), M0))
  · refine x_iload_n dX12_parameters_2 rfl ?_
    refine x_if_eq (tgt := 126) dX12_parameters_3 (by decide) (fun _ => ?_) (fun _ => ?_)
    · exact x_vret rfl dX12_parameters_126
    · refine x_iconst (v := 0) dX12_parameters_6 (by decide) ?_
      refine x_istore_n (lo' := [some (va_rf a0), some (.int ((0 : Int32)))]) dX12_parameters_7 (by decide) (xok_r rfl) rfl ?_
      refine x_aload_n dX12_parameters_8 rfl ?_
      refine gfX12_395 rfl dX12_parameters_9 (fun x2 => ?_)
      refine x_if_ne (tgt := 2) dX12_parameters_12 (by decide) (fun _ => ?_) (fun _ => ?_)
      · refine x_aload_n dX12_parameters_15 rfl ?_
        refine x_aload_n dX12_parameters_16 rfl ?_
        refine gfX12_408 rfl dX12_parameters_17 (fun x3 => ?_)
        refine x_iconst (v := 1) dX12_parameters_20 (by decide) ?_
        refine x_jn (σ := Int32) 29 (fun s4 => [some (va_rf a0), some (.int ((0 : Int32)))]) (fun s4 => [.int s4, va_rf a0]) (fun s4 => s1.2) (fun s4 => ?_) (fun j29 hj29 => ?_)
        · refine cmX12_432 rfl hs (Nat.le_of_ble_eq_true rfl) dX12_parameters_29 (fun x6 M5 => ?_)
          refine x_if_eq (tgt := 2) dX12_parameters_32 (by decide) (fun _ => ?_) (fun _ => ?_)
          · exact x_weak (by exact ⟨rfl, ⟨rfl, trivial⟩⟩) (hj2 ((0 : Int32), M5))
          · refine x_aload_n dX12_parameters_35 rfl ?_
            refine x_aload_n dX12_parameters_36 rfl ?_
            refine x_aload_n dX12_parameters_37 rfl ?_
            refine gfX12_415 rfl dX12_parameters_38 (fun x7 => ?_)
            refine cmX12_451 rfl hs (Nat.le_of_ble_eq_true rfl) dX12_parameters_41 (fun x9 M8 => ?_)
            refine x_jn (σ := Int32) 52 (fun s10 => [some (va_rf a0), some (.int ((0 : Int32)))]) (fun s10 => [.int s10, va_rf a0]) (fun s10 => M8) (fun s10 => ?_) (fun j52 hj52 => ?_)
            · refine x_iconst (v := 3) dX12_parameters_52 (by decide) ?_
              refine cmX12_455 rfl hs (Nat.le_of_ble_eq_true rfl) dX12_parameters_53 (fun x12 M11 => ?_)
              refine x_if_eq (tgt := 2) dX12_parameters_56 (by decide) (fun _ => ?_) (fun _ => ?_)
              · exact x_weak (by exact ⟨rfl, ⟨rfl, trivial⟩⟩) (hj2 ((0 : Int32), M11))
              · refine x_aload_n dX12_parameters_59 rfl ?_
                refine x_aload_n dX12_parameters_60 rfl ?_
                refine gfX12_448 rfl dX12_parameters_61 (fun x13 => ?_)
                refine x_iconst (v := 4) dX12_parameters_64 (by decide) ?_
                refine x_jn (σ := Int32) 73 (fun s14 => [some (va_rf a0), some (.int ((0 : Int32)))]) (fun s14 => [.int s14, va_rf a0]) (fun s14 => M11) (fun s14 => ?_) (fun j73 hj73 => ?_)
                · refine x_bipush (v := 6) dX12_parameters_73 (by decide) ?_
                  refine cmX12_455 rfl hs (Nat.le_of_ble_eq_true rfl) dX12_parameters_75 (fun x16 M15 => ?_)
                  refine x_if_eq (tgt := 2) dX12_parameters_78 (by decide) (fun _ => ?_) (fun _ => ?_)
                  · exact x_weak (by exact ⟨rfl, ⟨rfl, trivial⟩⟩) (hj2 ((0 : Int32), M15))
                  · refine x_aload_n dX12_parameters_81 rfl ?_
                    refine x_aload_n dX12_parameters_82 rfl ?_
                    refine gfX12_415 rfl dX12_parameters_83 (fun x17 => ?_)
                    refine cmX12_520 rfl hs (Nat.le_of_ble_eq_true rfl) dX12_parameters_86 (fun M18 => ?_)
                    refine x_aload_n dX12_parameters_89 rfl ?_
                    refine cmX12_436 rfl hs (Nat.le_of_ble_eq_true rfl) dX12_parameters_90 (fun M19 => ?_)
                    refine x_aload_n dX12_parameters_93 rfl ?_
                    refine gfX12_395 rfl dX12_parameters_94 (fun x20 => ?_)
                    refine x_jn (σ := Int32) 114 (fun s21 => [some (va_rf a0), none]) (fun s21 => [.int s21]) (fun s21 => M19) (fun s21 => ?_) (fun j114 hj114 => ?_)
                    · refine x_istore_n (lo' := [some (va_rf a0), some (.int s21)]) dX12_parameters_114 (by decide) (xok_r rfl) rfl ?_
                      refine x_iload_n dX12_parameters_115 rfl ?_
                      refine x_if_eq (tgt := 2) dX12_parameters_116 (by decide) (fun _ => ?_) (fun _ => ?_)
                      · exact x_weak (by exact ⟨rfl, ⟨rfl, trivial⟩⟩) (hj2 (s21, M19))
                      · refine x_aload_n dX12_parameters_119 rfl ?_
                        refine cmX12_436 rfl hs (Nat.le_of_ble_eq_true rfl) dX12_parameters_120 (fun M22 => ?_)
                        refine x_goto (tgt := 2) dX12_parameters_123 (by decide) ?_
                        exact x_weak (by exact ⟨rfl, ⟨rfl, trivial⟩⟩) (hj2 (s21, M22))
                    refine x_jn (σ := Unit) 113 (fun s23 => [some (va_rf a0), none]) (fun s23 => []) (fun s23 => M19) (fun s23 => ?_) (fun j113 hj113 => ?_)
                    · refine x_iconst (v := 0) dX12_parameters_113 (by decide) ?_
                      exact x_weak (by exact ⟨rfl, trivial⟩) (hj114 ((0 : Int32)))
                    refine x_if_ne (tgt := 113) dX12_parameters_97 (by decide) (fun _ => ?_) (fun _ => ?_)
                    · refine x_aload_n dX12_parameters_100 rfl ?_
                      refine gfX12_408 rfl dX12_parameters_101 (fun x24 => ?_)
                      refine x_bipush (v := 44) dX12_parameters_104 (by decide) ?_
                      refine x_icmp_ne (tgt := 113) dX12_parameters_106 (by decide) (fun _ => ?_) (fun _ => ?_)
                      · refine x_iconst (v := 1) dX12_parameters_109 (by decide) ?_
                        refine x_goto (tgt := 114) dX12_parameters_110 (by decide) ?_
                        exact x_weak (by exact ⟨rfl, trivial⟩) (hj114 ((1 : Int32)))
                      · exact x_weak (by exact ⟨rfl, trivial⟩) (hj113 ())
                    · exact x_weak (by exact ⟨rfl, trivial⟩) (hj113 ())
                refine x_icmp_ge (tgt := 72) dX12_parameters_65 (by decide) (fun _ => ?_) (fun _ => ?_)
                · refine x_iconst (v := 0) dX12_parameters_72 (by decide) ?_
                  exact x_weak (by exact ⟨rfl, ⟨rfl, trivial⟩⟩) (hj73 ((0 : Int32)))
                · refine x_iconst (v := 1) dX12_parameters_68 (by decide) ?_
                  refine x_goto (tgt := 73) dX12_parameters_69 (by decide) ?_
                  exact x_weak (by exact ⟨rfl, ⟨rfl, trivial⟩⟩) (hj73 ((1 : Int32)))
            refine x_if_ge (tgt := 51) dX12_parameters_44 (by decide) (fun _ => ?_) (fun _ => ?_)
            · refine x_iconst (v := 0) dX12_parameters_51 (by decide) ?_
              exact x_weak (by exact ⟨rfl, ⟨rfl, trivial⟩⟩) (hj52 ((0 : Int32)))
            · refine x_iconst (v := 1) dX12_parameters_47 (by decide) ?_
              refine x_goto (tgt := 52) dX12_parameters_48 (by decide) ?_
              exact x_weak (by exact ⟨rfl, ⟨rfl, trivial⟩⟩) (hj52 ((1 : Int32)))
        refine x_icmp_ne (tgt := 28) dX12_parameters_21 (by decide) (fun _ => ?_) (fun _ => ?_)
        · refine x_iconst (v := 1) dX12_parameters_24 (by decide) ?_
          refine x_goto (tgt := 29) dX12_parameters_25 (by decide) ?_
          exact x_weak (by exact ⟨rfl, ⟨rfl, trivial⟩⟩) (hj29 ((1 : Int32)))
        · refine x_iconst (v := 0) dX12_parameters_28 (by decide) ?_
          exact x_weak (by exact ⟨rfl, ⟨rfl, trivial⟩⟩) (hj29 ((0 : Int32)))
      · exact x_weak (by exact ⟨rfl, ⟨rfl, trivial⟩⟩) (hj2 ((0 : Int32), s1.2))
theorem s223 {l : Launch} {d : Nat} {rec : Nat → List Value → Mem → XA} (hS : Nonempty XS) (hs : XSnd l xmt rec d) : Snd1 l 223 (b223 rec) d := by
  intro as M r M' h0
  unfold b223 at h0
  obtain ⟨a0, l1, e1, h1⟩ := aR_inv h0
  obtain ⟨ez, h⟩ := aZ_inv h1
  subst ez
  subst e1
  exact xmet (M := M) (as := [va_rf a0]) (lo := [some (va_rf a0)]) 223 xq223 xm223 (by rw [xargs_rf, xargs_nil]; exact ⟨rfl, trivial⟩) (by rw [xargs_rf, xargs_nil]; exact Nat.le_of_ble_eq_true rfl) (fun S G K => x_weak (by exact ⟨rfl, trivial⟩) (k223 hs a0 M)) h hS
set_option maxRecDepth 100000 in
def c224 (rec : Nat → List Value → Mem → XA) (a0 : Option Nat) (a1 : Int32) (a2 : Int64) (a3 : Int32) (a4 : Int32) (a5 : Int32) (M0 : Mem) : XA :=
  gtP (13, 157) M0 a0 17 fun x1 =>
  alI 100 M0 x1 a1 fun x2 =>
  lt ((((16 : Int32)) * a1) + x2) fun (x3 : Int32) =>
  gtP (13, 157) M0 a0 17 fun x4 =>
  alI 100 M0 x4 a1 fun x5 =>
  asI 100 M0 x4 a1 ((x5 + ((1 : Int32)))) fun M6 =>
  gtP (13, 157) M6 a0 18 fun x7 =>
  asL M6 x7 x3 a2 fun M8 =>
  gtP (13, 157) M8 a0 19 fun x9 =>
  gtI (13, 157) M8 a0 49 fun x10 =>
  asI 100 M8 x9 x3 x10 fun M11 =>
  gtP (13, 157) M11 a0 21 fun x12 =>
  asI 100 M11 x12 x3 a3 fun M13 =>
  gtP (13, 157) M13 a0 22 fun x14 =>
  asI 102 M13 x14 x3 ((znar a4)) fun M15 =>
  gtP (13, 157) M15 a0 20 fun x16 =>
  asI 100 M15 x16 x3 a5 fun M17 =>
  some (.null, M17)
def b224 (rec : Nat → List Value → Mem → XA) (as : List Value) (M0 : Mem) : XA := aR as fun a0 as => aI as fun a1 as => aL as fun a2 as => aI as fun a3 as => aI as fun a4 as => aI as fun a5 as => aZ as (c224 rec a0 a1 a2 a3 a4 a5 M0)
set_option maxRecDepth 100000 in
set_option maxHeartbeats 4000000 in
theorem k224 {S : XS} {G : XG} {K : Nat × Nat} {l : Launch} {d : Nat} {rec : Nat → List Value → Mem → XA} (hs : XSnd l xmt rec d) (a0 : Option Nat) (a1 : Int32) (a2 : Int64) (a3 : Int32) (a4 : Int32) (a5 : Int32) (M0 : Mem) : Xe S G K l (yX12_newCase, cX12_newCase, 8, none) d 0 [some (va_rf a0), some (.int a1), some (.long a2), none, some (.int a3), some (.int a4), some (.int a5), none] [] M0 (c224 rec a0 a1 a2 a3 a4 a5 M0) := by
  unfold c224
  refine x_bipush (v := 16) dX12_newCase_0 (by decide) ?_
  refine x_iload_n dX12_newCase_2 rfl ?_
  refine x_imul dX12_newCase_3 ?_
  refine x_aload_n dX12_newCase_4 rfl ?_
  refine gfX12_58 rfl dX12_newCase_5 (fun x1 => ?_)
  refine x_iload_n dX12_newCase_8 rfl ?_
  refine x_iald dX12_newCase_9 (fun x2 => ?_)
  refine x_iadd dX12_newCase_10 ?_
  refine x_ltI (fun x3 => ?_)
  refine x_istore (lo' := [some (va_rf a0), some (.int a1), some (.long a2), none, some (.int a3), some (.int a4), some (.int a5), some (.int x3)]) dX12_newCase_11 (by decide) rfl rfl ?_
  refine x_aload_n dX12_newCase_13 rfl ?_
  refine gfX12_58 rfl dX12_newCase_14 (fun x4 => ?_)
  refine x_iload_n dX12_newCase_17 rfl ?_
  refine x_dup2 dX12_newCase_18 (xc1_i _) (xc1_r _) ?_
  refine x_iald dX12_newCase_19 (fun x5 => ?_)
  refine x_iconst (v := 1) dX12_newCase_20 (by decide) ?_
  refine x_iadd dX12_newCase_21 ?_
  refine x_iast dX12_newCase_22 (fun M6 => ?_)
  refine x_aload_n dX12_newCase_23 rfl ?_
  refine gfX12_61 rfl dX12_newCase_24 (fun x7 => ?_)
  refine x_iload dX12_newCase_27 rfl ?_
  refine x_lload_n dX12_newCase_29 rfl ?_
  refine x_last dX12_newCase_30 (fun M8 => ?_)
  refine x_aload_n dX12_newCase_31 rfl ?_
  refine gfX12_64 rfl dX12_newCase_32 (fun x9 => ?_)
  refine x_iload dX12_newCase_35 rfl ?_
  refine x_aload_n dX12_newCase_37 rfl ?_
  refine gfX12_442 rfl dX12_newCase_38 (fun x10 => ?_)
  refine x_iast dX12_newCase_41 (fun M11 => ?_)
  refine x_aload_n dX12_newCase_42 rfl ?_
  refine gfX12_70 rfl dX12_newCase_43 (fun x12 => ?_)
  refine x_iload dX12_newCase_46 rfl ?_
  refine x_iload dX12_newCase_48 rfl ?_
  refine x_iast dX12_newCase_50 (fun M13 => ?_)
  refine x_aload_n dX12_newCase_51 rfl ?_
  refine gfX12_73 rfl dX12_newCase_52 (fun x14 => ?_)
  refine x_iload dX12_newCase_55 rfl ?_
  refine x_iload dX12_newCase_57 rfl ?_
  refine x_zast dX12_newCase_59 (fun M15 => ?_)
  refine x_aload_n dX12_newCase_60 rfl ?_
  refine gfX12_67 rfl dX12_newCase_61 (fun x16 => ?_)
  refine x_iload dX12_newCase_64 rfl ?_
  refine x_iload dX12_newCase_66 rfl ?_
  refine x_iast dX12_newCase_68 (fun M17 => ?_)
  exact x_vret rfl dX12_newCase_69
theorem s224 {l : Launch} {d : Nat} {rec : Nat → List Value → Mem → XA} (hS : Nonempty XS) (hs : XSnd l xmt rec d) : Snd1 l 224 (b224 rec) d := by
  intro as M r M' h0
  unfold b224 at h0
  obtain ⟨a0, l1, e1, h1⟩ := aR_inv h0
  obtain ⟨a1, l2, e2, h2⟩ := aI_inv h1
  obtain ⟨a2, l3, e3, h3⟩ := aL_inv h2
  obtain ⟨a3, l4, e4, h4⟩ := aI_inv h3
  obtain ⟨a4, l5, e5, h5⟩ := aI_inv h4
  obtain ⟨a5, l6, e6, h6⟩ := aI_inv h5
  obtain ⟨ez, h⟩ := aZ_inv h6
  subst ez
  subst e6
  subst e5
  subst e4
  subst e3
  subst e2
  subst e1
  exact xmet (M := M) (as := [va_rf a0, .int a1, .long a2, .int a3, .int a4, .int a5]) (lo := [some (va_rf a0), some (.int a1), some (.long a2), none, some (.int a3), some (.int a4), some (.int a5)]) 224 xq224 xm224 (by rw [xargs_rf, xargs_i, xargs_l, xargs_i, xargs_i, xargs_i, xargs_nil]; exact ⟨rfl, ⟨rfl, ⟨rfl, ⟨rfl, ⟨rfl, ⟨rfl, trivial⟩⟩⟩⟩⟩⟩) (by rw [xargs_rf, xargs_i, xargs_l, xargs_i, xargs_i, xargs_i, xargs_nil]; exact Nat.le_of_ble_eq_true rfl) (fun S G K => x_weak (by exact ⟨rfl, ⟨rfl, ⟨rfl, ⟨rfl, ⟨rfl, ⟨rfl, trivial⟩⟩⟩⟩⟩⟩) (k224 hs a0 a1 a2 a3 a4 a5 M)) h hS
set_option maxRecDepth 100000 in
def c225 (rec : Nat → List Value → Mem → XA) (a0 : Option Nat) (a1 : Int32) (M0 : Mem) : XA :=
  vC (13, 157) M0 a0 <|
  cV (rec 191 [va_rf a0] M0) fun M1 =>
  gtI (13, 157) M1 a0 41 fun x2 =>
  jn (fun (s3 : Mem) =>
    some (.null, s3)) fun j81 =>
  if x2 = 0 then (
    gtI (13, 157) M1 a0 36 fun x4 =>
    jn (fun (s5 : Int32) =>
      vC (13, 157) M1 a0 <|
      cI (rec 193 [va_rf a0, .int s5] M1) fun x7 M6 =>
      if x7 = 0 then (
        j81 M6) else (
        gtL (13, 157) M6 a0 39 fun x8 =>
        vC (13, 157) M6 a0 <|
        cI (rec 220 [va_rf a0, .int a1, .long x8] M6) fun x10 M9 =>
        jn (fun (s11 : Int32) =>
          vC (13, 157) M9 a0 <|
          cI (rec 194 [va_rf a0, .int s11, .int ((3 : Int32))] M9) fun x13 M12 =>
          if x13 = 0 then (
            j81 M12) else (
            gtP (13, 157) M12 a0 17 fun x14 =>
            alI 100 M12 x14 a1 fun x15 =>
            jn (fun (s16 : Int32) =>
              vC (13, 157) M12 a0 <|
              cI (rec 194 [va_rf a0, .int s16, .int ((6 : Int32))] M12) fun x18 M17 =>
              if x18 = 0 then (
                j81 M17) else (
                gtL (13, 157) M17 a0 39 fun x19 =>
                gtP (13, 157) M17 a0 17 fun x20 =>
                alI 100 M17 x20 a1 fun x21 =>
                vC (13, 157) M17 a0 <|
                cV (rec 191 [va_rf a0] M17) fun M22 =>
                gtI (13, 157) M22 a0 36 fun x23 =>
                jn (fun (s24 : Int32) =>
                  jn (fun (s25 : Mem) =>
                    gtI (13, 157) s25 a0 41 fun x26 =>
                    jn (fun (s27 : Int32 × Mem) =>
                      vC (13, 157) s27.2 a0 <|
                      cV (rec 224 [va_rf a0, .int a1, .long x19, .int s27.1, .int s24, .int ((0 : Int32))] s27.2) fun M28 =>
                      gtI (13, 157) M28 a0 41 fun x29 =>
                      jn (fun (s30 : Mem) =>
                        gtP (13, 157) s30 a0 52 fun x31 =>
                        asL s30 x31 ((0 : Int32)) ((26996 : Int64)) fun M32 =>
                        ptI (13, 157) M32 a0 51 ((1 : Int32)) fun M33 =>
                        vC (13, 157) M33 a0 <|
                        cI (rec 218 [va_rf a0, .int ((0 : Int32))] M33) fun x35 M34 =>
                        lp (fun (s36 : Int32 × Mem) j420 =>
                          gtP (13, 157) s36.2 a0 17 fun x37 =>
                          alI 100 s36.2 x37 a1 fun x38 =>
                          if x38 ≤ s36.1 then (
                            some (.null, s36.2)) else (
                            gtP (13, 157) s36.2 a0 23 fun x39 =>
                            asI 100 s36.2 x39 ((((16 : Int32)) * a1) + s36.1) x35 fun M40 =>
                            lt (s36.1 + (1 : Int32)) fun (x41 : Int32) =>
                            j420 (x41, M40))) 4294967296 (x21, M34)) fun j395 =>
                      if x29 = 0 then (
                        gtI (13, 157) M28 a0 36 fun x42 =>
                        if x42 = ((414 : Int32)) then (
                          lp (fun (s43 : Int32 × Int32 × Mem) j240 =>
                            if s43.2.1 = 0 then (
                              j395 s43.2.2) else (
                              vC (13, 157) s43.2.2 a0 <|
                              cV (rec 191 [va_rf a0] s43.2.2) fun M44 =>
                              gtI (13, 157) M44 a0 41 fun x45 =>
                              if x45 = 0 then (
                                gtI (13, 157) M44 a0 36 fun x46 =>
                                jn (fun (s47 : Int32) =>
                                  vC (13, 157) M44 a0 <|
                                  cI (rec 193 [va_rf a0, .int s47] M44) fun x49 M48 =>
                                  if x49 = 0 then (
                                    j240 (s43.1, (0 : Int32), M48)) else (
                                    jn (fun (s50 : Int32) =>
                                      vC (13, 157) M48 a0 <|
                                      cI (rec 194 [va_rf a0, .int s50, .int ((6 : Int32))] M48) fun x52 M51 =>
                                      if x52 = 0 then (
                                        j240 (s43.1, (0 : Int32), M51)) else (
                                        vC (13, 157) M51 a0 <|
                                        cV (rec 219 [va_rf a0] M51) fun M53 =>
                                        jn (fun (s54 : Mem) =>
                                          lt (s43.1 + (1 : Int32)) fun (x55 : Int32) =>
                                          gtI (13, 157) s54 a0 41 fun x56 =>
                                          jn (fun (s57 : Int32) =>
                                            j240 (x55, s57, s54)) fun j390 =>
                                          jn (fun (s58 : Unit) =>
                                            j390 ((0 : Int32))) fun j389 =>
                                          if x56 = 0 then (
                                            gtI (13, 157) s54 a0 36 fun x59 =>
                                            if x59 = ((44 : Int32)) then (
                                              j390 ((1 : Int32))) else (
                                              j389 ())) else (
                                            j389 ())) fun j366 =>
                                        if s43.1 = 0 then (
                                          gtP (13, 157) M53 a0 20 fun x60 =>
                                          gtI (13, 157) M53 a0 62 fun x61 =>
                                          asI 100 M53 x60 ((((16 : Int32)) * a1) + x21) x61 fun M62 =>
                                          j366 M62) else (
                                          gtI (13, 157) M53 a0 62 fun x63 =>
                                          vC (13, 157) M53 a0 <|
                                          cV (rec 224 [va_rf a0, .int a1, .long x19, .int s27.1, .int s24, .int x63] M53) fun M64 =>
                                          j366 M64))) fun j316 =>
                                    jn (fun (s65 : Unit) =>
                                      j316 ((0 : Int32))) fun j315 =>
                                    if ((4 : Int32)) ≤ s43.1 then (
                                      j315 ()) else (
                                      jn (fun (s66 : Unit) =>
                                        j316 ((1 : Int32))) fun j311 =>
                                      if s43.1 = 0 then (
                                        j311 ()) else (
                                        gtP (13, 157) M48 a0 17 fun x67 =>
                                        alI 100 M48 x67 a1 fun x68 =>
                                        if ((16 : Int32)) ≤ x68 then (
                                          j315 ()) else (
                                          j311 ()))))) fun j282 =>
                                jn (fun (s69 : Unit) =>
                                  j282 ((1 : Int32))) fun j277 =>
                                if x46 = ((45 : Int32)) then (
                                  j277 ()) else (
                                  gtI (13, 157) M44 a0 36 fun x70 =>
                                  if x70 = ((2 : Int32)) then (
                                    j277 ()) else (
                                    j282 ((0 : Int32))))) else (
                                j240 (s43.1, (0 : Int32), M44)))) 4294967296 ((0 : Int32), (1 : Int32), M28)) else (
                          j395 M28)) else (
                        j395 M28)) fun j206 =>
                    if x26 = 0 then (
                      gtI (13, 157) s25 a0 36 fun x71 =>
                      if x71 = ((413 : Int32)) then (
                        vC (13, 157) s25 a0 <|
                        cV (rec 191 [va_rf a0] s25) fun M72 =>
                        gtI (13, 157) M72 a0 41 fun x73 =>
                        if x73 = 0 then (
                          gtI (13, 157) M72 a0 36 fun x74 =>
                          jn (fun (s75 : Int32) =>
                            vC (13, 157) M72 a0 <|
                            cI (rec 193 [va_rf a0, .int s75] M72) fun x77 M76 =>
                            if x77 = 0 then (
                              j206 ((0 : Int32), M76)) else (
                              gtI (13, 157) M76 a0 40 fun x78 =>
                              jn (fun (s79 : Int32) =>
                                vC (13, 157) M76 a0 <|
                                cI (rec 194 [va_rf a0, .int s79, .int ((5 : Int32))] M76) fun x81 M80 =>
                                if x81 = 0 then (
                                  j206 ((0 : Int32), M80)) else (
                                  gtI (13, 157) M80 a0 40 fun x82 =>
                                  vC (13, 157) M80 a0 <|
                                  cV (rec 191 [va_rf a0] M80) fun M83 =>
                                  j206 (x82, M83))) fun j189 =>
                              if x78 ≤ 0 then (
                                j189 ((0 : Int32))) else (
                                j189 ((1 : Int32))))) fun j170 =>
                          if x74 = ((2 : Int32)) then (
                            j170 ((1 : Int32))) else (
                            j170 ((0 : Int32)))) else (
                          j206 ((0 : Int32), M72))) else (
                        j206 ((0 : Int32), s25))) else (
                      j206 ((0 : Int32), s25))) fun j125 =>
                  if s24 = 0 then (
                    j125 M22) else (
                    vC (13, 157) M22 a0 <|
                    cV (rec 191 [va_rf a0] M22) fun M84 =>
                    j125 M84)) fun j114 =>
                if x23 = ((412 : Int32)) then (
                  j114 ((1 : Int32))) else (
                  j114 ((0 : Int32))))) fun j73 =>
            if ((16 : Int32)) ≤ x15 then (
              j73 ((0 : Int32))) else (
              j73 ((1 : Int32))))) fun j49 =>
        if x10 = 0 then (
          j49 ((1 : Int32))) else (
          j49 ((0 : Int32))))) fun j25 =>
    if x4 = ((1 : Int32)) then (
      j25 ((1 : Int32))) else (
      j25 ((0 : Int32)))) else (
    j81 M1)
def b225 (rec : Nat → List Value → Mem → XA) (as : List Value) (M0 : Mem) : XA := aR as fun a0 as => aI as fun a1 as => aZ as (c225 rec a0 a1 M0)
set_option maxRecDepth 100000 in
set_option maxHeartbeats 4000000 in
theorem k225 {S : XS} {G : XG} {K : Nat × Nat} {l : Launch} {d : Nat} {rec : Nat → List Value → Mem → XA} (hs : XSnd l xmt rec d) (a0 : Option Nat) (a1 : Int32) (M0 : Mem) : Xe S G K l (yX12_test, cX12_test, 9, none) d 0 [some (va_rf a0), some (.int a1), none, none, none, none, none, none, none] [] M0 (c225 rec a0 a1 M0) := by
  unfold c225
  refine x_aload_n dX12_test_0 rfl ?_
  refine cmX12_436 rfl hs (Nat.le_of_ble_eq_true rfl) dX12_test_1 (fun M1 => ?_)
  refine x_aload_n dX12_test_4 rfl ?_
  refine gfX12_395 rfl dX12_test_5 (fun x2 => ?_)
  refine x_jn (σ := Mem) 81 (fun s3 => [none, none, none, none, none, none, none, none, none]) (fun s3 => []) (fun s3 => s3) (fun s3 => ?_) (fun j81 hj81 => ?_)
  · exact x_vret rfl dX12_test_81
  refine x_if_ne (tgt := 81) dX12_test_8 (by decide) (fun _ => ?_) (fun _ => ?_)
  · refine x_aload_n dX12_test_11 rfl ?_
    refine x_aload_n dX12_test_12 rfl ?_
    refine gfX12_408 rfl dX12_test_13 (fun x4 => ?_)
    refine x_iconst (v := 1) dX12_test_16 (by decide) ?_
    refine x_jn (σ := Int32) 25 (fun s5 => [some (va_rf a0), some (.int a1), none, none, none, none, none, none, none]) (fun s5 => [.int s5, va_rf a0]) (fun s5 => M1) (fun s5 => ?_) (fun j25 hj25 => ?_)
    · refine cmX12_432 rfl hs (Nat.le_of_ble_eq_true rfl) dX12_test_25 (fun x7 M6 => ?_)
      refine x_if_eq (tgt := 81) dX12_test_28 (by decide) (fun _ => ?_) (fun _ => ?_)
      · exact x_weak (by exact trivial) (hj81 M6)
      · refine x_aload_n dX12_test_31 rfl ?_
        refine x_aload_n dX12_test_32 rfl ?_
        refine x_iload_n dX12_test_33 rfl ?_
        refine x_aload_n dX12_test_34 rfl ?_
        refine gfX12_415 rfl dX12_test_35 (fun x8 => ?_)
        refine cmX12_551 rfl hs (Nat.le_of_ble_eq_true rfl) dX12_test_38 (fun x10 M9 => ?_)
        refine x_jn (σ := Int32) 49 (fun s11 => [some (va_rf a0), some (.int a1), none, none, none, none, none, none, none]) (fun s11 => [.int s11, va_rf a0]) (fun s11 => M9) (fun s11 => ?_) (fun j49 hj49 => ?_)
        · refine x_iconst (v := 3) dX12_test_49 (by decide) ?_
          refine cmX12_455 rfl hs (Nat.le_of_ble_eq_true rfl) dX12_test_50 (fun x13 M12 => ?_)
          refine x_if_eq (tgt := 81) dX12_test_53 (by decide) (fun _ => ?_) (fun _ => ?_)
          · exact x_weak (by exact trivial) (hj81 M12)
          · refine x_aload_n dX12_test_56 rfl ?_
            refine x_aload_n dX12_test_57 rfl ?_
            refine gfX12_58 rfl dX12_test_58 (fun x14 => ?_)
            refine x_iload_n dX12_test_61 rfl ?_
            refine x_iald dX12_test_62 (fun x15 => ?_)
            refine x_bipush (v := 16) dX12_test_63 (by decide) ?_
            refine x_jn (σ := Int32) 73 (fun s16 => [some (va_rf a0), some (.int a1), none, none, none, none, none, none, none]) (fun s16 => [.int s16, va_rf a0]) (fun s16 => M12) (fun s16 => ?_) (fun j73 hj73 => ?_)
            · refine x_bipush (v := 6) dX12_test_73 (by decide) ?_
              refine cmX12_455 rfl hs (Nat.le_of_ble_eq_true rfl) dX12_test_75 (fun x18 M17 => ?_)
              refine x_if_ne (tgt := 82) dX12_test_78 (by decide) (fun _ => ?_) (fun _ => ?_)
              · exact x_weak (by exact trivial) (hj81 M17)
              · refine x_aload_n dX12_test_82 rfl ?_
                refine gfX12_415 rfl dX12_test_83 (fun x19 => ?_)
                refine x_lstore_n (lo' := [some (va_rf a0), some (.int a1), some (.long x19), none, none, none, none, none, none]) dX12_test_86 (by decide) rfl rfl ?_
                refine x_aload_n dX12_test_87 rfl ?_
                refine gfX12_58 rfl dX12_test_88 (fun x20 => ?_)
                refine x_iload_n dX12_test_91 rfl ?_
                refine x_iald dX12_test_92 (fun x21 => ?_)
                refine x_istore (lo' := [some (va_rf a0), some (.int a1), some (.long x19), none, some (.int x21), none, none, none, none]) dX12_test_93 (by decide) rfl rfl ?_
                refine x_aload_n dX12_test_95 rfl ?_
                refine cmX12_436 rfl hs (Nat.le_of_ble_eq_true rfl) dX12_test_96 (fun M22 => ?_)
                refine x_aload_n dX12_test_99 rfl ?_
                refine gfX12_408 rfl dX12_test_100 (fun x23 => ?_)
                refine x_sipush (v := 412) dX12_test_103 (by decide) ?_
                refine x_jn (σ := Int32) 114 (fun s24 => [some (va_rf a0), some (.int a1), some (.long x19), none, some (.int x21), none, none, none, none]) (fun s24 => [.int s24]) (fun s24 => M22) (fun s24 => ?_) (fun j114 hj114 => ?_)
                · refine x_istore (lo' := [some (va_rf a0), some (.int a1), some (.long x19), none, some (.int x21), some (.int s24), none, none, none]) dX12_test_114 (by decide) rfl rfl ?_
                  refine x_iload dX12_test_116 rfl ?_
                  refine x_jn (σ := Mem) 125 (fun s25 => [some (va_rf a0), some (.int a1), some (.long x19), none, some (.int x21), some (.int s24), none, none, none]) (fun s25 => []) (fun s25 => s25) (fun s25 => ?_) (fun j125 hj125 => ?_)
                  · refine x_iconst (v := 0) dX12_test_125 (by decide) ?_
                    refine x_istore (lo' := [some (va_rf a0), some (.int a1), some (.long x19), none, some (.int x21), some (.int s24), some (.int ((0 : Int32))), none, none]) dX12_test_126 (by decide) rfl rfl ?_
                    refine x_aload_n dX12_test_128 rfl ?_
                    refine gfX12_395 rfl dX12_test_129 (fun x26 => ?_)
                    refine x_jn (σ := Int32 × Mem) 206 (fun s27 => [some (va_rf a0), some (.int a1), some (.long x19), none, some (.int x21), some (.int s24), some (.int s27.1), none, none]) (fun s27 => []) (fun s27 => s27.2) (fun s27 => ?_) (fun j206 hj206 => ?_)
                    · refine x_aload_n dX12_test_206 rfl ?_
                      refine x_iload_n dX12_test_207 rfl ?_
                      refine x_lload_n dX12_test_208 rfl ?_
                      refine x_iload dX12_test_209 rfl ?_
                      refine x_iload dX12_test_211 rfl ?_
                      refine x_iconst (v := 0) dX12_test_213 (by decide) ?_
                      refine cmX12_564 rfl hs (Nat.le_of_ble_eq_true rfl) dX12_test_214 (fun M28 => ?_)
                      refine x_aload_n dX12_test_217 rfl ?_
                      refine gfX12_395 rfl dX12_test_218 (fun x29 => ?_)
                      refine x_jn (σ := Mem) 395 (fun s30 => [some (va_rf a0), some (.int a1), none, none, some (.int x21), none, none, none, none]) (fun s30 => []) (fun s30 => s30) (fun s30 => ?_) (fun j395 hj395 => ?_)
                      · refine x_aload_n dX12_test_395 rfl ?_
                        refine gfX12_188 rfl dX12_test_396 (fun x31 => ?_)
                        refine x_iconst (v := 0) dX12_test_399 (by decide) ?_
                        refine x_gets (v := .long 26996) z_it lsX12_568 dX12_test_400 ?_
                        refine x_last dX12_test_403 (fun M32 => ?_)
                        refine x_aload_n dX12_test_404 rfl ?_
                        refine x_iconst (v := 1) dX12_test_405 (by decide) ?_
                        refine pfX12_448 rfl dX12_test_406 (fun M33 => ?_)
                        refine x_aload_n dX12_test_409 rfl ?_
                        refine x_iconst (v := 0) dX12_test_410 (by decide) ?_
                        refine cmX12_543 rfl hs (Nat.le_of_ble_eq_true rfl) dX12_test_411 (fun x35 M34 => ?_)
                        refine x_istore (lo' := [some (va_rf a0), some (.int a1), none, none, some (.int x21), none, none, some (.int x35), none]) dX12_test_414 (by decide) rfl rfl ?_
                        refine x_iload dX12_test_416 rfl ?_
                        refine x_istore (lo' := [some (va_rf a0), some (.int a1), none, none, some (.int x21), none, none, some (.int x35), some (.int x21)]) dX12_test_418 (by decide) rfl rfl ?_
                        refine x_weak (by exact ⟨rfl, ⟨rfl, ⟨rfl, ⟨rfl, trivial⟩⟩⟩⟩) (x_lp (σ := Int32 × Mem) 420 (fun s36 => [some (va_rf a0), some (.int a1), none, none, none, none, none, some (.int x35), some (.int s36.1)]) (fun s36 => []) (fun s36 => s36.2) (fun s36 j420 hj420 => ?_) 4294967296 (x21, M34))
                        · refine x_iload dX12_test_420 rfl ?_
                          refine x_aload_n dX12_test_422 rfl ?_
                          refine gfX12_58 rfl dX12_test_423 (fun x37 => ?_)
                          refine x_iload_n dX12_test_426 rfl ?_
                          refine x_iald dX12_test_427 (fun x38 => ?_)
                          refine x_icmp_ge (tgt := 451) dX12_test_428 (by decide) (fun _ => ?_) (fun _ => ?_)
                          · exact x_vret rfl dX12_test_451
                          · refine x_aload_n dX12_test_431 rfl ?_
                            refine gfX12_76 rfl dX12_test_432 (fun x39 => ?_)
                            refine x_bipush (v := 16) dX12_test_435 (by decide) ?_
                            refine x_iload_n dX12_test_437 rfl ?_
                            refine x_imul dX12_test_438 ?_
                            refine x_iload dX12_test_439 rfl ?_
                            refine x_iadd dX12_test_441 ?_
                            refine x_iload dX12_test_442 rfl ?_
                            refine x_iast dX12_test_444 (fun M40 => ?_)
                            refine x_iincN (v := 1) (lo' := fun x41 => [some (va_rf a0), some (.int a1), none, none, none, none, none, some (.int x35), some (.int x41)]) (by decide) dX12_test_445 rfl (by decide) rfl (fun _ => rfl) (fun x41 => ?_)
                            refine x_goto (tgt := 420) dX12_test_448 (by decide) ?_
                            exact x_weak (by exact ⟨rfl, ⟨rfl, ⟨rfl, ⟨rfl, trivial⟩⟩⟩⟩) (hj420 (x41, M40))
                      refine x_if_ne (tgt := 395) dX12_test_221 (by decide) (fun _ => ?_) (fun _ => ?_)
                      · refine x_aload_n dX12_test_224 rfl ?_
                        refine gfX12_408 rfl dX12_test_225 (fun x42 => ?_)
                        refine x_sipush (v := 414) dX12_test_228 (by decide) ?_
                        refine x_icmp_ne (tgt := 395) dX12_test_231 (by decide) (fun _ => ?_) (fun _ => ?_)
                        · refine x_iconst (v := 0) dX12_test_234 (by decide) ?_
                          refine x_istore (lo' := [some (va_rf a0), some (.int a1), some (.long x19), none, some (.int x21), some (.int s24), some (.int s27.1), some (.int ((0 : Int32))), none]) dX12_test_235 (by decide) rfl rfl ?_
                          refine x_iconst (v := 1) dX12_test_237 (by decide) ?_
                          refine x_istore (lo' := [some (va_rf a0), some (.int a1), some (.long x19), none, some (.int x21), some (.int s24), some (.int s27.1), some (.int ((0 : Int32))), some (.int ((1 : Int32)))]) dX12_test_238 (by decide) rfl rfl ?_
                          refine x_weak (by exact ⟨rfl, ⟨rfl, ⟨rfl, ⟨rfl, ⟨rfl, ⟨rfl, ⟨rfl, ⟨rfl, trivial⟩⟩⟩⟩⟩⟩⟩⟩) (x_lp (σ := Int32 × Int32 × Mem) 240 (fun s43 => [some (va_rf a0), some (.int a1), some (.long x19), none, some (.int x21), some (.int s24), some (.int s27.1), some (.int s43.1), some (.int s43.2.1)]) (fun s43 => []) (fun s43 => s43.2.2) (fun s43 j240 hj240 => ?_) 4294967296 ((0 : Int32), (1 : Int32), M28))
                          · refine x_iload dX12_test_240 rfl ?_
                            refine x_if_eq (tgt := 395) dX12_test_242 (by decide) (fun _ => ?_) (fun _ => ?_)
                            · exact x_weak (by exact ⟨rfl, ⟨rfl, ⟨rfl, trivial⟩⟩⟩) (hj395 s43.2.2)
                            · refine x_aload_n dX12_test_245 rfl ?_
                              refine cmX12_436 rfl hs (Nat.le_of_ble_eq_true rfl) dX12_test_246 (fun M44 => ?_)
                              refine x_iconst (v := 0) dX12_test_249 (by decide) ?_
                              refine x_istore (lo' := [some (va_rf a0), some (.int a1), some (.long x19), none, some (.int x21), some (.int s24), some (.int s27.1), some (.int s43.1), some (.int ((0 : Int32)))]) dX12_test_250 (by decide) rfl rfl ?_
                              refine x_aload_n dX12_test_252 rfl ?_
                              refine gfX12_395 rfl dX12_test_253 (fun x45 => ?_)
                              refine x_if_ne (tgt := 240) dX12_test_256 (by decide) (fun _ => ?_) (fun _ => ?_)
                              · refine x_aload_n dX12_test_259 rfl ?_
                                refine x_aload_n dX12_test_260 rfl ?_
                                refine gfX12_408 rfl dX12_test_261 (fun x46 => ?_)
                                refine x_bipush (v := 45) dX12_test_264 (by decide) ?_
                                refine x_jn (σ := Int32) 282 (fun s47 => [some (va_rf a0), some (.int a1), some (.long x19), none, some (.int x21), some (.int s24), some (.int s27.1), some (.int s43.1), some (.int ((0 : Int32)))]) (fun s47 => [.int s47, va_rf a0]) (fun s47 => M44) (fun s47 => ?_) (fun j282 hj282 => ?_)
                                · refine cmX12_432 rfl hs (Nat.le_of_ble_eq_true rfl) dX12_test_282 (fun x49 M48 => ?_)
                                  refine x_if_eq (tgt := 240) dX12_test_285 (by decide) (fun _ => ?_) (fun _ => ?_)
                                  · exact x_weak (by exact ⟨rfl, ⟨rfl, ⟨rfl, ⟨rfl, ⟨rfl, ⟨rfl, ⟨rfl, ⟨rfl, trivial⟩⟩⟩⟩⟩⟩⟩⟩) (hj240 (s43.1, (0 : Int32), M48))
                                  · refine x_aload_n dX12_test_288 rfl ?_
                                    refine x_iload dX12_test_289 rfl ?_
                                    refine x_iconst (v := 4) dX12_test_291 (by decide) ?_
                                    refine x_jn (σ := Int32) 316 (fun s50 => [some (va_rf a0), some (.int a1), some (.long x19), none, some (.int x21), some (.int s24), some (.int s27.1), some (.int s43.1), some (.int ((0 : Int32)))]) (fun s50 => [.int s50, va_rf a0]) (fun s50 => M48) (fun s50 => ?_) (fun j316 hj316 => ?_)
                                    · refine x_bipush (v := 6) dX12_test_316 (by decide) ?_
                                      refine cmX12_455 rfl hs (Nat.le_of_ble_eq_true rfl) dX12_test_318 (fun x52 M51 => ?_)
                                      refine x_if_eq (tgt := 240) dX12_test_321 (by decide) (fun _ => ?_) (fun _ => ?_)
                                      · exact x_weak (by exact ⟨rfl, ⟨rfl, ⟨rfl, ⟨rfl, ⟨rfl, ⟨rfl, ⟨rfl, ⟨rfl, trivial⟩⟩⟩⟩⟩⟩⟩⟩) (hj240 (s43.1, (0 : Int32), M51))
                                      · refine x_aload_n dX12_test_324 rfl ?_
                                        refine cmX12_558 rfl hs (Nat.le_of_ble_eq_true rfl) dX12_test_325 (fun M53 => ?_)
                                        refine x_iload dX12_test_328 rfl ?_
                                        refine x_jn (σ := Mem) 366 (fun s54 => [some (va_rf a0), some (.int a1), some (.long x19), none, some (.int x21), some (.int s24), some (.int s27.1), some (.int s43.1), none]) (fun s54 => []) (fun s54 => s54) (fun s54 => ?_) (fun j366 hj366 => ?_)
                                        · refine x_iincN (v := 1) (lo' := fun x55 => [some (va_rf a0), some (.int a1), some (.long x19), none, some (.int x21), some (.int s24), some (.int s27.1), some (.int x55), none]) (by decide) dX12_test_366 rfl (by decide) rfl (fun _ => rfl) (fun x55 => ?_)
                                          refine x_aload_n dX12_test_369 rfl ?_
                                          refine gfX12_395 rfl dX12_test_370 (fun x56 => ?_)
                                          refine x_jn (σ := Int32) 390 (fun s57 => [some (va_rf a0), some (.int a1), some (.long x19), none, some (.int x21), some (.int s24), some (.int s27.1), some (.int x55), none]) (fun s57 => [.int s57]) (fun s57 => s54) (fun s57 => ?_) (fun j390 hj390 => ?_)
                                          · refine x_istore (lo' := [some (va_rf a0), some (.int a1), some (.long x19), none, some (.int x21), some (.int s24), some (.int s27.1), some (.int x55), some (.int s57)]) dX12_test_390 (by decide) rfl rfl ?_
                                            refine x_goto (tgt := 240) dX12_test_392 (by decide) ?_
                                            exact x_weak (by exact ⟨rfl, ⟨rfl, ⟨rfl, ⟨rfl, ⟨rfl, ⟨rfl, ⟨rfl, ⟨rfl, trivial⟩⟩⟩⟩⟩⟩⟩⟩) (hj240 (x55, s57, s54))
                                          refine x_jn (σ := Unit) 389 (fun s58 => [some (va_rf a0), some (.int a1), some (.long x19), none, some (.int x21), some (.int s24), some (.int s27.1), some (.int x55), none]) (fun s58 => []) (fun s58 => s54) (fun s58 => ?_) (fun j389 hj389 => ?_)
                                          · refine x_iconst (v := 0) dX12_test_389 (by decide) ?_
                                            exact x_weak (by exact ⟨rfl, ⟨rfl, ⟨rfl, ⟨rfl, ⟨rfl, ⟨rfl, ⟨rfl, trivial⟩⟩⟩⟩⟩⟩⟩) (hj390 ((0 : Int32)))
                                          refine x_if_ne (tgt := 389) dX12_test_373 (by decide) (fun _ => ?_) (fun _ => ?_)
                                          · refine x_aload_n dX12_test_376 rfl ?_
                                            refine gfX12_408 rfl dX12_test_377 (fun x59 => ?_)
                                            refine x_bipush (v := 44) dX12_test_380 (by decide) ?_
                                            refine x_icmp_ne (tgt := 389) dX12_test_382 (by decide) (fun _ => ?_) (fun _ => ?_)
                                            · refine x_iconst (v := 1) dX12_test_385 (by decide) ?_
                                              refine x_goto (tgt := 390) dX12_test_386 (by decide) ?_
                                              exact x_weak (by exact ⟨rfl, ⟨rfl, ⟨rfl, ⟨rfl, ⟨rfl, ⟨rfl, ⟨rfl, trivial⟩⟩⟩⟩⟩⟩⟩) (hj390 ((1 : Int32)))
                                            · exact x_weak (by exact ⟨rfl, ⟨rfl, ⟨rfl, ⟨rfl, ⟨rfl, ⟨rfl, ⟨rfl, trivial⟩⟩⟩⟩⟩⟩⟩) (hj389 ())
                                          · exact x_weak (by exact ⟨rfl, ⟨rfl, ⟨rfl, ⟨rfl, ⟨rfl, ⟨rfl, ⟨rfl, trivial⟩⟩⟩⟩⟩⟩⟩) (hj389 ())
                                        refine x_if_ne (tgt := 352) dX12_test_330 (by decide) (fun _ => ?_) (fun _ => ?_)
                                        · refine x_aload_n dX12_test_333 rfl ?_
                                          refine gfX12_67 rfl dX12_test_334 (fun x60 => ?_)
                                          refine x_bipush (v := 16) dX12_test_337 (by decide) ?_
                                          refine x_iload_n dX12_test_339 rfl ?_
                                          refine x_imul dX12_test_340 ?_
                                          refine x_iload dX12_test_341 rfl ?_
                                          refine x_iadd dX12_test_343 ?_
                                          refine x_aload_n dX12_test_344 rfl ?_
                                          refine gfX12_536 rfl dX12_test_345 (fun x61 => ?_)
                                          refine x_iast dX12_test_348 (fun M62 => ?_)
                                          refine x_goto (tgt := 366) dX12_test_349 (by decide) ?_
                                          exact x_weak (by exact ⟨rfl, ⟨rfl, ⟨rfl, ⟨rfl, ⟨rfl, ⟨rfl, ⟨rfl, trivial⟩⟩⟩⟩⟩⟩⟩) (hj366 M62)
                                        · refine x_aload_n dX12_test_352 rfl ?_
                                          refine x_iload_n dX12_test_353 rfl ?_
                                          refine x_lload_n dX12_test_354 rfl ?_
                                          refine x_iload dX12_test_355 rfl ?_
                                          refine x_iload dX12_test_357 rfl ?_
                                          refine x_aload_n dX12_test_359 rfl ?_
                                          refine gfX12_536 rfl dX12_test_360 (fun x63 => ?_)
                                          refine cmX12_564 rfl hs (Nat.le_of_ble_eq_true rfl) dX12_test_363 (fun M64 => ?_)
                                          exact x_weak (by exact ⟨rfl, ⟨rfl, ⟨rfl, ⟨rfl, ⟨rfl, ⟨rfl, ⟨rfl, trivial⟩⟩⟩⟩⟩⟩⟩) (hj366 M64)
                                    refine x_jn (σ := Unit) 315 (fun s65 => [some (va_rf a0), some (.int a1), some (.long x19), none, some (.int x21), some (.int s24), some (.int s27.1), some (.int s43.1), some (.int ((0 : Int32)))]) (fun s65 => [va_rf a0]) (fun s65 => M48) (fun s65 => ?_) (fun j315 hj315 => ?_)
                                    · refine x_iconst (v := 0) dX12_test_315 (by decide) ?_
                                      exact x_weak (by exact ⟨rfl, ⟨rfl, ⟨rfl, ⟨rfl, ⟨rfl, ⟨rfl, ⟨rfl, ⟨rfl, trivial⟩⟩⟩⟩⟩⟩⟩⟩) (hj316 ((0 : Int32)))
                                    refine x_icmp_ge (tgt := 315) dX12_test_292 (by decide) (fun _ => ?_) (fun _ => ?_)
                                    · exact x_weak (by exact ⟨rfl, ⟨rfl, ⟨rfl, ⟨rfl, ⟨rfl, ⟨rfl, ⟨rfl, ⟨rfl, trivial⟩⟩⟩⟩⟩⟩⟩⟩) (hj315 ())
                                    · refine x_iload dX12_test_295 rfl ?_
                                      refine x_jn (σ := Unit) 311 (fun s66 => [some (va_rf a0), some (.int a1), some (.long x19), none, some (.int x21), some (.int s24), some (.int s27.1), some (.int s43.1), some (.int ((0 : Int32)))]) (fun s66 => [va_rf a0]) (fun s66 => M48) (fun s66 => ?_) (fun j311 hj311 => ?_)
                                      · refine x_iconst (v := 1) dX12_test_311 (by decide) ?_
                                        refine x_goto (tgt := 316) dX12_test_312 (by decide) ?_
                                        exact x_weak (by exact ⟨rfl, ⟨rfl, ⟨rfl, ⟨rfl, ⟨rfl, ⟨rfl, ⟨rfl, ⟨rfl, trivial⟩⟩⟩⟩⟩⟩⟩⟩) (hj316 ((1 : Int32)))
                                      refine x_if_eq (tgt := 311) dX12_test_297 (by decide) (fun _ => ?_) (fun _ => ?_)
                                      · exact x_weak (by exact ⟨rfl, ⟨rfl, ⟨rfl, ⟨rfl, ⟨rfl, ⟨rfl, ⟨rfl, ⟨rfl, trivial⟩⟩⟩⟩⟩⟩⟩⟩) (hj311 ())
                                      · refine x_aload_n dX12_test_300 rfl ?_
                                        refine gfX12_58 rfl dX12_test_301 (fun x67 => ?_)
                                        refine x_iload_n dX12_test_304 rfl ?_
                                        refine x_iald dX12_test_305 (fun x68 => ?_)
                                        refine x_bipush (v := 16) dX12_test_306 (by decide) ?_
                                        refine x_icmp_ge (tgt := 315) dX12_test_308 (by decide) (fun _ => ?_) (fun _ => ?_)
                                        · exact x_weak (by exact ⟨rfl, ⟨rfl, ⟨rfl, ⟨rfl, ⟨rfl, ⟨rfl, ⟨rfl, ⟨rfl, trivial⟩⟩⟩⟩⟩⟩⟩⟩) (hj315 ())
                                        · exact x_weak (by exact ⟨rfl, ⟨rfl, ⟨rfl, ⟨rfl, ⟨rfl, ⟨rfl, ⟨rfl, ⟨rfl, trivial⟩⟩⟩⟩⟩⟩⟩⟩) (hj311 ())
                                refine x_jn (σ := Unit) 277 (fun s69 => [some (va_rf a0), some (.int a1), some (.long x19), none, some (.int x21), some (.int s24), some (.int s27.1), some (.int s43.1), some (.int ((0 : Int32)))]) (fun s69 => [va_rf a0]) (fun s69 => M44) (fun s69 => ?_) (fun j277 hj277 => ?_)
                                · refine x_iconst (v := 1) dX12_test_277 (by decide) ?_
                                  refine x_goto (tgt := 282) dX12_test_278 (by decide) ?_
                                  exact x_weak (by exact ⟨rfl, ⟨rfl, ⟨rfl, ⟨rfl, ⟨rfl, ⟨rfl, ⟨rfl, ⟨rfl, trivial⟩⟩⟩⟩⟩⟩⟩⟩) (hj282 ((1 : Int32)))
                                refine x_icmp_eq (tgt := 277) dX12_test_266 (by decide) (fun _ => ?_) (fun _ => ?_)
                                · exact x_weak (by exact ⟨rfl, ⟨rfl, ⟨rfl, ⟨rfl, ⟨rfl, ⟨rfl, ⟨rfl, ⟨rfl, trivial⟩⟩⟩⟩⟩⟩⟩⟩) (hj277 ())
                                · refine x_aload_n dX12_test_269 rfl ?_
                                  refine gfX12_408 rfl dX12_test_270 (fun x70 => ?_)
                                  refine x_iconst (v := 2) dX12_test_273 (by decide) ?_
                                  refine x_icmp_ne (tgt := 281) dX12_test_274 (by decide) (fun _ => ?_) (fun _ => ?_)
                                  · exact x_weak (by exact ⟨rfl, ⟨rfl, ⟨rfl, ⟨rfl, ⟨rfl, ⟨rfl, ⟨rfl, ⟨rfl, trivial⟩⟩⟩⟩⟩⟩⟩⟩) (hj277 ())
                                  · refine x_iconst (v := 0) dX12_test_281 (by decide) ?_
                                    exact x_weak (by exact ⟨rfl, ⟨rfl, ⟨rfl, ⟨rfl, ⟨rfl, ⟨rfl, ⟨rfl, ⟨rfl, trivial⟩⟩⟩⟩⟩⟩⟩⟩) (hj282 ((0 : Int32)))
                              · exact x_weak (by exact ⟨rfl, ⟨rfl, ⟨rfl, ⟨rfl, ⟨rfl, ⟨rfl, ⟨rfl, ⟨rfl, trivial⟩⟩⟩⟩⟩⟩⟩⟩) (hj240 (s43.1, (0 : Int32), M44))
                        · exact x_weak (by exact ⟨rfl, ⟨rfl, ⟨rfl, trivial⟩⟩⟩) (hj395 M28)
                      · exact x_weak (by exact ⟨rfl, ⟨rfl, ⟨rfl, trivial⟩⟩⟩) (hj395 M28)
                    refine x_if_ne (tgt := 206) dX12_test_132 (by decide) (fun _ => ?_) (fun _ => ?_)
                    · refine x_aload_n dX12_test_135 rfl ?_
                      refine gfX12_408 rfl dX12_test_136 (fun x71 => ?_)
                      refine x_sipush (v := 413) dX12_test_139 (by decide) ?_
                      refine x_icmp_ne (tgt := 206) dX12_test_142 (by decide) (fun _ => ?_) (fun _ => ?_)
                      · refine x_aload_n dX12_test_145 rfl ?_
                        refine cmX12_436 rfl hs (Nat.le_of_ble_eq_true rfl) dX12_test_146 (fun M72 => ?_)
                        refine x_aload_n dX12_test_149 rfl ?_
                        refine gfX12_395 rfl dX12_test_150 (fun x73 => ?_)
                        refine x_if_ne (tgt := 206) dX12_test_153 (by decide) (fun _ => ?_) (fun _ => ?_)
                        · refine x_aload_n dX12_test_156 rfl ?_
                          refine x_aload_n dX12_test_157 rfl ?_
                          refine gfX12_408 rfl dX12_test_158 (fun x74 => ?_)
                          refine x_iconst (v := 2) dX12_test_161 (by decide) ?_
                          refine x_jn (σ := Int32) 170 (fun s75 => [some (va_rf a0), some (.int a1), some (.long x19), none, some (.int x21), some (.int s24), some (.int ((0 : Int32))), none, none]) (fun s75 => [.int s75, va_rf a0]) (fun s75 => M72) (fun s75 => ?_) (fun j170 hj170 => ?_)
                          · refine cmX12_432 rfl hs (Nat.le_of_ble_eq_true rfl) dX12_test_170 (fun x77 M76 => ?_)
                            refine x_if_eq (tgt := 206) dX12_test_173 (by decide) (fun _ => ?_) (fun _ => ?_)
                            · exact x_weak (by exact ⟨rfl, ⟨rfl, ⟨rfl, ⟨rfl, ⟨rfl, ⟨rfl, trivial⟩⟩⟩⟩⟩⟩) (hj206 ((0 : Int32), M76))
                            · refine x_aload_n dX12_test_176 rfl ?_
                              refine x_aload_n dX12_test_177 rfl ?_
                              refine gfX12_422 rfl dX12_test_178 (fun x78 => ?_)
                              refine x_jn (σ := Int32) 189 (fun s79 => [some (va_rf a0), some (.int a1), some (.long x19), none, some (.int x21), some (.int s24), some (.int ((0 : Int32))), none, none]) (fun s79 => [.int s79, va_rf a0]) (fun s79 => M76) (fun s79 => ?_) (fun j189 hj189 => ?_)
                              · refine x_iconst (v := 5) dX12_test_189 (by decide) ?_
                                refine cmX12_455 rfl hs (Nat.le_of_ble_eq_true rfl) dX12_test_190 (fun x81 M80 => ?_)
                                refine x_if_eq (tgt := 206) dX12_test_193 (by decide) (fun _ => ?_) (fun _ => ?_)
                                · exact x_weak (by exact ⟨rfl, ⟨rfl, ⟨rfl, ⟨rfl, ⟨rfl, ⟨rfl, trivial⟩⟩⟩⟩⟩⟩) (hj206 ((0 : Int32), M80))
                                · refine x_aload_n dX12_test_196 rfl ?_
                                  refine gfX12_422 rfl dX12_test_197 (fun x82 => ?_)
                                  refine x_istore (lo' := [some (va_rf a0), some (.int a1), some (.long x19), none, some (.int x21), some (.int s24), some (.int x82), none, none]) dX12_test_200 (by decide) rfl rfl ?_
                                  refine x_aload_n dX12_test_202 rfl ?_
                                  refine cmX12_436 rfl hs (Nat.le_of_ble_eq_true rfl) dX12_test_203 (fun M83 => ?_)
                                  exact x_weak (by exact ⟨rfl, ⟨rfl, ⟨rfl, ⟨rfl, ⟨rfl, ⟨rfl, trivial⟩⟩⟩⟩⟩⟩) (hj206 (x82, M83))
                              refine x_if_le (tgt := 188) dX12_test_181 (by decide) (fun _ => ?_) (fun _ => ?_)
                              · refine x_iconst (v := 0) dX12_test_188 (by decide) ?_
                                exact x_weak (by exact ⟨rfl, ⟨rfl, ⟨rfl, ⟨rfl, ⟨rfl, ⟨rfl, trivial⟩⟩⟩⟩⟩⟩) (hj189 ((0 : Int32)))
                              · refine x_iconst (v := 1) dX12_test_184 (by decide) ?_
                                refine x_goto (tgt := 189) dX12_test_185 (by decide) ?_
                                exact x_weak (by exact ⟨rfl, ⟨rfl, ⟨rfl, ⟨rfl, ⟨rfl, ⟨rfl, trivial⟩⟩⟩⟩⟩⟩) (hj189 ((1 : Int32)))
                          refine x_icmp_ne (tgt := 169) dX12_test_162 (by decide) (fun _ => ?_) (fun _ => ?_)
                          · refine x_iconst (v := 1) dX12_test_165 (by decide) ?_
                            refine x_goto (tgt := 170) dX12_test_166 (by decide) ?_
                            exact x_weak (by exact ⟨rfl, ⟨rfl, ⟨rfl, ⟨rfl, ⟨rfl, ⟨rfl, trivial⟩⟩⟩⟩⟩⟩) (hj170 ((1 : Int32)))
                          · refine x_iconst (v := 0) dX12_test_169 (by decide) ?_
                            exact x_weak (by exact ⟨rfl, ⟨rfl, ⟨rfl, ⟨rfl, ⟨rfl, ⟨rfl, trivial⟩⟩⟩⟩⟩⟩) (hj170 ((0 : Int32)))
                        · exact x_weak (by exact ⟨rfl, ⟨rfl, ⟨rfl, ⟨rfl, ⟨rfl, ⟨rfl, trivial⟩⟩⟩⟩⟩⟩) (hj206 ((0 : Int32), M72))
                      · exact x_weak (by exact ⟨rfl, ⟨rfl, ⟨rfl, ⟨rfl, ⟨rfl, ⟨rfl, trivial⟩⟩⟩⟩⟩⟩) (hj206 ((0 : Int32), s25))
                    · exact x_weak (by exact ⟨rfl, ⟨rfl, ⟨rfl, ⟨rfl, ⟨rfl, ⟨rfl, trivial⟩⟩⟩⟩⟩⟩) (hj206 ((0 : Int32), s25))
                  refine x_if_eq (tgt := 125) dX12_test_118 (by decide) (fun _ => ?_) (fun _ => ?_)
                  · exact x_weak (by exact ⟨rfl, ⟨rfl, ⟨rfl, ⟨rfl, ⟨rfl, trivial⟩⟩⟩⟩⟩) (hj125 M22)
                  · refine x_aload_n dX12_test_121 rfl ?_
                    refine cmX12_436 rfl hs (Nat.le_of_ble_eq_true rfl) dX12_test_122 (fun M84 => ?_)
                    exact x_weak (by exact ⟨rfl, ⟨rfl, ⟨rfl, ⟨rfl, ⟨rfl, trivial⟩⟩⟩⟩⟩) (hj125 M84)
                refine x_icmp_ne (tgt := 113) dX12_test_106 (by decide) (fun _ => ?_) (fun _ => ?_)
                · refine x_iconst (v := 1) dX12_test_109 (by decide) ?_
                  refine x_goto (tgt := 114) dX12_test_110 (by decide) ?_
                  exact x_weak (by exact ⟨rfl, ⟨rfl, ⟨rfl, ⟨rfl, trivial⟩⟩⟩⟩) (hj114 ((1 : Int32)))
                · refine x_iconst (v := 0) dX12_test_113 (by decide) ?_
                  exact x_weak (by exact ⟨rfl, ⟨rfl, ⟨rfl, ⟨rfl, trivial⟩⟩⟩⟩) (hj114 ((0 : Int32)))
            refine x_icmp_ge (tgt := 72) dX12_test_65 (by decide) (fun _ => ?_) (fun _ => ?_)
            · refine x_iconst (v := 0) dX12_test_72 (by decide) ?_
              exact x_weak (by exact ⟨rfl, ⟨rfl, trivial⟩⟩) (hj73 ((0 : Int32)))
            · refine x_iconst (v := 1) dX12_test_68 (by decide) ?_
              refine x_goto (tgt := 73) dX12_test_69 (by decide) ?_
              exact x_weak (by exact ⟨rfl, ⟨rfl, trivial⟩⟩) (hj73 ((1 : Int32)))
        refine x_if_ne (tgt := 48) dX12_test_41 (by decide) (fun _ => ?_) (fun _ => ?_)
        · refine x_iconst (v := 1) dX12_test_44 (by decide) ?_
          refine x_goto (tgt := 49) dX12_test_45 (by decide) ?_
          exact x_weak (by exact ⟨rfl, ⟨rfl, trivial⟩⟩) (hj49 ((1 : Int32)))
        · refine x_iconst (v := 0) dX12_test_48 (by decide) ?_
          exact x_weak (by exact ⟨rfl, ⟨rfl, trivial⟩⟩) (hj49 ((0 : Int32)))
    refine x_icmp_ne (tgt := 24) dX12_test_17 (by decide) (fun _ => ?_) (fun _ => ?_)
    · refine x_iconst (v := 1) dX12_test_20 (by decide) ?_
      refine x_goto (tgt := 25) dX12_test_21 (by decide) ?_
      exact x_weak (by exact ⟨rfl, ⟨rfl, trivial⟩⟩) (hj25 ((1 : Int32)))
    · refine x_iconst (v := 0) dX12_test_24 (by decide) ?_
      exact x_weak (by exact ⟨rfl, ⟨rfl, trivial⟩⟩) (hj25 ((0 : Int32)))
  · exact x_weak (by exact trivial) (hj81 M1)
theorem s225 {l : Launch} {d : Nat} {rec : Nat → List Value → Mem → XA} (hS : Nonempty XS) (hs : XSnd l xmt rec d) : Snd1 l 225 (b225 rec) d := by
  intro as M r M' h0
  unfold b225 at h0
  obtain ⟨a0, l1, e1, h1⟩ := aR_inv h0
  obtain ⟨a1, l2, e2, h2⟩ := aI_inv h1
  obtain ⟨ez, h⟩ := aZ_inv h2
  subst ez
  subst e2
  subst e1
  exact xmet (M := M) (as := [va_rf a0, .int a1]) (lo := [some (va_rf a0), some (.int a1)]) 225 xq225 xm225 (by rw [xargs_rf, xargs_i, xargs_nil]; exact ⟨rfl, ⟨rfl, trivial⟩⟩) (by rw [xargs_rf, xargs_i, xargs_nil]; exact Nat.le_of_ble_eq_true rfl) (fun S G K => x_weak (by exact ⟨rfl, ⟨rfl, trivial⟩⟩) (k225 hs a0 a1 M)) h hS
set_option maxRecDepth 100000 in
def c226 (rec : Nat → List Value → Mem → XA) (a0 : Option Nat) (a1 : Int32) (M0 : Mem) : XA :=
  vC (13, 157) M0 a0 <|
  cV (rec 191 [va_rf a0] M0) fun M1 =>
  gtI (13, 157) M1 a0 41 fun x2 =>
  jn (fun (s3 : Mem) =>
    some (.null, s3)) fun j81 =>
  if x2 = 0 then (
    gtI (13, 157) M1 a0 36 fun x4 =>
    jn (fun (s5 : Int32) =>
      vC (13, 157) M1 a0 <|
      cI (rec 193 [va_rf a0, .int s5] M1) fun x7 M6 =>
      if x7 = 0 then (
        j81 M6) else (
        gtL (13, 157) M6 a0 39 fun x8 =>
        vC (13, 157) M6 a0 <|
        cI (rec 220 [va_rf a0, .int a1, .long x8] M6) fun x10 M9 =>
        jn (fun (s11 : Int32) =>
          vC (13, 157) M9 a0 <|
          cI (rec 194 [va_rf a0, .int s11, .int ((3 : Int32))] M9) fun x13 M12 =>
          if x13 = 0 then (
            j81 M12) else (
            gtP (13, 157) M12 a0 25 fun x14 =>
            alI 100 M12 x14 a1 fun x15 =>
            jn (fun (s16 : Int32) =>
              vC (13, 157) M12 a0 <|
              cI (rec 194 [va_rf a0, .int s16, .int ((6 : Int32))] M12) fun x18 M17 =>
              if x18 = 0 then (
                j81 M17) else (
                gtP (13, 157) M17 a0 25 fun x19 =>
                alI 100 M17 x19 a1 fun x20 =>
                lt ((((6 : Int32)) * a1) + x20) fun (x21 : Int32) =>
                gtP (13, 157) M17 a0 25 fun x22 =>
                alI 100 M17 x22 a1 fun x23 =>
                asI 100 M17 x22 a1 ((x23 + ((1 : Int32)))) fun M24 =>
                gtP (13, 157) M24 a0 26 fun x25 =>
                gtL (13, 157) M24 a0 39 fun x26 =>
                asL M24 x25 x21 x26 fun M27 =>
                gtP (13, 157) M27 a0 63 fun x28 =>
                gtI (13, 157) M27 a0 49 fun x29 =>
                asI 100 M27 x28 x21 x29 fun M30 =>
                vC (13, 157) M30 a0 <|
                cV (rec 191 [va_rf a0] M30) fun M31 =>
                vC (13, 157) M31 a0 <|
                cI (rec 195 [va_rf a0, .int ((40 : Int32))] M31) fun x33 M32 =>
                vC (13, 157) M32 a0 <|
                cV (rec 223 [va_rf a0] M32) fun M34 =>
                vC (13, 157) M34 a0 <|
                cI (rec 195 [va_rf a0, .int ((41 : Int32))] M34) fun x36 M35 =>
                gtP (13, 157) M35 a0 27 fun x37 =>
                gtI (13, 157) M35 a0 51 fun x38 =>
                asI 100 M35 x37 x21 x38 fun M39 =>
                gtP (13, 157) M39 a0 28 fun x40 =>
                vC (13, 157) M39 a0 <|
                cI (rec 218 [va_rf a0, .int ((0 : Int32))] M39) fun x42 M41 =>
                asI 100 M41 x40 x21 x42 fun M43 =>
                some (.null, M43))) fun j73 =>
            if ((6 : Int32)) ≤ x15 then (
              j73 ((0 : Int32))) else (
              j73 ((1 : Int32))))) fun j49 =>
        if x10 = 0 then (
          j49 ((1 : Int32))) else (
          j49 ((0 : Int32))))) fun j25 =>
    if x4 = ((1 : Int32)) then (
      j25 ((1 : Int32))) else (
      j25 ((0 : Int32)))) else (
    j81 M1)
def b226 (rec : Nat → List Value → Mem → XA) (as : List Value) (M0 : Mem) : XA := aR as fun a0 as => aI as fun a1 as => aZ as (c226 rec a0 a1 M0)
set_option maxRecDepth 100000 in
set_option maxHeartbeats 4000000 in
theorem k226 {S : XS} {G : XG} {K : Nat × Nat} {l : Launch} {d : Nat} {rec : Nat → List Value → Mem → XA} (hs : XSnd l xmt rec d) (a0 : Option Nat) (a1 : Int32) (M0 : Mem) : Xe S G K l (yX12_prop, cX12_prop, 3, none) d 0 [some (va_rf a0), some (.int a1), none] [] M0 (c226 rec a0 a1 M0) := by
  unfold c226
  refine x_aload_n dX12_prop_0 rfl ?_
  refine cmX12_436 rfl hs (Nat.le_of_ble_eq_true rfl) dX12_prop_1 (fun M1 => ?_)
  refine x_aload_n dX12_prop_4 rfl ?_
  refine gfX12_395 rfl dX12_prop_5 (fun x2 => ?_)
  refine x_jn (σ := Mem) 81 (fun s3 => [none, none, none]) (fun s3 => []) (fun s3 => s3) (fun s3 => ?_) (fun j81 hj81 => ?_)
  · exact x_vret rfl dX12_prop_81
  refine x_if_ne (tgt := 81) dX12_prop_8 (by decide) (fun _ => ?_) (fun _ => ?_)
  · refine x_aload_n dX12_prop_11 rfl ?_
    refine x_aload_n dX12_prop_12 rfl ?_
    refine gfX12_408 rfl dX12_prop_13 (fun x4 => ?_)
    refine x_iconst (v := 1) dX12_prop_16 (by decide) ?_
    refine x_jn (σ := Int32) 25 (fun s5 => [some (va_rf a0), some (.int a1), none]) (fun s5 => [.int s5, va_rf a0]) (fun s5 => M1) (fun s5 => ?_) (fun j25 hj25 => ?_)
    · refine cmX12_432 rfl hs (Nat.le_of_ble_eq_true rfl) dX12_prop_25 (fun x7 M6 => ?_)
      refine x_if_eq (tgt := 81) dX12_prop_28 (by decide) (fun _ => ?_) (fun _ => ?_)
      · exact x_weak (by exact trivial) (hj81 M6)
      · refine x_aload_n dX12_prop_31 rfl ?_
        refine x_aload_n dX12_prop_32 rfl ?_
        refine x_iload_n dX12_prop_33 rfl ?_
        refine x_aload_n dX12_prop_34 rfl ?_
        refine gfX12_415 rfl dX12_prop_35 (fun x8 => ?_)
        refine cmX12_551 rfl hs (Nat.le_of_ble_eq_true rfl) dX12_prop_38 (fun x10 M9 => ?_)
        refine x_jn (σ := Int32) 49 (fun s11 => [some (va_rf a0), some (.int a1), none]) (fun s11 => [.int s11, va_rf a0]) (fun s11 => M9) (fun s11 => ?_) (fun j49 hj49 => ?_)
        · refine x_iconst (v := 3) dX12_prop_49 (by decide) ?_
          refine cmX12_455 rfl hs (Nat.le_of_ble_eq_true rfl) dX12_prop_50 (fun x13 M12 => ?_)
          refine x_if_eq (tgt := 81) dX12_prop_53 (by decide) (fun _ => ?_) (fun _ => ?_)
          · exact x_weak (by exact trivial) (hj81 M12)
          · refine x_aload_n dX12_prop_56 rfl ?_
            refine x_aload_n dX12_prop_57 rfl ?_
            refine gfX12_82 rfl dX12_prop_58 (fun x14 => ?_)
            refine x_iload_n dX12_prop_61 rfl ?_
            refine x_iald dX12_prop_62 (fun x15 => ?_)
            refine x_bipush (v := 6) dX12_prop_63 (by decide) ?_
            refine x_jn (σ := Int32) 73 (fun s16 => [some (va_rf a0), some (.int a1), none]) (fun s16 => [.int s16, va_rf a0]) (fun s16 => M12) (fun s16 => ?_) (fun j73 hj73 => ?_)
            · refine x_bipush (v := 6) dX12_prop_73 (by decide) ?_
              refine cmX12_455 rfl hs (Nat.le_of_ble_eq_true rfl) dX12_prop_75 (fun x18 M17 => ?_)
              refine x_if_ne (tgt := 82) dX12_prop_78 (by decide) (fun _ => ?_) (fun _ => ?_)
              · exact x_weak (by exact trivial) (hj81 M17)
              · refine x_bipush (v := 6) dX12_prop_82 (by decide) ?_
                refine x_iload_n dX12_prop_84 rfl ?_
                refine x_imul dX12_prop_85 ?_
                refine x_aload_n dX12_prop_86 rfl ?_
                refine gfX12_82 rfl dX12_prop_87 (fun x19 => ?_)
                refine x_iload_n dX12_prop_90 rfl ?_
                refine x_iald dX12_prop_91 (fun x20 => ?_)
                refine x_iadd dX12_prop_92 ?_
                refine x_ltI (fun x21 => ?_)
                refine x_istore_n (lo' := [some (va_rf a0), some (.int a1), some (.int x21)]) dX12_prop_93 (by decide) rfl rfl ?_
                refine x_aload_n dX12_prop_94 rfl ?_
                refine gfX12_82 rfl dX12_prop_95 (fun x22 => ?_)
                refine x_iload_n dX12_prop_98 rfl ?_
                refine x_dup2 dX12_prop_99 (xc1_i _) (xc1_r _) ?_
                refine x_iald dX12_prop_100 (fun x23 => ?_)
                refine x_iconst (v := 1) dX12_prop_101 (by decide) ?_
                refine x_iadd dX12_prop_102 ?_
                refine x_iast dX12_prop_103 (fun M24 => ?_)
                refine x_aload_n dX12_prop_104 rfl ?_
                refine gfX12_85 rfl dX12_prop_105 (fun x25 => ?_)
                refine x_iload_n dX12_prop_108 rfl ?_
                refine x_aload_n dX12_prop_109 rfl ?_
                refine gfX12_415 rfl dX12_prop_110 (fun x26 => ?_)
                refine x_last dX12_prop_113 (fun M27 => ?_)
                refine x_aload_n dX12_prop_114 rfl ?_
                refine gfX12_215 rfl dX12_prop_115 (fun x28 => ?_)
                refine x_iload_n dX12_prop_118 rfl ?_
                refine x_aload_n dX12_prop_119 rfl ?_
                refine gfX12_442 rfl dX12_prop_120 (fun x29 => ?_)
                refine x_iast dX12_prop_123 (fun M30 => ?_)
                refine x_aload_n dX12_prop_124 rfl ?_
                refine cmX12_436 rfl hs (Nat.le_of_ble_eq_true rfl) dX12_prop_125 (fun M31 => ?_)
                refine x_aload_n dX12_prop_128 rfl ?_
                refine x_bipush (v := 40) dX12_prop_129 (by decide) ?_
                refine cmX12_517 rfl hs (Nat.le_of_ble_eq_true rfl) dX12_prop_131 (fun x33 M32 => ?_)
                refine x_pop dX12_prop_134 (xc1_i _) ?_
                refine x_aload_n dX12_prop_135 rfl ?_
                refine cmX12_561 rfl hs (Nat.le_of_ble_eq_true rfl) dX12_prop_136 (fun M34 => ?_)
                refine x_aload_n dX12_prop_139 rfl ?_
                refine x_bipush (v := 41) dX12_prop_140 (by decide) ?_
                refine cmX12_517 rfl hs (Nat.le_of_ble_eq_true rfl) dX12_prop_142 (fun x36 M35 => ?_)
                refine x_pop dX12_prop_145 (xc1_i _) ?_
                refine x_aload_n dX12_prop_146 rfl ?_
                refine gfX12_88 rfl dX12_prop_147 (fun x37 => ?_)
                refine x_iload_n dX12_prop_150 rfl ?_
                refine x_aload_n dX12_prop_151 rfl ?_
                refine gfX12_448 rfl dX12_prop_152 (fun x38 => ?_)
                refine x_iast dX12_prop_155 (fun M39 => ?_)
                refine x_aload_n dX12_prop_156 rfl ?_
                refine gfX12_91 rfl dX12_prop_157 (fun x40 => ?_)
                refine x_iload_n dX12_prop_160 rfl ?_
                refine x_aload_n dX12_prop_161 rfl ?_
                refine x_iconst (v := 0) dX12_prop_162 (by decide) ?_
                refine cmX12_543 rfl hs (Nat.le_of_ble_eq_true rfl) dX12_prop_163 (fun x42 M41 => ?_)
                refine x_iast dX12_prop_166 (fun M43 => ?_)
                exact x_vret rfl dX12_prop_167
            refine x_icmp_ge (tgt := 72) dX12_prop_65 (by decide) (fun _ => ?_) (fun _ => ?_)
            · refine x_iconst (v := 0) dX12_prop_72 (by decide) ?_
              exact x_weak (by exact ⟨rfl, ⟨rfl, trivial⟩⟩) (hj73 ((0 : Int32)))
            · refine x_iconst (v := 1) dX12_prop_68 (by decide) ?_
              refine x_goto (tgt := 73) dX12_prop_69 (by decide) ?_
              exact x_weak (by exact ⟨rfl, ⟨rfl, trivial⟩⟩) (hj73 ((1 : Int32)))
        refine x_if_ne (tgt := 48) dX12_prop_41 (by decide) (fun _ => ?_) (fun _ => ?_)
        · refine x_iconst (v := 1) dX12_prop_44 (by decide) ?_
          refine x_goto (tgt := 49) dX12_prop_45 (by decide) ?_
          exact x_weak (by exact ⟨rfl, ⟨rfl, trivial⟩⟩) (hj49 ((1 : Int32)))
        · refine x_iconst (v := 0) dX12_prop_48 (by decide) ?_
          exact x_weak (by exact ⟨rfl, ⟨rfl, trivial⟩⟩) (hj49 ((0 : Int32)))
    refine x_icmp_ne (tgt := 24) dX12_prop_17 (by decide) (fun _ => ?_) (fun _ => ?_)
    · refine x_iconst (v := 1) dX12_prop_20 (by decide) ?_
      refine x_goto (tgt := 25) dX12_prop_21 (by decide) ?_
      exact x_weak (by exact ⟨rfl, ⟨rfl, trivial⟩⟩) (hj25 ((1 : Int32)))
    · refine x_iconst (v := 0) dX12_prop_24 (by decide) ?_
      exact x_weak (by exact ⟨rfl, ⟨rfl, trivial⟩⟩) (hj25 ((0 : Int32)))
  · exact x_weak (by exact trivial) (hj81 M1)
theorem s226 {l : Launch} {d : Nat} {rec : Nat → List Value → Mem → XA} (hS : Nonempty XS) (hs : XSnd l xmt rec d) : Snd1 l 226 (b226 rec) d := by
  intro as M r M' h0
  unfold b226 at h0
  obtain ⟨a0, l1, e1, h1⟩ := aR_inv h0
  obtain ⟨a1, l2, e2, h2⟩ := aI_inv h1
  obtain ⟨ez, h⟩ := aZ_inv h2
  subst ez
  subst e2
  subst e1
  exact xmet (M := M) (as := [va_rf a0, .int a1]) (lo := [some (va_rf a0), some (.int a1)]) 226 xq226 xm226 (by rw [xargs_rf, xargs_i, xargs_nil]; exact ⟨rfl, ⟨rfl, trivial⟩⟩) (by rw [xargs_rf, xargs_i, xargs_nil]; exact Nat.le_of_ble_eq_true rfl) (fun S G K => x_weak (by exact ⟨rfl, ⟨rfl, trivial⟩⟩) (k226 hs a0 a1 M)) h hS
set_option maxRecDepth 100000 in
def c227 (rec : Nat → List Value → Mem → XA) (a0 : Option Nat) (a1 : Int32) (a2 : Int64) (M0 : Mem) : XA :=
  lp (fun (s1 : Int32) j3 =>
    gtP (13, 157) M0 a0 3 fun x2 =>
    alI 100 M0 x2 a1 fun x3 =>
    if x3 ≤ s1 then (
      some (.int ((-1 : Int32)), M0)) else (
      gtP (13, 157) M0 a0 4 fun x4 =>
      alL M0 x4 ((((8 : Int32)) * a1) + s1) fun x5 =>
      if (lg_cmp x5 a2) = 0 then (
        some (.int s1, M0)) else (
        lt (s1 + (1 : Int32)) fun (x6 : Int32) =>
        j3 x6))) 4294967296 ((0 : Int32))
def b227 (rec : Nat → List Value → Mem → XA) (as : List Value) (M0 : Mem) : XA := aR as fun a0 as => aI as fun a1 as => aL as fun a2 as => aZ as (c227 rec a0 a1 a2 M0)
set_option maxRecDepth 100000 in
set_option maxHeartbeats 4000000 in
theorem k227 {S : XS} {G : XG} {K : Nat × Nat} {l : Launch} {d : Nat} {rec : Nat → List Value → Mem → XA} (hs : XSnd l xmt rec d) (a0 : Option Nat) (a1 : Int32) (a2 : Int64) (M0 : Mem) : Xe S G K l (yX12_unitOf, cX12_unitOf, 5, some .int) d 0 [some (va_rf a0), some (.int a1), some (.long a2), none, none] [] M0 (c227 rec a0 a1 a2 M0) := by
  unfold c227
  refine x_iconst (v := 0) dX12_unitOf_0 (by decide) ?_
  refine x_istore (lo' := [some (va_rf a0), some (.int a1), some (.long a2), none, some (.int ((0 : Int32)))]) dX12_unitOf_1 (by decide) rfl rfl ?_
  refine x_weak (by exact ⟨rfl, ⟨rfl, ⟨rfl, ⟨rfl, trivial⟩⟩⟩⟩) (x_lp (σ := Int32) 3 (fun s1 => [some (va_rf a0), some (.int a1), some (.long a2), none, some (.int s1)]) (fun s1 => []) (fun s1 => M0) (fun s1 j3 hj3 => ?_) 4294967296 ((0 : Int32)))
  · refine x_iload dX12_unitOf_3 rfl ?_
    refine x_aload_n dX12_unitOf_5 rfl ?_
    refine gfX12_13 rfl dX12_unitOf_6 (fun x2 => ?_)
    refine x_iload_n dX12_unitOf_9 rfl ?_
    refine x_iald dX12_unitOf_10 (fun x3 => ?_)
    refine x_icmp_ge (tgt := 40) dX12_unitOf_11 (by decide) (fun _ => ?_) (fun _ => ?_)
    · refine x_iconst (v := -1) dX12_unitOf_40 (by decide) ?_
      exact x_iret rfl dX12_unitOf_41
    · refine x_aload_n dX12_unitOf_14 rfl ?_
      refine gfX12_17 rfl dX12_unitOf_15 (fun x4 => ?_)
      refine x_bipush (v := 8) dX12_unitOf_18 (by decide) ?_
      refine x_iload_n dX12_unitOf_20 rfl ?_
      refine x_imul dX12_unitOf_21 ?_
      refine x_iload dX12_unitOf_22 rfl ?_
      refine x_iadd dX12_unitOf_24 ?_
      refine x_lald dX12_unitOf_25 (fun x5 => ?_)
      refine x_lload_n dX12_unitOf_26 rfl ?_
      refine x_lcmp dX12_unitOf_27 ?_
      refine x_if_ne (tgt := 34) dX12_unitOf_28 (by decide) (fun _ => ?_) (fun _ => ?_)
      · refine x_iload dX12_unitOf_31 rfl ?_
        exact x_iret rfl dX12_unitOf_33
      · refine x_iincN (v := 1) (lo' := fun x6 => [some (va_rf a0), some (.int a1), some (.long a2), none, some (.int x6)]) (by decide) dX12_unitOf_34 rfl (by decide) rfl (fun _ => rfl) (fun x6 => ?_)
        refine x_goto (tgt := 3) dX12_unitOf_37 (by decide) ?_
        exact x_weak (by exact ⟨rfl, ⟨rfl, ⟨rfl, ⟨rfl, trivial⟩⟩⟩⟩) (hj3 x6)
theorem s227 {l : Launch} {d : Nat} {rec : Nat → List Value → Mem → XA} (hS : Nonempty XS) (hs : XSnd l xmt rec d) : Snd1 l 227 (b227 rec) d := by
  intro as M r M' h0
  unfold b227 at h0
  obtain ⟨a0, l1, e1, h1⟩ := aR_inv h0
  obtain ⟨a1, l2, e2, h2⟩ := aI_inv h1
  obtain ⟨a2, l3, e3, h3⟩ := aL_inv h2
  obtain ⟨ez, h⟩ := aZ_inv h3
  subst ez
  subst e3
  subst e2
  subst e1
  exact xmet (M := M) (as := [va_rf a0, .int a1, .long a2]) (lo := [some (va_rf a0), some (.int a1), some (.long a2)]) 227 xq227 xm227 (by rw [xargs_rf, xargs_i, xargs_l, xargs_nil]; exact ⟨rfl, ⟨rfl, ⟨rfl, trivial⟩⟩⟩) (by rw [xargs_rf, xargs_i, xargs_l, xargs_nil]; exact Nat.le_of_ble_eq_true rfl) (fun S G K => x_weak (by exact ⟨rfl, ⟨rfl, ⟨rfl, trivial⟩⟩⟩) (k227 hs a0 a1 a2 M)) h hS
set_option maxRecDepth 100000 in
def c228 (rec : Nat → List Value → Mem → XA) (a0 : Option Nat) (a1 : Int32) (a2 : Int32) (a3 : Int64) (M0 : Mem) : XA :=
  lp (fun (s1 : Int32) j3 =>
    gtP (13, 157) M0 a0 10 fun x2 =>
    alI 100 M0 x2 a1 fun x3 =>
    if x3 ≤ s1 then (
      some (.int ((-1 : Int32)), M0)) else (
      gtP (13, 157) M0 a0 12 fun x4 =>
      alI 100 M0 x4 ((((96 : Int32)) * a1) + s1) fun x5 =>
      jn (fun (s6 : Unit) =>
        lt (s1 + (1 : Int32)) fun (x7 : Int32) =>
        j3 x7) fun j50 =>
      if x5 = a2 then (
        gtP (13, 157) M0 a0 11 fun x8 =>
        alL M0 x8 ((((96 : Int32)) * a1) + s1) fun x9 =>
        if (lg_cmp x9 a3) = 0 then (
          some (.int s1, M0)) else (
          j50 ())) else (
        j50 ()))) 4294967296 ((0 : Int32))
def b228 (rec : Nat → List Value → Mem → XA) (as : List Value) (M0 : Mem) : XA := aR as fun a0 as => aI as fun a1 as => aI as fun a2 as => aL as fun a3 as => aZ as (c228 rec a0 a1 a2 a3 M0)
set_option maxRecDepth 100000 in
set_option maxHeartbeats 4000000 in
theorem k228 {S : XS} {G : XG} {K : Nat × Nat} {l : Launch} {d : Nat} {rec : Nat → List Value → Mem → XA} (hs : XSnd l xmt rec d) (a0 : Option Nat) (a1 : Int32) (a2 : Int32) (a3 : Int64) (M0 : Mem) : Xe S G K l (yX12_memberOf, cX12_memberOf, 6, some .int) d 0 [some (va_rf a0), some (.int a1), some (.int a2), some (.long a3), none, none] [] M0 (c228 rec a0 a1 a2 a3 M0) := by
  unfold c228
  refine x_iconst (v := 0) dX12_memberOf_0 (by decide) ?_
  refine x_istore (lo' := [some (va_rf a0), some (.int a1), some (.int a2), some (.long a3), none, some (.int ((0 : Int32)))]) dX12_memberOf_1 (by decide) rfl rfl ?_
  refine x_weak (by exact ⟨rfl, ⟨rfl, ⟨rfl, ⟨rfl, ⟨rfl, trivial⟩⟩⟩⟩⟩) (x_lp (σ := Int32) 3 (fun s1 => [some (va_rf a0), some (.int a1), some (.int a2), some (.long a3), none, some (.int s1)]) (fun s1 => []) (fun s1 => M0) (fun s1 j3 hj3 => ?_) 4294967296 ((0 : Int32)))
  · refine x_iload dX12_memberOf_3 rfl ?_
    refine x_aload_n dX12_memberOf_5 rfl ?_
    refine gfX12_36 rfl dX12_memberOf_6 (fun x2 => ?_)
    refine x_iload_n dX12_memberOf_9 rfl ?_
    refine x_iald dX12_memberOf_10 (fun x3 => ?_)
    refine x_icmp_ge (tgt := 56) dX12_memberOf_11 (by decide) (fun _ => ?_) (fun _ => ?_)
    · refine x_iconst (v := -1) dX12_memberOf_56 (by decide) ?_
      exact x_iret rfl dX12_memberOf_57
    · refine x_aload_n dX12_memberOf_14 rfl ?_
      refine gfX12_42 rfl dX12_memberOf_15 (fun x4 => ?_)
      refine x_bipush (v := 96) dX12_memberOf_18 (by decide) ?_
      refine x_iload_n dX12_memberOf_20 rfl ?_
      refine x_imul dX12_memberOf_21 ?_
      refine x_iload dX12_memberOf_22 rfl ?_
      refine x_iadd dX12_memberOf_24 ?_
      refine x_iald dX12_memberOf_25 (fun x5 => ?_)
      refine x_iload_n dX12_memberOf_26 rfl ?_
      refine x_jn (σ := Unit) 50 (fun s6 => [some (va_rf a0), some (.int a1), some (.int a2), some (.long a3), none, some (.int s1)]) (fun s6 => []) (fun s6 => M0) (fun s6 => ?_) (fun j50 hj50 => ?_)
      · refine x_iincN (v := 1) (lo' := fun x7 => [some (va_rf a0), some (.int a1), some (.int a2), some (.long a3), none, some (.int x7)]) (by decide) dX12_memberOf_50 rfl (by decide) rfl (fun _ => rfl) (fun x7 => ?_)
        refine x_goto (tgt := 3) dX12_memberOf_53 (by decide) ?_
        exact x_weak (by exact ⟨rfl, ⟨rfl, ⟨rfl, ⟨rfl, ⟨rfl, trivial⟩⟩⟩⟩⟩) (hj3 x7)
      refine x_icmp_ne (tgt := 50) dX12_memberOf_27 (by decide) (fun _ => ?_) (fun _ => ?_)
      · refine x_aload_n dX12_memberOf_30 rfl ?_
        refine gfX12_39 rfl dX12_memberOf_31 (fun x8 => ?_)
        refine x_bipush (v := 96) dX12_memberOf_34 (by decide) ?_
        refine x_iload_n dX12_memberOf_36 rfl ?_
        refine x_imul dX12_memberOf_37 ?_
        refine x_iload dX12_memberOf_38 rfl ?_
        refine x_iadd dX12_memberOf_40 ?_
        refine x_lald dX12_memberOf_41 (fun x9 => ?_)
        refine x_lload_n dX12_memberOf_42 rfl ?_
        refine x_lcmp dX12_memberOf_43 ?_
        refine x_if_ne (tgt := 50) dX12_memberOf_44 (by decide) (fun _ => ?_) (fun _ => ?_)
        · refine x_iload dX12_memberOf_47 rfl ?_
          exact x_iret rfl dX12_memberOf_49
        · exact x_weak (by exact ⟨rfl, ⟨rfl, ⟨rfl, ⟨rfl, ⟨rfl, trivial⟩⟩⟩⟩⟩) (hj50 ())
      · exact x_weak (by exact ⟨rfl, ⟨rfl, ⟨rfl, ⟨rfl, ⟨rfl, trivial⟩⟩⟩⟩⟩) (hj50 ())
theorem s228 {l : Launch} {d : Nat} {rec : Nat → List Value → Mem → XA} (hS : Nonempty XS) (hs : XSnd l xmt rec d) : Snd1 l 228 (b228 rec) d := by
  intro as M r M' h0
  unfold b228 at h0
  obtain ⟨a0, l1, e1, h1⟩ := aR_inv h0
  obtain ⟨a1, l2, e2, h2⟩ := aI_inv h1
  obtain ⟨a2, l3, e3, h3⟩ := aI_inv h2
  obtain ⟨a3, l4, e4, h4⟩ := aL_inv h3
  obtain ⟨ez, h⟩ := aZ_inv h4
  subst ez
  subst e4
  subst e3
  subst e2
  subst e1
  exact xmet (M := M) (as := [va_rf a0, .int a1, .int a2, .long a3]) (lo := [some (va_rf a0), some (.int a1), some (.int a2), some (.long a3)]) 228 xq228 xm228 (by rw [xargs_rf, xargs_i, xargs_i, xargs_l, xargs_nil]; exact ⟨rfl, ⟨rfl, ⟨rfl, ⟨rfl, trivial⟩⟩⟩⟩) (by rw [xargs_rf, xargs_i, xargs_i, xargs_l, xargs_nil]; exact Nat.le_of_ble_eq_true rfl) (fun S G K => x_weak (by exact ⟨rfl, ⟨rfl, ⟨rfl, ⟨rfl, trivial⟩⟩⟩⟩) (k228 hs a0 a1 a2 a3 M)) h hS
set_option maxRecDepth 100000 in
def c229 (rec : Nat → List Value → Mem → XA) (a0 : Option Nat) (a1 : Int32) (M0 : Mem) : XA :=
  vC (13, 157) M0 a0 <|
  cV (rec 191 [va_rf a0] M0) fun M1 =>
  gtI (13, 157) M1 a0 41 fun x2 =>
  jn (fun (s3 : Mem) =>
    some (.null, s3)) fun j81 =>
  if x2 = 0 then (
    gtI (13, 157) M1 a0 36 fun x4 =>
    jn (fun (s5 : Int32) =>
      vC (13, 157) M1 a0 <|
      cI (rec 193 [va_rf a0, .int s5] M1) fun x7 M6 =>
      if x7 = 0 then (
        j81 M6) else (
        gtL (13, 157) M6 a0 39 fun x8 =>
        vC (13, 157) M6 a0 <|
        cI (rec 227 [va_rf a0, .int a1, .long x8] M6) fun x10 M9 =>
        jn (fun (s11 : Int32) =>
          vC (13, 157) M9 a0 <|
          cI (rec 194 [va_rf a0, .int s11, .int ((3 : Int32))] M9) fun x13 M12 =>
          if x13 = 0 then (
            j81 M12) else (
            gtP (13, 157) M12 a0 3 fun x14 =>
            alI 100 M12 x14 a1 fun x15 =>
            jn (fun (s16 : Int32) =>
              vC (13, 157) M12 a0 <|
              cI (rec 194 [va_rf a0, .int s16, .int ((6 : Int32))] M12) fun x18 M17 =>
              if x18 = 0 then (
                j81 M17) else (
                gtP (13, 157) M17 a0 3 fun x19 =>
                alI 100 M17 x19 a1 fun x20 =>
                ptI (13, 157) M17 a0 49 x20 fun M21 =>
                gtI (13, 157) M21 a0 49 fun x22 =>
                lt ((((8 : Int32)) * a1) + x22) fun (x23 : Int32) =>
                gtP (13, 157) M21 a0 4 fun x24 =>
                gtL (13, 157) M21 a0 39 fun x25 =>
                asL M21 x24 x23 x25 fun M26 =>
                gtP (13, 157) M26 a0 5 fun x27 =>
                asI 100 M26 x27 x23 (((-1 : Int32))) fun M28 =>
                gtP (13, 157) M28 a0 6 fun x29 =>
                asI 100 M28 x29 x23 (((0 : Int32))) fun M30 =>
                gtP (13, 157) M30 a0 8 fun x31 =>
                asI 100 M30 x31 x23 (((0 : Int32))) fun M32 =>
                ptI (13, 157) M32 a0 64 ((0 : Int32)) fun M33 =>
                gtP (13, 157) M33 a0 3 fun x34 =>
                alI 100 M33 x34 a1 fun x35 =>
                asI 100 M33 x34 a1 ((x35 + ((1 : Int32)))) fun M36 =>
                vC (13, 157) M36 a0 <|
                cV (rec 191 [va_rf a0] M36) fun M37 =>
                vC (13, 157) M37 a0 <|
                cI (rec 195 [va_rf a0, .int ((123 : Int32))] M37) fun x39 M38 =>
                lp (fun (s40 : Mem) j159 =>
                  gtI (13, 157) s40 a0 41 fun x41 =>
                  jn (fun (s42 : Unit) =>
                    vC (13, 157) s40 a0 <|
                    cV (rec 191 [va_rf a0] s40) fun M43 =>
                    some (.null, M43)) fun j183 =>
                  if x41 = 0 then (
                    gtI (13, 157) s40 a0 36 fun x44 =>
                    if x44 = ((125 : Int32)) then (
                      j183 ()) else (
                      vC (13, 157) s40 a0 <|
                      cV (rec 221 [va_rf a0, .int a1] s40) fun M45 =>
                      j159 M45)) else (
                    j183 ())) 4294967296 M38)) fun j73 =>
            if ((8 : Int32)) ≤ x15 then (
              j73 ((0 : Int32))) else (
              j73 ((1 : Int32))))) fun j49 =>
        if 0 ≤ x10 then (
          j49 ((0 : Int32))) else (
          j49 ((1 : Int32))))) fun j25 =>
    if x4 = ((1 : Int32)) then (
      j25 ((1 : Int32))) else (
      j25 ((0 : Int32)))) else (
    j81 M1)
def b229 (rec : Nat → List Value → Mem → XA) (as : List Value) (M0 : Mem) : XA := aR as fun a0 as => aI as fun a1 as => aZ as (c229 rec a0 a1 M0)
set_option maxRecDepth 100000 in
set_option maxHeartbeats 4000000 in
theorem k229 {S : XS} {G : XG} {K : Nat × Nat} {l : Launch} {d : Nat} {rec : Nat → List Value → Mem → XA} (hs : XSnd l xmt rec d) (a0 : Option Nat) (a1 : Int32) (M0 : Mem) : Xe S G K l (yX12_readUnit, cX12_readUnit, 3, none) d 0 [some (va_rf a0), some (.int a1), none] [] M0 (c229 rec a0 a1 M0) := by
  unfold c229
  refine x_aload_n dX12_readUnit_0 rfl ?_
  refine cmX12_436 rfl hs (Nat.le_of_ble_eq_true rfl) dX12_readUnit_1 (fun M1 => ?_)
  refine x_aload_n dX12_readUnit_4 rfl ?_
  refine gfX12_395 rfl dX12_readUnit_5 (fun x2 => ?_)
  refine x_jn (σ := Mem) 81 (fun s3 => [none, none, none]) (fun s3 => []) (fun s3 => s3) (fun s3 => ?_) (fun j81 hj81 => ?_)
  · exact x_vret rfl dX12_readUnit_81
  refine x_if_ne (tgt := 81) dX12_readUnit_8 (by decide) (fun _ => ?_) (fun _ => ?_)
  · refine x_aload_n dX12_readUnit_11 rfl ?_
    refine x_aload_n dX12_readUnit_12 rfl ?_
    refine gfX12_408 rfl dX12_readUnit_13 (fun x4 => ?_)
    refine x_iconst (v := 1) dX12_readUnit_16 (by decide) ?_
    refine x_jn (σ := Int32) 25 (fun s5 => [some (va_rf a0), some (.int a1), none]) (fun s5 => [.int s5, va_rf a0]) (fun s5 => M1) (fun s5 => ?_) (fun j25 hj25 => ?_)
    · refine cmX12_432 rfl hs (Nat.le_of_ble_eq_true rfl) dX12_readUnit_25 (fun x7 M6 => ?_)
      refine x_if_eq (tgt := 81) dX12_readUnit_28 (by decide) (fun _ => ?_) (fun _ => ?_)
      · exact x_weak (by exact trivial) (hj81 M6)
      · refine x_aload_n dX12_readUnit_31 rfl ?_
        refine x_aload_n dX12_readUnit_32 rfl ?_
        refine x_iload_n dX12_readUnit_33 rfl ?_
        refine x_aload_n dX12_readUnit_34 rfl ?_
        refine gfX12_415 rfl dX12_readUnit_35 (fun x8 => ?_)
        refine cmX12_571 rfl hs (Nat.le_of_ble_eq_true rfl) dX12_readUnit_38 (fun x10 M9 => ?_)
        refine x_jn (σ := Int32) 49 (fun s11 => [some (va_rf a0), some (.int a1), none]) (fun s11 => [.int s11, va_rf a0]) (fun s11 => M9) (fun s11 => ?_) (fun j49 hj49 => ?_)
        · refine x_iconst (v := 3) dX12_readUnit_49 (by decide) ?_
          refine cmX12_455 rfl hs (Nat.le_of_ble_eq_true rfl) dX12_readUnit_50 (fun x13 M12 => ?_)
          refine x_if_eq (tgt := 81) dX12_readUnit_53 (by decide) (fun _ => ?_) (fun _ => ?_)
          · exact x_weak (by exact trivial) (hj81 M12)
          · refine x_aload_n dX12_readUnit_56 rfl ?_
            refine x_aload_n dX12_readUnit_57 rfl ?_
            refine gfX12_13 rfl dX12_readUnit_58 (fun x14 => ?_)
            refine x_iload_n dX12_readUnit_61 rfl ?_
            refine x_iald dX12_readUnit_62 (fun x15 => ?_)
            refine x_bipush (v := 8) dX12_readUnit_63 (by decide) ?_
            refine x_jn (σ := Int32) 73 (fun s16 => [some (va_rf a0), some (.int a1), none]) (fun s16 => [.int s16, va_rf a0]) (fun s16 => M12) (fun s16 => ?_) (fun j73 hj73 => ?_)
            · refine x_bipush (v := 6) dX12_readUnit_73 (by decide) ?_
              refine cmX12_455 rfl hs (Nat.le_of_ble_eq_true rfl) dX12_readUnit_75 (fun x18 M17 => ?_)
              refine x_if_ne (tgt := 82) dX12_readUnit_78 (by decide) (fun _ => ?_) (fun _ => ?_)
              · exact x_weak (by exact trivial) (hj81 M17)
              · refine x_aload_n dX12_readUnit_82 rfl ?_
                refine x_aload_n dX12_readUnit_83 rfl ?_
                refine gfX12_13 rfl dX12_readUnit_84 (fun x19 => ?_)
                refine x_iload_n dX12_readUnit_87 rfl ?_
                refine x_iald dX12_readUnit_88 (fun x20 => ?_)
                refine pfX12_442 rfl dX12_readUnit_89 (fun M21 => ?_)
                refine x_bipush (v := 8) dX12_readUnit_92 (by decide) ?_
                refine x_iload_n dX12_readUnit_94 rfl ?_
                refine x_imul dX12_readUnit_95 ?_
                refine x_aload_n dX12_readUnit_96 rfl ?_
                refine gfX12_442 rfl dX12_readUnit_97 (fun x22 => ?_)
                refine x_iadd dX12_readUnit_100 ?_
                refine x_ltI (fun x23 => ?_)
                refine x_istore_n (lo' := [some (va_rf a0), some (.int a1), some (.int x23)]) dX12_readUnit_101 (by decide) rfl rfl ?_
                refine x_aload_n dX12_readUnit_102 rfl ?_
                refine gfX12_17 rfl dX12_readUnit_103 (fun x24 => ?_)
                refine x_iload_n dX12_readUnit_106 rfl ?_
                refine x_aload_n dX12_readUnit_107 rfl ?_
                refine gfX12_415 rfl dX12_readUnit_108 (fun x25 => ?_)
                refine x_last dX12_readUnit_111 (fun M26 => ?_)
                refine x_aload_n dX12_readUnit_112 rfl ?_
                refine gfX12_21 rfl dX12_readUnit_113 (fun x27 => ?_)
                refine x_iload_n dX12_readUnit_116 rfl ?_
                refine x_iconst (v := -1) dX12_readUnit_117 (by decide) ?_
                refine x_iast dX12_readUnit_118 (fun M28 => ?_)
                refine x_aload_n dX12_readUnit_119 rfl ?_
                refine gfX12_24 rfl dX12_readUnit_120 (fun x29 => ?_)
                refine x_iload_n dX12_readUnit_123 rfl ?_
                refine x_iconst (v := 0) dX12_readUnit_124 (by decide) ?_
                refine x_iast dX12_readUnit_125 (fun M30 => ?_)
                refine x_aload_n dX12_readUnit_126 rfl ?_
                refine gfX12_30 rfl dX12_readUnit_127 (fun x31 => ?_)
                refine x_iload_n dX12_readUnit_130 rfl ?_
                refine x_iconst (v := 0) dX12_readUnit_131 (by decide) ?_
                refine x_iast dX12_readUnit_132 (fun M32 => ?_)
                refine x_aload_n dX12_readUnit_133 rfl ?_
                refine x_iconst (v := 0) dX12_readUnit_134 (by decide) ?_
                refine pfX12_555 rfl dX12_readUnit_135 (fun M33 => ?_)
                refine x_aload_n dX12_readUnit_138 rfl ?_
                refine gfX12_13 rfl dX12_readUnit_139 (fun x34 => ?_)
                refine x_iload_n dX12_readUnit_142 rfl ?_
                refine x_dup2 dX12_readUnit_143 (xc1_i _) (xc1_r _) ?_
                refine x_iald dX12_readUnit_144 (fun x35 => ?_)
                refine x_iconst (v := 1) dX12_readUnit_145 (by decide) ?_
                refine x_iadd dX12_readUnit_146 ?_
                refine x_iast dX12_readUnit_147 (fun M36 => ?_)
                refine x_aload_n dX12_readUnit_148 rfl ?_
                refine cmX12_436 rfl hs (Nat.le_of_ble_eq_true rfl) dX12_readUnit_149 (fun M37 => ?_)
                refine x_aload_n dX12_readUnit_152 rfl ?_
                refine x_bipush (v := 123) dX12_readUnit_153 (by decide) ?_
                refine cmX12_517 rfl hs (Nat.le_of_ble_eq_true rfl) dX12_readUnit_155 (fun x39 M38 => ?_)
                refine x_pop dX12_readUnit_158 (xc1_i _) ?_
                refine x_weak (by exact ⟨rfl, ⟨rfl, trivial⟩⟩) (x_lp (σ := Mem) 159 (fun s40 => [some (va_rf a0), some (.int a1), none]) (fun s40 => []) (fun s40 => s40) (fun s40 j159 hj159 => ?_) 4294967296 M38)
                · refine x_aload_n dX12_readUnit_159 rfl ?_
                  refine gfX12_395 rfl dX12_readUnit_160 (fun x41 => ?_)
                  refine x_jn (σ := Unit) 183 (fun s42 => [some (va_rf a0), none, none]) (fun s42 => []) (fun s42 => s40) (fun s42 => ?_) (fun j183 hj183 => ?_)
                  · refine x_aload_n dX12_readUnit_183 rfl ?_
                    refine cmX12_436 rfl hs (Nat.le_of_ble_eq_true rfl) dX12_readUnit_184 (fun M43 => ?_)
                    exact x_vret rfl dX12_readUnit_187
                  refine x_if_ne (tgt := 183) dX12_readUnit_163 (by decide) (fun _ => ?_) (fun _ => ?_)
                  · refine x_aload_n dX12_readUnit_166 rfl ?_
                    refine gfX12_408 rfl dX12_readUnit_167 (fun x44 => ?_)
                    refine x_bipush (v := 125) dX12_readUnit_170 (by decide) ?_
                    refine x_icmp_eq (tgt := 183) dX12_readUnit_172 (by decide) (fun _ => ?_) (fun _ => ?_)
                    · exact x_weak (by exact ⟨rfl, trivial⟩) (hj183 ())
                    · refine x_aload_n dX12_readUnit_175 rfl ?_
                      refine x_iload_n dX12_readUnit_176 rfl ?_
                      refine cmX12_575 rfl hs (Nat.le_of_ble_eq_true rfl) dX12_readUnit_177 (fun M45 => ?_)
                      refine x_goto (tgt := 159) dX12_readUnit_180 (by decide) ?_
                      exact x_weak (by exact ⟨rfl, ⟨rfl, trivial⟩⟩) (hj159 M45)
                  · exact x_weak (by exact ⟨rfl, trivial⟩) (hj183 ())
            refine x_icmp_ge (tgt := 72) dX12_readUnit_65 (by decide) (fun _ => ?_) (fun _ => ?_)
            · refine x_iconst (v := 0) dX12_readUnit_72 (by decide) ?_
              exact x_weak (by exact ⟨rfl, ⟨rfl, trivial⟩⟩) (hj73 ((0 : Int32)))
            · refine x_iconst (v := 1) dX12_readUnit_68 (by decide) ?_
              refine x_goto (tgt := 73) dX12_readUnit_69 (by decide) ?_
              exact x_weak (by exact ⟨rfl, ⟨rfl, trivial⟩⟩) (hj73 ((1 : Int32)))
        refine x_if_ge (tgt := 48) dX12_readUnit_41 (by decide) (fun _ => ?_) (fun _ => ?_)
        · refine x_iconst (v := 0) dX12_readUnit_48 (by decide) ?_
          exact x_weak (by exact ⟨rfl, ⟨rfl, trivial⟩⟩) (hj49 ((0 : Int32)))
        · refine x_iconst (v := 1) dX12_readUnit_44 (by decide) ?_
          refine x_goto (tgt := 49) dX12_readUnit_45 (by decide) ?_
          exact x_weak (by exact ⟨rfl, ⟨rfl, trivial⟩⟩) (hj49 ((1 : Int32)))
    refine x_icmp_ne (tgt := 24) dX12_readUnit_17 (by decide) (fun _ => ?_) (fun _ => ?_)
    · refine x_iconst (v := 1) dX12_readUnit_20 (by decide) ?_
      refine x_goto (tgt := 25) dX12_readUnit_21 (by decide) ?_
      exact x_weak (by exact ⟨rfl, ⟨rfl, trivial⟩⟩) (hj25 ((1 : Int32)))
    · refine x_iconst (v := 0) dX12_readUnit_24 (by decide) ?_
      exact x_weak (by exact ⟨rfl, ⟨rfl, trivial⟩⟩) (hj25 ((0 : Int32)))
  · exact x_weak (by exact trivial) (hj81 M1)
theorem s229 {l : Launch} {d : Nat} {rec : Nat → List Value → Mem → XA} (hS : Nonempty XS) (hs : XSnd l xmt rec d) : Snd1 l 229 (b229 rec) d := by
  intro as M r M' h0
  unfold b229 at h0
  obtain ⟨a0, l1, e1, h1⟩ := aR_inv h0
  obtain ⟨a1, l2, e2, h2⟩ := aI_inv h1
  obtain ⟨ez, h⟩ := aZ_inv h2
  subst ez
  subst e2
  subst e1
  exact xmet (M := M) (as := [va_rf a0, .int a1]) (lo := [some (va_rf a0), some (.int a1)]) 229 xq229 xm229 (by rw [xargs_rf, xargs_i, xargs_nil]; exact ⟨rfl, ⟨rfl, trivial⟩⟩) (by rw [xargs_rf, xargs_i, xargs_nil]; exact Nat.le_of_ble_eq_true rfl) (fun S G K => x_weak (by exact ⟨rfl, ⟨rfl, trivial⟩⟩) (k229 hs a0 a1 M)) h hS
set_option maxRecDepth 100000 in
def c230 (rec : Nat → List Value → Mem → XA) (a0 : Option Nat) (a1 : Int32) (M0 : Mem) : XA :=
  lp (fun (s1 : Int32 × Mem) j2 =>
    gtI (13, 157) s1.2 a0 53 fun x2 =>
    jn (fun (s3 : Unit) =>
      some (.null, s1.2)) fun j335 =>
    if x2 ≤ s1.1 then (
      j335 ()) else (
      gtI (13, 157) s1.2 a0 41 fun x4 =>
      if x4 = 0 then (
        gtP (13, 157) s1.2 a0 56 fun x5 =>
        alL s1.2 x5 s1.1 fun x6 =>
        jn (fun (s7 : Int32 × Mem) =>
          if 0 ≤ s7.1 then (
            gtP (13, 157) s7.2 a0 58 fun x8 =>
            alL s7.2 x8 s1.1 fun x9 =>
            vC (13, 157) s7.2 a0 <|
            cI (rec 228 [va_rf a0, .int a1, .int s7.1, .long x9] s7.2) fun x11 M10 =>
            lt ((((96 : Int32)) * a1) + x11) fun (x12 : Int32) =>
            jn (fun (s13 : Int32) =>
              jn (fun (s14 : Int32) =>
                gtP (13, 157) M10 a0 55 fun x15 =>
                alI 100 M10 x15 s1.1 fun x16 =>
                jn (fun (s17 : Int32 × Mem) =>
                  if s17.1 = 0 then (
                    gtP (13, 157) s17.2 a0 59 fun x18 =>
                    alI 100 s17.2 x18 s1.1 fun x19 =>
                    vC (13, 157) s17.2 a0 <|
                    cV (rec 192 [va_rf a0, .int ((4 : Int32)), .int x19] s17.2) fun M20 =>
                    some (.null, M20)) else (
                    jn (fun (s21 : Int32) =>
                      gtP (13, 157) s17.2 a0 54 fun x22 =>
                      alI 100 s17.2 x22 s1.1 fun x23 =>
                      gtP (13, 157) s17.2 a0 44 fun x24 =>
                      jn (fun (s25 : Int32) =>
                        asI 101 s17.2 x24 x23 (s25.toInt8.toInt32) fun M26 =>
                        gtP (13, 157) M26 a0 45 fun x27 =>
                        jn (fun (s28 : Int32) =>
                          asI 100 M26 x27 x23 s28 fun M29 =>
                          lt (s1.1 + (1 : Int32)) fun (x30 : Int32) =>
                          j2 (x30, M29)) fun j328 =>
                        if s21 = 0 then (
                          j328 x11) else (
                          gtP (13, 157) M26 a0 15 fun x31 =>
                          alI 100 M26 x31 x12 fun x32 =>
                          j328 x32)) fun j304 =>
                      if s21 = 0 then (
                        gtP (13, 157) s17.2 a0 44 fun x33 =>
                        alI 101 s17.2 x33 x23 fun x34 =>
                        j304 x34) else (
                        j304 ((0 : Int32)))) fun j272 =>
                    if s14 = 0 then (
                      j272 ((1 : Int32))) else (
                      j272 ((0 : Int32))))) fun j245 =>
                swI x16 [
                 ((0 : Int32), (
                    cI (rec 184 [.int s14, .int ((0 : Int32)), .int ((2 : Int32))] M10) fun x36 M35 =>
                    j245 (x36, M35))),
                 ((1 : Int32), (
                    cI (rec 184 [.int s14, .int ((1 : Int32)), .int ((2 : Int32))] M10) fun x38 M37 =>
                    j245 (x38, M37))),
                 ((2 : Int32), (
                    jn (fun (s39 : Int32) =>
                      j245 (s39, M10)) fun j211 =>
                    if s14 = ((3 : Int32)) then (
                      j211 ((1 : Int32))) else (
                      j211 ((0 : Int32))))),
                 ((3 : Int32), (
                    jn (fun (s40 : Int32) =>
                      j245 (s40, M10)) fun j211 =>
                    if s14 = ((3 : Int32)) then (
                      j211 ((1 : Int32))) else (
                      j211 ((0 : Int32)))))] (
                  jn (fun (s41 : Int32) =>
                    j245 (s41, M10)) fun j243 =>
                  jn (fun (s42 : Unit) =>
                    j243 ((0 : Int32))) fun j242 =>
                  if s14 = ((4 : Int32)) then (
                    gtP (13, 157) M10 a0 15 fun x43 =>
                    alI 100 M10 x43 x12 fun x44 =>
                    gtP (13, 157) M10 a0 60 fun x45 =>
                    alI 100 M10 x45 s1.1 fun x46 =>
                    if x44 = x46 then (
                      j243 ((1 : Int32))) else (
                      j242 ())) else (
                    j242 ()))) fun j136 =>
              if s13 = 0 then (
                j136 ((-1 : Int32))) else (
                gtP (13, 157) M10 a0 13 fun x47 =>
                alI 100 M10 x47 x12 fun x48 =>
                j136 x48)) fun j118 =>
            jn (fun (s49 : Unit) =>
              j118 ((0 : Int32))) fun j117 =>
            if x11 < 0 then (
              j117 ()) else (
              gtP (13, 157) M10 a0 14 fun x50 =>
              alX 102 M10 x50 x12 fun x51 =>
              jn (fun (s52 : Unit) =>
                j118 ((1 : Int32))) fun j113 =>
              if x51 = 0 then (
                j113 ()) else (
                gtP (13, 157) M10 a0 61 fun x53 =>
                alI 100 M10 x53 s1.1 fun x54 =>
                if s7.1 = x54 then (
                  j113 ()) else (
                  j117 ())))) else (
            gtP (13, 157) s7.2 a0 57 fun x55 =>
            alI 100 s7.2 x55 s1.1 fun x56 =>
            vC (13, 157) s7.2 a0 <|
            cV (rec 192 [va_rf a0, .int ((4 : Int32)), .int x56] s7.2) fun M57 =>
            some (.null, M57))) fun j48 =>
        if (lg_cmp x6 ((0 : Int64))) = 0 then (
          gtP (13, 157) s1.2 a0 61 fun x58 =>
          alI 100 s1.2 x58 s1.1 fun x59 =>
          j48 (x59, s1.2)) else (
          gtP (13, 157) s1.2 a0 56 fun x60 =>
          alL s1.2 x60 s1.1 fun x61 =>
          vC (13, 157) s1.2 a0 <|
          cI (rec 227 [va_rf a0, .int a1, .long x61] s1.2) fun x63 M62 =>
          j48 (x63, M62))) else (
        j335 ()))) 4294967296 ((0 : Int32), M0)
def b230 (rec : Nat → List Value → Mem → XA) (as : List Value) (M0 : Mem) : XA := aR as fun a0 as => aI as fun a1 as => aZ as (c230 rec a0 a1 M0)
set_option maxRecDepth 100000 in
set_option maxHeartbeats 4000000 in
theorem k230 {S : XS} {G : XG} {K : Nat × Nat} {l : Launch} {d : Nat} {rec : Nat → List Value → Mem → XA} (hs : XSnd l xmt rec d) (a0 : Option Nat) (a1 : Int32) (M0 : Mem) : Xe S G K l (yX12_lookUp, cX12_lookUp, 10, none) d 0 [some (va_rf a0), some (.int a1), none, none, none, none, none, none, none, none] [] M0 (c230 rec a0 a1 M0) := by
  unfold c230
  refine x_iconst (v := 0) dX12_lookUp_0 (by decide) ?_
  refine x_istore_n (lo' := [some (va_rf a0), some (.int a1), some (.int ((0 : Int32))), none, none, none, none, none, none, none]) dX12_lookUp_1 (by decide) rfl rfl ?_
  refine x_weak (by exact ⟨rfl, ⟨rfl, ⟨rfl, trivial⟩⟩⟩) (x_lp (σ := Int32 × Mem) 2 (fun s1 => [some (va_rf a0), some (.int a1), some (.int s1.1), none, none, none, none, none, none, none]) (fun s1 => []) (fun s1 => s1.2) (fun s1 j2 hj2 => ?_) 4294967296 ((0 : Int32), M0))
  · refine x_iload_n dX12_lookUp_2 rfl ?_
    refine x_aload_n dX12_lookUp_3 rfl ?_
    refine gfX12_462 rfl dX12_lookUp_4 (fun x2 => ?_)
    refine x_jn (σ := Unit) 335 (fun s3 => [none, none, none, none, none, none, none, none, none, none]) (fun s3 => []) (fun s3 => s1.2) (fun s3 => ?_) (fun j335 hj335 => ?_)
    · exact x_vret rfl dX12_lookUp_335
    refine x_icmp_ge (tgt := 335) dX12_lookUp_7 (by decide) (fun _ => ?_) (fun _ => ?_)
    · exact x_weak (by exact trivial) (hj335 ())
    · refine x_aload_n dX12_lookUp_10 rfl ?_
      refine gfX12_395 rfl dX12_lookUp_11 (fun x4 => ?_)
      refine x_if_ne (tgt := 335) dX12_lookUp_14 (by decide) (fun _ => ?_) (fun _ => ?_)
      · refine x_aload_n dX12_lookUp_17 rfl ?_
        refine gfX12_197 rfl dX12_lookUp_18 (fun x5 => ?_)
        refine x_iload_n dX12_lookUp_21 rfl ?_
        refine x_lald dX12_lookUp_22 (fun x6 => ?_)
        refine x_lconst (v := 0) dX12_lookUp_23 (by decide) ?_
        refine x_lcmp dX12_lookUp_24 ?_
        refine x_jn (σ := Int32 × Mem) 48 (fun s7 => [some (va_rf a0), some (.int a1), some (.int s1.1), none, none, none, none, none, none, none]) (fun s7 => [.int s7.1]) (fun s7 => s7.2) (fun s7 => ?_) (fun j48 hj48 => ?_)
        · refine x_istore_n (lo' := [some (va_rf a0), some (.int a1), some (.int s1.1), some (.int s7.1), none, none, none, none, none, none]) dX12_lookUp_48 (by decide) rfl rfl ?_
          refine x_iload_n dX12_lookUp_49 rfl ?_
          refine x_if_ge (tgt := 65) dX12_lookUp_50 (by decide) (fun _ => ?_) (fun _ => ?_)
          · refine x_aload_n dX12_lookUp_65 rfl ?_
            refine x_iload_n dX12_lookUp_66 rfl ?_
            refine x_iload_n dX12_lookUp_67 rfl ?_
            refine x_aload_n dX12_lookUp_68 rfl ?_
            refine gfX12_203 rfl dX12_lookUp_69 (fun x8 => ?_)
            refine x_iload_n dX12_lookUp_72 rfl ?_
            refine x_lald dX12_lookUp_73 (fun x9 => ?_)
            refine cmX12_578 rfl hs (Nat.le_of_ble_eq_true rfl) dX12_lookUp_74 (fun x11 M10 => ?_)
            refine x_istore (lo' := [some (va_rf a0), some (.int a1), some (.int s1.1), some (.int s7.1), some (.int x11), none, none, none, none, none]) dX12_lookUp_77 (by decide) rfl rfl ?_
            refine x_bipush (v := 96) dX12_lookUp_79 (by decide) ?_
            refine x_iload_n dX12_lookUp_81 rfl ?_
            refine x_imul dX12_lookUp_82 ?_
            refine x_iload dX12_lookUp_83 rfl ?_
            refine x_iadd dX12_lookUp_85 ?_
            refine x_ltI (fun x12 => ?_)
            refine x_istore (lo' := [some (va_rf a0), some (.int a1), some (.int s1.1), some (.int s7.1), some (.int x11), some (.int x12), none, none, none, none]) dX12_lookUp_86 (by decide) rfl rfl ?_
            refine x_iload dX12_lookUp_88 rfl ?_
            refine x_jn (σ := Int32) 118 (fun s13 => [some (va_rf a0), some (.int a1), some (.int s1.1), none, some (.int x11), some (.int x12), none, none, none, none]) (fun s13 => [.int s13]) (fun s13 => M10) (fun s13 => ?_) (fun j118 hj118 => ?_)
            · refine x_istore (lo' := [some (va_rf a0), some (.int a1), some (.int s1.1), none, some (.int x11), some (.int x12), some (.int s13), none, none, none]) dX12_lookUp_118 (by decide) rfl rfl ?_
              refine x_iload dX12_lookUp_120 rfl ?_
              refine x_jn (σ := Int32) 136 (fun s14 => [some (va_rf a0), some (.int a1), some (.int s1.1), none, some (.int x11), some (.int x12), none, none, none, none]) (fun s14 => [.int s14]) (fun s14 => M10) (fun s14 => ?_) (fun j136 hj136 => ?_)
              · refine x_istore (lo' := [some (va_rf a0), some (.int a1), some (.int s1.1), none, some (.int x11), some (.int x12), none, some (.int s14), none, none]) dX12_lookUp_136 (by decide) rfl rfl ?_
                refine x_aload_n dX12_lookUp_138 rfl ?_
                refine gfX12_194 rfl dX12_lookUp_139 (fun x15 => ?_)
                refine x_iload_n dX12_lookUp_142 rfl ?_
                refine x_iald dX12_lookUp_143 (fun x16 => ?_)
                refine x_jn (σ := Int32 × Mem) 245 (fun s17 => [some (va_rf a0), some (.int a1), some (.int s1.1), none, some (.int x11), some (.int x12), some (.int s17.1), some (.int s14), none, none]) (fun s17 => []) (fun s17 => s17.2) (fun s17 => ?_) (fun j245 hj245 => ?_)
                · refine x_iload dX12_lookUp_245 rfl ?_
                  refine x_if_ne (tgt := 262) dX12_lookUp_247 (by decide) (fun _ => ?_) (fun _ => ?_)
                  · refine x_aload_n dX12_lookUp_250 rfl ?_
                    refine x_iconst (v := 4) dX12_lookUp_251 (by decide) ?_
                    refine x_aload_n dX12_lookUp_252 rfl ?_
                    refine gfX12_206 rfl dX12_lookUp_253 (fun x18 => ?_)
                    refine x_iload_n dX12_lookUp_256 rfl ?_
                    refine x_iald dX12_lookUp_257 (fun x19 => ?_)
                    refine cmX12_428 rfl hs (Nat.le_of_ble_eq_true rfl) dX12_lookUp_258 (fun M20 => ?_)
                    exact x_vret rfl dX12_lookUp_261
                  · refine x_iload dX12_lookUp_262 rfl ?_
                    refine x_jn (σ := Int32) 272 (fun s21 => [some (va_rf a0), some (.int a1), some (.int s1.1), none, some (.int x11), some (.int x12), none, none, none, none]) (fun s21 => [.int s21]) (fun s21 => s17.2) (fun s21 => ?_) (fun j272 hj272 => ?_)
                    · refine x_istore (lo' := [some (va_rf a0), some (.int a1), some (.int s1.1), none, some (.int x11), some (.int x12), none, none, some (.int s21), none]) dX12_lookUp_272 (by decide) rfl rfl ?_
                      refine x_aload_n dX12_lookUp_274 rfl ?_
                      refine gfX12_191 rfl dX12_lookUp_275 (fun x22 => ?_)
                      refine x_iload_n dX12_lookUp_278 rfl ?_
                      refine x_iald dX12_lookUp_279 (fun x23 => ?_)
                      refine x_istore (lo' := [some (va_rf a0), some (.int a1), some (.int s1.1), none, some (.int x11), some (.int x12), none, none, some (.int s21), some (.int x23)]) dX12_lookUp_280 (by decide) rfl rfl ?_
                      refine x_aload_n dX12_lookUp_282 rfl ?_
                      refine gfX12_176 rfl dX12_lookUp_283 (fun x24 => ?_)
                      refine x_iload dX12_lookUp_286 rfl ?_
                      refine x_iload dX12_lookUp_288 rfl ?_
                      refine x_jn (σ := Int32) 304 (fun s25 => [some (va_rf a0), some (.int a1), some (.int s1.1), none, some (.int x11), some (.int x12), none, none, some (.int s21), some (.int x23)]) (fun s25 => [.int s25, .int x23, va_rf x24]) (fun s25 => s17.2) (fun s25 => ?_) (fun j304 hj304 => ?_)
                      · refine x_bast dX12_lookUp_304 (fun M26 => ?_)
                        refine x_aload_n dX12_lookUp_305 rfl ?_
                        refine gfX12_179 rfl dX12_lookUp_306 (fun x27 => ?_)
                        refine x_iload dX12_lookUp_309 rfl ?_
                        refine x_iload dX12_lookUp_311 rfl ?_
                        refine x_jn (σ := Int32) 328 (fun s28 => [some (va_rf a0), some (.int a1), some (.int s1.1), none, none, none, none, none, none, none]) (fun s28 => [.int s28, .int x23, va_rf x27]) (fun s28 => M26) (fun s28 => ?_) (fun j328 hj328 => ?_)
                        · refine x_iast dX12_lookUp_328 (fun M29 => ?_)
                          refine x_iincN (v := 1) (lo' := fun x30 => [some (va_rf a0), some (.int a1), some (.int x30), none, none, none, none, none, none, none]) (by decide) dX12_lookUp_329 rfl (by decide) rfl (fun _ => rfl) (fun x30 => ?_)
                          refine x_goto (tgt := 2) dX12_lookUp_332 (by decide) ?_
                          exact x_weak (by exact ⟨rfl, ⟨rfl, ⟨rfl, trivial⟩⟩⟩) (hj2 (x30, M29))
                        refine x_if_eq (tgt := 326) dX12_lookUp_313 (by decide) (fun _ => ?_) (fun _ => ?_)
                        · refine x_iload dX12_lookUp_326 rfl ?_
                          exact x_weak (by exact ⟨rfl, ⟨rfl, ⟨rfl, trivial⟩⟩⟩) (hj328 x11)
                        · refine x_aload_n dX12_lookUp_316 rfl ?_
                          refine gfX12_52 rfl dX12_lookUp_317 (fun x31 => ?_)
                          refine x_iload dX12_lookUp_320 rfl ?_
                          refine x_iald dX12_lookUp_322 (fun x32 => ?_)
                          refine x_goto (tgt := 328) dX12_lookUp_323 (by decide) ?_
                          exact x_weak (by exact ⟨rfl, ⟨rfl, ⟨rfl, trivial⟩⟩⟩) (hj328 x32)
                      refine x_if_eq (tgt := 297) dX12_lookUp_290 (by decide) (fun _ => ?_) (fun _ => ?_)
                      · refine x_aload_n dX12_lookUp_297 rfl ?_
                        refine gfX12_176 rfl dX12_lookUp_298 (fun x33 => ?_)
                        refine x_iload dX12_lookUp_301 rfl ?_
                        refine x_bald dX12_lookUp_303 (fun x34 => ?_)
                        exact x_weak (by exact ⟨rfl, ⟨rfl, ⟨rfl, ⟨rfl, ⟨rfl, ⟨rfl, ⟨rfl, trivial⟩⟩⟩⟩⟩⟩⟩) (hj304 x34)
                      · refine x_iconst (v := 0) dX12_lookUp_293 (by decide) ?_
                        refine x_goto (tgt := 304) dX12_lookUp_294 (by decide) ?_
                        exact x_weak (by exact ⟨rfl, ⟨rfl, ⟨rfl, ⟨rfl, ⟨rfl, ⟨rfl, ⟨rfl, trivial⟩⟩⟩⟩⟩⟩⟩) (hj304 ((0 : Int32)))
                    refine x_if_ne (tgt := 271) dX12_lookUp_264 (by decide) (fun _ => ?_) (fun _ => ?_)
                    · refine x_iconst (v := 1) dX12_lookUp_267 (by decide) ?_
                      refine x_goto (tgt := 272) dX12_lookUp_268 (by decide) ?_
                      exact x_weak (by exact ⟨rfl, ⟨rfl, ⟨rfl, ⟨rfl, ⟨rfl, trivial⟩⟩⟩⟩⟩) (hj272 ((1 : Int32)))
                    · refine x_iconst (v := 0) dX12_lookUp_271 (by decide) ?_
                      exact x_weak (by exact ⟨rfl, ⟨rfl, ⟨rfl, ⟨rfl, ⟨rfl, trivial⟩⟩⟩⟩⟩) (hj272 ((0 : Int32)))
                refine x_table (tgt := 216) dX12_lookUp_144 [(0, 176), (1, 188), (2, 200), (3, 200)] (by decide +kernel) (by decide +kernel) (by decide) ?_ ?_
                · refine swG_d (by decide) ?_ (swG_d (by decide) ?_ (swG_d (by decide) ?_ (swG_d (by decide) ?_ (trivial))))
                  · refine x_iload dX12_lookUp_176 rfl ?_
                    refine x_iconst (v := 0) dX12_lookUp_178 (by decide) ?_
                    refine x_iconst (v := 2) dX12_lookUp_179 (by decide) ?_
                    refine cmX12_381 rfl hs (Nat.le_of_ble_eq_true rfl) dX12_lookUp_180 (fun x36 M35 => ?_)
                    refine x_istore (lo' := [some (va_rf a0), some (.int a1), some (.int s1.1), none, some (.int x11), some (.int x12), some (.int x36), some (.int s14), none, none]) dX12_lookUp_183 (by decide) rfl rfl ?_
                    refine x_goto (tgt := 245) dX12_lookUp_185 (by decide) ?_
                    exact x_weak (by exact ⟨rfl, ⟨rfl, ⟨rfl, ⟨rfl, ⟨rfl, ⟨rfl, ⟨rfl, trivial⟩⟩⟩⟩⟩⟩⟩) (hj245 (x36, M35))
                  · refine x_iload dX12_lookUp_188 rfl ?_
                    refine x_iconst (v := 1) dX12_lookUp_190 (by decide) ?_
                    refine x_iconst (v := 2) dX12_lookUp_191 (by decide) ?_
                    refine cmX12_381 rfl hs (Nat.le_of_ble_eq_true rfl) dX12_lookUp_192 (fun x38 M37 => ?_)
                    refine x_istore (lo' := [some (va_rf a0), some (.int a1), some (.int s1.1), none, some (.int x11), some (.int x12), some (.int x38), some (.int s14), none, none]) dX12_lookUp_195 (by decide) rfl rfl ?_
                    refine x_goto (tgt := 245) dX12_lookUp_197 (by decide) ?_
                    exact x_weak (by exact ⟨rfl, ⟨rfl, ⟨rfl, ⟨rfl, ⟨rfl, ⟨rfl, ⟨rfl, trivial⟩⟩⟩⟩⟩⟩⟩) (hj245 (x38, M37))
                  · refine x_iload dX12_lookUp_200 rfl ?_
                    refine x_iconst (v := 3) dX12_lookUp_202 (by decide) ?_
                    refine x_jn (σ := Int32) 211 (fun s39 => [some (va_rf a0), some (.int a1), some (.int s1.1), none, some (.int x11), some (.int x12), none, some (.int s14), none, none]) (fun s39 => [.int s39]) (fun s39 => M10) (fun s39 => ?_) (fun j211 hj211 => ?_)
                    · refine x_istore (lo' := [some (va_rf a0), some (.int a1), some (.int s1.1), none, some (.int x11), some (.int x12), some (.int s39), some (.int s14), none, none]) dX12_lookUp_211 (by decide) rfl rfl ?_
                      refine x_goto (tgt := 245) dX12_lookUp_213 (by decide) ?_
                      exact x_weak (by exact ⟨rfl, ⟨rfl, ⟨rfl, ⟨rfl, ⟨rfl, ⟨rfl, ⟨rfl, trivial⟩⟩⟩⟩⟩⟩⟩) (hj245 (s39, M10))
                    refine x_icmp_ne (tgt := 210) dX12_lookUp_203 (by decide) (fun _ => ?_) (fun _ => ?_)
                    · refine x_iconst (v := 1) dX12_lookUp_206 (by decide) ?_
                      refine x_goto (tgt := 211) dX12_lookUp_207 (by decide) ?_
                      exact x_weak (by exact ⟨rfl, ⟨rfl, ⟨rfl, ⟨rfl, ⟨rfl, ⟨rfl, trivial⟩⟩⟩⟩⟩⟩) (hj211 ((1 : Int32)))
                    · refine x_iconst (v := 0) dX12_lookUp_210 (by decide) ?_
                      exact x_weak (by exact ⟨rfl, ⟨rfl, ⟨rfl, ⟨rfl, ⟨rfl, ⟨rfl, trivial⟩⟩⟩⟩⟩⟩) (hj211 ((0 : Int32)))
                  · refine x_iload dX12_lookUp_200 rfl ?_
                    refine x_iconst (v := 3) dX12_lookUp_202 (by decide) ?_
                    refine x_jn (σ := Int32) 211 (fun s40 => [some (va_rf a0), some (.int a1), some (.int s1.1), none, some (.int x11), some (.int x12), none, some (.int s14), none, none]) (fun s40 => [.int s40]) (fun s40 => M10) (fun s40 => ?_) (fun j211 hj211 => ?_)
                    · refine x_istore (lo' := [some (va_rf a0), some (.int a1), some (.int s1.1), none, some (.int x11), some (.int x12), some (.int s40), some (.int s14), none, none]) dX12_lookUp_211 (by decide) rfl rfl ?_
                      refine x_goto (tgt := 245) dX12_lookUp_213 (by decide) ?_
                      exact x_weak (by exact ⟨rfl, ⟨rfl, ⟨rfl, ⟨rfl, ⟨rfl, ⟨rfl, ⟨rfl, trivial⟩⟩⟩⟩⟩⟩⟩) (hj245 (s40, M10))
                    refine x_icmp_ne (tgt := 210) dX12_lookUp_203 (by decide) (fun _ => ?_) (fun _ => ?_)
                    · refine x_iconst (v := 1) dX12_lookUp_206 (by decide) ?_
                      refine x_goto (tgt := 211) dX12_lookUp_207 (by decide) ?_
                      exact x_weak (by exact ⟨rfl, ⟨rfl, ⟨rfl, ⟨rfl, ⟨rfl, ⟨rfl, trivial⟩⟩⟩⟩⟩⟩) (hj211 ((1 : Int32)))
                    · refine x_iconst (v := 0) dX12_lookUp_210 (by decide) ?_
                      exact x_weak (by exact ⟨rfl, ⟨rfl, ⟨rfl, ⟨rfl, ⟨rfl, ⟨rfl, trivial⟩⟩⟩⟩⟩⟩) (hj211 ((0 : Int32)))
                · refine x_iload dX12_lookUp_216 rfl ?_
                  refine x_iconst (v := 4) dX12_lookUp_218 (by decide) ?_
                  refine x_jn (σ := Int32) 243 (fun s41 => [some (va_rf a0), some (.int a1), some (.int s1.1), none, some (.int x11), some (.int x12), none, some (.int s14), none, none]) (fun s41 => [.int s41]) (fun s41 => M10) (fun s41 => ?_) (fun j243 hj243 => ?_)
                  · refine x_istore (lo' := [some (va_rf a0), some (.int a1), some (.int s1.1), none, some (.int x11), some (.int x12), some (.int s41), some (.int s14), none, none]) dX12_lookUp_243 (by decide) rfl rfl ?_
                    exact x_weak (by exact ⟨rfl, ⟨rfl, ⟨rfl, ⟨rfl, ⟨rfl, ⟨rfl, ⟨rfl, trivial⟩⟩⟩⟩⟩⟩⟩) (hj245 (s41, M10))
                  refine x_jn (σ := Unit) 242 (fun s42 => [some (va_rf a0), some (.int a1), some (.int s1.1), none, some (.int x11), some (.int x12), none, some (.int s14), none, none]) (fun s42 => []) (fun s42 => M10) (fun s42 => ?_) (fun j242 hj242 => ?_)
                  · refine x_iconst (v := 0) dX12_lookUp_242 (by decide) ?_
                    exact x_weak (by exact ⟨rfl, ⟨rfl, ⟨rfl, ⟨rfl, ⟨rfl, ⟨rfl, trivial⟩⟩⟩⟩⟩⟩) (hj243 ((0 : Int32)))
                  refine x_icmp_ne (tgt := 242) dX12_lookUp_219 (by decide) (fun _ => ?_) (fun _ => ?_)
                  · refine x_aload_n dX12_lookUp_222 rfl ?_
                    refine gfX12_52 rfl dX12_lookUp_223 (fun x43 => ?_)
                    refine x_iload dX12_lookUp_226 rfl ?_
                    refine x_iald dX12_lookUp_228 (fun x44 => ?_)
                    refine x_aload_n dX12_lookUp_229 rfl ?_
                    refine gfX12_209 rfl dX12_lookUp_230 (fun x45 => ?_)
                    refine x_iload_n dX12_lookUp_233 rfl ?_
                    refine x_iald dX12_lookUp_234 (fun x46 => ?_)
                    refine x_icmp_ne (tgt := 242) dX12_lookUp_235 (by decide) (fun _ => ?_) (fun _ => ?_)
                    · refine x_iconst (v := 1) dX12_lookUp_238 (by decide) ?_
                      refine x_goto (tgt := 243) dX12_lookUp_239 (by decide) ?_
                      exact x_weak (by exact ⟨rfl, ⟨rfl, ⟨rfl, ⟨rfl, ⟨rfl, ⟨rfl, trivial⟩⟩⟩⟩⟩⟩) (hj243 ((1 : Int32)))
                    · exact x_weak (by exact ⟨rfl, ⟨rfl, ⟨rfl, ⟨rfl, ⟨rfl, ⟨rfl, trivial⟩⟩⟩⟩⟩⟩) (hj242 ())
                  · exact x_weak (by exact ⟨rfl, ⟨rfl, ⟨rfl, ⟨rfl, ⟨rfl, ⟨rfl, trivial⟩⟩⟩⟩⟩⟩) (hj242 ())
              refine x_if_eq (tgt := 135) dX12_lookUp_122 (by decide) (fun _ => ?_) (fun _ => ?_)
              · refine x_iconst (v := -1) dX12_lookUp_135 (by decide) ?_
                exact x_weak (by exact ⟨rfl, ⟨rfl, ⟨rfl, ⟨rfl, ⟨rfl, trivial⟩⟩⟩⟩⟩) (hj136 ((-1 : Int32)))
              · refine x_aload_n dX12_lookUp_125 rfl ?_
                refine gfX12_45 rfl dX12_lookUp_126 (fun x47 => ?_)
                refine x_iload dX12_lookUp_129 rfl ?_
                refine x_iald dX12_lookUp_131 (fun x48 => ?_)
                refine x_goto (tgt := 136) dX12_lookUp_132 (by decide) ?_
                exact x_weak (by exact ⟨rfl, ⟨rfl, ⟨rfl, ⟨rfl, ⟨rfl, trivial⟩⟩⟩⟩⟩) (hj136 x48)
            refine x_jn (σ := Unit) 117 (fun s49 => [some (va_rf a0), some (.int a1), some (.int s1.1), none, some (.int x11), some (.int x12), none, none, none, none]) (fun s49 => []) (fun s49 => M10) (fun s49 => ?_) (fun j117 hj117 => ?_)
            · refine x_iconst (v := 0) dX12_lookUp_117 (by decide) ?_
              exact x_weak (by exact ⟨rfl, ⟨rfl, ⟨rfl, ⟨rfl, ⟨rfl, trivial⟩⟩⟩⟩⟩) (hj118 ((0 : Int32)))
            refine x_if_lt (tgt := 117) dX12_lookUp_90 (by decide) (fun _ => ?_) (fun _ => ?_)
            · exact x_weak (by exact ⟨rfl, ⟨rfl, ⟨rfl, ⟨rfl, ⟨rfl, trivial⟩⟩⟩⟩⟩) (hj117 ())
            · refine x_aload_n dX12_lookUp_93 rfl ?_
              refine gfX12_48 rfl dX12_lookUp_94 (fun x50 => ?_)
              refine x_iload dX12_lookUp_97 rfl ?_
              refine x_zald dX12_lookUp_99 (fun x51 => ?_)
              refine x_jn (σ := Unit) 113 (fun s52 => [some (va_rf a0), some (.int a1), some (.int s1.1), none, some (.int x11), some (.int x12), none, none, none, none]) (fun s52 => []) (fun s52 => M10) (fun s52 => ?_) (fun j113 hj113 => ?_)
              · refine x_iconst (v := 1) dX12_lookUp_113 (by decide) ?_
                refine x_goto (tgt := 118) dX12_lookUp_114 (by decide) ?_
                exact x_weak (by exact ⟨rfl, ⟨rfl, ⟨rfl, ⟨rfl, ⟨rfl, trivial⟩⟩⟩⟩⟩) (hj118 ((1 : Int32)))
              refine x_if_eq (tgt := 113) dX12_lookUp_100 (by decide) (fun _ => ?_) (fun _ => ?_)
              · exact x_weak (by exact ⟨rfl, ⟨rfl, ⟨rfl, ⟨rfl, ⟨rfl, trivial⟩⟩⟩⟩⟩) (hj113 ())
              · refine x_iload_n dX12_lookUp_103 rfl ?_
                refine x_aload_n dX12_lookUp_104 rfl ?_
                refine gfX12_212 rfl dX12_lookUp_105 (fun x53 => ?_)
                refine x_iload_n dX12_lookUp_108 rfl ?_
                refine x_iald dX12_lookUp_109 (fun x54 => ?_)
                refine x_icmp_ne (tgt := 117) dX12_lookUp_110 (by decide) (fun _ => ?_) (fun _ => ?_)
                · exact x_weak (by exact ⟨rfl, ⟨rfl, ⟨rfl, ⟨rfl, ⟨rfl, trivial⟩⟩⟩⟩⟩) (hj113 ())
                · exact x_weak (by exact ⟨rfl, ⟨rfl, ⟨rfl, ⟨rfl, ⟨rfl, trivial⟩⟩⟩⟩⟩) (hj117 ())
          · refine x_aload_n dX12_lookUp_53 rfl ?_
            refine x_iconst (v := 4) dX12_lookUp_54 (by decide) ?_
            refine x_aload_n dX12_lookUp_55 rfl ?_
            refine gfX12_200 rfl dX12_lookUp_56 (fun x55 => ?_)
            refine x_iload_n dX12_lookUp_59 rfl ?_
            refine x_iald dX12_lookUp_60 (fun x56 => ?_)
            refine cmX12_428 rfl hs (Nat.le_of_ble_eq_true rfl) dX12_lookUp_61 (fun M57 => ?_)
            exact x_vret rfl dX12_lookUp_64
        refine x_if_ne (tgt := 37) dX12_lookUp_25 (by decide) (fun _ => ?_) (fun _ => ?_)
        · refine x_aload_n dX12_lookUp_28 rfl ?_
          refine gfX12_212 rfl dX12_lookUp_29 (fun x58 => ?_)
          refine x_iload_n dX12_lookUp_32 rfl ?_
          refine x_iald dX12_lookUp_33 (fun x59 => ?_)
          refine x_goto (tgt := 48) dX12_lookUp_34 (by decide) ?_
          exact x_weak (by exact ⟨rfl, ⟨rfl, ⟨rfl, trivial⟩⟩⟩) (hj48 (x59, s1.2))
        · refine x_aload_n dX12_lookUp_37 rfl ?_
          refine x_iload_n dX12_lookUp_38 rfl ?_
          refine x_aload_n dX12_lookUp_39 rfl ?_
          refine gfX12_197 rfl dX12_lookUp_40 (fun x60 => ?_)
          refine x_iload_n dX12_lookUp_43 rfl ?_
          refine x_lald dX12_lookUp_44 (fun x61 => ?_)
          refine cmX12_571 rfl hs (Nat.le_of_ble_eq_true rfl) dX12_lookUp_45 (fun x63 M62 => ?_)
          exact x_weak (by exact ⟨rfl, ⟨rfl, ⟨rfl, trivial⟩⟩⟩) (hj48 (x63, M62))
      · exact x_weak (by exact trivial) (hj335 ())
theorem s230 {l : Launch} {d : Nat} {rec : Nat → List Value → Mem → XA} (hS : Nonempty XS) (hs : XSnd l xmt rec d) : Snd1 l 230 (b230 rec) d := by
  intro as M r M' h0
  unfold b230 at h0
  obtain ⟨a0, l1, e1, h1⟩ := aR_inv h0
  obtain ⟨a1, l2, e2, h2⟩ := aI_inv h1
  obtain ⟨ez, h⟩ := aZ_inv h2
  subst ez
  subst e2
  subst e1
  exact xmet (M := M) (as := [va_rf a0, .int a1]) (lo := [some (va_rf a0), some (.int a1)]) 230 xq230 xm230 (by rw [xargs_rf, xargs_i, xargs_nil]; exact ⟨rfl, ⟨rfl, trivial⟩⟩) (by rw [xargs_rf, xargs_i, xargs_nil]; exact Nat.le_of_ble_eq_true rfl) (fun S G K => x_weak (by exact ⟨rfl, ⟨rfl, trivial⟩⟩) (k230 hs a0 a1 M)) h hS
