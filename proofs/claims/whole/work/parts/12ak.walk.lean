set_option maxRecDepth 100000 in
def c163 (rec : Nat → List Value → Mem → XA) (a0 : Option Nat) (a1 : Int32) (M0 : Mem) : XA :=
  jn (fun (s1 : Int32) =>
    some (.int s1, M0)) fun j22 =>
  jn (fun (s2 : Unit) =>
    j22 ((-1 : Int32))) fun j12 =>
  if a1 < 0 then (
    j12 ()) else (
    gtI (12, 19) M0 a0 16 fun x3 =>
    if a1 < x3 then (
      gtP (12, 19) M0 a0 15 fun x4 =>
      alI 100 M0 x4 a1 fun x5 =>
      j22 x5) else (
      j12 ()))
def b163 (rec : Nat → List Value → Mem → XA) (as : List Value) (M0 : Mem) : XA := aR as fun a0 as => aI as fun a1 as => aZ as (c163 rec a0 a1 M0)
set_option maxRecDepth 100000 in
set_option maxHeartbeats 4000000 in
theorem k163 {S : XS} {G : XG} {K : Nat × Nat} {l : Launch} {d : Nat} {rec : Nat → List Value → Mem → XA} (hs : XSnd l xmt rec d) (a0 : Option Nat) (a1 : Int32) (M0 : Mem) : Xe S G K l (yX11_blamed, cX11_blamed, 2, some .int) d 0 [some (va_rf a0), some (.int a1)] [] M0 (c163 rec a0 a1 M0) := by
  unfold c163
  refine x_iload_n dX11_blamed_0 rfl ?_
  refine x_jn (σ := Int32) 22 (fun s1 => [none, none]) (fun s1 => [.int s1]) (fun s1 => M0) (fun s1 => ?_) (fun j22 hj22 => ?_)
  · exact x_iret rfl dX11_blamed_22
  refine x_jn (σ := Unit) 12 (fun s2 => [none, none]) (fun s2 => []) (fun s2 => M0) (fun s2 => ?_) (fun j12 hj12 => ?_)
  · refine x_iconst (v := -1) dX11_blamed_12 (by decide) ?_
    refine x_goto (tgt := 22) dX11_blamed_13 (by decide) ?_
    exact x_weak (by exact trivial) (hj22 ((-1 : Int32)))
  refine x_if_lt (tgt := 12) dX11_blamed_1 (by decide) (fun _ => ?_) (fun _ => ?_)
  · exact x_weak (by exact trivial) (hj12 ())
  · refine x_iload_n dX11_blamed_4 rfl ?_
    refine x_aload_n dX11_blamed_5 rfl ?_
    refine gfX11_390 rfl dX11_blamed_6 (fun x3 => ?_)
    refine x_icmp_lt (tgt := 16) dX11_blamed_9 (by decide) (fun _ => ?_) (fun _ => ?_)
    · refine x_aload_n dX11_blamed_16 rfl ?_
      refine gfX11_64 rfl dX11_blamed_17 (fun x4 => ?_)
      refine x_iload_n dX11_blamed_20 rfl ?_
      refine x_iald dX11_blamed_21 (fun x5 => ?_)
      exact x_weak (by exact trivial) (hj22 x5)
    · exact x_weak (by exact trivial) (hj12 ())
theorem s163 {l : Launch} {d : Nat} {rec : Nat → List Value → Mem → XA} (hS : Nonempty XS) (hs : XSnd l xmt rec d) : Snd1 l 163 (b163 rec) d := by
  intro as M r M' h0
  unfold b163 at h0
  obtain ⟨a0, l1, e1, h1⟩ := aR_inv h0
  obtain ⟨a1, l2, e2, h2⟩ := aI_inv h1
  obtain ⟨ez, h⟩ := aZ_inv h2
  subst ez
  subst e2
  subst e1
  exact xmet (M := M) (as := [va_rf a0, .int a1]) (lo := [some (va_rf a0), some (.int a1)]) 163 xq163 xm163 (by rw [xargs_rf, xargs_i, xargs_nil]; exact ⟨rfl, ⟨rfl, trivial⟩⟩) (by rw [xargs_rf, xargs_i, xargs_nil]; exact Nat.le_of_ble_eq_true rfl) (fun S G K => x_weak (by exact ⟨rfl, ⟨rfl, trivial⟩⟩) (k163 hs a0 a1 M)) h hS
set_option maxRecDepth 100000 in
def c164 (rec : Nat → List Value → Mem → XA) (a0 : Option Nat) (a1 : Int32) (a2 : Int32) (M0 : Mem) : XA :=
  vC (12, 19) M0 a0 <|
  cP (rec 167 [va_rf a0, .int a1] M0) fun x2 M1 =>
  vC (12, 19) M1 a0 <|
  cP (rec 167 [va_rf a0, .int a2] M1) fun x4 M3 =>
  jn (fun (s5 : Unit) =>
    some (.int ((-1 : Int32)), M3)) fun j22 =>
  if x2 = none then (
    j22 ()) else (
    if x4 = none then (
      j22 ()) else (
      gtP (12, 19) M3 a0 4 fun x6 =>
      vC (0, 3) M3 x6 <|
      cI (rec 346 [va_rf x6] M3) fun x8 M7 =>
      if x8 < ((8 : Int32)) then (
        gtP (12, 19) M7 a0 4 fun x9 =>
        nO (1, 4) M7 fun x10 M11 =>
        vC (1, 4) M11 x10 <|
        cV (rec 0 [va_rf x10, va_rf x2, va_rf x4] M11) fun M12 =>
        vC (0, 3) M12 x9 <|
        cI (rec 350 [va_rf x9, va_rf x10] M12) fun x14 M13 =>
        gtP (12, 19) M13 a0 4 fun x15 =>
        vC (0, 3) M13 x15 <|
        cI (rec 346 [va_rf x15] M13) fun x17 M16 =>
        some (.int (x17 - ((1 : Int32))), M16)) else (
        some (.int ((-3 : Int32)), M7))))
def b164 (rec : Nat → List Value → Mem → XA) (as : List Value) (M0 : Mem) : XA := aR as fun a0 as => aI as fun a1 as => aI as fun a2 as => aZ as (c164 rec a0 a1 a2 M0)
set_option maxRecDepth 100000 in
set_option maxHeartbeats 4000000 in
theorem k164 {S : XS} {G : XG} {K : Nat × Nat} {l : Launch} {d : Nat} {rec : Nat → List Value → Mem → XA} (hs : XSnd l xmt rec d) (a0 : Option Nat) (a1 : Int32) (a2 : Int32) (M0 : Mem) : Xe S G K l (yX11_build, cX11_build, 5, some .int) d 0 [some (va_rf a0), some (.int a1), some (.int a2), none, none] [] M0 (c164 rec a0 a1 a2 M0) := by
  unfold c164
  refine x_aload_n dX11_build_0 rfl ?_
  refine x_iload_n dX11_build_1 rfl ?_
  refine cmX11_109 rfl hs (Nat.le_of_ble_eq_true rfl) dX11_build_2 (fun x2 M1 => ?_)
  refine x_astore_n (lo' := [some (va_rf a0), some (.int a1), some (.int a2), some (va_rf x2), none]) dX11_build_5 (by decide) rfl rfl ?_
  refine x_aload_n dX11_build_6 rfl ?_
  refine x_iload_n dX11_build_7 rfl ?_
  refine cmX11_109 rfl hs (Nat.le_of_ble_eq_true rfl) dX11_build_8 (fun x4 M3 => ?_)
  refine x_astore (lo' := [some (va_rf a0), some (.int a1), some (.int a2), some (va_rf x2), some (va_rf x4)]) dX11_build_11 (by decide) (xok_r rfl) rfl ?_
  refine x_aload_n dX11_build_13 rfl ?_
  refine x_jn (σ := Unit) 22 (fun s5 => [none, none, none, none, none]) (fun s5 => []) (fun s5 => M3) (fun s5 => ?_) (fun j22 hj22 => ?_)
  · refine x_iconst (v := -1) dX11_build_22 (by decide) ?_
    exact x_iret rfl dX11_build_23
  refine x_ifnull (tgt := 22) dX11_build_14 (by decide) (fun _ => ?_) (fun _ => ?_)
  · exact x_weak (by exact trivial) (hj22 ())
  · refine x_aload dX11_build_17 rfl ?_
    refine x_ifnonnull (tgt := 24) dX11_build_19 (by decide) (fun _ => ?_) (fun _ => ?_)
    · exact x_weak (by exact trivial) (hj22 ())
    · refine x_aload_n dX11_build_24 rfl ?_
      refine gfX11_30 rfl dX11_build_25 (fun x6 => ?_)
      refine cmX11_88 rfl hs (Nat.le_of_ble_eq_true rfl) dX11_build_28 (fun x8 M7 => ?_)
      refine x_bipush (v := 8) dX11_build_31 (by decide) ?_
      refine x_icmp_lt (tgt := 39) dX11_build_33 (by decide) (fun _ => ?_) (fun _ => ?_)
      · refine x_aload_n dX11_build_39 rfl ?_
        refine gfX11_30 rfl dX11_build_40 (fun x9 => ?_)
        refine nwX11_393 rfl dX11_build_43 (fun x10 M11 => ?_)
        refine x_dup dX11_build_46 (xc1_r _) ?_
        refine x_aload_n dX11_build_47 rfl ?_
        refine x_aload dX11_build_48 rfl ?_
        refine cmX11_395 rfl hs (Nat.le_of_ble_eq_true rfl) dX11_build_50 (fun M12 => ?_)
        refine cmX11_106 rfl hs (Nat.le_of_ble_eq_true rfl) dX11_build_53 (fun x14 M13 => ?_)
        refine x_pop dX11_build_56 (xc1_i _) ?_
        refine x_aload_n dX11_build_57 rfl ?_
        refine gfX11_30 rfl dX11_build_58 (fun x15 => ?_)
        refine cmX11_88 rfl hs (Nat.le_of_ble_eq_true rfl) dX11_build_61 (fun x17 M16 => ?_)
        refine x_iconst (v := 1) dX11_build_64 (by decide) ?_
        refine x_isub dX11_build_65 ?_
        exact x_iret rfl dX11_build_66
      · refine x_bipush (v := -3) dX11_build_36 (by decide) ?_
        exact x_iret rfl dX11_build_38
theorem s164 {l : Launch} {d : Nat} {rec : Nat → List Value → Mem → XA} (hS : Nonempty XS) (hs : XSnd l xmt rec d) : Snd1 l 164 (b164 rec) d := by
  intro as M r M' h0
  unfold b164 at h0
  obtain ⟨a0, l1, e1, h1⟩ := aR_inv h0
  obtain ⟨a1, l2, e2, h2⟩ := aI_inv h1
  obtain ⟨a2, l3, e3, h3⟩ := aI_inv h2
  obtain ⟨ez, h⟩ := aZ_inv h3
  subst ez
  subst e3
  subst e2
  subst e1
  exact xmet (M := M) (as := [va_rf a0, .int a1, .int a2]) (lo := [some (va_rf a0), some (.int a1), some (.int a2)]) 164 xq164 xm164 (by rw [xargs_rf, xargs_i, xargs_i, xargs_nil]; exact ⟨rfl, ⟨rfl, ⟨rfl, trivial⟩⟩⟩) (by rw [xargs_rf, xargs_i, xargs_i, xargs_nil]; exact Nat.le_of_ble_eq_true rfl) (fun S G K => x_weak (by exact ⟨rfl, ⟨rfl, ⟨rfl, trivial⟩⟩⟩) (k164 hs a0 a1 a2 M)) h hS
set_option maxRecDepth 100000 in
def c165 (rec : Nat → List Value → Mem → XA) (a0 : Option Nat) (a1 : Int32) (a2 : Int32) (M0 : Mem) : XA :=
  vC (12, 19) M0 a0 <|
  cP (rec 172 [va_rf a0, .int a1] M0) fun x2 M1 =>
  jn (fun (s3 : Unit) =>
    some (.int ((-1 : Int32)), M1)) fun j25 =>
  if x2 = none then (
    j25 ()) else (
    if a2 < 0 then (
      j25 ()) else (
      gtP (1, 4) M1 x2 0 fun x4 =>
      gtI (6, 18) M1 x4 5 fun x5 =>
      if a2 < x5 then (
        gtP (1, 4) M1 x2 0 fun x6 =>
        vC (6, 18) M1 x6 <|
        cI (rec 53 [va_rf x6, .int a2] M1) fun x8 M7 =>
        vC (1, 4) M7 x2 <|
        cI (rec 3 [va_rf x2, .int x8] M7) fun x10 M9 =>
        jn (fun (s11 : Unit) =>
          some (.int ((-2 : Int32)), M9)) fun j69 =>
        if x10 = 0 then (
          gtP (1, 4) M9 x2 0 fun x12 =>
          gtP (6, 18) M9 x12 6 fun x13 =>
          alI 100 M9 x13 a2 fun x14 =>
          if x14 < ((3 : Int32)) then (
            j69 ()) else (
            gtP (1, 4) M9 x2 0 fun x15 =>
            gtP (6, 18) M9 x15 6 fun x16 =>
            alI 100 M9 x16 a2 fun x17 =>
            if x17 ≤ ((7 : Int32)) then (
              gtP (1, 4) M9 x2 0 fun x18 =>
              gtP (6, 18) M9 x18 7 fun x19 =>
              alI 100 M9 x19 a2 fun x20 =>
              vC (1, 4) M9 x2 <|
              cI (rec 4 [va_rf x2, .int x20] M9) fun x22 M21 =>
              jn (fun (s23 : Int32) =>
                some (.int s23, M21)) fun j111 =>
              if x22 = ((-2 : Int32)) then (
                j111 ((-2 : Int32))) else (
                if 0 ≤ x22 then (
                  j111 ((0 : Int32))) else (
                  j111 (-x22)))) else (
              j69 ()))) else (
          j69 ())) else (
        j25 ())))
def b165 (rec : Nat → List Value → Mem → XA) (as : List Value) (M0 : Mem) : XA := aR as fun a0 as => aI as fun a1 as => aI as fun a2 as => aZ as (c165 rec a0 a1 a2 M0)
set_option maxRecDepth 100000 in
set_option maxHeartbeats 4000000 in
theorem k165 {S : XS} {G : XG} {K : Nat × Nat} {l : Launch} {d : Nat} {rec : Nat → List Value → Mem → XA} (hs : XSnd l xmt rec d) (a0 : Option Nat) (a1 : Int32) (a2 : Int32) (M0 : Mem) : Xe S G K l (yX11_foretold, cX11_foretold, 5, some .int) d 0 [some (va_rf a0), some (.int a1), some (.int a2), none, none] [] M0 (c165 rec a0 a1 a2 M0) := by
  unfold c165
  refine x_aload_n dX11_foretold_0 rfl ?_
  refine x_iload_n dX11_foretold_1 rfl ?_
  refine cmX11_398 rfl hs (Nat.le_of_ble_eq_true rfl) dX11_foretold_2 (fun x2 M1 => ?_)
  refine x_astore_n (lo' := [some (va_rf a0), some (.int a1), some (.int a2), some (va_rf x2), none]) dX11_foretold_5 (by decide) rfl rfl ?_
  refine x_aload_n dX11_foretold_6 rfl ?_
  refine x_jn (σ := Unit) 25 (fun s3 => [none, none, none, none, none]) (fun s3 => []) (fun s3 => M1) (fun s3 => ?_) (fun j25 hj25 => ?_)
  · refine x_iconst (v := -1) dX11_foretold_25 (by decide) ?_
    exact x_iret rfl dX11_foretold_26
  refine x_ifnull (tgt := 25) dX11_foretold_7 (by decide) (fun _ => ?_) (fun _ => ?_)
  · exact x_weak (by exact trivial) (hj25 ())
  · refine x_iload_n dX11_foretold_10 rfl ?_
    refine x_if_lt (tgt := 25) dX11_foretold_11 (by decide) (fun _ => ?_) (fun _ => ?_)
    · exact x_weak (by exact trivial) (hj25 ())
    · refine x_iload_n dX11_foretold_14 rfl ?_
      refine x_aload_n dX11_foretold_15 rfl ?_
      refine gfX11_402 rfl dX11_foretold_16 (fun x4 => ?_)
      refine gfX11_119 rfl dX11_foretold_19 (fun x5 => ?_)
      refine x_icmp_lt (tgt := 27) dX11_foretold_22 (by decide) (fun _ => ?_) (fun _ => ?_)
      · refine x_aload_n dX11_foretold_27 rfl ?_
        refine x_aload_n dX11_foretold_28 rfl ?_
        refine gfX11_402 rfl dX11_foretold_29 (fun x6 => ?_)
        refine x_iload_n dX11_foretold_32 rfl ?_
        refine cmX11_406 rfl hs (Nat.le_of_ble_eq_true rfl) dX11_foretold_33 (fun x8 M7 => ?_)
        refine cmX11_409 rfl hs (Nat.le_of_ble_eq_true rfl) dX11_foretold_36 (fun x10 M9 => ?_)
        refine x_jn (σ := Unit) 69 (fun s11 => [none, none, none, none, none]) (fun s11 => []) (fun s11 => M9) (fun s11 => ?_) (fun j69 hj69 => ?_)
        · refine x_bipush (v := -2) dX11_foretold_69 (by decide) ?_
          exact x_iret rfl dX11_foretold_71
        refine x_if_ne (tgt := 69) dX11_foretold_39 (by decide) (fun _ => ?_) (fun _ => ?_)
        · refine x_aload_n dX11_foretold_42 rfl ?_
          refine gfX11_402 rfl dX11_foretold_43 (fun x12 => ?_)
          refine gfX11_177 rfl dX11_foretold_46 (fun x13 => ?_)
          refine x_iload_n dX11_foretold_49 rfl ?_
          refine x_iald dX11_foretold_50 (fun x14 => ?_)
          refine x_iconst (v := 3) dX11_foretold_51 (by decide) ?_
          refine x_icmp_lt (tgt := 69) dX11_foretold_52 (by decide) (fun _ => ?_) (fun _ => ?_)
          · exact x_weak (by exact trivial) (hj69 ())
          · refine x_aload_n dX11_foretold_55 rfl ?_
            refine gfX11_402 rfl dX11_foretold_56 (fun x15 => ?_)
            refine gfX11_177 rfl dX11_foretold_59 (fun x16 => ?_)
            refine x_iload_n dX11_foretold_62 rfl ?_
            refine x_iald dX11_foretold_63 (fun x17 => ?_)
            refine x_bipush (v := 7) dX11_foretold_64 (by decide) ?_
            refine x_icmp_le (tgt := 72) dX11_foretold_66 (by decide) (fun _ => ?_) (fun _ => ?_)
            · refine x_aload_n dX11_foretold_72 rfl ?_
              refine x_aload_n dX11_foretold_73 rfl ?_
              refine gfX11_402 rfl dX11_foretold_74 (fun x18 => ?_)
              refine gfX11_180 rfl dX11_foretold_77 (fun x19 => ?_)
              refine x_iload_n dX11_foretold_80 rfl ?_
              refine x_iald dX11_foretold_81 (fun x20 => ?_)
              refine cmX11_413 rfl hs (Nat.le_of_ble_eq_true rfl) dX11_foretold_82 (fun x22 M21 => ?_)
              refine x_istore (lo' := [some (va_rf a0), some (.int a1), some (.int a2), some (va_rf x2), some (.int x22)]) dX11_foretold_85 (by decide) (xok_r rfl) rfl ?_
              refine x_iload dX11_foretold_87 rfl ?_
              refine x_bipush (v := -2) dX11_foretold_89 (by decide) ?_
              refine x_jn (σ := Int32) 111 (fun s23 => [none, none, none, none, none]) (fun s23 => [.int s23]) (fun s23 => M21) (fun s23 => ?_) (fun j111 hj111 => ?_)
              · exact x_iret rfl dX11_foretold_111
              refine x_icmp_ne (tgt := 99) dX11_foretold_91 (by decide) (fun _ => ?_) (fun _ => ?_)
              · refine x_bipush (v := -2) dX11_foretold_94 (by decide) ?_
                refine x_goto (tgt := 111) dX11_foretold_96 (by decide) ?_
                exact x_weak (by exact trivial) (hj111 ((-2 : Int32)))
              · refine x_iload dX11_foretold_99 rfl ?_
                refine x_if_ge (tgt := 110) dX11_foretold_101 (by decide) (fun _ => ?_) (fun _ => ?_)
                · refine x_iconst (v := 0) dX11_foretold_110 (by decide) ?_
                  exact x_weak (by exact trivial) (hj111 ((0 : Int32)))
                · refine x_iload dX11_foretold_104 rfl ?_
                  refine x_ineg dX11_foretold_106 ?_
                  refine x_goto (tgt := 111) dX11_foretold_107 (by decide) ?_
                  exact x_weak (by exact trivial) (hj111 (-x22))
            · exact x_weak (by exact trivial) (hj69 ())
        · exact x_weak (by exact trivial) (hj69 ())
      · exact x_weak (by exact trivial) (hj25 ())
theorem s165 {l : Launch} {d : Nat} {rec : Nat → List Value → Mem → XA} (hS : Nonempty XS) (hs : XSnd l xmt rec d) : Snd1 l 165 (b165 rec) d := by
  intro as M r M' h0
  unfold b165 at h0
  obtain ⟨a0, l1, e1, h1⟩ := aR_inv h0
  obtain ⟨a1, l2, e2, h2⟩ := aI_inv h1
  obtain ⟨a2, l3, e3, h3⟩ := aI_inv h2
  obtain ⟨ez, h⟩ := aZ_inv h3
  subst ez
  subst e3
  subst e2
  subst e1
  exact xmet (M := M) (as := [va_rf a0, .int a1, .int a2]) (lo := [some (va_rf a0), some (.int a1), some (.int a2)]) 165 xq165 xm165 (by rw [xargs_rf, xargs_i, xargs_i, xargs_nil]; exact ⟨rfl, ⟨rfl, ⟨rfl, trivial⟩⟩⟩) (by rw [xargs_rf, xargs_i, xargs_i, xargs_nil]; exact Nat.le_of_ble_eq_true rfl) (fun S G K => x_weak (by exact ⟨rfl, ⟨rfl, ⟨rfl, trivial⟩⟩⟩) (k165 hs a0 a1 a2 M)) h hS
set_option maxRecDepth 100000 in
def c166 (rec : Nat → List Value → Mem → XA) (a0 : Option Nat) (a1 : Int32) (a2 : Int32) (M0 : Mem) : XA :=
  vC (12, 19) M0 a0 <|
  cP (rec 172 [va_rf a0, .int a1] M0) fun x2 M1 =>
  jn (fun (s3 : Option Nat × Mem) =>
    if s3.1 = none then (
      some (.int ((-1 : Int32)), s3.2)) else (
      gtI (8, 9) s3.2 s3.1 1 fun x4 =>
      vC (1, 4) s3.2 x2 <|
      cI (rec 3 [va_rf x2, .int x4] s3.2) fun x6 M5 =>
      if x6 = 0 then (
        gtP (12, 19) M5 a0 2 fun x7 =>
        gtP (1, 4) M5 x2 0 fun x8 =>
        vC (4, 22) M5 x7 <|
        cV (rec 19 [va_rf x7, va_rf x8, .int ((2147483647 : Int32))] M5) fun M9 =>
        gtP (12, 19) M9 a0 2 fun x10 =>
        vC (4, 22) M9 x10 <|
        cV (rec 20 [va_rf x10, va_rf x2] M9) fun M11 =>
        vC (12, 19) M11 a0 <|
        cI (rec 175 [va_rf a0, va_rf s3.1] M11) fun x13 M12 =>
        some (.int x13, M12)) else (
        some (.int ((-2 : Int32)), M5)))) fun j22 =>
  if x2 = none then (
    j22 (none, M1)) else (
    gtP (1, 4) M1 x2 0 fun x14 =>
    cP (rec 169 [va_rf x14, .int a2] M1) fun x16 M15 =>
    j22 (x16, M15))
def b166 (rec : Nat → List Value → Mem → XA) (as : List Value) (M0 : Mem) : XA := aR as fun a0 as => aI as fun a1 as => aI as fun a2 as => aZ as (c166 rec a0 a1 a2 M0)
set_option maxRecDepth 100000 in
set_option maxHeartbeats 4000000 in
theorem k166 {S : XS} {G : XG} {K : Nat × Nat} {l : Launch} {d : Nat} {rec : Nat → List Value → Mem → XA} (hs : XSnd l xmt rec d) (a0 : Option Nat) (a1 : Int32) (a2 : Int32) (M0 : Mem) : Xe S G K l (yX11_touch, cX11_touch, 5, some .int) d 0 [some (va_rf a0), some (.int a1), some (.int a2), none, none] [] M0 (c166 rec a0 a1 a2 M0) := by
  unfold c166
  refine x_aload_n dX11_touch_0 rfl ?_
  refine x_iload_n dX11_touch_1 rfl ?_
  refine cmX11_398 rfl hs (Nat.le_of_ble_eq_true rfl) dX11_touch_2 (fun x2 M1 => ?_)
  refine x_astore_n (lo' := [some (va_rf a0), some (.int a1), some (.int a2), some (va_rf x2), none]) dX11_touch_5 (by decide) rfl rfl ?_
  refine x_aload_n dX11_touch_6 rfl ?_
  refine x_jn (σ := Option Nat × Mem) 22 (fun s3 => [some (va_rf a0), none, none, some (va_rf x2), none]) (fun s3 => [va_rf s3.1]) (fun s3 => s3.2) (fun s3 => ?_) (fun j22 hj22 => ?_)
  · refine x_astore (lo' := [some (va_rf a0), none, none, some (va_rf x2), some (va_rf s3.1)]) dX11_touch_22 (by decide) (xok_r rfl) rfl ?_
    refine x_aload dX11_touch_24 rfl ?_
    refine x_ifnonnull (tgt := 31) dX11_touch_26 (by decide) (fun _ => ?_) (fun _ => ?_)
    · refine x_iconst (v := -1) dX11_touch_29 (by decide) ?_
      exact x_iret rfl dX11_touch_30
    · refine x_aload_n dX11_touch_31 rfl ?_
      refine x_aload dX11_touch_32 rfl ?_
      refine gfX11_134 rfl dX11_touch_34 (fun x4 => ?_)
      refine cmX11_409 rfl hs (Nat.le_of_ble_eq_true rfl) dX11_touch_37 (fun x6 M5 => ?_)
      refine x_if_eq (tgt := 46) dX11_touch_40 (by decide) (fun _ => ?_) (fun _ => ?_)
      · refine x_aload_n dX11_touch_46 rfl ?_
        refine gfX11_26 rfl dX11_touch_47 (fun x7 => ?_)
        refine x_aload_n dX11_touch_50 rfl ?_
        refine gfX11_402 rfl dX11_touch_51 (fun x8 => ?_)
        refine x_ldc (v := 2147483647) dX11_touch_54 lk_constant_X11_192 ?_
        refine cmX11_193 rfl hs (Nat.le_of_ble_eq_true rfl) dX11_touch_56 (fun M9 => ?_)
        refine x_aload_n dX11_touch_59 rfl ?_
        refine gfX11_26 rfl dX11_touch_60 (fun x10 => ?_)
        refine x_aload_n dX11_touch_63 rfl ?_
        refine cmX11_416 rfl hs (Nat.le_of_ble_eq_true rfl) dX11_touch_64 (fun M11 => ?_)
        refine x_aload_n dX11_touch_67 rfl ?_
        refine x_aload dX11_touch_68 rfl ?_
        refine cmX11_216 rfl hs (Nat.le_of_ble_eq_true rfl) dX11_touch_70 (fun x13 M12 => ?_)
        exact x_iret rfl dX11_touch_73
      · refine x_bipush (v := -2) dX11_touch_43 (by decide) ?_
        exact x_iret rfl dX11_touch_45
  refine x_ifnonnull (tgt := 14) dX11_touch_7 (by decide) (fun _ => ?_) (fun _ => ?_)
  · refine x_null dX11_touch_10 ?_
    refine x_goto (tgt := 22) dX11_touch_11 (by decide) ?_
    exact x_weak (by exact ⟨rfl, ⟨rfl, trivial⟩⟩) (hj22 (none, M1))
  · refine x_aload_n dX11_touch_14 rfl ?_
    refine gfX11_402 rfl dX11_touch_15 (fun x14 => ?_)
    refine x_iload_n dX11_touch_18 rfl ?_
    refine cmX11_152 rfl hs (Nat.le_of_ble_eq_true rfl) dX11_touch_19 (fun x16 M15 => ?_)
    exact x_weak (by exact ⟨rfl, ⟨rfl, trivial⟩⟩) (hj22 (x16, M15))
theorem s166 {l : Launch} {d : Nat} {rec : Nat → List Value → Mem → XA} (hS : Nonempty XS) (hs : XSnd l xmt rec d) : Snd1 l 166 (b166 rec) d := by
  intro as M r M' h0
  unfold b166 at h0
  obtain ⟨a0, l1, e1, h1⟩ := aR_inv h0
  obtain ⟨a1, l2, e2, h2⟩ := aI_inv h1
  obtain ⟨a2, l3, e3, h3⟩ := aI_inv h2
  obtain ⟨ez, h⟩ := aZ_inv h3
  subst ez
  subst e3
  subst e2
  subst e1
  exact xmet (M := M) (as := [va_rf a0, .int a1, .int a2]) (lo := [some (va_rf a0), some (.int a1), some (.int a2)]) 166 xq166 xm166 (by rw [xargs_rf, xargs_i, xargs_i, xargs_nil]; exact ⟨rfl, ⟨rfl, ⟨rfl, trivial⟩⟩⟩) (by rw [xargs_rf, xargs_i, xargs_i, xargs_nil]; exact Nat.le_of_ble_eq_true rfl) (fun S G K => x_weak (by exact ⟨rfl, ⟨rfl, ⟨rfl, trivial⟩⟩⟩) (k166 hs a0 a1 a2 M)) h hS
set_option maxRecDepth 100000 in
def c167 (rec : Nat → List Value → Mem → XA) (a0 : Option Nat) (a1 : Int32) (M0 : Mem) : XA :=
  jn (fun (s1 : Option Nat × Mem) =>
    some (va_rf s1.1, s1.2)) fun j30 =>
  jn (fun (s2 : Mem) =>
    j30 (none, s2)) fun j15 =>
  if a1 < 0 then (
    j15 M0) else (
    gtP (12, 19) M0 a0 1 fun x3 =>
    vC (0, 3) M0 x3 <|
    cI (rec 346 [va_rf x3] M0) fun x5 M4 =>
    if a1 < x5 then (
      gtP (12, 19) M4 a0 1 fun x6 =>
      vC (0, 3) M4 x6 <|
      cP (rec 348 [va_rf x6, .int a1] M4) fun x8 M7 =>
      cst (6, 18) M7 x8 <|
      j30 (x8, M7)) else (
      j15 M4))
def b167 (rec : Nat → List Value → Mem → XA) (as : List Value) (M0 : Mem) : XA := aR as fun a0 as => aI as fun a1 as => aZ as (c167 rec a0 a1 M0)
set_option maxRecDepth 100000 in
set_option maxHeartbeats 4000000 in
theorem k167 {S : XS} {G : XG} {K : Nat × Nat} {l : Launch} {d : Nat} {rec : Nat → List Value → Mem → XA} (hs : XSnd l xmt rec d) (a0 : Option Nat) (a1 : Int32) (M0 : Mem) : Xe S G K l (yX11_parcelAt, cX11_parcelAt, 2, some (.object "TestHouse$Parcel")) d 0 [some (va_rf a0), some (.int a1)] [] M0 (c167 rec a0 a1 M0) := by
  unfold c167
  refine x_iload_n dX11_parcelAt_0 rfl ?_
  refine x_jn (σ := Option Nat × Mem) 30 (fun s1 => [none, none]) (fun s1 => [va_rf s1.1]) (fun s1 => s1.2) (fun s1 => ?_) (fun j30 hj30 => ?_)
  · exact x_aret rfl rfl dX11_parcelAt_30
  refine x_jn (σ := Mem) 15 (fun s2 => [none, none]) (fun s2 => []) (fun s2 => s2) (fun s2 => ?_) (fun j15 hj15 => ?_)
  · refine x_null dX11_parcelAt_15 ?_
    refine x_goto (tgt := 30) dX11_parcelAt_16 (by decide) ?_
    exact x_weak (by exact trivial) (hj30 (none, s2))
  refine x_if_lt (tgt := 15) dX11_parcelAt_1 (by decide) (fun _ => ?_) (fun _ => ?_)
  · exact x_weak (by exact trivial) (hj15 M0)
  · refine x_iload_n dX11_parcelAt_4 rfl ?_
    refine x_aload_n dX11_parcelAt_5 rfl ?_
    refine gfX11_19 rfl dX11_parcelAt_6 (fun x3 => ?_)
    refine cmX11_88 rfl hs (Nat.le_of_ble_eq_true rfl) dX11_parcelAt_9 (fun x5 M4 => ?_)
    refine x_icmp_lt (tgt := 19) dX11_parcelAt_12 (by decide) (fun _ => ?_) (fun _ => ?_)
    · refine x_aload_n dX11_parcelAt_19 rfl ?_
      refine gfX11_19 rfl dX11_parcelAt_20 (fun x6 => ?_)
      refine x_iload_n dX11_parcelAt_23 rfl ?_
      refine cmX11_162 rfl hs (Nat.le_of_ble_eq_true rfl) dX11_parcelAt_24 (fun x8 M7 => ?_)
      refine ccX11_101 rfl dX11_parcelAt_27 ?_
      exact x_weak (by exact trivial) (hj30 (x8, M7))
    · exact x_weak (by exact trivial) (hj15 M4)
theorem s167 {l : Launch} {d : Nat} {rec : Nat → List Value → Mem → XA} (hS : Nonempty XS) (hs : XSnd l xmt rec d) : Snd1 l 167 (b167 rec) d := by
  intro as M r M' h0
  unfold b167 at h0
  obtain ⟨a0, l1, e1, h1⟩ := aR_inv h0
  obtain ⟨a1, l2, e2, h2⟩ := aI_inv h1
  obtain ⟨ez, h⟩ := aZ_inv h2
  subst ez
  subst e2
  subst e1
  exact xmet (M := M) (as := [va_rf a0, .int a1]) (lo := [some (va_rf a0), some (.int a1)]) 167 xq167 xm167 (by rw [xargs_rf, xargs_i, xargs_nil]; exact ⟨rfl, ⟨rfl, trivial⟩⟩) (by rw [xargs_rf, xargs_i, xargs_nil]; exact Nat.le_of_ble_eq_true rfl) (fun S G K => x_weak (by exact ⟨rfl, ⟨rfl, trivial⟩⟩) (k167 hs a0 a1 M)) h hS
set_option maxRecDepth 100000 in
def c168 (rec : Nat → List Value → Mem → XA) (a0 : Option Nat) (a1 : Int32) (M0 : Mem) : XA :=
  jn (fun (s1 : Option Nat × Mem) =>
    some (va_rf s1.1, s1.2)) fun j24 =>
  jn (fun (s2 : Mem) =>
    j24 (none, s2)) fun j12 =>
  if a1 < 0 then (
    j12 M0) else (
    vC (0, 3) M0 a0 <|
    cI (rec 346 [va_rf a0] M0) fun x4 M3 =>
    if a1 < x4 then (
      vC (0, 3) M3 a0 <|
      cP (rec 348 [va_rf a0, .int a1] M3) fun x6 M5 =>
      cst (8, 9) M5 x6 <|
      j24 (x6, M5)) else (
      j12 M3))
def b168 (rec : Nat → List Value → Mem → XA) (as : List Value) (M0 : Mem) : XA := aR as fun a0 as => aI as fun a1 as => aZ as (c168 rec a0 a1 M0)
set_option maxRecDepth 100000 in
set_option maxHeartbeats 4000000 in
theorem k168 {S : XS} {G : XG} {K : Nat × Nat} {l : Launch} {d : Nat} {rec : Nat → List Value → Mem → XA} (hs : XSnd l xmt rec d) (a0 : Option Nat) (a1 : Int32) (M0 : Mem) : Xe S G K l (yX11_partAt, cX11_partAt, 2, some (.object "TestHouse$Part")) d 0 [some (va_rf a0), some (.int a1)] [] M0 (c168 rec a0 a1 M0) := by
  unfold c168
  refine x_iload_n dX11_partAt_0 rfl ?_
  refine x_jn (σ := Option Nat × Mem) 24 (fun s1 => [none, none]) (fun s1 => [va_rf s1.1]) (fun s1 => s1.2) (fun s1 => ?_) (fun j24 hj24 => ?_)
  · exact x_aret rfl rfl dX11_partAt_24
  refine x_jn (σ := Mem) 12 (fun s2 => [none, none]) (fun s2 => []) (fun s2 => s2) (fun s2 => ?_) (fun j12 hj12 => ?_)
  · refine x_null dX11_partAt_12 ?_
    refine x_goto (tgt := 24) dX11_partAt_13 (by decide) ?_
    exact x_weak (by exact trivial) (hj24 (none, s2))
  refine x_if_lt (tgt := 12) dX11_partAt_1 (by decide) (fun _ => ?_) (fun _ => ?_)
  · exact x_weak (by exact trivial) (hj12 M0)
  · refine x_iload_n dX11_partAt_4 rfl ?_
    refine x_aload_n dX11_partAt_5 rfl ?_
    refine cmX11_88 rfl hs (Nat.le_of_ble_eq_true rfl) dX11_partAt_6 (fun x4 M3 => ?_)
    refine x_icmp_lt (tgt := 16) dX11_partAt_9 (by decide) (fun _ => ?_) (fun _ => ?_)
    · refine x_aload_n dX11_partAt_16 rfl ?_
      refine x_iload_n dX11_partAt_17 rfl ?_
      refine cmX11_162 rfl hs (Nat.le_of_ble_eq_true rfl) dX11_partAt_18 (fun x6 M5 => ?_)
      refine ccX11_135 rfl dX11_partAt_21 ?_
      exact x_weak (by exact trivial) (hj24 (x6, M5))
    · exact x_weak (by exact trivial) (hj12 M3)
theorem s168 {l : Launch} {d : Nat} {rec : Nat → List Value → Mem → XA} (hS : Nonempty XS) (hs : XSnd l xmt rec d) : Snd1 l 168 (b168 rec) d := by
  intro as M r M' h0
  unfold b168 at h0
  obtain ⟨a0, l1, e1, h1⟩ := aR_inv h0
  obtain ⟨a1, l2, e2, h2⟩ := aI_inv h1
  obtain ⟨ez, h⟩ := aZ_inv h2
  subst ez
  subst e2
  subst e1
  exact xmet (M := M) (as := [va_rf a0, .int a1]) (lo := [some (va_rf a0), some (.int a1)]) 168 xq168 xm168 (by rw [xargs_rf, xargs_i, xargs_nil]; exact ⟨rfl, ⟨rfl, trivial⟩⟩) (by rw [xargs_rf, xargs_i, xargs_nil]; exact Nat.le_of_ble_eq_true rfl) (fun S G K => x_weak (by exact ⟨rfl, ⟨rfl, trivial⟩⟩) (k168 hs a0 a1 M)) h hS
set_option maxRecDepth 100000 in
def c169 (rec : Nat → List Value → Mem → XA) (a0 : Option Nat) (a1 : Int32) (M0 : Mem) : XA :=
  jn (fun (s1 : Option Nat × Mem) =>
    some (va_rf s1.1, s1.2)) fun j16 =>
  if a0 = none then (
    j16 (none, M0)) else (
    gtP (6, 18) M0 a0 3 fun x2 =>
    cP (rec 168 [va_rf x2, .int a1] M0) fun x4 M3 =>
    j16 (x4, M3))
def b169 (rec : Nat → List Value → Mem → XA) (as : List Value) (M0 : Mem) : XA := aR as fun a0 as => aI as fun a1 as => aZ as (c169 rec a0 a1 M0)
set_option maxRecDepth 100000 in
set_option maxHeartbeats 4000000 in
theorem k169 {S : XS} {G : XG} {K : Nat × Nat} {l : Launch} {d : Nat} {rec : Nat → List Value → Mem → XA} (hs : XSnd l xmt rec d) (a0 : Option Nat) (a1 : Int32) (M0 : Mem) : Xe S G K l (yX11_caseAt, cX11_caseAt, 2, some (.object "TestHouse$Part")) d 0 [some (va_rf a0), some (.int a1)] [] M0 (c169 rec a0 a1 M0) := by
  unfold c169
  refine x_aload_n dX11_caseAt_0 rfl ?_
  refine x_jn (σ := Option Nat × Mem) 16 (fun s1 => [none, none]) (fun s1 => [va_rf s1.1]) (fun s1 => s1.2) (fun s1 => ?_) (fun j16 hj16 => ?_)
  · exact x_aret rfl rfl dX11_caseAt_16
  refine x_ifnonnull (tgt := 8) dX11_caseAt_1 (by decide) (fun _ => ?_) (fun _ => ?_)
  · refine x_null dX11_caseAt_4 ?_
    refine x_goto (tgt := 16) dX11_caseAt_5 (by decide) ?_
    exact x_weak (by exact trivial) (hj16 (none, M0))
  · refine x_aload_n dX11_caseAt_8 rfl ?_
    refine gfX11_121 rfl dX11_caseAt_9 (fun x2 => ?_)
    refine x_iload_n dX11_caseAt_12 rfl ?_
    refine cmX11_130 rfl hs (Nat.le_of_ble_eq_true rfl) dX11_caseAt_13 (fun x4 M3 => ?_)
    exact x_weak (by exact trivial) (hj16 (x4, M3))
theorem s169 {l : Launch} {d : Nat} {rec : Nat → List Value → Mem → XA} (hS : Nonempty XS) (hs : XSnd l xmt rec d) : Snd1 l 169 (b169 rec) d := by
  intro as M r M' h0
  unfold b169 at h0
  obtain ⟨a0, l1, e1, h1⟩ := aR_inv h0
  obtain ⟨a1, l2, e2, h2⟩ := aI_inv h1
  obtain ⟨ez, h⟩ := aZ_inv h2
  subst ez
  subst e2
  subst e1
  exact xmet (M := M) (as := [va_rf a0, .int a1]) (lo := [some (va_rf a0), some (.int a1)]) 169 xq169 xm169 (by rw [xargs_rf, xargs_i, xargs_nil]; exact ⟨rfl, ⟨rfl, trivial⟩⟩) (by rw [xargs_rf, xargs_i, xargs_nil]; exact Nat.le_of_ble_eq_true rfl) (fun S G K => x_weak (by exact ⟨rfl, ⟨rfl, trivial⟩⟩) (k169 hs a0 a1 M)) h hS
set_option maxRecDepth 100000 in
def c170_2 (rec : Nat → List Value → Mem → XA) (a0 : Option Nat) (a1 : Int32) (M0 : Mem) (j28 : Int32 → XA) (j44 : Unit → XA) : (Int32) → ((Int32) → XA) → XA := fun s6 j2 =>
  if ((8 : Int32)) ≤ s6 then (
    j44 ()) else (
    if a1 < 0 then (
      j44 ()) else (
      gtP (12, 19) M0 a0 2 fun x7 =>
      gtP (4, 22) M0 x7 7 fun x8 =>
      alP 112 M0 x8 s6 fun x9 =>
      gtI (10, 9) M0 x9 0 fun x10 =>
      if x10 = a1 then (
        j28 s6) else (
        lt (s6 + (1 : Int32)) fun (x11 : Int32) =>
        j2 x11)))
set_option maxRecDepth 100000 in
def c170 (rec : Nat → List Value → Mem → XA) (a0 : Option Nat) (a1 : Int32) (M0 : Mem) : XA :=
  jn (fun (s1 : Int32) =>
    gtP (12, 19) M0 a0 2 fun x2 =>
    gtP (4, 22) M0 x2 7 fun x3 =>
    alP 112 M0 x3 s1 fun x4 =>
    some (va_rf x4, M0)) fun j28 =>
  jn (fun (s5 : Unit) =>
    some (va_rf none, M0)) fun j44 =>
  lp (c170_2 rec a0 a1 M0 j28 j44) 4294967296 ((0 : Int32))
def b170 (rec : Nat → List Value → Mem → XA) (as : List Value) (M0 : Mem) : XA := aR as fun a0 as => aI as fun a1 as => aZ as (c170 rec a0 a1 M0)
set_option maxRecDepth 100000 in
set_option maxHeartbeats 4000000 in
theorem k170 {S : XS} {G : XG} {K : Nat × Nat} {l : Launch} {d : Nat} {rec : Nat → List Value → Mem → XA} (hs : XSnd l xmt rec d) (a0 : Option Nat) (a1 : Int32) (M0 : Mem) : Xe S G K l (yX11_twinAt, cX11_twinAt, 3, some (.object "TestHouse$Twin")) d 0 [some (va_rf a0), some (.int a1), none] [] M0 (c170 rec a0 a1 M0) := by
  unfold c170
  refine x_iconst (v := 0) dX11_twinAt_0 (by decide) ?_
  refine x_istore_n (lo' := [some (va_rf a0), some (.int a1), some (.int ((0 : Int32)))]) dX11_twinAt_1 (by decide) rfl rfl ?_
  refine x_jn (σ := Int32) 28 (fun s1 => [some (va_rf a0), none, some (.int s1)]) (fun s1 => []) (fun s1 => M0) (fun s1 => ?_) (fun j28 hj28 => ?_)
  · refine x_aload_n dX11_twinAt_28 rfl ?_
    refine gfX11_26 rfl dX11_twinAt_29 (fun x2 => ?_)
    refine gfX11_235 rfl dX11_twinAt_32 (fun x3 => ?_)
    refine x_iload_n dX11_twinAt_35 rfl ?_
    refine x_aldq (t := 112) (tn := 7) (by decide) (by decide) rfl dX11_twinAt_36 (fun x4 => ?_)
    exact x_aret rfl rfl dX11_twinAt_37
  refine x_jn (σ := Unit) 44 (fun s5 => [none, none, none]) (fun s5 => []) (fun s5 => M0) (fun s5 => ?_) (fun j44 hj44 => ?_)
  · refine x_null dX11_twinAt_44 ?_
    exact x_aret rfl rfl dX11_twinAt_45
  refine x_weak (by exact ⟨rfl, ⟨rfl, ⟨rfl, trivial⟩⟩⟩) (x_lp (σ := Int32) 2 (fun s6 => [some (va_rf a0), some (.int a1), some (.int s6)]) (fun s6 => []) (fun s6 => M0) (fun s6 j2 hj2 => ?_) 4294967296 ((0 : Int32)))
  · refine x_iload_n dX11_twinAt_2 rfl ?_
    refine x_bipush (v := 8) dX11_twinAt_3 (by decide) ?_
    refine x_icmp_ge (tgt := 44) dX11_twinAt_5 (by decide) (fun _ => ?_) (fun _ => ?_)
    · exact x_weak (by exact trivial) (hj44 ())
    · refine x_iload_n dX11_twinAt_8 rfl ?_
      refine x_if_lt (tgt := 44) dX11_twinAt_9 (by decide) (fun _ => ?_) (fun _ => ?_)
      · exact x_weak (by exact trivial) (hj44 ())
      · refine x_aload_n dX11_twinAt_12 rfl ?_
        refine gfX11_26 rfl dX11_twinAt_13 (fun x7 => ?_)
        refine gfX11_235 rfl dX11_twinAt_16 (fun x8 => ?_)
        refine x_iload_n dX11_twinAt_19 rfl ?_
        refine x_aldq (t := 112) (tn := 7) (by decide) (by decide) rfl dX11_twinAt_20 (fun x9 => ?_)
        refine gfX11_245 rfl dX11_twinAt_21 (fun x10 => ?_)
        refine x_iload_n dX11_twinAt_24 rfl ?_
        refine x_icmp_ne (tgt := 38) dX11_twinAt_25 (by decide) (fun _ => ?_) (fun _ => ?_)
        · exact x_weak (by exact ⟨rfl, ⟨rfl, trivial⟩⟩) (hj28 s6)
        · refine x_iincN (v := 1) (lo' := fun x11 => [some (va_rf a0), some (.int a1), some (.int x11)]) (by decide) dX11_twinAt_38 rfl (by decide) rfl (fun _ => rfl) (fun x11 => ?_)
          refine x_goto (tgt := 2) dX11_twinAt_41 (by decide) ?_
          exact x_weak (by exact ⟨rfl, ⟨rfl, ⟨rfl, trivial⟩⟩⟩) (hj2 x11)
theorem s170 {l : Launch} {d : Nat} {rec : Nat → List Value → Mem → XA} (hS : Nonempty XS) (hs : XSnd l xmt rec d) : Snd1 l 170 (b170 rec) d := by
  intro as M r M' h0
  unfold b170 at h0
  obtain ⟨a0, l1, e1, h1⟩ := aR_inv h0
  obtain ⟨a1, l2, e2, h2⟩ := aI_inv h1
  obtain ⟨ez, h⟩ := aZ_inv h2
  subst ez
  subst e2
  subst e1
  exact xmet (M := M) (as := [va_rf a0, .int a1]) (lo := [some (va_rf a0), some (.int a1)]) 170 xq170 xm170 (by rw [xargs_rf, xargs_i, xargs_nil]; exact ⟨rfl, ⟨rfl, trivial⟩⟩) (by rw [xargs_rf, xargs_i, xargs_nil]; exact Nat.le_of_ble_eq_true rfl) (fun S G K => x_weak (by exact ⟨rfl, ⟨rfl, trivial⟩⟩) (k170 hs a0 a1 M)) h hS
set_option maxRecDepth 100000 in
def c171 (rec : Nat → List Value → Mem → XA) (a0 : Option Nat) (a1 : Int32) (M0 : Mem) : XA :=
  jn (fun (s1 : Option Nat × Mem) =>
    some (va_rf s1.1, s1.2)) fun j30 =>
  jn (fun (s2 : Mem) =>
    j30 (none, s2)) fun j15 =>
  if a1 < 0 then (
    j15 M0) else (
    gtP (12, 19) M0 a0 5 fun x3 =>
    vC (0, 3) M0 x3 <|
    cI (rec 346 [va_rf x3] M0) fun x5 M4 =>
    if a1 < x5 then (
      gtP (12, 19) M4 a0 5 fun x6 =>
      vC (0, 3) M4 x6 <|
      cP (rec 348 [va_rf x6, .int a1] M4) fun x8 M7 =>
      cst (2, 7) M7 x8 <|
      j30 (x8, M7)) else (
      j15 M4))
def b171 (rec : Nat → List Value → Mem → XA) (as : List Value) (M0 : Mem) : XA := aR as fun a0 as => aI as fun a1 as => aZ as (c171 rec a0 a1 M0)
set_option maxRecDepth 100000 in
set_option maxHeartbeats 4000000 in
theorem k171 {S : XS} {G : XG} {K : Nat × Nat} {l : Launch} {d : Nat} {rec : Nat → List Value → Mem → XA} (hs : XSnd l xmt rec d) (a0 : Option Nat) (a1 : Int32) (M0 : Mem) : Xe S G K l (yX11_historyAt, cX11_historyAt, 2, some (.object "TestHouse$History")) d 0 [some (va_rf a0), some (.int a1)] [] M0 (c171 rec a0 a1 M0) := by
  unfold c171
  refine x_iload_n dX11_historyAt_0 rfl ?_
  refine x_jn (σ := Option Nat × Mem) 30 (fun s1 => [none, none]) (fun s1 => [va_rf s1.1]) (fun s1 => s1.2) (fun s1 => ?_) (fun j30 hj30 => ?_)
  · exact x_aret rfl rfl dX11_historyAt_30
  refine x_jn (σ := Mem) 15 (fun s2 => [none, none]) (fun s2 => []) (fun s2 => s2) (fun s2 => ?_) (fun j15 hj15 => ?_)
  · refine x_null dX11_historyAt_15 ?_
    refine x_goto (tgt := 30) dX11_historyAt_16 (by decide) ?_
    exact x_weak (by exact trivial) (hj30 (none, s2))
  refine x_if_lt (tgt := 15) dX11_historyAt_1 (by decide) (fun _ => ?_) (fun _ => ?_)
  · exact x_weak (by exact trivial) (hj15 M0)
  · refine x_iload_n dX11_historyAt_4 rfl ?_
    refine x_aload_n dX11_historyAt_5 rfl ?_
    refine gfX11_33 rfl dX11_historyAt_6 (fun x3 => ?_)
    refine cmX11_88 rfl hs (Nat.le_of_ble_eq_true rfl) dX11_historyAt_9 (fun x5 M4 => ?_)
    refine x_icmp_lt (tgt := 19) dX11_historyAt_12 (by decide) (fun _ => ?_) (fun _ => ?_)
    · refine x_aload_n dX11_historyAt_19 rfl ?_
      refine gfX11_33 rfl dX11_historyAt_20 (fun x6 => ?_)
      refine x_iload_n dX11_historyAt_23 rfl ?_
      refine cmX11_162 rfl hs (Nat.le_of_ble_eq_true rfl) dX11_historyAt_24 (fun x8 M7 => ?_)
      refine ccX11_338 rfl dX11_historyAt_27 ?_
      exact x_weak (by exact trivial) (hj30 (x8, M7))
    · exact x_weak (by exact trivial) (hj15 M4)
theorem s171 {l : Launch} {d : Nat} {rec : Nat → List Value → Mem → XA} (hS : Nonempty XS) (hs : XSnd l xmt rec d) : Snd1 l 171 (b171 rec) d := by
  intro as M r M' h0
  unfold b171 at h0
  obtain ⟨a0, l1, e1, h1⟩ := aR_inv h0
  obtain ⟨a1, l2, e2, h2⟩ := aI_inv h1
  obtain ⟨ez, h⟩ := aZ_inv h2
  subst ez
  subst e2
  subst e1
  exact xmet (M := M) (as := [va_rf a0, .int a1]) (lo := [some (va_rf a0), some (.int a1)]) 171 xq171 xm171 (by rw [xargs_rf, xargs_i, xargs_nil]; exact ⟨rfl, ⟨rfl, trivial⟩⟩) (by rw [xargs_rf, xargs_i, xargs_nil]; exact Nat.le_of_ble_eq_true rfl) (fun S G K => x_weak (by exact ⟨rfl, ⟨rfl, trivial⟩⟩) (k171 hs a0 a1 M)) h hS
set_option maxRecDepth 100000 in
def c172 (rec : Nat → List Value → Mem → XA) (a0 : Option Nat) (a1 : Int32) (M0 : Mem) : XA :=
  jn (fun (s1 : Option Nat × Mem) =>
    some (va_rf s1.1, s1.2)) fun j30 =>
  jn (fun (s2 : Mem) =>
    j30 (none, s2)) fun j15 =>
  if a1 < 0 then (
    j15 M0) else (
    gtP (12, 19) M0 a0 4 fun x3 =>
    vC (0, 3) M0 x3 <|
    cI (rec 346 [va_rf x3] M0) fun x5 M4 =>
    if a1 < x5 then (
      gtP (12, 19) M4 a0 4 fun x6 =>
      vC (0, 3) M4 x6 <|
      cP (rec 348 [va_rf x6, .int a1] M4) fun x8 M7 =>
      cst (1, 4) M7 x8 <|
      j30 (x8, M7)) else (
      j15 M4))
def b172 (rec : Nat → List Value → Mem → XA) (as : List Value) (M0 : Mem) : XA := aR as fun a0 as => aI as fun a1 as => aZ as (c172 rec a0 a1 M0)
set_option maxRecDepth 100000 in
set_option maxHeartbeats 4000000 in
theorem k172 {S : XS} {G : XG} {K : Nat × Nat} {l : Launch} {d : Nat} {rec : Nat → List Value → Mem → XA} (hs : XSnd l xmt rec d) (a0 : Option Nat) (a1 : Int32) (M0 : Mem) : Xe S G K l (yX11_buildAt, cX11_buildAt, 2, some (.object "TestHouse$Build")) d 0 [some (va_rf a0), some (.int a1)] [] M0 (c172 rec a0 a1 M0) := by
  unfold c172
  refine x_iload_n dX11_buildAt_0 rfl ?_
  refine x_jn (σ := Option Nat × Mem) 30 (fun s1 => [none, none]) (fun s1 => [va_rf s1.1]) (fun s1 => s1.2) (fun s1 => ?_) (fun j30 hj30 => ?_)
  · exact x_aret rfl rfl dX11_buildAt_30
  refine x_jn (σ := Mem) 15 (fun s2 => [none, none]) (fun s2 => []) (fun s2 => s2) (fun s2 => ?_) (fun j15 hj15 => ?_)
  · refine x_null dX11_buildAt_15 ?_
    refine x_goto (tgt := 30) dX11_buildAt_16 (by decide) ?_
    exact x_weak (by exact trivial) (hj30 (none, s2))
  refine x_if_lt (tgt := 15) dX11_buildAt_1 (by decide) (fun _ => ?_) (fun _ => ?_)
  · exact x_weak (by exact trivial) (hj15 M0)
  · refine x_iload_n dX11_buildAt_4 rfl ?_
    refine x_aload_n dX11_buildAt_5 rfl ?_
    refine gfX11_30 rfl dX11_buildAt_6 (fun x3 => ?_)
    refine cmX11_88 rfl hs (Nat.le_of_ble_eq_true rfl) dX11_buildAt_9 (fun x5 M4 => ?_)
    refine x_icmp_lt (tgt := 19) dX11_buildAt_12 (by decide) (fun _ => ?_) (fun _ => ?_)
    · refine x_aload_n dX11_buildAt_19 rfl ?_
      refine gfX11_30 rfl dX11_buildAt_20 (fun x6 => ?_)
      refine x_iload_n dX11_buildAt_23 rfl ?_
      refine cmX11_162 rfl hs (Nat.le_of_ble_eq_true rfl) dX11_buildAt_24 (fun x8 M7 => ?_)
      refine ccX11_393 rfl dX11_buildAt_27 ?_
      exact x_weak (by exact trivial) (hj30 (x8, M7))
    · exact x_weak (by exact trivial) (hj15 M4)
theorem s172 {l : Launch} {d : Nat} {rec : Nat → List Value → Mem → XA} (hS : Nonempty XS) (hs : XSnd l xmt rec d) : Snd1 l 172 (b172 rec) d := by
  intro as M r M' h0
  unfold b172 at h0
  obtain ⟨a0, l1, e1, h1⟩ := aR_inv h0
  obtain ⟨a1, l2, e2, h2⟩ := aI_inv h1
  obtain ⟨ez, h⟩ := aZ_inv h2
  subst ez
  subst e2
  subst e1
  exact xmet (M := M) (as := [va_rf a0, .int a1]) (lo := [some (va_rf a0), some (.int a1)]) 172 xq172 xm172 (by rw [xargs_rf, xargs_i, xargs_nil]; exact ⟨rfl, ⟨rfl, trivial⟩⟩) (by rw [xargs_rf, xargs_i, xargs_nil]; exact Nat.le_of_ble_eq_true rfl) (fun S G K => x_weak (by exact ⟨rfl, ⟨rfl, trivial⟩⟩) (k172 hs a0 a1 M)) h hS
set_option maxRecDepth 100000 in
def c173 (rec : Nat → List Value → Mem → XA) (a0 : Int64) (a1 : Int32) (M0 : Mem) : XA :=
  cI (rec 316 [.long a0] M0) fun x2 M1 =>
  if ((8 : Int32)) = 0 then none else
  lt ((((71 : Int32)) - x2) / ((8 : Int32))) fun (x3 : Int32) =>
  jn (fun (s4 : Int32) =>
    some (.int s4, M1)) fun j39 =>
  jn (fun (s5 : Unit) =>
    j39 ((-1 : Int32))) fun j20 =>
  if a1 < 0 then (
    j20 ()) else (
    if a1 < x3 then (
      j39 ((((Int64.toUInt64 a0 >>> ((Int32.toInt64 (((8 : Int32)) * ((x3 - ((1 : Int32))) - a1))).toUInt64 &&& Int64.toUInt64 63)).toInt64).toInt32) &&& ((255 : Int32)))) else (
      j20 ()))
def b173 (rec : Nat → List Value → Mem → XA) (as : List Value) (M0 : Mem) : XA := aL as fun a0 as => aI as fun a1 as => aZ as (c173 rec a0 a1 M0)
set_option maxRecDepth 100000 in
set_option maxHeartbeats 4000000 in
theorem k173 {S : XS} {G : XG} {K : Nat × Nat} {l : Launch} {d : Nat} {rec : Nat → List Value → Mem → XA} (hs : XSnd l xmt rec d) (a0 : Int64) (a1 : Int32) (M0 : Mem) : Xe S G K l (yX11_byteOf, cX11_byteOf, 4, some .int) d 0 [some (.long a0), none, some (.int a1), none] [] M0 (c173 rec a0 a1 M0) := by
  unfold c173
  refine x_bipush (v := 71) dX11_byteOf_0 (by decide) ?_
  refine x_lload_n dX11_byteOf_2 rfl ?_
  refine cmX11_420 rfl hs (Nat.le_of_ble_eq_true rfl) dX11_byteOf_3 (fun x2 M1 => ?_)
  refine x_isub dX11_byteOf_6 ?_
  refine x_bipush (v := 8) dX11_byteOf_7 (by decide) ?_
  refine x_idiv dX11_byteOf_9 (fun _ => ?_)
  refine x_ltI (fun x3 => ?_)
  refine x_istore_n (lo' := [some (.long a0), none, some (.int a1), some (.int x3)]) dX11_byteOf_10 (by decide) rfl rfl ?_
  refine x_iload_n dX11_byteOf_11 rfl ?_
  refine x_jn (σ := Int32) 39 (fun s4 => [none, none, none, none]) (fun s4 => [.int s4]) (fun s4 => M1) (fun s4 => ?_) (fun j39 hj39 => ?_)
  · exact x_iret rfl dX11_byteOf_39
  refine x_jn (σ := Unit) 20 (fun s5 => [none, none, none, none]) (fun s5 => []) (fun s5 => M1) (fun s5 => ?_) (fun j20 hj20 => ?_)
  · refine x_iconst (v := -1) dX11_byteOf_20 (by decide) ?_
    refine x_goto (tgt := 39) dX11_byteOf_21 (by decide) ?_
    exact x_weak (by exact trivial) (hj39 ((-1 : Int32)))
  refine x_if_lt (tgt := 20) dX11_byteOf_12 (by decide) (fun _ => ?_) (fun _ => ?_)
  · exact x_weak (by exact trivial) (hj20 ())
  · refine x_iload_n dX11_byteOf_15 rfl ?_
    refine x_iload_n dX11_byteOf_16 rfl ?_
    refine x_icmp_lt (tgt := 24) dX11_byteOf_17 (by decide) (fun _ => ?_) (fun _ => ?_)
    · refine x_lload_n dX11_byteOf_24 rfl ?_
      refine x_bipush (v := 8) dX11_byteOf_25 (by decide) ?_
      refine x_iload_n dX11_byteOf_27 rfl ?_
      refine x_iconst (v := 1) dX11_byteOf_28 (by decide) ?_
      refine x_isub dX11_byteOf_29 ?_
      refine x_iload_n dX11_byteOf_30 rfl ?_
      refine x_isub dX11_byteOf_31 ?_
      refine x_imul dX11_byteOf_32 ?_
      refine x_lushr dX11_byteOf_33 ?_
      refine x_l2i dX11_byteOf_34 ?_
      refine x_sipush (v := 255) dX11_byteOf_35 (by decide) ?_
      refine x_iand dX11_byteOf_38 ?_
      exact x_weak (by exact trivial) (hj39 ((((Int64.toUInt64 a0 >>> ((Int32.toInt64 (((8 : Int32)) * ((x3 - ((1 : Int32))) - a1))).toUInt64 &&& Int64.toUInt64 63)).toInt64).toInt32) &&& ((255 : Int32))))
    · exact x_weak (by exact trivial) (hj20 ())
theorem s173 {l : Launch} {d : Nat} {rec : Nat → List Value → Mem → XA} (hS : Nonempty XS) (hs : XSnd l xmt rec d) : Snd1 l 173 (b173 rec) d := by
  intro as M r M' h0
  unfold b173 at h0
  obtain ⟨a0, l1, e1, h1⟩ := aL_inv h0
  obtain ⟨a1, l2, e2, h2⟩ := aI_inv h1
  obtain ⟨ez, h⟩ := aZ_inv h2
  subst ez
  subst e2
  subst e1
  exact xmet (M := M) (as := [.long a0, .int a1]) (lo := [some (.long a0), none, some (.int a1)]) 173 xq173 xm173 (by rw [xargs_l, xargs_i, xargs_nil]; exact ⟨rfl, ⟨rfl, trivial⟩⟩) (by rw [xargs_l, xargs_i, xargs_nil]; exact Nat.le_of_ble_eq_true rfl) (fun S G K => x_weak (by exact ⟨rfl, ⟨rfl, trivial⟩⟩) (k173 hs a0 a1 M)) h hS
set_option maxRecDepth 100000 in
def c174_19 (rec : Nat → List Value → Mem → XA) (a0 : Option Nat) (a1 : Option Nat) (a2 : Option Nat) (a3 : Int32) (a4 : Int32) (a5 : Option Nat) (j138 : Mem → XA) (x4 : Option Nat) : (Int32 × Mem) → ((Int32 × Mem) → XA) → XA := fun s6 j19 =>
  if a3 ≤ s6.1 then (
    j138 s6.2) else (
    gtP (12, 19) s6.2 a0 2 fun x7 =>
    vC (4, 22) s6.2 x7 <|
    cI (rec 22 [va_rf x7] s6.2) fun x9 M8 =>
    if x9 = 0 then (
      alI 100 M8 a2 s6.1 fun x10 =>
      gtP (6, 18) M8 a1 3 fun x11 =>
      cP (rec 168 [va_rf x11, .int x10] M8) fun x13 M12 =>
      jn (fun (s14 : Mem) =>
        lt (s6.1 + (1 : Int32)) fun (x15 : Int32) =>
        j19 (x15, s14)) fun j132 =>
      if x13 = none then (
        j132 M12) else (
        if s6.1 = a4 then (
          j132 M12) else (
          gtP (12, 19) M12 a0 2 fun x16 =>
          ptI (4, 22) M12 x16 5 (s6.1 + ((1 : Int32))) fun M17 =>
          gtP (12, 19) M17 a0 2 fun x18 =>
          vC (4, 22) M17 x18 <|
          cV (rec 25 [va_rf x18, va_rf x13] M17) fun M19 =>
          alP 113 M19 a5 ((0 : Int32)) fun x20 =>
          gtI (5, 5) M19 x4 0 fun x21 =>
          asI 100 M19 x20 x10 x21 fun M22 =>
          alP 113 M22 a5 ((1 : Int32)) fun x23 =>
          gtI (5, 5) M22 x4 1 fun x24 =>
          asI 100 M22 x23 x10 x24 fun M25 =>
          alP 113 M25 a5 ((2 : Int32)) fun x26 =>
          gtI (5, 5) M25 x4 2 fun x27 =>
          asI 100 M25 x26 x10 x27 fun M28 =>
          alP 113 M28 a5 ((3 : Int32)) fun x29 =>
          gtI (5, 5) M28 x4 3 fun x30 =>
          asI 100 M28 x29 x10 x30 fun M31 =>
          j132 M31))) else (
      j138 M8))
set_option maxRecDepth 100000 in
def c174 (rec : Nat → List Value → Mem → XA) (a0 : Option Nat) (a1 : Option Nat) (a2 : Option Nat) (a3 : Int32) (a4 : Int32) (a5 : Option Nat) (M0 : Mem) : XA :=
  gtP (12, 19) M0 a0 2 fun x1 =>
  vC (4, 22) M0 x1 <|
  cV (rec 23 [va_rf x1] M0) fun M2 =>
  gtP (12, 19) M2 a0 2 fun x3 =>
  gtP (4, 22) M2 x3 0 fun x4 =>
  jn (fun (s5 : Mem) =>
    some (.null, s5)) fun j138 =>
  lp (c174_19 rec a0 a1 a2 a3 a4 a5 j138 x4) 4294967296 ((0 : Int32), M2)
def b174 (rec : Nat → List Value → Mem → XA) (as : List Value) (M0 : Mem) : XA := aR as fun a0 as => aR as fun a1 as => aR as fun a2 as => aI as fun a3 as => aI as fun a4 as => aR as fun a5 as => aZ as (c174 rec a0 a1 a2 a3 a4 a5 M0)
set_option maxRecDepth 100000 in
set_option maxHeartbeats 4000000 in
theorem k174 {S : XS} {G : XG} {K : Nat × Nat} {l : Launch} {d : Nat} {rec : Nat → List Value → Mem → XA} (hs : XSnd l xmt rec d) (a0 : Option Nat) (a1 : Option Nat) (a2 : Option Nat) (a3 : Int32) (a4 : Int32) (a5 : Option Nat) (M0 : Mem) : Xe S G K l (yX11_runCases, cX11_runCases, 10, none) d 0 [some (va_rf a0), some (va_rf a1), some (va_rf a2), some (.int a3), some (.int a4), some (va_rf a5), none, none, none, none] [] M0 (c174 rec a0 a1 a2 a3 a4 a5 M0) := by
  unfold c174
  refine x_aload_n dX11_runCases_0 rfl ?_
  refine gfX11_26 rfl dX11_runCases_1 (fun x1 => ?_)
  refine cmX11_426 rfl hs (Nat.le_of_ble_eq_true rfl) dX11_runCases_4 (fun M2 => ?_)
  refine x_aload_n dX11_runCases_7 rfl ?_
  refine gfX11_26 rfl dX11_runCases_8 (fun x3 => ?_)
  refine gfX11_381 rfl dX11_runCases_11 (fun x4 => ?_)
  refine x_astore (lo' := [some (va_rf a0), some (va_rf a1), some (va_rf a2), some (.int a3), some (.int a4), some (va_rf a5), some (va_rf x4), none, none, none]) dX11_runCases_14 (by decide) (xok_r rfl) rfl ?_
  refine x_iconst (v := 0) dX11_runCases_16 (by decide) ?_
  refine x_istore (lo' := [some (va_rf a0), some (va_rf a1), some (va_rf a2), some (.int a3), some (.int a4), some (va_rf a5), some (va_rf x4), some (.int ((0 : Int32))), none, none]) dX11_runCases_17 (by decide) (xok_r rfl) rfl ?_
  refine x_jn (σ := Mem) 138 (fun s5 => [none, none, none, none, none, none, none, none, none, none]) (fun s5 => []) (fun s5 => s5) (fun s5 => ?_) (fun j138 hj138 => ?_)
  · exact x_vret rfl dX11_runCases_138
  refine x_weak (by exact ⟨rfl, ⟨rfl, ⟨rfl, ⟨rfl, ⟨rfl, ⟨rfl, ⟨rfl, ⟨rfl, trivial⟩⟩⟩⟩⟩⟩⟩⟩) (x_lp (σ := Int32 × Mem) 19 (fun s6 => [some (va_rf a0), some (va_rf a1), some (va_rf a2), some (.int a3), some (.int a4), some (va_rf a5), some (va_rf x4), some (.int s6.1), none, none]) (fun s6 => []) (fun s6 => s6.2) (fun s6 j19 hj19 => ?_) 4294967296 ((0 : Int32), M2))
  · refine x_iload dX11_runCases_19 rfl ?_
    refine x_iload_n dX11_runCases_21 rfl ?_
    refine x_icmp_ge (tgt := 138) dX11_runCases_22 (by decide) (fun _ => ?_) (fun _ => ?_)
    · exact x_weak (by exact trivial) (hj138 s6.2)
    · refine x_aload_n dX11_runCases_25 rfl ?_
      refine gfX11_26 rfl dX11_runCases_26 (fun x7 => ?_)
      refine cmX11_294 rfl hs (Nat.le_of_ble_eq_true rfl) dX11_runCases_29 (fun x9 M8 => ?_)
      refine x_if_ne (tgt := 138) dX11_runCases_32 (by decide) (fun _ => ?_) (fun _ => ?_)
      · refine x_aload_n dX11_runCases_35 rfl ?_
        refine x_iload dX11_runCases_36 rfl ?_
        refine x_iald dX11_runCases_38 (fun x10 => ?_)
        refine x_istore (lo' := [some (va_rf a0), some (va_rf a1), some (va_rf a2), some (.int a3), some (.int a4), some (va_rf a5), some (va_rf x4), some (.int s6.1), some (.int x10), none]) dX11_runCases_39 (by decide) rfl rfl ?_
        refine x_aload_n dX11_runCases_41 rfl ?_
        refine gfX11_121 rfl dX11_runCases_42 (fun x11 => ?_)
        refine x_iload dX11_runCases_45 rfl ?_
        refine cmX11_130 rfl hs (Nat.le_of_ble_eq_true rfl) dX11_runCases_47 (fun x13 M12 => ?_)
        refine x_astore (lo' := [some (va_rf a0), some (va_rf a1), some (va_rf a2), some (.int a3), some (.int a4), some (va_rf a5), some (va_rf x4), some (.int s6.1), some (.int x10), some (va_rf x13)]) dX11_runCases_50 (by decide) rfl rfl ?_
        refine x_aload dX11_runCases_52 rfl ?_
        refine x_jn (σ := Mem) 132 (fun s14 => [some (va_rf a0), some (va_rf a1), some (va_rf a2), some (.int a3), some (.int a4), some (va_rf a5), some (va_rf x4), some (.int s6.1), none, none]) (fun s14 => []) (fun s14 => s14) (fun s14 => ?_) (fun j132 hj132 => ?_)
        · refine x_iincN (v := 1) (lo' := fun x15 => [some (va_rf a0), some (va_rf a1), some (va_rf a2), some (.int a3), some (.int a4), some (va_rf a5), some (va_rf x4), some (.int x15), none, none]) (by decide) dX11_runCases_132 rfl (by decide) (xok_r rfl) (fun _ => rfl) (fun x15 => ?_)
          refine x_goto (tgt := 19) dX11_runCases_135 (by decide) ?_
          exact x_weak (by exact ⟨rfl, ⟨rfl, ⟨rfl, ⟨rfl, ⟨rfl, ⟨rfl, ⟨rfl, ⟨rfl, trivial⟩⟩⟩⟩⟩⟩⟩⟩) (hj19 (x15, s14))
        refine x_ifnull (tgt := 132) dX11_runCases_54 (by decide) (fun _ => ?_) (fun _ => ?_)
        · exact x_weak (by exact ⟨rfl, ⟨rfl, ⟨rfl, ⟨rfl, ⟨rfl, ⟨rfl, ⟨rfl, ⟨rfl, trivial⟩⟩⟩⟩⟩⟩⟩⟩) (hj132 M12)
        · refine x_iload dX11_runCases_57 rfl ?_
          refine x_iload dX11_runCases_59 rfl ?_
          refine x_icmp_eq (tgt := 132) dX11_runCases_61 (by decide) (fun _ => ?_) (fun _ => ?_)
          · exact x_weak (by exact ⟨rfl, ⟨rfl, ⟨rfl, ⟨rfl, ⟨rfl, ⟨rfl, ⟨rfl, ⟨rfl, trivial⟩⟩⟩⟩⟩⟩⟩⟩) (hj132 M12)
          · refine x_aload_n dX11_runCases_64 rfl ?_
            refine gfX11_26 rfl dX11_runCases_65 (fun x16 => ?_)
            refine x_iload dX11_runCases_68 rfl ?_
            refine x_iconst (v := 1) dX11_runCases_70 (by decide) ?_
            refine x_iadd dX11_runCases_71 ?_
            refine pfX11_429 rfl dX11_runCases_72 (fun M17 => ?_)
            refine x_aload_n dX11_runCases_75 rfl ?_
            refine gfX11_26 rfl dX11_runCases_76 (fun x18 => ?_)
            refine x_aload dX11_runCases_79 rfl ?_
            refine cmX11_432 rfl hs (Nat.le_of_ble_eq_true rfl) dX11_runCases_81 (fun M19 => ?_)
            refine x_aload dX11_runCases_84 rfl ?_
            refine x_iconst (v := 0) dX11_runCases_86 (by decide) ?_
            refine x_aldg (t := 113) (tn := 8) (by decide) (by decide) rfl rfl dX11_runCases_87 (fun x20 => ?_)
            refine x_iload dX11_runCases_88 rfl ?_
            refine x_aload dX11_runCases_90 rfl ?_
            refine gfX11_384 rfl dX11_runCases_92 (fun x21 => ?_)
            refine x_iast dX11_runCases_95 (fun M22 => ?_)
            refine x_aload dX11_runCases_96 rfl ?_
            refine x_iconst (v := 1) dX11_runCases_98 (by decide) ?_
            refine x_aldg (t := 113) (tn := 8) (by decide) (by decide) rfl rfl dX11_runCases_99 (fun x23 => ?_)
            refine x_iload dX11_runCases_100 rfl ?_
            refine x_aload dX11_runCases_102 rfl ?_
            refine gfX11_223 rfl dX11_runCases_104 (fun x24 => ?_)
            refine x_iast dX11_runCases_107 (fun M25 => ?_)
            refine x_aload dX11_runCases_108 rfl ?_
            refine x_iconst (v := 2) dX11_runCases_110 (by decide) ?_
            refine x_aldg (t := 113) (tn := 8) (by decide) (by decide) rfl rfl dX11_runCases_111 (fun x26 => ?_)
            refine x_iload dX11_runCases_112 rfl ?_
            refine x_aload dX11_runCases_114 rfl ?_
            refine gfX11_226 rfl dX11_runCases_116 (fun x27 => ?_)
            refine x_iast dX11_runCases_119 (fun M28 => ?_)
            refine x_aload dX11_runCases_120 rfl ?_
            refine x_iconst (v := 3) dX11_runCases_122 (by decide) ?_
            refine x_aldg (t := 113) (tn := 8) (by decide) (by decide) rfl rfl dX11_runCases_123 (fun x29 => ?_)
            refine x_iload dX11_runCases_124 rfl ?_
            refine x_aload dX11_runCases_126 rfl ?_
            refine gfX11_229 rfl dX11_runCases_128 (fun x30 => ?_)
            refine x_iast dX11_runCases_131 (fun M31 => ?_)
            exact x_weak (by exact ⟨rfl, ⟨rfl, ⟨rfl, ⟨rfl, ⟨rfl, ⟨rfl, ⟨rfl, ⟨rfl, trivial⟩⟩⟩⟩⟩⟩⟩⟩) (hj132 M31)
      · exact x_weak (by exact trivial) (hj138 M8)
theorem s174 {l : Launch} {d : Nat} {rec : Nat → List Value → Mem → XA} (hS : Nonempty XS) (hs : XSnd l xmt rec d) : Snd1 l 174 (b174 rec) d := by
  intro as M r M' h0
  unfold b174 at h0
  obtain ⟨a0, l1, e1, h1⟩ := aR_inv h0
  obtain ⟨a1, l2, e2, h2⟩ := aR_inv h1
  obtain ⟨a2, l3, e3, h3⟩ := aR_inv h2
  obtain ⟨a3, l4, e4, h4⟩ := aI_inv h3
  obtain ⟨a4, l5, e5, h5⟩ := aI_inv h4
  obtain ⟨a5, l6, e6, h6⟩ := aR_inv h5
  obtain ⟨ez, h⟩ := aZ_inv h6
  subst ez
  subst e6
  subst e5
  subst e4
  subst e3
  subst e2
  subst e1
  exact xmet (M := M) (as := [va_rf a0, va_rf a1, va_rf a2, .int a3, .int a4, va_rf a5]) (lo := [some (va_rf a0), some (va_rf a1), some (va_rf a2), some (.int a3), some (.int a4), some (va_rf a5)]) 174 xq174 xm174 (by rw [xargs_rf, xargs_rf, xargs_rf, xargs_i, xargs_i, xargs_rf, xargs_nil]; exact ⟨rfl, ⟨rfl, ⟨rfl, ⟨rfl, ⟨rfl, ⟨rfl, trivial⟩⟩⟩⟩⟩⟩) (by rw [xargs_rf, xargs_rf, xargs_rf, xargs_i, xargs_i, xargs_rf, xargs_nil]; exact Nat.le_of_ble_eq_true rfl) (fun S G K => x_weak (by exact ⟨rfl, ⟨rfl, ⟨rfl, ⟨rfl, ⟨rfl, ⟨rfl, trivial⟩⟩⟩⟩⟩⟩) (k174 hs a0 a1 a2 a3 a4 a5 M)) h hS
set_option maxRecDepth 100000 in
def c175 (rec : Nat → List Value → Mem → XA) (a0 : Option Nat) (a1 : Option Nat) (M0 : Mem) : XA :=
  gtP (12, 19) M0 a0 2 fun x1 =>
  vC (4, 22) M0 x1 <|
  cV (rec 21 [va_rf x1, .int ((1 : Int32))] M0) fun M2 =>
  gtP (12, 19) M2 a0 2 fun x3 =>
  vC (4, 22) M2 x3 <|
  cV (rec 23 [va_rf x3] M2) fun M4 =>
  gtP (12, 19) M4 a0 2 fun x5 =>
  vC (4, 22) M4 x5 <|
  cV (rec 25 [va_rf x5, va_rf a1] M4) fun M6 =>
  gtP (12, 19) M6 a0 6 fun x7 =>
  gtP (12, 19) M6 a0 2 fun x8 =>
  gtP (4, 22) M6 x8 0 fun x9 =>
  vC (5, 5) M6 x7 <|
  cV (rec 49 [va_rf x7, va_rf x9] M6) fun M10 =>
  ptZ (12, 19) M10 a0 7 ((1 : Int32)) fun M11 =>
  gtP (12, 19) M11 a0 6 fun x12 =>
  gtI (5, 5) M11 x12 0 fun x13 =>
  some (.int x13, M11)
def b175 (rec : Nat → List Value → Mem → XA) (as : List Value) (M0 : Mem) : XA := aR as fun a0 as => aR as fun a1 as => aZ as (c175 rec a0 a1 M0)
set_option maxRecDepth 100000 in
set_option maxHeartbeats 4000000 in
theorem k175 {S : XS} {G : XG} {K : Nat × Nat} {l : Launch} {d : Nat} {rec : Nat → List Value → Mem → XA} (hs : XSnd l xmt rec d) (a0 : Option Nat) (a1 : Option Nat) (M0 : Mem) : Xe S G K l (yX11_liveWatched, cX11_liveWatched, 2, some .int) d 0 [some (va_rf a0), some (va_rf a1)] [] M0 (c175 rec a0 a1 M0) := by
  unfold c175
  refine x_aload_n dX11_liveWatched_0 rfl ?_
  refine gfX11_26 rfl dX11_liveWatched_1 (fun x1 => ?_)
  refine x_iconst (v := 1) dX11_liveWatched_4 (by decide) ?_
  refine cmX11_197 rfl hs (Nat.le_of_ble_eq_true rfl) dX11_liveWatched_5 (fun M2 => ?_)
  refine x_aload_n dX11_liveWatched_8 rfl ?_
  refine gfX11_26 rfl dX11_liveWatched_9 (fun x3 => ?_)
  refine cmX11_426 rfl hs (Nat.le_of_ble_eq_true rfl) dX11_liveWatched_12 (fun M4 => ?_)
  refine x_aload_n dX11_liveWatched_15 rfl ?_
  refine gfX11_26 rfl dX11_liveWatched_16 (fun x5 => ?_)
  refine x_aload_n dX11_liveWatched_19 rfl ?_
  refine cmX11_432 rfl hs (Nat.le_of_ble_eq_true rfl) dX11_liveWatched_20 (fun M6 => ?_)
  refine x_aload_n dX11_liveWatched_23 rfl ?_
  refine gfX11_39 rfl dX11_liveWatched_24 (fun x7 => ?_)
  refine x_aload_n dX11_liveWatched_27 rfl ?_
  refine gfX11_26 rfl dX11_liveWatched_28 (fun x8 => ?_)
  refine gfX11_381 rfl dX11_liveWatched_31 (fun x9 => ?_)
  refine cmX11_436 rfl hs (Nat.le_of_ble_eq_true rfl) dX11_liveWatched_34 (fun M10 => ?_)
  refine x_aload_n dX11_liveWatched_37 rfl ?_
  refine x_iconst (v := 1) dX11_liveWatched_38 (by decide) ?_
  refine pfX11_220 rfl dX11_liveWatched_39 (fun M11 => ?_)
  refine x_aload_n dX11_liveWatched_42 rfl ?_
  refine gfX11_39 rfl dX11_liveWatched_43 (fun x12 => ?_)
  refine gfX11_384 rfl dX11_liveWatched_46 (fun x13 => ?_)
  exact x_iret rfl dX11_liveWatched_49
theorem s175 {l : Launch} {d : Nat} {rec : Nat → List Value → Mem → XA} (hS : Nonempty XS) (hs : XSnd l xmt rec d) : Snd1 l 175 (b175 rec) d := by
  intro as M r M' h0
  unfold b175 at h0
  obtain ⟨a0, l1, e1, h1⟩ := aR_inv h0
  obtain ⟨a1, l2, e2, h2⟩ := aR_inv h1
  obtain ⟨ez, h⟩ := aZ_inv h2
  subst ez
  subst e2
  subst e1
  exact xmet (M := M) (as := [va_rf a0, va_rf a1]) (lo := [some (va_rf a0), some (va_rf a1)]) 175 xq175 xm175 (by rw [xargs_rf, xargs_rf, xargs_nil]; exact ⟨rfl, ⟨rfl, trivial⟩⟩) (by rw [xargs_rf, xargs_rf, xargs_nil]; exact Nat.le_of_ble_eq_true rfl) (fun S G K => x_weak (by exact ⟨rfl, ⟨rfl, trivial⟩⟩) (k175 hs a0 a1 M)) h hS
set_option maxRecDepth 100000 in
def c176_4 (rec : Nat → List Value → Mem → XA) (a0 : Option Nat) (a1 : Int32) (M0 : Mem) (j59 : Int32 → XA) : (Int32 × Int32) → ((Int32 × Int32) → XA) → XA := fun s2 j4 =>
  if a1 ≤ s2.2 then (
    j59 s2.1) else (
    gtP (12, 19) M0 a0 17 fun x3 =>
    alP 113 M0 x3 ((0 : Int32)) fun x4 =>
    alI 100 M0 x4 s2.2 fun x5 =>
    gtP (12, 19) M0 a0 18 fun x6 =>
    alP 113 M0 x6 ((0 : Int32)) fun x7 =>
    alI 100 M0 x7 s2.2 fun x8 =>
    jn (fun (s9 : Int32) =>
      lt (s2.2 + (1 : Int32)) fun (x10 : Int32) =>
      j4 (s9, x10)) fun j53 =>
    jn (fun (s11 : Unit) =>
      lt (s2.1 ||| (((1 : Int32)) <<< (s2.2 &&& 31))) fun (x12 : Int32) =>
      j53 x12) fun j47 =>
    if x5 = x8 then (
      gtP (12, 19) M0 a0 17 fun x13 =>
      alP 113 M0 x13 ((1 : Int32)) fun x14 =>
      alI 100 M0 x14 s2.2 fun x15 =>
      gtP (12, 19) M0 a0 18 fun x16 =>
      alP 113 M0 x16 ((1 : Int32)) fun x17 =>
      alI 100 M0 x17 s2.2 fun x18 =>
      if x15 = x18 then (
        j53 s2.1) else (
        j47 ())) else (
      j47 ()))
set_option maxRecDepth 100000 in
def c176 (rec : Nat → List Value → Mem → XA) (a0 : Option Nat) (a1 : Int32) (M0 : Mem) : XA :=
  jn (fun (s1 : Int32) =>
    some (.int s1, M0)) fun j59 =>
  lp (c176_4 rec a0 a1 M0 j59) 4294967296 ((0 : Int32), (0 : Int32))
def b176 (rec : Nat → List Value → Mem → XA) (as : List Value) (M0 : Mem) : XA := aR as fun a0 as => aI as fun a1 as => aZ as (c176 rec a0 a1 M0)
set_option maxRecDepth 100000 in
set_option maxHeartbeats 4000000 in
theorem k176 {S : XS} {G : XG} {K : Nat × Nat} {l : Launch} {d : Nat} {rec : Nat → List Value → Mem → XA} (hs : XSnd l xmt rec d) (a0 : Option Nat) (a1 : Int32) (M0 : Mem) : Xe S G K l (yX11_casesThatDiffer, cX11_casesThatDiffer, 4, some .int) d 0 [some (va_rf a0), some (.int a1), none, none] [] M0 (c176 rec a0 a1 M0) := by
  unfold c176
  refine x_iconst (v := 0) dX11_casesThatDiffer_0 (by decide) ?_
  refine x_istore_n (lo' := [some (va_rf a0), some (.int a1), some (.int ((0 : Int32))), none]) dX11_casesThatDiffer_1 (by decide) rfl rfl ?_
  refine x_iconst (v := 0) dX11_casesThatDiffer_2 (by decide) ?_
  refine x_istore_n (lo' := [some (va_rf a0), some (.int a1), some (.int ((0 : Int32))), some (.int ((0 : Int32)))]) dX11_casesThatDiffer_3 (by decide) rfl rfl ?_
  refine x_jn (σ := Int32) 59 (fun s1 => [none, none, some (.int s1), none]) (fun s1 => []) (fun s1 => M0) (fun s1 => ?_) (fun j59 hj59 => ?_)
  · refine x_iload_n dX11_casesThatDiffer_59 rfl ?_
    exact x_iret rfl dX11_casesThatDiffer_60
  refine x_weak (by exact ⟨rfl, ⟨rfl, ⟨rfl, ⟨rfl, trivial⟩⟩⟩⟩) (x_lp (σ := Int32 × Int32) 4 (fun s2 => [some (va_rf a0), some (.int a1), some (.int s2.1), some (.int s2.2)]) (fun s2 => []) (fun s2 => M0) (fun s2 j4 hj4 => ?_) 4294967296 ((0 : Int32), (0 : Int32)))
  · refine x_iload_n dX11_casesThatDiffer_4 rfl ?_
    refine x_iload_n dX11_casesThatDiffer_5 rfl ?_
    refine x_icmp_ge (tgt := 59) dX11_casesThatDiffer_6 (by decide) (fun _ => ?_) (fun _ => ?_)
    · exact x_weak (by exact ⟨rfl, trivial⟩) (hj59 s2.1)
    · refine x_aload_n dX11_casesThatDiffer_9 rfl ?_
      refine gfX11_69 rfl dX11_casesThatDiffer_10 (fun x3 => ?_)
      refine x_iconst (v := 0) dX11_casesThatDiffer_13 (by decide) ?_
      refine x_aldg (t := 113) (tn := 8) (by decide) (by decide) rfl rfl dX11_casesThatDiffer_14 (fun x4 => ?_)
      refine x_iload_n dX11_casesThatDiffer_15 rfl ?_
      refine x_iald dX11_casesThatDiffer_16 (fun x5 => ?_)
      refine x_aload_n dX11_casesThatDiffer_17 rfl ?_
      refine gfX11_72 rfl dX11_casesThatDiffer_18 (fun x6 => ?_)
      refine x_iconst (v := 0) dX11_casesThatDiffer_21 (by decide) ?_
      refine x_aldg (t := 113) (tn := 8) (by decide) (by decide) rfl rfl dX11_casesThatDiffer_22 (fun x7 => ?_)
      refine x_iload_n dX11_casesThatDiffer_23 rfl ?_
      refine x_iald dX11_casesThatDiffer_24 (fun x8 => ?_)
      refine x_jn (σ := Int32) 53 (fun s9 => [some (va_rf a0), some (.int a1), some (.int s9), some (.int s2.2)]) (fun s9 => []) (fun s9 => M0) (fun s9 => ?_) (fun j53 hj53 => ?_)
      · refine x_iincN (v := 1) (lo' := fun x10 => [some (va_rf a0), some (.int a1), some (.int s9), some (.int x10)]) (by decide) dX11_casesThatDiffer_53 rfl (by decide) rfl (fun _ => rfl) (fun x10 => ?_)
        refine x_goto (tgt := 4) dX11_casesThatDiffer_56 (by decide) ?_
        exact x_weak (by exact ⟨rfl, ⟨rfl, ⟨rfl, ⟨rfl, trivial⟩⟩⟩⟩) (hj4 (s9, x10))
      refine x_jn (σ := Unit) 47 (fun s11 => [some (va_rf a0), some (.int a1), some (.int s2.1), some (.int s2.2)]) (fun s11 => []) (fun s11 => M0) (fun s11 => ?_) (fun j47 hj47 => ?_)
      · refine x_iload_n dX11_casesThatDiffer_47 rfl ?_
        refine x_iconst (v := 1) dX11_casesThatDiffer_48 (by decide) ?_
        refine x_iload_n dX11_casesThatDiffer_49 rfl ?_
        refine x_ishl dX11_casesThatDiffer_50 ?_
        refine x_ior dX11_casesThatDiffer_51 ?_
        refine x_ltI (fun x12 => ?_)
        refine x_istore_n (lo' := [some (va_rf a0), some (.int a1), some (.int x12), some (.int s2.2)]) dX11_casesThatDiffer_52 (by decide) rfl rfl ?_
        exact x_weak (by exact ⟨rfl, ⟨rfl, ⟨rfl, ⟨rfl, trivial⟩⟩⟩⟩) (hj53 x12)
      refine x_icmp_ne (tgt := 47) dX11_casesThatDiffer_25 (by decide) (fun _ => ?_) (fun _ => ?_)
      · refine x_aload_n dX11_casesThatDiffer_28 rfl ?_
        refine gfX11_69 rfl dX11_casesThatDiffer_29 (fun x13 => ?_)
        refine x_iconst (v := 1) dX11_casesThatDiffer_32 (by decide) ?_
        refine x_aldg (t := 113) (tn := 8) (by decide) (by decide) rfl rfl dX11_casesThatDiffer_33 (fun x14 => ?_)
        refine x_iload_n dX11_casesThatDiffer_34 rfl ?_
        refine x_iald dX11_casesThatDiffer_35 (fun x15 => ?_)
        refine x_aload_n dX11_casesThatDiffer_36 rfl ?_
        refine gfX11_72 rfl dX11_casesThatDiffer_37 (fun x16 => ?_)
        refine x_iconst (v := 1) dX11_casesThatDiffer_40 (by decide) ?_
        refine x_aldg (t := 113) (tn := 8) (by decide) (by decide) rfl rfl dX11_casesThatDiffer_41 (fun x17 => ?_)
        refine x_iload_n dX11_casesThatDiffer_42 rfl ?_
        refine x_iald dX11_casesThatDiffer_43 (fun x18 => ?_)
        refine x_icmp_eq (tgt := 53) dX11_casesThatDiffer_44 (by decide) (fun _ => ?_) (fun _ => ?_)
        · exact x_weak (by exact ⟨rfl, ⟨rfl, ⟨rfl, ⟨rfl, trivial⟩⟩⟩⟩) (hj53 s2.1)
        · exact x_weak (by exact ⟨rfl, ⟨rfl, ⟨rfl, ⟨rfl, trivial⟩⟩⟩⟩) (hj47 ())
      · exact x_weak (by exact ⟨rfl, ⟨rfl, ⟨rfl, ⟨rfl, trivial⟩⟩⟩⟩) (hj47 ())
theorem s176 {l : Launch} {d : Nat} {rec : Nat → List Value → Mem → XA} (hS : Nonempty XS) (hs : XSnd l xmt rec d) : Snd1 l 176 (b176 rec) d := by
  intro as M r M' h0
  unfold b176 at h0
  obtain ⟨a0, l1, e1, h1⟩ := aR_inv h0
  obtain ⟨a1, l2, e2, h2⟩ := aI_inv h1
  obtain ⟨ez, h⟩ := aZ_inv h2
  subst ez
  subst e2
  subst e1
  exact xmet (M := M) (as := [va_rf a0, .int a1]) (lo := [some (va_rf a0), some (.int a1)]) 176 xq176 xm176 (by rw [xargs_rf, xargs_i, xargs_nil]; exact ⟨rfl, ⟨rfl, trivial⟩⟩) (by rw [xargs_rf, xargs_i, xargs_nil]; exact Nat.le_of_ble_eq_true rfl) (fun S G K => x_weak (by exact ⟨rfl, ⟨rfl, trivial⟩⟩) (k176 hs a0 a1 M)) h hS
set_option maxRecDepth 100000 in
def c177_4 (rec : Nat → List Value → Mem → XA) (a0 : Int32) (a1 : Int32) (j24 : Int32 → XA) (j35 : Unit → XA) : (Int32 × Int32) → ((Int32 × Int32) → XA) → XA := fun s3 j4 =>
  if ((16 : Int32)) ≤ s3.2 then (
    j35 ()) else (
    jn (fun (s4 : Int32) =>
      lt (s3.2 + (1 : Int32)) fun (x5 : Int32) =>
      j4 (s4, x5)) fun j29 =>
    if ((a0 >>> (s3.2 &&& 31)) &&& ((1 : Int32))) = ((1 : Int32)) then (
      if s3.1 = a1 then (
        j24 s3.2) else (
        lt (s3.1 + (1 : Int32)) fun (x6 : Int32) =>
        j29 x6)) else (
      j29 s3.1))
set_option maxRecDepth 100000 in
def c177 (rec : Nat → List Value → Mem → XA) (a0 : Int32) (a1 : Int32) (M0 : Mem) : XA :=
  jn (fun (s1 : Int32) =>
    some (.int s1, M0)) fun j24 =>
  jn (fun (s2 : Unit) =>
    some (.int ((-1 : Int32)), M0)) fun j35 =>
  lp (c177_4 rec a0 a1 j24 j35) 4294967296 ((0 : Int32), (0 : Int32))
def b177 (rec : Nat → List Value → Mem → XA) (as : List Value) (M0 : Mem) : XA := aI as fun a0 as => aI as fun a1 as => aZ as (c177 rec a0 a1 M0)
set_option maxRecDepth 100000 in
set_option maxHeartbeats 4000000 in
theorem k177 {S : XS} {G : XG} {K : Nat × Nat} {l : Launch} {d : Nat} {rec : Nat → List Value → Mem → XA} (hs : XSnd l xmt rec d) (a0 : Int32) (a1 : Int32) (M0 : Mem) : Xe S G K l (yX11_caseOfSuite, cX11_caseOfSuite, 4, some .int) d 0 [some (.int a0), some (.int a1), none, none] [] M0 (c177 rec a0 a1 M0) := by
  unfold c177
  refine x_iconst (v := 0) dX11_caseOfSuite_0 (by decide) ?_
  refine x_istore_n (lo' := [some (.int a0), some (.int a1), some (.int ((0 : Int32))), none]) dX11_caseOfSuite_1 (by decide) rfl rfl ?_
  refine x_iconst (v := 0) dX11_caseOfSuite_2 (by decide) ?_
  refine x_istore_n (lo' := [some (.int a0), some (.int a1), some (.int ((0 : Int32))), some (.int ((0 : Int32)))]) dX11_caseOfSuite_3 (by decide) rfl rfl ?_
  refine x_jn (σ := Int32) 24 (fun s1 => [none, none, none, some (.int s1)]) (fun s1 => []) (fun s1 => M0) (fun s1 => ?_) (fun j24 hj24 => ?_)
  · refine x_iload_n dX11_caseOfSuite_24 rfl ?_
    exact x_iret rfl dX11_caseOfSuite_25
  refine x_jn (σ := Unit) 35 (fun s2 => [none, none, none, none]) (fun s2 => []) (fun s2 => M0) (fun s2 => ?_) (fun j35 hj35 => ?_)
  · refine x_iconst (v := -1) dX11_caseOfSuite_35 (by decide) ?_
    exact x_iret rfl dX11_caseOfSuite_36
  refine x_weak (by exact ⟨rfl, ⟨rfl, ⟨rfl, ⟨rfl, trivial⟩⟩⟩⟩) (x_lp (σ := Int32 × Int32) 4 (fun s3 => [some (.int a0), some (.int a1), some (.int s3.1), some (.int s3.2)]) (fun s3 => []) (fun s3 => M0) (fun s3 j4 hj4 => ?_) 4294967296 ((0 : Int32), (0 : Int32)))
  · refine x_iload_n dX11_caseOfSuite_4 rfl ?_
    refine x_bipush (v := 16) dX11_caseOfSuite_5 (by decide) ?_
    refine x_icmp_ge (tgt := 35) dX11_caseOfSuite_7 (by decide) (fun _ => ?_) (fun _ => ?_)
    · exact x_weak (by exact trivial) (hj35 ())
    · refine x_iload_n dX11_caseOfSuite_10 rfl ?_
      refine x_iload_n dX11_caseOfSuite_11 rfl ?_
      refine x_ishr dX11_caseOfSuite_12 ?_
      refine x_iconst (v := 1) dX11_caseOfSuite_13 (by decide) ?_
      refine x_iand dX11_caseOfSuite_14 ?_
      refine x_iconst (v := 1) dX11_caseOfSuite_15 (by decide) ?_
      refine x_jn (σ := Int32) 29 (fun s4 => [some (.int a0), some (.int a1), some (.int s4), some (.int s3.2)]) (fun s4 => []) (fun s4 => M0) (fun s4 => ?_) (fun j29 hj29 => ?_)
      · refine x_iincN (v := 1) (lo' := fun x5 => [some (.int a0), some (.int a1), some (.int s4), some (.int x5)]) (by decide) dX11_caseOfSuite_29 rfl (by decide) rfl (fun _ => rfl) (fun x5 => ?_)
        refine x_goto (tgt := 4) dX11_caseOfSuite_32 (by decide) ?_
        exact x_weak (by exact ⟨rfl, ⟨rfl, ⟨rfl, ⟨rfl, trivial⟩⟩⟩⟩) (hj4 (s4, x5))
      refine x_icmp_ne (tgt := 29) dX11_caseOfSuite_16 (by decide) (fun _ => ?_) (fun _ => ?_)
      · refine x_iload_n dX11_caseOfSuite_19 rfl ?_
        refine x_iload_n dX11_caseOfSuite_20 rfl ?_
        refine x_icmp_ne (tgt := 26) dX11_caseOfSuite_21 (by decide) (fun _ => ?_) (fun _ => ?_)
        · exact x_weak (by exact ⟨rfl, trivial⟩) (hj24 s3.2)
        · refine x_iincN (v := 1) (lo' := fun x6 => [some (.int a0), some (.int a1), some (.int x6), some (.int s3.2)]) (by decide) dX11_caseOfSuite_26 rfl (by decide) rfl (fun _ => rfl) (fun x6 => ?_)
          exact x_weak (by exact ⟨rfl, ⟨rfl, ⟨rfl, ⟨rfl, trivial⟩⟩⟩⟩) (hj29 x6)
      · exact x_weak (by exact ⟨rfl, ⟨rfl, ⟨rfl, ⟨rfl, trivial⟩⟩⟩⟩) (hj29 s3.1)
theorem s177 {l : Launch} {d : Nat} {rec : Nat → List Value → Mem → XA} (hS : Nonempty XS) (hs : XSnd l xmt rec d) : Snd1 l 177 (b177 rec) d := by
  intro as M r M' h0
  unfold b177 at h0
  obtain ⟨a0, l1, e1, h1⟩ := aI_inv h0
  obtain ⟨a1, l2, e2, h2⟩ := aI_inv h1
  obtain ⟨ez, h⟩ := aZ_inv h2
  subst ez
  subst e2
  subst e1
  exact xmet (M := M) (as := [.int a0, .int a1]) (lo := [some (.int a0), some (.int a1)]) 177 xq177 xm177 (by rw [xargs_i, xargs_i, xargs_nil]; exact ⟨rfl, ⟨rfl, trivial⟩⟩) (by rw [xargs_i, xargs_i, xargs_nil]; exact Nat.le_of_ble_eq_true rfl) (fun S G K => x_weak (by exact ⟨rfl, ⟨rfl, trivial⟩⟩) (k177 hs a0 a1 M)) h hS
set_option maxRecDepth 100000 in
def c178_61 (rec : Nat → List Value → Mem → XA) (a0 : Option Nat) (a1 : Option Nat) (j113 : Int32 × Mem → XA) (x12 : Int32) : (Int32 × Int32 × Mem) → ((Int32 × Int32 × Mem) → XA) → XA := fun s19 j61 =>
  gtI (8, 9) s19.2.2 a1 4 fun x20 =>
  if x20 ≤ s19.2.1 then (
    j113 (s19.1, s19.2.2)) else (
    if ((4 : Int32)) ≤ s19.2.1 then (
      j113 (s19.1, s19.2.2)) else (
      lt ((s19.1 * ((1103515245 : Int32))) + ((12345 : Int32))) fun (x21 : Int32) =>
      gtP (12, 19) s19.2.2 a0 11 fun x22 =>
      if ((((2 : Int32)) * x12) + ((1 : Int32))) = 0 then none else
      asI 100 s19.2.2 x22 s19.2.1 (((xrem ((Int32.toUInt32 x21 >>> (Int32.toUInt32 ((16 : Int32)) &&& Int32.toUInt32 31)).toInt32) ((((2 : Int32)) * x12) + ((1 : Int32)))) - x12)) fun M23 =>
      lt (s19.2.1 + (1 : Int32)) fun (x24 : Int32) =>
      j61 (x21, x24, M23)))
set_option maxRecDepth 100000 in
def c178_28 (rec : Nat → List Value → Mem → XA) (a0 : Option Nat) (a1 : Option Nat) (a2 : Int32) (j133 : Int32 × Mem → XA) : (Int32 × Int32 × Int32 × Mem) → ((Int32 × Int32 × Int32 × Mem) → XA) → XA := fun s8 j28 =>
  if a2 ≤ s8.2.2.1 then (
    j133 (s8.2.1, s8.2.2.2)) else (
    if s8.2.1 = 0 then (
      j133 (s8.2.1, s8.2.2.2)) else (
      gtP (12, 19) s8.2.2.2 a0 2 fun x9 =>
      vC (4, 22) s8.2.2.2 x9 <|
      cI (rec 22 [va_rf x9] s8.2.2.2) fun x11 M10 =>
      if x11 = 0 then (
        lt (if ((60 : Int32)) < s8.2.2.1 then ((60 : Int32)) else s8.2.2.1) fun x12 =>
        jn (fun (s13 : Int32 × Mem) =>
          gtP (12, 19) s13.2 a0 2 fun x14 =>
          gtP (12, 19) s13.2 a0 11 fun x15 =>
          vC (4, 22) s13.2 x14 <|
          cI (rec 27 [va_rf x14, va_rf a1, va_rf x15] s13.2) fun x17 M16 =>
          lt (s8.2.2.1 + (1 : Int32)) fun (x18 : Int32) =>
          j28 (s13.1, x17, x18, M16)) fun j113 =>
        lp (c178_61 rec a0 a1 j113 x12) 4294967296 (s8.1, (0 : Int32), M10)) else (
        j133 (s8.2.1, M10))))
set_option maxRecDepth 100000 in
def c178 (rec : Nat → List Value → Mem → XA) (a0 : Option Nat) (a1 : Option Nat) (a2 : Int32) (M0 : Mem) : XA :=
  gtP (12, 19) M0 a0 2 fun x1 =>
  gtI (4, 22) M0 x1 2 fun x2 =>
  gtP (12, 19) M0 a0 11 fun x3 =>
  asI 100 M0 x3 ((4 : Int32)) (((0 : Int32))) fun M4 =>
  gtP (12, 19) M4 a0 11 fun x5 =>
  asI 100 M4 x5 ((5 : Int32)) (((0 : Int32))) fun M6 =>
  jn (fun (s7 : Int32 × Mem) =>
    rtZ s7.1 s7.2) fun j133 =>
  lp (c178_28 rec a0 a1 a2 j133) 4294967296 (x2, (1 : Int32), (0 : Int32), M6)
def b178 (rec : Nat → List Value → Mem → XA) (as : List Value) (M0 : Mem) : XA := aR as fun a0 as => aR as fun a1 as => aI as fun a2 as => aZ as (c178 rec a0 a1 a2 M0)
set_option maxRecDepth 100000 in
set_option maxHeartbeats 4000000 in
theorem k178 {S : XS} {G : XG} {K : Nat × Nat} {l : Launch} {d : Nat} {rec : Nat → List Value → Mem → XA} (hs : XSnd l xmt rec d) (a0 : Option Nat) (a1 : Option Nat) (a2 : Int32) (M0 : Mem) : Xe S G K l (yX11_holdsOften, cX11_holdsOften, 8, some .boolean) d 0 [some (va_rf a0), some (va_rf a1), some (.int a2), none, none, none, none, none] [] M0 (c178 rec a0 a1 a2 M0) := by
  unfold c178
  refine x_aload_n dX11_holdsOften_0 rfl ?_
  refine gfX11_26 rfl dX11_holdsOften_1 (fun x1 => ?_)
  refine gfX11_186 rfl dX11_holdsOften_4 (fun x2 => ?_)
  refine x_istore_n (lo' := [some (va_rf a0), some (va_rf a1), some (.int a2), some (.int x2), none, none, none, none]) dX11_holdsOften_7 (by decide) rfl rfl ?_
  refine x_aload_n dX11_holdsOften_8 rfl ?_
  refine gfX11_50 rfl dX11_holdsOften_9 (fun x3 => ?_)
  refine x_iconst (v := 4) dX11_holdsOften_12 (by decide) ?_
  refine x_iconst (v := 0) dX11_holdsOften_13 (by decide) ?_
  refine x_iast dX11_holdsOften_14 (fun M4 => ?_)
  refine x_aload_n dX11_holdsOften_15 rfl ?_
  refine gfX11_50 rfl dX11_holdsOften_16 (fun x5 => ?_)
  refine x_iconst (v := 5) dX11_holdsOften_19 (by decide) ?_
  refine x_iconst (v := 0) dX11_holdsOften_20 (by decide) ?_
  refine x_iast dX11_holdsOften_21 (fun M6 => ?_)
  refine x_iconst (v := 1) dX11_holdsOften_22 (by decide) ?_
  refine x_istore (lo' := [some (va_rf a0), some (va_rf a1), some (.int a2), some (.int x2), some (.int ((1 : Int32))), none, none, none]) dX11_holdsOften_23 (by decide) rfl rfl ?_
  refine x_iconst (v := 0) dX11_holdsOften_25 (by decide) ?_
  refine x_istore (lo' := [some (va_rf a0), some (va_rf a1), some (.int a2), some (.int x2), some (.int ((1 : Int32))), some (.int ((0 : Int32))), none, none]) dX11_holdsOften_26 (by decide) rfl rfl ?_
  refine x_jn (σ := Int32 × Mem) 133 (fun s7 => [none, none, none, none, some (.int s7.1), none, none, none]) (fun s7 => []) (fun s7 => s7.2) (fun s7 => ?_) (fun j133 hj133 => ?_)
  · refine x_iload dX11_holdsOften_133 rfl ?_
    exact x_zret rfl dX11_holdsOften_135
  refine x_weak (by exact ⟨rfl, ⟨rfl, ⟨rfl, ⟨rfl, ⟨rfl, ⟨rfl, trivial⟩⟩⟩⟩⟩⟩) (x_lp (σ := Int32 × Int32 × Int32 × Mem) 28 (fun s8 => [some (va_rf a0), some (va_rf a1), some (.int a2), some (.int s8.1), some (.int s8.2.1), some (.int s8.2.2.1), none, none]) (fun s8 => []) (fun s8 => s8.2.2.2) (fun s8 j28 hj28 => ?_) 4294967296 (x2, (1 : Int32), (0 : Int32), M6))
  · refine x_iload dX11_holdsOften_28 rfl ?_
    refine x_iload_n dX11_holdsOften_30 rfl ?_
    refine x_icmp_ge (tgt := 133) dX11_holdsOften_31 (by decide) (fun _ => ?_) (fun _ => ?_)
    · exact x_weak (by exact ⟨rfl, trivial⟩) (hj133 (s8.2.1, s8.2.2.2))
    · refine x_iload dX11_holdsOften_34 rfl ?_
      refine x_if_eq (tgt := 133) dX11_holdsOften_36 (by decide) (fun _ => ?_) (fun _ => ?_)
      · exact x_weak (by exact ⟨rfl, trivial⟩) (hj133 (s8.2.1, s8.2.2.2))
      · refine x_aload_n dX11_holdsOften_39 rfl ?_
        refine gfX11_26 rfl dX11_holdsOften_40 (fun x9 => ?_)
        refine cmX11_294 rfl hs (Nat.le_of_ble_eq_true rfl) dX11_holdsOften_43 (fun x11 M10 => ?_)
        refine x_if_ne (tgt := 133) dX11_holdsOften_46 (by decide) (fun _ => ?_) (fun _ => ?_)
        · refine x_iload dX11_holdsOften_49 rfl ?_
          refine x_bipush (v := 60) dX11_holdsOften_51 (by decide) ?_
          refine x_mmin lk_methodLink_X11_440 w_mmin1 w_mi w_mmin2 (Nat.le_of_ble_eq_true rfl) dX11_holdsOften_53 (fun x12 => ?_)
          refine x_istore (lo' := [some (va_rf a0), some (va_rf a1), some (.int a2), some (.int s8.1), some (.int s8.2.1), some (.int s8.2.2.1), some (.int x12), none]) dX11_holdsOften_56 (by decide) rfl rfl ?_
          refine x_iconst (v := 0) dX11_holdsOften_58 (by decide) ?_
          refine x_istore (lo' := [some (va_rf a0), some (va_rf a1), some (.int a2), some (.int s8.1), some (.int s8.2.1), some (.int s8.2.2.1), some (.int x12), some (.int ((0 : Int32)))]) dX11_holdsOften_59 (by decide) rfl rfl ?_
          refine x_jn (σ := Int32 × Mem) 113 (fun s13 => [some (va_rf a0), some (va_rf a1), some (.int a2), some (.int s13.1), none, some (.int s8.2.2.1), none, none]) (fun s13 => []) (fun s13 => s13.2) (fun s13 => ?_) (fun j113 hj113 => ?_)
          · refine x_aload_n dX11_holdsOften_113 rfl ?_
            refine gfX11_26 rfl dX11_holdsOften_114 (fun x14 => ?_)
            refine x_aload_n dX11_holdsOften_117 rfl ?_
            refine x_aload_n dX11_holdsOften_118 rfl ?_
            refine gfX11_50 rfl dX11_holdsOften_119 (fun x15 => ?_)
            refine cmX11_446 rfl hs (Nat.le_of_ble_eq_true rfl) dX11_holdsOften_122 (fun x17 M16 => ?_)
            refine x_istore (lo' := [some (va_rf a0), some (va_rf a1), some (.int a2), some (.int s13.1), some (.int x17), some (.int s8.2.2.1), none, none]) dX11_holdsOften_125 (by decide) rfl rfl ?_
            refine x_iincN (v := 1) (lo' := fun x18 => [some (va_rf a0), some (va_rf a1), some (.int a2), some (.int s13.1), some (.int x17), some (.int x18), none, none]) (by decide) dX11_holdsOften_127 rfl (by decide) rfl (fun _ => rfl) (fun x18 => ?_)
            refine x_goto (tgt := 28) dX11_holdsOften_130 (by decide) ?_
            exact x_weak (by exact ⟨rfl, ⟨rfl, ⟨rfl, ⟨rfl, ⟨rfl, ⟨rfl, trivial⟩⟩⟩⟩⟩⟩) (hj28 (s13.1, x17, x18, M16))
          refine x_weak (by exact ⟨rfl, ⟨rfl, ⟨rfl, ⟨rfl, ⟨rfl, ⟨rfl, ⟨rfl, trivial⟩⟩⟩⟩⟩⟩⟩) (x_lp (σ := Int32 × Int32 × Mem) 61 (fun s19 => [some (va_rf a0), some (va_rf a1), some (.int a2), some (.int s19.1), none, some (.int s8.2.2.1), some (.int x12), some (.int s19.2.1)]) (fun s19 => []) (fun s19 => s19.2.2) (fun s19 j61 hj61 => ?_) 4294967296 (s8.1, (0 : Int32), M10))
          · refine x_iload dX11_holdsOften_61 rfl ?_
            refine x_aload_n dX11_holdsOften_63 rfl ?_
            refine gfX11_146 rfl dX11_holdsOften_64 (fun x20 => ?_)
            refine x_icmp_ge (tgt := 113) dX11_holdsOften_67 (by decide) (fun _ => ?_) (fun _ => ?_)
            · exact x_weak (by exact ⟨rfl, ⟨rfl, ⟨rfl, ⟨rfl, ⟨rfl, trivial⟩⟩⟩⟩⟩) (hj113 (s19.1, s19.2.2))
            · refine x_iload dX11_holdsOften_70 rfl ?_
              refine x_iconst (v := 4) dX11_holdsOften_72 (by decide) ?_
              refine x_icmp_ge (tgt := 113) dX11_holdsOften_73 (by decide) (fun _ => ?_) (fun _ => ?_)
              · exact x_weak (by exact ⟨rfl, ⟨rfl, ⟨rfl, ⟨rfl, ⟨rfl, trivial⟩⟩⟩⟩⟩) (hj113 (s19.1, s19.2.2))
              · refine x_iload_n dX11_holdsOften_76 rfl ?_
                refine x_ldcw (v := 1103515245) dX11_holdsOften_77 lk_constant_X11_445 ?_
                refine x_imul dX11_holdsOften_80 ?_
                refine x_sipush (v := 12345) dX11_holdsOften_81 (by decide) ?_
                refine x_iadd dX11_holdsOften_84 ?_
                refine x_ltI (fun x21 => ?_)
                refine x_istore_n (lo' := [some (va_rf a0), some (va_rf a1), some (.int a2), some (.int x21), none, some (.int s8.2.2.1), some (.int x12), some (.int s19.2.1)]) dX11_holdsOften_85 (by decide) rfl rfl ?_
                refine x_aload_n dX11_holdsOften_86 rfl ?_
                refine gfX11_50 rfl dX11_holdsOften_87 (fun x22 => ?_)
                refine x_iload dX11_holdsOften_90 rfl ?_
                refine x_iload_n dX11_holdsOften_92 rfl ?_
                refine x_bipush (v := 16) dX11_holdsOften_93 (by decide) ?_
                refine x_iushr dX11_holdsOften_95 ?_
                refine x_iconst (v := 2) dX11_holdsOften_96 (by decide) ?_
                refine x_iload dX11_holdsOften_97 rfl ?_
                refine x_imul dX11_holdsOften_99 ?_
                refine x_iconst (v := 1) dX11_holdsOften_100 (by decide) ?_
                refine x_iadd dX11_holdsOften_101 ?_
                refine x_irem dX11_holdsOften_102 (fun _ => ?_)
                refine x_iload dX11_holdsOften_103 rfl ?_
                refine x_isub dX11_holdsOften_105 ?_
                refine x_iast dX11_holdsOften_106 (fun M23 => ?_)
                refine x_iincN (v := 1) (lo' := fun x24 => [some (va_rf a0), some (va_rf a1), some (.int a2), some (.int x21), none, some (.int s8.2.2.1), some (.int x12), some (.int x24)]) (by decide) dX11_holdsOften_107 rfl (by decide) rfl (fun _ => rfl) (fun x24 => ?_)
                refine x_goto (tgt := 61) dX11_holdsOften_110 (by decide) ?_
                exact x_weak (by exact ⟨rfl, ⟨rfl, ⟨rfl, ⟨rfl, ⟨rfl, ⟨rfl, ⟨rfl, trivial⟩⟩⟩⟩⟩⟩⟩) (hj61 (x21, x24, M23))
        · exact x_weak (by exact ⟨rfl, trivial⟩) (hj133 (s8.2.1, M10))
theorem s178 {l : Launch} {d : Nat} {rec : Nat → List Value → Mem → XA} (hS : Nonempty XS) (hs : XSnd l xmt rec d) : Snd1 l 178 (b178 rec) d := by
  intro as M r M' h0
  unfold b178 at h0
  obtain ⟨a0, l1, e1, h1⟩ := aR_inv h0
  obtain ⟨a1, l2, e2, h2⟩ := aR_inv h1
  obtain ⟨a2, l3, e3, h3⟩ := aI_inv h2
  obtain ⟨ez, h⟩ := aZ_inv h3
  subst ez
  subst e3
  subst e2
  subst e1
  exact xmet (M := M) (as := [va_rf a0, va_rf a1, .int a2]) (lo := [some (va_rf a0), some (va_rf a1), some (.int a2)]) 178 xq178 xm178 (by rw [xargs_rf, xargs_rf, xargs_i, xargs_nil]; exact ⟨rfl, ⟨rfl, ⟨rfl, trivial⟩⟩⟩) (by rw [xargs_rf, xargs_rf, xargs_i, xargs_nil]; exact Nat.le_of_ble_eq_true rfl) (fun S G K => x_weak (by exact ⟨rfl, ⟨rfl, ⟨rfl, trivial⟩⟩⟩) (k178 hs a0 a1 a2 M)) h hS
set_option maxRecDepth 100000 in
def c179_31 (rec : Nat → List Value → Mem → XA) (a0 : Option Nat) (a1 : Option Nat) (j65 : Mem → XA) (j73 : Mem → XA) (s3 : Int32 × Mem) (x6 : Int32) (x8 : Int32) : (Int32 × Mem) → ((Int32 × Mem) → XA) → XA := fun s13 j31 =>
  if x8 ≤ s13.1 then (
    j73 s13.2) else (
    gtP (12, 19) s13.2 a0 11 fun x14 =>
    cI (rec 181 [.int x6, .int s13.1] s13.2) fun x16 M15 =>
    asI 100 M15 x14 s3.1 x16 fun M17 =>
    gtP (12, 19) M17 a0 2 fun x18 =>
    gtP (12, 19) M17 a0 11 fun x19 =>
    vC (4, 22) M17 x18 <|
    cI (rec 27 [va_rf x18, va_rf a1, va_rf x19] M17) fun x21 M20 =>
    if x21 = 0 then (
      j65 M20) else (
      lt (s13.1 + (1 : Int32)) fun (x22 : Int32) =>
      j31 (x22, M20)))
set_option maxRecDepth 100000 in
def c179_2 (rec : Nat → List Value → Mem → XA) (a0 : Option Nat) (a1 : Option Nat) (j65 : Mem → XA) (j86 : Mem → XA) : (Int32 × Mem) → ((Int32 × Mem) → XA) → XA := fun s3 j2 =>
  gtI (8, 9) s3.2 a1 4 fun x4 =>
  if x4 ≤ s3.1 then (
    j86 s3.2) else (
    if ((4 : Int32)) ≤ s3.1 then (
      j86 s3.2) else (
      gtP (12, 19) s3.2 a0 11 fun x5 =>
      alI 100 s3.2 x5 s3.1 fun x6 =>
      cI (rec 180 [.int x6] s3.2) fun x8 M7 =>
      jn (fun (s9 : Mem) =>
        gtP (12, 19) s9 a0 11 fun x10 =>
        asI 100 s9 x10 s3.1 x6 fun M11 =>
        lt (s3.1 + (1 : Int32)) fun (x12 : Int32) =>
        j2 (x12, M11)) fun j73 =>
      lp (c179_31 rec a0 a1 j65 j73 s3 x6 x8) 4294967296 ((0 : Int32), M7)))
set_option maxRecDepth 100000 in
def c179 (rec : Nat → List Value → Mem → XA) (a0 : Option Nat) (a1 : Option Nat) (M0 : Mem) : XA :=
  jn (fun (s1 : Mem) =>
    rtZ ((1 : Int32)) s1) fun j65 =>
  jn (fun (s2 : Mem) =>
    rtZ ((0 : Int32)) s2) fun j86 =>
  lp (c179_2 rec a0 a1 j65 j86) 4294967296 ((0 : Int32), M0)
def b179 (rec : Nat → List Value → Mem → XA) (as : List Value) (M0 : Mem) : XA := aR as fun a0 as => aR as fun a1 as => aZ as (c179 rec a0 a1 M0)
set_option maxRecDepth 100000 in
set_option maxHeartbeats 4000000 in
theorem k179 {S : XS} {G : XG} {K : Nat × Nat} {l : Launch} {d : Nat} {rec : Nat → List Value → Mem → XA} (hs : XSnd l xmt rec d) (a0 : Option Nat) (a1 : Option Nat) (M0 : Mem) : Xe S G K l (yX11_takesSmaller, cX11_takesSmaller, 6, some .boolean) d 0 [some (va_rf a0), some (va_rf a1), none, none, none, none] [] M0 (c179 rec a0 a1 M0) := by
  unfold c179
  refine x_iconst (v := 0) dX11_takesSmaller_0 (by decide) ?_
  refine x_istore_n (lo' := [some (va_rf a0), some (va_rf a1), some (.int ((0 : Int32))), none, none, none]) dX11_takesSmaller_1 (by decide) (xok_r rfl) rfl ?_
  refine x_jn (σ := Mem) 65 (fun s1 => [none, none, none, none, none, none]) (fun s1 => []) (fun s1 => s1) (fun s1 => ?_) (fun j65 hj65 => ?_)
  · refine x_iconst (v := 1) dX11_takesSmaller_65 (by decide) ?_
    exact x_zret rfl dX11_takesSmaller_66
  refine x_jn (σ := Mem) 86 (fun s2 => [none, none, none, none, none, none]) (fun s2 => []) (fun s2 => s2) (fun s2 => ?_) (fun j86 hj86 => ?_)
  · refine x_iconst (v := 0) dX11_takesSmaller_86 (by decide) ?_
    exact x_zret rfl dX11_takesSmaller_87
  refine x_weak (by exact ⟨rfl, ⟨rfl, ⟨rfl, trivial⟩⟩⟩) (x_lp (σ := Int32 × Mem) 2 (fun s3 => [some (va_rf a0), some (va_rf a1), some (.int s3.1), none, none, none]) (fun s3 => []) (fun s3 => s3.2) (fun s3 j2 hj2 => ?_) 4294967296 ((0 : Int32), M0))
  · refine x_iload_n dX11_takesSmaller_2 rfl ?_
    refine x_aload_n dX11_takesSmaller_3 rfl ?_
    refine gfX11_146 rfl dX11_takesSmaller_4 (fun x4 => ?_)
    refine x_icmp_ge (tgt := 86) dX11_takesSmaller_7 (by decide) (fun _ => ?_) (fun _ => ?_)
    · exact x_weak (by exact trivial) (hj86 s3.2)
    · refine x_iload_n dX11_takesSmaller_10 rfl ?_
      refine x_iconst (v := 4) dX11_takesSmaller_11 (by decide) ?_
      refine x_icmp_ge (tgt := 86) dX11_takesSmaller_12 (by decide) (fun _ => ?_) (fun _ => ?_)
      · exact x_weak (by exact trivial) (hj86 s3.2)
      · refine x_aload_n dX11_takesSmaller_15 rfl ?_
        refine gfX11_50 rfl dX11_takesSmaller_16 (fun x5 => ?_)
        refine x_iload_n dX11_takesSmaller_19 rfl ?_
        refine x_iald dX11_takesSmaller_20 (fun x6 => ?_)
        refine x_istore_n (lo' := [some (va_rf a0), some (va_rf a1), some (.int s3.1), some (.int x6), none, none]) dX11_takesSmaller_21 (by decide) rfl rfl ?_
        refine x_iload_n dX11_takesSmaller_22 rfl ?_
        refine cmX11_332 rfl hs (Nat.le_of_ble_eq_true rfl) dX11_takesSmaller_23 (fun x8 M7 => ?_)
        refine x_istore (lo' := [some (va_rf a0), some (va_rf a1), some (.int s3.1), some (.int x6), some (.int x8), none]) dX11_takesSmaller_26 (by decide) rfl rfl ?_
        refine x_iconst (v := 0) dX11_takesSmaller_28 (by decide) ?_
        refine x_istore (lo' := [some (va_rf a0), some (va_rf a1), some (.int s3.1), some (.int x6), some (.int x8), some (.int ((0 : Int32)))]) dX11_takesSmaller_29 (by decide) rfl rfl ?_
        refine x_jn (σ := Mem) 73 (fun s9 => [some (va_rf a0), some (va_rf a1), some (.int s3.1), some (.int x6), none, none]) (fun s9 => []) (fun s9 => s9) (fun s9 => ?_) (fun j73 hj73 => ?_)
        · refine x_aload_n dX11_takesSmaller_73 rfl ?_
          refine gfX11_50 rfl dX11_takesSmaller_74 (fun x10 => ?_)
          refine x_iload_n dX11_takesSmaller_77 rfl ?_
          refine x_iload_n dX11_takesSmaller_78 rfl ?_
          refine x_iast dX11_takesSmaller_79 (fun M11 => ?_)
          refine x_iincN (v := 1) (lo' := fun x12 => [some (va_rf a0), some (va_rf a1), some (.int x12), some (.int x6), none, none]) (by decide) dX11_takesSmaller_80 rfl (by decide) (xok_r rfl) (fun _ => rfl) (fun x12 => ?_)
          refine x_goto (tgt := 2) dX11_takesSmaller_83 (by decide) ?_
          exact x_weak (by exact ⟨rfl, ⟨rfl, ⟨rfl, trivial⟩⟩⟩) (hj2 (x12, M11))
        refine x_weak (by exact ⟨rfl, ⟨rfl, ⟨rfl, ⟨rfl, ⟨rfl, ⟨rfl, trivial⟩⟩⟩⟩⟩⟩) (x_lp (σ := Int32 × Mem) 31 (fun s13 => [some (va_rf a0), some (va_rf a1), some (.int s3.1), some (.int x6), some (.int x8), some (.int s13.1)]) (fun s13 => []) (fun s13 => s13.2) (fun s13 j31 hj31 => ?_) 4294967296 ((0 : Int32), M7))
        · refine x_iload dX11_takesSmaller_31 rfl ?_
          refine x_iload dX11_takesSmaller_33 rfl ?_
          refine x_icmp_ge (tgt := 73) dX11_takesSmaller_35 (by decide) (fun _ => ?_) (fun _ => ?_)
          · exact x_weak (by exact ⟨rfl, ⟨rfl, ⟨rfl, ⟨rfl, trivial⟩⟩⟩⟩) (hj73 s13.2)
          · refine x_aload_n dX11_takesSmaller_38 rfl ?_
            refine gfX11_50 rfl dX11_takesSmaller_39 (fun x14 => ?_)
            refine x_iload_n dX11_takesSmaller_42 rfl ?_
            refine x_iload_n dX11_takesSmaller_43 rfl ?_
            refine x_iload dX11_takesSmaller_44 rfl ?_
            refine cmX11_335 rfl hs (Nat.le_of_ble_eq_true rfl) dX11_takesSmaller_46 (fun x16 M15 => ?_)
            refine x_iast dX11_takesSmaller_49 (fun M17 => ?_)
            refine x_aload_n dX11_takesSmaller_50 rfl ?_
            refine gfX11_26 rfl dX11_takesSmaller_51 (fun x18 => ?_)
            refine x_aload_n dX11_takesSmaller_54 rfl ?_
            refine x_aload_n dX11_takesSmaller_55 rfl ?_
            refine gfX11_50 rfl dX11_takesSmaller_56 (fun x19 => ?_)
            refine cmX11_446 rfl hs (Nat.le_of_ble_eq_true rfl) dX11_takesSmaller_59 (fun x21 M20 => ?_)
            refine x_if_ne (tgt := 67) dX11_takesSmaller_62 (by decide) (fun _ => ?_) (fun _ => ?_)
            · exact x_weak (by exact trivial) (hj65 M20)
            · refine x_iincN (v := 1) (lo' := fun x22 => [some (va_rf a0), some (va_rf a1), some (.int s3.1), some (.int x6), some (.int x8), some (.int x22)]) (by decide) dX11_takesSmaller_67 rfl (by decide) rfl (fun _ => rfl) (fun x22 => ?_)
              refine x_goto (tgt := 31) dX11_takesSmaller_70 (by decide) ?_
              exact x_weak (by exact ⟨rfl, ⟨rfl, ⟨rfl, ⟨rfl, ⟨rfl, ⟨rfl, trivial⟩⟩⟩⟩⟩⟩) (hj31 (x22, M20))
theorem s179 {l : Launch} {d : Nat} {rec : Nat → List Value → Mem → XA} (hS : Nonempty XS) (hs : XSnd l xmt rec d) : Snd1 l 179 (b179 rec) d := by
  intro as M r M' h0
  unfold b179 at h0
  obtain ⟨a0, l1, e1, h1⟩ := aR_inv h0
  obtain ⟨a1, l2, e2, h2⟩ := aR_inv h1
  obtain ⟨ez, h⟩ := aZ_inv h2
  subst ez
  subst e2
  subst e1
  exact xmet (M := M) (as := [va_rf a0, va_rf a1]) (lo := [some (va_rf a0), some (va_rf a1)]) 179 xq179 xm179 (by rw [xargs_rf, xargs_rf, xargs_nil]; exact ⟨rfl, ⟨rfl, trivial⟩⟩) (by rw [xargs_rf, xargs_rf, xargs_nil]; exact Nat.le_of_ble_eq_true rfl) (fun S G K => x_weak (by exact ⟨rfl, ⟨rfl, trivial⟩⟩) (k179 hs a0 a1 M)) h hS
set_option maxRecDepth 100000 in
def c180 (rec : Nat → List Value → Mem → XA) (a0 : Int32) (M0 : Mem) : XA :=
  if a0 = 0 then (
    some (.int ((0 : Int32)), M0)) else (
    lt (if 0 < a0.toInt64 then a0.toInt64 else -a0.toInt64) fun x1 =>
    cI (rec 316 [.long x1] M0) fun x3 M2 =>
    lt (((63 : Int32)) - x3) fun (x4 : Int32) =>
    jn (fun (s5 : Int32) =>
      some (.int (s5 + x4), M2)) fun j27 =>
    if 0 ≤ a0 then (
      j27 ((1 : Int32))) else (
      j27 ((2 : Int32))))
def b180 (rec : Nat → List Value → Mem → XA) (as : List Value) (M0 : Mem) : XA := aI as fun a0 as => aZ as (c180 rec a0 M0)
set_option maxRecDepth 100000 in
set_option maxHeartbeats 4000000 in
theorem k180 {S : XS} {G : XG} {K : Nat × Nat} {l : Launch} {d : Nat} {rec : Nat → List Value → Mem → XA} (hs : XSnd l xmt rec d) (a0 : Int32) (M0 : Mem) : Xe S G K l (yX11_smallerCount, cX11_smallerCount, 2, some .int) d 0 [some (.int a0), none] [] M0 (c180 rec a0 M0) := by
  unfold c180
  refine x_iload_n dX11_smallerCount_0 rfl ?_
  refine x_if_ne (tgt := 6) dX11_smallerCount_1 (by decide) (fun _ => ?_) (fun _ => ?_)
  · refine x_iconst (v := 0) dX11_smallerCount_4 (by decide) ?_
    exact x_iret rfl dX11_smallerCount_5
  · refine x_bipush (v := 63) dX11_smallerCount_6 (by decide) ?_
    refine x_iload_n dX11_smallerCount_8 rfl ?_
    refine x_i2l dX11_smallerCount_9 ?_
    refine x_mabs lk_methodLink_X11_450 w_ma1 w_mi w_ma2 (Nat.le_of_ble_eq_true rfl) dX11_smallerCount_10 (fun x1 => ?_)
    refine cmX11_420 rfl hs (Nat.le_of_ble_eq_true rfl) dX11_smallerCount_13 (fun x3 M2 => ?_)
    refine x_isub dX11_smallerCount_16 ?_
    refine x_ltI (fun x4 => ?_)
    refine x_istore_n (lo' := [some (.int a0), some (.int x4)]) dX11_smallerCount_17 (by decide) rfl rfl ?_
    refine x_iload_n dX11_smallerCount_18 rfl ?_
    refine x_jn (σ := Int32) 27 (fun s5 => [none, some (.int x4)]) (fun s5 => [.int s5]) (fun s5 => M2) (fun s5 => ?_) (fun j27 hj27 => ?_)
    · refine x_iload_n dX11_smallerCount_27 rfl ?_
      refine x_iadd dX11_smallerCount_28 ?_
      exact x_iret rfl dX11_smallerCount_29
    refine x_if_ge (tgt := 26) dX11_smallerCount_19 (by decide) (fun _ => ?_) (fun _ => ?_)
    · refine x_iconst (v := 1) dX11_smallerCount_26 (by decide) ?_
      exact x_weak (by exact ⟨rfl, trivial⟩) (hj27 ((1 : Int32)))
    · refine x_iconst (v := 2) dX11_smallerCount_22 (by decide) ?_
      refine x_goto (tgt := 27) dX11_smallerCount_23 (by decide) ?_
      exact x_weak (by exact ⟨rfl, trivial⟩) (hj27 ((2 : Int32)))
theorem s180 {l : Launch} {d : Nat} {rec : Nat → List Value → Mem → XA} (hS : Nonempty XS) (hs : XSnd l xmt rec d) : Snd1 l 180 (b180 rec) d := by
  intro as M r M' h0
  unfold b180 at h0
  obtain ⟨a0, l1, e1, h1⟩ := aI_inv h0
  obtain ⟨ez, h⟩ := aZ_inv h1
  subst ez
  subst e1
  exact xmet (M := M) (as := [.int a0]) (lo := [some (.int a0)]) 180 xq180 xm180 (by rw [xargs_i, xargs_nil]; exact ⟨rfl, trivial⟩) (by rw [xargs_i, xargs_nil]; exact Nat.le_of_ble_eq_true rfl) (fun S G K => x_weak (by exact ⟨rfl, trivial⟩) (k180 hs a0 M)) h hS
set_option maxRecDepth 100000 in
def c181 (rec : Nat → List Value → Mem → XA) (a0 : Int32) (a1 : Int32) (M0 : Mem) : XA :=
  if a1 = 0 then (
    some (.int ((0 : Int32)), M0)) else (
    jn (fun (s1 : Unit) =>
      jn (fun (s2 : Int32) =>
        if (((1 : Int64)) <<< (Int32.toInt64 s2 &&& 63)) = 0 then none else
        some (.int ((a0.toInt64 - (a0.toInt64 / (((1 : Int64)) <<< (Int32.toInt64 s2 &&& 63)))).toInt32), M0)) fun j29 =>
      if 0 ≤ a0 then (
        j29 a1) else (
        j29 (a1 - ((1 : Int32))))) fun j18 =>
    if 0 ≤ a0 then (
      j18 ()) else (
      if a1 = ((1 : Int32)) then (
        some (.int (-a0), M0)) else (
        j18 ())))
def b181 (rec : Nat → List Value → Mem → XA) (as : List Value) (M0 : Mem) : XA := aI as fun a0 as => aI as fun a1 as => aZ as (c181 rec a0 a1 M0)
set_option maxRecDepth 100000 in
set_option maxHeartbeats 4000000 in
theorem k181 {S : XS} {G : XG} {K : Nat × Nat} {l : Launch} {d : Nat} {rec : Nat → List Value → Mem → XA} (hs : XSnd l xmt rec d) (a0 : Int32) (a1 : Int32) (M0 : Mem) : Xe S G K l (yX11_smallerNumber, cX11_smallerNumber, 3, some .int) d 0 [some (.int a0), some (.int a1), none] [] M0 (c181 rec a0 a1 M0) := by
  unfold c181
  refine x_iload_n dX11_smallerNumber_0 rfl ?_
  refine x_if_ne (tgt := 6) dX11_smallerNumber_1 (by decide) (fun _ => ?_) (fun _ => ?_)
  · refine x_iconst (v := 0) dX11_smallerNumber_4 (by decide) ?_
    exact x_iret rfl dX11_smallerNumber_5
  · refine x_iload_n dX11_smallerNumber_6 rfl ?_
    refine x_jn (σ := Unit) 18 (fun s1 => [some (.int a0), some (.int a1), none]) (fun s1 => []) (fun s1 => M0) (fun s1 => ?_) (fun j18 hj18 => ?_)
    · refine x_iload_n dX11_smallerNumber_18 rfl ?_
      refine x_jn (σ := Int32) 29 (fun s2 => [some (.int a0), none, none]) (fun s2 => [.int s2]) (fun s2 => M0) (fun s2 => ?_) (fun j29 hj29 => ?_)
      · refine x_istore_n (lo' := [some (.int a0), none, some (.int s2)]) dX11_smallerNumber_29 (by decide) rfl rfl ?_
        refine x_iload_n dX11_smallerNumber_30 rfl ?_
        refine x_i2l dX11_smallerNumber_31 ?_
        refine x_iload_n dX11_smallerNumber_32 rfl ?_
        refine x_i2l dX11_smallerNumber_33 ?_
        refine x_lconst (v := 1) dX11_smallerNumber_34 (by decide) ?_
        refine x_iload_n dX11_smallerNumber_35 rfl ?_
        refine x_lshl dX11_smallerNumber_36 ?_
        refine x_ldiv dX11_smallerNumber_37 (fun _ => ?_)
        refine x_lsub dX11_smallerNumber_38 ?_
        refine x_l2i dX11_smallerNumber_39 ?_
        exact x_iret rfl dX11_smallerNumber_40
      refine x_if_ge (tgt := 28) dX11_smallerNumber_19 (by decide) (fun _ => ?_) (fun _ => ?_)
      · refine x_iload_n dX11_smallerNumber_28 rfl ?_
        exact x_weak (by exact ⟨rfl, trivial⟩) (hj29 a1)
      · refine x_iload_n dX11_smallerNumber_22 rfl ?_
        refine x_iconst (v := 1) dX11_smallerNumber_23 (by decide) ?_
        refine x_isub dX11_smallerNumber_24 ?_
        refine x_goto (tgt := 29) dX11_smallerNumber_25 (by decide) ?_
        exact x_weak (by exact ⟨rfl, trivial⟩) (hj29 (a1 - ((1 : Int32))))
    refine x_if_ge (tgt := 18) dX11_smallerNumber_7 (by decide) (fun _ => ?_) (fun _ => ?_)
    · exact x_weak (by exact ⟨rfl, ⟨rfl, trivial⟩⟩) (hj18 ())
    · refine x_iload_n dX11_smallerNumber_10 rfl ?_
      refine x_iconst (v := 1) dX11_smallerNumber_11 (by decide) ?_
      refine x_icmp_ne (tgt := 18) dX11_smallerNumber_12 (by decide) (fun _ => ?_) (fun _ => ?_)
      · refine x_iload_n dX11_smallerNumber_15 rfl ?_
        refine x_ineg dX11_smallerNumber_16 ?_
        exact x_iret rfl dX11_smallerNumber_17
      · exact x_weak (by exact ⟨rfl, ⟨rfl, trivial⟩⟩) (hj18 ())
theorem s181 {l : Launch} {d : Nat} {rec : Nat → List Value → Mem → XA} (hS : Nonempty XS) (hs : XSnd l xmt rec d) : Snd1 l 181 (b181 rec) d := by
  intro as M r M' h0
  unfold b181 at h0
  obtain ⟨a0, l1, e1, h1⟩ := aI_inv h0
  obtain ⟨a1, l2, e2, h2⟩ := aI_inv h1
  obtain ⟨ez, h⟩ := aZ_inv h2
  subst ez
  subst e2
  subst e1
  exact xmet (M := M) (as := [.int a0, .int a1]) (lo := [some (.int a0), some (.int a1)]) 181 xq181 xm181 (by rw [xargs_i, xargs_i, xargs_nil]; exact ⟨rfl, ⟨rfl, trivial⟩⟩) (by rw [xargs_i, xargs_i, xargs_nil]; exact Nat.le_of_ble_eq_true rfl) (fun S G K => x_weak (by exact ⟨rfl, ⟨rfl, trivial⟩⟩) (k181 hs a0 a1 M)) h hS
set_option maxRecDepth 100000 in
def c182_4 (rec : Nat → List Value → Mem → XA) (a0 : Option Nat) (a1 : Int32) (M0 : Mem) (j31 : Int32 → XA) : (Int32 × Int32) → ((Int32 × Int32) → XA) → XA := fun s2 j4 =>
  gtP (6, 18) M0 a0 10 fun x3 =>
  aln M0 x3 fun x4 =>
  if x4 ≤ s2.2 then (
    j31 s2.1) else (
    gtP (6, 18) M0 a0 10 fun x5 =>
    alI 100 M0 x5 s2.2 fun x6 =>
    jn (fun (s7 : Int32) =>
      lt (s2.2 + (1 : Int32)) fun (x8 : Int32) =>
      j4 (s7, x8)) fun j25 =>
    if x6 = a1 then (
      j25 s2.2) else (
      j25 s2.1))
set_option maxRecDepth 100000 in
def c182 (rec : Nat → List Value → Mem → XA) (a0 : Option Nat) (a1 : Int32) (M0 : Mem) : XA :=
  jn (fun (s1 : Int32) =>
    some (.int s1, M0)) fun j31 =>
  lp (c182_4 rec a0 a1 M0 j31) 4294967296 ((0 : Int32), (0 : Int32))
def b182 (rec : Nat → List Value → Mem → XA) (as : List Value) (M0 : Mem) : XA := aR as fun a0 as => aI as fun a1 as => aZ as (c182 rec a0 a1 M0)
set_option maxRecDepth 100000 in
set_option maxHeartbeats 4000000 in
theorem k182 {S : XS} {G : XG} {K : Nat × Nat} {l : Launch} {d : Nat} {rec : Nat → List Value → Mem → XA} (hs : XSnd l xmt rec d) (a0 : Option Nat) (a1 : Int32) (M0 : Mem) : Xe S G K l (yX11_placeInOrder, cX11_placeInOrder, 4, some .int) d 0 [some (va_rf a0), some (.int a1), none, none] [] M0 (c182 rec a0 a1 M0) := by
  unfold c182
  refine x_iconst (v := 0) dX11_placeInOrder_0 (by decide) ?_
  refine x_istore_n (lo' := [some (va_rf a0), some (.int a1), some (.int ((0 : Int32))), none]) dX11_placeInOrder_1 (by decide) rfl rfl ?_
  refine x_iconst (v := 0) dX11_placeInOrder_2 (by decide) ?_
  refine x_istore_n (lo' := [some (va_rf a0), some (.int a1), some (.int ((0 : Int32))), some (.int ((0 : Int32)))]) dX11_placeInOrder_3 (by decide) rfl rfl ?_
  refine x_jn (σ := Int32) 31 (fun s1 => [none, none, some (.int s1), none]) (fun s1 => []) (fun s1 => M0) (fun s1 => ?_) (fun j31 hj31 => ?_)
  · refine x_iload_n dX11_placeInOrder_31 rfl ?_
    exact x_iret rfl dX11_placeInOrder_32
  refine x_weak (by exact ⟨rfl, ⟨rfl, ⟨rfl, ⟨rfl, trivial⟩⟩⟩⟩) (x_lp (σ := Int32 × Int32) 4 (fun s2 => [some (va_rf a0), some (.int a1), some (.int s2.1), some (.int s2.2)]) (fun s2 => []) (fun s2 => M0) (fun s2 j4 hj4 => ?_) 4294967296 ((0 : Int32), (0 : Int32)))
  · refine x_iload_n dX11_placeInOrder_4 rfl ?_
    refine x_aload_n dX11_placeInOrder_5 rfl ?_
    refine gfX11_189 rfl dX11_placeInOrder_6 (fun x3 => ?_)
    refine x_alen dX11_placeInOrder_9 (fun x4 => ?_)
    refine x_icmp_ge (tgt := 31) dX11_placeInOrder_10 (by decide) (fun _ => ?_) (fun _ => ?_)
    · exact x_weak (by exact ⟨rfl, trivial⟩) (hj31 s2.1)
    · refine x_aload_n dX11_placeInOrder_13 rfl ?_
      refine gfX11_189 rfl dX11_placeInOrder_14 (fun x5 => ?_)
      refine x_iload_n dX11_placeInOrder_17 rfl ?_
      refine x_iald dX11_placeInOrder_18 (fun x6 => ?_)
      refine x_iload_n dX11_placeInOrder_19 rfl ?_
      refine x_jn (σ := Int32) 25 (fun s7 => [some (va_rf a0), some (.int a1), some (.int s7), some (.int s2.2)]) (fun s7 => []) (fun s7 => M0) (fun s7 => ?_) (fun j25 hj25 => ?_)
      · refine x_iincN (v := 1) (lo' := fun x8 => [some (va_rf a0), some (.int a1), some (.int s7), some (.int x8)]) (by decide) dX11_placeInOrder_25 rfl (by decide) rfl (fun _ => rfl) (fun x8 => ?_)
        refine x_goto (tgt := 4) dX11_placeInOrder_28 (by decide) ?_
        exact x_weak (by exact ⟨rfl, ⟨rfl, ⟨rfl, ⟨rfl, trivial⟩⟩⟩⟩) (hj4 (s7, x8))
      refine x_icmp_ne (tgt := 25) dX11_placeInOrder_20 (by decide) (fun _ => ?_) (fun _ => ?_)
      · refine x_iload_n dX11_placeInOrder_23 rfl ?_
        refine x_istore_n (lo' := [some (va_rf a0), some (.int a1), some (.int s2.2), some (.int s2.2)]) dX11_placeInOrder_24 (by decide) rfl rfl ?_
        exact x_weak (by exact ⟨rfl, ⟨rfl, ⟨rfl, ⟨rfl, trivial⟩⟩⟩⟩) (hj25 s2.2)
      · exact x_weak (by exact ⟨rfl, ⟨rfl, ⟨rfl, ⟨rfl, trivial⟩⟩⟩⟩) (hj25 s2.1)
theorem s182 {l : Launch} {d : Nat} {rec : Nat → List Value → Mem → XA} (hS : Nonempty XS) (hs : XSnd l xmt rec d) : Snd1 l 182 (b182 rec) d := by
  intro as M r M' h0
  unfold b182 at h0
  obtain ⟨a0, l1, e1, h1⟩ := aR_inv h0
  obtain ⟨a1, l2, e2, h2⟩ := aI_inv h1
  obtain ⟨ez, h⟩ := aZ_inv h2
  subst ez
  subst e2
  subst e1
  exact xmet (M := M) (as := [va_rf a0, .int a1]) (lo := [some (va_rf a0), some (.int a1)]) 182 xq182 xm182 (by rw [xargs_rf, xargs_i, xargs_nil]; exact ⟨rfl, ⟨rfl, trivial⟩⟩) (by rw [xargs_rf, xargs_i, xargs_nil]; exact Nat.le_of_ble_eq_true rfl) (fun S G K => x_weak (by exact ⟨rfl, ⟨rfl, trivial⟩⟩) (k182 hs a0 a1 M)) h hS
