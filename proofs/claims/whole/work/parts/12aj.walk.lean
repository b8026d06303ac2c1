set_option maxRecDepth 100000 in
def c151 (rec : Nat → List Value → Mem → XA) (a0 : Option Nat) (a1 : Int32) (a2 : Int32) (a3 : Int32) (M0 : Mem) : XA :=
  vC (12, 19) M0 a0 <|
  cP (rec 167 [va_rf a0, .int a1] M0) fun x2 M1 =>
  cP (rec 169 [va_rf x2, .int a3] M1) fun x4 M3 =>
  jn (fun (s5 : Unit) =>
    some (.int ((-1 : Int32)), M3)) fun j30 =>
  if x4 = none then (
    j30 ()) else (
    if a2 < 0 then (
      j30 ()) else (
      gtP (6, 18) M3 x2 9 fun x6 =>
      aln M3 x6 fun x7 =>
      if a2 < x7 then (
        gtI (6, 18) M3 x2 16 fun x8 =>
        jn (fun (s9 : Int32) =>
          some (.int s9, M3)) fun j56 =>
        if x8 = 0 then (
          j56 ((-2 : Int32))) else (
          gtP (6, 18) M3 x2 14 fun x10 =>
          alI 100 M3 x10 a2 fun x11 =>
          j56 ((x11 >>> (a3 &&& 31)) &&& ((1 : Int32))))) else (
        j30 ())))
def b151 (rec : Nat → List Value → Mem → XA) (as : List Value) (M0 : Mem) : XA := aR as fun a0 as => aI as fun a1 as => aI as fun a2 as => aI as fun a3 as => aZ as (c151 rec a0 a1 a2 a3 M0)
set_option maxRecDepth 100000 in
set_option maxHeartbeats 4000000 in
theorem k151 {S : XS} {G : XG} {K : Nat × Nat} {l : Launch} {d : Nat} {rec : Nat → List Value → Mem → XA} (hs : XSnd l xmt rec d) (a0 : Option Nat) (a1 : Int32) (a2 : Int32) (a3 : Int32) (M0 : Mem) : Xe S G K l (yX11_killed, cX11_killed, 5, some .int) d 0 [some (va_rf a0), some (.int a1), some (.int a2), some (.int a3), none] [] M0 (c151 rec a0 a1 a2 a3 M0) := by
  unfold c151
  refine x_aload_n dX11_killed_0 rfl ?_
  refine x_iload_n dX11_killed_1 rfl ?_
  refine cmX11_109 rfl hs (Nat.le_of_ble_eq_true rfl) dX11_killed_2 (fun x2 M1 => ?_)
  refine x_astore (lo' := [some (va_rf a0), some (.int a1), some (.int a2), some (.int a3), some (va_rf x2)]) dX11_killed_5 (by decide) rfl rfl ?_
  refine x_aload dX11_killed_7 rfl ?_
  refine x_iload_n dX11_killed_9 rfl ?_
  refine cmX11_152 rfl hs (Nat.le_of_ble_eq_true rfl) dX11_killed_10 (fun x4 M3 => ?_)
  refine x_jn (σ := Unit) 30 (fun s5 => [none, none, none, none, none]) (fun s5 => []) (fun s5 => M3) (fun s5 => ?_) (fun j30 hj30 => ?_)
  · refine x_iconst (v := -1) dX11_killed_30 (by decide) ?_
    exact x_iret rfl dX11_killed_31
  refine x_ifnull (tgt := 30) dX11_killed_13 (by decide) (fun _ => ?_) (fun _ => ?_)
  · exact x_weak (by exact trivial) (hj30 ())
  · refine x_iload_n dX11_killed_16 rfl ?_
    refine x_if_lt (tgt := 30) dX11_killed_17 (by decide) (fun _ => ?_) (fun _ => ?_)
    · exact x_weak (by exact trivial) (hj30 ())
    · refine x_iload_n dX11_killed_20 rfl ?_
      refine x_aload dX11_killed_21 rfl ?_
      refine gfX11_127 rfl dX11_killed_23 (fun x6 => ?_)
      refine x_alen dX11_killed_26 (fun x7 => ?_)
      refine x_icmp_lt (tgt := 32) dX11_killed_27 (by decide) (fun _ => ?_) (fun _ => ?_)
      · refine x_aload dX11_killed_32 rfl ?_
        refine gfX11_278 rfl dX11_killed_34 (fun x8 => ?_)
        refine x_jn (σ := Int32) 56 (fun s9 => [none, none, none, none, none]) (fun s9 => [.int s9]) (fun s9 => M3) (fun s9 => ?_) (fun j56 hj56 => ?_)
        · exact x_iret rfl dX11_killed_56
        refine x_if_eq (tgt := 54) dX11_killed_37 (by decide) (fun _ => ?_) (fun _ => ?_)
        · refine x_bipush (v := -2) dX11_killed_54 (by decide) ?_
          exact x_weak (by exact trivial) (hj56 ((-2 : Int32)))
        · refine x_aload dX11_killed_40 rfl ?_
          refine gfX11_281 rfl dX11_killed_42 (fun x10 => ?_)
          refine x_iload_n dX11_killed_45 rfl ?_
          refine x_iald dX11_killed_46 (fun x11 => ?_)
          refine x_iload_n dX11_killed_47 rfl ?_
          refine x_ishr dX11_killed_48 ?_
          refine x_iconst (v := 1) dX11_killed_49 (by decide) ?_
          refine x_iand dX11_killed_50 ?_
          refine x_goto (tgt := 56) dX11_killed_51 (by decide) ?_
          exact x_weak (by exact trivial) (hj56 ((x11 >>> (a3 &&& 31)) &&& ((1 : Int32))))
      · exact x_weak (by exact trivial) (hj30 ())
theorem s151 {l : Launch} {d : Nat} {rec : Nat → List Value → Mem → XA} (hS : Nonempty XS) (hs : XSnd l xmt rec d) : Snd1 l 151 (b151 rec) d := by
  intro as M r M' h0
  unfold b151 at h0
  obtain ⟨a0, l1, e1, h1⟩ := aR_inv h0
  obtain ⟨a1, l2, e2, h2⟩ := aI_inv h1
  obtain ⟨a2, l3, e3, h3⟩ := aI_inv h2
  obtain ⟨a3, l4, e4, h4⟩ := aI_inv h3
  obtain ⟨ez, h⟩ := aZ_inv h4
  subst ez
  subst e4
  subst e3
  subst e2
  subst e1
  exact xmet (M := M) (as := [va_rf a0, .int a1, .int a2, .int a3]) (lo := [some (va_rf a0), some (.int a1), some (.int a2), some (.int a3)]) 151 xq151 xm151 (by rw [xargs_rf, xargs_i, xargs_i, xargs_i, xargs_nil]; exact ⟨rfl, ⟨rfl, ⟨rfl, ⟨rfl, trivial⟩⟩⟩⟩) (by rw [xargs_rf, xargs_i, xargs_i, xargs_i, xargs_nil]; exact Nat.le_of_ble_eq_true rfl) (fun S G K => x_weak (by exact ⟨rfl, ⟨rfl, ⟨rfl, ⟨rfl, trivial⟩⟩⟩⟩) (k151 hs a0 a1 a2 a3 M)) h hS
set_option maxRecDepth 100000 in
def c152 (rec : Nat → List Value → Mem → XA) (a0 : Option Nat) (a1 : Int32) (a2 : Int32) (M0 : Mem) : XA :=
  vC (12, 19) M0 a0 <|
  cP (rec 167 [va_rf a0, .int a1] M0) fun x2 M1 =>
  jn (fun (s3 : Unit) =>
    some (.int ((-1 : Int32)), M1)) fun j15 =>
  if x2 = none then (
    j15 ()) else (
    if ((-1 : Int32)) ≤ a2 then (
      gtI (6, 18) M1 x2 16 fun x4 =>
      if x4 = 0 then (
        some (.int ((-2 : Int32)), M1)) else (
        vC (6, 18) M1 x2 <|
        cI (rec 57 [va_rf x2] M1) fun x6 M5 =>
        jn (fun (s7 : Int32 × Mem) =>
          some (.int s7.1, s7.2)) fun j52 =>
        if a2 = ((-1 : Int32)) then (
          cI (rec 315 [.int x6] M5) fun x9 M8 =>
          j52 (x9, M8)) else (
          cI (rec 177 [.int x6, .int a2] M5) fun x11 M10 =>
          j52 (x11, M10)))) else (
      j15 ()))
def b152 (rec : Nat → List Value → Mem → XA) (as : List Value) (M0 : Mem) : XA := aR as fun a0 as => aI as fun a1 as => aI as fun a2 as => aZ as (c152 rec a0 a1 a2 M0)
set_option maxRecDepth 100000 in
set_option maxHeartbeats 4000000 in
theorem k152 {S : XS} {G : XG} {K : Nat × Nat} {l : Launch} {d : Nat} {rec : Nat → List Value → Mem → XA} (hs : XSnd l xmt rec d) (a0 : Option Nat) (a1 : Int32) (a2 : Int32) (M0 : Mem) : Xe S G K l (yX11_least, cX11_least, 5, some .int) d 0 [some (va_rf a0), some (.int a1), some (.int a2), none, none] [] M0 (c152 rec a0 a1 a2 M0) := by
  unfold c152
  refine x_aload_n dX11_least_0 rfl ?_
  refine x_iload_n dX11_least_1 rfl ?_
  refine cmX11_109 rfl hs (Nat.le_of_ble_eq_true rfl) dX11_least_2 (fun x2 M1 => ?_)
  refine x_astore_n (lo' := [some (va_rf a0), some (.int a1), some (.int a2), some (va_rf x2), none]) dX11_least_5 (by decide) rfl rfl ?_
  refine x_aload_n dX11_least_6 rfl ?_
  refine x_jn (σ := Unit) 15 (fun s3 => [none, none, none, none, none]) (fun s3 => []) (fun s3 => M1) (fun s3 => ?_) (fun j15 hj15 => ?_)
  · refine x_iconst (v := -1) dX11_least_15 (by decide) ?_
    exact x_iret rfl dX11_least_16
  refine x_ifnull (tgt := 15) dX11_least_7 (by decide) (fun _ => ?_) (fun _ => ?_)
  · exact x_weak (by exact trivial) (hj15 ())
  · refine x_iload_n dX11_least_10 rfl ?_
    refine x_iconst (v := -1) dX11_least_11 (by decide) ?_
    refine x_icmp_ge (tgt := 17) dX11_least_12 (by decide) (fun _ => ?_) (fun _ => ?_)
    · refine x_aload_n dX11_least_17 rfl ?_
      refine gfX11_278 rfl dX11_least_18 (fun x4 => ?_)
      refine x_if_ne (tgt := 27) dX11_least_21 (by decide) (fun _ => ?_) (fun _ => ?_)
      · refine x_bipush (v := -2) dX11_least_24 (by decide) ?_
        exact x_iret rfl dX11_least_26
      · refine x_aload_n dX11_least_27 rfl ?_
        refine cmX11_310 rfl hs (Nat.le_of_ble_eq_true rfl) dX11_least_28 (fun x6 M5 => ?_)
        refine x_istore (lo' := [some (va_rf a0), some (.int a1), some (.int a2), some (va_rf x2), some (.int x6)]) dX11_least_31 (by decide) (xok_r rfl) rfl ?_
        refine x_iload_n dX11_least_33 rfl ?_
        refine x_iconst (v := -1) dX11_least_34 (by decide) ?_
        refine x_jn (σ := Int32 × Mem) 52 (fun s7 => [none, none, none, none, none]) (fun s7 => [.int s7.1]) (fun s7 => s7.2) (fun s7 => ?_) (fun j52 hj52 => ?_)
        · exact x_iret rfl dX11_least_52
        refine x_icmp_ne (tgt := 46) dX11_least_35 (by decide) (fun _ => ?_) (fun _ => ?_)
        · refine x_iload dX11_least_38 rfl ?_
          refine cmX11_284 rfl hs (Nat.le_of_ble_eq_true rfl) dX11_least_40 (fun x9 M8 => ?_)
          refine x_goto (tgt := 52) dX11_least_43 (by decide) ?_
          exact x_weak (by exact trivial) (hj52 (x9, M8))
        · refine x_iload dX11_least_46 rfl ?_
          refine x_iload_n dX11_least_48 rfl ?_
          refine cmX11_313 rfl hs (Nat.le_of_ble_eq_true rfl) dX11_least_49 (fun x11 M10 => ?_)
          exact x_weak (by exact trivial) (hj52 (x11, M10))
    · exact x_weak (by exact trivial) (hj15 ())
theorem s152 {l : Launch} {d : Nat} {rec : Nat → List Value → Mem → XA} (hS : Nonempty XS) (hs : XSnd l xmt rec d) : Snd1 l 152 (b152 rec) d := by
  intro as M r M' h0
  unfold b152 at h0
  obtain ⟨a0, l1, e1, h1⟩ := aR_inv h0
  obtain ⟨a1, l2, e2, h2⟩ := aI_inv h1
  obtain ⟨a2, l3, e3, h3⟩ := aI_inv h2
  obtain ⟨ez, h⟩ := aZ_inv h3
  subst ez
  subst e3
  subst e2
  subst e1
  exact xmet (M := M) (as := [va_rf a0, .int a1, .int a2]) (lo := [some (va_rf a0), some (.int a1), some (.int a2)]) 152 xq152 xm152 (by rw [xargs_rf, xargs_i, xargs_i, xargs_nil]; exact ⟨rfl, ⟨rfl, ⟨rfl, trivial⟩⟩⟩) (by rw [xargs_rf, xargs_i, xargs_i, xargs_nil]; exact Nat.le_of_ble_eq_true rfl) (fun S G K => x_weak (by exact ⟨rfl, ⟨rfl, ⟨rfl, trivial⟩⟩⟩) (k152 hs a0 a1 a2 M)) h hS
set_option maxRecDepth 100000 in
def c153 (rec : Nat → List Value → Mem → XA) (a0 : Option Nat) (a1 : Int32) (a2 : Int32) (a3 : Int32) (M0 : Mem) : XA :=
  vC (12, 19) M0 a0 <|
  cP (rec 167 [va_rf a0, .int a1] M0) fun x2 M1 =>
  jn (fun (s3 : Option Nat × Mem) =>
    jn (fun (s4 : Unit) =>
      some (.int ((-1 : Int32)), s3.2)) fun j44 =>
    if s3.1 = none then (
      j44 ()) else (
      if a3 < ((1 : Int32)) then (
        j44 ()) else (
        if a3 ≤ ((200 : Int32)) then (
          gtP (12, 19) s3.2 a0 2 fun x5 =>
          vC (4, 22) s3.2 x5 <|
          cV (rec 19 [va_rf x5, va_rf x2, .int ((20000 : Int32))] s3.2) fun M6 =>
          vC (12, 19) M6 a0 <|
          cI (rec 178 [va_rf a0, va_rf s3.1, .int a3] M6) fun x8 M7 =>
          jn (fun (s9 : Int32) =>
            lp (fun (s10 : Int32 × Int32 × Mem) j82 =>
              jn (fun (s11 : Mem) =>
                gtP (12, 19) s11 a0 2 fun x12 =>
                vC (4, 22) s11 x12 <|
                cI (rec 22 [va_rf x12] s11) fun x14 M13 =>
                if x14 = 0 then (
                  gtP (12, 19) M13 a0 11 fun x15 =>
                  gtP (12, 19) M13 a0 12 fun x16 =>
                  acI M13 x15 ((0 : Int32)) x16 ((0 : Int32)) ((6 : Int32)) fun M17 =>
                  jn (fun (s18 : Int32) =>
                    ptI (12, 19) M17 a0 13 s18 fun M19 =>
                    jn (fun (s20 : Int32) =>
                      some (.int s20, M19)) fun j175 =>
                    if x8 = 0 then (
                      j175 ((0 : Int32))) else (
                      j175 ((1 : Int32)))) fun j162 =>
                  if x8 = 0 then (
                    gtI (8, 9) M17 s3.1 4 fun x21 =>
                    j162 x21) else (
                    j162 ((0 : Int32)))) else (
                  some (.int ((-4 : Int32)), M13))) fun j119 =>
              if ((1000000 : Int32)) ≤ s10.2.1 then (
                j119 s10.2.2) else (
                if s10.1 = 0 then (
                  j119 s10.2.2) else (
                  gtP (12, 19) s10.2.2 a0 2 fun x22 =>
                  vC (4, 22) s10.2.2 x22 <|
                  cI (rec 22 [va_rf x22] s10.2.2) fun x24 M23 =>
                  if x24 = 0 then (
                    vC (12, 19) M23 a0 <|
                    cI (rec 179 [va_rf a0, va_rf s3.1] M23) fun x26 M25 =>
                    lt (s10.2.1 + (1 : Int32)) fun (x27 : Int32) =>
                    j82 (x26, x27, M25)) else (
                    j119 M23)))) 4294967296 (s9, (0 : Int32), M7)) fun j77 =>
          if x8 = 0 then (
            j77 ((1 : Int32))) else (
            j77 ((0 : Int32)))) else (
          j44 ())))) fun j25 =>
  if x2 = none then (
    j25 (none, M1)) else (
    gtP (6, 18) M1 x2 4 fun x28 =>
    cP (rec 168 [va_rf x28, .int a2] M1) fun x30 M29 =>
    j25 (x30, M29))
def b153 (rec : Nat → List Value → Mem → XA) (as : List Value) (M0 : Mem) : XA := aR as fun a0 as => aI as fun a1 as => aI as fun a2 as => aI as fun a3 as => aZ as (c153 rec a0 a1 a2 a3 M0)
set_option maxRecDepth 100000 in
set_option maxHeartbeats 4000000 in
theorem k153 {S : XS} {G : XG} {K : Nat × Nat} {l : Launch} {d : Nat} {rec : Nat → List Value → Mem → XA} (hs : XSnd l xmt rec d) (a0 : Option Nat) (a1 : Int32) (a2 : Int32) (a3 : Int32) (M0 : Mem) : Xe S G K l (yX11_property, cX11_property, 9, some .int) d 0 [some (va_rf a0), some (.int a1), some (.int a2), some (.int a3), none, none, none, none, none] [] M0 (c153 rec a0 a1 a2 a3 M0) := by
  unfold c153
  refine x_aload_n dX11_property_0 rfl ?_
  refine x_iload_n dX11_property_1 rfl ?_
  refine cmX11_109 rfl hs (Nat.le_of_ble_eq_true rfl) dX11_property_2 (fun x2 M1 => ?_)
  refine x_astore (lo' := [some (va_rf a0), some (.int a1), some (.int a2), some (.int a3), some (va_rf x2), none, none, none, none]) dX11_property_5 (by decide) rfl rfl ?_
  refine x_aload dX11_property_7 rfl ?_
  refine x_jn (σ := Option Nat × Mem) 25 (fun s3 => [some (va_rf a0), none, none, some (.int a3), some (va_rf x2), none, none, none, none]) (fun s3 => [va_rf s3.1]) (fun s3 => s3.2) (fun s3 => ?_) (fun j25 hj25 => ?_)
  · refine x_astore (lo' := [some (va_rf a0), none, none, some (.int a3), some (va_rf x2), some (va_rf s3.1), none, none, none]) dX11_property_25 (by decide) (xok_r rfl) rfl ?_
    refine x_aload dX11_property_27 rfl ?_
    refine x_jn (σ := Unit) 44 (fun s4 => [none, none, none, none, none, none, none, none, none]) (fun s4 => []) (fun s4 => s3.2) (fun s4 => ?_) (fun j44 hj44 => ?_)
    · refine x_iconst (v := -1) dX11_property_44 (by decide) ?_
      exact x_iret rfl dX11_property_45
    refine x_ifnull (tgt := 44) dX11_property_29 (by decide) (fun _ => ?_) (fun _ => ?_)
    · exact x_weak (by exact trivial) (hj44 ())
    · refine x_iload_n dX11_property_32 rfl ?_
      refine x_iconst (v := 1) dX11_property_33 (by decide) ?_
      refine x_icmp_lt (tgt := 44) dX11_property_34 (by decide) (fun _ => ?_) (fun _ => ?_)
      · exact x_weak (by exact trivial) (hj44 ())
      · refine x_iload_n dX11_property_37 rfl ?_
        refine x_sipush (v := 200) dX11_property_38 (by decide) ?_
        refine x_icmp_le (tgt := 46) dX11_property_41 (by decide) (fun _ => ?_) (fun _ => ?_)
        · refine x_aload_n dX11_property_46 rfl ?_
          refine gfX11_26 rfl dX11_property_47 (fun x5 => ?_)
          refine x_aload dX11_property_50 rfl ?_
          refine x_sipush (v := 20000) dX11_property_52 (by decide) ?_
          refine cmX11_193 rfl hs (Nat.le_of_ble_eq_true rfl) dX11_property_55 (fun M6 => ?_)
          refine x_aload_n dX11_property_58 rfl ?_
          refine x_aload dX11_property_59 rfl ?_
          refine x_iload_n dX11_property_61 rfl ?_
          refine cmX11_317 rfl hs (Nat.le_of_ble_eq_true rfl) dX11_property_62 (fun x8 M7 => ?_)
          refine x_istore (lo' := [some (va_rf a0), none, none, some (.int a3), some (va_rf x2), some (va_rf s3.1), some (.int x8), none, none]) dX11_property_65 (by decide) (xok_r rfl) rfl ?_
          refine x_iload dX11_property_67 rfl ?_
          refine x_jn (σ := Int32) 77 (fun s9 => [some (va_rf a0), none, none, none, none, some (va_rf s3.1), some (.int x8), none, none]) (fun s9 => [.int s9]) (fun s9 => M7) (fun s9 => ?_) (fun j77 hj77 => ?_)
          · refine x_istore (lo' := [some (va_rf a0), none, none, none, none, some (va_rf s3.1), some (.int x8), some (.int s9), none]) dX11_property_77 (by decide) rfl rfl ?_
            refine x_iconst (v := 0) dX11_property_79 (by decide) ?_
            refine x_istore (lo' := [some (va_rf a0), none, none, none, none, some (va_rf s3.1), some (.int x8), some (.int s9), some (.int ((0 : Int32)))]) dX11_property_80 (by decide) rfl rfl ?_
            refine x_weak (by exact ⟨rfl, ⟨rfl, ⟨rfl, ⟨rfl, ⟨rfl, trivial⟩⟩⟩⟩⟩) (x_lp (σ := Int32 × Int32 × Mem) 82 (fun s10 => [some (va_rf a0), none, none, none, none, some (va_rf s3.1), some (.int x8), some (.int s10.1), some (.int s10.2.1)]) (fun s10 => []) (fun s10 => s10.2.2) (fun s10 j82 hj82 => ?_) 4294967296 (s9, (0 : Int32), M7))
            · refine x_iload dX11_property_82 rfl ?_
              refine x_ldcw (v := 1000000) dX11_property_84 lk_constant_X11_321 ?_
              refine x_jn (σ := Mem) 119 (fun s11 => [some (va_rf a0), none, none, none, none, some (va_rf s3.1), some (.int x8), none, none]) (fun s11 => []) (fun s11 => s11) (fun s11 => ?_) (fun j119 hj119 => ?_)
              · refine x_aload_n dX11_property_119 rfl ?_
                refine gfX11_26 rfl dX11_property_120 (fun x12 => ?_)
                refine cmX11_294 rfl hs (Nat.le_of_ble_eq_true rfl) dX11_property_123 (fun x14 M13 => ?_)
                refine x_if_eq (tgt := 132) dX11_property_126 (by decide) (fun _ => ?_) (fun _ => ?_)
                · refine x_aload_n dX11_property_132 rfl ?_
                  refine gfX11_50 rfl dX11_property_133 (fun x15 => ?_)
                  refine x_iconst (v := 0) dX11_property_136 (by decide) ?_
                  refine x_aload_n dX11_property_137 rfl ?_
                  refine gfX11_54 rfl dX11_property_138 (fun x16 => ?_)
                  refine x_iconst (v := 0) dX11_property_141 (by decide) ?_
                  refine x_bipush (v := 6) dX11_property_142 (by decide) ?_
                  refine x_acI lk_methodLink_X11_326 w_acn w_acs w_aci (Nat.le_of_ble_eq_true rfl) dX11_property_144 (fun M17 => ?_)
                  refine x_aload_n dX11_property_147 rfl ?_
                  refine x_iload dX11_property_148 rfl ?_
                  refine x_jn (σ := Int32) 162 (fun s18 => [none, none, none, none, none, none, some (.int x8), none, none]) (fun s18 => [.int s18, va_rf a0]) (fun s18 => M17) (fun s18 => ?_) (fun j162 hj162 => ?_)
                  · refine pfX11_57 rfl dX11_property_162 (fun M19 => ?_)
                    refine x_iload dX11_property_165 rfl ?_
                    refine x_jn (σ := Int32) 175 (fun s20 => [none, none, none, none, none, none, none, none, none]) (fun s20 => [.int s20]) (fun s20 => M19) (fun s20 => ?_) (fun j175 hj175 => ?_)
                    · exact x_iret rfl dX11_property_175
                    refine x_if_eq (tgt := 174) dX11_property_167 (by decide) (fun _ => ?_) (fun _ => ?_)
                    · refine x_iconst (v := 0) dX11_property_174 (by decide) ?_
                      exact x_weak (by exact trivial) (hj175 ((0 : Int32)))
                    · refine x_iconst (v := 1) dX11_property_170 (by decide) ?_
                      refine x_goto (tgt := 175) dX11_property_171 (by decide) ?_
                      exact x_weak (by exact trivial) (hj175 ((1 : Int32)))
                  refine x_if_eq (tgt := 157) dX11_property_150 (by decide) (fun _ => ?_) (fun _ => ?_)
                  · refine x_aload dX11_property_157 rfl ?_
                    refine gfX11_146 rfl dX11_property_159 (fun x21 => ?_)
                    exact x_weak (by exact ⟨rfl, trivial⟩) (hj162 x21)
                  · refine x_iconst (v := 0) dX11_property_153 (by decide) ?_
                    refine x_goto (tgt := 162) dX11_property_154 (by decide) ?_
                    exact x_weak (by exact ⟨rfl, trivial⟩) (hj162 ((0 : Int32)))
                · refine x_bipush (v := -4) dX11_property_129 (by decide) ?_
                  exact x_iret rfl dX11_property_131
              refine x_icmp_ge (tgt := 119) dX11_property_87 (by decide) (fun _ => ?_) (fun _ => ?_)
              · exact x_weak (by exact ⟨rfl, ⟨rfl, ⟨rfl, trivial⟩⟩⟩) (hj119 s10.2.2)
              · refine x_iload dX11_property_90 rfl ?_
                refine x_if_eq (tgt := 119) dX11_property_92 (by decide) (fun _ => ?_) (fun _ => ?_)
                · exact x_weak (by exact ⟨rfl, ⟨rfl, ⟨rfl, trivial⟩⟩⟩) (hj119 s10.2.2)
                · refine x_aload_n dX11_property_95 rfl ?_
                  refine gfX11_26 rfl dX11_property_96 (fun x22 => ?_)
                  refine cmX11_294 rfl hs (Nat.le_of_ble_eq_true rfl) dX11_property_99 (fun x24 M23 => ?_)
                  refine x_if_ne (tgt := 119) dX11_property_102 (by decide) (fun _ => ?_) (fun _ => ?_)
                  · refine x_aload_n dX11_property_105 rfl ?_
                    refine x_aload dX11_property_106 rfl ?_
                    refine cmX11_322 rfl hs (Nat.le_of_ble_eq_true rfl) dX11_property_108 (fun x26 M25 => ?_)
                    refine x_istore (lo' := [some (va_rf a0), none, none, none, none, some (va_rf s3.1), some (.int x8), some (.int x26), some (.int s10.2.1)]) dX11_property_111 (by decide) rfl rfl ?_
                    refine x_iincN (v := 1) (lo' := fun x27 => [some (va_rf a0), none, none, none, none, some (va_rf s3.1), some (.int x8), some (.int x26), some (.int x27)]) (by decide) dX11_property_113 rfl (by decide) rfl (fun _ => rfl) (fun x27 => ?_)
                    refine x_goto (tgt := 82) dX11_property_116 (by decide) ?_
                    exact x_weak (by exact ⟨rfl, ⟨rfl, ⟨rfl, ⟨rfl, ⟨rfl, trivial⟩⟩⟩⟩⟩) (hj82 (x26, x27, M25))
                  · exact x_weak (by exact ⟨rfl, ⟨rfl, ⟨rfl, trivial⟩⟩⟩) (hj119 M23)
          refine x_if_ne (tgt := 76) dX11_property_69 (by decide) (fun _ => ?_) (fun _ => ?_)
          · refine x_iconst (v := 1) dX11_property_72 (by decide) ?_
            refine x_goto (tgt := 77) dX11_property_73 (by decide) ?_
            exact x_weak (by exact ⟨rfl, ⟨rfl, ⟨rfl, trivial⟩⟩⟩) (hj77 ((1 : Int32)))
          · refine x_iconst (v := 0) dX11_property_76 (by decide) ?_
            exact x_weak (by exact ⟨rfl, ⟨rfl, ⟨rfl, trivial⟩⟩⟩) (hj77 ((0 : Int32)))
        · exact x_weak (by exact trivial) (hj44 ())
  refine x_ifnonnull (tgt := 16) dX11_property_9 (by decide) (fun _ => ?_) (fun _ => ?_)
  · refine x_null dX11_property_12 ?_
    refine x_goto (tgt := 25) dX11_property_13 (by decide) ?_
    exact x_weak (by exact ⟨rfl, ⟨rfl, ⟨rfl, trivial⟩⟩⟩) (hj25 (none, M1))
  · refine x_aload dX11_property_16 rfl ?_
    refine gfX11_124 rfl dX11_property_18 (fun x28 => ?_)
    refine x_iload_n dX11_property_21 rfl ?_
    refine cmX11_130 rfl hs (Nat.le_of_ble_eq_true rfl) dX11_property_22 (fun x30 M29 => ?_)
    exact x_weak (by exact ⟨rfl, ⟨rfl, ⟨rfl, trivial⟩⟩⟩) (hj25 (x30, M29))
theorem s153 {l : Launch} {d : Nat} {rec : Nat → List Value → Mem → XA} (hS : Nonempty XS) (hs : XSnd l xmt rec d) : Snd1 l 153 (b153 rec) d := by
  intro as M r M' h0
  unfold b153 at h0
  obtain ⟨a0, l1, e1, h1⟩ := aR_inv h0
  obtain ⟨a1, l2, e2, h2⟩ := aI_inv h1
  obtain ⟨a2, l3, e3, h3⟩ := aI_inv h2
  obtain ⟨a3, l4, e4, h4⟩ := aI_inv h3
  obtain ⟨ez, h⟩ := aZ_inv h4
  subst ez
  subst e4
  subst e3
  subst e2
  subst e1
  exact xmet (M := M) (as := [va_rf a0, .int a1, .int a2, .int a3]) (lo := [some (va_rf a0), some (.int a1), some (.int a2), some (.int a3)]) 153 xq153 xm153 (by rw [xargs_rf, xargs_i, xargs_i, xargs_i, xargs_nil]; exact ⟨rfl, ⟨rfl, ⟨rfl, ⟨rfl, trivial⟩⟩⟩⟩) (by rw [xargs_rf, xargs_i, xargs_i, xargs_i, xargs_nil]; exact Nat.le_of_ble_eq_true rfl) (fun S G K => x_weak (by exact ⟨rfl, ⟨rfl, ⟨rfl, ⟨rfl, trivial⟩⟩⟩⟩) (k153 hs a0 a1 a2 a3 M)) h hS
set_option maxRecDepth 100000 in
def c154 (rec : Nat → List Value → Mem → XA) (a0 : Option Nat) (a1 : Int32) (M0 : Mem) : XA :=
  gtI (12, 19) M0 a0 13 fun x1 =>
  jn (fun (s2 : Unit) =>
    some (.int ((-1 : Int32)), M0)) fun j23 =>
  if x1 = ((-2 : Int32)) then (
    j23 ()) else (
    if a1 < ((-2 : Int32)) then (
      j23 ()) else (
      gtI (12, 19) M0 a0 13 fun x3 =>
      if a1 < x3 then (
        jn (fun (s4 : Int32) =>
          some (.int s4, M0)) fun j60 =>
        if a1 = ((-2 : Int32)) then (
          gtP (12, 19) M0 a0 12 fun x5 =>
          alI 100 M0 x5 ((5 : Int32)) fun x6 =>
          j60 x6) else (
          if a1 = ((-1 : Int32)) then (
            gtP (12, 19) M0 a0 12 fun x7 =>
            alI 100 M0 x7 ((4 : Int32)) fun x8 =>
            j60 x8) else (
            gtP (12, 19) M0 a0 12 fun x9 =>
            alI 100 M0 x9 a1 fun x10 =>
            j60 x10))) else (
        j23 ())))
def b154 (rec : Nat → List Value → Mem → XA) (as : List Value) (M0 : Mem) : XA := aR as fun a0 as => aI as fun a1 as => aZ as (c154 rec a0 a1 M0)
set_option maxRecDepth 100000 in
set_option maxHeartbeats 4000000 in
theorem k154 {S : XS} {G : XG} {K : Nat × Nat} {l : Launch} {d : Nat} {rec : Nat → List Value → Mem → XA} (hs : XSnd l xmt rec d) (a0 : Option Nat) (a1 : Int32) (M0 : Mem) : Xe S G K l (yX11_small, cX11_small, 2, some .int) d 0 [some (va_rf a0), some (.int a1)] [] M0 (c154 rec a0 a1 M0) := by
  unfold c154
  refine x_aload_n dX11_small_0 rfl ?_
  refine gfX11_57 rfl dX11_small_1 (fun x1 => ?_)
  refine x_bipush (v := -2) dX11_small_4 (by decide) ?_
  refine x_jn (σ := Unit) 23 (fun s2 => [none, none]) (fun s2 => []) (fun s2 => M0) (fun s2 => ?_) (fun j23 hj23 => ?_)
  · refine x_iconst (v := -1) dX11_small_23 (by decide) ?_
    exact x_iret rfl dX11_small_24
  refine x_icmp_eq (tgt := 23) dX11_small_6 (by decide) (fun _ => ?_) (fun _ => ?_)
  · exact x_weak (by exact trivial) (hj23 ())
  · refine x_iload_n dX11_small_9 rfl ?_
    refine x_bipush (v := -2) dX11_small_10 (by decide) ?_
    refine x_icmp_lt (tgt := 23) dX11_small_12 (by decide) (fun _ => ?_) (fun _ => ?_)
    · exact x_weak (by exact trivial) (hj23 ())
    · refine x_iload_n dX11_small_15 rfl ?_
      refine x_aload_n dX11_small_16 rfl ?_
      refine gfX11_57 rfl dX11_small_17 (fun x3 => ?_)
      refine x_icmp_lt (tgt := 25) dX11_small_20 (by decide) (fun _ => ?_) (fun _ => ?_)
      · refine x_iload_n dX11_small_25 rfl ?_
        refine x_bipush (v := -2) dX11_small_26 (by decide) ?_
        refine x_jn (σ := Int32) 60 (fun s4 => [none, none]) (fun s4 => [.int s4]) (fun s4 => M0) (fun s4 => ?_) (fun j60 hj60 => ?_)
        · exact x_iret rfl dX11_small_60
        refine x_icmp_ne (tgt := 40) dX11_small_28 (by decide) (fun _ => ?_) (fun _ => ?_)
        · refine x_aload_n dX11_small_31 rfl ?_
          refine gfX11_54 rfl dX11_small_32 (fun x5 => ?_)
          refine x_iconst (v := 5) dX11_small_35 (by decide) ?_
          refine x_iald dX11_small_36 (fun x6 => ?_)
          refine x_goto (tgt := 60) dX11_small_37 (by decide) ?_
          exact x_weak (by exact trivial) (hj60 x6)
        · refine x_iload_n dX11_small_40 rfl ?_
          refine x_iconst (v := -1) dX11_small_41 (by decide) ?_
          refine x_icmp_ne (tgt := 54) dX11_small_42 (by decide) (fun _ => ?_) (fun _ => ?_)
          · refine x_aload_n dX11_small_45 rfl ?_
            refine gfX11_54 rfl dX11_small_46 (fun x7 => ?_)
            refine x_iconst (v := 4) dX11_small_49 (by decide) ?_
            refine x_iald dX11_small_50 (fun x8 => ?_)
            refine x_goto (tgt := 60) dX11_small_51 (by decide) ?_
            exact x_weak (by exact trivial) (hj60 x8)
          · refine x_aload_n dX11_small_54 rfl ?_
            refine gfX11_54 rfl dX11_small_55 (fun x9 => ?_)
            refine x_iload_n dX11_small_58 rfl ?_
            refine x_iald dX11_small_59 (fun x10 => ?_)
            exact x_weak (by exact trivial) (hj60 x10)
      · exact x_weak (by exact trivial) (hj23 ())
theorem s154 {l : Launch} {d : Nat} {rec : Nat → List Value → Mem → XA} (hS : Nonempty XS) (hs : XSnd l xmt rec d) : Snd1 l 154 (b154 rec) d := by
  intro as M r M' h0
  unfold b154 at h0
  obtain ⟨a0, l1, e1, h1⟩ := aR_inv h0
  obtain ⟨a1, l2, e2, h2⟩ := aI_inv h1
  obtain ⟨ez, h⟩ := aZ_inv h2
  subst ez
  subst e2
  subst e1
  exact xmet (M := M) (as := [va_rf a0, .int a1]) (lo := [some (va_rf a0), some (.int a1)]) 154 xq154 xm154 (by rw [xargs_rf, xargs_i, xargs_nil]; exact ⟨rfl, ⟨rfl, trivial⟩⟩) (by rw [xargs_rf, xargs_i, xargs_nil]; exact Nat.le_of_ble_eq_true rfl) (fun S G K => x_weak (by exact ⟨rfl, ⟨rfl, trivial⟩⟩) (k154 hs a0 a1 M)) h hS
set_option maxRecDepth 100000 in
def c155 (rec : Nat → List Value → Mem → XA) (a0 : Option Nat) (a1 : Int32) (a2 : Int32) (M0 : Mem) : XA :=
  jn (fun (s1 : Int32 × Mem) =>
    some (.int s1.1, s1.2)) fun j22 =>
  jn (fun (s2 : Mem) =>
    j22 ((-2 : Int32), s2)) fun j12 =>
  if a2 < 0 then (
    j12 M0) else (
    cI (rec 180 [.int a1] M0) fun x4 M3 =>
    if a2 < x4 then (
      cI (rec 181 [.int a1, .int a2] M3) fun x6 M5 =>
      j22 (x6, M5)) else (
      j12 M3))
def b155 (rec : Nat → List Value → Mem → XA) (as : List Value) (M0 : Mem) : XA := aR as fun a0 as => aI as fun a1 as => aI as fun a2 as => aZ as (c155 rec a0 a1 a2 M0)
set_option maxRecDepth 100000 in
set_option maxHeartbeats 4000000 in
theorem k155 {S : XS} {G : XG} {K : Nat × Nat} {l : Launch} {d : Nat} {rec : Nat → List Value → Mem → XA} (hs : XSnd l xmt rec d) (a0 : Option Nat) (a1 : Int32) (a2 : Int32) (M0 : Mem) : Xe S G K l (yX11_smaller, cX11_smaller, 3, some .int) d 0 [some (va_rf a0), some (.int a1), some (.int a2)] [] M0 (c155 rec a0 a1 a2 M0) := by
  unfold c155
  refine x_iload_n dX11_smaller_0 rfl ?_
  refine x_jn (σ := Int32 × Mem) 22 (fun s1 => [none, none, none]) (fun s1 => [.int s1.1]) (fun s1 => s1.2) (fun s1 => ?_) (fun j22 hj22 => ?_)
  · exact x_iret rfl dX11_smaller_22
  refine x_jn (σ := Mem) 12 (fun s2 => [none, none, none]) (fun s2 => []) (fun s2 => s2) (fun s2 => ?_) (fun j12 hj12 => ?_)
  · refine x_bipush (v := -2) dX11_smaller_12 (by decide) ?_
    refine x_goto (tgt := 22) dX11_smaller_14 (by decide) ?_
    exact x_weak (by exact trivial) (hj22 ((-2 : Int32), s2))
  refine x_if_lt (tgt := 12) dX11_smaller_1 (by decide) (fun _ => ?_) (fun _ => ?_)
  · exact x_weak (by exact trivial) (hj12 M0)
  · refine x_iload_n dX11_smaller_4 rfl ?_
    refine x_iload_n dX11_smaller_5 rfl ?_
    refine cmX11_332 rfl hs (Nat.le_of_ble_eq_true rfl) dX11_smaller_6 (fun x4 M3 => ?_)
    refine x_icmp_lt (tgt := 17) dX11_smaller_9 (by decide) (fun _ => ?_) (fun _ => ?_)
    · refine x_iload_n dX11_smaller_17 rfl ?_
      refine x_iload_n dX11_smaller_18 rfl ?_
      refine cmX11_335 rfl hs (Nat.le_of_ble_eq_true rfl) dX11_smaller_19 (fun x6 M5 => ?_)
      exact x_weak (by exact trivial) (hj22 (x6, M5))
    · exact x_weak (by exact trivial) (hj12 M3)
theorem s155 {l : Launch} {d : Nat} {rec : Nat → List Value → Mem → XA} (hS : Nonempty XS) (hs : XSnd l xmt rec d) : Snd1 l 155 (b155 rec) d := by
  intro as M r M' h0
  unfold b155 at h0
  obtain ⟨a0, l1, e1, h1⟩ := aR_inv h0
  obtain ⟨a1, l2, e2, h2⟩ := aI_inv h1
  obtain ⟨a2, l3, e3, h3⟩ := aI_inv h2
  obtain ⟨ez, h⟩ := aZ_inv h3
  subst ez
  subst e3
  subst e2
  subst e1
  exact xmet (M := M) (as := [va_rf a0, .int a1, .int a2]) (lo := [some (va_rf a0), some (.int a1), some (.int a2)]) 155 xq155 xm155 (by rw [xargs_rf, xargs_i, xargs_i, xargs_nil]; exact ⟨rfl, ⟨rfl, ⟨rfl, trivial⟩⟩⟩) (by rw [xargs_rf, xargs_i, xargs_i, xargs_nil]; exact Nat.le_of_ble_eq_true rfl) (fun S G K => x_weak (by exact ⟨rfl, ⟨rfl, ⟨rfl, trivial⟩⟩⟩) (k155 hs a0 a1 a2 M)) h hS
set_option maxRecDepth 100000 in
def c156 (rec : Nat → List Value → Mem → XA) (a0 : Option Nat) (a1 : Int32) (M0 : Mem) : XA :=
  jn (fun (s1 : Unit) =>
    some (.int ((-1 : Int32)), M0)) fun j9 =>
  if a1 < 0 then (
    j9 ()) else (
    if a1 ≤ ((2 : Int32)) then (
      gtP (12, 19) M0 a0 5 fun x2 =>
      vC (0, 3) M0 x2 <|
      cI (rec 346 [va_rf x2] M0) fun x4 M3 =>
      if x4 < ((8 : Int32)) then (
        gtP (12, 19) M3 a0 5 fun x5 =>
        nO (2, 7) M3 fun x6 M7 =>
        vC (2, 7) M7 x6 <|
        cV (rec 5 [va_rf x6, .int a1] M7) fun M8 =>
        vC (0, 3) M8 x5 <|
        cI (rec 350 [va_rf x5, va_rf x6] M8) fun x10 M9 =>
        gtP (12, 19) M9 a0 5 fun x11 =>
        vC (0, 3) M9 x11 <|
        cI (rec 346 [va_rf x11] M9) fun x13 M12 =>
        some (.int (x13 - ((1 : Int32))), M12)) else (
        some (.int ((-3 : Int32)), M3))) else (
      j9 ()))
def b156 (rec : Nat → List Value → Mem → XA) (as : List Value) (M0 : Mem) : XA := aR as fun a0 as => aI as fun a1 as => aZ as (c156 rec a0 a1 M0)
set_option maxRecDepth 100000 in
set_option maxHeartbeats 4000000 in
theorem k156 {S : XS} {G : XG} {K : Nat × Nat} {l : Launch} {d : Nat} {rec : Nat → List Value → Mem → XA} (hs : XSnd l xmt rec d) (a0 : Option Nat) (a1 : Int32) (M0 : Mem) : Xe S G K l (yX11_history, cX11_history, 2, some .int) d 0 [some (va_rf a0), some (.int a1)] [] M0 (c156 rec a0 a1 M0) := by
  unfold c156
  refine x_iload_n dX11_history_0 rfl ?_
  refine x_jn (σ := Unit) 9 (fun s1 => [none, none]) (fun s1 => []) (fun s1 => M0) (fun s1 => ?_) (fun j9 hj9 => ?_)
  · refine x_iconst (v := -1) dX11_history_9 (by decide) ?_
    exact x_iret rfl dX11_history_10
  refine x_if_lt (tgt := 9) dX11_history_1 (by decide) (fun _ => ?_) (fun _ => ?_)
  · exact x_weak (by exact trivial) (hj9 ())
  · refine x_iload_n dX11_history_4 rfl ?_
    refine x_iconst (v := 2) dX11_history_5 (by decide) ?_
    refine x_icmp_le (tgt := 11) dX11_history_6 (by decide) (fun _ => ?_) (fun _ => ?_)
    · refine x_aload_n dX11_history_11 rfl ?_
      refine gfX11_33 rfl dX11_history_12 (fun x2 => ?_)
      refine cmX11_88 rfl hs (Nat.le_of_ble_eq_true rfl) dX11_history_15 (fun x4 M3 => ?_)
      refine x_bipush (v := 8) dX11_history_18 (by decide) ?_
      refine x_icmp_lt (tgt := 26) dX11_history_20 (by decide) (fun _ => ?_) (fun _ => ?_)
      · refine x_aload_n dX11_history_26 rfl ?_
        refine gfX11_33 rfl dX11_history_27 (fun x5 => ?_)
        refine nwX11_338 rfl dX11_history_30 (fun x6 M7 => ?_)
        refine x_dup dX11_history_33 (xc1_r _) ?_
        refine x_iload_n dX11_history_34 rfl ?_
        refine cmX11_340 rfl hs (Nat.le_of_ble_eq_true rfl) dX11_history_35 (fun M8 => ?_)
        refine cmX11_106 rfl hs (Nat.le_of_ble_eq_true rfl) dX11_history_38 (fun x10 M9 => ?_)
        refine x_pop dX11_history_41 (xc1_i _) ?_
        refine x_aload_n dX11_history_42 rfl ?_
        refine gfX11_33 rfl dX11_history_43 (fun x11 => ?_)
        refine cmX11_88 rfl hs (Nat.le_of_ble_eq_true rfl) dX11_history_46 (fun x13 M12 => ?_)
        refine x_iconst (v := 1) dX11_history_49 (by decide) ?_
        refine x_isub dX11_history_50 ?_
        exact x_iret rfl dX11_history_51
      · refine x_bipush (v := -3) dX11_history_23 (by decide) ?_
        exact x_iret rfl dX11_history_25
    · exact x_weak (by exact trivial) (hj9 ())
theorem s156 {l : Launch} {d : Nat} {rec : Nat → List Value → Mem → XA} (hS : Nonempty XS) (hs : XSnd l xmt rec d) : Snd1 l 156 (b156 rec) d := by
  intro as M r M' h0
  unfold b156 at h0
  obtain ⟨a0, l1, e1, h1⟩ := aR_inv h0
  obtain ⟨a1, l2, e2, h2⟩ := aI_inv h1
  obtain ⟨ez, h⟩ := aZ_inv h2
  subst ez
  subst e2
  subst e1
  exact xmet (M := M) (as := [va_rf a0, .int a1]) (lo := [some (va_rf a0), some (.int a1)]) 156 xq156 xm156 (by rw [xargs_rf, xargs_i, xargs_nil]; exact ⟨rfl, ⟨rfl, trivial⟩⟩) (by rw [xargs_rf, xargs_i, xargs_nil]; exact Nat.le_of_ble_eq_true rfl) (fun S G K => x_weak (by exact ⟨rfl, ⟨rfl, trivial⟩⟩) (k156 hs a0 a1 M)) h hS
set_option maxRecDepth 100000 in
def c157 (rec : Nat → List Value → Mem → XA) (a0 : Option Nat) (a1 : Int32) (a2 : Int32) (a3 : Int32) (a4 : Int32) (a5 : Int32) (a6 : Int32) (M0 : Mem) : XA :=
  vC (12, 19) M0 a0 <|
  cP (rec 171 [va_rf a0, .int a1] M0) fun x2 M1 =>
  jn (fun (s3 : Unit) =>
    some (.int ((-1 : Int32)), M1)) fun j41 =>
  if x2 = none then (
    j41 ()) else (
    if a2 < 0 then (
      j41 ()) else (
      if ((1 : Int32)) < a2 then (
        j41 ()) else (
        if a5 < 0 then (
          j41 ()) else (
          if ((1000 : Int32)) < a6 then (
            j41 ()) else (
            if a5 ≤ a6 then (
              gtI (2, 7) M1 x2 1 fun x4 =>
              jn (fun (s5 : Int32 × Mem) =>
                some (.int s5.1, s5.2)) fun j71 =>
              if x4 < ((8 : Int32)) then (
                vC (2, 7) M1 x2 <|
                cI (rec 6 [va_rf x2, .int a2, .int a3, .int a4, .int a5, .int a6] M1) fun x7 M6 =>
                j71 (x7, M6)) else (
                j71 ((-3 : Int32), M1))) else (
              j41 ()))))))
def b157 (rec : Nat → List Value → Mem → XA) (as : List Value) (M0 : Mem) : XA := aR as fun a0 as => aI as fun a1 as => aI as fun a2 as => aI as fun a3 as => aI as fun a4 as => aI as fun a5 as => aI as fun a6 as => aZ as (c157 rec a0 a1 a2 a3 a4 a5 a6 M0)
set_option maxRecDepth 100000 in
set_option maxHeartbeats 4000000 in
theorem k157 {S : XS} {G : XG} {K : Nat × Nat} {l : Launch} {d : Nat} {rec : Nat → List Value → Mem → XA} (hs : XSnd l xmt rec d) (a0 : Option Nat) (a1 : Int32) (a2 : Int32) (a3 : Int32) (a4 : Int32) (a5 : Int32) (a6 : Int32) (M0 : Mem) : Xe S G K l (yX11_op, cX11_op, 8, some .int) d 0 [some (va_rf a0), some (.int a1), some (.int a2), some (.int a3), some (.int a4), some (.int a5), some (.int a6), none] [] M0 (c157 rec a0 a1 a2 a3 a4 a5 a6 M0) := by
  unfold c157
  refine x_aload_n dX11_op_0 rfl ?_
  refine x_iload_n dX11_op_1 rfl ?_
  refine cmX11_342 rfl hs (Nat.le_of_ble_eq_true rfl) dX11_op_2 (fun x2 M1 => ?_)
  refine x_astore (lo' := [some (va_rf a0), some (.int a1), some (.int a2), some (.int a3), some (.int a4), some (.int a5), some (.int a6), some (va_rf x2)]) dX11_op_5 (by decide) rfl rfl ?_
  refine x_aload dX11_op_7 rfl ?_
  refine x_jn (σ := Unit) 41 (fun s3 => [none, none, none, none, none, none, none, none]) (fun s3 => []) (fun s3 => M1) (fun s3 => ?_) (fun j41 hj41 => ?_)
  · refine x_iconst (v := -1) dX11_op_41 (by decide) ?_
    exact x_iret rfl dX11_op_42
  refine x_ifnull (tgt := 41) dX11_op_9 (by decide) (fun _ => ?_) (fun _ => ?_)
  · exact x_weak (by exact trivial) (hj41 ())
  · refine x_iload_n dX11_op_12 rfl ?_
    refine x_if_lt (tgt := 41) dX11_op_13 (by decide) (fun _ => ?_) (fun _ => ?_)
    · exact x_weak (by exact trivial) (hj41 ())
    · refine x_iload_n dX11_op_16 rfl ?_
      refine x_iconst (v := 1) dX11_op_17 (by decide) ?_
      refine x_icmp_gt (tgt := 41) dX11_op_18 (by decide) (fun _ => ?_) (fun _ => ?_)
      · exact x_weak (by exact trivial) (hj41 ())
      · refine x_iload dX11_op_21 rfl ?_
        refine x_if_lt (tgt := 41) dX11_op_23 (by decide) (fun _ => ?_) (fun _ => ?_)
        · exact x_weak (by exact trivial) (hj41 ())
        · refine x_iload dX11_op_26 rfl ?_
          refine x_sipush (v := 1000) dX11_op_28 (by decide) ?_
          refine x_icmp_gt (tgt := 41) dX11_op_31 (by decide) (fun _ => ?_) (fun _ => ?_)
          · exact x_weak (by exact trivial) (hj41 ())
          · refine x_iload dX11_op_34 rfl ?_
            refine x_iload dX11_op_36 rfl ?_
            refine x_icmp_le (tgt := 43) dX11_op_38 (by decide) (fun _ => ?_) (fun _ => ?_)
            · refine x_aload dX11_op_43 rfl ?_
              refine gfX11_346 rfl dX11_op_45 (fun x4 => ?_)
              refine x_bipush (v := 8) dX11_op_48 (by decide) ?_
              refine x_jn (σ := Int32 × Mem) 71 (fun s5 => [none, none, none, none, none, none, none, none]) (fun s5 => [.int s5.1]) (fun s5 => s5.2) (fun s5 => ?_) (fun j71 hj71 => ?_)
              · exact x_iret rfl dX11_op_71
              refine x_icmp_lt (tgt := 58) dX11_op_50 (by decide) (fun _ => ?_) (fun _ => ?_)
              · refine x_aload dX11_op_58 rfl ?_
                refine x_iload_n dX11_op_60 rfl ?_
                refine x_iload_n dX11_op_61 rfl ?_
                refine x_iload dX11_op_62 rfl ?_
                refine x_iload dX11_op_64 rfl ?_
                refine x_iload dX11_op_66 rfl ?_
                refine cmX11_347 rfl hs (Nat.le_of_ble_eq_true rfl) dX11_op_68 (fun x7 M6 => ?_)
                exact x_weak (by exact trivial) (hj71 (x7, M6))
              · refine x_bipush (v := -3) dX11_op_53 (by decide) ?_
                refine x_goto (tgt := 71) dX11_op_55 (by decide) ?_
                exact x_weak (by exact trivial) (hj71 ((-3 : Int32), M1))
            · exact x_weak (by exact trivial) (hj41 ())
theorem s157 {l : Launch} {d : Nat} {rec : Nat → List Value → Mem → XA} (hS : Nonempty XS) (hs : XSnd l xmt rec d) : Snd1 l 157 (b157 rec) d := by
  intro as M r M' h0
  unfold b157 at h0
  obtain ⟨a0, l1, e1, h1⟩ := aR_inv h0
  obtain ⟨a1, l2, e2, h2⟩ := aI_inv h1
  obtain ⟨a2, l3, e3, h3⟩ := aI_inv h2
  obtain ⟨a3, l4, e4, h4⟩ := aI_inv h3
  obtain ⟨a4, l5, e5, h5⟩ := aI_inv h4
  obtain ⟨a5, l6, e6, h6⟩ := aI_inv h5
  obtain ⟨a6, l7, e7, h7⟩ := aI_inv h6
  obtain ⟨ez, h⟩ := aZ_inv h7
  subst ez
  subst e7
  subst e6
  subst e5
  subst e4
  subst e3
  subst e2
  subst e1
  exact xmet (M := M) (as := [va_rf a0, .int a1, .int a2, .int a3, .int a4, .int a5, .int a6]) (lo := [some (va_rf a0), some (.int a1), some (.int a2), some (.int a3), some (.int a4), some (.int a5), some (.int a6)]) 157 xq157 xm157 (by rw [xargs_rf, xargs_i, xargs_i, xargs_i, xargs_i, xargs_i, xargs_i, xargs_nil]; exact ⟨rfl, ⟨rfl, ⟨rfl, ⟨rfl, ⟨rfl, ⟨rfl, ⟨rfl, trivial⟩⟩⟩⟩⟩⟩⟩) (by rw [xargs_rf, xargs_i, xargs_i, xargs_i, xargs_i, xargs_i, xargs_i, xargs_nil]; exact Nat.le_of_ble_eq_true rfl) (fun S G K => x_weak (by exact ⟨rfl, ⟨rfl, ⟨rfl, ⟨rfl, ⟨rfl, ⟨rfl, ⟨rfl, trivial⟩⟩⟩⟩⟩⟩⟩) (k157 hs a0 a1 a2 a3 a4 a5 a6 M)) h hS
set_option maxRecDepth 100000 in
def c158 (rec : Nat → List Value → Mem → XA) (a0 : Option Nat) (a1 : Int32) (M0 : Mem) : XA :=
  vC (12, 19) M0 a0 <|
  cP (rec 171 [va_rf a0, .int a1] M0) fun x2 M1 =>
  if x2 = none then (
    some (.int ((-1 : Int32)), M1)) else (
    vC (2, 7) M1 x2 <|
    cI (rec 7 [va_rf x2] M1) fun x4 M3 =>
    jn (fun (s5 : Int32) =>
      some (.int s5, M3)) fun j24 =>
    if x4 = 0 then (
      j24 ((0 : Int32))) else (
      j24 ((1 : Int32))))
def b158 (rec : Nat → List Value → Mem → XA) (as : List Value) (M0 : Mem) : XA := aR as fun a0 as => aI as fun a1 as => aZ as (c158 rec a0 a1 M0)
set_option maxRecDepth 100000 in
set_option maxHeartbeats 4000000 in
theorem k158 {S : XS} {G : XG} {K : Nat × Nat} {l : Launch} {d : Nat} {rec : Nat → List Value → Mem → XA} (hs : XSnd l xmt rec d) (a0 : Option Nat) (a1 : Int32) (M0 : Mem) : Xe S G K l (yX11_linear, cX11_linear, 3, some .int) d 0 [some (va_rf a0), some (.int a1), none] [] M0 (c158 rec a0 a1 M0) := by
  unfold c158
  refine x_aload_n dX11_linear_0 rfl ?_
  refine x_iload_n dX11_linear_1 rfl ?_
  refine cmX11_342 rfl hs (Nat.le_of_ble_eq_true rfl) dX11_linear_2 (fun x2 M1 => ?_)
  refine x_astore_n (lo' := [some (va_rf a0), some (.int a1), some (va_rf x2)]) dX11_linear_5 (by decide) rfl rfl ?_
  refine x_aload_n dX11_linear_6 rfl ?_
  refine x_ifnonnull (tgt := 12) dX11_linear_7 (by decide) (fun _ => ?_) (fun _ => ?_)
  · refine x_iconst (v := -1) dX11_linear_10 (by decide) ?_
    exact x_iret rfl dX11_linear_11
  · refine x_aload_n dX11_linear_12 rfl ?_
    refine cmX11_350 rfl hs (Nat.le_of_ble_eq_true rfl) dX11_linear_13 (fun x4 M3 => ?_)
    refine x_jn (σ := Int32) 24 (fun s5 => [none, none, none]) (fun s5 => [.int s5]) (fun s5 => M3) (fun s5 => ?_) (fun j24 hj24 => ?_)
    · exact x_iret rfl dX11_linear_24
    refine x_if_eq (tgt := 23) dX11_linear_16 (by decide) (fun _ => ?_) (fun _ => ?_)
    · refine x_iconst (v := 0) dX11_linear_23 (by decide) ?_
      exact x_weak (by exact trivial) (hj24 ((0 : Int32)))
    · refine x_iconst (v := 1) dX11_linear_19 (by decide) ?_
      refine x_goto (tgt := 24) dX11_linear_20 (by decide) ?_
      exact x_weak (by exact trivial) (hj24 ((1 : Int32)))
theorem s158 {l : Launch} {d : Nat} {rec : Nat → List Value → Mem → XA} (hS : Nonempty XS) (hs : XSnd l xmt rec d) : Snd1 l 158 (b158 rec) d := by
  intro as M r M' h0
  unfold b158 at h0
  obtain ⟨a0, l1, e1, h1⟩ := aR_inv h0
  obtain ⟨a1, l2, e2, h2⟩ := aI_inv h1
  obtain ⟨ez, h⟩ := aZ_inv h2
  subst ez
  subst e2
  subst e1
  exact xmet (M := M) (as := [va_rf a0, .int a1]) (lo := [some (va_rf a0), some (.int a1)]) 158 xq158 xm158 (by rw [xargs_rf, xargs_i, xargs_nil]; exact ⟨rfl, ⟨rfl, trivial⟩⟩) (by rw [xargs_rf, xargs_i, xargs_nil]; exact Nat.le_of_ble_eq_true rfl) (fun S G K => x_weak (by exact ⟨rfl, ⟨rfl, trivial⟩⟩) (k158 hs a0 a1 M)) h hS
set_option maxRecDepth 100000 in
def c159 (rec : Nat → List Value → Mem → XA) (a0 : Option Nat) (a1 : Int32) (a2 : Int32) (M0 : Mem) : XA :=
  vC (12, 19) M0 a0 <|
  cP (rec 171 [va_rf a0, .int a1] M0) fun x2 M1 =>
  jn (fun (s3 : Unit) =>
    some (.int ((-1 : Int32)), M1)) fun j22 =>
  if x2 = none then (
    j22 ()) else (
    if a2 < 0 then (
      j22 ()) else (
      gtI (2, 7) M1 x2 1 fun x4 =>
      if a2 < x4 then (
        vC (2, 7) M1 x2 <|
        cI (rec 7 [va_rf x2] M1) fun x6 M5 =>
        jn (fun (s7 : Int32) =>
          some (.int s7, M5)) fun j42 =>
        if x6 = 0 then (
          j42 ((-2 : Int32))) else (
          gtP (2, 7) M5 x2 0 fun x8 =>
          alI 100 M5 x8 a2 fun x9 =>
          j42 x9)) else (
        j22 ())))
def b159 (rec : Nat → List Value → Mem → XA) (as : List Value) (M0 : Mem) : XA := aR as fun a0 as => aI as fun a1 as => aI as fun a2 as => aZ as (c159 rec a0 a1 a2 M0)
set_option maxRecDepth 100000 in
set_option maxHeartbeats 4000000 in
theorem k159 {S : XS} {G : XG} {K : Nat × Nat} {l : Launch} {d : Nat} {rec : Nat → List Value → Mem → XA} (hs : XSnd l xmt rec d) (a0 : Option Nat) (a1 : Int32) (a2 : Int32) (M0 : Mem) : Xe S G K l (yX11_place, cX11_place, 4, some .int) d 0 [some (va_rf a0), some (.int a1), some (.int a2), none] [] M0 (c159 rec a0 a1 a2 M0) := by
  unfold c159
  refine x_aload_n dX11_place_0 rfl ?_
  refine x_iload_n dX11_place_1 rfl ?_
  refine cmX11_342 rfl hs (Nat.le_of_ble_eq_true rfl) dX11_place_2 (fun x2 M1 => ?_)
  refine x_astore_n (lo' := [some (va_rf a0), some (.int a1), some (.int a2), some (va_rf x2)]) dX11_place_5 (by decide) rfl rfl ?_
  refine x_aload_n dX11_place_6 rfl ?_
  refine x_jn (σ := Unit) 22 (fun s3 => [none, none, none, none]) (fun s3 => []) (fun s3 => M1) (fun s3 => ?_) (fun j22 hj22 => ?_)
  · refine x_iconst (v := -1) dX11_place_22 (by decide) ?_
    exact x_iret rfl dX11_place_23
  refine x_ifnull (tgt := 22) dX11_place_7 (by decide) (fun _ => ?_) (fun _ => ?_)
  · exact x_weak (by exact trivial) (hj22 ())
  · refine x_iload_n dX11_place_10 rfl ?_
    refine x_if_lt (tgt := 22) dX11_place_11 (by decide) (fun _ => ?_) (fun _ => ?_)
    · exact x_weak (by exact trivial) (hj22 ())
    · refine x_iload_n dX11_place_14 rfl ?_
      refine x_aload_n dX11_place_15 rfl ?_
      refine gfX11_346 rfl dX11_place_16 (fun x4 => ?_)
      refine x_icmp_lt (tgt := 24) dX11_place_19 (by decide) (fun _ => ?_) (fun _ => ?_)
      · refine x_aload_n dX11_place_24 rfl ?_
        refine cmX11_350 rfl hs (Nat.le_of_ble_eq_true rfl) dX11_place_25 (fun x6 M5 => ?_)
        refine x_jn (σ := Int32) 42 (fun s7 => [none, none, none, none]) (fun s7 => [.int s7]) (fun s7 => M5) (fun s7 => ?_) (fun j42 hj42 => ?_)
        · exact x_iret rfl dX11_place_42
        refine x_if_eq (tgt := 40) dX11_place_28 (by decide) (fun _ => ?_) (fun _ => ?_)
        · refine x_bipush (v := -2) dX11_place_40 (by decide) ?_
          exact x_weak (by exact trivial) (hj42 ((-2 : Int32)))
        · refine x_aload_n dX11_place_31 rfl ?_
          refine gfX11_353 rfl dX11_place_32 (fun x8 => ?_)
          refine x_iload_n dX11_place_35 rfl ?_
          refine x_iald dX11_place_36 (fun x9 => ?_)
          refine x_goto (tgt := 42) dX11_place_37 (by decide) ?_
          exact x_weak (by exact trivial) (hj42 x9)
      · exact x_weak (by exact trivial) (hj22 ())
theorem s159 {l : Launch} {d : Nat} {rec : Nat → List Value → Mem → XA} (hS : Nonempty XS) (hs : XSnd l xmt rec d) : Snd1 l 159 (b159 rec) d := by
  intro as M r M' h0
  unfold b159 at h0
  obtain ⟨a0, l1, e1, h1⟩ := aR_inv h0
  obtain ⟨a1, l2, e2, h2⟩ := aI_inv h1
  obtain ⟨a2, l3, e3, h3⟩ := aI_inv h2
  obtain ⟨ez, h⟩ := aZ_inv h3
  subst ez
  subst e3
  subst e2
  subst e1
  exact xmet (M := M) (as := [va_rf a0, .int a1, .int a2]) (lo := [some (va_rf a0), some (.int a1), some (.int a2)]) 159 xq159 xm159 (by rw [xargs_rf, xargs_i, xargs_i, xargs_nil]; exact ⟨rfl, ⟨rfl, ⟨rfl, trivial⟩⟩⟩) (by rw [xargs_rf, xargs_i, xargs_i, xargs_nil]; exact Nat.le_of_ble_eq_true rfl) (fun S G K => x_weak (by exact ⟨rfl, ⟨rfl, ⟨rfl, trivial⟩⟩⟩) (k159 hs a0 a1 a2 M)) h hS
set_option maxRecDepth 100000 in
def c160 (rec : Nat → List Value → Mem → XA) (a0 : Option Nat) (a1 : Int32) (a2 : Int32) (M0 : Mem) : XA :=
  vC (12, 19) M0 a0 <|
  cP (rec 167 [va_rf a0, .int a1] M0) fun x2 M1 =>
  cP (rec 169 [va_rf x2, .int a2] M1) fun x4 M3 =>
  if x4 = none then (
    some (.int ((-1 : Int32)), M3)) else (
    gtP (12, 19) M3 a0 2 fun x5 =>
    vC (4, 22) M3 x5 <|
    cV (rec 19 [va_rf x5, va_rf x2, .int ((20000 : Int32))] M3) fun M6 =>
    gtP (12, 19) M6 a0 2 fun x7 =>
    gtP (12, 19) M6 a0 8 fun x8 =>
    ptP (4, 22) M6 x7 4 x8 fun M9 =>
    gtP (12, 19) M9 a0 8 fun x10 =>
    vC (3, 7) M9 x10 <|
    cV (rec 12 [va_rf x10] M9) fun M11 =>
    lp (fun (s12 : Int32 × Int32 × Mem) j55 =>
      jn (fun (s13 : Unit) =>
        if s12.2.1 = 0 then (
          gtP (12, 19) s12.2.2 a0 8 fun x14 =>
          gtI (3, 7) s12.2.2 x14 2 fun x15 =>
          if x15 = 0 then (
            gtP (12, 19) s12.2.2 a0 8 fun x16 =>
            gtL (3, 7) s12.2.2 x16 0 fun x17 =>
            ptI (12, 19) s12.2.2 a0 9 x17.toInt32 fun M18 =>
            gtP (12, 19) M18 a0 8 fun x19 =>
            gtL (3, 7) M18 x19 1 fun x20 =>
            ptI (12, 19) M18 a0 10 x20.toInt32 fun M21 =>
            some (.int s12.1, M21)) else (
            some (.int ((-5 : Int32)), s12.2.2))) else (
          some (.int ((-4 : Int32)), s12.2.2))) fun j140 =>
      if ((400 : Int32)) ≤ s12.1 then (
        j140 ()) else (
        if s12.2.1 = 0 then (
          j140 ()) else (
          gtP (12, 19) s12.2.2 a0 8 fun x22 =>
          vC (3, 7) s12.2.2 x22 <|
          cV (rec 13 [va_rf x22] s12.2.2) fun M23 =>
          gtP (12, 19) M23 a0 2 fun x24 =>
          vC (4, 22) M23 x24 <|
          cV (rec 23 [va_rf x24] M23) fun M25 =>
          gtP (12, 19) M25 a0 2 fun x26 =>
          vC (4, 22) M25 x26 <|
          cV (rec 25 [va_rf x26, va_rf x4] M25) fun M27 =>
          gtP (12, 19) M27 a0 2 fun x28 =>
          vC (4, 22) M27 x28 <|
          cI (rec 22 [va_rf x28] M27) fun x30 M29 =>
          if x30 = 0 then (
            gtP (12, 19) M29 a0 2 fun x31 =>
            gtP (4, 22) M29 x31 0 fun x32 =>
            gtI (5, 5) M29 x32 0 fun x33 =>
            jn (fun (s34 : Mem) =>
              gtP (12, 19) s34 a0 8 fun x35 =>
              vC (3, 7) s34 x35 <|
              cI (rec 15 [va_rf x35] s34) fun x37 M36 =>
              lt (s12.1 + (1 : Int32)) fun (x38 : Int32) =>
              j55 (x38, x37, M36)) fun j125 =>
            if x33 = ((1 : Int32)) then (
              gtP (12, 19) M29 a0 8 fun x39 =>
              vC (3, 7) M29 x39 <|
              cV (rec 16 [va_rf x39] M29) fun M40 =>
              j125 M40) else (
              j125 M29)) else (
            some (.int ((-4 : Int32)), M29))))) 4294967296 ((0 : Int32), (1 : Int32), M11))
def b160 (rec : Nat → List Value → Mem → XA) (as : List Value) (M0 : Mem) : XA := aR as fun a0 as => aI as fun a1 as => aI as fun a2 as => aZ as (c160 rec a0 a1 a2 M0)
set_option maxRecDepth 100000 in
set_option maxHeartbeats 4000000 in
theorem k160 {S : XS} {G : XG} {K : Nat × Nat} {l : Launch} {d : Nat} {rec : Nat → List Value → Mem → XA} (hs : XSnd l xmt rec d) (a0 : Option Nat) (a1 : Int32) (a2 : Int32) (M0 : Mem) : Xe S G K l (yX11_luck, cX11_luck, 7, some .int) d 0 [some (va_rf a0), some (.int a1), some (.int a2), none, none, none, none] [] M0 (c160 rec a0 a1 a2 M0) := by
  unfold c160
  refine x_aload_n dX11_luck_0 rfl ?_
  refine x_iload_n dX11_luck_1 rfl ?_
  refine cmX11_109 rfl hs (Nat.le_of_ble_eq_true rfl) dX11_luck_2 (fun x2 M1 => ?_)
  refine x_astore_n (lo' := [some (va_rf a0), some (.int a1), some (.int a2), some (va_rf x2), none, none, none]) dX11_luck_5 (by decide) rfl rfl ?_
  refine x_aload_n dX11_luck_6 rfl ?_
  refine x_iload_n dX11_luck_7 rfl ?_
  refine cmX11_152 rfl hs (Nat.le_of_ble_eq_true rfl) dX11_luck_8 (fun x4 M3 => ?_)
  refine x_astore (lo' := [some (va_rf a0), some (.int a1), some (.int a2), some (va_rf x2), some (va_rf x4), none, none]) dX11_luck_11 (by decide) (xok_r rfl) rfl ?_
  refine x_aload dX11_luck_13 rfl ?_
  refine x_ifnonnull (tgt := 20) dX11_luck_15 (by decide) (fun _ => ?_) (fun _ => ?_)
  · refine x_iconst (v := -1) dX11_luck_18 (by decide) ?_
    exact x_iret rfl dX11_luck_19
  · refine x_aload_n dX11_luck_20 rfl ?_
    refine gfX11_26 rfl dX11_luck_21 (fun x5 => ?_)
    refine x_aload_n dX11_luck_24 rfl ?_
    refine x_sipush (v := 20000) dX11_luck_25 (by decide) ?_
    refine cmX11_193 rfl hs (Nat.le_of_ble_eq_true rfl) dX11_luck_28 (fun M6 => ?_)
    refine x_aload_n dX11_luck_31 rfl ?_
    refine gfX11_26 rfl dX11_luck_32 (fun x7 => ?_)
    refine x_aload_n dX11_luck_35 rfl ?_
    refine gfX11_46 rfl dX11_luck_36 (fun x8 => ?_)
    refine pfX11_356 rfl dX11_luck_39 (fun M9 => ?_)
    refine x_aload_n dX11_luck_42 rfl ?_
    refine gfX11_46 rfl dX11_luck_43 (fun x10 => ?_)
    refine cmX11_359 rfl hs (Nat.le_of_ble_eq_true rfl) dX11_luck_46 (fun M11 => ?_)
    refine x_iconst (v := 0) dX11_luck_49 (by decide) ?_
    refine x_istore (lo' := [some (va_rf a0), some (.int a1), some (.int a2), some (va_rf x2), some (va_rf x4), some (.int ((0 : Int32))), none]) dX11_luck_50 (by decide) (xok_r rfl) rfl ?_
    refine x_iconst (v := 1) dX11_luck_52 (by decide) ?_
    refine x_istore (lo' := [some (va_rf a0), some (.int a1), some (.int a2), some (va_rf x2), some (va_rf x4), some (.int ((0 : Int32))), some (.int ((1 : Int32)))]) dX11_luck_53 (by decide) rfl rfl ?_
    refine x_weak (by exact ⟨rfl, ⟨rfl, ⟨rfl, ⟨rfl, trivial⟩⟩⟩⟩) (x_lp (σ := Int32 × Int32 × Mem) 55 (fun s12 => [some (va_rf a0), none, none, none, some (va_rf x4), some (.int s12.1), some (.int s12.2.1)]) (fun s12 => []) (fun s12 => s12.2.2) (fun s12 j55 hj55 => ?_) 4294967296 ((0 : Int32), (1 : Int32), M11))
    · refine x_iload dX11_luck_55 rfl ?_
      refine x_sipush (v := 400) dX11_luck_57 (by decide) ?_
      refine x_jn (σ := Unit) 140 (fun s13 => [some (va_rf a0), none, none, none, none, some (.int s12.1), some (.int s12.2.1)]) (fun s13 => []) (fun s13 => s12.2.2) (fun s13 => ?_) (fun j140 hj140 => ?_)
      · refine x_iload dX11_luck_140 rfl ?_
        refine x_if_eq (tgt := 148) dX11_luck_142 (by decide) (fun _ => ?_) (fun _ => ?_)
        · refine x_aload_n dX11_luck_148 rfl ?_
          refine gfX11_46 rfl dX11_luck_149 (fun x14 => ?_)
          refine gfX11_383 rfl dX11_luck_152 (fun x15 => ?_)
          refine x_if_eq (tgt := 161) dX11_luck_155 (by decide) (fun _ => ?_) (fun _ => ?_)
          · refine x_aload_n dX11_luck_161 rfl ?_
            refine x_aload_n dX11_luck_162 rfl ?_
            refine gfX11_46 rfl dX11_luck_163 (fun x16 => ?_)
            refine gfX11_386 rfl dX11_luck_166 (fun x17 => ?_)
            refine x_l2i dX11_luck_169 ?_
            refine pfX11_389 rfl dX11_luck_170 (fun M18 => ?_)
            refine x_aload_n dX11_luck_173 rfl ?_
            refine x_aload_n dX11_luck_174 rfl ?_
            refine gfX11_46 rfl dX11_luck_175 (fun x19 => ?_)
            refine gfX11_392 rfl dX11_luck_178 (fun x20 => ?_)
            refine x_l2i dX11_luck_181 ?_
            refine pfX11_395 rfl dX11_luck_182 (fun M21 => ?_)
            refine x_iload dX11_luck_185 rfl ?_
            exact x_iret rfl dX11_luck_187
          · refine x_bipush (v := -5) dX11_luck_158 (by decide) ?_
            exact x_iret rfl dX11_luck_160
        · refine x_bipush (v := -4) dX11_luck_145 (by decide) ?_
          exact x_iret rfl dX11_luck_147
      refine x_icmp_ge (tgt := 140) dX11_luck_60 (by decide) (fun _ => ?_) (fun _ => ?_)
      · exact x_weak (by exact ⟨rfl, ⟨rfl, ⟨rfl, trivial⟩⟩⟩) (hj140 ())
      · refine x_iload dX11_luck_63 rfl ?_
        refine x_if_eq (tgt := 140) dX11_luck_65 (by decide) (fun _ => ?_) (fun _ => ?_)
        · exact x_weak (by exact ⟨rfl, ⟨rfl, ⟨rfl, trivial⟩⟩⟩) (hj140 ())
        · refine x_aload_n dX11_luck_68 rfl ?_
          refine gfX11_46 rfl dX11_luck_69 (fun x22 => ?_)
          refine cmX11_361 rfl hs (Nat.le_of_ble_eq_true rfl) dX11_luck_72 (fun M23 => ?_)
          refine x_aload_n dX11_luck_75 rfl ?_
          refine gfX11_26 rfl dX11_luck_76 (fun x24 => ?_)
          refine cmX11_364 rfl hs (Nat.le_of_ble_eq_true rfl) dX11_luck_79 (fun M25 => ?_)
          refine x_aload_n dX11_luck_82 rfl ?_
          refine gfX11_26 rfl dX11_luck_83 (fun x26 => ?_)
          refine x_aload dX11_luck_86 rfl ?_
          refine cmX11_367 rfl hs (Nat.le_of_ble_eq_true rfl) dX11_luck_88 (fun M27 => ?_)
          refine x_aload_n dX11_luck_91 rfl ?_
          refine gfX11_26 rfl dX11_luck_92 (fun x28 => ?_)
          refine cmX11_294 rfl hs (Nat.le_of_ble_eq_true rfl) dX11_luck_95 (fun x30 M29 => ?_)
          refine x_if_eq (tgt := 104) dX11_luck_98 (by decide) (fun _ => ?_) (fun _ => ?_)
          · refine x_aload_n dX11_luck_104 rfl ?_
            refine gfX11_26 rfl dX11_luck_105 (fun x31 => ?_)
            refine gfX11_371 rfl dX11_luck_108 (fun x32 => ?_)
            refine gfX11_374 rfl dX11_luck_111 (fun x33 => ?_)
            refine x_iconst (v := 1) dX11_luck_114 (by decide) ?_
            refine x_jn (σ := Mem) 125 (fun s34 => [some (va_rf a0), none, none, none, some (va_rf x4), some (.int s12.1), none]) (fun s34 => []) (fun s34 => s34) (fun s34 => ?_) (fun j125 hj125 => ?_)
            · refine x_aload_n dX11_luck_125 rfl ?_
              refine gfX11_46 rfl dX11_luck_126 (fun x35 => ?_)
              refine cmX11_380 rfl hs (Nat.le_of_ble_eq_true rfl) dX11_luck_129 (fun x37 M36 => ?_)
              refine x_istore (lo' := [some (va_rf a0), none, none, none, some (va_rf x4), some (.int s12.1), some (.int x37)]) dX11_luck_132 (by decide) rfl rfl ?_
              refine x_iincN (v := 1) (lo' := fun x38 => [some (va_rf a0), none, none, none, some (va_rf x4), some (.int x38), some (.int x37)]) (by decide) dX11_luck_134 rfl (by decide) (xok_r rfl) (fun _ => rfl) (fun x38 => ?_)
              refine x_goto (tgt := 55) dX11_luck_137 (by decide) ?_
              exact x_weak (by exact ⟨rfl, ⟨rfl, ⟨rfl, ⟨rfl, trivial⟩⟩⟩⟩) (hj55 (x38, x37, M36))
            refine x_icmp_ne (tgt := 125) dX11_luck_115 (by decide) (fun _ => ?_) (fun _ => ?_)
            · refine x_aload_n dX11_luck_118 rfl ?_
              refine gfX11_46 rfl dX11_luck_119 (fun x39 => ?_)
              refine cmX11_377 rfl hs (Nat.le_of_ble_eq_true rfl) dX11_luck_122 (fun M40 => ?_)
              exact x_weak (by exact ⟨rfl, ⟨rfl, ⟨rfl, trivial⟩⟩⟩) (hj125 M40)
            · exact x_weak (by exact ⟨rfl, ⟨rfl, ⟨rfl, trivial⟩⟩⟩) (hj125 M29)
          · refine x_bipush (v := -4) dX11_luck_101 (by decide) ?_
            exact x_iret rfl dX11_luck_103
theorem s160 {l : Launch} {d : Nat} {rec : Nat → List Value → Mem → XA} (hS : Nonempty XS) (hs : XSnd l xmt rec d) : Snd1 l 160 (b160 rec) d := by
  intro as M r M' h0
  unfold b160 at h0
  obtain ⟨a0, l1, e1, h1⟩ := aR_inv h0
  obtain ⟨a1, l2, e2, h2⟩ := aI_inv h1
  obtain ⟨a2, l3, e3, h3⟩ := aI_inv h2
  obtain ⟨ez, h⟩ := aZ_inv h3
  subst ez
  subst e3
  subst e2
  subst e1
  exact xmet (M := M) (as := [va_rf a0, .int a1, .int a2]) (lo := [some (va_rf a0), some (.int a1), some (.int a2)]) 160 xq160 xm160 (by rw [xargs_rf, xargs_i, xargs_i, xargs_nil]; exact ⟨rfl, ⟨rfl, ⟨rfl, trivial⟩⟩⟩) (by rw [xargs_rf, xargs_i, xargs_i, xargs_nil]; exact Nat.le_of_ble_eq_true rfl) (fun S G K => x_weak (by exact ⟨rfl, ⟨rfl, ⟨rfl, trivial⟩⟩⟩) (k160 hs a0 a1 a2 M)) h hS
set_option maxRecDepth 100000 in
def c161 (rec : Nat → List Value → Mem → XA) (a0 : Option Nat) (a1 : Int32) (M0 : Mem) : XA :=
  gtI (12, 19) M0 a0 10 fun x1 =>
  jn (fun (s2 : Unit) =>
    some (.int ((-1 : Int32)), M0)) fun j16 =>
  if x1 = 0 then (
    j16 ()) else (
    if a1 < 0 then (
      j16 ()) else (
      if a1 ≤ ((1 : Int32)) then (
        jn (fun (s3 : Int32) =>
          some (.int s3, M0)) fun j33 =>
        if a1 = 0 then (
          gtI (12, 19) M0 a0 9 fun x4 =>
          j33 x4) else (
          gtI (12, 19) M0 a0 10 fun x5 =>
          j33 x5)) else (
        j16 ())))
def b161 (rec : Nat → List Value → Mem → XA) (as : List Value) (M0 : Mem) : XA := aR as fun a0 as => aI as fun a1 as => aZ as (c161 rec a0 a1 M0)
set_option maxRecDepth 100000 in
set_option maxHeartbeats 4000000 in
theorem k161 {S : XS} {G : XG} {K : Nat × Nat} {l : Launch} {d : Nat} {rec : Nat → List Value → Mem → XA} (hs : XSnd l xmt rec d) (a0 : Option Nat) (a1 : Int32) (M0 : Mem) : Xe S G K l (yX11_share, cX11_share, 2, some .int) d 0 [some (va_rf a0), some (.int a1)] [] M0 (c161 rec a0 a1 M0) := by
  unfold c161
  refine x_aload_n dX11_share_0 rfl ?_
  refine gfX11_395 rfl dX11_share_1 (fun x1 => ?_)
  refine x_jn (σ := Unit) 16 (fun s2 => [none, none]) (fun s2 => []) (fun s2 => M0) (fun s2 => ?_) (fun j16 hj16 => ?_)
  · refine x_iconst (v := -1) dX11_share_16 (by decide) ?_
    exact x_iret rfl dX11_share_17
  refine x_if_eq (tgt := 16) dX11_share_4 (by decide) (fun _ => ?_) (fun _ => ?_)
  · exact x_weak (by exact trivial) (hj16 ())
  · refine x_iload_n dX11_share_7 rfl ?_
    refine x_if_lt (tgt := 16) dX11_share_8 (by decide) (fun _ => ?_) (fun _ => ?_)
    · exact x_weak (by exact trivial) (hj16 ())
    · refine x_iload_n dX11_share_11 rfl ?_
      refine x_iconst (v := 1) dX11_share_12 (by decide) ?_
      refine x_icmp_le (tgt := 18) dX11_share_13 (by decide) (fun _ => ?_) (fun _ => ?_)
      · refine x_iload_n dX11_share_18 rfl ?_
        refine x_jn (σ := Int32) 33 (fun s3 => [none, none]) (fun s3 => [.int s3]) (fun s3 => M0) (fun s3 => ?_) (fun j33 hj33 => ?_)
        · exact x_iret rfl dX11_share_33
        refine x_if_ne (tgt := 29) dX11_share_19 (by decide) (fun _ => ?_) (fun _ => ?_)
        · refine x_aload_n dX11_share_22 rfl ?_
          refine gfX11_389 rfl dX11_share_23 (fun x4 => ?_)
          refine x_goto (tgt := 33) dX11_share_26 (by decide) ?_
          exact x_weak (by exact trivial) (hj33 x4)
        · refine x_aload_n dX11_share_29 rfl ?_
          refine gfX11_395 rfl dX11_share_30 (fun x5 => ?_)
          exact x_weak (by exact trivial) (hj33 x5)
      · exact x_weak (by exact trivial) (hj16 ())
theorem s161 {l : Launch} {d : Nat} {rec : Nat → List Value → Mem → XA} (hS : Nonempty XS) (hs : XSnd l xmt rec d) : Snd1 l 161 (b161 rec) d := by
  intro as M r M' h0
  unfold b161 at h0
  obtain ⟨a0, l1, e1, h1⟩ := aR_inv h0
  obtain ⟨a1, l2, e2, h2⟩ := aI_inv h1
  obtain ⟨ez, h⟩ := aZ_inv h2
  subst ez
  subst e2
  subst e1
  exact xmet (M := M) (as := [va_rf a0, .int a1]) (lo := [some (va_rf a0), some (.int a1)]) 161 xq161 xm161 (by rw [xargs_rf, xargs_i, xargs_nil]; exact ⟨rfl, ⟨rfl, trivial⟩⟩) (by rw [xargs_rf, xargs_i, xargs_nil]; exact Nat.le_of_ble_eq_true rfl) (fun S G K => x_weak (by exact ⟨rfl, ⟨rfl, trivial⟩⟩) (k161 hs a0 a1 M)) h hS
set_option maxRecDepth 100000 in
def c162 (rec : Nat → List Value → Mem → XA) (a0 : Option Nat) (a1 : Int32) (a2 : Int32) (M0 : Mem) : XA :=
  vC (12, 19) M0 a0 <|
  cP (rec 167 [va_rf a0, .int a1] M0) fun x2 M1 =>
  cP (rec 169 [va_rf x2, .int a2] M1) fun x4 M3 =>
  if x4 = none then (
    some (.int ((-1 : Int32)), M3)) else (
    gtI (8, 9) M3 x4 7 fun x5 =>
    if x5 = 0 then (
      gtP (12, 19) M3 a0 2 fun x6 =>
      vC (4, 22) M3 x6 <|
      cV (rec 19 [va_rf x6, va_rf x2, .int ((20000 : Int32))] M3) fun M7 =>
      cI (rec 182 [va_rf x2, .int a2] M7) fun x9 M8 =>
      gtP (6, 18) M8 x2 10 fun x10 =>
      gtP (12, 19) M8 a0 14 fun x11 =>
      acI M8 x10 ((0 : Int32)) x11 ((0 : Int32)) x9 fun M12 =>
      gtP (12, 19) M12 a0 14 fun x13 =>
      asI 100 M12 x13 x9 a2 fun M14 =>
      gtP (12, 19) M14 a0 14 fun x15 =>
      gtP (12, 19) M14 a0 17 fun x16 =>
      vC (12, 19) M14 a0 <|
      cV (rec 174 [va_rf a0, va_rf x2, va_rf x15, .int (x9 + ((1 : Int32))), .int ((-2 : Int32)), va_rf x16] M14) fun M17 =>
      gtP (12, 19) M17 a0 2 fun x18 =>
      vC (4, 22) M17 x18 <|
      cI (rec 22 [va_rf x18] M17) fun x20 M19 =>
      if x20 = 0 then (
        gtP (12, 19) M19 a0 2 fun x21 =>
        gtP (4, 22) M19 x21 0 fun x22 =>
        gtI (5, 5) M19 x22 0 fun x23 =>
        if x23 = ((1 : Int32)) then (
          some (.int ((-2 : Int32)), M19)) else (
          gtP (12, 19) M19 a0 2 fun x24 =>
          vC (4, 22) M19 x24 <|
          cV (rec 23 [va_rf x24] M19) fun M25 =>
          gtP (12, 19) M25 a0 2 fun x26 =>
          vC (4, 22) M25 x26 <|
          cV (rec 25 [va_rf x26, va_rf x4] M25) fun M27 =>
          gtP (12, 19) M27 a0 2 fun x28 =>
          vC (4, 22) M27 x28 <|
          cI (rec 22 [va_rf x28] M27) fun x30 M29 =>
          if x30 = 0 then (
            gtP (12, 19) M29 a0 2 fun x31 =>
            gtP (4, 22) M29 x31 0 fun x32 =>
            gtI (5, 5) M29 x32 0 fun x33 =>
            if x33 = ((1 : Int32)) then (
              lp (fun (s34 : Int32 × Int32 × Int32 × Mem) j173 =>
                jn (fun (s35 : Unit) =>
                  gtP (12, 19) s34.2.2.2 a0 2 fun x36 =>
                  vC (4, 22) s34.2.2.2 x36 <|
                  cI (rec 22 [va_rf x36] s34.2.2.2) fun x38 M37 =>
                  if x38 = 0 then (
                    gtP (12, 19) M37 a0 14 fun x39 =>
                    gtP (12, 19) M37 a0 15 fun x40 =>
                    acI M37 x39 ((0 : Int32)) x40 ((0 : Int32)) s34.1 fun M41 =>
                    ptI (12, 19) M41 a0 16 s34.1 fun M42 =>
                    some (.int s34.1, M42)) else (
                    some (.int ((-4 : Int32)), M37))) fun j302 =>
                if ((16 : Int32)) < s34.2.2.1 then (
                  j302 ()) else (
                  if s34.2.1 = 0 then (
                    j302 ()) else (
                    lp (fun (s43 : Int32 × Int32 × Int32 × Mem) j195 =>
                      jn (fun (s44 : Mem) =>
                        jn (fun (s45 : Int32) =>
                          lt (s34.2.2.1 + (1 : Int32)) fun (x46 : Int32) =>
                          j173 (s43.1, s45, x46, s44)) fun j294 =>
                        if s34.1 ≤ s43.1 then (
                          j294 ((0 : Int32))) else (
                          j294 ((1 : Int32)))) fun j282 =>
                      if s34.1 ≤ s43.2.2.1 then (
                        j282 s43.2.2.2) else (
                        gtP (12, 19) s43.2.2.2 a0 2 fun x47 =>
                        vC (4, 22) s43.2.2.2 x47 <|
                        cI (rec 22 [va_rf x47] s43.2.2.2) fun x49 M48 =>
                        if x49 = 0 then (
                          gtP (12, 19) M48 a0 14 fun x50 =>
                          gtP (12, 19) M48 a0 17 fun x51 =>
                          vC (12, 19) M48 a0 <|
                          cV (rec 174 [va_rf a0, va_rf x2, va_rf x50, .int (s43.1 + ((1 : Int32))), .int s43.2.1, va_rf x51] M48) fun M52 =>
                          gtP (12, 19) M52 a0 2 fun x53 =>
                          gtP (4, 22) M52 x53 0 fun x54 =>
                          gtI (5, 5) M52 x54 0 fun x55 =>
                          jn (fun (s56 : Int32 × Int32 × Mem) =>
                            lt (s43.2.2.1 + (1 : Int32)) fun (x57 : Int32) =>
                            j195 (s56.1, s56.2.1, x57, s56.2.2)) fun j276 =>
                          if x55 = ((1 : Int32)) then (
                            lt (s43.2.1 + (1 : Int32)) fun (x58 : Int32) =>
                            j276 (s43.1, x58, M52)) else (
                            gtP (12, 19) M52 a0 14 fun x59 =>
                            gtP (12, 19) M52 a0 14 fun x60 =>
                            acI M52 x59 (s43.2.1 + ((1 : Int32))) x60 s43.2.1 (s43.1 - s43.2.1) fun M61 =>
                            lt (s43.1 + (-1 : Int32)) fun (x62 : Int32) =>
                            j276 (x62, s43.2.1, M61))) else (
                          j282 M48))) 4294967296 (s34.1, (0 : Int32), (0 : Int32), s34.2.2.2)))) 4294967296 (x9, (1 : Int32), (0 : Int32), M29)) else (
              some (.int ((-2 : Int32)), M29))) else (
            some (.int ((-4 : Int32)), M29)))) else (
        some (.int ((-4 : Int32)), M19))) else (
      some (.int ((-2 : Int32)), M3)))
def b162 (rec : Nat → List Value → Mem → XA) (as : List Value) (M0 : Mem) : XA := aR as fun a0 as => aI as fun a1 as => aI as fun a2 as => aZ as (c162 rec a0 a1 a2 M0)
set_option maxRecDepth 100000 in
set_option maxHeartbeats 4000000 in
theorem k162 {S : XS} {G : XG} {K : Nat × Nat} {l : Launch} {d : Nat} {rec : Nat → List Value → Mem → XA} (hs : XSnd l xmt rec d) (a0 : Option Nat) (a1 : Int32) (a2 : Int32) (M0 : Mem) : Xe S G K l (yX11_blame, cX11_blame, 11, some .int) d 0 [some (va_rf a0), some (.int a1), some (.int a2), none, none, none, none, none, none, none, none] [] M0 (c162 rec a0 a1 a2 M0) := by
  unfold c162
  refine x_aload_n dX11_blame_0 rfl ?_
  refine x_iload_n dX11_blame_1 rfl ?_
  refine cmX11_109 rfl hs (Nat.le_of_ble_eq_true rfl) dX11_blame_2 (fun x2 M1 => ?_)
  refine x_astore_n (lo' := [some (va_rf a0), some (.int a1), some (.int a2), some (va_rf x2), none, none, none, none, none, none, none]) dX11_blame_5 (by decide) rfl rfl ?_
  refine x_aload_n dX11_blame_6 rfl ?_
  refine x_iload_n dX11_blame_7 rfl ?_
  refine cmX11_152 rfl hs (Nat.le_of_ble_eq_true rfl) dX11_blame_8 (fun x4 M3 => ?_)
  refine x_astore (lo' := [some (va_rf a0), some (.int a1), some (.int a2), some (va_rf x2), some (va_rf x4), none, none, none, none, none, none]) dX11_blame_11 (by decide) (xok_r rfl) rfl ?_
  refine x_aload dX11_blame_13 rfl ?_
  refine x_ifnonnull (tgt := 20) dX11_blame_15 (by decide) (fun _ => ?_) (fun _ => ?_)
  · refine x_iconst (v := -1) dX11_blame_18 (by decide) ?_
    exact x_iret rfl dX11_blame_19
  · refine x_aload dX11_blame_20 rfl ?_
    refine gfX11_159 rfl dX11_blame_22 (fun x5 => ?_)
    refine x_if_eq (tgt := 31) dX11_blame_25 (by decide) (fun _ => ?_) (fun _ => ?_)
    · refine x_aload_n dX11_blame_31 rfl ?_
      refine gfX11_26 rfl dX11_blame_32 (fun x6 => ?_)
      refine x_aload_n dX11_blame_35 rfl ?_
      refine x_sipush (v := 20000) dX11_blame_36 (by decide) ?_
      refine cmX11_193 rfl hs (Nat.le_of_ble_eq_true rfl) dX11_blame_39 (fun M7 => ?_)
      refine x_aload_n dX11_blame_42 rfl ?_
      refine x_iload_n dX11_blame_43 rfl ?_
      refine cmX11_398 rfl hs (Nat.le_of_ble_eq_true rfl) dX11_blame_44 (fun x9 M8 => ?_)
      refine x_istore (lo' := [some (va_rf a0), some (.int a1), some (.int a2), some (va_rf x2), some (va_rf x4), some (.int x9), none, none, none, none, none]) dX11_blame_47 (by decide) (xok_r rfl) rfl ?_
      refine x_aload_n dX11_blame_49 rfl ?_
      refine gfX11_189 rfl dX11_blame_50 (fun x10 => ?_)
      refine x_iconst (v := 0) dX11_blame_53 (by decide) ?_
      refine x_aload_n dX11_blame_54 rfl ?_
      refine gfX11_61 rfl dX11_blame_55 (fun x11 => ?_)
      refine x_iconst (v := 0) dX11_blame_58 (by decide) ?_
      refine x_iload dX11_blame_59 rfl ?_
      refine x_acI lk_methodLink_X11_326 w_acn w_acs w_aci (Nat.le_of_ble_eq_true rfl) dX11_blame_61 (fun M12 => ?_)
      refine x_aload_n dX11_blame_64 rfl ?_
      refine gfX11_61 rfl dX11_blame_65 (fun x13 => ?_)
      refine x_iload dX11_blame_68 rfl ?_
      refine x_iload_n dX11_blame_70 rfl ?_
      refine x_iast dX11_blame_71 (fun M14 => ?_)
      refine x_aload_n dX11_blame_72 rfl ?_
      refine x_aload_n dX11_blame_73 rfl ?_
      refine x_aload_n dX11_blame_74 rfl ?_
      refine gfX11_61 rfl dX11_blame_75 (fun x15 => ?_)
      refine x_iload dX11_blame_78 rfl ?_
      refine x_iconst (v := 1) dX11_blame_80 (by decide) ?_
      refine x_iadd dX11_blame_81 ?_
      refine x_bipush (v := -2) dX11_blame_82 (by decide) ?_
      refine x_aload_n dX11_blame_84 rfl ?_
      refine gfX11_69 rfl dX11_blame_85 (fun x16 => ?_)
      refine cmX11_206 rfl hs (Nat.le_of_ble_eq_true rfl) dX11_blame_88 (fun M17 => ?_)
      refine x_aload_n dX11_blame_91 rfl ?_
      refine gfX11_26 rfl dX11_blame_92 (fun x18 => ?_)
      refine cmX11_294 rfl hs (Nat.le_of_ble_eq_true rfl) dX11_blame_95 (fun x20 M19 => ?_)
      refine x_if_eq (tgt := 104) dX11_blame_98 (by decide) (fun _ => ?_) (fun _ => ?_)
      · refine x_aload_n dX11_blame_104 rfl ?_
        refine gfX11_26 rfl dX11_blame_105 (fun x21 => ?_)
        refine gfX11_371 rfl dX11_blame_108 (fun x22 => ?_)
        refine gfX11_374 rfl dX11_blame_111 (fun x23 => ?_)
        refine x_iconst (v := 1) dX11_blame_114 (by decide) ?_
        refine x_icmp_ne (tgt := 121) dX11_blame_115 (by decide) (fun _ => ?_) (fun _ => ?_)
        · refine x_bipush (v := -2) dX11_blame_118 (by decide) ?_
          exact x_iret rfl dX11_blame_120
        · refine x_aload_n dX11_blame_121 rfl ?_
          refine gfX11_26 rfl dX11_blame_122 (fun x24 => ?_)
          refine cmX11_364 rfl hs (Nat.le_of_ble_eq_true rfl) dX11_blame_125 (fun M25 => ?_)
          refine x_aload_n dX11_blame_128 rfl ?_
          refine gfX11_26 rfl dX11_blame_129 (fun x26 => ?_)
          refine x_aload dX11_blame_132 rfl ?_
          refine cmX11_367 rfl hs (Nat.le_of_ble_eq_true rfl) dX11_blame_134 (fun M27 => ?_)
          refine x_aload_n dX11_blame_137 rfl ?_
          refine gfX11_26 rfl dX11_blame_138 (fun x28 => ?_)
          refine cmX11_294 rfl hs (Nat.le_of_ble_eq_true rfl) dX11_blame_141 (fun x30 M29 => ?_)
          refine x_if_eq (tgt := 150) dX11_blame_144 (by decide) (fun _ => ?_) (fun _ => ?_)
          · refine x_aload_n dX11_blame_150 rfl ?_
            refine gfX11_26 rfl dX11_blame_151 (fun x31 => ?_)
            refine gfX11_371 rfl dX11_blame_154 (fun x32 => ?_)
            refine gfX11_374 rfl dX11_blame_157 (fun x33 => ?_)
            refine x_iconst (v := 1) dX11_blame_160 (by decide) ?_
            refine x_icmp_eq (tgt := 167) dX11_blame_161 (by decide) (fun _ => ?_) (fun _ => ?_)
            · refine x_iconst (v := 1) dX11_blame_167 (by decide) ?_
              refine x_istore (lo' := [some (va_rf a0), some (.int a1), some (.int a2), some (va_rf x2), some (va_rf x4), some (.int x9), some (.int ((1 : Int32))), none, none, none, none]) dX11_blame_168 (by decide) rfl rfl ?_
              refine x_iconst (v := 0) dX11_blame_170 (by decide) ?_
              refine x_istore (lo' := [some (va_rf a0), some (.int a1), some (.int a2), some (va_rf x2), some (va_rf x4), some (.int x9), some (.int ((1 : Int32))), some (.int ((0 : Int32))), none, none, none]) dX11_blame_171 (by decide) rfl rfl ?_
              refine x_weak (by exact ⟨rfl, ⟨rfl, ⟨rfl, ⟨rfl, ⟨rfl, trivial⟩⟩⟩⟩⟩) (x_lp (σ := Int32 × Int32 × Int32 × Mem) 173 (fun s34 => [some (va_rf a0), none, none, some (va_rf x2), none, some (.int s34.1), some (.int s34.2.1), some (.int s34.2.2.1), none, none, none]) (fun s34 => []) (fun s34 => s34.2.2.2) (fun s34 j173 hj173 => ?_) 4294967296 (x9, (1 : Int32), (0 : Int32), M29))
              · refine x_iload dX11_blame_173 rfl ?_
                refine x_bipush (v := 16) dX11_blame_175 (by decide) ?_
                refine x_jn (σ := Unit) 302 (fun s35 => [some (va_rf a0), none, none, none, none, some (.int s34.1), none, none, none, none, none]) (fun s35 => []) (fun s35 => s34.2.2.2) (fun s35 => ?_) (fun j302 hj302 => ?_)
                · refine x_aload_n dX11_blame_302 rfl ?_
                  refine gfX11_26 rfl dX11_blame_303 (fun x36 => ?_)
                  refine cmX11_294 rfl hs (Nat.le_of_ble_eq_true rfl) dX11_blame_306 (fun x38 M37 => ?_)
                  refine x_if_eq (tgt := 315) dX11_blame_309 (by decide) (fun _ => ?_) (fun _ => ?_)
                  · refine x_aload_n dX11_blame_315 rfl ?_
                    refine gfX11_61 rfl dX11_blame_316 (fun x39 => ?_)
                    refine x_iconst (v := 0) dX11_blame_319 (by decide) ?_
                    refine x_aload_n dX11_blame_320 rfl ?_
                    refine gfX11_64 rfl dX11_blame_321 (fun x40 => ?_)
                    refine x_iconst (v := 0) dX11_blame_324 (by decide) ?_
                    refine x_iload dX11_blame_325 rfl ?_
                    refine x_acI lk_methodLink_X11_326 w_acn w_acs w_aci (Nat.le_of_ble_eq_true rfl) dX11_blame_327 (fun M41 => ?_)
                    refine x_aload_n dX11_blame_330 rfl ?_
                    refine x_iload dX11_blame_331 rfl ?_
                    refine pfX11_402 rfl dX11_blame_333 (fun M42 => ?_)
                    refine x_iload dX11_blame_336 rfl ?_
                    exact x_iret rfl dX11_blame_338
                  · refine x_bipush (v := -4) dX11_blame_312 (by decide) ?_
                    exact x_iret rfl dX11_blame_314
                refine x_icmp_gt (tgt := 302) dX11_blame_177 (by decide) (fun _ => ?_) (fun _ => ?_)
                · exact x_weak (by exact ⟨rfl, ⟨rfl, trivial⟩⟩) (hj302 ())
                · refine x_iload dX11_blame_180 rfl ?_
                  refine x_if_eq (tgt := 302) dX11_blame_182 (by decide) (fun _ => ?_) (fun _ => ?_)
                  · exact x_weak (by exact ⟨rfl, ⟨rfl, trivial⟩⟩) (hj302 ())
                  · refine x_iload dX11_blame_185 rfl ?_
                    refine x_istore (lo' := [some (va_rf a0), none, none, some (va_rf x2), none, some (.int s34.1), some (.int s34.2.1), some (.int s34.2.2.1), some (.int s34.1), none, none]) dX11_blame_187 (by decide) rfl rfl ?_
                    refine x_iconst (v := 0) dX11_blame_189 (by decide) ?_
                    refine x_istore (lo' := [some (va_rf a0), none, none, some (va_rf x2), none, some (.int s34.1), some (.int s34.2.1), some (.int s34.2.2.1), some (.int s34.1), some (.int ((0 : Int32))), none]) dX11_blame_190 (by decide) rfl rfl ?_
                    refine x_iconst (v := 0) dX11_blame_192 (by decide) ?_
                    refine x_istore (lo' := [some (va_rf a0), none, none, some (va_rf x2), none, some (.int s34.1), some (.int s34.2.1), some (.int s34.2.2.1), some (.int s34.1), some (.int ((0 : Int32))), some (.int ((0 : Int32)))]) dX11_blame_193 (by decide) rfl rfl ?_
                    refine x_weak (by exact ⟨rfl, ⟨rfl, ⟨rfl, ⟨rfl, ⟨rfl, ⟨rfl, ⟨rfl, trivial⟩⟩⟩⟩⟩⟩⟩) (x_lp (σ := Int32 × Int32 × Int32 × Mem) 195 (fun s43 => [some (va_rf a0), none, none, some (va_rf x2), none, some (.int s43.1), none, some (.int s34.2.2.1), some (.int s34.1), some (.int s43.2.1), some (.int s43.2.2.1)]) (fun s43 => []) (fun s43 => s43.2.2.2) (fun s43 j195 hj195 => ?_) 4294967296 (s34.1, (0 : Int32), (0 : Int32), s34.2.2.2))
                    · refine x_iload dX11_blame_195 rfl ?_
                      refine x_iload dX11_blame_197 rfl ?_
                      refine x_jn (σ := Mem) 282 (fun s44 => [some (va_rf a0), none, none, some (va_rf x2), none, some (.int s43.1), none, some (.int s34.2.2.1), some (.int s34.1), none, none]) (fun s44 => []) (fun s44 => s44) (fun s44 => ?_) (fun j282 hj282 => ?_)
                      · refine x_iload dX11_blame_282 rfl ?_
                        refine x_iload dX11_blame_284 rfl ?_
                        refine x_jn (σ := Int32) 294 (fun s45 => [some (va_rf a0), none, none, some (va_rf x2), none, some (.int s43.1), none, some (.int s34.2.2.1), none, none, none]) (fun s45 => [.int s45]) (fun s45 => s44) (fun s45 => ?_) (fun j294 hj294 => ?_)
                        · refine x_istore (lo' := [some (va_rf a0), none, none, some (va_rf x2), none, some (.int s43.1), some (.int s45), some (.int s34.2.2.1), none, none, none]) dX11_blame_294 (by decide) rfl rfl ?_
                          refine x_iincN (v := 1) (lo' := fun x46 => [some (va_rf a0), none, none, some (va_rf x2), none, some (.int s43.1), some (.int s45), some (.int x46), none, none, none]) (by decide) dX11_blame_296 rfl (by decide) rfl (fun _ => rfl) (fun x46 => ?_)
                          refine x_goto (tgt := 173) dX11_blame_299 (by decide) ?_
                          exact x_weak (by exact ⟨rfl, ⟨rfl, ⟨rfl, ⟨rfl, ⟨rfl, trivial⟩⟩⟩⟩⟩) (hj173 (s43.1, s45, x46, s44))
                        refine x_icmp_ge (tgt := 293) dX11_blame_286 (by decide) (fun _ => ?_) (fun _ => ?_)
                        · refine x_iconst (v := 0) dX11_blame_293 (by decide) ?_
                          exact x_weak (by exact ⟨rfl, ⟨rfl, ⟨rfl, ⟨rfl, trivial⟩⟩⟩⟩) (hj294 ((0 : Int32)))
                        · refine x_iconst (v := 1) dX11_blame_289 (by decide) ?_
                          refine x_goto (tgt := 294) dX11_blame_290 (by decide) ?_
                          exact x_weak (by exact ⟨rfl, ⟨rfl, ⟨rfl, ⟨rfl, trivial⟩⟩⟩⟩) (hj294 ((1 : Int32)))
                      refine x_icmp_ge (tgt := 282) dX11_blame_199 (by decide) (fun _ => ?_) (fun _ => ?_)
                      · exact x_weak (by exact ⟨rfl, ⟨rfl, ⟨rfl, ⟨rfl, ⟨rfl, trivial⟩⟩⟩⟩⟩) (hj282 s43.2.2.2)
                      · refine x_aload_n dX11_blame_202 rfl ?_
                        refine gfX11_26 rfl dX11_blame_203 (fun x47 => ?_)
                        refine cmX11_294 rfl hs (Nat.le_of_ble_eq_true rfl) dX11_blame_206 (fun x49 M48 => ?_)
                        refine x_if_ne (tgt := 282) dX11_blame_209 (by decide) (fun _ => ?_) (fun _ => ?_)
                        · refine x_aload_n dX11_blame_212 rfl ?_
                          refine x_aload_n dX11_blame_213 rfl ?_
                          refine x_aload_n dX11_blame_214 rfl ?_
                          refine gfX11_61 rfl dX11_blame_215 (fun x50 => ?_)
                          refine x_iload dX11_blame_218 rfl ?_
                          refine x_iconst (v := 1) dX11_blame_220 (by decide) ?_
                          refine x_iadd dX11_blame_221 ?_
                          refine x_iload dX11_blame_222 rfl ?_
                          refine x_aload_n dX11_blame_224 rfl ?_
                          refine gfX11_69 rfl dX11_blame_225 (fun x51 => ?_)
                          refine cmX11_206 rfl hs (Nat.le_of_ble_eq_true rfl) dX11_blame_228 (fun M52 => ?_)
                          refine x_aload_n dX11_blame_231 rfl ?_
                          refine gfX11_26 rfl dX11_blame_232 (fun x53 => ?_)
                          refine gfX11_371 rfl dX11_blame_235 (fun x54 => ?_)
                          refine gfX11_374 rfl dX11_blame_238 (fun x55 => ?_)
                          refine x_iconst (v := 1) dX11_blame_241 (by decide) ?_
                          refine x_jn (σ := Int32 × Int32 × Mem) 276 (fun s56 => [some (va_rf a0), none, none, some (va_rf x2), none, some (.int s56.1), none, some (.int s34.2.2.1), some (.int s34.1), some (.int s56.2.1), some (.int s43.2.2.1)]) (fun s56 => []) (fun s56 => s56.2.2) (fun s56 => ?_) (fun j276 hj276 => ?_)
                          · refine x_iincN (v := 1) (lo' := fun x57 => [some (va_rf a0), none, none, some (va_rf x2), none, some (.int s56.1), none, some (.int s34.2.2.1), some (.int s34.1), some (.int s56.2.1), some (.int x57)]) (by decide) dX11_blame_276 rfl (by decide) rfl (fun _ => rfl) (fun x57 => ?_)
                            refine x_goto (tgt := 195) dX11_blame_279 (by decide) ?_
                            exact x_weak (by exact ⟨rfl, ⟨rfl, ⟨rfl, ⟨rfl, ⟨rfl, ⟨rfl, ⟨rfl, trivial⟩⟩⟩⟩⟩⟩⟩) (hj195 (s56.1, s56.2.1, x57, s56.2.2))
                          refine x_icmp_ne (tgt := 251) dX11_blame_242 (by decide) (fun _ => ?_) (fun _ => ?_)
                          · refine x_iincN (v := 1) (lo' := fun x58 => [some (va_rf a0), none, none, some (va_rf x2), none, some (.int s43.1), none, some (.int s34.2.2.1), some (.int s34.1), some (.int x58), some (.int s43.2.2.1)]) (by decide) dX11_blame_245 rfl (by decide) rfl (fun _ => rfl) (fun x58 => ?_)
                            refine x_goto (tgt := 276) dX11_blame_248 (by decide) ?_
                            exact x_weak (by exact ⟨rfl, ⟨rfl, ⟨rfl, ⟨rfl, ⟨rfl, ⟨rfl, ⟨rfl, trivial⟩⟩⟩⟩⟩⟩⟩) (hj276 (s43.1, x58, M52))
                          · refine x_aload_n dX11_blame_251 rfl ?_
                            refine gfX11_61 rfl dX11_blame_252 (fun x59 => ?_)
                            refine x_iload dX11_blame_255 rfl ?_
                            refine x_iconst (v := 1) dX11_blame_257 (by decide) ?_
                            refine x_iadd dX11_blame_258 ?_
                            refine x_aload_n dX11_blame_259 rfl ?_
                            refine gfX11_61 rfl dX11_blame_260 (fun x60 => ?_)
                            refine x_iload dX11_blame_263 rfl ?_
                            refine x_iload dX11_blame_265 rfl ?_
                            refine x_iload dX11_blame_267 rfl ?_
                            refine x_isub dX11_blame_269 ?_
                            refine x_acI lk_methodLink_X11_326 w_acn w_acs w_aci (Nat.le_of_ble_eq_true rfl) dX11_blame_270 (fun M61 => ?_)
                            refine x_iincN (v := -1) (lo' := fun x62 => [some (va_rf a0), none, none, some (va_rf x2), none, some (.int x62), none, some (.int s34.2.2.1), some (.int s34.1), some (.int s43.2.1), some (.int s43.2.2.1)]) (by decide) dX11_blame_273 rfl (by decide) rfl (fun _ => rfl) (fun x62 => ?_)
                            exact x_weak (by exact ⟨rfl, ⟨rfl, ⟨rfl, ⟨rfl, ⟨rfl, ⟨rfl, ⟨rfl, trivial⟩⟩⟩⟩⟩⟩⟩) (hj276 (x62, s43.2.1, M61))
                        · exact x_weak (by exact ⟨rfl, ⟨rfl, ⟨rfl, ⟨rfl, ⟨rfl, trivial⟩⟩⟩⟩⟩) (hj282 M48)
            · refine x_bipush (v := -2) dX11_blame_164 (by decide) ?_
              exact x_iret rfl dX11_blame_166
          · refine x_bipush (v := -4) dX11_blame_147 (by decide) ?_
            exact x_iret rfl dX11_blame_149
      · refine x_bipush (v := -4) dX11_blame_101 (by decide) ?_
        exact x_iret rfl dX11_blame_103
    · refine x_bipush (v := -2) dX11_blame_28 (by decide) ?_
      exact x_iret rfl dX11_blame_30
theorem s162 {l : Launch} {d : Nat} {rec : Nat → List Value → Mem → XA} (hS : Nonempty XS) (hs : XSnd l xmt rec d) : Snd1 l 162 (b162 rec) d := by
  intro as M r M' h0
  unfold b162 at h0
  obtain ⟨a0, l1, e1, h1⟩ := aR_inv h0
  obtain ⟨a1, l2, e2, h2⟩ := aI_inv h1
  obtain ⟨a2, l3, e3, h3⟩ := aI_inv h2
  obtain ⟨ez, h⟩ := aZ_inv h3
  subst ez
  subst e3
  subst e2
  subst e1
  exact xmet (M := M) (as := [va_rf a0, .int a1, .int a2]) (lo := [some (va_rf a0), some (.int a1), some (.int a2)]) 162 xq162 xm162 (by rw [xargs_rf, xargs_i, xargs_i, xargs_nil]; exact ⟨rfl, ⟨rfl, ⟨rfl, trivial⟩⟩⟩) (by rw [xargs_rf, xargs_i, xargs_i, xargs_nil]; exact Nat.le_of_ble_eq_true rfl) (fun S G K => x_weak (by exact ⟨rfl, ⟨rfl, ⟨rfl, trivial⟩⟩⟩) (k162 hs a0 a1 a2 M)) h hS
set_option maxRecDepth 100000 in
def c163 (rec : Nat → List Value → Mem → XA) (a0 : Option Nat) (a1 : Int32) (M0 : Mem) : XA :=
  jn (fun (s1 : Int32) =>
    some (.int s1, M0)) fun j22 =>
  jn (fun (s2 : Unit) =>
    j22 ((-1 : Int32))) fun j12 =>
  if a1 < 0 then (
    j12 ()) else (
    gtI (12, 19) M0 a0 16 fun x3 =>
    if a1 < x3 then (
      gtP (12, 19) M0 a0 15 fun x4 =>
      alI 100 M0 x4 a1 fun x5 =>
      j22 x5) else (
      j12 ()))
def b163 (rec : Nat → List Value → Mem → XA) (as : List Value) (M0 : Mem) : XA := aR as fun a0 as => aI as fun a1 as => aZ as (c163 rec a0 a1 M0)
set_option maxRecDepth 100000 in
set_option maxHeartbeats 4000000 in
theorem k163 {S : XS} {G : XG} {K : Nat × Nat} {l : Launch} {d : Nat} {rec : Nat → List Value → Mem → XA} (hs : XSnd l xmt rec d) (a0 : Option Nat) (a1 : Int32) (M0 : Mem) : Xe S G K l (yX11_blamed, cX11_blamed, 2, some .int) d 0 [some (va_rf a0), some (.int a1)] [] M0 (c163 rec a0 a1 M0) := by
  unfold c163
  refine x_iload_n dX11_blamed_0 rfl ?_
  refine x_jn (σ := Int32) 22 (fun s1 => [none, none]) (fun s1 => [.int s1]) (fun s1 => M0) (fun s1 => ?_) (fun j22 hj22 => ?_)
  · exact x_iret rfl dX11_blamed_22
  refine x_jn (σ := Unit) 12 (fun s2 => [none, none]) (fun s2 => []) (fun s2 => M0) (fun s2 => ?_) (fun j12 hj12 => ?_)
  · refine x_iconst (v := -1) dX11_blamed_12 (by decide) ?_
    refine x_goto (tgt := 22) dX11_blamed_13 (by decide) ?_
    exact x_weak (by exact trivial) (hj22 ((-1 : Int32)))
  refine x_if_lt (tgt := 12) dX11_blamed_1 (by decide) (fun _ => ?_) (fun _ => ?_)
  · exact x_weak (by exact trivial) (hj12 ())
  · refine x_iload_n dX11_blamed_4 rfl ?_
    refine x_aload_n dX11_blamed_5 rfl ?_
    refine gfX11_402 rfl dX11_blamed_6 (fun x3 => ?_)
    refine x_icmp_lt (tgt := 16) dX11_blamed_9 (by decide) (fun _ => ?_) (fun _ => ?_)
    · refine x_aload_n dX11_blamed_16 rfl ?_
      refine gfX11_64 rfl dX11_blamed_17 (fun x4 => ?_)
      refine x_iload_n dX11_blamed_20 rfl ?_
      refine x_iald dX11_blamed_21 (fun x5 => ?_)
      exact x_weak (by exact trivial) (hj22 x5)
    · exact x_weak (by exact trivial) (hj12 ())
theorem s163 {l : Launch} {d : Nat} {rec : Nat → List Value → Mem → XA} (hS : Nonempty XS) (hs : XSnd l xmt rec d) : Snd1 l 163 (b163 rec) d := by
  intro as M r M' h0
  unfold b163 at h0
  obtain ⟨a0, l1, e1, h1⟩ := aR_inv h0
  obtain ⟨a1, l2, e2, h2⟩ := aI_inv h1
  obtain ⟨ez, h⟩ := aZ_inv h2
  subst ez
  subst e2
  subst e1
  exact xmet (M := M) (as := [va_rf a0, .int a1]) (lo := [some (va_rf a0), some (.int a1)]) 163 xq163 xm163 (by rw [xargs_rf, xargs_i, xargs_nil]; exact ⟨rfl, ⟨rfl, trivial⟩⟩) (by rw [xargs_rf, xargs_i, xargs_nil]; exact Nat.le_of_ble_eq_true rfl) (fun S G K => x_weak (by exact ⟨rfl, ⟨rfl, trivial⟩⟩) (k163 hs a0 a1 M)) h hS
set_option maxRecDepth 100000 in
def c164 (rec : Nat → List Value → Mem → XA) (a0 : Option Nat) (a1 : Int32) (a2 : Int32) (M0 : Mem) : XA :=
  vC (12, 19) M0 a0 <|
  cP (rec 167 [va_rf a0, .int a1] M0) fun x2 M1 =>
  vC (12, 19) M1 a0 <|
  cP (rec 167 [va_rf a0, .int a2] M1) fun x4 M3 =>
  jn (fun (s5 : Unit) =>
    some (.int ((-1 : Int32)), M3)) fun j22 =>
  if x2 = none then (
    j22 ()) else (
    if x4 = none then (
      j22 ()) else (
      gtP (12, 19) M3 a0 4 fun x6 =>
      vC (0, 3) M3 x6 <|
      cI (rec 346 [va_rf x6] M3) fun x8 M7 =>
      if x8 < ((8 : Int32)) then (
        gtP (12, 19) M7 a0 4 fun x9 =>
        nO (1, 4) M7 fun x10 M11 =>
        vC (1, 4) M11 x10 <|
        cV (rec 0 [va_rf x10, va_rf x2, va_rf x4] M11) fun M12 =>
        vC (0, 3) M12 x9 <|
        cI (rec 350 [va_rf x9, va_rf x10] M12) fun x14 M13 =>
        gtP (12, 19) M13 a0 4 fun x15 =>
        vC (0, 3) M13 x15 <|
        cI (rec 346 [va_rf x15] M13) fun x17 M16 =>
        some (.int (x17 - ((1 : Int32))), M16)) else (
        some (.int ((-3 : Int32)), M7))))
def b164 (rec : Nat → List Value → Mem → XA) (as : List Value) (M0 : Mem) : XA := aR as fun a0 as => aI as fun a1 as => aI as fun a2 as => aZ as (c164 rec a0 a1 a2 M0)
set_option maxRecDepth 100000 in
set_option maxHeartbeats 4000000 in
theorem k164 {S : XS} {G : XG} {K : Nat × Nat} {l : Launch} {d : Nat} {rec : Nat → List Value → Mem → XA} (hs : XSnd l xmt rec d) (a0 : Option Nat) (a1 : Int32) (a2 : Int32) (M0 : Mem) : Xe S G K l (yX11_build, cX11_build, 5, some .int) d 0 [some (va_rf a0), some (.int a1), some (.int a2), none, none] [] M0 (c164 rec a0 a1 a2 M0) := by
  unfold c164
  refine x_aload_n dX11_build_0 rfl ?_
  refine x_iload_n dX11_build_1 rfl ?_
  refine cmX11_109 rfl hs (Nat.le_of_ble_eq_true rfl) dX11_build_2 (fun x2 M1 => ?_)
  refine x_astore_n (lo' := [some (va_rf a0), some (.int a1), some (.int a2), some (va_rf x2), none]) dX11_build_5 (by decide) rfl rfl ?_
  refine x_aload_n dX11_build_6 rfl ?_
  refine x_iload_n dX11_build_7 rfl ?_
  refine cmX11_109 rfl hs (Nat.le_of_ble_eq_true rfl) dX11_build_8 (fun x4 M3 => ?_)
  refine x_astore (lo' := [some (va_rf a0), some (.int a1), some (.int a2), some (va_rf x2), some (va_rf x4)]) dX11_build_11 (by decide) (xok_r rfl) rfl ?_
  refine x_aload_n dX11_build_13 rfl ?_
  refine x_jn (σ := Unit) 22 (fun s5 => [none, none, none, none, none]) (fun s5 => []) (fun s5 => M3) (fun s5 => ?_) (fun j22 hj22 => ?_)
  · refine x_iconst (v := -1) dX11_build_22 (by decide) ?_
    exact x_iret rfl dX11_build_23
  refine x_ifnull (tgt := 22) dX11_build_14 (by decide) (fun _ => ?_) (fun _ => ?_)
  · exact x_weak (by exact trivial) (hj22 ())
  · refine x_aload dX11_build_17 rfl ?_
    refine x_ifnonnull (tgt := 24) dX11_build_19 (by decide) (fun _ => ?_) (fun _ => ?_)
    · exact x_weak (by exact trivial) (hj22 ())
    · refine x_aload_n dX11_build_24 rfl ?_
      refine gfX11_30 rfl dX11_build_25 (fun x6 => ?_)
      refine cmX11_88 rfl hs (Nat.le_of_ble_eq_true rfl) dX11_build_28 (fun x8 M7 => ?_)
      refine x_bipush (v := 8) dX11_build_31 (by decide) ?_
      refine x_icmp_lt (tgt := 39) dX11_build_33 (by decide) (fun _ => ?_) (fun _ => ?_)
      · refine x_aload_n dX11_build_39 rfl ?_
        refine gfX11_30 rfl dX11_build_40 (fun x9 => ?_)
        refine nwX11_405 rfl dX11_build_43 (fun x10 M11 => ?_)
        refine x_dup dX11_build_46 (xc1_r _) ?_
        refine x_aload_n dX11_build_47 rfl ?_
        refine x_aload dX11_build_48 rfl ?_
        refine cmX11_407 rfl hs (Nat.le_of_ble_eq_true rfl) dX11_build_50 (fun M12 => ?_)
        refine cmX11_106 rfl hs (Nat.le_of_ble_eq_true rfl) dX11_build_53 (fun x14 M13 => ?_)
        refine x_pop dX11_build_56 (xc1_i _) ?_
        refine x_aload_n dX11_build_57 rfl ?_
        refine gfX11_30 rfl dX11_build_58 (fun x15 => ?_)
        refine cmX11_88 rfl hs (Nat.le_of_ble_eq_true rfl) dX11_build_61 (fun x17 M16 => ?_)
        refine x_iconst (v := 1) dX11_build_64 (by decide) ?_
        refine x_isub dX11_build_65 ?_
        exact x_iret rfl dX11_build_66
      · refine x_bipush (v := -3) dX11_build_36 (by decide) ?_
        exact x_iret rfl dX11_build_38
theorem s164 {l : Launch} {d : Nat} {rec : Nat → List Value → Mem → XA} (hS : Nonempty XS) (hs : XSnd l xmt rec d) : Snd1 l 164 (b164 rec) d := by
  intro as M r M' h0
  unfold b164 at h0
  obtain ⟨a0, l1, e1, h1⟩ := aR_inv h0
  obtain ⟨a1, l2, e2, h2⟩ := aI_inv h1
  obtain ⟨a2, l3, e3, h3⟩ := aI_inv h2
  obtain ⟨ez, h⟩ := aZ_inv h3
  subst ez
  subst e3
  subst e2
  subst e1
  exact xmet (M := M) (as := [va_rf a0, .int a1, .int a2]) (lo := [some (va_rf a0), some (.int a1), some (.int a2)]) 164 xq164 xm164 (by rw [xargs_rf, xargs_i, xargs_i, xargs_nil]; exact ⟨rfl, ⟨rfl, ⟨rfl, trivial⟩⟩⟩) (by rw [xargs_rf, xargs_i, xargs_i, xargs_nil]; exact Nat.le_of_ble_eq_true rfl) (fun S G K => x_weak (by exact ⟨rfl, ⟨rfl, ⟨rfl, trivial⟩⟩⟩) (k164 hs a0 a1 a2 M)) h hS
set_option maxRecDepth 100000 in
def c165 (rec : Nat → List Value → Mem → XA) (a0 : Option Nat) (a1 : Int32) (a2 : Int32) (M0 : Mem) : XA :=
  vC (12, 19) M0 a0 <|
  cP (rec 172 [va_rf a0, .int a1] M0) fun x2 M1 =>
  jn (fun (s3 : Unit) =>
    some (.int ((-1 : Int32)), M1)) fun j25 =>
  if x2 = none then (
    j25 ()) else (
    if a2 < 0 then (
      j25 ()) else (
      gtP (1, 4) M1 x2 0 fun x4 =>
      gtI (6, 18) M1 x4 5 fun x5 =>
      if a2 < x5 then (
        gtP (1, 4) M1 x2 0 fun x6 =>
        vC (6, 18) M1 x6 <|
        cI (rec 53 [va_rf x6, .int a2] M1) fun x8 M7 =>
        vC (1, 4) M7 x2 <|
        cI (rec 3 [va_rf x2, .int x8] M7) fun x10 M9 =>
        jn (fun (s11 : Unit) =>
          some (.int ((-2 : Int32)), M9)) fun j69 =>
        if x10 = 0 then (
          gtP (1, 4) M9 x2 0 fun x12 =>
          gtP (6, 18) M9 x12 6 fun x13 =>
          alI 100 M9 x13 a2 fun x14 =>
          if x14 < ((3 : Int32)) then (
            j69 ()) else (
            gtP (1, 4) M9 x2 0 fun x15 =>
            gtP (6, 18) M9 x15 6 fun x16 =>
            alI 100 M9 x16 a2 fun x17 =>
            if x17 ≤ ((7 : Int32)) then (
              gtP (1, 4) M9 x2 0 fun x18 =>
              gtP (6, 18) M9 x18 7 fun x19 =>
              alI 100 M9 x19 a2 fun x20 =>
              vC (1, 4) M9 x2 <|
              cI (rec 4 [va_rf x2, .int x20] M9) fun x22 M21 =>
              jn (fun (s23 : Int32) =>
                some (.int s23, M21)) fun j111 =>
              if x22 = ((-2 : Int32)) then (
                j111 ((-2 : Int32))) else (
                if 0 ≤ x22 then (
                  j111 ((0 : Int32))) else (
                  j111 (-x22)))) else (
              j69 ()))) else (
          j69 ())) else (
        j25 ())))
def b165 (rec : Nat → List Value → Mem → XA) (as : List Value) (M0 : Mem) : XA := aR as fun a0 as => aI as fun a1 as => aI as fun a2 as => aZ as (c165 rec a0 a1 a2 M0)
set_option maxRecDepth 100000 in
set_option maxHeartbeats 4000000 in
theorem k165 {S : XS} {G : XG} {K : Nat × Nat} {l : Launch} {d : Nat} {rec : Nat → List Value → Mem → XA} (hs : XSnd l xmt rec d) (a0 : Option Nat) (a1 : Int32) (a2 : Int32) (M0 : Mem) : Xe S G K l (yX11_foretold, cX11_foretold, 5, some .int) d 0 [some (va_rf a0), some (.int a1), some (.int a2), none, none] [] M0 (c165 rec a0 a1 a2 M0) := by
  unfold c165
  refine x_aload_n dX11_foretold_0 rfl ?_
  refine x_iload_n dX11_foretold_1 rfl ?_
  refine cmX11_410 rfl hs (Nat.le_of_ble_eq_true rfl) dX11_foretold_2 (fun x2 M1 => ?_)
  refine x_astore_n (lo' := [some (va_rf a0), some (.int a1), some (.int a2), some (va_rf x2), none]) dX11_foretold_5 (by decide) rfl rfl ?_
  refine x_aload_n dX11_foretold_6 rfl ?_
  refine x_jn (σ := Unit) 25 (fun s3 => [none, none, none, none, none]) (fun s3 => []) (fun s3 => M1) (fun s3 => ?_) (fun j25 hj25 => ?_)
  · refine x_iconst (v := -1) dX11_foretold_25 (by decide) ?_
    exact x_iret rfl dX11_foretold_26
  refine x_ifnull (tgt := 25) dX11_foretold_7 (by decide) (fun _ => ?_) (fun _ => ?_)
  · exact x_weak (by exact trivial) (hj25 ())
  · refine x_iload_n dX11_foretold_10 rfl ?_
    refine x_if_lt (tgt := 25) dX11_foretold_11 (by decide) (fun _ => ?_) (fun _ => ?_)
    · exact x_weak (by exact trivial) (hj25 ())
    · refine x_iload_n dX11_foretold_14 rfl ?_
      refine x_aload_n dX11_foretold_15 rfl ?_
      refine gfX11_414 rfl dX11_foretold_16 (fun x4 => ?_)
      refine gfX11_119 rfl dX11_foretold_19 (fun x5 => ?_)
      refine x_icmp_lt (tgt := 27) dX11_foretold_22 (by decide) (fun _ => ?_) (fun _ => ?_)
      · refine x_aload_n dX11_foretold_27 rfl ?_
        refine x_aload_n dX11_foretold_28 rfl ?_
        refine gfX11_414 rfl dX11_foretold_29 (fun x6 => ?_)
        refine x_iload_n dX11_foretold_32 rfl ?_
        refine cmX11_418 rfl hs (Nat.le_of_ble_eq_true rfl) dX11_foretold_33 (fun x8 M7 => ?_)
        refine cmX11_421 rfl hs (Nat.le_of_ble_eq_true rfl) dX11_foretold_36 (fun x10 M9 => ?_)
        refine x_jn (σ := Unit) 69 (fun s11 => [none, none, none, none, none]) (fun s11 => []) (fun s11 => M9) (fun s11 => ?_) (fun j69 hj69 => ?_)
        · refine x_bipush (v := -2) dX11_foretold_69 (by decide) ?_
          exact x_iret rfl dX11_foretold_71
        refine x_if_ne (tgt := 69) dX11_foretold_39 (by decide) (fun _ => ?_) (fun _ => ?_)
        · refine x_aload_n dX11_foretold_42 rfl ?_
          refine gfX11_414 rfl dX11_foretold_43 (fun x12 => ?_)
          refine gfX11_177 rfl dX11_foretold_46 (fun x13 => ?_)
          refine x_iload_n dX11_foretold_49 rfl ?_
          refine x_iald dX11_foretold_50 (fun x14 => ?_)
          refine x_iconst (v := 3) dX11_foretold_51 (by decide) ?_
          refine x_icmp_lt (tgt := 69) dX11_foretold_52 (by decide) (fun _ => ?_) (fun _ => ?_)
          · exact x_weak (by exact trivial) (hj69 ())
          · refine x_aload_n dX11_foretold_55 rfl ?_
            refine gfX11_414 rfl dX11_foretold_56 (fun x15 => ?_)
            refine gfX11_177 rfl dX11_foretold_59 (fun x16 => ?_)
            refine x_iload_n dX11_foretold_62 rfl ?_
            refine x_iald dX11_foretold_63 (fun x17 => ?_)
            refine x_bipush (v := 7) dX11_foretold_64 (by decide) ?_
            refine x_icmp_le (tgt := 72) dX11_foretold_66 (by decide) (fun _ => ?_) (fun _ => ?_)
            · refine x_aload_n dX11_foretold_72 rfl ?_
              refine x_aload_n dX11_foretold_73 rfl ?_
              refine gfX11_414 rfl dX11_foretold_74 (fun x18 => ?_)
              refine gfX11_180 rfl dX11_foretold_77 (fun x19 => ?_)
              refine x_iload_n dX11_foretold_80 rfl ?_
              refine x_iald dX11_foretold_81 (fun x20 => ?_)
              refine cmX11_425 rfl hs (Nat.le_of_ble_eq_true rfl) dX11_foretold_82 (fun x22 M21 => ?_)
              refine x_istore (lo' := [some (va_rf a0), some (.int a1), some (.int a2), some (va_rf x2), some (.int x22)]) dX11_foretold_85 (by decide) (xok_r rfl) rfl ?_
              refine x_iload dX11_foretold_87 rfl ?_
              refine x_bipush (v := -2) dX11_foretold_89 (by decide) ?_
              refine x_jn (σ := Int32) 111 (fun s23 => [none, none, none, none, none]) (fun s23 => [.int s23]) (fun s23 => M21) (fun s23 => ?_) (fun j111 hj111 => ?_)
              · exact x_iret rfl dX11_foretold_111
              refine x_icmp_ne (tgt := 99) dX11_foretold_91 (by decide) (fun _ => ?_) (fun _ => ?_)
              · refine x_bipush (v := -2) dX11_foretold_94 (by decide) ?_
                refine x_goto (tgt := 111) dX11_foretold_96 (by decide) ?_
                exact x_weak (by exact trivial) (hj111 ((-2 : Int32)))
              · refine x_iload dX11_foretold_99 rfl ?_
                refine x_if_ge (tgt := 110) dX11_foretold_101 (by decide) (fun _ => ?_) (fun _ => ?_)
                · refine x_iconst (v := 0) dX11_foretold_110 (by decide) ?_
                  exact x_weak (by exact trivial) (hj111 ((0 : Int32)))
                · refine x_iload dX11_foretold_104 rfl ?_
                  refine x_ineg dX11_foretold_106 ?_
                  refine x_goto (tgt := 111) dX11_foretold_107 (by decide) ?_
                  exact x_weak (by exact trivial) (hj111 (-x22))
            · exact x_weak (by exact trivial) (hj69 ())
        · exact x_weak (by exact trivial) (hj69 ())
      · exact x_weak (by exact trivial) (hj25 ())
theorem s165 {l : Launch} {d : Nat} {rec : Nat → List Value → Mem → XA} (hS : Nonempty XS) (hs : XSnd l xmt rec d) : Snd1 l 165 (b165 rec) d := by
  intro as M r M' h0
  unfold b165 at h0
  obtain ⟨a0, l1, e1, h1⟩ := aR_inv h0
  obtain ⟨a1, l2, e2, h2⟩ := aI_inv h1
  obtain ⟨a2, l3, e3, h3⟩ := aI_inv h2
  obtain ⟨ez, h⟩ := aZ_inv h3
  subst ez
  subst e3
  subst e2
  subst e1
  exact xmet (M := M) (as := [va_rf a0, .int a1, .int a2]) (lo := [some (va_rf a0), some (.int a1), some (.int a2)]) 165 xq165 xm165 (by rw [xargs_rf, xargs_i, xargs_i, xargs_nil]; exact ⟨rfl, ⟨rfl, ⟨rfl, trivial⟩⟩⟩) (by rw [xargs_rf, xargs_i, xargs_i, xargs_nil]; exact Nat.le_of_ble_eq_true rfl) (fun S G K => x_weak (by exact ⟨rfl, ⟨rfl, ⟨rfl, trivial⟩⟩⟩) (k165 hs a0 a1 a2 M)) h hS
