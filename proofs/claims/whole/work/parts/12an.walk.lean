set_option maxRecDepth 100000 in
def c215 (rec : Nat → List Value → Mem → XA) (a0 : Option Nat) (M0 : Mem) : XA :=
  vC (13, 157) M0 a0 <|
  cV (rec 191 [va_rf a0] M0) fun M1 =>
  vC (13, 157) M1 a0 <|
  cV (rec 211 [va_rf a0] M1) fun M2 =>
  vC (13, 157) M2 a0 <|
  cI (rec 196 [va_rf a0, .int ((24 : Int32)), .int ((0 : Int32))] M2) fun x4 M3 =>
  vC (13, 157) M3 a0 <|
  cV (rec 213 [va_rf a0] M3) fun M5 =>
  gtI (13, 157) M5 a0 41 fun x6 =>
  jn (fun (s7 : Mem) =>
    some (.null, s7)) fun j86 =>
  jn (fun (s8 : Unit) =>
    gtP (13, 157) M5 a0 45 fun x9 =>
    gtI (13, 157) M5 a0 43 fun x10 =>
    asI 100 M5 x9 x4 x10 fun M11 =>
    j86 M11) fun j76 =>
  if x6 = 0 then (
    gtI (13, 157) M5 a0 36 fun x12 =>
    if x12 = ((418 : Int32)) then (
      vC (13, 157) M5 a0 <|
      cI (rec 196 [va_rf a0, .int ((25 : Int32)), .int ((0 : Int32))] M5) fun x14 M13 =>
      gtP (13, 157) M13 a0 45 fun x15 =>
      gtI (13, 157) M13 a0 43 fun x16 =>
      asI 100 M13 x15 x4 x16 fun M17 =>
      vC (13, 157) M17 a0 <|
      cV (rec 191 [va_rf a0] M17) fun M18 =>
      vC (13, 157) M18 a0 <|
      cV (rec 213 [va_rf a0] M18) fun M19 =>
      gtP (13, 157) M19 a0 45 fun x20 =>
      gtI (13, 157) M19 a0 43 fun x21 =>
      asI 100 M19 x20 x14 x21 fun M22 =>
      j86 M22) else (
      j76 ())) else (
    j76 ())
def b215 (rec : Nat → List Value → Mem → XA) (as : List Value) (M0 : Mem) : XA := aR as fun a0 as => aZ as (c215 rec a0 M0)
set_option maxRecDepth 100000 in
set_option maxHeartbeats 4000000 in
theorem k215 {S : XS} {G : XG} {K : Nat × Nat} {l : Launch} {d : Nat} {rec : Nat → List Value → Mem → XA} (hs : XSnd l xmt rec d) (a0 : Option Nat) (M0 : Mem) : Xe S G K l (yX12_choice, cX12_choice, 3, none) d 0 [some (va_rf a0), none, none] [] M0 (c215 rec a0 M0) := by
  unfold c215
  refine x_aload_n dX12_choice_0 rfl ?_
  refine cmX12_436 rfl hs (Nat.le_of_ble_eq_true rfl) dX12_choice_1 (fun M1 => ?_)
  refine x_aload_n dX12_choice_4 rfl ?_
  refine cmX12_473 rfl hs (Nat.le_of_ble_eq_true rfl) dX12_choice_5 (fun M2 => ?_)
  refine x_aload_n dX12_choice_8 rfl ?_
  refine x_bipush (v := 24) dX12_choice_9 (by decide) ?_
  refine x_iconst (v := 0) dX12_choice_11 (by decide) ?_
  refine cmX12_465 rfl hs (Nat.le_of_ble_eq_true rfl) dX12_choice_12 (fun x4 M3 => ?_)
  refine x_istore_n (lo' := [some (va_rf a0), some (.int x4), none]) dX12_choice_15 (by decide) (xok_r rfl) rfl ?_
  refine x_aload_n dX12_choice_16 rfl ?_
  refine cmX12_527 rfl hs (Nat.le_of_ble_eq_true rfl) dX12_choice_17 (fun M5 => ?_)
  refine x_aload_n dX12_choice_20 rfl ?_
  refine gfX12_395 rfl dX12_choice_21 (fun x6 => ?_)
  refine x_jn (σ := Mem) 86 (fun s7 => [none, none, none]) (fun s7 => []) (fun s7 => s7) (fun s7 => ?_) (fun j86 hj86 => ?_)
  · exact x_vret rfl dX12_choice_86
  refine x_jn (σ := Unit) 76 (fun s8 => [some (va_rf a0), some (.int x4), none]) (fun s8 => []) (fun s8 => M5) (fun s8 => ?_) (fun j76 hj76 => ?_)
  · refine x_aload_n dX12_choice_76 rfl ?_
    refine gfX12_179 rfl dX12_choice_77 (fun x9 => ?_)
    refine x_iload_n dX12_choice_80 rfl ?_
    refine x_aload_n dX12_choice_81 rfl ?_
    refine gfX12_439 rfl dX12_choice_82 (fun x10 => ?_)
    refine x_iast dX12_choice_85 (fun M11 => ?_)
    exact x_weak (by exact trivial) (hj86 M11)
  refine x_if_ne (tgt := 76) dX12_choice_24 (by decide) (fun _ => ?_) (fun _ => ?_)
  · refine x_aload_n dX12_choice_27 rfl ?_
    refine gfX12_408 rfl dX12_choice_28 (fun x12 => ?_)
    refine x_sipush (v := 418) dX12_choice_31 (by decide) ?_
    refine x_icmp_ne (tgt := 76) dX12_choice_34 (by decide) (fun _ => ?_) (fun _ => ?_)
    · refine x_aload_n dX12_choice_37 rfl ?_
      refine x_bipush (v := 25) dX12_choice_38 (by decide) ?_
      refine x_iconst (v := 0) dX12_choice_40 (by decide) ?_
      refine cmX12_465 rfl hs (Nat.le_of_ble_eq_true rfl) dX12_choice_41 (fun x14 M13 => ?_)
      refine x_istore_n (lo' := [some (va_rf a0), some (.int x4), some (.int x14)]) dX12_choice_44 (by decide) rfl rfl ?_
      refine x_aload_n dX12_choice_45 rfl ?_
      refine gfX12_179 rfl dX12_choice_46 (fun x15 => ?_)
      refine x_iload_n dX12_choice_49 rfl ?_
      refine x_aload_n dX12_choice_50 rfl ?_
      refine gfX12_439 rfl dX12_choice_51 (fun x16 => ?_)
      refine x_iast dX12_choice_54 (fun M17 => ?_)
      refine x_aload_n dX12_choice_55 rfl ?_
      refine cmX12_436 rfl hs (Nat.le_of_ble_eq_true rfl) dX12_choice_56 (fun M18 => ?_)
      refine x_aload_n dX12_choice_59 rfl ?_
      refine cmX12_527 rfl hs (Nat.le_of_ble_eq_true rfl) dX12_choice_60 (fun M19 => ?_)
      refine x_aload_n dX12_choice_63 rfl ?_
      refine gfX12_179 rfl dX12_choice_64 (fun x20 => ?_)
      refine x_iload_n dX12_choice_67 rfl ?_
      refine x_aload_n dX12_choice_68 rfl ?_
      refine gfX12_439 rfl dX12_choice_69 (fun x21 => ?_)
      refine x_iast dX12_choice_72 (fun M22 => ?_)
      refine x_goto (tgt := 86) dX12_choice_73 (by decide) ?_
      exact x_weak (by exact trivial) (hj86 M22)
    · exact x_weak (by exact ⟨rfl, ⟨rfl, trivial⟩⟩) (hj76 ())
  · exact x_weak (by exact ⟨rfl, ⟨rfl, trivial⟩⟩) (hj76 ())
theorem s215 {l : Launch} {d : Nat} {rec : Nat → List Value → Mem → XA} (hS : Nonempty XS) (hs : XSnd l xmt rec d) : Snd1 l 215 (b215 rec) d := by
  intro as M r M' h0
  unfold b215 at h0
  obtain ⟨a0, l1, e1, h1⟩ := aR_inv h0
  obtain ⟨ez, h⟩ := aZ_inv h1
  subst ez
  subst e1
  exact xmet (M := M) (as := [va_rf a0]) (lo := [some (va_rf a0)]) 215 xq215 xm215 (by rw [xargs_rf, xargs_nil]; exact ⟨rfl, trivial⟩) (by rw [xargs_rf, xargs_nil]; exact Nat.le_of_ble_eq_true rfl) (fun S G K => x_weak (by exact ⟨rfl, trivial⟩) (k215 hs a0 M)) h hS
set_option maxRecDepth 100000 in
def c216 (rec : Nat → List Value → Mem → XA) (a0 : Option Nat) (M0 : Mem) : XA :=
  vC (13, 157) M0 a0 <|
  cI (rec 196 [va_rf a0, .int ((26 : Int32)), .int ((0 : Int32))] M0) fun x2 M1 =>
  vC (13, 157) M1 a0 <|
  cV (rec 191 [va_rf a0] M1) fun M3 =>
  vC (13, 157) M3 a0 <|
  cV (rec 213 [va_rf a0] M3) fun M4 =>
  vC (13, 157) M4 a0 <|
  cI (rec 196 [va_rf a0, .int ((27 : Int32)), .int ((0 : Int32))] M4) fun x6 M5 =>
  vC (13, 157) M5 a0 <|
  cI (rec 196 [va_rf a0, .int ((25 : Int32)), .int ((0 : Int32))] M5) fun x8 M7 =>
  gtP (13, 157) M7 a0 45 fun x9 =>
  gtI (13, 157) M7 a0 43 fun x10 =>
  asI 100 M7 x9 x2 x10 fun M11 =>
  vC (13, 157) M11 a0 <|
  cI (rec 195 [va_rf a0, .int ((424 : Int32))] M11) fun x13 M12 =>
  vC (13, 157) M12 a0 <|
  cI (rec 198 [va_rf a0] M12) fun x15 M14 =>
  jn (fun (s16 : Mem) =>
    some (.null, s16)) fun j103 =>
  if x15 = 0 then (
    j103 M14) else (
    gtI (13, 157) M14 a0 51 fun x17 =>
    vC (13, 157) M14 a0 <|
    cI (rec 196 [va_rf a0, .int ((2 : Int32)), .int x17] M14) fun x19 M18 =>
    gtL (13, 157) M18 a0 39 fun x20 =>
    vC (13, 157) M18 a0 <|
    cV (rec 199 [va_rf a0, .long x20] M18) fun M21 =>
    vC (13, 157) M21 a0 <|
    cV (rec 191 [va_rf a0] M21) fun M22 =>
    vC (13, 157) M22 a0 <|
    cV (rec 213 [va_rf a0] M22) fun M23 =>
    gtI (13, 157) M23 a0 51 fun x24 =>
    ptI (13, 157) M23 a0 51 (x24 - ((1 : Int32))) fun M25 =>
    gtP (13, 157) M25 a0 45 fun x26 =>
    gtI (13, 157) M25 a0 43 fun x27 =>
    asI 100 M25 x26 x8 x27 fun M28 =>
    j103 M28)
def b216 (rec : Nat → List Value → Mem → XA) (as : List Value) (M0 : Mem) : XA := aR as fun a0 as => aZ as (c216 rec a0 M0)
set_option maxRecDepth 100000 in
set_option maxHeartbeats 4000000 in
theorem k216 {S : XS} {G : XG} {K : Nat × Nat} {l : Launch} {d : Nat} {rec : Nat → List Value → Mem → XA} (hs : XSnd l xmt rec d) (a0 : Option Nat) (M0 : Mem) : Xe S G K l (yX12_tryOne, cX12_tryOne, 3, none) d 0 [some (va_rf a0), none, none] [] M0 (c216 rec a0 M0) := by
  unfold c216
  refine x_aload_n dX12_tryOne_0 rfl ?_
  refine x_bipush (v := 26) dX12_tryOne_1 (by decide) ?_
  refine x_iconst (v := 0) dX12_tryOne_3 (by decide) ?_
  refine cmX12_465 rfl hs (Nat.le_of_ble_eq_true rfl) dX12_tryOne_4 (fun x2 M1 => ?_)
  refine x_istore_n (lo' := [some (va_rf a0), some (.int x2), none]) dX12_tryOne_7 (by decide) (xok_r rfl) rfl ?_
  refine x_aload_n dX12_tryOne_8 rfl ?_
  refine cmX12_436 rfl hs (Nat.le_of_ble_eq_true rfl) dX12_tryOne_9 (fun M3 => ?_)
  refine x_aload_n dX12_tryOne_12 rfl ?_
  refine cmX12_527 rfl hs (Nat.le_of_ble_eq_true rfl) dX12_tryOne_13 (fun M4 => ?_)
  refine x_aload_n dX12_tryOne_16 rfl ?_
  refine x_bipush (v := 27) dX12_tryOne_17 (by decide) ?_
  refine x_iconst (v := 0) dX12_tryOne_19 (by decide) ?_
  refine cmX12_465 rfl hs (Nat.le_of_ble_eq_true rfl) dX12_tryOne_20 (fun x6 M5 => ?_)
  refine x_pop dX12_tryOne_23 (xc1_i _) ?_
  refine x_aload_n dX12_tryOne_24 rfl ?_
  refine x_bipush (v := 25) dX12_tryOne_25 (by decide) ?_
  refine x_iconst (v := 0) dX12_tryOne_27 (by decide) ?_
  refine cmX12_465 rfl hs (Nat.le_of_ble_eq_true rfl) dX12_tryOne_28 (fun x8 M7 => ?_)
  refine x_istore_n (lo' := [some (va_rf a0), some (.int x2), some (.int x8)]) dX12_tryOne_31 (by decide) rfl rfl ?_
  refine x_aload_n dX12_tryOne_32 rfl ?_
  refine gfX12_179 rfl dX12_tryOne_33 (fun x9 => ?_)
  refine x_iload_n dX12_tryOne_36 rfl ?_
  refine x_aload_n dX12_tryOne_37 rfl ?_
  refine gfX12_439 rfl dX12_tryOne_38 (fun x10 => ?_)
  refine x_iast dX12_tryOne_41 (fun M11 => ?_)
  refine x_aload_n dX12_tryOne_42 rfl ?_
  refine x_sipush (v := 424) dX12_tryOne_43 (by decide) ?_
  refine cmX12_517 rfl hs (Nat.le_of_ble_eq_true rfl) dX12_tryOne_46 (fun x13 M12 => ?_)
  refine x_pop dX12_tryOne_49 (xc1_i _) ?_
  refine x_aload_n dX12_tryOne_50 rfl ?_
  refine cmX12_514 rfl hs (Nat.le_of_ble_eq_true rfl) dX12_tryOne_51 (fun x15 M14 => ?_)
  refine x_jn (σ := Mem) 103 (fun s16 => [none, none, none]) (fun s16 => []) (fun s16 => s16) (fun s16 => ?_) (fun j103 hj103 => ?_)
  · exact x_vret rfl dX12_tryOne_103
  refine x_if_eq (tgt := 103) dX12_tryOne_54 (by decide) (fun _ => ?_) (fun _ => ?_)
  · exact x_weak (by exact trivial) (hj103 M14)
  · refine x_aload_n dX12_tryOne_57 rfl ?_
    refine x_iconst (v := 2) dX12_tryOne_58 (by decide) ?_
    refine x_aload_n dX12_tryOne_59 rfl ?_
    refine gfX12_448 rfl dX12_tryOne_60 (fun x17 => ?_)
    refine cmX12_465 rfl hs (Nat.le_of_ble_eq_true rfl) dX12_tryOne_63 (fun x19 M18 => ?_)
    refine x_pop dX12_tryOne_66 (xc1_i _) ?_
    refine x_aload_n dX12_tryOne_67 rfl ?_
    refine x_aload_n dX12_tryOne_68 rfl ?_
    refine gfX12_415 rfl dX12_tryOne_69 (fun x20 => ?_)
    refine cmX12_520 rfl hs (Nat.le_of_ble_eq_true rfl) dX12_tryOne_72 (fun M21 => ?_)
    refine x_aload_n dX12_tryOne_75 rfl ?_
    refine cmX12_436 rfl hs (Nat.le_of_ble_eq_true rfl) dX12_tryOne_76 (fun M22 => ?_)
    refine x_aload_n dX12_tryOne_79 rfl ?_
    refine cmX12_527 rfl hs (Nat.le_of_ble_eq_true rfl) dX12_tryOne_80 (fun M23 => ?_)
    refine x_aload_n dX12_tryOne_83 rfl ?_
    refine x_dup dX12_tryOne_84 (xc1_r _) ?_
    refine gfX12_448 rfl dX12_tryOne_85 (fun x24 => ?_)
    refine x_iconst (v := 1) dX12_tryOne_88 (by decide) ?_
    refine x_isub dX12_tryOne_89 ?_
    refine pfX12_448 rfl dX12_tryOne_90 (fun M25 => ?_)
    refine x_aload_n dX12_tryOne_93 rfl ?_
    refine gfX12_179 rfl dX12_tryOne_94 (fun x26 => ?_)
    refine x_iload_n dX12_tryOne_97 rfl ?_
    refine x_aload_n dX12_tryOne_98 rfl ?_
    refine gfX12_439 rfl dX12_tryOne_99 (fun x27 => ?_)
    refine x_iast dX12_tryOne_102 (fun M28 => ?_)
    exact x_weak (by exact trivial) (hj103 M28)
theorem s216 {l : Launch} {d : Nat} {rec : Nat → List Value → Mem → XA} (hS : Nonempty XS) (hs : XSnd l xmt rec d) : Snd1 l 216 (b216 rec) d := by
  intro as M r M' h0
  unfold b216 at h0
  obtain ⟨a0, l1, e1, h1⟩ := aR_inv h0
  obtain ⟨ez, h⟩ := aZ_inv h1
  subst ez
  subst e1
  exact xmet (M := M) (as := [va_rf a0]) (lo := [some (va_rf a0)]) 216 xq216 xm216 (by rw [xargs_rf, xargs_nil]; exact ⟨rfl, trivial⟩) (by rw [xargs_rf, xargs_nil]; exact Nat.le_of_ble_eq_true rfl) (fun S G K => x_weak (by exact ⟨rfl, trivial⟩) (k216 hs a0 M)) h hS
set_option maxRecDepth 100000 in
def c217 (rec : Nat → List Value → Mem → XA) (a0 : Option Nat) (M0 : Mem) : XA :=
  vC (13, 157) M0 a0 <|
  cI (rec 201 [va_rf a0] M0) fun x2 M1 =>
  gtI (13, 157) M1 a0 41 fun x3 =>
  if x3 = 0 then (
    gtP (13, 157) M1 a0 56 fun x4 =>
    alL M1 x4 x2 fun x5 =>
    jn (fun (s6 : Int32 × Mem) =>
      gtI (13, 157) s6.2 a0 36 fun x7 =>
      jn (fun (s8 : Mem) =>
        some (.null, s8)) fun j168 =>
      if x7 = ((40 : Int32)) then (
        vC (13, 157) s6.2 a0 <|
        cV (rec 204 [va_rf a0, .int x2] s6.2) fun M9 =>
        vC (13, 157) M9 a0 <|
        cI (rec 195 [va_rf a0, .int ((59 : Int32))] M9) fun x11 M10 =>
        vC (13, 157) M10 a0 <|
        cI (rec 196 [va_rf a0, .int ((9 : Int32)), .int ((0 : Int32))] M10) fun x13 M12 =>
        j168 M12) else (
        gtI (13, 157) s6.2 a0 36 fun x14 =>
        if x14 = ((91 : Int32)) then (
          vC (13, 157) s6.2 a0 <|
          cV (rec 203 [va_rf a0] s6.2) fun M15 =>
          vC (13, 157) M15 a0 <|
          cI (rec 195 [va_rf a0, .int ((61 : Int32))] M15) fun x17 M16 =>
          vC (13, 157) M16 a0 <|
          cV (rec 211 [va_rf a0] M16) fun M18 =>
          vC (13, 157) M18 a0 <|
          cV (rec 202 [va_rf a0, .int x2, .int ((3 : Int32)), .int ((6 : Int32))] M18) fun M19 =>
          vC (13, 157) M19 a0 <|
          cI (rec 195 [va_rf a0, .int ((59 : Int32))] M19) fun x21 M20 =>
          j168 M20) else (
          vC (13, 157) s6.2 a0 <|
          cI (rec 195 [va_rf a0, .int ((61 : Int32))] s6.2) fun x23 M22 =>
          if x23 = 0 then (
            j168 M22) else (
            jn (fun (s24 : Mem) =>
              vC (13, 157) s24 a0 <|
              cV (rec 211 [va_rf a0] s24) fun M25 =>
              jn (fun (s26 : Mem) =>
                vC (13, 157) s26 a0 <|
                cI (rec 195 [va_rf a0, .int ((59 : Int32))] s26) fun x28 M27 =>
                j168 M27) fun j161 =>
              if s6.1 < 0 then (
                vC (13, 157) M25 a0 <|
                cV (rec 202 [va_rf a0, .int x2, .int ((1 : Int32)), .int ((4 : Int32))] M25) fun M29 =>
                j161 M29) else (
                vC (13, 157) M25 a0 <|
                cI (rec 196 [va_rf a0, .int ((2 : Int32)), .int s6.1] M25) fun x31 M30 =>
                j161 M30)) fun j136 =>
            if s6.1 < 0 then (
              j136 M22) else (
              gtI (13, 157) M22 a0 53 fun x32 =>
              ptI (13, 157) M22 a0 53 (x32 - ((1 : Int32))) fun M33 =>
              j136 M33))))) fun j38 =>
    if (lg_cmp x5 ((0 : Int64))) = 0 then (
      gtP (13, 157) M1 a0 58 fun x34 =>
      alL M1 x34 x2 fun x35 =>
      vC (13, 157) M1 a0 <|
      cI (rec 197 [va_rf a0, .long x35] M1) fun x37 M36 =>
      j38 (x37, M36)) else (
      j38 ((-1 : Int32), M1))) else (
    some (.null, M1))
def b217 (rec : Nat → List Value → Mem → XA) (as : List Value) (M0 : Mem) : XA := aR as fun a0 as => aZ as (c217 rec a0 M0)
set_option maxRecDepth 100000 in
set_option maxHeartbeats 4000000 in
theorem k217 {S : XS} {G : XG} {K : Nat × Nat} {l : Launch} {d : Nat} {rec : Nat → List Value → Mem → XA} (hs : XSnd l xmt rec d) (a0 : Option Nat) (M0 : Mem) : Xe S G K l (yX12_given, cX12_given, 3, none) d 0 [some (va_rf a0), none, none] [] M0 (c217 rec a0 M0) := by
  unfold c217
  refine x_aload_n dX12_given_0 rfl ?_
  refine cmX12_480 rfl hs (Nat.le_of_ble_eq_true rfl) dX12_given_1 (fun x2 M1 => ?_)
  refine x_istore_n (lo' := [some (va_rf a0), some (.int x2), none]) dX12_given_4 (by decide) (xok_r rfl) rfl ?_
  refine x_aload_n dX12_given_5 rfl ?_
  refine gfX12_395 rfl dX12_given_6 (fun x3 => ?_)
  refine x_if_eq (tgt := 13) dX12_given_9 (by decide) (fun _ => ?_) (fun _ => ?_)
  · refine x_aload_n dX12_given_13 rfl ?_
    refine gfX12_197 rfl dX12_given_14 (fun x4 => ?_)
    refine x_iload_n dX12_given_17 rfl ?_
    refine x_lald dX12_given_18 (fun x5 => ?_)
    refine x_lconst (v := 0) dX12_given_19 (by decide) ?_
    refine x_lcmp dX12_given_20 ?_
    refine x_jn (σ := Int32 × Mem) 38 (fun s6 => [some (va_rf a0), some (.int x2), none]) (fun s6 => [.int s6.1]) (fun s6 => s6.2) (fun s6 => ?_) (fun j38 hj38 => ?_)
    · refine x_istore_n (lo' := [some (va_rf a0), some (.int x2), some (.int s6.1)]) dX12_given_38 (by decide) rfl rfl ?_
      refine x_aload_n dX12_given_39 rfl ?_
      refine gfX12_408 rfl dX12_given_40 (fun x7 => ?_)
      refine x_bipush (v := 40) dX12_given_43 (by decide) ?_
      refine x_jn (σ := Mem) 168 (fun s8 => [none, none, none]) (fun s8 => []) (fun s8 => s8) (fun s8 => ?_) (fun j168 hj168 => ?_)
      · exact x_vret rfl dX12_given_168
      refine x_icmp_ne (tgt := 71) dX12_given_45 (by decide) (fun _ => ?_) (fun _ => ?_)
      · refine x_aload_n dX12_given_48 rfl ?_
        refine x_iload_n dX12_given_49 rfl ?_
        refine cmX12_483 rfl hs (Nat.le_of_ble_eq_true rfl) dX12_given_50 (fun M9 => ?_)
        refine x_aload_n dX12_given_53 rfl ?_
        refine x_bipush (v := 59) dX12_given_54 (by decide) ?_
        refine cmX12_517 rfl hs (Nat.le_of_ble_eq_true rfl) dX12_given_56 (fun x11 M10 => ?_)
        refine x_pop dX12_given_59 (xc1_i _) ?_
        refine x_aload_n dX12_given_60 rfl ?_
        refine x_bipush (v := 9) dX12_given_61 (by decide) ?_
        refine x_iconst (v := 0) dX12_given_63 (by decide) ?_
        refine cmX12_465 rfl hs (Nat.le_of_ble_eq_true rfl) dX12_given_64 (fun x13 M12 => ?_)
        refine x_pop dX12_given_67 (xc1_i _) ?_
        refine x_goto (tgt := 168) dX12_given_68 (by decide) ?_
        exact x_weak (by exact trivial) (hj168 M12)
      · refine x_aload_n dX12_given_71 rfl ?_
        refine gfX12_408 rfl dX12_given_72 (fun x14 => ?_)
        refine x_bipush (v := 91) dX12_given_75 (by decide) ?_
        refine x_icmp_ne (tgt := 113) dX12_given_77 (by decide) (fun _ => ?_) (fun _ => ?_)
        · refine x_aload_n dX12_given_80 rfl ?_
          refine cmX12_487 rfl hs (Nat.le_of_ble_eq_true rfl) dX12_given_81 (fun M15 => ?_)
          refine x_aload_n dX12_given_84 rfl ?_
          refine x_bipush (v := 61) dX12_given_85 (by decide) ?_
          refine cmX12_517 rfl hs (Nat.le_of_ble_eq_true rfl) dX12_given_87 (fun x17 M16 => ?_)
          refine x_pop dX12_given_90 (xc1_i _) ?_
          refine x_aload_n dX12_given_91 rfl ?_
          refine cmX12_473 rfl hs (Nat.le_of_ble_eq_true rfl) dX12_given_92 (fun M18 => ?_)
          refine x_aload_n dX12_given_95 rfl ?_
          refine x_iload_n dX12_given_96 rfl ?_
          refine x_iconst (v := 3) dX12_given_97 (by decide) ?_
          refine x_bipush (v := 6) dX12_given_98 (by decide) ?_
          refine cmX12_476 rfl hs (Nat.le_of_ble_eq_true rfl) dX12_given_100 (fun M19 => ?_)
          refine x_aload_n dX12_given_103 rfl ?_
          refine x_bipush (v := 59) dX12_given_104 (by decide) ?_
          refine cmX12_517 rfl hs (Nat.le_of_ble_eq_true rfl) dX12_given_106 (fun x21 M20 => ?_)
          refine x_pop dX12_given_109 (xc1_i _) ?_
          refine x_goto (tgt := 168) dX12_given_110 (by decide) ?_
          exact x_weak (by exact trivial) (hj168 M20)
        · refine x_aload_n dX12_given_113 rfl ?_
          refine x_bipush (v := 61) dX12_given_114 (by decide) ?_
          refine cmX12_517 rfl hs (Nat.le_of_ble_eq_true rfl) dX12_given_116 (fun x23 M22 => ?_)
          refine x_if_eq (tgt := 168) dX12_given_119 (by decide) (fun _ => ?_) (fun _ => ?_)
          · exact x_weak (by exact trivial) (hj168 M22)
          · refine x_iload_n dX12_given_122 rfl ?_
            refine x_jn (σ := Mem) 136 (fun s24 => [some (va_rf a0), some (.int x2), some (.int s6.1)]) (fun s24 => []) (fun s24 => s24) (fun s24 => ?_) (fun j136 hj136 => ?_)
            · refine x_aload_n dX12_given_136 rfl ?_
              refine cmX12_473 rfl hs (Nat.le_of_ble_eq_true rfl) dX12_given_137 (fun M25 => ?_)
              refine x_iload_n dX12_given_140 rfl ?_
              refine x_jn (σ := Mem) 161 (fun s26 => [some (va_rf a0), none, none]) (fun s26 => []) (fun s26 => s26) (fun s26 => ?_) (fun j161 hj161 => ?_)
              · refine x_aload_n dX12_given_161 rfl ?_
                refine x_bipush (v := 59) dX12_given_162 (by decide) ?_
                refine cmX12_517 rfl hs (Nat.le_of_ble_eq_true rfl) dX12_given_164 (fun x28 M27 => ?_)
                refine x_pop dX12_given_167 (xc1_i _) ?_
                exact x_weak (by exact trivial) (hj168 M27)
              refine x_if_lt (tgt := 154) dX12_given_141 (by decide) (fun _ => ?_) (fun _ => ?_)
              · refine x_aload_n dX12_given_154 rfl ?_
                refine x_iload_n dX12_given_155 rfl ?_
                refine x_iconst (v := 1) dX12_given_156 (by decide) ?_
                refine x_iconst (v := 4) dX12_given_157 (by decide) ?_
                refine cmX12_476 rfl hs (Nat.le_of_ble_eq_true rfl) dX12_given_158 (fun M29 => ?_)
                exact x_weak (by exact ⟨rfl, trivial⟩) (hj161 M29)
              · refine x_aload_n dX12_given_144 rfl ?_
                refine x_iconst (v := 2) dX12_given_145 (by decide) ?_
                refine x_iload_n dX12_given_146 rfl ?_
                refine cmX12_465 rfl hs (Nat.le_of_ble_eq_true rfl) dX12_given_147 (fun x31 M30 => ?_)
                refine x_pop dX12_given_150 (xc1_i _) ?_
                refine x_goto (tgt := 161) dX12_given_151 (by decide) ?_
                exact x_weak (by exact ⟨rfl, trivial⟩) (hj161 M30)
            refine x_if_lt (tgt := 136) dX12_given_123 (by decide) (fun _ => ?_) (fun _ => ?_)
            · exact x_weak (by exact ⟨rfl, ⟨rfl, ⟨rfl, trivial⟩⟩⟩) (hj136 M22)
            · refine x_aload_n dX12_given_126 rfl ?_
              refine x_dup dX12_given_127 (xc1_r _) ?_
              refine gfX12_462 rfl dX12_given_128 (fun x32 => ?_)
              refine x_iconst (v := 1) dX12_given_131 (by decide) ?_
              refine x_isub dX12_given_132 ?_
              refine pfX12_462 rfl dX12_given_133 (fun M33 => ?_)
              exact x_weak (by exact ⟨rfl, ⟨rfl, ⟨rfl, trivial⟩⟩⟩) (hj136 M33)
    refine x_if_ne (tgt := 37) dX12_given_21 (by decide) (fun _ => ?_) (fun _ => ?_)
    · refine x_aload_n dX12_given_24 rfl ?_
      refine x_aload_n dX12_given_25 rfl ?_
      refine gfX12_203 rfl dX12_given_26 (fun x34 => ?_)
      refine x_iload_n dX12_given_29 rfl ?_
      refine x_lald dX12_given_30 (fun x35 => ?_)
      refine cmX12_451 rfl hs (Nat.le_of_ble_eq_true rfl) dX12_given_31 (fun x37 M36 => ?_)
      refine x_goto (tgt := 38) dX12_given_34 (by decide) ?_
      exact x_weak (by exact ⟨rfl, ⟨rfl, trivial⟩⟩) (hj38 (x37, M36))
    · refine x_iconst (v := -1) dX12_given_37 (by decide) ?_
      exact x_weak (by exact ⟨rfl, ⟨rfl, trivial⟩⟩) (hj38 ((-1 : Int32), M1))
  · exact x_vret rfl dX12_given_12
theorem s217 {l : Launch} {d : Nat} {rec : Nat → List Value → Mem → XA} (hS : Nonempty XS) (hs : XSnd l xmt rec d) : Snd1 l 217 (b217 rec) d := by
  intro as M r M' h0
  unfold b217 at h0
  obtain ⟨a0, l1, e1, h1⟩ := aR_inv h0
  obtain ⟨ez, h⟩ := aZ_inv h1
  subst ez
  subst e1
  exact xmet (M := M) (as := [va_rf a0]) (lo := [some (va_rf a0)]) 217 xq217 xm217 (by rw [xargs_rf, xargs_nil]; exact ⟨rfl, trivial⟩) (by rw [xargs_rf, xargs_nil]; exact Nat.le_of_ble_eq_true rfl) (fun S G K => x_weak (by exact ⟨rfl, trivial⟩) (k217 hs a0 M)) h hS
set_option maxRecDepth 100000 in
def c218 (rec : Nat → List Value → Mem → XA) (a0 : Option Nat) (a1 : Int32) (M0 : Mem) : XA :=
  gtI (13, 157) M0 a0 43 fun x1 =>
  ptI (13, 157) M0 a0 50 ((0 : Int32)) fun M2 =>
  ptZ (13, 157) M2 a0 48 a1 fun M3 =>
  vC (13, 157) M3 a0 <|
  cV (rec 212 [va_rf a0] M3) fun M4 =>
  vC (13, 157) M4 a0 <|
  cI (rec 196 [va_rf a0, .int ((0 : Int32)), .int ((0 : Int32))] M4) fun x6 M5 =>
  vC (13, 157) M5 a0 <|
  cI (rec 196 [va_rf a0, .int ((8 : Int32)), .int ((0 : Int32))] M5) fun x8 M7 =>
  gtI (13, 157) M7 a0 41 fun x9 =>
  jn (fun (s10 : Mem) =>
    vC (13, 157) s10 a0 <|
    cV (rec 191 [va_rf a0] s10) fun M11 =>
    some (.int x1, M11)) fun j75 =>
  if x9 = 0 then (
    gtI (13, 157) M7 a0 43 fun x12 =>
    jn (fun (s13 : Int32) =>
      vC (13, 157) M7 a0 <|
      cI (rec 194 [va_rf a0, .int s13, .int ((6 : Int32))] M7) fun x15 M14 =>
      j75 M14) fun j69 =>
    jn (fun (s16 : Unit) =>
      j69 ((0 : Int32))) fun j68 =>
    if ((200 : Int32)) < (x12 - x1) then (
      j68 ()) else (
      gtI (13, 157) M7 a0 43 fun x17 =>
      if ((1000 : Int32)) < x17 then (
        j68 ()) else (
        j69 ((1 : Int32))))) else (
    j75 M7)
def b218 (rec : Nat → List Value → Mem → XA) (as : List Value) (M0 : Mem) : XA := aR as fun a0 as => aI as fun a1 as => aZ as (c218 rec a0 a1 M0)
set_option maxRecDepth 100000 in
set_option maxHeartbeats 4000000 in
theorem k218 {S : XS} {G : XG} {K : Nat × Nat} {l : Launch} {d : Nat} {rec : Nat → List Value → Mem → XA} (hs : XSnd l xmt rec d) (a0 : Option Nat) (a1 : Int32) (M0 : Mem) : Xe S G K l (yX12_code, cX12_code, 3, some .int) d 0 [some (va_rf a0), some (.int a1), none] [] M0 (c218 rec a0 a1 M0) := by
  unfold c218
  refine x_aload_n dX12_code_0 rfl ?_
  refine gfX12_439 rfl dX12_code_1 (fun x1 => ?_)
  refine x_istore_n (lo' := [some (va_rf a0), some (.int a1), some (.int x1)]) dX12_code_4 (by decide) rfl rfl ?_
  refine x_aload_n dX12_code_5 rfl ?_
  refine x_iconst (v := 0) dX12_code_6 (by decide) ?_
  refine pfX12_459 rfl dX12_code_7 (fun M2 => ?_)
  refine x_aload_n dX12_code_10 rfl ?_
  refine x_iload_n dX12_code_11 rfl ?_
  refine pfX12_444 rfl dX12_code_12 (fun M3 => ?_)
  refine x_aload_n dX12_code_15 rfl ?_
  refine cmX12_511 rfl hs (Nat.le_of_ble_eq_true rfl) dX12_code_16 (fun M4 => ?_)
  refine x_aload_n dX12_code_19 rfl ?_
  refine x_iconst (v := 0) dX12_code_20 (by decide) ?_
  refine x_iconst (v := 0) dX12_code_21 (by decide) ?_
  refine cmX12_465 rfl hs (Nat.le_of_ble_eq_true rfl) dX12_code_22 (fun x6 M5 => ?_)
  refine x_pop dX12_code_25 (xc1_i _) ?_
  refine x_aload_n dX12_code_26 rfl ?_
  refine x_bipush (v := 8) dX12_code_27 (by decide) ?_
  refine x_iconst (v := 0) dX12_code_29 (by decide) ?_
  refine cmX12_465 rfl hs (Nat.le_of_ble_eq_true rfl) dX12_code_30 (fun x8 M7 => ?_)
  refine x_pop dX12_code_33 (xc1_i _) ?_
  refine x_aload_n dX12_code_34 rfl ?_
  refine gfX12_395 rfl dX12_code_35 (fun x9 => ?_)
  refine x_jn (σ := Mem) 75 (fun s10 => [some (va_rf a0), none, some (.int x1)]) (fun s10 => []) (fun s10 => s10) (fun s10 => ?_) (fun j75 hj75 => ?_)
  · refine x_aload_n dX12_code_75 rfl ?_
    refine cmX12_436 rfl hs (Nat.le_of_ble_eq_true rfl) dX12_code_76 (fun M11 => ?_)
    refine x_iload_n dX12_code_79 rfl ?_
    exact x_iret rfl dX12_code_80
  refine x_if_ne (tgt := 75) dX12_code_38 (by decide) (fun _ => ?_) (fun _ => ?_)
  · refine x_aload_n dX12_code_41 rfl ?_
    refine x_aload_n dX12_code_42 rfl ?_
    refine gfX12_439 rfl dX12_code_43 (fun x12 => ?_)
    refine x_iload_n dX12_code_46 rfl ?_
    refine x_isub dX12_code_47 ?_
    refine x_sipush (v := 200) dX12_code_48 (by decide) ?_
    refine x_jn (σ := Int32) 69 (fun s13 => [some (va_rf a0), none, some (.int x1)]) (fun s13 => [.int s13, va_rf a0]) (fun s13 => M7) (fun s13 => ?_) (fun j69 hj69 => ?_)
    · refine x_bipush (v := 6) dX12_code_69 (by decide) ?_
      refine cmX12_455 rfl hs (Nat.le_of_ble_eq_true rfl) dX12_code_71 (fun x15 M14 => ?_)
      refine x_pop dX12_code_74 (xc1_i _) ?_
      exact x_weak (by exact ⟨rfl, ⟨rfl, trivial⟩⟩) (hj75 M14)
    refine x_jn (σ := Unit) 68 (fun s16 => [some (va_rf a0), none, some (.int x1)]) (fun s16 => [va_rf a0]) (fun s16 => M7) (fun s16 => ?_) (fun j68 hj68 => ?_)
    · refine x_iconst (v := 0) dX12_code_68 (by decide) ?_
      exact x_weak (by exact ⟨rfl, ⟨rfl, trivial⟩⟩) (hj69 ((0 : Int32)))
    refine x_icmp_gt (tgt := 68) dX12_code_51 (by decide) (fun _ => ?_) (fun _ => ?_)
    · exact x_weak (by exact ⟨rfl, ⟨rfl, trivial⟩⟩) (hj68 ())
    · refine x_aload_n dX12_code_54 rfl ?_
      refine gfX12_439 rfl dX12_code_55 (fun x17 => ?_)
      refine x_sipush (v := 1000) dX12_code_58 (by decide) ?_
      refine x_icmp_gt (tgt := 68) dX12_code_61 (by decide) (fun _ => ?_) (fun _ => ?_)
      · exact x_weak (by exact ⟨rfl, ⟨rfl, trivial⟩⟩) (hj68 ())
      · refine x_iconst (v := 1) dX12_code_64 (by decide) ?_
        refine x_goto (tgt := 69) dX12_code_65 (by decide) ?_
        exact x_weak (by exact ⟨rfl, ⟨rfl, trivial⟩⟩) (hj69 ((1 : Int32)))
  · exact x_weak (by exact ⟨rfl, ⟨rfl, trivial⟩⟩) (hj75 M7)
theorem s218 {l : Launch} {d : Nat} {rec : Nat → List Value → Mem → XA} (hS : Nonempty XS) (hs : XSnd l xmt rec d) : Snd1 l 218 (b218 rec) d := by
  intro as M r M' h0
  unfold b218 at h0
  obtain ⟨a0, l1, e1, h1⟩ := aR_inv h0
  obtain ⟨a1, l2, e2, h2⟩ := aI_inv h1
  obtain ⟨ez, h⟩ := aZ_inv h2
  subst ez
  subst e2
  subst e1
  exact xmet (M := M) (as := [va_rf a0, .int a1]) (lo := [some (va_rf a0), some (.int a1)]) 218 xq218 xm218 (by rw [xargs_rf, xargs_i, xargs_nil]; exact ⟨rfl, ⟨rfl, trivial⟩⟩) (by rw [xargs_rf, xargs_i, xargs_nil]; exact Nat.le_of_ble_eq_true rfl) (fun S G K => x_weak (by exact ⟨rfl, ⟨rfl, trivial⟩⟩) (k218 hs a0 a1 M)) h hS
set_option maxRecDepth 100000 in
def c219 (rec : Nat → List Value → Mem → XA) (a0 : Option Nat) (M0 : Mem) : XA :=
  gtI (13, 157) M0 a0 36 fun x1 =>
  jn (fun (s2 : Int32) =>
    jn (fun (s3 : Mem) =>
      gtI (13, 157) s3 a0 41 fun x4 =>
      jn (fun (s5 : Mem) =>
        some (.null, s5)) fun j74 =>
      if x4 = 0 then (
        gtI (13, 157) s3 a0 36 fun x6 =>
        jn (fun (s7 : Int32) =>
          vC (13, 157) s3 a0 <|
          cI (rec 193 [va_rf a0, .int s7] s3) fun x9 M8 =>
          if x9 = 0 then (
            j74 M8) else (
            jn (fun (s10 : Int32) =>
              ptI (13, 157) M8 a0 62 s10 fun M11 =>
              vC (13, 157) M11 a0 <|
              cV (rec 191 [va_rf a0] M11) fun M12 =>
              j74 M12) fun j67 =>
            if s2 = 0 then (
              gtI (13, 157) M8 a0 40 fun x13 =>
              j67 x13) else (
              gtI (13, 157) M8 a0 40 fun x14 =>
              j67 (-x14)))) fun j44 =>
        if x6 = ((2 : Int32)) then (
          j44 ((1 : Int32))) else (
          j44 ((0 : Int32)))) else (
        j74 s3)) fun j23 =>
    if s2 = 0 then (
      j23 M0) else (
      vC (13, 157) M0 a0 <|
      cV (rec 191 [va_rf a0] M0) fun M15 =>
      j23 M15)) fun j14 =>
  if x1 = ((45 : Int32)) then (
    j14 ((1 : Int32))) else (
    j14 ((0 : Int32)))
def b219 (rec : Nat → List Value → Mem → XA) (as : List Value) (M0 : Mem) : XA := aR as fun a0 as => aZ as (c219 rec a0 M0)
set_option maxRecDepth 100000 in
set_option maxHeartbeats 4000000 in
theorem k219 {S : XS} {G : XG} {K : Nat × Nat} {l : Launch} {d : Nat} {rec : Nat → List Value → Mem → XA} (hs : XSnd l xmt rec d) (a0 : Option Nat) (M0 : Mem) : Xe S G K l (yX12_signed, cX12_signed, 2, none) d 0 [some (va_rf a0), none] [] M0 (c219 rec a0 M0) := by
  unfold c219
  refine x_aload_n dX12_signed_0 rfl ?_
  refine gfX12_408 rfl dX12_signed_1 (fun x1 => ?_)
  refine x_bipush (v := 45) dX12_signed_4 (by decide) ?_
  refine x_jn (σ := Int32) 14 (fun s2 => [some (va_rf a0), none]) (fun s2 => [.int s2]) (fun s2 => M0) (fun s2 => ?_) (fun j14 hj14 => ?_)
  · refine x_istore_n (lo' := [some (va_rf a0), some (.int s2)]) dX12_signed_14 (by decide) (xok_r rfl) rfl ?_
    refine x_iload_n dX12_signed_15 rfl ?_
    refine x_jn (σ := Mem) 23 (fun s3 => [some (va_rf a0), some (.int s2)]) (fun s3 => []) (fun s3 => s3) (fun s3 => ?_) (fun j23 hj23 => ?_)
    · refine x_aload_n dX12_signed_23 rfl ?_
      refine gfX12_395 rfl dX12_signed_24 (fun x4 => ?_)
      refine x_jn (σ := Mem) 74 (fun s5 => [none, none]) (fun s5 => []) (fun s5 => s5) (fun s5 => ?_) (fun j74 hj74 => ?_)
      · exact x_vret rfl dX12_signed_74
      refine x_if_ne (tgt := 74) dX12_signed_27 (by decide) (fun _ => ?_) (fun _ => ?_)
      · refine x_aload_n dX12_signed_30 rfl ?_
        refine x_aload_n dX12_signed_31 rfl ?_
        refine gfX12_408 rfl dX12_signed_32 (fun x6 => ?_)
        refine x_iconst (v := 2) dX12_signed_35 (by decide) ?_
        refine x_jn (σ := Int32) 44 (fun s7 => [some (va_rf a0), some (.int s2)]) (fun s7 => [.int s7, va_rf a0]) (fun s7 => s3) (fun s7 => ?_) (fun j44 hj44 => ?_)
        · refine cmX12_432 rfl hs (Nat.le_of_ble_eq_true rfl) dX12_signed_44 (fun x9 M8 => ?_)
          refine x_if_eq (tgt := 74) dX12_signed_47 (by decide) (fun _ => ?_) (fun _ => ?_)
          · exact x_weak (by exact trivial) (hj74 M8)
          · refine x_aload_n dX12_signed_50 rfl ?_
            refine x_iload_n dX12_signed_51 rfl ?_
            refine x_jn (σ := Int32) 67 (fun s10 => [some (va_rf a0), none]) (fun s10 => [.int s10, va_rf a0]) (fun s10 => M8) (fun s10 => ?_) (fun j67 hj67 => ?_)
            · refine pfX12_536 rfl dX12_signed_67 (fun M11 => ?_)
              refine x_aload_n dX12_signed_70 rfl ?_
              refine cmX12_436 rfl hs (Nat.le_of_ble_eq_true rfl) dX12_signed_71 (fun M12 => ?_)
              exact x_weak (by exact trivial) (hj74 M12)
            refine x_if_eq (tgt := 63) dX12_signed_52 (by decide) (fun _ => ?_) (fun _ => ?_)
            · refine x_aload_n dX12_signed_63 rfl ?_
              refine gfX12_422 rfl dX12_signed_64 (fun x13 => ?_)
              exact x_weak (by exact ⟨rfl, trivial⟩) (hj67 x13)
            · refine x_aload_n dX12_signed_55 rfl ?_
              refine gfX12_422 rfl dX12_signed_56 (fun x14 => ?_)
              refine x_ineg dX12_signed_59 ?_
              refine x_goto (tgt := 67) dX12_signed_60 (by decide) ?_
              exact x_weak (by exact ⟨rfl, trivial⟩) (hj67 (-x14))
        refine x_icmp_ne (tgt := 43) dX12_signed_36 (by decide) (fun _ => ?_) (fun _ => ?_)
        · refine x_iconst (v := 1) dX12_signed_39 (by decide) ?_
          refine x_goto (tgt := 44) dX12_signed_40 (by decide) ?_
          exact x_weak (by exact ⟨rfl, ⟨rfl, trivial⟩⟩) (hj44 ((1 : Int32)))
        · refine x_iconst (v := 0) dX12_signed_43 (by decide) ?_
          exact x_weak (by exact ⟨rfl, ⟨rfl, trivial⟩⟩) (hj44 ((0 : Int32)))
      · exact x_weak (by exact trivial) (hj74 s3)
    refine x_if_eq (tgt := 23) dX12_signed_16 (by decide) (fun _ => ?_) (fun _ => ?_)
    · exact x_weak (by exact ⟨rfl, ⟨rfl, trivial⟩⟩) (hj23 M0)
    · refine x_aload_n dX12_signed_19 rfl ?_
      refine cmX12_436 rfl hs (Nat.le_of_ble_eq_true rfl) dX12_signed_20 (fun M15 => ?_)
      exact x_weak (by exact ⟨rfl, ⟨rfl, trivial⟩⟩) (hj23 M15)
  refine x_icmp_ne (tgt := 13) dX12_signed_6 (by decide) (fun _ => ?_) (fun _ => ?_)
  · refine x_iconst (v := 1) dX12_signed_9 (by decide) ?_
    refine x_goto (tgt := 14) dX12_signed_10 (by decide) ?_
    exact x_weak (by exact ⟨rfl, trivial⟩) (hj14 ((1 : Int32)))
  · refine x_iconst (v := 0) dX12_signed_13 (by decide) ?_
    exact x_weak (by exact ⟨rfl, trivial⟩) (hj14 ((0 : Int32)))
theorem s219 {l : Launch} {d : Nat} {rec : Nat → List Value → Mem → XA} (hS : Nonempty XS) (hs : XSnd l xmt rec d) : Snd1 l 219 (b219 rec) d := by
  intro as M r M' h0
  unfold b219 at h0
  obtain ⟨a0, l1, e1, h1⟩ := aR_inv h0
  obtain ⟨ez, h⟩ := aZ_inv h1
  subst ez
  subst e1
  exact xmet (M := M) (as := [va_rf a0]) (lo := [some (va_rf a0)]) 219 xq219 xm219 (by rw [xargs_rf, xargs_nil]; exact ⟨rfl, trivial⟩) (by rw [xargs_rf, xargs_nil]; exact Nat.le_of_ble_eq_true rfl) (fun S G K => x_weak (by exact ⟨rfl, trivial⟩) (k219 hs a0 M)) h hS
set_option maxRecDepth 100000 in
def c220 (rec : Nat → List Value → Mem → XA) (a0 : Option Nat) (a1 : Int32) (a2 : Int64) (M0 : Mem) : XA :=
  lt (((96 : Int32)) * a1) fun (x1 : Int32) =>
  lp (fun (s2 : Int32) j6 =>
    gtP (13, 157) M0 a0 10 fun x3 =>
    alI 100 M0 x3 a1 fun x4 =>
    if ((((96 : Int32)) * a1) + x4) ≤ s2 then (
      lt (((16 : Int32)) * a1) fun (x5 : Int32) =>
      lp (fun (s6 : Int32) j62 =>
        gtP (13, 157) M0 a0 17 fun x7 =>
        alI 100 M0 x7 a1 fun x8 =>
        if ((((16 : Int32)) * a1) + x8) ≤ s6 then (
          lt (((6 : Int32)) * a1) fun (x9 : Int32) =>
          lp (fun (s10 : Int32) j118 =>
            gtP (13, 157) M0 a0 25 fun x11 =>
            alI 100 M0 x11 a1 fun x12 =>
            if ((((6 : Int32)) * a1) + x12) ≤ s10 then (
              rtZ ((0 : Int32)) M0) else (
              gtP (13, 157) M0 a0 63 fun x13 =>
              alI 100 M0 x13 s10 fun x14 =>
              gtI (13, 157) M0 a0 49 fun x15 =>
              jn (fun (s16 : Unit) =>
                lt (s10 + (1 : Int32)) fun (x17 : Int32) =>
                j118 x17) fun j162 =>
              if x14 = x15 then (
                gtP (13, 157) M0 a0 26 fun x18 =>
                alL M0 x18 s10 fun x19 =>
                if (lg_cmp x19 a2) = 0 then (
                  rtZ ((1 : Int32)) M0) else (
                  j162 ())) else (
                j162 ()))) 4294967296 x9) else (
          gtP (13, 157) M0 a0 19 fun x20 =>
          alI 100 M0 x20 s6 fun x21 =>
          gtI (13, 157) M0 a0 49 fun x22 =>
          jn (fun (s23 : Unit) =>
            lt (s6 + (1 : Int32)) fun (x24 : Int32) =>
            j62 x24) fun j106 =>
          if x21 = x22 then (
            gtP (13, 157) M0 a0 18 fun x25 =>
            alL M0 x25 s6 fun x26 =>
            if (lg_cmp x26 a2) = 0 then (
              rtZ ((1 : Int32)) M0) else (
              j106 ())) else (
            j106 ()))) 4294967296 x5) else (
      gtP (13, 157) M0 a0 12 fun x27 =>
      alI 100 M0 x27 s2 fun x28 =>
      gtI (13, 157) M0 a0 49 fun x29 =>
      jn (fun (s30 : Unit) =>
        lt (s2 + (1 : Int32)) fun (x31 : Int32) =>
        j6 x31) fun j50 =>
      if x28 = x29 then (
        gtP (13, 157) M0 a0 11 fun x32 =>
        alL M0 x32 s2 fun x33 =>
        if (lg_cmp x33 a2) = 0 then (
          rtZ ((1 : Int32)) M0) else (
          j50 ())) else (
        j50 ()))) 4294967296 x1
def b220 (rec : Nat → List Value → Mem → XA) (as : List Value) (M0 : Mem) : XA := aR as fun a0 as => aI as fun a1 as => aL as fun a2 as => aZ as (c220 rec a0 a1 a2 M0)
set_option maxRecDepth 100000 in
set_option maxHeartbeats 4000000 in
theorem k220 {S : XS} {G : XG} {K : Nat × Nat} {l : Launch} {d : Nat} {rec : Nat → List Value → Mem → XA} (hs : XSnd l xmt rec d) (a0 : Option Nat) (a1 : Int32) (a2 : Int64) (M0 : Mem) : Xe S G K l (yX12_isTold, cX12_isTold, 5, some .boolean) d 0 [some (va_rf a0), some (.int a1), some (.long a2), none, none] [] M0 (c220 rec a0 a1 a2 M0) := by
  unfold c220
  refine x_bipush (v := 96) dX12_isTold_0 (by decide) ?_
  refine x_iload_n dX12_isTold_2 rfl ?_
  refine x_imul dX12_isTold_3 ?_
  refine x_ltI (fun x1 => ?_)
  refine x_istore (lo' := [some (va_rf a0), some (.int a1), some (.long a2), none, some (.int x1)]) dX12_isTold_4 (by decide) rfl rfl ?_
  refine x_weak (by exact ⟨rfl, ⟨rfl, ⟨rfl, ⟨rfl, trivial⟩⟩⟩⟩) (x_lp (σ := Int32) 6 (fun s2 => [some (va_rf a0), some (.int a1), some (.long a2), none, some (.int s2)]) (fun s2 => []) (fun s2 => M0) (fun s2 j6 hj6 => ?_) 4294967296 x1)
  · refine x_iload dX12_isTold_6 rfl ?_
    refine x_bipush (v := 96) dX12_isTold_8 (by decide) ?_
    refine x_iload_n dX12_isTold_10 rfl ?_
    refine x_imul dX12_isTold_11 ?_
    refine x_aload_n dX12_isTold_12 rfl ?_
    refine gfX12_36 rfl dX12_isTold_13 (fun x3 => ?_)
    refine x_iload_n dX12_isTold_16 rfl ?_
    refine x_iald dX12_isTold_17 (fun x4 => ?_)
    refine x_iadd dX12_isTold_18 ?_
    refine x_icmp_ge (tgt := 56) dX12_isTold_19 (by decide) (fun _ => ?_) (fun _ => ?_)
    · refine x_bipush (v := 16) dX12_isTold_56 (by decide) ?_
      refine x_iload_n dX12_isTold_58 rfl ?_
      refine x_imul dX12_isTold_59 ?_
      refine x_ltI (fun x5 => ?_)
      refine x_istore (lo' := [some (va_rf a0), some (.int a1), some (.long a2), none, some (.int x5)]) dX12_isTold_60 (by decide) rfl rfl ?_
      refine x_weak (by exact ⟨rfl, ⟨rfl, ⟨rfl, ⟨rfl, trivial⟩⟩⟩⟩) (x_lp (σ := Int32) 62 (fun s6 => [some (va_rf a0), some (.int a1), some (.long a2), none, some (.int s6)]) (fun s6 => []) (fun s6 => M0) (fun s6 j62 hj62 => ?_) 4294967296 x5)
      · refine x_iload dX12_isTold_62 rfl ?_
        refine x_bipush (v := 16) dX12_isTold_64 (by decide) ?_
        refine x_iload_n dX12_isTold_66 rfl ?_
        refine x_imul dX12_isTold_67 ?_
        refine x_aload_n dX12_isTold_68 rfl ?_
        refine gfX12_58 rfl dX12_isTold_69 (fun x7 => ?_)
        refine x_iload_n dX12_isTold_72 rfl ?_
        refine x_iald dX12_isTold_73 (fun x8 => ?_)
        refine x_iadd dX12_isTold_74 ?_
        refine x_icmp_ge (tgt := 112) dX12_isTold_75 (by decide) (fun _ => ?_) (fun _ => ?_)
        · refine x_bipush (v := 6) dX12_isTold_112 (by decide) ?_
          refine x_iload_n dX12_isTold_114 rfl ?_
          refine x_imul dX12_isTold_115 ?_
          refine x_ltI (fun x9 => ?_)
          refine x_istore (lo' := [some (va_rf a0), some (.int a1), some (.long a2), none, some (.int x9)]) dX12_isTold_116 (by decide) rfl rfl ?_
          refine x_weak (by exact ⟨rfl, ⟨rfl, ⟨rfl, ⟨rfl, trivial⟩⟩⟩⟩) (x_lp (σ := Int32) 118 (fun s10 => [some (va_rf a0), some (.int a1), some (.long a2), none, some (.int s10)]) (fun s10 => []) (fun s10 => M0) (fun s10 j118 hj118 => ?_) 4294967296 x9)
          · refine x_iload dX12_isTold_118 rfl ?_
            refine x_bipush (v := 6) dX12_isTold_120 (by decide) ?_
            refine x_iload_n dX12_isTold_122 rfl ?_
            refine x_imul dX12_isTold_123 ?_
            refine x_aload_n dX12_isTold_124 rfl ?_
            refine gfX12_82 rfl dX12_isTold_125 (fun x11 => ?_)
            refine x_iload_n dX12_isTold_128 rfl ?_
            refine x_iald dX12_isTold_129 (fun x12 => ?_)
            refine x_iadd dX12_isTold_130 ?_
            refine x_icmp_ge (tgt := 168) dX12_isTold_131 (by decide) (fun _ => ?_) (fun _ => ?_)
            · refine x_iconst (v := 0) dX12_isTold_168 (by decide) ?_
              exact x_zret rfl dX12_isTold_169
            · refine x_aload_n dX12_isTold_134 rfl ?_
              refine gfX12_215 rfl dX12_isTold_135 (fun x13 => ?_)
              refine x_iload dX12_isTold_138 rfl ?_
              refine x_iald dX12_isTold_140 (fun x14 => ?_)
              refine x_aload_n dX12_isTold_141 rfl ?_
              refine gfX12_442 rfl dX12_isTold_142 (fun x15 => ?_)
              refine x_jn (σ := Unit) 162 (fun s16 => [some (va_rf a0), some (.int a1), some (.long a2), none, some (.int s10)]) (fun s16 => []) (fun s16 => M0) (fun s16 => ?_) (fun j162 hj162 => ?_)
              · refine x_iincN (v := 1) (lo' := fun x17 => [some (va_rf a0), some (.int a1), some (.long a2), none, some (.int x17)]) (by decide) dX12_isTold_162 rfl (by decide) rfl (fun _ => rfl) (fun x17 => ?_)
                refine x_goto (tgt := 118) dX12_isTold_165 (by decide) ?_
                exact x_weak (by exact ⟨rfl, ⟨rfl, ⟨rfl, ⟨rfl, trivial⟩⟩⟩⟩) (hj118 x17)
              refine x_icmp_ne (tgt := 162) dX12_isTold_145 (by decide) (fun _ => ?_) (fun _ => ?_)
              · refine x_aload_n dX12_isTold_148 rfl ?_
                refine gfX12_85 rfl dX12_isTold_149 (fun x18 => ?_)
                refine x_iload dX12_isTold_152 rfl ?_
                refine x_lald dX12_isTold_154 (fun x19 => ?_)
                refine x_lload_n dX12_isTold_155 rfl ?_
                refine x_lcmp dX12_isTold_156 ?_
                refine x_if_ne (tgt := 162) dX12_isTold_157 (by decide) (fun _ => ?_) (fun _ => ?_)
                · refine x_iconst (v := 1) dX12_isTold_160 (by decide) ?_
                  exact x_zret rfl dX12_isTold_161
                · exact x_weak (by exact ⟨rfl, ⟨rfl, ⟨rfl, ⟨rfl, trivial⟩⟩⟩⟩) (hj162 ())
              · exact x_weak (by exact ⟨rfl, ⟨rfl, ⟨rfl, ⟨rfl, trivial⟩⟩⟩⟩) (hj162 ())
        · refine x_aload_n dX12_isTold_78 rfl ?_
          refine gfX12_64 rfl dX12_isTold_79 (fun x20 => ?_)
          refine x_iload dX12_isTold_82 rfl ?_
          refine x_iald dX12_isTold_84 (fun x21 => ?_)
          refine x_aload_n dX12_isTold_85 rfl ?_
          refine gfX12_442 rfl dX12_isTold_86 (fun x22 => ?_)
          refine x_jn (σ := Unit) 106 (fun s23 => [some (va_rf a0), some (.int a1), some (.long a2), none, some (.int s6)]) (fun s23 => []) (fun s23 => M0) (fun s23 => ?_) (fun j106 hj106 => ?_)
          · refine x_iincN (v := 1) (lo' := fun x24 => [some (va_rf a0), some (.int a1), some (.long a2), none, some (.int x24)]) (by decide) dX12_isTold_106 rfl (by decide) rfl (fun _ => rfl) (fun x24 => ?_)
            refine x_goto (tgt := 62) dX12_isTold_109 (by decide) ?_
            exact x_weak (by exact ⟨rfl, ⟨rfl, ⟨rfl, ⟨rfl, trivial⟩⟩⟩⟩) (hj62 x24)
          refine x_icmp_ne (tgt := 106) dX12_isTold_89 (by decide) (fun _ => ?_) (fun _ => ?_)
          · refine x_aload_n dX12_isTold_92 rfl ?_
            refine gfX12_61 rfl dX12_isTold_93 (fun x25 => ?_)
            refine x_iload dX12_isTold_96 rfl ?_
            refine x_lald dX12_isTold_98 (fun x26 => ?_)
            refine x_lload_n dX12_isTold_99 rfl ?_
            refine x_lcmp dX12_isTold_100 ?_
            refine x_if_ne (tgt := 106) dX12_isTold_101 (by decide) (fun _ => ?_) (fun _ => ?_)
            · refine x_iconst (v := 1) dX12_isTold_104 (by decide) ?_
              exact x_zret rfl dX12_isTold_105
            · exact x_weak (by exact ⟨rfl, ⟨rfl, ⟨rfl, ⟨rfl, trivial⟩⟩⟩⟩) (hj106 ())
          · exact x_weak (by exact ⟨rfl, ⟨rfl, ⟨rfl, ⟨rfl, trivial⟩⟩⟩⟩) (hj106 ())
    · refine x_aload_n dX12_isTold_22 rfl ?_
      refine gfX12_42 rfl dX12_isTold_23 (fun x27 => ?_)
      refine x_iload dX12_isTold_26 rfl ?_
      refine x_iald dX12_isTold_28 (fun x28 => ?_)
      refine x_aload_n dX12_isTold_29 rfl ?_
      refine gfX12_442 rfl dX12_isTold_30 (fun x29 => ?_)
      refine x_jn (σ := Unit) 50 (fun s30 => [some (va_rf a0), some (.int a1), some (.long a2), none, some (.int s2)]) (fun s30 => []) (fun s30 => M0) (fun s30 => ?_) (fun j50 hj50 => ?_)
      · refine x_iincN (v := 1) (lo' := fun x31 => [some (va_rf a0), some (.int a1), some (.long a2), none, some (.int x31)]) (by decide) dX12_isTold_50 rfl (by decide) rfl (fun _ => rfl) (fun x31 => ?_)
        refine x_goto (tgt := 6) dX12_isTold_53 (by decide) ?_
        exact x_weak (by exact ⟨rfl, ⟨rfl, ⟨rfl, ⟨rfl, trivial⟩⟩⟩⟩) (hj6 x31)
      refine x_icmp_ne (tgt := 50) dX12_isTold_33 (by decide) (fun _ => ?_) (fun _ => ?_)
      · refine x_aload_n dX12_isTold_36 rfl ?_
        refine gfX12_39 rfl dX12_isTold_37 (fun x32 => ?_)
        refine x_iload dX12_isTold_40 rfl ?_
        refine x_lald dX12_isTold_42 (fun x33 => ?_)
        refine x_lload_n dX12_isTold_43 rfl ?_
        refine x_lcmp dX12_isTold_44 ?_
        refine x_if_ne (tgt := 50) dX12_isTold_45 (by decide) (fun _ => ?_) (fun _ => ?_)
        · refine x_iconst (v := 1) dX12_isTold_48 (by decide) ?_
          exact x_zret rfl dX12_isTold_49
        · exact x_weak (by exact ⟨rfl, ⟨rfl, ⟨rfl, ⟨rfl, trivial⟩⟩⟩⟩) (hj50 ())
      · exact x_weak (by exact ⟨rfl, ⟨rfl, ⟨rfl, ⟨rfl, trivial⟩⟩⟩⟩) (hj50 ())
theorem s220 {l : Launch} {d : Nat} {rec : Nat → List Value → Mem → XA} (hS : Nonempty XS) (hs : XSnd l xmt rec d) : Snd1 l 220 (b220 rec) d := by
  intro as M r M' h0
  unfold b220 at h0
  obtain ⟨a0, l1, e1, h1⟩ := aR_inv h0
  obtain ⟨a1, l2, e2, h2⟩ := aI_inv h1
  obtain ⟨a2, l3, e3, h3⟩ := aL_inv h2
  obtain ⟨ez, h⟩ := aZ_inv h3
  subst ez
  subst e3
  subst e2
  subst e1
  exact xmet (M := M) (as := [va_rf a0, .int a1, .long a2]) (lo := [some (va_rf a0), some (.int a1), some (.long a2)]) 220 xq220 xm220 (by rw [xargs_rf, xargs_i, xargs_l, xargs_nil]; exact ⟨rfl, ⟨rfl, ⟨rfl, trivial⟩⟩⟩) (by rw [xargs_rf, xargs_i, xargs_l, xargs_nil]; exact Nat.le_of_ble_eq_true rfl) (fun S G K => x_weak (by exact ⟨rfl, ⟨rfl, ⟨rfl, trivial⟩⟩⟩) (k220 hs a0 a1 a2 M)) h hS
set_option maxRecDepth 100000 in
def c221 (rec : Nat → List Value → Mem → XA) (a0 : Option Nat) (a1 : Int32) (M0 : Mem) : XA :=
  gtI (13, 157) M0 a0 36 fun x1 =>
  jn (fun (s2 : Int32) =>
    jn (fun (s3 : Mem) =>
      gtI (13, 157) s3 a0 41 fun x4 =>
      if x4 = 0 then (
        gtI (13, 157) s3 a0 36 fun x5 =>
        cI (rec 184 [.int x5, .int ((403 : Int32)), .int ((407 : Int32))] s3) fun x7 M6 =>
        jn (fun (s8 : Mem) =>
          some (.null, s8)) fun j340 =>
        if x7 = 0 then (
          jn (fun (s9 : Int32 × Mem) =>
            vC (13, 157) s9.2 a0 <|
            cI (rec 193 [va_rf a0, .int s9.1] s9.2) fun x11 M10 =>
            if x11 = 0 then (
              j340 M10) else (
              gtI (13, 157) M10 a0 36 fun x12 =>
              gtI (13, 157) M10 a0 49 fun x13 =>
              lt ((((8 : Int32)) * a1) + x13) fun (x14 : Int32) =>
              ptI (13, 157) M10 a0 51 ((0 : Int32)) fun M15 =>
              if x12 = ((408 : Int32)) then (
                gtP (13, 157) M15 a0 5 fun x16 =>
                alI 100 M15 x16 x14 fun x17 =>
                jn (fun (s18 : Int32) =>
                  vC (13, 157) M15 a0 <|
                  cI (rec 194 [va_rf a0, .int s18, .int ((6 : Int32))] M15) fun x20 M19 =>
                  if x20 = 0 then (
                    j340 M19) else (
                    vC (13, 157) M19 a0 <|
                    cV (rec 191 [va_rf a0] M19) fun M21 =>
                    gtP (13, 157) M21 a0 5 fun x22 =>
                    gtI (13, 157) M21 a0 43 fun x23 =>
                    asI 100 M21 x22 x14 x23 fun M24 =>
                    vC (13, 157) M24 a0 <|
                    cI (rec 218 [va_rf a0, .int ((1 : Int32))] M24) fun x26 M25 =>
                    j340 M25)) fun j143 =>
                if 0 ≤ x17 then (
                  j143 ((0 : Int32))) else (
                  j143 ((1 : Int32)))) else (
                if x12 = ((409 : Int32)) then (
                  gtP (13, 157) M15 a0 6 fun x27 =>
                  alI 100 M15 x27 x14 fun x28 =>
                  jn (fun (s29 : Int32) =>
                    vC (13, 157) M15 a0 <|
                    cI (rec 194 [va_rf a0, .int s29, .int ((6 : Int32))] M15) fun x31 M30 =>
                    if x31 = 0 then (
                      j340 M30) else (
                      vC (13, 157) M30 a0 <|
                      cV (rec 191 [va_rf a0] M30) fun M32 =>
                      gtP (13, 157) M32 a0 7 fun x33 =>
                      gtP (13, 157) M32 a0 6 fun x34 =>
                      alI 100 M32 x34 x14 fun x35 =>
                      vC (13, 157) M32 a0 <|
                      cI (rec 218 [va_rf a0, .int ((0 : Int32))] M32) fun x37 M36 =>
                      asI 100 M36 x33 ((((3 : Int32)) * x14) + x35) x37 fun M38 =>
                      gtP (13, 157) M38 a0 6 fun x39 =>
                      alI 100 M38 x39 x14 fun x40 =>
                      asI 100 M38 x39 x14 ((x40 + ((1 : Int32)))) fun M41 =>
                      j340 M41)) fun j200 =>
                  if ((3 : Int32)) ≤ x28 then (
                    j200 ((0 : Int32))) else (
                    j200 ((1 : Int32)))) else (
                  if x12 = ((410 : Int32)) then (
                    gtP (13, 157) M15 a0 8 fun x42 =>
                    alI 100 M15 x42 x14 fun x43 =>
                    jn (fun (s44 : Int32) =>
                      vC (13, 157) M15 a0 <|
                      cI (rec 194 [va_rf a0, .int s44, .int ((6 : Int32))] M15) fun x46 M45 =>
                      if x46 = 0 then (
                        j340 M45) else (
                        vC (13, 157) M45 a0 <|
                        cV (rec 191 [va_rf a0] M45) fun M47 =>
                        gtP (13, 157) M47 a0 9 fun x48 =>
                        gtP (13, 157) M47 a0 8 fun x49 =>
                        alI 100 M47 x49 x14 fun x50 =>
                        vC (13, 157) M47 a0 <|
                        cI (rec 218 [va_rf a0, .int ((0 : Int32))] M47) fun x52 M51 =>
                        asI 100 M51 x48 ((((3 : Int32)) * x14) + x50) x52 fun M53 =>
                        gtP (13, 157) M53 a0 8 fun x54 =>
                        alI 100 M53 x54 x14 fun x55 =>
                        asI 100 M53 x54 x14 ((x55 + ((1 : Int32)))) fun M56 =>
                        j340 M56)) fun j272 =>
                    if ((3 : Int32)) ≤ x43 then (
                      j272 ((0 : Int32))) else (
                      j272 ((1 : Int32)))) else (
                    if x12 = ((411 : Int32)) then (
                      vC (13, 157) M15 a0 <|
                      cV (rec 225 [va_rf a0, .int a1] M15) fun M57 =>
                      j340 M57) else (
                      vC (13, 157) M15 a0 <|
                      cV (rec 226 [va_rf a0, .int a1] M15) fun M58 =>
                      j340 M58)))))) fun j93 =>
          jn (fun (s59 : Mem) =>
            j93 ((0 : Int32), s59)) fun j92 =>
          if s2 = 0 then (
            gtI (13, 157) M6 a0 36 fun x60 =>
            cI (rec 184 [.int x60, .int ((408 : Int32)), .int ((411 : Int32))] M6) fun x62 M61 =>
            jn (fun (s63 : Unit) =>
              j93 ((1 : Int32), M61)) fun j88 =>
            if x62 = 0 then (
              gtI (13, 157) M61 a0 36 fun x64 =>
              if x64 = ((415 : Int32)) then (
                j88 ()) else (
                j92 M61)) else (
              j88 ())) else (
            j92 M6)) else (
          vC (13, 157) M6 a0 <|
          cV (rec 222 [va_rf a0, .int a1, .int s2] M6) fun M65 =>
          j340 M65)) else (
        some (.null, s3))) fun j24 =>
    if s2 = 0 then (
      j24 M0) else (
      vC (13, 157) M0 a0 <|
      cV (rec 191 [va_rf a0] M0) fun M66 =>
      j24 M66)) fun j15 =>
  if x1 = ((402 : Int32)) then (
    j15 ((1 : Int32))) else (
    j15 ((0 : Int32)))
def b221 (rec : Nat → List Value → Mem → XA) (as : List Value) (M0 : Mem) : XA := aR as fun a0 as => aI as fun a1 as => aZ as (c221 rec a0 a1 M0)
set_option maxRecDepth 100000 in
set_option maxHeartbeats 4000000 in
theorem k221 {S : XS} {G : XG} {K : Nat × Nat} {l : Launch} {d : Nat} {rec : Nat → List Value → Mem → XA} (hs : XSnd l xmt rec d) (a0 : Option Nat) (a1 : Int32) (M0 : Mem) : Xe S G K l (yX12_member, cX12_member, 6, none) d 0 [some (va_rf a0), some (.int a1), none, none, none, none] [] M0 (c221 rec a0 a1 M0) := by
  unfold c221
  refine x_aload_n dX12_member_0 rfl ?_
  refine gfX12_408 rfl dX12_member_1 (fun x1 => ?_)
  refine x_sipush (v := 402) dX12_member_4 (by decide) ?_
  refine x_jn (σ := Int32) 15 (fun s2 => [some (va_rf a0), some (.int a1), none, none, none, none]) (fun s2 => [.int s2]) (fun s2 => M0) (fun s2 => ?_) (fun j15 hj15 => ?_)
  · refine x_istore_n (lo' := [some (va_rf a0), some (.int a1), some (.int s2), none, none, none]) dX12_member_15 (by decide) rfl rfl ?_
    refine x_iload_n dX12_member_16 rfl ?_
    refine x_jn (σ := Mem) 24 (fun s3 => [some (va_rf a0), some (.int a1), some (.int s2), none, none, none]) (fun s3 => []) (fun s3 => s3) (fun s3 => ?_) (fun j24 hj24 => ?_)
    · refine x_aload_n dX12_member_24 rfl ?_
      refine gfX12_395 rfl dX12_member_25 (fun x4 => ?_)
      refine x_if_eq (tgt := 32) dX12_member_28 (by decide) (fun _ => ?_) (fun _ => ?_)
      · refine x_aload_n dX12_member_32 rfl ?_
        refine gfX12_408 rfl dX12_member_33 (fun x5 => ?_)
        refine x_sipush (v := 403) dX12_member_36 (by decide) ?_
        refine x_sipush (v := 407) dX12_member_39 (by decide) ?_
        refine cmX12_381 rfl hs (Nat.le_of_ble_eq_true rfl) dX12_member_42 (fun x7 M6 => ?_)
        refine x_jn (σ := Mem) 340 (fun s8 => [none, none, none, none, none, none]) (fun s8 => []) (fun s8 => s8) (fun s8 => ?_) (fun j340 hj340 => ?_)
        · exact x_vret rfl dX12_member_340
        refine x_if_eq (tgt := 57) dX12_member_45 (by decide) (fun _ => ?_) (fun _ => ?_)
        · refine x_aload_n dX12_member_57 rfl ?_
          refine x_iload_n dX12_member_58 rfl ?_
          refine x_jn (σ := Int32 × Mem) 93 (fun s9 => [some (va_rf a0), some (.int a1), none, none, none, none]) (fun s9 => [.int s9.1, va_rf a0]) (fun s9 => s9.2) (fun s9 => ?_) (fun j93 hj93 => ?_)
          · refine cmX12_432 rfl hs (Nat.le_of_ble_eq_true rfl) dX12_member_93 (fun x11 M10 => ?_)
            refine x_if_eq (tgt := 340) dX12_member_96 (by decide) (fun _ => ?_) (fun _ => ?_)
            · exact x_weak (by exact trivial) (hj340 M10)
            · refine x_aload_n dX12_member_99 rfl ?_
              refine gfX12_408 rfl dX12_member_100 (fun x12 => ?_)
              refine x_istore_n (lo' := [some (va_rf a0), some (.int a1), none, some (.int x12), none, none]) dX12_member_103 (by decide) rfl rfl ?_
              refine x_bipush (v := 8) dX12_member_104 (by decide) ?_
              refine x_iload_n dX12_member_106 rfl ?_
              refine x_imul dX12_member_107 ?_
              refine x_aload_n dX12_member_108 rfl ?_
              refine gfX12_442 rfl dX12_member_109 (fun x13 => ?_)
              refine x_iadd dX12_member_112 ?_
              refine x_ltI (fun x14 => ?_)
              refine x_istore (lo' := [some (va_rf a0), some (.int a1), none, some (.int x12), some (.int x14), none]) dX12_member_113 (by decide) rfl rfl ?_
              refine x_aload_n dX12_member_115 rfl ?_
              refine x_iconst (v := 0) dX12_member_116 (by decide) ?_
              refine pfX12_448 rfl dX12_member_117 (fun M15 => ?_)
              refine x_iload_n dX12_member_120 rfl ?_
              refine x_sipush (v := 408) dX12_member_121 (by decide) ?_
              refine x_icmp_ne (tgt := 176) dX12_member_124 (by decide) (fun _ => ?_) (fun _ => ?_)
              · refine x_aload_n dX12_member_127 rfl ?_
                refine x_aload_n dX12_member_128 rfl ?_
                refine gfX12_21 rfl dX12_member_129 (fun x16 => ?_)
                refine x_iload dX12_member_132 rfl ?_
                refine x_iald dX12_member_134 (fun x17 => ?_)
                refine x_jn (σ := Int32) 143 (fun s18 => [some (va_rf a0), none, none, none, some (.int x14), none]) (fun s18 => [.int s18, va_rf a0]) (fun s18 => M15) (fun s18 => ?_) (fun j143 hj143 => ?_)
                · refine x_bipush (v := 6) dX12_member_143 (by decide) ?_
                  refine cmX12_455 rfl hs (Nat.le_of_ble_eq_true rfl) dX12_member_145 (fun x20 M19 => ?_)
                  refine x_if_eq (tgt := 340) dX12_member_148 (by decide) (fun _ => ?_) (fun _ => ?_)
                  · exact x_weak (by exact trivial) (hj340 M19)
                  · refine x_aload_n dX12_member_151 rfl ?_
                    refine cmX12_436 rfl hs (Nat.le_of_ble_eq_true rfl) dX12_member_152 (fun M21 => ?_)
                    refine x_aload_n dX12_member_155 rfl ?_
                    refine gfX12_21 rfl dX12_member_156 (fun x22 => ?_)
                    refine x_iload dX12_member_159 rfl ?_
                    refine x_aload_n dX12_member_161 rfl ?_
                    refine gfX12_439 rfl dX12_member_162 (fun x23 => ?_)
                    refine x_iast dX12_member_165 (fun M24 => ?_)
                    refine x_aload_n dX12_member_166 rfl ?_
                    refine x_iconst (v := 1) dX12_member_167 (by decide) ?_
                    refine cmX12_543 rfl hs (Nat.le_of_ble_eq_true rfl) dX12_member_168 (fun x26 M25 => ?_)
                    refine x_istore (lo' := [some (va_rf a0), none, none, none, some (.int x14), some (.int x26)]) dX12_member_171 (by decide) rfl rfl ?_
                    refine x_goto (tgt := 340) dX12_member_173 (by decide) ?_
                    exact x_weak (by exact trivial) (hj340 M25)
                refine x_if_ge (tgt := 142) dX12_member_135 (by decide) (fun _ => ?_) (fun _ => ?_)
                · refine x_iconst (v := 0) dX12_member_142 (by decide) ?_
                  exact x_weak (by exact ⟨rfl, ⟨rfl, trivial⟩⟩) (hj143 ((0 : Int32)))
                · refine x_iconst (v := 1) dX12_member_138 (by decide) ?_
                  refine x_goto (tgt := 143) dX12_member_139 (by decide) ?_
                  exact x_weak (by exact ⟨rfl, ⟨rfl, trivial⟩⟩) (hj143 ((1 : Int32)))
              · refine x_iload_n dX12_member_176 rfl ?_
                refine x_sipush (v := 409) dX12_member_177 (by decide) ?_
                refine x_icmp_ne (tgt := 248) dX12_member_180 (by decide) (fun _ => ?_) (fun _ => ?_)
                · refine x_aload_n dX12_member_183 rfl ?_
                  refine x_aload_n dX12_member_184 rfl ?_
                  refine gfX12_24 rfl dX12_member_185 (fun x27 => ?_)
                  refine x_iload dX12_member_188 rfl ?_
                  refine x_iald dX12_member_190 (fun x28 => ?_)
                  refine x_iconst (v := 3) dX12_member_191 (by decide) ?_
                  refine x_jn (σ := Int32) 200 (fun s29 => [some (va_rf a0), none, none, none, some (.int x14), none]) (fun s29 => [.int s29, va_rf a0]) (fun s29 => M15) (fun s29 => ?_) (fun j200 hj200 => ?_)
                  · refine x_bipush (v := 6) dX12_member_200 (by decide) ?_
                    refine cmX12_455 rfl hs (Nat.le_of_ble_eq_true rfl) dX12_member_202 (fun x31 M30 => ?_)
                    refine x_if_eq (tgt := 340) dX12_member_205 (by decide) (fun _ => ?_) (fun _ => ?_)
                    · exact x_weak (by exact trivial) (hj340 M30)
                    · refine x_aload_n dX12_member_208 rfl ?_
                      refine cmX12_436 rfl hs (Nat.le_of_ble_eq_true rfl) dX12_member_209 (fun M32 => ?_)
                      refine x_aload_n dX12_member_212 rfl ?_
                      refine gfX12_27 rfl dX12_member_213 (fun x33 => ?_)
                      refine x_iconst (v := 3) dX12_member_216 (by decide) ?_
                      refine x_iload dX12_member_217 rfl ?_
                      refine x_imul dX12_member_219 ?_
                      refine x_aload_n dX12_member_220 rfl ?_
                      refine gfX12_24 rfl dX12_member_221 (fun x34 => ?_)
                      refine x_iload dX12_member_224 rfl ?_
                      refine x_iald dX12_member_226 (fun x35 => ?_)
                      refine x_iadd dX12_member_227 ?_
                      refine x_aload_n dX12_member_228 rfl ?_
                      refine x_iconst (v := 0) dX12_member_229 (by decide) ?_
                      refine cmX12_543 rfl hs (Nat.le_of_ble_eq_true rfl) dX12_member_230 (fun x37 M36 => ?_)
                      refine x_iast dX12_member_233 (fun M38 => ?_)
                      refine x_aload_n dX12_member_234 rfl ?_
                      refine gfX12_24 rfl dX12_member_235 (fun x39 => ?_)
                      refine x_iload dX12_member_238 rfl ?_
                      refine x_dup2 dX12_member_240 (xc1_i _) (xc1_r _) ?_
                      refine x_iald dX12_member_241 (fun x40 => ?_)
                      refine x_iconst (v := 1) dX12_member_242 (by decide) ?_
                      refine x_iadd dX12_member_243 ?_
                      refine x_iast dX12_member_244 (fun M41 => ?_)
                      refine x_goto (tgt := 340) dX12_member_245 (by decide) ?_
                      exact x_weak (by exact trivial) (hj340 M41)
                  refine x_icmp_ge (tgt := 199) dX12_member_192 (by decide) (fun _ => ?_) (fun _ => ?_)
                  · refine x_iconst (v := 0) dX12_member_199 (by decide) ?_
                    exact x_weak (by exact ⟨rfl, ⟨rfl, trivial⟩⟩) (hj200 ((0 : Int32)))
                  · refine x_iconst (v := 1) dX12_member_195 (by decide) ?_
                    refine x_goto (tgt := 200) dX12_member_196 (by decide) ?_
                    exact x_weak (by exact ⟨rfl, ⟨rfl, trivial⟩⟩) (hj200 ((1 : Int32)))
                · refine x_iload_n dX12_member_248 rfl ?_
                  refine x_sipush (v := 410) dX12_member_249 (by decide) ?_
                  refine x_icmp_ne (tgt := 320) dX12_member_252 (by decide) (fun _ => ?_) (fun _ => ?_)
                  · refine x_aload_n dX12_member_255 rfl ?_
                    refine x_aload_n dX12_member_256 rfl ?_
                    refine gfX12_30 rfl dX12_member_257 (fun x42 => ?_)
                    refine x_iload dX12_member_260 rfl ?_
                    refine x_iald dX12_member_262 (fun x43 => ?_)
                    refine x_iconst (v := 3) dX12_member_263 (by decide) ?_
                    refine x_jn (σ := Int32) 272 (fun s44 => [some (va_rf a0), none, none, none, some (.int x14), none]) (fun s44 => [.int s44, va_rf a0]) (fun s44 => M15) (fun s44 => ?_) (fun j272 hj272 => ?_)
                    · refine x_bipush (v := 6) dX12_member_272 (by decide) ?_
                      refine cmX12_455 rfl hs (Nat.le_of_ble_eq_true rfl) dX12_member_274 (fun x46 M45 => ?_)
                      refine x_if_eq (tgt := 340) dX12_member_277 (by decide) (fun _ => ?_) (fun _ => ?_)
                      · exact x_weak (by exact trivial) (hj340 M45)
                      · refine x_aload_n dX12_member_280 rfl ?_
                        refine cmX12_436 rfl hs (Nat.le_of_ble_eq_true rfl) dX12_member_281 (fun M47 => ?_)
                        refine x_aload_n dX12_member_284 rfl ?_
                        refine gfX12_33 rfl dX12_member_285 (fun x48 => ?_)
                        refine x_iconst (v := 3) dX12_member_288 (by decide) ?_
                        refine x_iload dX12_member_289 rfl ?_
                        refine x_imul dX12_member_291 ?_
                        refine x_aload_n dX12_member_292 rfl ?_
                        refine gfX12_30 rfl dX12_member_293 (fun x49 => ?_)
                        refine x_iload dX12_member_296 rfl ?_
                        refine x_iald dX12_member_298 (fun x50 => ?_)
                        refine x_iadd dX12_member_299 ?_
                        refine x_aload_n dX12_member_300 rfl ?_
                        refine x_iconst (v := 0) dX12_member_301 (by decide) ?_
                        refine cmX12_543 rfl hs (Nat.le_of_ble_eq_true rfl) dX12_member_302 (fun x52 M51 => ?_)
                        refine x_iast dX12_member_305 (fun M53 => ?_)
                        refine x_aload_n dX12_member_306 rfl ?_
                        refine gfX12_30 rfl dX12_member_307 (fun x54 => ?_)
                        refine x_iload dX12_member_310 rfl ?_
                        refine x_dup2 dX12_member_312 (xc1_i _) (xc1_r _) ?_
                        refine x_iald dX12_member_313 (fun x55 => ?_)
                        refine x_iconst (v := 1) dX12_member_314 (by decide) ?_
                        refine x_iadd dX12_member_315 ?_
                        refine x_iast dX12_member_316 (fun M56 => ?_)
                        refine x_goto (tgt := 340) dX12_member_317 (by decide) ?_
                        exact x_weak (by exact trivial) (hj340 M56)
                    refine x_icmp_ge (tgt := 271) dX12_member_264 (by decide) (fun _ => ?_) (fun _ => ?_)
                    · refine x_iconst (v := 0) dX12_member_271 (by decide) ?_
                      exact x_weak (by exact ⟨rfl, ⟨rfl, trivial⟩⟩) (hj272 ((0 : Int32)))
                    · refine x_iconst (v := 1) dX12_member_267 (by decide) ?_
                      refine x_goto (tgt := 272) dX12_member_268 (by decide) ?_
                      exact x_weak (by exact ⟨rfl, ⟨rfl, trivial⟩⟩) (hj272 ((1 : Int32)))
                  · refine x_iload_n dX12_member_320 rfl ?_
                    refine x_sipush (v := 411) dX12_member_321 (by decide) ?_
                    refine x_icmp_ne (tgt := 335) dX12_member_324 (by decide) (fun _ => ?_) (fun _ => ?_)
                    · refine x_aload_n dX12_member_327 rfl ?_
                      refine x_iload_n dX12_member_328 rfl ?_
                      refine cmX12_547 rfl hs (Nat.le_of_ble_eq_true rfl) dX12_member_329 (fun M57 => ?_)
                      refine x_goto (tgt := 340) dX12_member_332 (by decide) ?_
                      exact x_weak (by exact trivial) (hj340 M57)
                    · refine x_aload_n dX12_member_335 rfl ?_
                      refine x_iload_n dX12_member_336 rfl ?_
                      refine cmX12_549 rfl hs (Nat.le_of_ble_eq_true rfl) dX12_member_337 (fun M58 => ?_)
                      exact x_weak (by exact trivial) (hj340 M58)
          refine x_jn (σ := Mem) 92 (fun s59 => [some (va_rf a0), some (.int a1), none, none, none, none]) (fun s59 => [va_rf a0]) (fun s59 => s59) (fun s59 => ?_) (fun j92 hj92 => ?_)
          · refine x_iconst (v := 0) dX12_member_92 (by decide) ?_
            exact x_weak (by exact ⟨rfl, ⟨rfl, trivial⟩⟩) (hj93 ((0 : Int32), s59))
          refine x_if_ne (tgt := 92) dX12_member_59 (by decide) (fun _ => ?_) (fun _ => ?_)
          · refine x_aload_n dX12_member_62 rfl ?_
            refine gfX12_408 rfl dX12_member_63 (fun x60 => ?_)
            refine x_sipush (v := 408) dX12_member_66 (by decide) ?_
            refine x_sipush (v := 411) dX12_member_69 (by decide) ?_
            refine cmX12_381 rfl hs (Nat.le_of_ble_eq_true rfl) dX12_member_72 (fun x62 M61 => ?_)
            refine x_jn (σ := Unit) 88 (fun s63 => [some (va_rf a0), some (.int a1), none, none, none, none]) (fun s63 => [va_rf a0]) (fun s63 => M61) (fun s63 => ?_) (fun j88 hj88 => ?_)
            · refine x_iconst (v := 1) dX12_member_88 (by decide) ?_
              refine x_goto (tgt := 93) dX12_member_89 (by decide) ?_
              exact x_weak (by exact ⟨rfl, ⟨rfl, trivial⟩⟩) (hj93 ((1 : Int32), M61))
            refine x_if_ne (tgt := 88) dX12_member_75 (by decide) (fun _ => ?_) (fun _ => ?_)
            · refine x_aload_n dX12_member_78 rfl ?_
              refine gfX12_408 rfl dX12_member_79 (fun x64 => ?_)
              refine x_sipush (v := 415) dX12_member_82 (by decide) ?_
              refine x_icmp_ne (tgt := 92) dX12_member_85 (by decide) (fun _ => ?_) (fun _ => ?_)
              · exact x_weak (by exact ⟨rfl, ⟨rfl, trivial⟩⟩) (hj88 ())
              · exact x_weak (by exact ⟨rfl, ⟨rfl, trivial⟩⟩) (hj92 M61)
            · exact x_weak (by exact ⟨rfl, ⟨rfl, trivial⟩⟩) (hj88 ())
          · exact x_weak (by exact ⟨rfl, ⟨rfl, trivial⟩⟩) (hj92 M6)
        · refine x_aload_n dX12_member_48 rfl ?_
          refine x_iload_n dX12_member_49 rfl ?_
          refine x_iload_n dX12_member_50 rfl ?_
          refine cmX12_539 rfl hs (Nat.le_of_ble_eq_true rfl) dX12_member_51 (fun M65 => ?_)
          refine x_goto (tgt := 340) dX12_member_54 (by decide) ?_
          exact x_weak (by exact trivial) (hj340 M65)
      · exact x_vret rfl dX12_member_31
    refine x_if_eq (tgt := 24) dX12_member_17 (by decide) (fun _ => ?_) (fun _ => ?_)
    · exact x_weak (by exact ⟨rfl, ⟨rfl, ⟨rfl, trivial⟩⟩⟩) (hj24 M0)
    · refine x_aload_n dX12_member_20 rfl ?_
      refine cmX12_436 rfl hs (Nat.le_of_ble_eq_true rfl) dX12_member_21 (fun M66 => ?_)
      exact x_weak (by exact ⟨rfl, ⟨rfl, ⟨rfl, trivial⟩⟩⟩) (hj24 M66)
  refine x_icmp_ne (tgt := 14) dX12_member_7 (by decide) (fun _ => ?_) (fun _ => ?_)
  · refine x_iconst (v := 1) dX12_member_10 (by decide) ?_
    refine x_goto (tgt := 15) dX12_member_11 (by decide) ?_
    exact x_weak (by exact ⟨rfl, ⟨rfl, trivial⟩⟩) (hj15 ((1 : Int32)))
  · refine x_iconst (v := 0) dX12_member_14 (by decide) ?_
    exact x_weak (by exact ⟨rfl, ⟨rfl, trivial⟩⟩) (hj15 ((0 : Int32)))
theorem s221 {l : Launch} {d : Nat} {rec : Nat → List Value → Mem → XA} (hS : Nonempty XS) (hs : XSnd l xmt rec d) : Snd1 l 221 (b221 rec) d := by
  intro as M r M' h0
  unfold b221 at h0
  obtain ⟨a0, l1, e1, h1⟩ := aR_inv h0
  obtain ⟨a1, l2, e2, h2⟩ := aI_inv h1
  obtain ⟨ez, h⟩ := aZ_inv h2
  subst ez
  subst e2
  subst e1
  exact xmet (M := M) (as := [va_rf a0, .int a1]) (lo := [some (va_rf a0), some (.int a1)]) 221 xq221 xm221 (by rw [xargs_rf, xargs_i, xargs_nil]; exact ⟨rfl, ⟨rfl, trivial⟩⟩) (by rw [xargs_rf, xargs_i, xargs_nil]; exact Nat.le_of_ble_eq_true rfl) (fun S G K => x_weak (by exact ⟨rfl, ⟨rfl, trivial⟩⟩) (k221 hs a0 a1 M)) h hS
set_option maxRecDepth 100000 in
def c222 (rec : Nat → List Value → Mem → XA) (a0 : Option Nat) (a1 : Int32) (a2 : Int32) (M0 : Mem) : XA :=
  gtI (13, 157) M0 a0 36 fun x1 =>
  lt (x1 - ((403 : Int32))) fun (x2 : Int32) =>
  vC (13, 157) M0 a0 <|
  cV (rec 191 [va_rf a0] M0) fun M3 =>
  gtI (13, 157) M3 a0 41 fun x4 =>
  jn (fun (s5 : Mem) =>
    some (.null, s5)) fun j88 =>
  if x4 = 0 then (
    gtI (13, 157) M3 a0 36 fun x6 =>
    jn (fun (s7 : Int32) =>
      vC (13, 157) M3 a0 <|
      cI (rec 193 [va_rf a0, .int s7] M3) fun x9 M8 =>
      if x9 = 0 then (
        j88 M8) else (
        gtL (13, 157) M8 a0 39 fun x10 =>
        vC (13, 157) M8 a0 <|
        cI (rec 220 [va_rf a0, .int a1, .long x10] M8) fun x12 M11 =>
        jn (fun (s13 : Int32) =>
          vC (13, 157) M11 a0 <|
          cI (rec 194 [va_rf a0, .int s13, .int ((3 : Int32))] M11) fun x15 M14 =>
          if x15 = 0 then (
            j88 M14) else (
            gtI (13, 157) M14 a0 64 fun x16 =>
            jn (fun (s17 : Int32) =>
              vC (13, 157) M14 a0 <|
              cI (rec 194 [va_rf a0, .int s17, .int ((6 : Int32))] M14) fun x19 M18 =>
              if x19 = 0 then (
                j88 M18) else (
                gtP (13, 157) M18 a0 10 fun x20 =>
                alI 100 M18 x20 a1 fun x21 =>
                lt ((((96 : Int32)) * a1) + x21) fun (x22 : Int32) =>
                gtP (13, 157) M18 a0 10 fun x23 =>
                alI 100 M18 x23 a1 fun x24 =>
                asI 100 M18 x23 a1 ((x24 + ((1 : Int32)))) fun M25 =>
                gtI (13, 157) M25 a0 64 fun x26 =>
                ptI (13, 157) M25 a0 64 (x26 + ((1 : Int32))) fun M27 =>
                gtP (13, 157) M27 a0 11 fun x28 =>
                gtL (13, 157) M27 a0 39 fun x29 =>
                asL M27 x28 x22 x29 fun M30 =>
                gtP (13, 157) M30 a0 12 fun x31 =>
                gtI (13, 157) M30 a0 49 fun x32 =>
                asI 100 M30 x31 x22 x32 fun M33 =>
                gtP (13, 157) M33 a0 13 fun x34 =>
                asI 100 M33 x34 x22 x2 fun M35 =>
                gtP (13, 157) M35 a0 14 fun x36 =>
                asI 102 M35 x36 x22 ((znar a2)) fun M37 =>
                gtP (13, 157) M37 a0 16 fun x38 =>
                asI 100 M37 x38 x22 (((-2 : Int32))) fun M39 =>
                vC (13, 157) M39 a0 <|
                cV (rec 191 [va_rf a0] M39) fun M40 =>
                jn (fun (s41 : Mem) =>
                  some (.null, s41)) fun j361 =>
                if ((3 : Int32)) ≤ x2 then (
                  if x2 = ((3 : Int32)) then (
                    vC (13, 157) M40 a0 <|
                    cI (rec 195 [va_rf a0, .int ((91 : Int32))] M40) fun x43 M42 =>
                    gtI (13, 157) M42 a0 41 fun x44 =>
                    jn (fun (s45 : Mem) =>
                      vC (13, 157) s45 a0 <|
                      cI (rec 195 [va_rf a0, .int ((93 : Int32))] s45) fun x47 M46 =>
                      vC (13, 157) M46 a0 <|
                      cI (rec 195 [va_rf a0, .int ((59 : Int32))] M46) fun x49 M48 =>
                      j361 M48) fun j282 =>
                    if x44 = 0 then (
                      gtI (13, 157) M42 a0 36 fun x50 =>
                      jn (fun (s51 : Int32) =>
                        vC (13, 157) M42 a0 <|
                        cI (rec 193 [va_rf a0, .int s51] M42) fun x53 M52 =>
                        if x53 = 0 then (
                          j282 M52) else (
                          gtI (13, 157) M52 a0 40 fun x54 =>
                          cI (rec 184 [.int x54, .int ((1 : Int32)), .int ((50 : Int32))] M52) fun x56 M55 =>
                          vC (13, 157) M55 a0 <|
                          cI (rec 194 [va_rf a0, .int x56, .int ((5 : Int32))] M55) fun x58 M57 =>
                          if x58 = 0 then (
                            j282 M57) else (
                            gtP (13, 157) M57 a0 15 fun x59 =>
                            gtI (13, 157) M57 a0 40 fun x60 =>
                            asI 100 M57 x59 x22 x60 fun M61 =>
                            vC (13, 157) M61 a0 <|
                            cV (rec 191 [va_rf a0] M61) fun M62 =>
                            j282 M62))) fun j243 =>
                      if x50 = ((2 : Int32)) then (
                        j243 ((1 : Int32))) else (
                        j243 ((0 : Int32)))) else (
                      j282 M42)) else (
                    ptI (13, 157) M40 a0 51 ((0 : Int32)) fun M63 =>
                    vC (13, 157) M63 a0 <|
                    cI (rec 195 [va_rf a0, .int ((40 : Int32))] M63) fun x65 M64 =>
                    gtI (13, 157) M64 a0 41 fun x66 =>
                    jn (fun (s67 : Mem) =>
                      vC (13, 157) s67 a0 <|
                      cI (rec 195 [va_rf a0, .int ((41 : Int32))] s67) fun x69 M68 =>
                      gtP (13, 157) M68 a0 15 fun x70 =>
                      gtI (13, 157) M68 a0 51 fun x71 =>
                      asI 100 M68 x70 x22 x71 fun M72 =>
                      gtP (13, 157) M72 a0 16 fun x73 =>
                      vC (13, 157) M72 a0 <|
                      cI (rec 218 [va_rf a0, .int ((1 : Int32))] M72) fun x75 M74 =>
                      asI 100 M74 x73 x22 x75 fun M76 =>
                      j361 M76) fun j331 =>
                    if x66 = 0 then (
                      gtI (13, 157) M64 a0 36 fun x77 =>
                      if x77 = ((41 : Int32)) then (
                        j331 M64) else (
                        vC (13, 157) M64 a0 <|
                        cV (rec 223 [va_rf a0] M64) fun M78 =>
                        j331 M78)) else (
                      j331 M64))) else (
                  vC (13, 157) M40 a0 <|
                  cI (rec 195 [va_rf a0, .int ((61 : Int32))] M40) fun x80 M79 =>
                  vC (13, 157) M79 a0 <|
                  cV (rec 219 [va_rf a0] M79) fun M81 =>
                  gtP (13, 157) M81 a0 15 fun x82 =>
                  gtI (13, 157) M81 a0 62 fun x83 =>
                  asI 100 M81 x82 x22 x83 fun M84 =>
                  vC (13, 157) M84 a0 <|
                  cI (rec 195 [va_rf a0, .int ((59 : Int32))] M84) fun x86 M85 =>
                  j361 M85))) fun j80 =>
            if ((12 : Int32)) ≤ x16 then (
              j80 ((0 : Int32))) else (
              j80 ((1 : Int32))))) fun j58 =>
        if x12 = 0 then (
          j58 ((1 : Int32))) else (
          j58 ((0 : Int32))))) fun j34 =>
    if x6 = ((1 : Int32)) then (
      j34 ((1 : Int32))) else (
      j34 ((0 : Int32)))) else (
    j88 M3)
def b222 (rec : Nat → List Value → Mem → XA) (as : List Value) (M0 : Mem) : XA := aR as fun a0 as => aI as fun a1 as => aI as fun a2 as => aZ as (c222 rec a0 a1 a2 M0)
set_option maxRecDepth 100000 in
set_option maxHeartbeats 4000000 in
theorem k222 {S : XS} {G : XG} {K : Nat × Nat} {l : Launch} {d : Nat} {rec : Nat → List Value → Mem → XA} (hs : XSnd l xmt rec d) (a0 : Option Nat) (a1 : Int32) (a2 : Int32) (M0 : Mem) : Xe S G K l (yX12_thing, cX12_thing, 5, none) d 0 [some (va_rf a0), some (.int a1), some (.int a2), none, none] [] M0 (c222 rec a0 a1 a2 M0) := by
  unfold c222
  refine x_aload_n dX12_thing_0 rfl ?_
  refine gfX12_408 rfl dX12_thing_1 (fun x1 => ?_)
  refine x_sipush (v := 403) dX12_thing_4 (by decide) ?_
  refine x_isub dX12_thing_7 ?_
  refine x_ltI (fun x2 => ?_)
  refine x_istore_n (lo' := [some (va_rf a0), some (.int a1), some (.int a2), some (.int x2), none]) dX12_thing_8 (by decide) rfl rfl ?_
  refine x_aload_n dX12_thing_9 rfl ?_
  refine cmX12_436 rfl hs (Nat.le_of_ble_eq_true rfl) dX12_thing_10 (fun M3 => ?_)
  refine x_aload_n dX12_thing_13 rfl ?_
  refine gfX12_395 rfl dX12_thing_14 (fun x4 => ?_)
  refine x_jn (σ := Mem) 88 (fun s5 => [none, none, none, none, none]) (fun s5 => []) (fun s5 => s5) (fun s5 => ?_) (fun j88 hj88 => ?_)
  · exact x_vret rfl dX12_thing_88
  refine x_if_ne (tgt := 88) dX12_thing_17 (by decide) (fun _ => ?_) (fun _ => ?_)
  · refine x_aload_n dX12_thing_20 rfl ?_
    refine x_aload_n dX12_thing_21 rfl ?_
    refine gfX12_408 rfl dX12_thing_22 (fun x6 => ?_)
    refine x_iconst (v := 1) dX12_thing_25 (by decide) ?_
    refine x_jn (σ := Int32) 34 (fun s7 => [some (va_rf a0), some (.int a1), some (.int a2), some (.int x2), none]) (fun s7 => [.int s7, va_rf a0]) (fun s7 => M3) (fun s7 => ?_) (fun j34 hj34 => ?_)
    · refine cmX12_432 rfl hs (Nat.le_of_ble_eq_true rfl) dX12_thing_34 (fun x9 M8 => ?_)
      refine x_if_eq (tgt := 88) dX12_thing_37 (by decide) (fun _ => ?_) (fun _ => ?_)
      · exact x_weak (by exact trivial) (hj88 M8)
      · refine x_aload_n dX12_thing_40 rfl ?_
        refine x_aload_n dX12_thing_41 rfl ?_
        refine x_iload_n dX12_thing_42 rfl ?_
        refine x_aload_n dX12_thing_43 rfl ?_
        refine gfX12_415 rfl dX12_thing_44 (fun x10 => ?_)
        refine cmX12_551 rfl hs (Nat.le_of_ble_eq_true rfl) dX12_thing_47 (fun x12 M11 => ?_)
        refine x_jn (σ := Int32) 58 (fun s13 => [some (va_rf a0), some (.int a1), some (.int a2), some (.int x2), none]) (fun s13 => [.int s13, va_rf a0]) (fun s13 => M11) (fun s13 => ?_) (fun j58 hj58 => ?_)
        · refine x_iconst (v := 3) dX12_thing_58 (by decide) ?_
          refine cmX12_455 rfl hs (Nat.le_of_ble_eq_true rfl) dX12_thing_59 (fun x15 M14 => ?_)
          refine x_if_eq (tgt := 88) dX12_thing_62 (by decide) (fun _ => ?_) (fun _ => ?_)
          · exact x_weak (by exact trivial) (hj88 M14)
          · refine x_aload_n dX12_thing_65 rfl ?_
            refine x_aload_n dX12_thing_66 rfl ?_
            refine gfX12_555 rfl dX12_thing_67 (fun x16 => ?_)
            refine x_bipush (v := 12) dX12_thing_70 (by decide) ?_
            refine x_jn (σ := Int32) 80 (fun s17 => [some (va_rf a0), some (.int a1), some (.int a2), some (.int x2), none]) (fun s17 => [.int s17, va_rf a0]) (fun s17 => M14) (fun s17 => ?_) (fun j80 hj80 => ?_)
            · refine x_bipush (v := 6) dX12_thing_80 (by decide) ?_
              refine cmX12_455 rfl hs (Nat.le_of_ble_eq_true rfl) dX12_thing_82 (fun x19 M18 => ?_)
              refine x_if_ne (tgt := 89) dX12_thing_85 (by decide) (fun _ => ?_) (fun _ => ?_)
              · exact x_weak (by exact trivial) (hj88 M18)
              · refine x_bipush (v := 96) dX12_thing_89 (by decide) ?_
                refine x_iload_n dX12_thing_91 rfl ?_
                refine x_imul dX12_thing_92 ?_
                refine x_aload_n dX12_thing_93 rfl ?_
                refine gfX12_36 rfl dX12_thing_94 (fun x20 => ?_)
                refine x_iload_n dX12_thing_97 rfl ?_
                refine x_iald dX12_thing_98 (fun x21 => ?_)
                refine x_iadd dX12_thing_99 ?_
                refine x_ltI (fun x22 => ?_)
                refine x_istore (lo' := [some (va_rf a0), some (.int a1), some (.int a2), some (.int x2), some (.int x22)]) dX12_thing_100 (by decide) rfl rfl ?_
                refine x_aload_n dX12_thing_102 rfl ?_
                refine gfX12_36 rfl dX12_thing_103 (fun x23 => ?_)
                refine x_iload_n dX12_thing_106 rfl ?_
                refine x_dup2 dX12_thing_107 (xc1_i _) (xc1_r _) ?_
                refine x_iald dX12_thing_108 (fun x24 => ?_)
                refine x_iconst (v := 1) dX12_thing_109 (by decide) ?_
                refine x_iadd dX12_thing_110 ?_
                refine x_iast dX12_thing_111 (fun M25 => ?_)
                refine x_aload_n dX12_thing_112 rfl ?_
                refine x_dup dX12_thing_113 (xc1_r _) ?_
                refine gfX12_555 rfl dX12_thing_114 (fun x26 => ?_)
                refine x_iconst (v := 1) dX12_thing_117 (by decide) ?_
                refine x_iadd dX12_thing_118 ?_
                refine pfX12_555 rfl dX12_thing_119 (fun M27 => ?_)
                refine x_aload_n dX12_thing_122 rfl ?_
                refine gfX12_39 rfl dX12_thing_123 (fun x28 => ?_)
                refine x_iload dX12_thing_126 rfl ?_
                refine x_aload_n dX12_thing_128 rfl ?_
                refine gfX12_415 rfl dX12_thing_129 (fun x29 => ?_)
                refine x_last dX12_thing_132 (fun M30 => ?_)
                refine x_aload_n dX12_thing_133 rfl ?_
                refine gfX12_42 rfl dX12_thing_134 (fun x31 => ?_)
                refine x_iload dX12_thing_137 rfl ?_
                refine x_aload_n dX12_thing_139 rfl ?_
                refine gfX12_442 rfl dX12_thing_140 (fun x32 => ?_)
                refine x_iast dX12_thing_143 (fun M33 => ?_)
                refine x_aload_n dX12_thing_144 rfl ?_
                refine gfX12_45 rfl dX12_thing_145 (fun x34 => ?_)
                refine x_iload dX12_thing_148 rfl ?_
                refine x_iload_n dX12_thing_150 rfl ?_
                refine x_iast dX12_thing_151 (fun M35 => ?_)
                refine x_aload_n dX12_thing_152 rfl ?_
                refine gfX12_48 rfl dX12_thing_153 (fun x36 => ?_)
                refine x_iload dX12_thing_156 rfl ?_
                refine x_iload_n dX12_thing_158 rfl ?_
                refine x_zast dX12_thing_159 (fun M37 => ?_)
                refine x_aload_n dX12_thing_160 rfl ?_
                refine gfX12_55 rfl dX12_thing_161 (fun x38 => ?_)
                refine x_iload dX12_thing_164 rfl ?_
                refine x_bipush (v := -2) dX12_thing_166 (by decide) ?_
                refine x_iast dX12_thing_168 (fun M39 => ?_)
                refine x_aload_n dX12_thing_169 rfl ?_
                refine cmX12_436 rfl hs (Nat.le_of_ble_eq_true rfl) dX12_thing_170 (fun M40 => ?_)
                refine x_iload_n dX12_thing_173 rfl ?_
                refine x_iconst (v := 3) dX12_thing_174 (by decide) ?_
                refine x_jn (σ := Mem) 361 (fun s41 => [none, none, none, none, none]) (fun s41 => []) (fun s41 => s41) (fun s41 => ?_) (fun j361 hj361 => ?_)
                · exact x_vret rfl dX12_thing_361
                refine x_icmp_ge (tgt := 210) dX12_thing_175 (by decide) (fun _ => ?_) (fun _ => ?_)
                · refine x_iload_n dX12_thing_210 rfl ?_
                  refine x_iconst (v := 3) dX12_thing_211 (by decide) ?_
                  refine x_icmp_ne (tgt := 299) dX12_thing_212 (by decide) (fun _ => ?_) (fun _ => ?_)
                  · refine x_aload_n dX12_thing_215 rfl ?_
                    refine x_bipush (v := 91) dX12_thing_216 (by decide) ?_
                    refine cmX12_517 rfl hs (Nat.le_of_ble_eq_true rfl) dX12_thing_218 (fun x43 M42 => ?_)
                    refine x_pop dX12_thing_221 (xc1_i _) ?_
                    refine x_aload_n dX12_thing_222 rfl ?_
                    refine gfX12_395 rfl dX12_thing_223 (fun x44 => ?_)
                    refine x_jn (σ := Mem) 282 (fun s45 => [some (va_rf a0), none, none, none, none]) (fun s45 => []) (fun s45 => s45) (fun s45 => ?_) (fun j282 hj282 => ?_)
                    · refine x_aload_n dX12_thing_282 rfl ?_
                      refine x_bipush (v := 93) dX12_thing_283 (by decide) ?_
                      refine cmX12_517 rfl hs (Nat.le_of_ble_eq_true rfl) dX12_thing_285 (fun x47 M46 => ?_)
                      refine x_pop dX12_thing_288 (xc1_i _) ?_
                      refine x_aload_n dX12_thing_289 rfl ?_
                      refine x_bipush (v := 59) dX12_thing_290 (by decide) ?_
                      refine cmX12_517 rfl hs (Nat.le_of_ble_eq_true rfl) dX12_thing_292 (fun x49 M48 => ?_)
                      refine x_pop dX12_thing_295 (xc1_i _) ?_
                      refine x_goto (tgt := 361) dX12_thing_296 (by decide) ?_
                      exact x_weak (by exact trivial) (hj361 M48)
                    refine x_if_ne (tgt := 282) dX12_thing_226 (by decide) (fun _ => ?_) (fun _ => ?_)
                    · refine x_aload_n dX12_thing_229 rfl ?_
                      refine x_aload_n dX12_thing_230 rfl ?_
                      refine gfX12_408 rfl dX12_thing_231 (fun x50 => ?_)
                      refine x_iconst (v := 2) dX12_thing_234 (by decide) ?_
                      refine x_jn (σ := Int32) 243 (fun s51 => [some (va_rf a0), none, none, none, some (.int x22)]) (fun s51 => [.int s51, va_rf a0]) (fun s51 => M42) (fun s51 => ?_) (fun j243 hj243 => ?_)
                      · refine cmX12_432 rfl hs (Nat.le_of_ble_eq_true rfl) dX12_thing_243 (fun x53 M52 => ?_)
                        refine x_if_eq (tgt := 282) dX12_thing_246 (by decide) (fun _ => ?_) (fun _ => ?_)
                        · exact x_weak (by exact ⟨rfl, trivial⟩) (hj282 M52)
                        · refine x_aload_n dX12_thing_249 rfl ?_
                          refine x_aload_n dX12_thing_250 rfl ?_
                          refine gfX12_422 rfl dX12_thing_251 (fun x54 => ?_)
                          refine x_iconst (v := 1) dX12_thing_254 (by decide) ?_
                          refine x_bipush (v := 50) dX12_thing_255 (by decide) ?_
                          refine cmX12_381 rfl hs (Nat.le_of_ble_eq_true rfl) dX12_thing_257 (fun x56 M55 => ?_)
                          refine x_iconst (v := 5) dX12_thing_260 (by decide) ?_
                          refine cmX12_455 rfl hs (Nat.le_of_ble_eq_true rfl) dX12_thing_261 (fun x58 M57 => ?_)
                          refine x_if_eq (tgt := 282) dX12_thing_264 (by decide) (fun _ => ?_) (fun _ => ?_)
                          · exact x_weak (by exact ⟨rfl, trivial⟩) (hj282 M57)
                          · refine x_aload_n dX12_thing_267 rfl ?_
                            refine gfX12_52 rfl dX12_thing_268 (fun x59 => ?_)
                            refine x_iload dX12_thing_271 rfl ?_
                            refine x_aload_n dX12_thing_273 rfl ?_
                            refine gfX12_422 rfl dX12_thing_274 (fun x60 => ?_)
                            refine x_iast dX12_thing_277 (fun M61 => ?_)
                            refine x_aload_n dX12_thing_278 rfl ?_
                            refine cmX12_436 rfl hs (Nat.le_of_ble_eq_true rfl) dX12_thing_279 (fun M62 => ?_)
                            exact x_weak (by exact ⟨rfl, trivial⟩) (hj282 M62)
                      refine x_icmp_ne (tgt := 242) dX12_thing_235 (by decide) (fun _ => ?_) (fun _ => ?_)
                      · refine x_iconst (v := 1) dX12_thing_238 (by decide) ?_
                        refine x_goto (tgt := 243) dX12_thing_239 (by decide) ?_
                        exact x_weak (by exact ⟨rfl, ⟨rfl, trivial⟩⟩) (hj243 ((1 : Int32)))
                      · refine x_iconst (v := 0) dX12_thing_242 (by decide) ?_
                        exact x_weak (by exact ⟨rfl, ⟨rfl, trivial⟩⟩) (hj243 ((0 : Int32)))
                    · exact x_weak (by exact ⟨rfl, trivial⟩) (hj282 M42)
                  · refine x_aload_n dX12_thing_299 rfl ?_
                    refine x_iconst (v := 0) dX12_thing_300 (by decide) ?_
                    refine pfX12_448 rfl dX12_thing_301 (fun M63 => ?_)
                    refine x_aload_n dX12_thing_304 rfl ?_
                    refine x_bipush (v := 40) dX12_thing_305 (by decide) ?_
                    refine cmX12_517 rfl hs (Nat.le_of_ble_eq_true rfl) dX12_thing_307 (fun x65 M64 => ?_)
                    refine x_pop dX12_thing_310 (xc1_i _) ?_
                    refine x_aload_n dX12_thing_311 rfl ?_
                    refine gfX12_395 rfl dX12_thing_312 (fun x66 => ?_)
                    refine x_jn (σ := Mem) 331 (fun s67 => [some (va_rf a0), none, none, none, some (.int x22)]) (fun s67 => []) (fun s67 => s67) (fun s67 => ?_) (fun j331 hj331 => ?_)
                    · refine x_aload_n dX12_thing_331 rfl ?_
                      refine x_bipush (v := 41) dX12_thing_332 (by decide) ?_
                      refine cmX12_517 rfl hs (Nat.le_of_ble_eq_true rfl) dX12_thing_334 (fun x69 M68 => ?_)
                      refine x_pop dX12_thing_337 (xc1_i _) ?_
                      refine x_aload_n dX12_thing_338 rfl ?_
                      refine gfX12_52 rfl dX12_thing_339 (fun x70 => ?_)
                      refine x_iload dX12_thing_342 rfl ?_
                      refine x_aload_n dX12_thing_344 rfl ?_
                      refine gfX12_448 rfl dX12_thing_345 (fun x71 => ?_)
                      refine x_iast dX12_thing_348 (fun M72 => ?_)
                      refine x_aload_n dX12_thing_349 rfl ?_
                      refine gfX12_55 rfl dX12_thing_350 (fun x73 => ?_)
                      refine x_iload dX12_thing_353 rfl ?_
                      refine x_aload_n dX12_thing_355 rfl ?_
                      refine x_iconst (v := 1) dX12_thing_356 (by decide) ?_
                      refine cmX12_543 rfl hs (Nat.le_of_ble_eq_true rfl) dX12_thing_357 (fun x75 M74 => ?_)
                      refine x_iast dX12_thing_360 (fun M76 => ?_)
                      exact x_weak (by exact trivial) (hj361 M76)
                    refine x_if_ne (tgt := 331) dX12_thing_315 (by decide) (fun _ => ?_) (fun _ => ?_)
                    · refine x_aload_n dX12_thing_318 rfl ?_
                      refine gfX12_408 rfl dX12_thing_319 (fun x77 => ?_)
                      refine x_bipush (v := 41) dX12_thing_322 (by decide) ?_
                      refine x_icmp_eq (tgt := 331) dX12_thing_324 (by decide) (fun _ => ?_) (fun _ => ?_)
                      · exact x_weak (by exact ⟨rfl, ⟨rfl, trivial⟩⟩) (hj331 M64)
                      · refine x_aload_n dX12_thing_327 rfl ?_
                        refine cmX12_561 rfl hs (Nat.le_of_ble_eq_true rfl) dX12_thing_328 (fun M78 => ?_)
                        exact x_weak (by exact ⟨rfl, ⟨rfl, trivial⟩⟩) (hj331 M78)
                    · exact x_weak (by exact ⟨rfl, ⟨rfl, trivial⟩⟩) (hj331 M64)
                · refine x_aload_n dX12_thing_178 rfl ?_
                  refine x_bipush (v := 61) dX12_thing_179 (by decide) ?_
                  refine cmX12_517 rfl hs (Nat.le_of_ble_eq_true rfl) dX12_thing_181 (fun x80 M79 => ?_)
                  refine x_pop dX12_thing_184 (xc1_i _) ?_
                  refine x_aload_n dX12_thing_185 rfl ?_
                  refine cmX12_558 rfl hs (Nat.le_of_ble_eq_true rfl) dX12_thing_186 (fun M81 => ?_)
                  refine x_aload_n dX12_thing_189 rfl ?_
                  refine gfX12_52 rfl dX12_thing_190 (fun x82 => ?_)
                  refine x_iload dX12_thing_193 rfl ?_
                  refine x_aload_n dX12_thing_195 rfl ?_
                  refine gfX12_536 rfl dX12_thing_196 (fun x83 => ?_)
                  refine x_iast dX12_thing_199 (fun M84 => ?_)
                  refine x_aload_n dX12_thing_200 rfl ?_
                  refine x_bipush (v := 59) dX12_thing_201 (by decide) ?_
                  refine cmX12_517 rfl hs (Nat.le_of_ble_eq_true rfl) dX12_thing_203 (fun x86 M85 => ?_)
                  refine x_pop dX12_thing_206 (xc1_i _) ?_
                  refine x_goto (tgt := 361) dX12_thing_207 (by decide) ?_
                  exact x_weak (by exact trivial) (hj361 M85)
            refine x_icmp_ge (tgt := 79) dX12_thing_72 (by decide) (fun _ => ?_) (fun _ => ?_)
            · refine x_iconst (v := 0) dX12_thing_79 (by decide) ?_
              exact x_weak (by exact ⟨rfl, ⟨rfl, ⟨rfl, ⟨rfl, trivial⟩⟩⟩⟩) (hj80 ((0 : Int32)))
            · refine x_iconst (v := 1) dX12_thing_75 (by decide) ?_
              refine x_goto (tgt := 80) dX12_thing_76 (by decide) ?_
              exact x_weak (by exact ⟨rfl, ⟨rfl, ⟨rfl, ⟨rfl, trivial⟩⟩⟩⟩) (hj80 ((1 : Int32)))
        refine x_if_ne (tgt := 57) dX12_thing_50 (by decide) (fun _ => ?_) (fun _ => ?_)
        · refine x_iconst (v := 1) dX12_thing_53 (by decide) ?_
          refine x_goto (tgt := 58) dX12_thing_54 (by decide) ?_
          exact x_weak (by exact ⟨rfl, ⟨rfl, ⟨rfl, ⟨rfl, trivial⟩⟩⟩⟩) (hj58 ((1 : Int32)))
        · refine x_iconst (v := 0) dX12_thing_57 (by decide) ?_
          exact x_weak (by exact ⟨rfl, ⟨rfl, ⟨rfl, ⟨rfl, trivial⟩⟩⟩⟩) (hj58 ((0 : Int32)))
    refine x_icmp_ne (tgt := 33) dX12_thing_26 (by decide) (fun _ => ?_) (fun _ => ?_)
    · refine x_iconst (v := 1) dX12_thing_29 (by decide) ?_
      refine x_goto (tgt := 34) dX12_thing_30 (by decide) ?_
      exact x_weak (by exact ⟨rfl, ⟨rfl, ⟨rfl, ⟨rfl, trivial⟩⟩⟩⟩) (hj34 ((1 : Int32)))
    · refine x_iconst (v := 0) dX12_thing_33 (by decide) ?_
      exact x_weak (by exact ⟨rfl, ⟨rfl, ⟨rfl, ⟨rfl, trivial⟩⟩⟩⟩) (hj34 ((0 : Int32)))
  · exact x_weak (by exact trivial) (hj88 M3)
theorem s222 {l : Launch} {d : Nat} {rec : Nat → List Value → Mem → XA} (hS : Nonempty XS) (hs : XSnd l xmt rec d) : Snd1 l 222 (b222 rec) d := by
  intro as M r M' h0
  unfold b222 at h0
  obtain ⟨a0, l1, e1, h1⟩ := aR_inv h0
  obtain ⟨a1, l2, e2, h2⟩ := aI_inv h1
  obtain ⟨a2, l3, e3, h3⟩ := aI_inv h2
  obtain ⟨ez, h⟩ := aZ_inv h3
  subst ez
  subst e3
  subst e2
  subst e1
  exact xmet (M := M) (as := [va_rf a0, .int a1, .int a2]) (lo := [some (va_rf a0), some (.int a1), some (.int a2)]) 222 xq222 xm222 (by rw [xargs_rf, xargs_i, xargs_i, xargs_nil]; exact ⟨rfl, ⟨rfl, ⟨rfl, trivial⟩⟩⟩) (by rw [xargs_rf, xargs_i, xargs_i, xargs_nil]; exact Nat.le_of_ble_eq_true rfl) (fun S G K => x_weak (by exact ⟨rfl, ⟨rfl, ⟨rfl, trivial⟩⟩⟩) (k222 hs a0 a1 a2 M)) h hS
