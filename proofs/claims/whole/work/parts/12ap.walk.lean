set_option maxRecDepth 100000 in
def c231 (rec : Nat → List Value → Mem → XA) (a0 : Option Nat) (M0 : Mem) : XA :=
  gtI (13, 157) M0 a0 2 fun x1 =>
  if x1 = ((8 : Int32)) then (
    some (.int ((-3 : Int32)), M0)) else (
    gtI (13, 157) M0 a0 2 fun x2 =>
    gtP (13, 157) M0 a0 3 fun x3 =>
    asI 100 M0 x3 x2 (((0 : Int32))) fun M4 =>
    gtP (13, 157) M4 a0 10 fun x5 =>
    asI 100 M4 x5 x2 (((0 : Int32))) fun M6 =>
    gtP (13, 157) M6 a0 17 fun x7 =>
    asI 100 M6 x7 x2 (((0 : Int32))) fun M8 =>
    gtP (13, 157) M8 a0 25 fun x9 =>
    asI 100 M8 x9 x2 (((0 : Int32))) fun M10 =>
    ptI (13, 157) M10 a0 43 ((0 : Int32)) fun M11 =>
    ptI (13, 157) M11 a0 53 ((0 : Int32)) fun M12 =>
    ptI (13, 157) M12 a0 41 ((0 : Int32)) fun M13 =>
    ptI (13, 157) M13 a0 38 ((0 : Int32)) fun M14 =>
    vC (13, 157) M14 a0 <|
    cV (rec 191 [va_rf a0] M14) fun M15 =>
    lp (fun (s16 : Int32 × Mem) j71 =>
      if s16.1 = 0 then (
        gtI (13, 157) s16.2 a0 41 fun x17 =>
        jn (fun (s18 : Mem) =>
          ptI (13, 157) s18 a0 1 ((0 : Int32)) fun M19 =>
          gtI (13, 157) M19 a0 41 fun x20 =>
          ptI (13, 157) M19 a0 65 x20 fun M21 =>
          gtI (13, 157) M21 a0 41 fun x22 =>
          if x22 = 0 then (
            vC (13, 157) M21 a0 <|
            cV (rec 232 [va_rf a0, .int x2] M21) fun M23 =>
            gtI (13, 157) M23 a0 2 fun x24 =>
            ptI (13, 157) M23 a0 2 (x24 + ((1 : Int32))) fun M25 =>
            some (.int x2, M25)) else (
            gtI (13, 157) M21 a0 42 fun x26 =>
            some (.int (((-10 : Int32)) - x26), M21))) fun j144 =>
        if x17 = 0 then (
          vC (13, 157) s16.2 a0 <|
          cV (rec 230 [va_rf a0, .int x2] s16.2) fun M27 =>
          j144 M27) else (
          j144 s16.2)) else (
        gtI (13, 157) s16.2 a0 41 fun x28 =>
        jn (fun (s29 : Mem) =>
          gtI (13, 157) s29 a0 41 fun x30 =>
          jn (fun (s31 : Int32) =>
            j71 (s31, s29)) fun j128 =>
          jn (fun (s32 : Unit) =>
            j128 ((0 : Int32))) fun j127 =>
          if x30 = 0 then (
            gtI (13, 157) s29 a0 36 fun x33 =>
            if x33 = 0 then (
              j127 ()) else (
              j128 ((1 : Int32)))) else (
            j127 ())) fun j109 =>
        if x28 = 0 then (
          gtI (13, 157) s16.2 a0 36 fun x34 =>
          jn (fun (s35 : Int32) =>
            vC (13, 157) s16.2 a0 <|
            cI (rec 193 [va_rf a0, .int s35] s16.2) fun x37 M36 =>
            if x37 = 0 then (
              j109 M36) else (
              vC (13, 157) M36 a0 <|
              cV (rec 229 [va_rf a0, .int x2] M36) fun M38 =>
              j109 M38)) fun j98 =>
          if x34 = ((401 : Int32)) then (
            j98 ((1 : Int32))) else (
            j98 ((0 : Int32)))) else (
          j109 s16.2))) 4294967296 ((1 : Int32), M15))
def b231 (rec : Nat → List Value → Mem → XA) (as : List Value) (M0 : Mem) : XA := aR as fun a0 as => aZ as (c231 rec a0 M0)
set_option maxRecDepth 100000 in
set_option maxHeartbeats 4000000 in
theorem k231 {S : XS} {G : XG} {K : Nat × Nat} {l : Launch} {d : Nat} {rec : Nat → List Value → Mem → XA} (hs : XSnd l xmt rec d) (a0 : Option Nat) (M0 : Mem) : Xe S G K l (yX12_parcel, cX12_parcel, 3, some .int) d 0 [some (va_rf a0), none, none] [] M0 (c231 rec a0 M0) := by
  unfold c231
  refine x_aload_n dX12_parcel_0 rfl ?_
  refine gfX12_582 rfl dX12_parcel_1 (fun x1 => ?_)
  refine x_bipush (v := 8) dX12_parcel_4 (by decide) ?_
  refine x_icmp_ne (tgt := 12) dX12_parcel_6 (by decide) (fun _ => ?_) (fun _ => ?_)
  · refine x_bipush (v := -3) dX12_parcel_9 (by decide) ?_
    exact x_iret rfl dX12_parcel_11
  · refine x_aload_n dX12_parcel_12 rfl ?_
    refine gfX12_582 rfl dX12_parcel_13 (fun x2 => ?_)
    refine x_istore_n (lo' := [some (va_rf a0), some (.int x2), none]) dX12_parcel_16 (by decide) (xok_r rfl) rfl ?_
    refine x_aload_n dX12_parcel_17 rfl ?_
    refine gfX12_13 rfl dX12_parcel_18 (fun x3 => ?_)
    refine x_iload_n dX12_parcel_21 rfl ?_
    refine x_iconst (v := 0) dX12_parcel_22 (by decide) ?_
    refine x_iast dX12_parcel_23 (fun M4 => ?_)
    refine x_aload_n dX12_parcel_24 rfl ?_
    refine gfX12_36 rfl dX12_parcel_25 (fun x5 => ?_)
    refine x_iload_n dX12_parcel_28 rfl ?_
    refine x_iconst (v := 0) dX12_parcel_29 (by decide) ?_
    refine x_iast dX12_parcel_30 (fun M6 => ?_)
    refine x_aload_n dX12_parcel_31 rfl ?_
    refine gfX12_58 rfl dX12_parcel_32 (fun x7 => ?_)
    refine x_iload_n dX12_parcel_35 rfl ?_
    refine x_iconst (v := 0) dX12_parcel_36 (by decide) ?_
    refine x_iast dX12_parcel_37 (fun M8 => ?_)
    refine x_aload_n dX12_parcel_38 rfl ?_
    refine gfX12_82 rfl dX12_parcel_39 (fun x9 => ?_)
    refine x_iload_n dX12_parcel_42 rfl ?_
    refine x_iconst (v := 0) dX12_parcel_43 (by decide) ?_
    refine x_iast dX12_parcel_44 (fun M10 => ?_)
    refine x_aload_n dX12_parcel_45 rfl ?_
    refine x_iconst (v := 0) dX12_parcel_46 (by decide) ?_
    refine pfX12_439 rfl dX12_parcel_47 (fun M11 => ?_)
    refine x_aload_n dX12_parcel_50 rfl ?_
    refine x_iconst (v := 0) dX12_parcel_51 (by decide) ?_
    refine pfX12_462 rfl dX12_parcel_52 (fun M12 => ?_)
    refine x_aload_n dX12_parcel_55 rfl ?_
    refine x_iconst (v := 0) dX12_parcel_56 (by decide) ?_
    refine pfX12_395 rfl dX12_parcel_57 (fun M13 => ?_)
    refine x_aload_n dX12_parcel_60 rfl ?_
    refine x_iconst (v := 0) dX12_parcel_61 (by decide) ?_
    refine pfX12_398 rfl dX12_parcel_62 (fun M14 => ?_)
    refine x_aload_n dX12_parcel_65 rfl ?_
    refine cmX12_436 rfl hs (Nat.le_of_ble_eq_true rfl) dX12_parcel_66 (fun M15 => ?_)
    refine x_iconst (v := 1) dX12_parcel_69 (by decide) ?_
    refine x_istore_n (lo' := [some (va_rf a0), some (.int x2), some (.int ((1 : Int32)))]) dX12_parcel_70 (by decide) rfl rfl ?_
    refine x_weak (by exact ⟨rfl, ⟨rfl, ⟨rfl, trivial⟩⟩⟩) (x_lp (σ := Int32 × Mem) 71 (fun s16 => [some (va_rf a0), some (.int x2), some (.int s16.1)]) (fun s16 => []) (fun s16 => s16.2) (fun s16 j71 hj71 => ?_) 4294967296 ((1 : Int32), M15))
    · refine x_iload_n dX12_parcel_71 rfl ?_
      refine x_if_eq (tgt := 132) dX12_parcel_72 (by decide) (fun _ => ?_) (fun _ => ?_)
      · refine x_aload_n dX12_parcel_132 rfl ?_
        refine gfX12_395 rfl dX12_parcel_133 (fun x17 => ?_)
        refine x_jn (σ := Mem) 144 (fun s18 => [some (va_rf a0), some (.int x2), none]) (fun s18 => []) (fun s18 => s18) (fun s18 => ?_) (fun j144 hj144 => ?_)
        · refine x_aload_n dX12_parcel_144 rfl ?_
          refine x_iconst (v := 0) dX12_parcel_145 (by decide) ?_
          refine pfX12_378 rfl dX12_parcel_146 (fun M19 => ?_)
          refine x_aload_n dX12_parcel_149 rfl ?_
          refine x_aload_n dX12_parcel_150 rfl ?_
          refine gfX12_395 rfl dX12_parcel_151 (fun x20 => ?_)
          refine pfX12_591 rfl dX12_parcel_154 (fun M21 => ?_)
          refine x_aload_n dX12_parcel_157 rfl ?_
          refine gfX12_395 rfl dX12_parcel_158 (fun x22 => ?_)
          refine x_if_eq (tgt := 172) dX12_parcel_161 (by decide) (fun _ => ?_) (fun _ => ?_)
          · refine x_aload_n dX12_parcel_172 rfl ?_
            refine x_iload_n dX12_parcel_173 rfl ?_
            refine cmX12_594 rfl hs (Nat.le_of_ble_eq_true rfl) dX12_parcel_174 (fun M23 => ?_)
            refine x_aload_n dX12_parcel_177 rfl ?_
            refine x_dup dX12_parcel_178 (xc1_r _) ?_
            refine gfX12_582 rfl dX12_parcel_179 (fun x24 => ?_)
            refine x_iconst (v := 1) dX12_parcel_182 (by decide) ?_
            refine x_iadd dX12_parcel_183 ?_
            refine pfX12_582 rfl dX12_parcel_184 (fun M25 => ?_)
            refine x_iload_n dX12_parcel_187 rfl ?_
            exact x_iret rfl dX12_parcel_188
          · refine x_bipush (v := -10) dX12_parcel_164 (by decide) ?_
            refine x_aload_n dX12_parcel_166 rfl ?_
            refine gfX12_425 rfl dX12_parcel_167 (fun x26 => ?_)
            refine x_isub dX12_parcel_170 ?_
            exact x_iret rfl dX12_parcel_171
        refine x_if_ne (tgt := 144) dX12_parcel_136 (by decide) (fun _ => ?_) (fun _ => ?_)
        · refine x_aload_n dX12_parcel_139 rfl ?_
          refine x_iload_n dX12_parcel_140 rfl ?_
          refine cmX12_588 rfl hs (Nat.le_of_ble_eq_true rfl) dX12_parcel_141 (fun M27 => ?_)
          exact x_weak (by exact ⟨rfl, ⟨rfl, trivial⟩⟩) (hj144 M27)
        · exact x_weak (by exact ⟨rfl, ⟨rfl, trivial⟩⟩) (hj144 s16.2)
      · refine x_aload_n dX12_parcel_75 rfl ?_
        refine gfX12_395 rfl dX12_parcel_76 (fun x28 => ?_)
        refine x_jn (σ := Mem) 109 (fun s29 => [some (va_rf a0), some (.int x2), none]) (fun s29 => []) (fun s29 => s29) (fun s29 => ?_) (fun j109 hj109 => ?_)
        · refine x_aload_n dX12_parcel_109 rfl ?_
          refine gfX12_395 rfl dX12_parcel_110 (fun x30 => ?_)
          refine x_jn (σ := Int32) 128 (fun s31 => [some (va_rf a0), some (.int x2), none]) (fun s31 => [.int s31]) (fun s31 => s29) (fun s31 => ?_) (fun j128 hj128 => ?_)
          · refine x_istore_n (lo' := [some (va_rf a0), some (.int x2), some (.int s31)]) dX12_parcel_128 (by decide) rfl rfl ?_
            refine x_goto (tgt := 71) dX12_parcel_129 (by decide) ?_
            exact x_weak (by exact ⟨rfl, ⟨rfl, ⟨rfl, trivial⟩⟩⟩) (hj71 (s31, s29))
          refine x_jn (σ := Unit) 127 (fun s32 => [some (va_rf a0), some (.int x2), none]) (fun s32 => []) (fun s32 => s29) (fun s32 => ?_) (fun j127 hj127 => ?_)
          · refine x_iconst (v := 0) dX12_parcel_127 (by decide) ?_
            exact x_weak (by exact ⟨rfl, ⟨rfl, trivial⟩⟩) (hj128 ((0 : Int32)))
          refine x_if_ne (tgt := 127) dX12_parcel_113 (by decide) (fun _ => ?_) (fun _ => ?_)
          · refine x_aload_n dX12_parcel_116 rfl ?_
            refine gfX12_408 rfl dX12_parcel_117 (fun x33 => ?_)
            refine x_if_eq (tgt := 127) dX12_parcel_120 (by decide) (fun _ => ?_) (fun _ => ?_)
            · exact x_weak (by exact ⟨rfl, ⟨rfl, trivial⟩⟩) (hj127 ())
            · refine x_iconst (v := 1) dX12_parcel_123 (by decide) ?_
              refine x_goto (tgt := 128) dX12_parcel_124 (by decide) ?_
              exact x_weak (by exact ⟨rfl, ⟨rfl, trivial⟩⟩) (hj128 ((1 : Int32)))
          · exact x_weak (by exact ⟨rfl, ⟨rfl, trivial⟩⟩) (hj127 ())
        refine x_if_ne (tgt := 109) dX12_parcel_79 (by decide) (fun _ => ?_) (fun _ => ?_)
        · refine x_aload_n dX12_parcel_82 rfl ?_
          refine x_aload_n dX12_parcel_83 rfl ?_
          refine gfX12_408 rfl dX12_parcel_84 (fun x34 => ?_)
          refine x_sipush (v := 401) dX12_parcel_87 (by decide) ?_
          refine x_jn (σ := Int32) 98 (fun s35 => [some (va_rf a0), some (.int x2), none]) (fun s35 => [.int s35, va_rf a0]) (fun s35 => s16.2) (fun s35 => ?_) (fun j98 hj98 => ?_)
          · refine cmX12_432 rfl hs (Nat.le_of_ble_eq_true rfl) dX12_parcel_98 (fun x37 M36 => ?_)
            refine x_if_eq (tgt := 109) dX12_parcel_101 (by decide) (fun _ => ?_) (fun _ => ?_)
            · exact x_weak (by exact ⟨rfl, ⟨rfl, trivial⟩⟩) (hj109 M36)
            · refine x_aload_n dX12_parcel_104 rfl ?_
              refine x_iload_n dX12_parcel_105 rfl ?_
              refine cmX12_585 rfl hs (Nat.le_of_ble_eq_true rfl) dX12_parcel_106 (fun M38 => ?_)
              exact x_weak (by exact ⟨rfl, ⟨rfl, trivial⟩⟩) (hj109 M38)
          refine x_icmp_ne (tgt := 97) dX12_parcel_90 (by decide) (fun _ => ?_) (fun _ => ?_)
          · refine x_iconst (v := 1) dX12_parcel_93 (by decide) ?_
            refine x_goto (tgt := 98) dX12_parcel_94 (by decide) ?_
            exact x_weak (by exact ⟨rfl, ⟨rfl, trivial⟩⟩) (hj98 ((1 : Int32)))
          · refine x_iconst (v := 0) dX12_parcel_97 (by decide) ?_
            exact x_weak (by exact ⟨rfl, ⟨rfl, trivial⟩⟩) (hj98 ((0 : Int32)))
        · exact x_weak (by exact ⟨rfl, ⟨rfl, trivial⟩⟩) (hj109 s16.2)
theorem s231 {l : Launch} {d : Nat} {rec : Nat → List Value → Mem → XA} (hS : Nonempty XS) (hs : XSnd l xmt rec d) : Snd1 l 231 (b231 rec) d := by
  intro as M r M' h0
  unfold b231 at h0
  obtain ⟨a0, l1, e1, h1⟩ := aR_inv h0
  obtain ⟨ez, h⟩ := aZ_inv h1
  subst ez
  subst e1
  exact xmet (M := M) (as := [va_rf a0]) (lo := [some (va_rf a0)]) 231 xq231 xm231 (by rw [xargs_rf, xargs_nil]; exact ⟨rfl, trivial⟩) (by rw [xargs_rf, xargs_nil]; exact Nat.le_of_ble_eq_true rfl) (fun S G K => x_weak (by exact ⟨rfl, trivial⟩) (k231 hs a0 M)) h hS
set_option maxRecDepth 100000 in
def c232 (rec : Nat → List Value → Mem → XA) (a0 : Option Nat) (a1 : Int32) (M0 : Mem) : XA :=
  gtP (13, 157) M0 a0 29 fun x1 =>
  gtI (13, 157) M0 a0 43 fun x2 =>
  asI 100 M0 x1 a1 x2 fun M3 =>
  gtP (13, 157) M3 a0 33 fun x4 =>
  asI 100 M3 x4 a1 (((0 : Int32))) fun M5 =>
  lp (fun (s6 : Int32 × Mem) j19 =>
    gtI (13, 157) s6.2 a0 43 fun x7 =>
    if x7 ≤ s6.1 then (
      lp (fun (s8 : Int32 × Mem) j139 =>
        if ((16 : Int32)) ≤ s8.1 then (
          gtP (13, 157) s8.2 a0 104 fun x9 =>
          asI 102 s8.2 x9 a1 ((znar ((0 : Int32)))) fun M10 =>
          gtP (13, 157) M10 a0 123 fun x11 =>
          asI 102 M10 x11 a1 ((znar ((0 : Int32)))) fun M12 =>
          some (.null, M12)) else (
          gtP (13, 157) s8.2 a0 24 fun x13 =>
          asI 100 s8.2 x13 ((((16 : Int32)) * a1) + s8.1) s8.1 fun M14 =>
          lt (s8.1 + (1 : Int32)) fun (x15 : Int32) =>
          j139 (x15, M14))) 4294967296 ((0 : Int32), s6.2)) else (
      gtP (13, 157) s6.2 a0 30 fun x16 =>
      gtP (13, 157) s6.2 a0 44 fun x17 =>
      alI 101 s6.2 x17 s6.1 fun x18 =>
      asI 101 s6.2 x16 ((((1000 : Int32)) * a1) + s6.1) (x18.toInt8.toInt32) fun M19 =>
      gtP (13, 157) M19 a0 31 fun x20 =>
      gtP (13, 157) M19 a0 45 fun x21 =>
      alI 100 M19 x21 s6.1 fun x22 =>
      asI 100 M19 x20 ((((1000 : Int32)) * a1) + s6.1) x22 fun M23 =>
      gtP (13, 157) M23 a0 32 fun x24 =>
      gtP (13, 157) M23 a0 46 fun x25 =>
      alI 101 M23 x25 s6.1 fun x26 =>
      asI 101 M23 x24 ((((1000 : Int32)) * a1) + s6.1) (x26.toInt8.toInt32) fun M27 =>
      gtP (13, 157) M27 a0 47 fun x28 =>
      alX 102 M27 x28 s6.1 fun x29 =>
      jn (fun (s30 : Mem) =>
        lt (s6.1 + (1 : Int32)) fun (x31 : Int32) =>
        j19 (x31, s30)) fun j131 =>
      if x29 = 0 then (
        j131 M27) else (
        gtP (13, 157) M27 a0 44 fun x32 =>
        alI 101 M27 x32 s6.1 fun x33 =>
        cI (rec 233 [.int x33] M27) fun x35 M34 =>
        if x35 < 0 then (
          j131 M34) else (
          gtP (13, 157) M34 a0 34 fun x36 =>
          gtP (13, 157) M34 a0 33 fun x37 =>
          alI 100 M34 x37 a1 fun x38 =>
          asI 103 M34 x36 ((((1000 : Int32)) * a1) + x38) (s6.1.toInt16.toInt32.toInt16.toInt32) fun M39 =>
          gtP (13, 157) M39 a0 33 fun x40 =>
          alI 100 M39 x40 a1 fun x41 =>
          asI 100 M39 x40 a1 ((x41 + ((1 : Int32)))) fun M42 =>
          j131 M42)))) 4294967296 ((0 : Int32), M5)
def b232 (rec : Nat → List Value → Mem → XA) (as : List Value) (M0 : Mem) : XA := aR as fun a0 as => aI as fun a1 as => aZ as (c232 rec a0 a1 M0)
set_option maxRecDepth 100000 in
set_option maxHeartbeats 4000000 in
theorem k232 {S : XS} {G : XG} {K : Nat × Nat} {l : Launch} {d : Nat} {rec : Nat → List Value → Mem → XA} (hs : XSnd l xmt rec d) (a0 : Option Nat) (a1 : Int32) (M0 : Mem) : Xe S G K l (yX12_keep, cX12_keep, 3, none) d 0 [some (va_rf a0), some (.int a1), none] [] M0 (c232 rec a0 a1 M0) := by
  unfold c232
  refine x_aload_n dX12_keep_0 rfl ?_
  refine gfX12_94 rfl dX12_keep_1 (fun x1 => ?_)
  refine x_iload_n dX12_keep_4 rfl ?_
  refine x_aload_n dX12_keep_5 rfl ?_
  refine gfX12_439 rfl dX12_keep_6 (fun x2 => ?_)
  refine x_iast dX12_keep_9 (fun M3 => ?_)
  refine x_aload_n dX12_keep_10 rfl ?_
  refine gfX12_106 rfl dX12_keep_11 (fun x4 => ?_)
  refine x_iload_n dX12_keep_14 rfl ?_
  refine x_iconst (v := 0) dX12_keep_15 (by decide) ?_
  refine x_iast dX12_keep_16 (fun M5 => ?_)
  refine x_iconst (v := 0) dX12_keep_17 (by decide) ?_
  refine x_istore_n (lo' := [some (va_rf a0), some (.int a1), some (.int ((0 : Int32)))]) dX12_keep_18 (by decide) rfl rfl ?_
  refine x_weak (by exact ⟨rfl, ⟨rfl, ⟨rfl, trivial⟩⟩⟩) (x_lp (σ := Int32 × Mem) 19 (fun s6 => [some (va_rf a0), some (.int a1), some (.int s6.1)]) (fun s6 => []) (fun s6 => s6.2) (fun s6 j19 hj19 => ?_) 4294967296 ((0 : Int32), M5))
  · refine x_iload_n dX12_keep_19 rfl ?_
    refine x_aload_n dX12_keep_20 rfl ?_
    refine gfX12_439 rfl dX12_keep_21 (fun x7 => ?_)
    refine x_icmp_ge (tgt := 137) dX12_keep_24 (by decide) (fun _ => ?_) (fun _ => ?_)
    · refine x_iconst (v := 0) dX12_keep_137 (by decide) ?_
      refine x_istore_n (lo' := [some (va_rf a0), some (.int a1), some (.int ((0 : Int32)))]) dX12_keep_138 (by decide) rfl rfl ?_
      refine x_weak (by exact ⟨rfl, ⟨rfl, ⟨rfl, trivial⟩⟩⟩) (x_lp (σ := Int32 × Mem) 139 (fun s8 => [some (va_rf a0), some (.int a1), some (.int s8.1)]) (fun s8 => []) (fun s8 => s8.2) (fun s8 j139 hj139 => ?_) 4294967296 ((0 : Int32), s6.2))
      · refine x_iload_n dX12_keep_139 rfl ?_
        refine x_bipush (v := 16) dX12_keep_140 (by decide) ?_
        refine x_icmp_ge (tgt := 163) dX12_keep_142 (by decide) (fun _ => ?_) (fun _ => ?_)
        · refine x_aload_n dX12_keep_163 rfl ?_
          refine gfX12_264 rfl dX12_keep_164 (fun x9 => ?_)
          refine x_iload_n dX12_keep_167 rfl ?_
          refine x_iconst (v := 0) dX12_keep_168 (by decide) ?_
          refine x_zast dX12_keep_169 (fun M10 => ?_)
          refine x_aload_n dX12_keep_170 rfl ?_
          refine gfX12_315 rfl dX12_keep_171 (fun x11 => ?_)
          refine x_iload_n dX12_keep_174 rfl ?_
          refine x_iconst (v := 0) dX12_keep_175 (by decide) ?_
          refine x_zast dX12_keep_176 (fun M12 => ?_)
          exact x_vret rfl dX12_keep_177
        · refine x_aload_n dX12_keep_145 rfl ?_
          refine gfX12_79 rfl dX12_keep_146 (fun x13 => ?_)
          refine x_bipush (v := 16) dX12_keep_149 (by decide) ?_
          refine x_iload_n dX12_keep_151 rfl ?_
          refine x_imul dX12_keep_152 ?_
          refine x_iload_n dX12_keep_153 rfl ?_
          refine x_iadd dX12_keep_154 ?_
          refine x_iload_n dX12_keep_155 rfl ?_
          refine x_iast dX12_keep_156 (fun M14 => ?_)
          refine x_iincN (v := 1) (lo' := fun x15 => [some (va_rf a0), some (.int a1), some (.int x15)]) (by decide) dX12_keep_157 rfl (by decide) rfl (fun _ => rfl) (fun x15 => ?_)
          refine x_goto (tgt := 139) dX12_keep_160 (by decide) ?_
          exact x_weak (by exact ⟨rfl, ⟨rfl, ⟨rfl, trivial⟩⟩⟩) (hj139 (x15, M14))
    · refine x_aload_n dX12_keep_27 rfl ?_
      refine gfX12_97 rfl dX12_keep_28 (fun x16 => ?_)
      refine x_sipush (v := 1000) dX12_keep_31 (by decide) ?_
      refine x_iload_n dX12_keep_34 rfl ?_
      refine x_imul dX12_keep_35 ?_
      refine x_iload_n dX12_keep_36 rfl ?_
      refine x_iadd dX12_keep_37 ?_
      refine x_aload_n dX12_keep_38 rfl ?_
      refine gfX12_176 rfl dX12_keep_39 (fun x17 => ?_)
      refine x_iload_n dX12_keep_42 rfl ?_
      refine x_bald dX12_keep_43 (fun x18 => ?_)
      refine x_bast dX12_keep_44 (fun M19 => ?_)
      refine x_aload_n dX12_keep_45 rfl ?_
      refine gfX12_100 rfl dX12_keep_46 (fun x20 => ?_)
      refine x_sipush (v := 1000) dX12_keep_49 (by decide) ?_
      refine x_iload_n dX12_keep_52 rfl ?_
      refine x_imul dX12_keep_53 ?_
      refine x_iload_n dX12_keep_54 rfl ?_
      refine x_iadd dX12_keep_55 ?_
      refine x_aload_n dX12_keep_56 rfl ?_
      refine gfX12_179 rfl dX12_keep_57 (fun x21 => ?_)
      refine x_iload_n dX12_keep_60 rfl ?_
      refine x_iald dX12_keep_61 (fun x22 => ?_)
      refine x_iast dX12_keep_62 (fun M23 => ?_)
      refine x_aload_n dX12_keep_63 rfl ?_
      refine gfX12_103 rfl dX12_keep_64 (fun x24 => ?_)
      refine x_sipush (v := 1000) dX12_keep_67 (by decide) ?_
      refine x_iload_n dX12_keep_70 rfl ?_
      refine x_imul dX12_keep_71 ?_
      refine x_iload_n dX12_keep_72 rfl ?_
      refine x_iadd dX12_keep_73 ?_
      refine x_aload_n dX12_keep_74 rfl ?_
      refine gfX12_182 rfl dX12_keep_75 (fun x25 => ?_)
      refine x_iload_n dX12_keep_78 rfl ?_
      refine x_bald dX12_keep_79 (fun x26 => ?_)
      refine x_bast dX12_keep_80 (fun M27 => ?_)
      refine x_aload_n dX12_keep_81 rfl ?_
      refine gfX12_185 rfl dX12_keep_82 (fun x28 => ?_)
      refine x_iload_n dX12_keep_85 rfl ?_
      refine x_zald dX12_keep_86 (fun x29 => ?_)
      refine x_jn (σ := Mem) 131 (fun s30 => [some (va_rf a0), some (.int a1), some (.int s6.1)]) (fun s30 => []) (fun s30 => s30) (fun s30 => ?_) (fun j131 hj131 => ?_)
      · refine x_iincN (v := 1) (lo' := fun x31 => [some (va_rf a0), some (.int a1), some (.int x31)]) (by decide) dX12_keep_131 rfl (by decide) rfl (fun _ => rfl) (fun x31 => ?_)
        refine x_goto (tgt := 19) dX12_keep_134 (by decide) ?_
        exact x_weak (by exact ⟨rfl, ⟨rfl, ⟨rfl, trivial⟩⟩⟩) (hj19 (x31, s30))
      refine x_if_eq (tgt := 131) dX12_keep_87 (by decide) (fun _ => ?_) (fun _ => ?_)
      · exact x_weak (by exact ⟨rfl, ⟨rfl, ⟨rfl, trivial⟩⟩⟩) (hj131 M27)
      · refine x_aload_n dX12_keep_90 rfl ?_
        refine gfX12_176 rfl dX12_keep_91 (fun x32 => ?_)
        refine x_iload_n dX12_keep_94 rfl ?_
        refine x_bald dX12_keep_95 (fun x33 => ?_)
        refine cmX12_597 rfl hs (Nat.le_of_ble_eq_true rfl) dX12_keep_96 (fun x35 M34 => ?_)
        refine x_if_lt (tgt := 131) dX12_keep_99 (by decide) (fun _ => ?_) (fun _ => ?_)
        · exact x_weak (by exact ⟨rfl, ⟨rfl, ⟨rfl, trivial⟩⟩⟩) (hj131 M34)
        · refine x_aload_n dX12_keep_102 rfl ?_
          refine gfX12_109 rfl dX12_keep_103 (fun x36 => ?_)
          refine x_sipush (v := 1000) dX12_keep_106 (by decide) ?_
          refine x_iload_n dX12_keep_109 rfl ?_
          refine x_imul dX12_keep_110 ?_
          refine x_aload_n dX12_keep_111 rfl ?_
          refine gfX12_106 rfl dX12_keep_112 (fun x37 => ?_)
          refine x_iload_n dX12_keep_115 rfl ?_
          refine x_iald dX12_keep_116 (fun x38 => ?_)
          refine x_iadd dX12_keep_117 ?_
          refine x_iload_n dX12_keep_118 rfl ?_
          refine x_i2s dX12_keep_119 ?_
          refine x_sast dX12_keep_120 (fun M39 => ?_)
          refine x_aload_n dX12_keep_121 rfl ?_
          refine gfX12_106 rfl dX12_keep_122 (fun x40 => ?_)
          refine x_iload_n dX12_keep_125 rfl ?_
          refine x_dup2 dX12_keep_126 (xc1_i _) (xc1_r _) ?_
          refine x_iald dX12_keep_127 (fun x41 => ?_)
          refine x_iconst (v := 1) dX12_keep_128 (by decide) ?_
          refine x_iadd dX12_keep_129 ?_
          refine x_iast dX12_keep_130 (fun M42 => ?_)
          exact x_weak (by exact ⟨rfl, ⟨rfl, ⟨rfl, trivial⟩⟩⟩) (hj131 M42)
theorem s232 {l : Launch} {d : Nat} {rec : Nat → List Value → Mem → XA} (hS : Nonempty XS) (hs : XSnd l xmt rec d) : Snd1 l 232 (b232 rec) d := by
  intro as M r M' h0
  unfold b232 at h0
  obtain ⟨a0, l1, e1, h1⟩ := aR_inv h0
  obtain ⟨a1, l2, e2, h2⟩ := aI_inv h1
  obtain ⟨ez, h⟩ := aZ_inv h2
  subst ez
  subst e2
  subst e1
  exact xmet (M := M) (as := [va_rf a0, .int a1]) (lo := [some (va_rf a0), some (.int a1)]) 232 xq232 xm232 (by rw [xargs_rf, xargs_i, xargs_nil]; exact ⟨rfl, ⟨rfl, trivial⟩⟩) (by rw [xargs_rf, xargs_i, xargs_nil]; exact Nat.le_of_ble_eq_true rfl) (fun S G K => x_weak (by exact ⟨rfl, ⟨rfl, trivial⟩⟩) (k232 hs a0 a1 M)) h hS
set_option maxRecDepth 100000 in
def c233 (rec : Nat → List Value → Mem → XA) (a0 : Int32) (M0 : Mem) : XA :=
  swI a0 [
   ((0 : Int32), (
      some (.int ((0 : Int32)), M0))),
   ((1 : Int32), (
      some (.int ((-1 : Int32)), M0))),
   ((2 : Int32), (
      some (.int ((-1 : Int32)), M0))),
   ((3 : Int32), (
      some (.int ((-1 : Int32)), M0))),
   ((4 : Int32), (
      some (.int ((9 : Int32)), M0))),
   ((5 : Int32), (
      some (.int ((-1 : Int32)), M0))),
   ((6 : Int32), (
      some (.int ((33 : Int32)), M0))),
   ((7 : Int32), (
      some (.int ((32 : Int32)), M0))),
   ((8 : Int32), (
      some (.int ((34 : Int32)), M0))),
   ((9 : Int32), (
      some (.int ((-1 : Int32)), M0))),
   ((10 : Int32), (
      some (.int ((11 : Int32)), M0))),
   ((11 : Int32), (
      some (.int ((10 : Int32)), M0))),
   ((12 : Int32), (
      some (.int ((13 : Int32)), M0))),
   ((13 : Int32), (
      some (.int ((12 : Int32)), M0))),
   ((14 : Int32), (
      some (.int ((12 : Int32)), M0))),
   ((15 : Int32), (
      some (.int ((16 : Int32)), M0))),
   ((16 : Int32), (
      some (.int ((15 : Int32)), M0))),
   ((17 : Int32), (
      some (.int ((18 : Int32)), M0))),
   ((18 : Int32), (
      some (.int ((17 : Int32)), M0))),
   ((19 : Int32), (
      some (.int ((20 : Int32)), M0))),
   ((20 : Int32), (
      some (.int ((19 : Int32)), M0))),
   ((21 : Int32), (
      some (.int ((30 : Int32)), M0))),
   ((22 : Int32), (
      some (.int ((30 : Int32)), M0))),
   ((23 : Int32), (
      some (.int ((-1 : Int32)), M0))),
   ((24 : Int32), (
      some (.int ((31 : Int32)), M0))),
   ((25 : Int32), (
      some (.int ((-1 : Int32)), M0))),
   ((26 : Int32), (
      some (.int ((-1 : Int32)), M0))),
   ((27 : Int32), (
      some (.int ((-1 : Int32)), M0))),
   ((28 : Int32), (
      some (.int ((9 : Int32)), M0))),
   ((29 : Int32), (
      some (.int ((9 : Int32)), M0)))] (
    some (.int ((-1 : Int32)), M0))
def b233 (rec : Nat → List Value → Mem → XA) (as : List Value) (M0 : Mem) : XA := aI as fun a0 as => aZ as (c233 rec a0 M0)
set_option maxRecDepth 100000 in
set_option maxHeartbeats 4000000 in
theorem k233 {S : XS} {G : XG} {K : Nat × Nat} {l : Launch} {d : Nat} {rec : Nat → List Value → Mem → XA} (hs : XSnd l xmt rec d) (a0 : Int32) (M0 : Mem) : Xe S G K l (yX12_changed, cX12_changed, 1, some .int) d 0 [some (.int a0)] [] M0 (c233 rec a0 M0) := by
  unfold c233
  refine x_iload_n dX12_changed_0 rfl ?_
  refine x_table (tgt := 186) dX12_changed_1 [(0, 136), (1, 186), (2, 186), (3, 186), (4, 174), (5, 186), (6, 177), (7, 180), (8, 183), (9, 186), (10, 138), (11, 141), (12, 144), (13, 147), (14, 147), (15, 150), (16, 153), (17, 156), (18, 159), (19, 162), (20, 165), (21, 168), (22, 168), (23, 186), (24, 171), (25, 186), (26, 186), (27, 186), (28, 174), (29, 174)] (by decide +kernel) (by decide +kernel) (by decide) ?_ ?_
  · refine swG_d (by decide) ?_ (swG_d (by decide) ?_ (swG_d (by decide) ?_ (swG_d (by decide) ?_ (swG_d (by decide) ?_ (swG_d (by decide) ?_ (swG_d (by decide) ?_ (swG_d (by decide) ?_ (swG_d (by decide) ?_ (swG_d (by decide) ?_ (swG_d (by decide) ?_ (swG_d (by decide) ?_ (swG_d (by decide) ?_ (swG_d (by decide) ?_ (swG_d (by decide) ?_ (swG_d (by decide) ?_ (swG_d (by decide) ?_ (swG_d (by decide) ?_ (swG_d (by decide) ?_ (swG_d (by decide) ?_ (swG_d (by decide) ?_ (swG_d (by decide) ?_ (swG_d (by decide) ?_ (swG_d (by decide) ?_ (swG_d (by decide) ?_ (swG_d (by decide) ?_ (swG_d (by decide) ?_ (swG_d (by decide) ?_ (swG_d (by decide) ?_ (swG_d (by decide) ?_ (trivial))))))))))))))))))))))))))))))
    · refine x_iconst (v := 0) dX12_changed_136 (by decide) ?_
      exact x_iret rfl dX12_changed_137
    · refine x_iconst (v := -1) dX12_changed_186 (by decide) ?_
      exact x_iret rfl dX12_changed_187
    · refine x_iconst (v := -1) dX12_changed_186 (by decide) ?_
      exact x_iret rfl dX12_changed_187
    · refine x_iconst (v := -1) dX12_changed_186 (by decide) ?_
      exact x_iret rfl dX12_changed_187
    · refine x_bipush (v := 9) dX12_changed_174 (by decide) ?_
      exact x_iret rfl dX12_changed_176
    · refine x_iconst (v := -1) dX12_changed_186 (by decide) ?_
      exact x_iret rfl dX12_changed_187
    · refine x_bipush (v := 33) dX12_changed_177 (by decide) ?_
      exact x_iret rfl dX12_changed_179
    · refine x_bipush (v := 32) dX12_changed_180 (by decide) ?_
      exact x_iret rfl dX12_changed_182
    · refine x_bipush (v := 34) dX12_changed_183 (by decide) ?_
      exact x_iret rfl dX12_changed_185
    · refine x_iconst (v := -1) dX12_changed_186 (by decide) ?_
      exact x_iret rfl dX12_changed_187
    · refine x_bipush (v := 11) dX12_changed_138 (by decide) ?_
      exact x_iret rfl dX12_changed_140
    · refine x_bipush (v := 10) dX12_changed_141 (by decide) ?_
      exact x_iret rfl dX12_changed_143
    · refine x_bipush (v := 13) dX12_changed_144 (by decide) ?_
      exact x_iret rfl dX12_changed_146
    · refine x_bipush (v := 12) dX12_changed_147 (by decide) ?_
      exact x_iret rfl dX12_changed_149
    · refine x_bipush (v := 12) dX12_changed_147 (by decide) ?_
      exact x_iret rfl dX12_changed_149
    · refine x_bipush (v := 16) dX12_changed_150 (by decide) ?_
      exact x_iret rfl dX12_changed_152
    · refine x_bipush (v := 15) dX12_changed_153 (by decide) ?_
      exact x_iret rfl dX12_changed_155
    · refine x_bipush (v := 18) dX12_changed_156 (by decide) ?_
      exact x_iret rfl dX12_changed_158
    · refine x_bipush (v := 17) dX12_changed_159 (by decide) ?_
      exact x_iret rfl dX12_changed_161
    · refine x_bipush (v := 20) dX12_changed_162 (by decide) ?_
      exact x_iret rfl dX12_changed_164
    · refine x_bipush (v := 19) dX12_changed_165 (by decide) ?_
      exact x_iret rfl dX12_changed_167
    · refine x_bipush (v := 30) dX12_changed_168 (by decide) ?_
      exact x_iret rfl dX12_changed_170
    · refine x_bipush (v := 30) dX12_changed_168 (by decide) ?_
      exact x_iret rfl dX12_changed_170
    · refine x_iconst (v := -1) dX12_changed_186 (by decide) ?_
      exact x_iret rfl dX12_changed_187
    · refine x_bipush (v := 31) dX12_changed_171 (by decide) ?_
      exact x_iret rfl dX12_changed_173
    · refine x_iconst (v := -1) dX12_changed_186 (by decide) ?_
      exact x_iret rfl dX12_changed_187
    · refine x_iconst (v := -1) dX12_changed_186 (by decide) ?_
      exact x_iret rfl dX12_changed_187
    · refine x_iconst (v := -1) dX12_changed_186 (by decide) ?_
      exact x_iret rfl dX12_changed_187
    · refine x_bipush (v := 9) dX12_changed_174 (by decide) ?_
      exact x_iret rfl dX12_changed_176
    · refine x_bipush (v := 9) dX12_changed_174 (by decide) ?_
      exact x_iret rfl dX12_changed_176
  · refine x_iconst (v := -1) dX12_changed_186 (by decide) ?_
    exact x_iret rfl dX12_changed_187
theorem s233 {l : Launch} {d : Nat} {rec : Nat → List Value → Mem → XA} (hS : Nonempty XS) (hs : XSnd l xmt rec d) : Snd1 l 233 (b233 rec) d := by
  intro as M r M' h0
  unfold b233 at h0
  obtain ⟨a0, l1, e1, h1⟩ := aI_inv h0
  obtain ⟨ez, h⟩ := aZ_inv h1
  subst ez
  subst e1
  exact xmet (M := M) (as := [.int a0]) (lo := [some (.int a0)]) 233 xq233 xm233 (by rw [xargs_i, xargs_nil]; exact ⟨rfl, trivial⟩) (by rw [xargs_i, xargs_nil]; exact Nat.le_of_ble_eq_true rfl) (fun S G K => x_weak (by exact ⟨rfl, trivial⟩) (k233 hs a0 M)) h hS
set_option maxRecDepth 100000 in
def c234 (rec : Nat → List Value → Mem → XA) (a0 : Option Nat) (M0 : Mem) : XA :=
  gtI (13, 157) M0 a0 65 fun x1 =>
  some (.int x1, M0)
def b234 (rec : Nat → List Value → Mem → XA) (as : List Value) (M0 : Mem) : XA := aR as fun a0 as => aZ as (c234 rec a0 M0)
set_option maxRecDepth 100000 in
set_option maxHeartbeats 4000000 in
theorem k234 {S : XS} {G : XG} {K : Nat × Nat} {l : Launch} {d : Nat} {rec : Nat → List Value → Mem → XA} (hs : XSnd l xmt rec d) (a0 : Option Nat) (M0 : Mem) : Xe S G K l (yX12_fault, cX12_fault, 1, some .int) d 0 [some (va_rf a0)] [] M0 (c234 rec a0 M0) := by
  unfold c234
  refine x_aload_n dX12_fault_0 rfl ?_
  refine gfX12_591 rfl dX12_fault_1 (fun x1 => ?_)
  exact x_iret rfl dX12_fault_4
theorem s234 {l : Launch} {d : Nat} {rec : Nat → List Value → Mem → XA} (hS : Nonempty XS) (hs : XSnd l xmt rec d) : Snd1 l 234 (b234 rec) d := by
  intro as M r M' h0
  unfold b234 at h0
  obtain ⟨a0, l1, e1, h1⟩ := aR_inv h0
  obtain ⟨ez, h⟩ := aZ_inv h1
  subst ez
  subst e1
  exact xmet (M := M) (as := [va_rf a0]) (lo := [some (va_rf a0)]) 234 xq234 xm234 (by rw [xargs_rf, xargs_nil]; exact ⟨rfl, trivial⟩) (by rw [xargs_rf, xargs_nil]; exact Nat.le_of_ble_eq_true rfl) (fun S G K => x_weak (by exact ⟨rfl, trivial⟩) (k234 hs a0 M)) h hS
set_option maxRecDepth 100000 in
def c235 (rec : Nat → List Value → Mem → XA) (a0 : Option Nat) (a1 : Int32) (a2 : Int32) (M0 : Mem) : XA :=
  ptI (13, 157) M0 a0 66 a1 fun M1 =>
  ptI (13, 157) M1 a0 67 a2 fun M2 =>
  lp (fun (s3 : Int32 × Mem) j12 =>
    gtP (13, 157) s3.2 a0 3 fun x4 =>
    alI 100 s3.2 x4 a1 fun x5 =>
    if x5 ≤ s3.1 then (
      lp (fun (s6 : Int32 × Mem) j60 =>
        gtP (13, 157) s6.2 a0 10 fun x7 =>
        alI 100 s6.2 x7 a1 fun x8 =>
        if x8 ≤ s6.1 then (
          lp (fun (s9 : Int32 × Mem) j114 =>
            jn (fun (s10 : Unit) =>
              some (.null, s9.2)) fun j173 =>
            if a2 < 0 then (
              j173 ()) else (
              gtP (13, 157) s9.2 a0 10 fun x11 =>
              alI 100 s9.2 x11 a2 fun x12 =>
              if x12 ≤ s9.1 then (
                j173 ()) else (
                gtP (13, 157) s9.2 a0 70 fun x13 =>
                gtP (13, 157) s9.2 a0 13 fun x14 =>
                alI 100 s9.2 x14 ((((96 : Int32)) * a2) + s9.1) fun x15 =>
                jn (fun (s16 : Int32) =>
                  asI 100 s9.2 x13 (((96 : Int32)) + s9.1) s16 fun M17 =>
                  lt (s9.1 + (1 : Int32)) fun (x18 : Int32) =>
                  j114 (x18, M17)) fun j166 =>
                if x15 = ((2 : Int32)) then (
                  gtP (13, 157) s9.2 a0 15 fun x19 =>
                  alI 100 s9.2 x19 ((((96 : Int32)) * a2) + s9.1) fun x20 =>
                  j166 x20) else (
                  j166 ((0 : Int32)))))) 4294967296 ((0 : Int32), s6.2)) else (
          gtP (13, 157) s6.2 a0 70 fun x21 =>
          gtP (13, 157) s6.2 a0 13 fun x22 =>
          alI 100 s6.2 x22 ((((96 : Int32)) * a1) + s6.1) fun x23 =>
          jn (fun (s24 : Int32) =>
            asI 100 s6.2 x21 s6.1 s24 fun M25 =>
            lt (s6.1 + (1 : Int32)) fun (x26 : Int32) =>
            j60 (x26, M25)) fun j105 =>
          if x23 = ((2 : Int32)) then (
            gtP (13, 157) s6.2 a0 15 fun x27 =>
            alI 100 s6.2 x27 ((((96 : Int32)) * a1) + s6.1) fun x28 =>
            j105 x28) else (
            j105 ((0 : Int32))))) 4294967296 ((0 : Int32), s3.2)) else (
      gtP (13, 157) s3.2 a0 68 fun x29 =>
      jn (fun (s30 : Int32 × Mem) =>
        asI 100 s30.2 x29 s3.1 s30.1 fun M31 =>
        lt (s3.1 + (1 : Int32)) fun (x32 : Int32) =>
        j12 (x32, M31)) fun j51 =>
      if 0 ≤ a2 then (
        gtP (13, 157) s3.2 a0 4 fun x33 =>
        alL s3.2 x33 ((((8 : Int32)) * a1) + s3.1) fun x34 =>
        vC (13, 157) s3.2 a0 <|
        cI (rec 227 [va_rf a0, .int a2, .long x34] s3.2) fun x36 M35 =>
        j51 (x36, M35)) else (
        j51 ((-1 : Int32), s3.2)))) 4294967296 ((0 : Int32), M2)
def b235 (rec : Nat → List Value → Mem → XA) (as : List Value) (M0 : Mem) : XA := aR as fun a0 as => aI as fun a1 as => aI as fun a2 as => aZ as (c235 rec a0 a1 a2 M0)
set_option maxRecDepth 100000 in
set_option maxHeartbeats 4000000 in
theorem k235 {S : XS} {G : XG} {K : Nat × Nat} {l : Launch} {d : Nat} {rec : Nat → List Value → Mem → XA} (hs : XSnd l xmt rec d) (a0 : Option Nat) (a1 : Int32) (a2 : Int32) (M0 : Mem) : Xe S G K l (yX12_machine, cX12_machine, 4, none) d 0 [some (va_rf a0), some (.int a1), some (.int a2), none] [] M0 (c235 rec a0 a1 a2 M0) := by
  unfold c235
  refine x_aload_n dX12_machine_0 rfl ?_
  refine x_iload_n dX12_machine_1 rfl ?_
  refine pfX12_600 rfl dX12_machine_2 (fun M1 => ?_)
  refine x_aload_n dX12_machine_5 rfl ?_
  refine x_iload_n dX12_machine_6 rfl ?_
  refine pfX12_603 rfl dX12_machine_7 (fun M2 => ?_)
  refine x_iconst (v := 0) dX12_machine_10 (by decide) ?_
  refine x_istore_n (lo' := [some (va_rf a0), some (.int a1), some (.int a2), some (.int ((0 : Int32)))]) dX12_machine_11 (by decide) rfl rfl ?_
  refine x_weak (by exact ⟨rfl, ⟨rfl, ⟨rfl, ⟨rfl, trivial⟩⟩⟩⟩) (x_lp (σ := Int32 × Mem) 12 (fun s3 => [some (va_rf a0), some (.int a1), some (.int a2), some (.int s3.1)]) (fun s3 => []) (fun s3 => s3.2) (fun s3 j12 hj12 => ?_) 4294967296 ((0 : Int32), M2))
  · refine x_iload_n dX12_machine_12 rfl ?_
    refine x_aload_n dX12_machine_13 rfl ?_
    refine gfX12_13 rfl dX12_machine_14 (fun x4 => ?_)
    refine x_iload_n dX12_machine_17 rfl ?_
    refine x_iald dX12_machine_18 (fun x5 => ?_)
    refine x_icmp_ge (tgt := 58) dX12_machine_19 (by decide) (fun _ => ?_) (fun _ => ?_)
    · refine x_iconst (v := 0) dX12_machine_58 (by decide) ?_
      refine x_istore_n (lo' := [some (va_rf a0), some (.int a1), some (.int a2), some (.int ((0 : Int32)))]) dX12_machine_59 (by decide) rfl rfl ?_
      refine x_weak (by exact ⟨rfl, ⟨rfl, ⟨rfl, ⟨rfl, trivial⟩⟩⟩⟩) (x_lp (σ := Int32 × Mem) 60 (fun s6 => [some (va_rf a0), some (.int a1), some (.int a2), some (.int s6.1)]) (fun s6 => []) (fun s6 => s6.2) (fun s6 j60 hj60 => ?_) 4294967296 ((0 : Int32), s3.2))
      · refine x_iload_n dX12_machine_60 rfl ?_
        refine x_aload_n dX12_machine_61 rfl ?_
        refine gfX12_36 rfl dX12_machine_62 (fun x7 => ?_)
        refine x_iload_n dX12_machine_65 rfl ?_
        refine x_iald dX12_machine_66 (fun x8 => ?_)
        refine x_icmp_ge (tgt := 112) dX12_machine_67 (by decide) (fun _ => ?_) (fun _ => ?_)
        · refine x_iconst (v := 0) dX12_machine_112 (by decide) ?_
          refine x_istore_n (lo' := [some (va_rf a0), some (.int a1), some (.int a2), some (.int ((0 : Int32)))]) dX12_machine_113 (by decide) rfl rfl ?_
          refine x_weak (by exact ⟨rfl, ⟨rfl, ⟨rfl, trivial⟩⟩⟩) (x_lp (σ := Int32 × Mem) 114 (fun s9 => [some (va_rf a0), none, some (.int a2), some (.int s9.1)]) (fun s9 => []) (fun s9 => s9.2) (fun s9 j114 hj114 => ?_) 4294967296 ((0 : Int32), s6.2))
          · refine x_iload_n dX12_machine_114 rfl ?_
            refine x_jn (σ := Unit) 173 (fun s10 => [none, none, none, none]) (fun s10 => []) (fun s10 => s9.2) (fun s10 => ?_) (fun j173 hj173 => ?_)
            · exact x_vret rfl dX12_machine_173
            refine x_if_lt (tgt := 173) dX12_machine_115 (by decide) (fun _ => ?_) (fun _ => ?_)
            · exact x_weak (by exact trivial) (hj173 ())
            · refine x_iload_n dX12_machine_118 rfl ?_
              refine x_aload_n dX12_machine_119 rfl ?_
              refine gfX12_36 rfl dX12_machine_120 (fun x11 => ?_)
              refine x_iload_n dX12_machine_123 rfl ?_
              refine x_iald dX12_machine_124 (fun x12 => ?_)
              refine x_icmp_ge (tgt := 173) dX12_machine_125 (by decide) (fun _ => ?_) (fun _ => ?_)
              · exact x_weak (by exact trivial) (hj173 ())
              · refine x_aload_n dX12_machine_128 rfl ?_
                refine gfX12_224 rfl dX12_machine_129 (fun x13 => ?_)
                refine x_bipush (v := 96) dX12_machine_132 (by decide) ?_
                refine x_iload_n dX12_machine_134 rfl ?_
                refine x_iadd dX12_machine_135 ?_
                refine x_aload_n dX12_machine_136 rfl ?_
                refine gfX12_45 rfl dX12_machine_137 (fun x14 => ?_)
                refine x_bipush (v := 96) dX12_machine_140 (by decide) ?_
                refine x_iload_n dX12_machine_142 rfl ?_
                refine x_imul dX12_machine_143 ?_
                refine x_iload_n dX12_machine_144 rfl ?_
                refine x_iadd dX12_machine_145 ?_
                refine x_iald dX12_machine_146 (fun x15 => ?_)
                refine x_iconst (v := 2) dX12_machine_147 (by decide) ?_
                refine x_jn (σ := Int32) 166 (fun s16 => [some (va_rf a0), none, some (.int a2), some (.int s9.1)]) (fun s16 => [.int s16, .int (((96 : Int32)) + s9.1), va_rf x13]) (fun s16 => s9.2) (fun s16 => ?_) (fun j166 hj166 => ?_)
                · refine x_iast dX12_machine_166 (fun M17 => ?_)
                  refine x_iincN (v := 1) (lo' := fun x18 => [some (va_rf a0), none, some (.int a2), some (.int x18)]) (by decide) dX12_machine_167 rfl (by decide) rfl (fun _ => rfl) (fun x18 => ?_)
                  refine x_goto (tgt := 114) dX12_machine_170 (by decide) ?_
                  exact x_weak (by exact ⟨rfl, ⟨rfl, ⟨rfl, trivial⟩⟩⟩) (hj114 (x18, M17))
                refine x_icmp_ne (tgt := 165) dX12_machine_148 (by decide) (fun _ => ?_) (fun _ => ?_)
                · refine x_aload_n dX12_machine_151 rfl ?_
                  refine gfX12_52 rfl dX12_machine_152 (fun x19 => ?_)
                  refine x_bipush (v := 96) dX12_machine_155 (by decide) ?_
                  refine x_iload_n dX12_machine_157 rfl ?_
                  refine x_imul dX12_machine_158 ?_
                  refine x_iload_n dX12_machine_159 rfl ?_
                  refine x_iadd dX12_machine_160 ?_
                  refine x_iald dX12_machine_161 (fun x20 => ?_)
                  refine x_goto (tgt := 166) dX12_machine_162 (by decide) ?_
                  exact x_weak (by exact ⟨rfl, ⟨rfl, ⟨rfl, trivial⟩⟩⟩) (hj166 x20)
                · refine x_iconst (v := 0) dX12_machine_165 (by decide) ?_
                  exact x_weak (by exact ⟨rfl, ⟨rfl, ⟨rfl, trivial⟩⟩⟩) (hj166 ((0 : Int32)))
        · refine x_aload_n dX12_machine_70 rfl ?_
          refine gfX12_224 rfl dX12_machine_71 (fun x21 => ?_)
          refine x_iload_n dX12_machine_74 rfl ?_
          refine x_aload_n dX12_machine_75 rfl ?_
          refine gfX12_45 rfl dX12_machine_76 (fun x22 => ?_)
          refine x_bipush (v := 96) dX12_machine_79 (by decide) ?_
          refine x_iload_n dX12_machine_81 rfl ?_
          refine x_imul dX12_machine_82 ?_
          refine x_iload_n dX12_machine_83 rfl ?_
          refine x_iadd dX12_machine_84 ?_
          refine x_iald dX12_machine_85 (fun x23 => ?_)
          refine x_iconst (v := 2) dX12_machine_86 (by decide) ?_
          refine x_jn (σ := Int32) 105 (fun s24 => [some (va_rf a0), some (.int a1), some (.int a2), some (.int s6.1)]) (fun s24 => [.int s24, .int s6.1, va_rf x21]) (fun s24 => s6.2) (fun s24 => ?_) (fun j105 hj105 => ?_)
          · refine x_iast dX12_machine_105 (fun M25 => ?_)
            refine x_iincN (v := 1) (lo' := fun x26 => [some (va_rf a0), some (.int a1), some (.int a2), some (.int x26)]) (by decide) dX12_machine_106 rfl (by decide) rfl (fun _ => rfl) (fun x26 => ?_)
            refine x_goto (tgt := 60) dX12_machine_109 (by decide) ?_
            exact x_weak (by exact ⟨rfl, ⟨rfl, ⟨rfl, ⟨rfl, trivial⟩⟩⟩⟩) (hj60 (x26, M25))
          refine x_icmp_ne (tgt := 104) dX12_machine_87 (by decide) (fun _ => ?_) (fun _ => ?_)
          · refine x_aload_n dX12_machine_90 rfl ?_
            refine gfX12_52 rfl dX12_machine_91 (fun x27 => ?_)
            refine x_bipush (v := 96) dX12_machine_94 (by decide) ?_
            refine x_iload_n dX12_machine_96 rfl ?_
            refine x_imul dX12_machine_97 ?_
            refine x_iload_n dX12_machine_98 rfl ?_
            refine x_iadd dX12_machine_99 ?_
            refine x_iald dX12_machine_100 (fun x28 => ?_)
            refine x_goto (tgt := 105) dX12_machine_101 (by decide) ?_
            exact x_weak (by exact ⟨rfl, ⟨rfl, ⟨rfl, ⟨rfl, trivial⟩⟩⟩⟩) (hj105 x28)
          · refine x_iconst (v := 0) dX12_machine_104 (by decide) ?_
            exact x_weak (by exact ⟨rfl, ⟨rfl, ⟨rfl, ⟨rfl, trivial⟩⟩⟩⟩) (hj105 ((0 : Int32)))
    · refine x_aload_n dX12_machine_22 rfl ?_
      refine gfX12_218 rfl dX12_machine_23 (fun x29 => ?_)
      refine x_iload_n dX12_machine_26 rfl ?_
      refine x_iload_n dX12_machine_27 rfl ?_
      refine x_jn (σ := Int32 × Mem) 51 (fun s30 => [some (va_rf a0), some (.int a1), some (.int a2), some (.int s3.1)]) (fun s30 => [.int s30.1, .int s3.1, va_rf x29]) (fun s30 => s30.2) (fun s30 => ?_) (fun j51 hj51 => ?_)
      · refine x_iast dX12_machine_51 (fun M31 => ?_)
        refine x_iincN (v := 1) (lo' := fun x32 => [some (va_rf a0), some (.int a1), some (.int a2), some (.int x32)]) (by decide) dX12_machine_52 rfl (by decide) rfl (fun _ => rfl) (fun x32 => ?_)
        refine x_goto (tgt := 12) dX12_machine_55 (by decide) ?_
        exact x_weak (by exact ⟨rfl, ⟨rfl, ⟨rfl, ⟨rfl, trivial⟩⟩⟩⟩) (hj12 (x32, M31))
      refine x_if_ge (tgt := 35) dX12_machine_28 (by decide) (fun _ => ?_) (fun _ => ?_)
      · refine x_aload_n dX12_machine_35 rfl ?_
        refine x_iload_n dX12_machine_36 rfl ?_
        refine x_aload_n dX12_machine_37 rfl ?_
        refine gfX12_17 rfl dX12_machine_38 (fun x33 => ?_)
        refine x_bipush (v := 8) dX12_machine_41 (by decide) ?_
        refine x_iload_n dX12_machine_43 rfl ?_
        refine x_imul dX12_machine_44 ?_
        refine x_iload_n dX12_machine_45 rfl ?_
        refine x_iadd dX12_machine_46 ?_
        refine x_lald dX12_machine_47 (fun x34 => ?_)
        refine cmX12_571 rfl hs (Nat.le_of_ble_eq_true rfl) dX12_machine_48 (fun x36 M35 => ?_)
        exact x_weak (by exact ⟨rfl, ⟨rfl, ⟨rfl, ⟨rfl, trivial⟩⟩⟩⟩) (hj51 (x36, M35))
      · refine x_iconst (v := -1) dX12_machine_31 (by decide) ?_
        refine x_goto (tgt := 51) dX12_machine_32 (by decide) ?_
        exact x_weak (by exact ⟨rfl, ⟨rfl, ⟨rfl, ⟨rfl, trivial⟩⟩⟩⟩) (hj51 ((-1 : Int32), s3.2))
theorem s235 {l : Launch} {d : Nat} {rec : Nat → List Value → Mem → XA} (hS : Nonempty XS) (hs : XSnd l xmt rec d) : Snd1 l 235 (b235 rec) d := by
  intro as M r M' h0
  unfold b235 at h0
  obtain ⟨a0, l1, e1, h1⟩ := aR_inv h0
  obtain ⟨a1, l2, e2, h2⟩ := aI_inv h1
  obtain ⟨a2, l3, e3, h3⟩ := aI_inv h2
  obtain ⟨ez, h⟩ := aZ_inv h3
  subst ez
  subst e3
  subst e2
  subst e1
  exact xmet (M := M) (as := [va_rf a0, .int a1, .int a2]) (lo := [some (va_rf a0), some (.int a1), some (.int a2)]) 235 xq235 xm235 (by rw [xargs_rf, xargs_i, xargs_i, xargs_nil]; exact ⟨rfl, ⟨rfl, ⟨rfl, trivial⟩⟩⟩) (by rw [xargs_rf, xargs_i, xargs_i, xargs_nil]; exact Nat.le_of_ble_eq_true rfl) (fun S G K => x_weak (by exact ⟨rfl, ⟨rfl, ⟨rfl, trivial⟩⟩⟩) (k235 hs a0 a1 a2 M)) h hS
set_option maxRecDepth 100000 in
def c236 (rec : Nat → List Value → Mem → XA) (a0 : Option Nat) (a1 : Int32) (M0 : Mem) : XA :=
  jn (fun (s1 : Int32) =>
    some (.int s1, M0)) fun j29 =>
  if ((96 : Int32)) ≤ a1 then (
    gtI (13, 157) M0 a0 67 fun x2 =>
    j29 ((((96 : Int32)) * (x2 - ((1 : Int32)))) + a1)) else (
    gtI (13, 157) M0 a0 66 fun x3 =>
    j29 ((((96 : Int32)) * x3) + a1))
def b236 (rec : Nat → List Value → Mem → XA) (as : List Value) (M0 : Mem) : XA := aR as fun a0 as => aI as fun a1 as => aZ as (c236 rec a0 a1 M0)
set_option maxRecDepth 100000 in
set_option maxHeartbeats 4000000 in
theorem k236 {S : XS} {G : XG} {K : Nat × Nat} {l : Launch} {d : Nat} {rec : Nat → List Value → Mem → XA} (hs : XSnd l xmt rec d) (a0 : Option Nat) (a1 : Int32) (M0 : Mem) : Xe S G K l (yX12_rowOf, cX12_rowOf, 2, some .int) d 0 [some (va_rf a0), some (.int a1)] [] M0 (c236 rec a0 a1 M0) := by
  unfold c236
  refine x_iload_n dX12_rowOf_0 rfl ?_
  refine x_bipush (v := 96) dX12_rowOf_1 (by decide) ?_
  refine x_jn (σ := Int32) 29 (fun s1 => [none, none]) (fun s1 => [.int s1]) (fun s1 => M0) (fun s1 => ?_) (fun j29 hj29 => ?_)
  · exact x_iret rfl dX12_rowOf_29
  refine x_icmp_ge (tgt := 18) dX12_rowOf_3 (by decide) (fun _ => ?_) (fun _ => ?_)
  · refine x_bipush (v := 96) dX12_rowOf_18 (by decide) ?_
    refine x_aload_n dX12_rowOf_20 rfl ?_
    refine gfX12_603 rfl dX12_rowOf_21 (fun x2 => ?_)
    refine x_iconst (v := 1) dX12_rowOf_24 (by decide) ?_
    refine x_isub dX12_rowOf_25 ?_
    refine x_imul dX12_rowOf_26 ?_
    refine x_iload_n dX12_rowOf_27 rfl ?_
    refine x_iadd dX12_rowOf_28 ?_
    exact x_weak (by exact trivial) (hj29 ((((96 : Int32)) * (x2 - ((1 : Int32)))) + a1))
  · refine x_bipush (v := 96) dX12_rowOf_6 (by decide) ?_
    refine x_aload_n dX12_rowOf_8 rfl ?_
    refine gfX12_600 rfl dX12_rowOf_9 (fun x3 => ?_)
    refine x_imul dX12_rowOf_12 ?_
    refine x_iload_n dX12_rowOf_13 rfl ?_
    refine x_iadd dX12_rowOf_14 ?_
    refine x_goto (tgt := 29) dX12_rowOf_15 (by decide) ?_
    exact x_weak (by exact trivial) (hj29 ((((96 : Int32)) * x3) + a1))
theorem s236 {l : Launch} {d : Nat} {rec : Nat → List Value → Mem → XA} (hS : Nonempty XS) (hs : XSnd l xmt rec d) : Snd1 l 236 (b236 rec) d := by
  intro as M r M' h0
  unfold b236 at h0
  obtain ⟨a0, l1, e1, h1⟩ := aR_inv h0
  obtain ⟨a1, l2, e2, h2⟩ := aI_inv h1
  obtain ⟨ez, h⟩ := aZ_inv h2
  subst ez
  subst e2
  subst e1
  exact xmet (M := M) (as := [va_rf a0, .int a1]) (lo := [some (va_rf a0), some (.int a1)]) 236 xq236 xm236 (by rw [xargs_rf, xargs_i, xargs_nil]; exact ⟨rfl, ⟨rfl, trivial⟩⟩) (by rw [xargs_rf, xargs_i, xargs_nil]; exact Nat.le_of_ble_eq_true rfl) (fun S G K => x_weak (by exact ⟨rfl, ⟨rfl, trivial⟩⟩) (k236 hs a0 a1 M)) h hS
set_option maxRecDepth 100000 in
def c237 (rec : Nat → List Value → Mem → XA) (a0 : Option Nat) (a1 : Int32) (a2 : Int32) (a3 : Int32) (a4 : Int32) (M0 : Mem) : XA :=
  lt ((((96 : Int32)) * a1) + a2) fun (x1 : Int32) =>
  gtP (13, 157) M0 a0 11 fun x2 =>
  alL M0 x2 x1 fun x3 =>
  vC (13, 157) M0 a0 <|
  cI (rec 228 [va_rf a0, .int a3, .int a4, .long x3] M0) fun x5 M4 =>
  if 0 ≤ x5 then (
    lt ((((96 : Int32)) * a3) + x5) fun (x6 : Int32) =>
    gtP (13, 157) M4 a0 13 fun x7 =>
    alI 100 M4 x7 x6 fun x8 =>
    gtP (13, 157) M4 a0 13 fun x9 =>
    alI 100 M4 x9 x1 fun x10 =>
    if x8 = x10 then (
      gtP (13, 157) M4 a0 14 fun x11 =>
      alX 102 M4 x11 x6 fun x12 =>
      if x12 = 0 then (
        gtP (13, 157) M4 a0 13 fun x13 =>
        alI 100 M4 x13 x6 fun x14 =>
        jn (fun (s15 : Int32) =>
          some (.int s15, M4)) fun j112 =>
        jn (fun (s16 : Unit) =>
          j112 (((96 : Int32)) + x5)) fun j107 =>
        if x14 = ((4 : Int32)) then (
          gtP (13, 157) M4 a0 15 fun x17 =>
          alI 100 M4 x17 x6 fun x18 =>
          gtP (13, 157) M4 a0 15 fun x19 =>
          alI 100 M4 x19 x1 fun x20 =>
          if x18 = x20 then (
            j107 ()) else (
            j112 ((-13 : Int32)))) else (
          j107 ())) else (
        some (.int ((-12 : Int32)), M4))) else (
      some (.int ((-11 : Int32)), M4))) else (
    some (.int ((-10 : Int32)), M4))
def b237 (rec : Nat → List Value → Mem → XA) (as : List Value) (M0 : Mem) : XA := aR as fun a0 as => aI as fun a1 as => aI as fun a2 as => aI as fun a3 as => aI as fun a4 as => aZ as (c237 rec a0 a1 a2 a3 a4 M0)
set_option maxRecDepth 100000 in
set_option maxHeartbeats 4000000 in
theorem k237 {S : XS} {G : XG} {K : Nat × Nat} {l : Launch} {d : Nat} {rec : Nat → List Value → Mem → XA} (hs : XSnd l xmt rec d) (a0 : Option Nat) (a1 : Int32) (a2 : Int32) (a3 : Int32) (a4 : Int32) (M0 : Mem) : Xe S G K l (yX12_lookedUp, cX12_lookedUp, 8, some .int) d 0 [some (va_rf a0), some (.int a1), some (.int a2), some (.int a3), some (.int a4), none, none, none] [] M0 (c237 rec a0 a1 a2 a3 a4 M0) := by
  unfold c237
  refine x_bipush (v := 96) dX12_lookedUp_0 (by decide) ?_
  refine x_iload_n dX12_lookedUp_2 rfl ?_
  refine x_imul dX12_lookedUp_3 ?_
  refine x_iload_n dX12_lookedUp_4 rfl ?_
  refine x_iadd dX12_lookedUp_5 ?_
  refine x_ltI (fun x1 => ?_)
  refine x_istore (lo' := [some (va_rf a0), some (.int a1), some (.int a2), some (.int a3), some (.int a4), some (.int x1), none, none]) dX12_lookedUp_6 (by decide) rfl rfl ?_
  refine x_aload_n dX12_lookedUp_8 rfl ?_
  refine x_iload_n dX12_lookedUp_9 rfl ?_
  refine x_iload dX12_lookedUp_10 rfl ?_
  refine x_aload_n dX12_lookedUp_12 rfl ?_
  refine gfX12_39 rfl dX12_lookedUp_13 (fun x2 => ?_)
  refine x_iload dX12_lookedUp_16 rfl ?_
  refine x_lald dX12_lookedUp_18 (fun x3 => ?_)
  refine cmX12_578 rfl hs (Nat.le_of_ble_eq_true rfl) dX12_lookedUp_19 (fun x5 M4 => ?_)
  refine x_istore (lo' := [some (va_rf a0), some (.int a1), some (.int a2), some (.int a3), some (.int a4), some (.int x1), some (.int x5), none]) dX12_lookedUp_22 (by decide) rfl rfl ?_
  refine x_iload dX12_lookedUp_24 rfl ?_
  refine x_if_ge (tgt := 32) dX12_lookedUp_26 (by decide) (fun _ => ?_) (fun _ => ?_)
  · refine x_bipush (v := 96) dX12_lookedUp_32 (by decide) ?_
    refine x_iload_n dX12_lookedUp_34 rfl ?_
    refine x_imul dX12_lookedUp_35 ?_
    refine x_iload dX12_lookedUp_36 rfl ?_
    refine x_iadd dX12_lookedUp_38 ?_
    refine x_ltI (fun x6 => ?_)
    refine x_istore (lo' := [some (va_rf a0), some (.int a1), some (.int a2), some (.int a3), some (.int a4), some (.int x1), some (.int x5), some (.int x6)]) dX12_lookedUp_39 (by decide) rfl rfl ?_
    refine x_aload_n dX12_lookedUp_41 rfl ?_
    refine gfX12_45 rfl dX12_lookedUp_42 (fun x7 => ?_)
    refine x_iload dX12_lookedUp_45 rfl ?_
    refine x_iald dX12_lookedUp_47 (fun x8 => ?_)
    refine x_aload_n dX12_lookedUp_48 rfl ?_
    refine gfX12_45 rfl dX12_lookedUp_49 (fun x9 => ?_)
    refine x_iload dX12_lookedUp_52 rfl ?_
    refine x_iald dX12_lookedUp_54 (fun x10 => ?_)
    refine x_icmp_eq (tgt := 61) dX12_lookedUp_55 (by decide) (fun _ => ?_) (fun _ => ?_)
    · refine x_aload_n dX12_lookedUp_61 rfl ?_
      refine gfX12_48 rfl dX12_lookedUp_62 (fun x11 => ?_)
      refine x_iload dX12_lookedUp_65 rfl ?_
      refine x_zald dX12_lookedUp_67 (fun x12 => ?_)
      refine x_if_eq (tgt := 74) dX12_lookedUp_68 (by decide) (fun _ => ?_) (fun _ => ?_)
      · refine x_aload_n dX12_lookedUp_74 rfl ?_
        refine gfX12_45 rfl dX12_lookedUp_75 (fun x13 => ?_)
        refine x_iload dX12_lookedUp_78 rfl ?_
        refine x_iald dX12_lookedUp_80 (fun x14 => ?_)
        refine x_iconst (v := 4) dX12_lookedUp_81 (by decide) ?_
        refine x_jn (σ := Int32) 112 (fun s15 => [none, none, none, none, none, none, none, none]) (fun s15 => [.int s15]) (fun s15 => M4) (fun s15 => ?_) (fun j112 hj112 => ?_)
        · exact x_iret rfl dX12_lookedUp_112
        refine x_jn (σ := Unit) 107 (fun s16 => [none, none, none, none, none, none, some (.int x5), none]) (fun s16 => []) (fun s16 => M4) (fun s16 => ?_) (fun j107 hj107 => ?_)
        · refine x_bipush (v := 96) dX12_lookedUp_107 (by decide) ?_
          refine x_iload dX12_lookedUp_109 rfl ?_
          refine x_iadd dX12_lookedUp_111 ?_
          exact x_weak (by exact trivial) (hj112 (((96 : Int32)) + x5))
        refine x_icmp_ne (tgt := 107) dX12_lookedUp_82 (by decide) (fun _ => ?_) (fun _ => ?_)
        · refine x_aload_n dX12_lookedUp_85 rfl ?_
          refine gfX12_52 rfl dX12_lookedUp_86 (fun x17 => ?_)
          refine x_iload dX12_lookedUp_89 rfl ?_
          refine x_iald dX12_lookedUp_91 (fun x18 => ?_)
          refine x_aload_n dX12_lookedUp_92 rfl ?_
          refine gfX12_52 rfl dX12_lookedUp_93 (fun x19 => ?_)
          refine x_iload dX12_lookedUp_96 rfl ?_
          refine x_iald dX12_lookedUp_98 (fun x20 => ?_)
          refine x_icmp_eq (tgt := 107) dX12_lookedUp_99 (by decide) (fun _ => ?_) (fun _ => ?_)
          · exact x_weak (by exact ⟨rfl, trivial⟩) (hj107 ())
          · refine x_bipush (v := -13) dX12_lookedUp_102 (by decide) ?_
            refine x_goto (tgt := 112) dX12_lookedUp_104 (by decide) ?_
            exact x_weak (by exact trivial) (hj112 ((-13 : Int32)))
        · exact x_weak (by exact ⟨rfl, trivial⟩) (hj107 ())
      · refine x_bipush (v := -12) dX12_lookedUp_71 (by decide) ?_
        exact x_iret rfl dX12_lookedUp_73
    · refine x_bipush (v := -11) dX12_lookedUp_58 (by decide) ?_
      exact x_iret rfl dX12_lookedUp_60
  · refine x_bipush (v := -10) dX12_lookedUp_29 (by decide) ?_
    exact x_iret rfl dX12_lookedUp_31
theorem s237 {l : Launch} {d : Nat} {rec : Nat → List Value → Mem → XA} (hS : Nonempty XS) (hs : XSnd l xmt rec d) : Snd1 l 237 (b237 rec) d := by
  intro as M r M' h0
  unfold b237 at h0
  obtain ⟨a0, l1, e1, h1⟩ := aR_inv h0
  obtain ⟨a1, l2, e2, h2⟩ := aI_inv h1
  obtain ⟨a2, l3, e3, h3⟩ := aI_inv h2
  obtain ⟨a3, l4, e4, h4⟩ := aI_inv h3
  obtain ⟨a4, l5, e5, h5⟩ := aI_inv h4
  obtain ⟨ez, h⟩ := aZ_inv h5
  subst ez
  subst e5
  subst e4
  subst e3
  subst e2
  subst e1
  exact xmet (M := M) (as := [va_rf a0, .int a1, .int a2, .int a3, .int a4]) (lo := [some (va_rf a0), some (.int a1), some (.int a2), some (.int a3), some (.int a4)]) 237 xq237 xm237 (by rw [xargs_rf, xargs_i, xargs_i, xargs_i, xargs_i, xargs_nil]; exact ⟨rfl, ⟨rfl, ⟨rfl, ⟨rfl, ⟨rfl, trivial⟩⟩⟩⟩⟩) (by rw [xargs_rf, xargs_i, xargs_i, xargs_i, xargs_i, xargs_nil]; exact Nat.le_of_ble_eq_true rfl) (fun S G K => x_weak (by exact ⟨rfl, ⟨rfl, ⟨rfl, ⟨rfl, ⟨rfl, trivial⟩⟩⟩⟩⟩) (k237 hs a0 a1 a2 a3 a4 M)) h hS
set_option maxRecDepth 100000 in
def c238 (rec : Nat → List Value → Mem → XA) (a0 : Option Nat) (a1 : Int32) (M0 : Mem) : XA :=
  if a1 < ((1000 : Int32)) then (
    gtP (13, 157) M0 a0 31 fun x1 =>
    gtI (13, 157) M0 a0 66 fun x2 =>
    alI 100 M0 x1 ((((1000 : Int32)) * x2) + a1) fun x3 =>
    gtP (13, 157) M0 a0 68 fun x4 =>
    gtP (13, 157) M0 a0 12 fun x5 =>
    gtI (13, 157) M0 a0 66 fun x6 =>
    alI 100 M0 x5 ((((96 : Int32)) * x6) + x3) fun x7 =>
    alI 100 M0 x4 x7 fun x8 =>
    jn (fun (s9 : Int32 × Mem) =>
      some (.int s9.1, s9.2)) fun j86 =>
    if 0 ≤ x8 then (
      gtI (13, 157) M0 a0 66 fun x10 =>
      gtI (13, 157) M0 a0 67 fun x11 =>
      vC (13, 157) M0 a0 <|
      cI (rec 237 [va_rf a0, .int x10, .int x3, .int x11, .int x8] M0) fun x13 M12 =>
      j86 (x13, M12)) else (
      j86 (x3, M0))) else (
    gtP (13, 157) M0 a0 31 fun x14 =>
    gtI (13, 157) M0 a0 67 fun x15 =>
    alI 100 M0 x14 ((((1000 : Int32)) * (x15 - ((1 : Int32)))) + a1) fun x16 =>
    some (.int (((96 : Int32)) + x16), M0))
def b238 (rec : Nat → List Value → Mem → XA) (as : List Value) (M0 : Mem) : XA := aR as fun a0 as => aI as fun a1 as => aZ as (c238 rec a0 a1 M0)
set_option maxRecDepth 100000 in
set_option maxHeartbeats 4000000 in
theorem k238 {S : XS} {G : XG} {K : Nat × Nat} {l : Launch} {d : Nat} {rec : Nat → List Value → Mem → XA} (hs : XSnd l xmt rec d) (a0 : Option Nat) (a1 : Int32) (M0 : Mem) : Xe S G K l (yX12_memberAt, cX12_memberAt, 4, some .int) d 0 [some (va_rf a0), some (.int a1), none, none] [] M0 (c238 rec a0 a1 M0) := by
  unfold c238
  refine x_iload_n dX12_memberAt_0 rfl ?_
  refine x_sipush (v := 1000) dX12_memberAt_1 (by decide) ?_
  refine x_icmp_lt (tgt := 28) dX12_memberAt_4 (by decide) (fun _ => ?_) (fun _ => ?_)
  · refine x_aload_n dX12_memberAt_28 rfl ?_
    refine gfX12_100 rfl dX12_memberAt_29 (fun x1 => ?_)
    refine x_sipush (v := 1000) dX12_memberAt_32 (by decide) ?_
    refine x_aload_n dX12_memberAt_35 rfl ?_
    refine gfX12_600 rfl dX12_memberAt_36 (fun x2 => ?_)
    refine x_imul dX12_memberAt_39 ?_
    refine x_iload_n dX12_memberAt_40 rfl ?_
    refine x_iadd dX12_memberAt_41 ?_
    refine x_iald dX12_memberAt_42 (fun x3 => ?_)
    refine x_istore_n (lo' := [some (va_rf a0), some (.int a1), some (.int x3), none]) dX12_memberAt_43 (by decide) rfl rfl ?_
    refine x_aload_n dX12_memberAt_44 rfl ?_
    refine gfX12_218 rfl dX12_memberAt_45 (fun x4 => ?_)
    refine x_aload_n dX12_memberAt_48 rfl ?_
    refine gfX12_42 rfl dX12_memberAt_49 (fun x5 => ?_)
    refine x_bipush (v := 96) dX12_memberAt_52 (by decide) ?_
    refine x_aload_n dX12_memberAt_54 rfl ?_
    refine gfX12_600 rfl dX12_memberAt_55 (fun x6 => ?_)
    refine x_imul dX12_memberAt_58 ?_
    refine x_iload_n dX12_memberAt_59 rfl ?_
    refine x_iadd dX12_memberAt_60 ?_
    refine x_iald dX12_memberAt_61 (fun x7 => ?_)
    refine x_iald dX12_memberAt_62 (fun x8 => ?_)
    refine x_istore_n (lo' := [some (va_rf a0), some (.int a1), some (.int x3), some (.int x8)]) dX12_memberAt_63 (by decide) rfl rfl ?_
    refine x_iload_n dX12_memberAt_64 rfl ?_
    refine x_jn (σ := Int32 × Mem) 86 (fun s9 => [none, none, none, none]) (fun s9 => [.int s9.1]) (fun s9 => s9.2) (fun s9 => ?_) (fun j86 hj86 => ?_)
    · exact x_iret rfl dX12_memberAt_86
    refine x_if_ge (tgt := 72) dX12_memberAt_65 (by decide) (fun _ => ?_) (fun _ => ?_)
    · refine x_aload_n dX12_memberAt_72 rfl ?_
      refine x_aload_n dX12_memberAt_73 rfl ?_
      refine gfX12_600 rfl dX12_memberAt_74 (fun x10 => ?_)
      refine x_iload_n dX12_memberAt_77 rfl ?_
      refine x_aload_n dX12_memberAt_78 rfl ?_
      refine gfX12_603 rfl dX12_memberAt_79 (fun x11 => ?_)
      refine x_iload_n dX12_memberAt_82 rfl ?_
      refine cmX12_606 rfl hs (Nat.le_of_ble_eq_true rfl) dX12_memberAt_83 (fun x13 M12 => ?_)
      exact x_weak (by exact trivial) (hj86 (x13, M12))
    · refine x_iload_n dX12_memberAt_68 rfl ?_
      refine x_goto (tgt := 86) dX12_memberAt_69 (by decide) ?_
      exact x_weak (by exact trivial) (hj86 (x3, M0))
  · refine x_bipush (v := 96) dX12_memberAt_7 (by decide) ?_
    refine x_aload_n dX12_memberAt_9 rfl ?_
    refine gfX12_100 rfl dX12_memberAt_10 (fun x14 => ?_)
    refine x_sipush (v := 1000) dX12_memberAt_13 (by decide) ?_
    refine x_aload_n dX12_memberAt_16 rfl ?_
    refine gfX12_603 rfl dX12_memberAt_17 (fun x15 => ?_)
    refine x_iconst (v := 1) dX12_memberAt_20 (by decide) ?_
    refine x_isub dX12_memberAt_21 ?_
    refine x_imul dX12_memberAt_22 ?_
    refine x_iload_n dX12_memberAt_23 rfl ?_
    refine x_iadd dX12_memberAt_24 ?_
    refine x_iald dX12_memberAt_25 (fun x16 => ?_)
    refine x_iadd dX12_memberAt_26 ?_
    exact x_iret rfl dX12_memberAt_27
theorem s238 {l : Launch} {d : Nat} {rec : Nat → List Value → Mem → XA} (hS : Nonempty XS) (hs : XSnd l xmt rec d) : Snd1 l 238 (b238 rec) d := by
  intro as M r M' h0
  unfold b238 at h0
  obtain ⟨a0, l1, e1, h1⟩ := aR_inv h0
  obtain ⟨a1, l2, e2, h2⟩ := aI_inv h1
  obtain ⟨ez, h⟩ := aZ_inv h2
  subst ez
  subst e2
  subst e1
  exact xmet (M := M) (as := [va_rf a0, .int a1]) (lo := [some (va_rf a0), some (.int a1)]) 238 xq238 xm238 (by rw [xargs_rf, xargs_i, xargs_nil]; exact ⟨rfl, ⟨rfl, trivial⟩⟩) (by rw [xargs_rf, xargs_i, xargs_nil]; exact Nat.le_of_ble_eq_true rfl) (fun S G K => x_weak (by exact ⟨rfl, ⟨rfl, trivial⟩⟩) (k238 hs a0 a1 M)) h hS
set_option maxRecDepth 100000 in
def c239 (rec : Nat → List Value → Mem → XA) (a0 : Option Nat) (a1 : Int32) (a2 : Int32) (a3 : Int32) (M0 : Mem) : XA :=
  ptZ (13, 157) M0 a0 86 ((1 : Int32)) fun M1 =>
  ptI (13, 157) M1 a0 88 a1 fun M2 =>
  ptI (13, 157) M2 a0 89 a2 fun M3 =>
  ptZ (13, 157) M3 a0 87 a3 fun M4 =>
  some (.null, M4)
def b239 (rec : Nat → List Value → Mem → XA) (as : List Value) (M0 : Mem) : XA := aR as fun a0 as => aI as fun a1 as => aI as fun a2 as => aI as fun a3 as => aZ as (c239 rec a0 a1 a2 a3 M0)
set_option maxRecDepth 100000 in
set_option maxHeartbeats 4000000 in
theorem k239 {S : XS} {G : XG} {K : Nat × Nat} {l : Launch} {d : Nat} {rec : Nat → List Value → Mem → XA} (hs : XSnd l xmt rec d) (a0 : Option Nat) (a1 : Int32) (a2 : Int32) (a3 : Int32) (M0 : Mem) : Xe S G K l (yX12_fails, cX12_fails, 4, none) d 0 [some (va_rf a0), some (.int a1), some (.int a2), some (.int a3)] [] M0 (c239 rec a0 a1 a2 a3 M0) := by
  unfold c239
  refine x_aload_n dX12_fails_0 rfl ?_
  refine x_iconst (v := 1) dX12_fails_1 (by decide) ?_
  refine pfX12_610 rfl dX12_fails_2 (fun M1 => ?_)
  refine x_aload_n dX12_fails_5 rfl ?_
  refine x_iload_n dX12_fails_6 rfl ?_
  refine pfX12_613 rfl dX12_fails_7 (fun M2 => ?_)
  refine x_aload_n dX12_fails_10 rfl ?_
  refine x_iload_n dX12_fails_11 rfl ?_
  refine pfX12_616 rfl dX12_fails_12 (fun M3 => ?_)
  refine x_aload_n dX12_fails_15 rfl ?_
  refine x_iload_n dX12_fails_16 rfl ?_
  refine pfX12_619 rfl dX12_fails_17 (fun M4 => ?_)
  exact x_vret rfl dX12_fails_20
theorem s239 {l : Launch} {d : Nat} {rec : Nat → List Value → Mem → XA} (hS : Nonempty XS) (hs : XSnd l xmt rec d) : Snd1 l 239 (b239 rec) d := by
  intro as M r M' h0
  unfold b239 at h0
  obtain ⟨a0, l1, e1, h1⟩ := aR_inv h0
  obtain ⟨a1, l2, e2, h2⟩ := aI_inv h1
  obtain ⟨a2, l3, e3, h3⟩ := aI_inv h2
  obtain ⟨a3, l4, e4, h4⟩ := aI_inv h3
  obtain ⟨ez, h⟩ := aZ_inv h4
  subst ez
  subst e4
  subst e3
  subst e2
  subst e1
  exact xmet (M := M) (as := [va_rf a0, .int a1, .int a2, .int a3]) (lo := [some (va_rf a0), some (.int a1), some (.int a2), some (.int a3)]) 239 xq239 xm239 (by rw [xargs_rf, xargs_i, xargs_i, xargs_i, xargs_nil]; exact ⟨rfl, ⟨rfl, ⟨rfl, ⟨rfl, trivial⟩⟩⟩⟩) (by rw [xargs_rf, xargs_i, xargs_i, xargs_i, xargs_nil]; exact Nat.le_of_ble_eq_true rfl) (fun S G K => x_weak (by exact ⟨rfl, ⟨rfl, ⟨rfl, ⟨rfl, trivial⟩⟩⟩⟩) (k239 hs a0 a1 a2 a3 M)) h hS
set_option maxRecDepth 100000 in
def c240 (rec : Nat → List Value → Mem → XA) (a0 : Option Nat) (a1 : Int32) (a2 : Int32) (M0 : Mem) : XA :=
  vC (13, 157) M0 a0 <|
  cI (rec 236 [va_rf a0, .int a1] M0) fun x2 M1 =>
  gtP (13, 157) M1 a0 12 fun x3 =>
  alI 100 M1 x3 x2 fun x4 =>
  jn (fun (s5 : Int32) =>
    lt (x4 + s5) fun (x6 : Int32) =>
    gtP (13, 157) M1 a0 69 fun x7 =>
    alI 100 M1 x7 x6 fun x8 =>
    if x8 = ((1 : Int32)) then (
      rtZ ((1 : Int32)) M1) else (
      gtP (13, 157) M1 a0 69 fun x9 =>
      alI 100 M1 x9 x6 fun x10 =>
      if x10 = ((2 : Int32)) then (
        vC (13, 157) M1 a0 <|
        cV (rec 239 [va_rf a0, .int ((9 : Int32)), .int a2, .int ((0 : Int32))] M1) fun M11 =>
        rtZ ((0 : Int32)) M11) else (
        gtP (13, 157) M1 a0 69 fun x12 =>
        asI 100 M1 x12 x6 (((1 : Int32))) fun M13 =>
        jn (fun (s14 : Int32) =>
          jn (fun (s15 : Int32) =>
            lp (fun (s16 : Int32 × Mem) j105 =>
              gtP (13, 157) s16.2 a0 10 fun x17 =>
              alI 100 s16.2 x17 s14 fun x18 =>
              if x18 ≤ s16.1 then (
                gtP (13, 157) s16.2 a0 5 fun x19 =>
                gtP (13, 157) s16.2 a0 12 fun x20 =>
                alI 100 s16.2 x20 x2 fun x21 =>
                alI 100 s16.2 x19 ((((8 : Int32)) * s14) + x21) fun x22 =>
                if 0 ≤ x22 then (
                  gtI (13, 157) s16.2 a0 76 fun x23 =>
                  jn (fun (s24 : Mem) =>
                    gtP (13, 157) s24 a0 69 fun x25 =>
                    asI 100 s24 x25 x6 (((2 : Int32))) fun M26 =>
                    vC (13, 157) M26 a0 <|
                    cV (rec 239 [va_rf a0, .int ((8 : Int32)), .int a2, .int ((0 : Int32))] M26) fun M27 =>
                    rtZ ((0 : Int32)) M27) fun j327 =>
                  if ((12 : Int32)) ≤ x23 then (
                    j327 s16.2) else (
                    jn (fun (s28 : Int32) =>
                      vC (13, 157) s16.2 a0 <|
                      cI (rec 243 [va_rf a0, .int (x22 + s28), .int ((0 : Int32))] s16.2) fun x30 M29 =>
                      gtI (13, 157) M29 a0 85 fun x31 =>
                      jn (fun (s32 : Unit) =>
                        gtI (13, 157) M29 a0 85 fun x33 =>
                        jn (fun (s34 : Int32) =>
                          rtZ s34 M29) fun j326 =>
                        if x33 = 0 then (
                          j326 ((1 : Int32))) else (
                          j326 ((0 : Int32)))) fun j314 =>
                      if x31 = 0 then (
                        gtI (13, 157) M29 a0 86 fun x35 =>
                        if x35 = 0 then (
                          j314 ()) else (
                          j327 M29)) else (
                        j314 ())) fun j293 =>
                    if ((96 : Int32)) ≤ a1 then (
                      j293 ((1000 : Int32))) else (
                      j293 ((0 : Int32))))) else (
                  rtZ ((1 : Int32)) s16.2)) else (
                lt ((((96 : Int32)) * s14) + s16.1) fun (x36 : Int32) =>
                gtP (13, 157) s16.2 a0 12 fun x37 =>
                alI 100 s16.2 x37 x36 fun x38 =>
                gtP (13, 157) s16.2 a0 12 fun x39 =>
                alI 100 s16.2 x39 x2 fun x40 =>
                jn (fun (s41 : Mem) =>
                  lp (fun (s42 : Int32 × Mem) j174 =>
                    gtP (13, 157) s42.2 a0 12 fun x43 =>
                    alI 100 s42.2 x43 x36 fun x44 =>
                    gtP (13, 157) s42.2 a0 12 fun x45 =>
                    alI 100 s42.2 x45 x2 fun x46 =>
                    jn (fun (s47 : Unit) =>
                      lt (s16.1 + (1 : Int32)) fun (x48 : Int32) =>
                      j105 (x48, s42.2)) fun j236 =>
                    if x44 = x46 then (
                      gtP (13, 157) s42.2 a0 13 fun x49 =>
                      alI 100 s42.2 x49 x36 fun x50 =>
                      if x50 = ((3 : Int32)) then (
                        gtP (13, 157) s42.2 a0 15 fun x51 =>
                        alI 100 s42.2 x51 x36 fun x52 =>
                        if x52 ≤ s42.1 then (
                          j236 ()) else (
                          gtP (13, 157) s42.2 a0 71 fun x53 =>
                          asI 100 s42.2 x53 ((((50 : Int32)) * (s15 + s16.1)) + s42.1) (((0 : Int32))) fun M54 =>
                          lt (s42.1 + (1 : Int32)) fun (x55 : Int32) =>
                          j174 (x55, M54))) else (
                        j236 ())) else (
                      j236 ())) 4294967296 ((0 : Int32), s41)) fun j171 =>
                if x38 = x40 then (
                  gtP (13, 157) s16.2 a0 13 fun x56 =>
                  alI 100 s16.2 x56 x36 fun x57 =>
                  if x57 = ((1 : Int32)) then (
                    gtP (13, 157) s16.2 a0 70 fun x58 =>
                    gtP (13, 157) s16.2 a0 15 fun x59 =>
                    alI 100 s16.2 x59 x36 fun x60 =>
                    asI 100 s16.2 x58 (s15 + s16.1) x60 fun M61 =>
                    j171 M61) else (
                    j171 s16.2)) else (
                  j171 s16.2))) 4294967296 ((0 : Int32), M13)) fun j100 =>
          if ((96 : Int32)) ≤ a1 then (
            j100 ((96 : Int32))) else (
            j100 ((0 : Int32)))) fun j86 =>
        if ((96 : Int32)) ≤ a1 then (
          gtI (13, 157) M13 a0 67 fun x62 =>
          j86 x62) else (
          gtI (13, 157) M13 a0 66 fun x63 =>
          j86 x63)))) fun j24 =>
  if ((96 : Int32)) ≤ a1 then (
    j24 ((8 : Int32))) else (
    j24 ((0 : Int32)))
def b240 (rec : Nat → List Value → Mem → XA) (as : List Value) (M0 : Mem) : XA := aR as fun a0 as => aI as fun a1 as => aI as fun a2 as => aZ as (c240 rec a0 a1 a2 M0)
set_option maxRecDepth 100000 in
set_option maxHeartbeats 4000000 in
theorem k240 {S : XS} {G : XG} {K : Nat × Nat} {l : Launch} {d : Nat} {rec : Nat → List Value → Mem → XA} (hs : XSnd l xmt rec d) (a0 : Option Nat) (a1 : Int32) (a2 : Int32) (M0 : Mem) : Xe S G K l (yX12_begins, cX12_begins, 10, some .boolean) d 0 [some (va_rf a0), some (.int a1), some (.int a2), none, none, none, none, none, none, none] [] M0 (c240 rec a0 a1 a2 M0) := by
  unfold c240
  refine x_aload_n dX12_begins_0 rfl ?_
  refine x_iload_n dX12_begins_1 rfl ?_
  refine cmX12_622 rfl hs (Nat.le_of_ble_eq_true rfl) dX12_begins_2 (fun x2 M1 => ?_)
  refine x_istore_n (lo' := [some (va_rf a0), some (.int a1), some (.int a2), some (.int x2), none, none, none, none, none, none]) dX12_begins_5 (by decide) rfl rfl ?_
  refine x_aload_n dX12_begins_6 rfl ?_
  refine gfX12_42 rfl dX12_begins_7 (fun x3 => ?_)
  refine x_iload_n dX12_begins_10 rfl ?_
  refine x_iald dX12_begins_11 (fun x4 => ?_)
  refine x_iload_n dX12_begins_12 rfl ?_
  refine x_bipush (v := 96) dX12_begins_13 (by decide) ?_
  refine x_jn (σ := Int32) 24 (fun s5 => [some (va_rf a0), some (.int a1), some (.int a2), some (.int x2), none, none, none, none, none, none]) (fun s5 => [.int s5, .int x4]) (fun s5 => M1) (fun s5 => ?_) (fun j24 hj24 => ?_)
  · refine x_iadd dX12_begins_24 ?_
    refine x_ltI (fun x6 => ?_)
    refine x_istore (lo' := [some (va_rf a0), some (.int a1), some (.int a2), some (.int x2), some (.int x6), none, none, none, none, none]) dX12_begins_25 (by decide) rfl rfl ?_
    refine x_aload_n dX12_begins_27 rfl ?_
    refine gfX12_221 rfl dX12_begins_28 (fun x7 => ?_)
    refine x_iload dX12_begins_31 rfl ?_
    refine x_iald dX12_begins_33 (fun x8 => ?_)
    refine x_iconst (v := 1) dX12_begins_34 (by decide) ?_
    refine x_icmp_ne (tgt := 40) dX12_begins_35 (by decide) (fun _ => ?_) (fun _ => ?_)
    · refine x_iconst (v := 1) dX12_begins_38 (by decide) ?_
      exact x_zret rfl dX12_begins_39
    · refine x_aload_n dX12_begins_40 rfl ?_
      refine gfX12_221 rfl dX12_begins_41 (fun x9 => ?_)
      refine x_iload dX12_begins_44 rfl ?_
      refine x_iald dX12_begins_46 (fun x10 => ?_)
      refine x_iconst (v := 2) dX12_begins_47 (by decide) ?_
      refine x_icmp_ne (tgt := 61) dX12_begins_48 (by decide) (fun _ => ?_) (fun _ => ?_)
      · refine x_aload_n dX12_begins_51 rfl ?_
        refine x_bipush (v := 9) dX12_begins_52 (by decide) ?_
        refine x_iload_n dX12_begins_54 rfl ?_
        refine x_iconst (v := 0) dX12_begins_55 (by decide) ?_
        refine cmX12_625 rfl hs (Nat.le_of_ble_eq_true rfl) dX12_begins_56 (fun M11 => ?_)
        refine x_iconst (v := 0) dX12_begins_59 (by decide) ?_
        exact x_zret rfl dX12_begins_60
      · refine x_aload_n dX12_begins_61 rfl ?_
        refine gfX12_221 rfl dX12_begins_62 (fun x12 => ?_)
        refine x_iload dX12_begins_65 rfl ?_
        refine x_iconst (v := 1) dX12_begins_67 (by decide) ?_
        refine x_iast dX12_begins_68 (fun M13 => ?_)
        refine x_iload_n dX12_begins_69 rfl ?_
        refine x_bipush (v := 96) dX12_begins_70 (by decide) ?_
        refine x_jn (σ := Int32) 86 (fun s14 => [some (va_rf a0), some (.int a1), some (.int a2), some (.int x2), some (.int x6), none, none, none, none, none]) (fun s14 => [.int s14]) (fun s14 => M13) (fun s14 => ?_) (fun j86 hj86 => ?_)
        · refine x_istore (lo' := [some (va_rf a0), some (.int a1), some (.int a2), some (.int x2), some (.int x6), some (.int s14), none, none, none, none]) dX12_begins_86 (by decide) rfl rfl ?_
          refine x_iload_n dX12_begins_88 rfl ?_
          refine x_bipush (v := 96) dX12_begins_89 (by decide) ?_
          refine x_jn (σ := Int32) 100 (fun s15 => [some (va_rf a0), some (.int a1), some (.int a2), some (.int x2), some (.int x6), some (.int s14), none, none, none, none]) (fun s15 => [.int s15]) (fun s15 => M13) (fun s15 => ?_) (fun j100 hj100 => ?_)
          · refine x_istore (lo' := [some (va_rf a0), some (.int a1), some (.int a2), some (.int x2), some (.int x6), some (.int s14), some (.int s15), none, none, none]) dX12_begins_100 (by decide) rfl rfl ?_
            refine x_iconst (v := 0) dX12_begins_102 (by decide) ?_
            refine x_istore (lo' := [some (va_rf a0), some (.int a1), some (.int a2), some (.int x2), some (.int x6), some (.int s14), some (.int s15), some (.int ((0 : Int32))), none, none]) dX12_begins_103 (by decide) rfl rfl ?_
            refine x_weak (by exact ⟨rfl, ⟨rfl, ⟨rfl, ⟨rfl, ⟨rfl, ⟨rfl, ⟨rfl, ⟨rfl, trivial⟩⟩⟩⟩⟩⟩⟩⟩) (x_lp (σ := Int32 × Mem) 105 (fun s16 => [some (va_rf a0), some (.int a1), some (.int a2), some (.int x2), some (.int x6), some (.int s14), some (.int s15), some (.int s16.1), none, none]) (fun s16 => []) (fun s16 => s16.2) (fun s16 j105 hj105 => ?_) 4294967296 ((0 : Int32), M13))
            · refine x_iload dX12_begins_105 rfl ?_
              refine x_aload_n dX12_begins_107 rfl ?_
              refine gfX12_36 rfl dX12_begins_108 (fun x17 => ?_)
              refine x_iload dX12_begins_111 rfl ?_
              refine x_iald dX12_begins_113 (fun x18 => ?_)
              refine x_icmp_ge (tgt := 242) dX12_begins_114 (by decide) (fun _ => ?_) (fun _ => ?_)
              · refine x_aload_n dX12_begins_242 rfl ?_
                refine gfX12_21 rfl dX12_begins_243 (fun x19 => ?_)
                refine x_bipush (v := 8) dX12_begins_246 (by decide) ?_
                refine x_iload dX12_begins_248 rfl ?_
                refine x_imul dX12_begins_250 ?_
                refine x_aload_n dX12_begins_251 rfl ?_
                refine gfX12_42 rfl dX12_begins_252 (fun x20 => ?_)
                refine x_iload_n dX12_begins_255 rfl ?_
                refine x_iald dX12_begins_256 (fun x21 => ?_)
                refine x_iadd dX12_begins_257 ?_
                refine x_iald dX12_begins_258 (fun x22 => ?_)
                refine x_istore (lo' := [some (va_rf a0), some (.int a1), some (.int a2), some (.int x2), some (.int x6), some (.int s14), some (.int s15), some (.int x22), none, none]) dX12_begins_259 (by decide) rfl rfl ?_
                refine x_iload dX12_begins_261 rfl ?_
                refine x_if_ge (tgt := 268) dX12_begins_263 (by decide) (fun _ => ?_) (fun _ => ?_)
                · refine x_aload_n dX12_begins_268 rfl ?_
                  refine gfX12_629 rfl dX12_begins_269 (fun x23 => ?_)
                  refine x_bipush (v := 12) dX12_begins_272 (by decide) ?_
                  refine x_jn (σ := Mem) 327 (fun s24 => [some (va_rf a0), none, some (.int a2), none, some (.int x6), none, none, none, none, none]) (fun s24 => []) (fun s24 => s24) (fun s24 => ?_) (fun j327 hj327 => ?_)
                  · refine x_aload_n dX12_begins_327 rfl ?_
                    refine gfX12_221 rfl dX12_begins_328 (fun x25 => ?_)
                    refine x_iload dX12_begins_331 rfl ?_
                    refine x_iconst (v := 2) dX12_begins_333 (by decide) ?_
                    refine x_iast dX12_begins_334 (fun M26 => ?_)
                    refine x_aload_n dX12_begins_335 rfl ?_
                    refine x_bipush (v := 8) dX12_begins_336 (by decide) ?_
                    refine x_iload_n dX12_begins_338 rfl ?_
                    refine x_iconst (v := 0) dX12_begins_339 (by decide) ?_
                    refine cmX12_625 rfl hs (Nat.le_of_ble_eq_true rfl) dX12_begins_340 (fun M27 => ?_)
                    refine x_iconst (v := 0) dX12_begins_343 (by decide) ?_
                    exact x_zret rfl dX12_begins_344
                  refine x_icmp_ge (tgt := 327) dX12_begins_274 (by decide) (fun _ => ?_) (fun _ => ?_)
                  · exact x_weak (by exact ⟨rfl, ⟨rfl, ⟨rfl, trivial⟩⟩⟩) (hj327 s16.2)
                  · refine x_aload_n dX12_begins_277 rfl ?_
                    refine x_iload dX12_begins_278 rfl ?_
                    refine x_iload_n dX12_begins_280 rfl ?_
                    refine x_bipush (v := 96) dX12_begins_281 (by decide) ?_
                    refine x_jn (σ := Int32) 293 (fun s28 => [some (va_rf a0), none, some (.int a2), none, some (.int x6), none, none, none, none, none]) (fun s28 => [.int s28, .int x22, va_rf a0]) (fun s28 => s16.2) (fun s28 => ?_) (fun j293 hj293 => ?_)
                    · refine x_iadd dX12_begins_293 ?_
                      refine x_iconst (v := 0) dX12_begins_294 (by decide) ?_
                      refine cmX12_632 rfl hs (Nat.le_of_ble_eq_true rfl) dX12_begins_295 (fun x30 M29 => ?_)
                      refine x_istore (lo' := [some (va_rf a0), none, some (.int a2), none, some (.int x6), none, none, none, some (.int x30), none]) dX12_begins_298 (by decide) rfl rfl ?_
                      refine x_aload_n dX12_begins_300 rfl ?_
                      refine gfX12_635 rfl dX12_begins_301 (fun x31 => ?_)
                      refine x_jn (σ := Unit) 314 (fun s32 => [some (va_rf a0), none, none, none, none, none, none, none, none, none]) (fun s32 => []) (fun s32 => M29) (fun s32 => ?_) (fun j314 hj314 => ?_)
                      · refine x_aload_n dX12_begins_314 rfl ?_
                        refine gfX12_635 rfl dX12_begins_315 (fun x33 => ?_)
                        refine x_jn (σ := Int32) 326 (fun s34 => [none, none, none, none, none, none, none, none, none, none]) (fun s34 => [.int s34]) (fun s34 => M29) (fun s34 => ?_) (fun j326 hj326 => ?_)
                        · exact x_zret rfl dX12_begins_326
                        refine x_if_ne (tgt := 325) dX12_begins_318 (by decide) (fun _ => ?_) (fun _ => ?_)
                        · refine x_iconst (v := 1) dX12_begins_321 (by decide) ?_
                          refine x_goto (tgt := 326) dX12_begins_322 (by decide) ?_
                          exact x_weak (by exact trivial) (hj326 ((1 : Int32)))
                        · refine x_iconst (v := 0) dX12_begins_325 (by decide) ?_
                          exact x_weak (by exact trivial) (hj326 ((0 : Int32)))
                      refine x_if_ne (tgt := 314) dX12_begins_304 (by decide) (fun _ => ?_) (fun _ => ?_)
                      · refine x_aload_n dX12_begins_307 rfl ?_
                        refine gfX12_610 rfl dX12_begins_308 (fun x35 => ?_)
                        refine x_if_ne (tgt := 327) dX12_begins_311 (by decide) (fun _ => ?_) (fun _ => ?_)
                        · exact x_weak (by exact ⟨rfl, trivial⟩) (hj314 ())
                        · exact x_weak (by exact ⟨rfl, ⟨rfl, ⟨rfl, trivial⟩⟩⟩) (hj327 M29)
                      · exact x_weak (by exact ⟨rfl, trivial⟩) (hj314 ())
                    refine x_icmp_ge (tgt := 290) dX12_begins_283 (by decide) (fun _ => ?_) (fun _ => ?_)
                    · refine x_sipush (v := 1000) dX12_begins_290 (by decide) ?_
                      exact x_weak (by exact ⟨rfl, ⟨rfl, ⟨rfl, trivial⟩⟩⟩) (hj293 ((1000 : Int32)))
                    · refine x_iconst (v := 0) dX12_begins_286 (by decide) ?_
                      refine x_goto (tgt := 293) dX12_begins_287 (by decide) ?_
                      exact x_weak (by exact ⟨rfl, ⟨rfl, ⟨rfl, trivial⟩⟩⟩) (hj293 ((0 : Int32)))
                · refine x_iconst (v := 1) dX12_begins_266 (by decide) ?_
                  exact x_zret rfl dX12_begins_267
              · refine x_bipush (v := 96) dX12_begins_117 (by decide) ?_
                refine x_iload dX12_begins_119 rfl ?_
                refine x_imul dX12_begins_121 ?_
                refine x_iload dX12_begins_122 rfl ?_
                refine x_iadd dX12_begins_124 ?_
                refine x_ltI (fun x36 => ?_)
                refine x_istore (lo' := [some (va_rf a0), some (.int a1), some (.int a2), some (.int x2), some (.int x6), some (.int s14), some (.int s15), some (.int s16.1), some (.int x36), none]) dX12_begins_125 (by decide) rfl rfl ?_
                refine x_aload_n dX12_begins_127 rfl ?_
                refine gfX12_42 rfl dX12_begins_128 (fun x37 => ?_)
                refine x_iload dX12_begins_131 rfl ?_
                refine x_iald dX12_begins_133 (fun x38 => ?_)
                refine x_aload_n dX12_begins_134 rfl ?_
                refine gfX12_42 rfl dX12_begins_135 (fun x39 => ?_)
                refine x_iload_n dX12_begins_138 rfl ?_
                refine x_iald dX12_begins_139 (fun x40 => ?_)
                refine x_jn (σ := Mem) 171 (fun s41 => [some (va_rf a0), some (.int a1), some (.int a2), some (.int x2), some (.int x6), some (.int s14), some (.int s15), some (.int s16.1), some (.int x36), none]) (fun s41 => []) (fun s41 => s41) (fun s41 => ?_) (fun j171 hj171 => ?_)
                · refine x_iconst (v := 0) dX12_begins_171 (by decide) ?_
                  refine x_istore (lo' := [some (va_rf a0), some (.int a1), some (.int a2), some (.int x2), some (.int x6), some (.int s14), some (.int s15), some (.int s16.1), some (.int x36), some (.int ((0 : Int32)))]) dX12_begins_172 (by decide) rfl rfl ?_
                  refine x_weak (by exact ⟨rfl, ⟨rfl, ⟨rfl, ⟨rfl, ⟨rfl, ⟨rfl, ⟨rfl, ⟨rfl, ⟨rfl, ⟨rfl, trivial⟩⟩⟩⟩⟩⟩⟩⟩⟩⟩) (x_lp (σ := Int32 × Mem) 174 (fun s42 => [some (va_rf a0), some (.int a1), some (.int a2), some (.int x2), some (.int x6), some (.int s14), some (.int s15), some (.int s16.1), some (.int x36), some (.int s42.1)]) (fun s42 => []) (fun s42 => s42.2) (fun s42 j174 hj174 => ?_) 4294967296 ((0 : Int32), s41))
                  · refine x_aload_n dX12_begins_174 rfl ?_
                    refine gfX12_42 rfl dX12_begins_175 (fun x43 => ?_)
                    refine x_iload dX12_begins_178 rfl ?_
                    refine x_iald dX12_begins_180 (fun x44 => ?_)
                    refine x_aload_n dX12_begins_181 rfl ?_
                    refine gfX12_42 rfl dX12_begins_182 (fun x45 => ?_)
                    refine x_iload_n dX12_begins_185 rfl ?_
                    refine x_iald dX12_begins_186 (fun x46 => ?_)
                    refine x_jn (σ := Unit) 236 (fun s47 => [some (va_rf a0), some (.int a1), some (.int a2), some (.int x2), some (.int x6), some (.int s14), some (.int s15), some (.int s16.1), none, none]) (fun s47 => []) (fun s47 => s42.2) (fun s47 => ?_) (fun j236 hj236 => ?_)
                    · refine x_iincN (v := 1) (lo' := fun x48 => [some (va_rf a0), some (.int a1), some (.int a2), some (.int x2), some (.int x6), some (.int s14), some (.int s15), some (.int x48), none, none]) (by decide) dX12_begins_236 rfl (by decide) rfl (fun _ => rfl) (fun x48 => ?_)
                      refine x_goto (tgt := 105) dX12_begins_239 (by decide) ?_
                      exact x_weak (by exact ⟨rfl, ⟨rfl, ⟨rfl, ⟨rfl, ⟨rfl, ⟨rfl, ⟨rfl, ⟨rfl, trivial⟩⟩⟩⟩⟩⟩⟩⟩) (hj105 (x48, s42.2))
                    refine x_icmp_ne (tgt := 236) dX12_begins_187 (by decide) (fun _ => ?_) (fun _ => ?_)
                    · refine x_aload_n dX12_begins_190 rfl ?_
                      refine gfX12_45 rfl dX12_begins_191 (fun x49 => ?_)
                      refine x_iload dX12_begins_194 rfl ?_
                      refine x_iald dX12_begins_196 (fun x50 => ?_)
                      refine x_iconst (v := 3) dX12_begins_197 (by decide) ?_
                      refine x_icmp_ne (tgt := 236) dX12_begins_198 (by decide) (fun _ => ?_) (fun _ => ?_)
                      · refine x_iload dX12_begins_201 rfl ?_
                        refine x_aload_n dX12_begins_203 rfl ?_
                        refine gfX12_52 rfl dX12_begins_204 (fun x51 => ?_)
                        refine x_iload dX12_begins_207 rfl ?_
                        refine x_iald dX12_begins_209 (fun x52 => ?_)
                        refine x_icmp_ge (tgt := 236) dX12_begins_210 (by decide) (fun _ => ?_) (fun _ => ?_)
                        · exact x_weak (by exact ⟨rfl, ⟨rfl, ⟨rfl, ⟨rfl, ⟨rfl, ⟨rfl, ⟨rfl, ⟨rfl, trivial⟩⟩⟩⟩⟩⟩⟩⟩) (hj236 ())
                        · refine x_aload_n dX12_begins_213 rfl ?_
                          refine gfX12_227 rfl dX12_begins_214 (fun x53 => ?_)
                          refine x_bipush (v := 50) dX12_begins_217 (by decide) ?_
                          refine x_iload dX12_begins_219 rfl ?_
                          refine x_iload dX12_begins_221 rfl ?_
                          refine x_iadd dX12_begins_223 ?_
                          refine x_imul dX12_begins_224 ?_
                          refine x_iload dX12_begins_225 rfl ?_
                          refine x_iadd dX12_begins_227 ?_
                          refine x_iconst (v := 0) dX12_begins_228 (by decide) ?_
                          refine x_iast dX12_begins_229 (fun M54 => ?_)
                          refine x_iincN (v := 1) (lo' := fun x55 => [some (va_rf a0), some (.int a1), some (.int a2), some (.int x2), some (.int x6), some (.int s14), some (.int s15), some (.int s16.1), some (.int x36), some (.int x55)]) (by decide) dX12_begins_230 rfl (by decide) rfl (fun _ => rfl) (fun x55 => ?_)
                          refine x_goto (tgt := 174) dX12_begins_233 (by decide) ?_
                          exact x_weak (by exact ⟨rfl, ⟨rfl, ⟨rfl, ⟨rfl, ⟨rfl, ⟨rfl, ⟨rfl, ⟨rfl, ⟨rfl, ⟨rfl, trivial⟩⟩⟩⟩⟩⟩⟩⟩⟩⟩) (hj174 (x55, M54))
                      · exact x_weak (by exact ⟨rfl, ⟨rfl, ⟨rfl, ⟨rfl, ⟨rfl, ⟨rfl, ⟨rfl, ⟨rfl, trivial⟩⟩⟩⟩⟩⟩⟩⟩) (hj236 ())
                    · exact x_weak (by exact ⟨rfl, ⟨rfl, ⟨rfl, ⟨rfl, ⟨rfl, ⟨rfl, ⟨rfl, ⟨rfl, trivial⟩⟩⟩⟩⟩⟩⟩⟩) (hj236 ())
                refine x_icmp_ne (tgt := 171) dX12_begins_140 (by decide) (fun _ => ?_) (fun _ => ?_)
                · refine x_aload_n dX12_begins_143 rfl ?_
                  refine gfX12_45 rfl dX12_begins_144 (fun x56 => ?_)
                  refine x_iload dX12_begins_147 rfl ?_
                  refine x_iald dX12_begins_149 (fun x57 => ?_)
                  refine x_iconst (v := 1) dX12_begins_150 (by decide) ?_
                  refine x_icmp_ne (tgt := 171) dX12_begins_151 (by decide) (fun _ => ?_) (fun _ => ?_)
                  · refine x_aload_n dX12_begins_154 rfl ?_
                    refine gfX12_224 rfl dX12_begins_155 (fun x58 => ?_)
                    refine x_iload dX12_begins_158 rfl ?_
                    refine x_iload dX12_begins_160 rfl ?_
                    refine x_iadd dX12_begins_162 ?_
                    refine x_aload_n dX12_begins_163 rfl ?_
                    refine gfX12_52 rfl dX12_begins_164 (fun x59 => ?_)
                    refine x_iload dX12_begins_167 rfl ?_
                    refine x_iald dX12_begins_169 (fun x60 => ?_)
                    refine x_iast dX12_begins_170 (fun M61 => ?_)
                    exact x_weak (by exact ⟨rfl, ⟨rfl, ⟨rfl, ⟨rfl, ⟨rfl, ⟨rfl, ⟨rfl, ⟨rfl, ⟨rfl, trivial⟩⟩⟩⟩⟩⟩⟩⟩⟩) (hj171 M61)
                  · exact x_weak (by exact ⟨rfl, ⟨rfl, ⟨rfl, ⟨rfl, ⟨rfl, ⟨rfl, ⟨rfl, ⟨rfl, ⟨rfl, trivial⟩⟩⟩⟩⟩⟩⟩⟩⟩) (hj171 s16.2)
                · exact x_weak (by exact ⟨rfl, ⟨rfl, ⟨rfl, ⟨rfl, ⟨rfl, ⟨rfl, ⟨rfl, ⟨rfl, ⟨rfl, trivial⟩⟩⟩⟩⟩⟩⟩⟩⟩) (hj171 s16.2)
          refine x_icmp_ge (tgt := 98) dX12_begins_91 (by decide) (fun _ => ?_) (fun _ => ?_)
          · refine x_bipush (v := 96) dX12_begins_98 (by decide) ?_
            exact x_weak (by exact ⟨rfl, ⟨rfl, ⟨rfl, ⟨rfl, ⟨rfl, ⟨rfl, trivial⟩⟩⟩⟩⟩⟩) (hj100 ((96 : Int32)))
          · refine x_iconst (v := 0) dX12_begins_94 (by decide) ?_
            refine x_goto (tgt := 100) dX12_begins_95 (by decide) ?_
            exact x_weak (by exact ⟨rfl, ⟨rfl, ⟨rfl, ⟨rfl, ⟨rfl, ⟨rfl, trivial⟩⟩⟩⟩⟩⟩) (hj100 ((0 : Int32)))
        refine x_icmp_ge (tgt := 82) dX12_begins_72 (by decide) (fun _ => ?_) (fun _ => ?_)
        · refine x_aload_n dX12_begins_82 rfl ?_
          refine gfX12_603 rfl dX12_begins_83 (fun x62 => ?_)
          exact x_weak (by exact ⟨rfl, ⟨rfl, ⟨rfl, ⟨rfl, ⟨rfl, trivial⟩⟩⟩⟩⟩) (hj86 x62)
        · refine x_aload_n dX12_begins_75 rfl ?_
          refine gfX12_600 rfl dX12_begins_76 (fun x63 => ?_)
          refine x_goto (tgt := 86) dX12_begins_79 (by decide) ?_
          exact x_weak (by exact ⟨rfl, ⟨rfl, ⟨rfl, ⟨rfl, ⟨rfl, trivial⟩⟩⟩⟩⟩) (hj86 x63)
  refine x_icmp_ge (tgt := 22) dX12_begins_15 (by decide) (fun _ => ?_) (fun _ => ?_)
  · refine x_bipush (v := 8) dX12_begins_22 (by decide) ?_
    exact x_weak (by exact ⟨rfl, ⟨rfl, ⟨rfl, ⟨rfl, trivial⟩⟩⟩⟩) (hj24 ((8 : Int32)))
  · refine x_iconst (v := 0) dX12_begins_18 (by decide) ?_
    refine x_goto (tgt := 24) dX12_begins_19 (by decide) ?_
    exact x_weak (by exact ⟨rfl, ⟨rfl, ⟨rfl, ⟨rfl, trivial⟩⟩⟩⟩) (hj24 ((0 : Int32)))
theorem s240 {l : Launch} {d : Nat} {rec : Nat → List Value → Mem → XA} (hS : Nonempty XS) (hs : XSnd l xmt rec d) : Snd1 l 240 (b240 rec) d := by
  intro as M r M' h0
  unfold b240 at h0
  obtain ⟨a0, l1, e1, h1⟩ := aR_inv h0
  obtain ⟨a1, l2, e2, h2⟩ := aI_inv h1
  obtain ⟨a2, l3, e3, h3⟩ := aI_inv h2
  obtain ⟨ez, h⟩ := aZ_inv h3
  subst ez
  subst e3
  subst e2
  subst e1
  exact xmet (M := M) (as := [va_rf a0, .int a1, .int a2]) (lo := [some (va_rf a0), some (.int a1), some (.int a2)]) 240 xq240 xm240 (by rw [xargs_rf, xargs_i, xargs_i, xargs_nil]; exact ⟨rfl, ⟨rfl, ⟨rfl, trivial⟩⟩⟩) (by rw [xargs_rf, xargs_i, xargs_i, xargs_nil]; exact Nat.le_of_ble_eq_true rfl) (fun S G K => x_weak (by exact ⟨rfl, ⟨rfl, ⟨rfl, trivial⟩⟩⟩) (k240 hs a0 a1 a2 M)) h hS
set_option maxRecDepth 100000 in
def c241 (rec : Nat → List Value → Mem → XA) (a0 : Option Nat) (a1 : Int32) (M0 : Mem) : XA :=
  gtP (13, 157) M0 a0 72 fun x1 =>
  gtI (13, 157) M0 a0 73 fun x2 =>
  asI 100 M0 x1 x2 a1 fun M3 =>
  gtI (13, 157) M3 a0 73 fun x4 =>
  ptI (13, 157) M3 a0 73 (x4 + ((1 : Int32))) fun M5 =>
  some (.null, M5)
def b241 (rec : Nat → List Value → Mem → XA) (as : List Value) (M0 : Mem) : XA := aR as fun a0 as => aI as fun a1 as => aZ as (c241 rec a0 a1 M0)
set_option maxRecDepth 100000 in
set_option maxHeartbeats 4000000 in
theorem k241 {S : XS} {G : XG} {K : Nat × Nat} {l : Launch} {d : Nat} {rec : Nat → List Value → Mem → XA} (hs : XSnd l xmt rec d) (a0 : Option Nat) (a1 : Int32) (M0 : Mem) : Xe S G K l (yX12_push, cX12_push, 2, none) d 0 [some (va_rf a0), some (.int a1)] [] M0 (c241 rec a0 a1 M0) := by
  unfold c241
  refine x_aload_n dX12_push_0 rfl ?_
  refine gfX12_230 rfl dX12_push_1 (fun x1 => ?_)
  refine x_aload_n dX12_push_4 rfl ?_
  refine gfX12_638 rfl dX12_push_5 (fun x2 => ?_)
  refine x_iload_n dX12_push_8 rfl ?_
  refine x_iast dX12_push_9 (fun M3 => ?_)
  refine x_aload_n dX12_push_10 rfl ?_
  refine x_dup dX12_push_11 (xc1_r _) ?_
  refine gfX12_638 rfl dX12_push_12 (fun x4 => ?_)
  refine x_iconst (v := 1) dX12_push_15 (by decide) ?_
  refine x_iadd dX12_push_16 ?_
  refine pfX12_638 rfl dX12_push_17 (fun M5 => ?_)
  exact x_vret rfl dX12_push_20
theorem s241 {l : Launch} {d : Nat} {rec : Nat → List Value → Mem → XA} (hS : Nonempty XS) (hs : XSnd l xmt rec d) : Snd1 l 241 (b241 rec) d := by
  intro as M r M' h0
  unfold b241 at h0
  obtain ⟨a0, l1, e1, h1⟩ := aR_inv h0
  obtain ⟨a1, l2, e2, h2⟩ := aI_inv h1
  obtain ⟨ez, h⟩ := aZ_inv h2
  subst ez
  subst e2
  subst e1
  exact xmet (M := M) (as := [va_rf a0, .int a1]) (lo := [some (va_rf a0), some (.int a1)]) 241 xq241 xm241 (by rw [xargs_rf, xargs_i, xargs_nil]; exact ⟨rfl, ⟨rfl, trivial⟩⟩) (by rw [xargs_rf, xargs_i, xargs_nil]; exact Nat.le_of_ble_eq_true rfl) (fun S G K => x_weak (by exact ⟨rfl, ⟨rfl, trivial⟩⟩) (k241 hs a0 a1 M)) h hS
set_option maxRecDepth 100000 in
def c242 (rec : Nat → List Value → Mem → XA) (a0 : Option Nat) (M0 : Mem) : XA :=
  gtI (13, 157) M0 a0 73 fun x1 =>
  ptI (13, 157) M0 a0 73 (x1 - ((1 : Int32))) fun M2 =>
  gtP (13, 157) M2 a0 72 fun x3 =>
  gtI (13, 157) M2 a0 73 fun x4 =>
  alI 100 M2 x3 x4 fun x5 =>
  some (.int x5, M2)
def b242 (rec : Nat → List Value → Mem → XA) (as : List Value) (M0 : Mem) : XA := aR as fun a0 as => aZ as (c242 rec a0 M0)
set_option maxRecDepth 100000 in
set_option maxHeartbeats 4000000 in
theorem k242 {S : XS} {G : XG} {K : Nat × Nat} {l : Launch} {d : Nat} {rec : Nat → List Value → Mem → XA} (hs : XSnd l xmt rec d) (a0 : Option Nat) (M0 : Mem) : Xe S G K l (yX12_pop, cX12_pop, 1, some .int) d 0 [some (va_rf a0)] [] M0 (c242 rec a0 M0) := by
  unfold c242
  refine x_aload_n dX12_pop_0 rfl ?_
  refine x_dup dX12_pop_1 (xc1_r _) ?_
  refine gfX12_638 rfl dX12_pop_2 (fun x1 => ?_)
  refine x_iconst (v := 1) dX12_pop_5 (by decide) ?_
  refine x_isub dX12_pop_6 ?_
  refine pfX12_638 rfl dX12_pop_7 (fun M2 => ?_)
  refine x_aload_n dX12_pop_10 rfl ?_
  refine gfX12_230 rfl dX12_pop_11 (fun x3 => ?_)
  refine x_aload_n dX12_pop_14 rfl ?_
  refine gfX12_638 rfl dX12_pop_15 (fun x4 => ?_)
  refine x_iald dX12_pop_18 (fun x5 => ?_)
  exact x_iret rfl dX12_pop_19
theorem s242 {l : Launch} {d : Nat} {rec : Nat → List Value → Mem → XA} (hS : Nonempty XS) (hs : XSnd l xmt rec d) : Snd1 l 242 (b242 rec) d := by
  intro as M r M' h0
  unfold b242 at h0
  obtain ⟨a0, l1, e1, h1⟩ := aR_inv h0
  obtain ⟨ez, h⟩ := aZ_inv h1
  subst ez
  subst e1
  exact xmet (M := M) (as := [va_rf a0]) (lo := [some (va_rf a0)]) 242 xq242 xm242 (by rw [xargs_rf, xargs_nil]; exact ⟨rfl, trivial⟩) (by rw [xargs_rf, xargs_nil]; exact Nat.le_of_ble_eq_true rfl) (fun S G K => x_weak (by exact ⟨rfl, trivial⟩) (k242 hs a0 M)) h hS
set_option maxRecDepth 100000 in
def c243 (rec : Nat → List Value → Mem → XA) (a0 : Option Nat) (a1 : Int32) (a2 : Int32) (M0 : Mem) : XA :=
  gtI (13, 157) M0 a0 76 fun x1 =>
  gtI (13, 157) M0 a0 76 fun x2 =>
  ptI (13, 157) M0 a0 76 (x2 + ((1 : Int32))) fun M3 =>
  lp (fun (s4 : Int32 × Mem) j18 =>
    if ((10 : Int32)) ≤ s4.1 then (
      gtI (13, 157) s4.2 a0 73 fun x5 =>
      ptI (13, 157) s4.2 a0 73 (x5 - a2) fun M6 =>
      gtI (13, 157) M6 a0 73 fun x7 =>
      lp (fun (s8 : Int32 × Int32 × Mem) j89 =>
        gtI (13, 157) s8.2.2 a0 80 fun x9 =>
        jn (fun (s10 : Mem) =>
          gtI (13, 157) s10 a0 85 fun x11 =>
          if x11 = 0 then (
            gtI (13, 157) s10 a0 80 fun x12 =>
            ptI (13, 157) s10 a0 80 (x12 - ((1 : Int32))) fun M13 =>
            gtI (13, 157) M13 a0 81 fun x14 =>
            ptI (13, 157) M13 a0 81 (x14 + ((1 : Int32))) fun M15 =>
            gtI (13, 157) M15 a0 83 fun x16 =>
            ptI (13, 157) M15 a0 83 (x16 - ((1 : Int32))) fun M17 =>
            jn (fun (s18 : Int32) =>
              gtI (13, 157) M17 a0 91 fun x19 =>
              jn (fun (s20 : Mem) =>
                gtI (13, 157) s20 a0 90 fun x21 =>
                jn (fun (s22 : Int32) =>
                  jn (fun (s23 : Int32 × Mem) =>
                    jn (fun (s24 : Int32) =>
                      lt (s8.2.1 + ((1 : Int32))) fun (x25 : Int32) =>
                      jn (fun (s26 : Int32 × Int32 × Mem) =>
                        gtI (13, 157) s26.2.2 a0 85 fun x27 =>
                        if x27 = 0 then (
                          gtI (13, 157) s26.2.2 a0 86 fun x28 =>
                          jn (fun (s29 : Int32 × Int32 × Mem) =>
                            j89 (s29.1, s29.2.1, s29.2.2)) fun j815 =>
                          if x28 = 0 then (
                            j815 (s26.1, s26.2.1, s26.2.2)) else (
                            ptI (13, 157) s26.2.2 a0 73 x7 fun M30 =>
                            ptI (13, 157) M30 a0 76 (x1 + ((1 : Int32))) fun M31 =>
                            gtI (13, 157) M31 a0 87 fun x32 =>
                            jn (fun (s33 : Unit) =>
                              ptI (13, 157) M31 a0 76 x1 fun M34 =>
                              some (.int ((0 : Int32)), M34)) fun j778 =>
                            if x32 = 0 then (
                              if s26.1 = 0 then (
                                j778 ()) else (
                                ptZ (13, 157) M31 a0 86 ((0 : Int32)) fun M35 =>
                                lt (s26.1 + (-1 : Int32)) fun (x36 : Int32) =>
                                gtI (13, 157) M35 a0 88 fun x37 =>
                                vC (13, 157) M35 a0 <|
                                cV (rec 241 [va_rf a0, .int x37] M35) fun M38 =>
                                gtP (13, 157) M38 a0 75 fun x39 =>
                                alI 100 M38 x39 ((((25 : Int32)) * x1) + x36) fun x40 =>
                                j815 (x36, x40, M38))) else (
                              j778 ()))) else (
                          ptI (13, 157) s26.2.2 a0 76 x1 fun M41 =>
                          ptI (13, 157) M41 a0 73 x7 fun M42 =>
                          some (.int ((0 : Int32)), M42))) fun j726 =>
                      swI s23.1 [
                       ((1 : Int32), (
                          gtP (13, 157) s23.2 a0 74 fun x43 =>
                          alI 100 s23.2 x43 ((((10 : Int32)) * x1) + s24) fun x44 =>
                          vC (13, 157) s23.2 a0 <|
                          cV (rec 241 [va_rf a0, .int x44] s23.2) fun M45 =>
                          j726 (s8.1, x25, M45))),
                       ((2 : Int32), (
                          gtP (13, 157) s23.2 a0 74 fun x46 =>
                          vC (13, 157) s23.2 a0 <|
                          cI (rec 242 [va_rf a0] s23.2) fun x48 M47 =>
                          asI 100 M47 x46 ((((10 : Int32)) * x1) + s24) x48 fun M49 =>
                          j726 (s8.1, x25, M49))),
                       ((3 : Int32), (
                          vC (13, 157) s23.2 a0 <|
                          cV (rec 244 [va_rf a0, .int s23.1, .int s24, .int s8.2.1] s23.2) fun M50 =>
                          j726 (s8.1, x25, M50))),
                       ((4 : Int32), (
                          vC (13, 157) s23.2 a0 <|
                          cV (rec 244 [va_rf a0, .int s23.1, .int s24, .int s8.2.1] s23.2) fun M51 =>
                          j726 (s8.1, x25, M51))),
                       ((5 : Int32), (
                          vC (13, 157) s23.2 a0 <|
                          cV (rec 244 [va_rf a0, .int s23.1, .int s24, .int s8.2.1] s23.2) fun M52 =>
                          j726 (s8.1, x25, M52))),
                       ((6 : Int32), (
                          vC (13, 157) s23.2 a0 <|
                          cV (rec 244 [va_rf a0, .int s23.1, .int s24, .int s8.2.1] s23.2) fun M53 =>
                          j726 (s8.1, x25, M53))),
                       ((7 : Int32), (
                          vC (13, 157) s23.2 a0 <|
                          cV (rec 244 [va_rf a0, .int s23.1, .int s24, .int s8.2.1] s23.2) fun M54 =>
                          j726 (s8.1, x25, M54))),
                       ((8 : Int32), (
                          vC (13, 157) s23.2 a0 <|
                          cI (rec 242 [va_rf a0] s23.2) fun x56 M55 =>
                          ptI (13, 157) M55 a0 76 x1 fun M57 =>
                          ptI (13, 157) M57 a0 73 x7 fun M58 =>
                          jn (fun (s59 : Int32) =>
                            some (.int s59, M58)) fun j715 =>
                          if s23.1 = ((34 : Int32)) then (
                            j715 ((0 : Int32))) else (
                            j715 x56))),
                       ((9 : Int32), (
                          vC (13, 157) s23.2 a0 <|
                          cV (rec 244 [va_rf a0, .int s23.1, .int s24, .int s8.2.1] s23.2) fun M60 =>
                          j726 (s8.1, x25, M60))),
                       ((10 : Int32), (
                          vC (13, 157) s23.2 a0 <|
                          cV (rec 244 [va_rf a0, .int s23.1, .int s24, .int s8.2.1] s23.2) fun M61 =>
                          j726 (s8.1, x25, M61))),
                       ((11 : Int32), (
                          vC (13, 157) s23.2 a0 <|
                          cV (rec 244 [va_rf a0, .int s23.1, .int s24, .int s8.2.1] s23.2) fun M62 =>
                          j726 (s8.1, x25, M62))),
                       ((12 : Int32), (
                          vC (13, 157) s23.2 a0 <|
                          cV (rec 244 [va_rf a0, .int s23.1, .int s24, .int s8.2.1] s23.2) fun M63 =>
                          j726 (s8.1, x25, M63))),
                       ((13 : Int32), (
                          vC (13, 157) s23.2 a0 <|
                          cV (rec 244 [va_rf a0, .int s23.1, .int s24, .int s8.2.1] s23.2) fun M64 =>
                          j726 (s8.1, x25, M64))),
                       ((14 : Int32), (
                          vC (13, 157) s23.2 a0 <|
                          cV (rec 244 [va_rf a0, .int s23.1, .int s24, .int s8.2.1] s23.2) fun M65 =>
                          j726 (s8.1, x25, M65))),
                       ((15 : Int32), (
                          vC (13, 157) s23.2 a0 <|
                          cV (rec 244 [va_rf a0, .int s23.1, .int s24, .int s8.2.1] s23.2) fun M66 =>
                          j726 (s8.1, x25, M66))),
                       ((16 : Int32), (
                          vC (13, 157) s23.2 a0 <|
                          cV (rec 244 [va_rf a0, .int s23.1, .int s24, .int s8.2.1] s23.2) fun M67 =>
                          j726 (s8.1, x25, M67))),
                       ((17 : Int32), (
                          vC (13, 157) s23.2 a0 <|
                          cV (rec 244 [va_rf a0, .int s23.1, .int s24, .int s8.2.1] s23.2) fun M68 =>
                          j726 (s8.1, x25, M68))),
                       ((18 : Int32), (
                          vC (13, 157) s23.2 a0 <|
                          cV (rec 244 [va_rf a0, .int s23.1, .int s24, .int s8.2.1] s23.2) fun M69 =>
                          j726 (s8.1, x25, M69))),
                       ((19 : Int32), (
                          vC (13, 157) s23.2 a0 <|
                          cV (rec 244 [va_rf a0, .int s23.1, .int s24, .int s8.2.1] s23.2) fun M70 =>
                          j726 (s8.1, x25, M70))),
                       ((20 : Int32), (
                          vC (13, 157) s23.2 a0 <|
                          cV (rec 244 [va_rf a0, .int s23.1, .int s24, .int s8.2.1] s23.2) fun M71 =>
                          j726 (s8.1, x25, M71))),
                       ((21 : Int32), (
                          vC (13, 157) s23.2 a0 <|
                          cV (rec 244 [va_rf a0, .int s23.1, .int s24, .int s8.2.1] s23.2) fun M72 =>
                          j726 (s8.1, x25, M72))),
                       ((22 : Int32), (
                          vC (13, 157) s23.2 a0 <|
                          cV (rec 244 [va_rf a0, .int s23.1, .int s24, .int s8.2.1] s23.2) fun M73 =>
                          j726 (s8.1, x25, M73))),
                       ((23 : Int32), (
                          vC (13, 157) s23.2 a0 <|
                          cV (rec 244 [va_rf a0, .int s23.1, .int s24, .int s8.2.1] s23.2) fun M74 =>
                          j726 (s8.1, x25, M74))),
                       ((24 : Int32), (
                          vC (13, 157) s23.2 a0 <|
                          cI (rec 242 [va_rf a0] s23.2) fun x76 M75 =>
                          jn (fun (s77 : Int32) =>
                            j726 (s8.1, s77, M75)) fun j580 =>
                          if x76 = 0 then (
                            jn (fun (s78 : Int32) =>
                              j580 (s24 + s78)) fun j574 =>
                            if ((1000 : Int32)) ≤ s8.2.1 then (
                              j574 ((1000 : Int32))) else (
                              j574 ((0 : Int32)))) else (
                            j580 x25))),
                       ((25 : Int32), (
                          jn (fun (s79 : Int32) =>
                            lt (s24 + s79) fun (x80 : Int32) =>
                            j726 (s8.1, x80, s23.2)) fun j637 =>
                          if ((1000 : Int32)) ≤ s8.2.1 then (
                            j637 ((1000 : Int32))) else (
                            j637 ((0 : Int32))))),
                       ((26 : Int32), (
                          gtP (13, 157) s23.2 a0 75 fun x81 =>
                          jn (fun (s82 : Int32) =>
                            asI 100 s23.2 x81 ((((25 : Int32)) * x1) + s8.1) ((s24 + s82)) fun M83 =>
                            lt (s8.1 + (1 : Int32)) fun (x84 : Int32) =>
                            j726 (x84, x25, M83)) fun j671 =>
                          if ((1000 : Int32)) ≤ s8.2.1 then (
                            j671 ((1000 : Int32))) else (
                            j671 ((0 : Int32))))),
                       ((27 : Int32), (
                          lt (s8.1 + (-1 : Int32)) fun (x85 : Int32) =>
                          j726 (x85, x25, s23.2))),
                       ((28 : Int32), (
                          vC (13, 157) s23.2 a0 <|
                          cV (rec 244 [va_rf a0, .int s23.1, .int s24, .int s8.2.1] s23.2) fun M86 =>
                          j726 (s8.1, x25, M86))),
                       ((29 : Int32), (
                          vC (13, 157) s23.2 a0 <|
                          cV (rec 244 [va_rf a0, .int s23.1, .int s24, .int s8.2.1] s23.2) fun M87 =>
                          j726 (s8.1, x25, M87))),
                       ((30 : Int32), (
                          vC (13, 157) s23.2 a0 <|
                          cV (rec 244 [va_rf a0, .int s23.1, .int s24, .int s8.2.1] s23.2) fun M88 =>
                          j726 (s8.1, x25, M88))),
                       ((31 : Int32), (
                          vC (13, 157) s23.2 a0 <|
                          cI (rec 242 [va_rf a0] s23.2) fun x90 M89 =>
                          jn (fun (s91 : Int32) =>
                            j726 (s8.1, s91, M89)) fun j615 =>
                          if x90 = 0 then (
                            j615 x25) else (
                            jn (fun (s92 : Int32) =>
                              j615 (s24 + s92)) fun j609 =>
                            if ((1000 : Int32)) ≤ s8.2.1 then (
                              j609 ((1000 : Int32))) else (
                              j609 ((0 : Int32)))))),
                       ((32 : Int32), (
                          vC (13, 157) s23.2 a0 <|
                          cV (rec 244 [va_rf a0, .int s23.1, .int s24, .int s8.2.1] s23.2) fun M93 =>
                          j726 (s8.1, x25, M93))),
                       ((33 : Int32), (
                          vC (13, 157) s23.2 a0 <|
                          cV (rec 244 [va_rf a0, .int s23.1, .int s24, .int s8.2.1] s23.2) fun M94 =>
                          j726 (s8.1, x25, M94))),
                       ((34 : Int32), (
                          vC (13, 157) s23.2 a0 <|
                          cI (rec 242 [va_rf a0] s23.2) fun x96 M95 =>
                          ptI (13, 157) M95 a0 76 x1 fun M97 =>
                          ptI (13, 157) M97 a0 73 x7 fun M98 =>
                          jn (fun (s99 : Int32) =>
                            some (.int s99, M98)) fun j715 =>
                          if s23.1 = ((34 : Int32)) then (
                            j715 ((0 : Int32))) else (
                            j715 x96)))] (
                        vC (13, 157) s23.2 a0 <|
                        cV (rec 244 [va_rf a0, .int s23.1, .int s24, .int s8.2.1] s23.2) fun M100 =>
                        j726 (s8.1, x25, M100))) fun j352 =>
                    jn (fun (s101 : Unit) =>
                      gtP (13, 157) s23.2 a0 31 fun x102 =>
                      alI 100 s23.2 x102 s18 fun x103 =>
                      j352 x103) fun j345 =>
                    if s22 = 0 then (
                      j345 ()) else (
                      if s23.1 = 0 then (
                        gtP (13, 157) s23.2 a0 31 fun x104 =>
                        alI 100 s23.2 x104 s18 fun x105 =>
                        j352 (x105 + ((1 : Int32)))) else (
                        j345 ()))) fun j321 =>
                  if s22 = 0 then (
                    gtP (13, 157) s20 a0 30 fun x106 =>
                    alI 101 s20 x106 s18 fun x107 =>
                    j321 (x107, s20)) else (
                    gtP (13, 157) s20 a0 30 fun x108 =>
                    alI 101 s20 x108 s18 fun x109 =>
                    cI (rec 233 [.int x109] s20) fun x111 M110 =>
                    j321 (x111, M110))) fun j294 =>
                if s8.2.1 = x21 then (
                  j294 ((1 : Int32))) else (
                  j294 ((0 : Int32)))) fun j280 =>
              if x19 = 0 then (
                j280 M17) else (
                gtP (13, 157) M17 a0 94 fun x112 =>
                alI 100 M17 x112 s18 fun x113 =>
                asI 100 M17 x112 s18 ((x113 + ((1 : Int32)))) fun M114 =>
                gtP (13, 157) M114 a0 95 fun x115 =>
                alI 100 M114 x115 s18 fun x116 =>
                gtP (13, 157) M114 a0 96 fun x117 =>
                alI 100 M114 x117 s18 fun x118 =>
                gtI (13, 157) M114 a0 93 fun x119 =>
                jn (fun (s120 : Int32) =>
                  asI 100 M114 x115 s18 ((x116 + s120)) fun M121 =>
                  gtP (13, 157) M121 a0 96 fun x122 =>
                  gtI (13, 157) M121 a0 93 fun x123 =>
                  asI 100 M121 x122 s18 x123 fun M124 =>
                  j280 M124) fun j267 =>
                if x118 = x119 then (
                  j267 ((0 : Int32))) else (
                  j267 ((1 : Int32))))) fun j220 =>
            if ((1000 : Int32)) ≤ s8.2.1 then (
              gtI (13, 157) M17 a0 67 fun x125 =>
              j220 ((((1000 : Int32)) * (x125 - ((1 : Int32)))) + s8.2.1)) else (
              gtI (13, 157) M17 a0 66 fun x126 =>
              j220 ((((1000 : Int32)) * x126) + s8.2.1))) else (
            ptI (13, 157) s10 a0 76 x1 fun M127 =>
            ptI (13, 157) M127 a0 73 x7 fun M128 =>
            some (.int ((0 : Int32)), M128))) fun j135 =>
        if x9 = 0 then (
          ptZ (13, 157) s8.2.2 a0 85 ((1 : Int32)) fun M129 =>
          vC (13, 157) M129 a0 <|
          cV (rec 239 [va_rf a0, .int ((6 : Int32)), .int s8.2.1, .int ((1 : Int32))] M129) fun M130 =>
          j135 M130) else (
          gtI (13, 157) s8.2.2 a0 83 fun x131 =>
          if x131 = 0 then (
            ptZ (13, 157) s8.2.2 a0 84 ((1 : Int32)) fun M132 =>
            ptZ (13, 157) M132 a0 85 ((1 : Int32)) fun M133 =>
            ptZ (13, 157) M133 a0 86 ((1 : Int32)) fun M134 =>
            j135 M134) else (
            j135 s8.2.2))) 4294967296 ((0 : Int32), a1, M6)) else (
      gtP (13, 157) s4.2 a0 74 fun x135 =>
      jn (fun (s136 : Int32) =>
        asI 100 s4.2 x135 ((((10 : Int32)) * x1) + s4.1) s136 fun M137 =>
        lt (s4.1 + (1 : Int32)) fun (x138 : Int32) =>
        j18 (x138, M137)) fun j60 =>
      if a2 ≤ s4.1 then (
        j60 ((0 : Int32))) else (
        gtP (13, 157) s4.2 a0 72 fun x139 =>
        gtI (13, 157) s4.2 a0 73 fun x140 =>
        alI 100 s4.2 x139 ((x140 - a2) + s4.1) fun x141 =>
        j60 x141))) 4294967296 ((0 : Int32), M3)
def b243 (rec : Nat → List Value → Mem → XA) (as : List Value) (M0 : Mem) : XA := aR as fun a0 as => aI as fun a1 as => aI as fun a2 as => aZ as (c243 rec a0 a1 a2 M0)
set_option maxRecDepth 100000 in
set_option maxHeartbeats 4000000 in
theorem k243 {S : XS} {G : XG} {K : Nat × Nat} {l : Launch} {d : Nat} {rec : Nat → List Value → Mem → XA} (hs : XSnd l xmt rec d) (a0 : Option Nat) (a1 : Int32) (a2 : Int32) (M0 : Mem) : Xe S G K l (yX12_done, cX12_done, 13, some .int) d 0 [some (va_rf a0), some (.int a1), some (.int a2), none, none, none, none, none, none, none, none, none, none] [] M0 (c243 rec a0 a1 a2 M0) := by
  unfold c243
  refine x_aload_n dX12_done_0 rfl ?_
  refine gfX12_629 rfl dX12_done_1 (fun x1 => ?_)
  refine x_istore_n (lo' := [some (va_rf a0), some (.int a1), some (.int a2), some (.int x1), none, none, none, none, none, none, none, none, none]) dX12_done_4 (by decide) rfl rfl ?_
  refine x_aload_n dX12_done_5 rfl ?_
  refine x_dup dX12_done_6 (xc1_r _) ?_
  refine gfX12_629 rfl dX12_done_7 (fun x2 => ?_)
  refine x_iconst (v := 1) dX12_done_10 (by decide) ?_
  refine x_iadd dX12_done_11 ?_
  refine pfX12_629 rfl dX12_done_12 (fun M3 => ?_)
  refine x_iconst (v := 0) dX12_done_15 (by decide) ?_
  refine x_istore (lo' := [some (va_rf a0), some (.int a1), some (.int a2), some (.int x1), some (.int ((0 : Int32))), none, none, none, none, none, none, none, none]) dX12_done_16 (by decide) rfl rfl ?_
  refine x_weak (by exact ⟨rfl, ⟨rfl, ⟨rfl, ⟨rfl, ⟨rfl, trivial⟩⟩⟩⟩⟩) (x_lp (σ := Int32 × Mem) 18 (fun s4 => [some (va_rf a0), some (.int a1), some (.int a2), some (.int x1), some (.int s4.1), none, none, none, none, none, none, none, none]) (fun s4 => []) (fun s4 => s4.2) (fun s4 j18 hj18 => ?_) 4294967296 ((0 : Int32), M3))
  · refine x_iload dX12_done_18 rfl ?_
    refine x_bipush (v := 10) dX12_done_20 (by decide) ?_
    refine x_icmp_ge (tgt := 67) dX12_done_22 (by decide) (fun _ => ?_) (fun _ => ?_)
    · refine x_aload_n dX12_done_67 rfl ?_
      refine x_dup dX12_done_68 (xc1_r _) ?_
      refine gfX12_638 rfl dX12_done_69 (fun x5 => ?_)
      refine x_iload_n dX12_done_72 rfl ?_
      refine x_isub dX12_done_73 ?_
      refine pfX12_638 rfl dX12_done_74 (fun M6 => ?_)
      refine x_aload_n dX12_done_77 rfl ?_
      refine gfX12_638 rfl dX12_done_78 (fun x7 => ?_)
      refine x_istore (lo' := [some (va_rf a0), some (.int a1), some (.int a2), some (.int x1), some (.int x7), none, none, none, none, none, none, none, none]) dX12_done_81 (by decide) rfl rfl ?_
      refine x_iconst (v := 0) dX12_done_83 (by decide) ?_
      refine x_istore (lo' := [some (va_rf a0), some (.int a1), some (.int a2), some (.int x1), some (.int x7), some (.int ((0 : Int32))), none, none, none, none, none, none, none]) dX12_done_84 (by decide) rfl rfl ?_
      refine x_iload_n dX12_done_86 rfl ?_
      refine x_istore (lo' := [some (va_rf a0), some (.int a1), some (.int a2), some (.int x1), some (.int x7), some (.int ((0 : Int32))), some (.int a1), none, none, none, none, none, none]) dX12_done_87 (by decide) rfl rfl ?_
      refine x_weak (by exact ⟨rfl, ⟨rfl, ⟨rfl, ⟨rfl, ⟨rfl, trivial⟩⟩⟩⟩⟩) (x_lp (σ := Int32 × Int32 × Mem) 89 (fun s8 => [some (va_rf a0), none, none, some (.int x1), some (.int x7), some (.int s8.1), some (.int s8.2.1), none, none, none, none, none, none]) (fun s8 => []) (fun s8 => s8.2.2) (fun s8 j89 hj89 => ?_) 4294967296 ((0 : Int32), a1, M6))
      · refine x_aload_n dX12_done_89 rfl ?_
        refine gfX12_641 rfl dX12_done_90 (fun x9 => ?_)
        refine x_jn (σ := Mem) 135 (fun s10 => [some (va_rf a0), none, none, some (.int x1), some (.int x7), some (.int s8.1), some (.int s8.2.1), none, none, none, none, none, none]) (fun s10 => []) (fun s10 => s10) (fun s10 => ?_) (fun j135 hj135 => ?_)
        · refine x_aload_n dX12_done_135 rfl ?_
          refine gfX12_635 rfl dX12_done_136 (fun x11 => ?_)
          refine x_if_eq (tgt := 155) dX12_done_139 (by decide) (fun _ => ?_) (fun _ => ?_)
          · refine x_aload_n dX12_done_155 rfl ?_
            refine x_dup dX12_done_156 (xc1_r _) ?_
            refine gfX12_641 rfl dX12_done_157 (fun x12 => ?_)
            refine x_iconst (v := 1) dX12_done_160 (by decide) ?_
            refine x_isub dX12_done_161 ?_
            refine pfX12_641 rfl dX12_done_162 (fun M13 => ?_)
            refine x_aload_n dX12_done_165 rfl ?_
            refine x_dup dX12_done_166 (xc1_r _) ?_
            refine gfX12_650 rfl dX12_done_167 (fun x14 => ?_)
            refine x_iconst (v := 1) dX12_done_170 (by decide) ?_
            refine x_iadd dX12_done_171 ?_
            refine pfX12_650 rfl dX12_done_172 (fun M15 => ?_)
            refine x_aload_n dX12_done_175 rfl ?_
            refine x_dup dX12_done_176 (xc1_r _) ?_
            refine gfX12_644 rfl dX12_done_177 (fun x16 => ?_)
            refine x_iconst (v := 1) dX12_done_180 (by decide) ?_
            refine x_isub dX12_done_181 ?_
            refine pfX12_644 rfl dX12_done_182 (fun M17 => ?_)
            refine x_iload dX12_done_185 rfl ?_
            refine x_sipush (v := 1000) dX12_done_187 (by decide) ?_
            refine x_jn (σ := Int32) 220 (fun s18 => [some (va_rf a0), none, none, some (.int x1), some (.int x7), some (.int s8.1), some (.int s8.2.1), none, none, none, none, none, none]) (fun s18 => [.int s18]) (fun s18 => M17) (fun s18 => ?_) (fun j220 hj220 => ?_)
            · refine x_istore (lo' := [some (va_rf a0), none, none, some (.int x1), some (.int x7), some (.int s8.1), some (.int s8.2.1), some (.int s18), none, none, none, none, none]) dX12_done_220 (by decide) rfl rfl ?_
              refine x_aload_n dX12_done_222 rfl ?_
              refine gfX12_653 rfl dX12_done_223 (fun x19 => ?_)
              refine x_jn (σ := Mem) 280 (fun s20 => [some (va_rf a0), none, none, some (.int x1), some (.int x7), some (.int s8.1), some (.int s8.2.1), some (.int s18), none, none, none, none, none]) (fun s20 => []) (fun s20 => s20) (fun s20 => ?_) (fun j280 hj280 => ?_)
              · refine x_iload dX12_done_280 rfl ?_
                refine x_aload_n dX12_done_282 rfl ?_
                refine gfX12_246 rfl dX12_done_283 (fun x21 => ?_)
                refine x_jn (σ := Int32) 294 (fun s22 => [some (va_rf a0), none, none, some (.int x1), some (.int x7), some (.int s8.1), some (.int s8.2.1), some (.int s18), none, none, none, none, none]) (fun s22 => [.int s22]) (fun s22 => s20) (fun s22 => ?_) (fun j294 hj294 => ?_)
                · refine x_istore (lo' := [some (va_rf a0), none, none, some (.int x1), some (.int x7), some (.int s8.1), some (.int s8.2.1), some (.int s18), some (.int s22), none, none, none, none]) dX12_done_294 (by decide) rfl rfl ?_
                  refine x_iload dX12_done_296 rfl ?_
                  refine x_jn (σ := Int32 × Mem) 321 (fun s23 => [some (va_rf a0), none, none, some (.int x1), some (.int x7), some (.int s8.1), some (.int s8.2.1), some (.int s18), some (.int s22), none, none, none, none]) (fun s23 => [.int s23.1]) (fun s23 => s23.2) (fun s23 => ?_) (fun j321 hj321 => ?_)
                  · refine x_istore (lo' := [some (va_rf a0), none, none, some (.int x1), some (.int x7), some (.int s8.1), some (.int s8.2.1), some (.int s18), some (.int s22), some (.int s23.1), none, none, none]) dX12_done_321 (by decide) rfl rfl ?_
                    refine x_iload dX12_done_323 rfl ?_
                    refine x_jn (σ := Int32) 352 (fun s24 => [some (va_rf a0), none, none, some (.int x1), some (.int x7), some (.int s8.1), some (.int s8.2.1), none, none, some (.int s23.1), none, none, none]) (fun s24 => [.int s24]) (fun s24 => s23.2) (fun s24 => ?_) (fun j352 hj352 => ?_)
                    · refine x_istore (lo' := [some (va_rf a0), none, none, some (.int x1), some (.int x7), some (.int s8.1), some (.int s8.2.1), none, none, some (.int s23.1), some (.int s24), none, none]) dX12_done_352 (by decide) rfl rfl ?_
                      refine x_iload dX12_done_354 rfl ?_
                      refine x_iconst (v := 1) dX12_done_356 (by decide) ?_
                      refine x_iadd dX12_done_357 ?_
                      refine x_ltI (fun x25 => ?_)
                      refine x_istore (lo' := [some (va_rf a0), none, none, some (.int x1), some (.int x7), some (.int s8.1), some (.int s8.2.1), none, none, some (.int s23.1), some (.int s24), some (.int x25), none]) dX12_done_358 (by decide) rfl rfl ?_
                      refine x_iload dX12_done_360 rfl ?_
                      refine x_jn (σ := Int32 × Int32 × Mem) 726 (fun s26 => [some (va_rf a0), none, none, some (.int x1), some (.int x7), some (.int s26.1), none, none, none, none, none, some (.int s26.2.1), none]) (fun s26 => []) (fun s26 => s26.2.2) (fun s26 => ?_) (fun j726 hj726 => ?_)
                      · refine x_aload_n dX12_done_726 rfl ?_
                        refine gfX12_635 rfl dX12_done_727 (fun x27 => ?_)
                        refine x_if_eq (tgt := 746) dX12_done_730 (by decide) (fun _ => ?_) (fun _ => ?_)
                        · refine x_aload_n dX12_done_746 rfl ?_
                          refine gfX12_610 rfl dX12_done_747 (fun x28 => ?_)
                          refine x_jn (σ := Int32 × Int32 × Mem) 815 (fun s29 => [some (va_rf a0), none, none, some (.int x1), some (.int x7), some (.int s29.1), none, none, none, none, none, some (.int s29.2.1), none]) (fun s29 => []) (fun s29 => s29.2.2) (fun s29 => ?_) (fun j815 hj815 => ?_)
                          · refine x_iload dX12_done_815 rfl ?_
                            refine x_istore (lo' := [some (va_rf a0), none, none, some (.int x1), some (.int x7), some (.int s29.1), some (.int s29.2.1), none, none, none, none, some (.int s29.2.1), none]) dX12_done_817 (by decide) rfl rfl ?_
                            refine x_goto (tgt := 89) dX12_done_819 (by decide) ?_
                            exact x_weak (by exact ⟨rfl, ⟨rfl, ⟨rfl, ⟨rfl, ⟨rfl, trivial⟩⟩⟩⟩⟩) (hj89 (s29.1, s29.2.1, s29.2.2))
                          refine x_if_eq (tgt := 815) dX12_done_750 (by decide) (fun _ => ?_) (fun _ => ?_)
                          · exact x_weak (by exact ⟨rfl, ⟨rfl, ⟨rfl, ⟨rfl, ⟨rfl, trivial⟩⟩⟩⟩⟩) (hj815 (s26.1, s26.2.1, s26.2.2))
                          · refine x_aload_n dX12_done_753 rfl ?_
                            refine x_iload dX12_done_754 rfl ?_
                            refine pfX12_638 rfl dX12_done_756 (fun M30 => ?_)
                            refine x_aload_n dX12_done_759 rfl ?_
                            refine x_iload_n dX12_done_760 rfl ?_
                            refine x_iconst (v := 1) dX12_done_761 (by decide) ?_
                            refine x_iadd dX12_done_762 ?_
                            refine pfX12_629 rfl dX12_done_763 (fun M31 => ?_)
                            refine x_aload_n dX12_done_766 rfl ?_
                            refine gfX12_619 rfl dX12_done_767 (fun x32 => ?_)
                            refine x_jn (σ := Unit) 778 (fun s33 => [some (va_rf a0), none, none, some (.int x1), none, none, none, none, none, none, none, none, none]) (fun s33 => []) (fun s33 => M31) (fun s33 => ?_) (fun j778 hj778 => ?_)
                            · refine x_aload_n dX12_done_778 rfl ?_
                              refine x_iload_n dX12_done_779 rfl ?_
                              refine pfX12_629 rfl dX12_done_780 (fun M34 => ?_)
                              refine x_iconst (v := 0) dX12_done_783 (by decide) ?_
                              exact x_iret rfl dX12_done_784
                            refine x_if_ne (tgt := 778) dX12_done_770 (by decide) (fun _ => ?_) (fun _ => ?_)
                            · refine x_iload dX12_done_773 rfl ?_
                              refine x_if_ne (tgt := 785) dX12_done_775 (by decide) (fun _ => ?_) (fun _ => ?_)
                              · exact x_weak (by exact ⟨rfl, ⟨rfl, trivial⟩⟩) (hj778 ())
                              · refine x_aload_n dX12_done_785 rfl ?_
                                refine x_iconst (v := 0) dX12_done_786 (by decide) ?_
                                refine pfX12_610 rfl dX12_done_787 (fun M35 => ?_)
                                refine x_iincN (v := -1) (lo' := fun x36 => [some (va_rf a0), none, none, some (.int x1), some (.int x7), some (.int x36), none, none, none, none, none, some (.int s26.2.1), none]) (by decide) dX12_done_790 rfl (by decide) rfl (fun _ => rfl) (fun x36 => ?_)
                                refine x_aload_n dX12_done_793 rfl ?_
                                refine x_aload_n dX12_done_794 rfl ?_
                                refine gfX12_613 rfl dX12_done_795 (fun x37 => ?_)
                                refine cmX12_659 rfl hs (Nat.le_of_ble_eq_true rfl) dX12_done_798 (fun M38 => ?_)
                                refine x_aload_n dX12_done_801 rfl ?_
                                refine gfX12_236 rfl dX12_done_802 (fun x39 => ?_)
                                refine x_bipush (v := 25) dX12_done_805 (by decide) ?_
                                refine x_iload_n dX12_done_807 rfl ?_
                                refine x_imul dX12_done_808 ?_
                                refine x_iload dX12_done_809 rfl ?_
                                refine x_iadd dX12_done_811 ?_
                                refine x_iald dX12_done_812 (fun x40 => ?_)
                                refine x_istore (lo' := [some (va_rf a0), none, none, some (.int x1), some (.int x7), some (.int x36), none, none, none, none, none, some (.int x40), none]) dX12_done_813 (by decide) rfl rfl ?_
                                exact x_weak (by exact ⟨rfl, ⟨rfl, ⟨rfl, ⟨rfl, ⟨rfl, trivial⟩⟩⟩⟩⟩) (hj815 (x36, x40, M38))
                            · exact x_weak (by exact ⟨rfl, ⟨rfl, trivial⟩⟩) (hj778 ())
                        · refine x_aload_n dX12_done_733 rfl ?_
                          refine x_iload_n dX12_done_734 rfl ?_
                          refine pfX12_629 rfl dX12_done_735 (fun M41 => ?_)
                          refine x_aload_n dX12_done_738 rfl ?_
                          refine x_iload dX12_done_739 rfl ?_
                          refine pfX12_638 rfl dX12_done_741 (fun M42 => ?_)
                          refine x_iconst (v := 0) dX12_done_744 (by decide) ?_
                          exact x_iret rfl dX12_done_745
                      refine x_table (tgt := 716) dX12_done_362 [(1, 512), (2, 531), (3, 716), (4, 716), (5, 716), (6, 716), (7, 716), (8, 685), (9, 716), (10, 716), (11, 716), (12, 716), (13, 716), (14, 716), (15, 716), (16, 716), (17, 716), (18, 716), (19, 716), (20, 716), (21, 716), (22, 716), (23, 716), (24, 550), (25, 620), (26, 643), (27, 679), (28, 716), (29, 716), (30, 716), (31, 585), (32, 716), (33, 716), (34, 685)] (by decide +kernel) (by decide +kernel) (by decide) ?_ ?_
                      · refine swG_d (by decide) ?_ (swG_d (by decide) ?_ (swG_d (by decide) ?_ (swG_d (by decide) ?_ (swG_d (by decide) ?_ (swG_d (by decide) ?_ (swG_d (by decide) ?_ (swG_d (by decide) ?_ (swG_d (by decide) ?_ (swG_d (by decide) ?_ (swG_d (by decide) ?_ (swG_d (by decide) ?_ (swG_d (by decide) ?_ (swG_d (by decide) ?_ (swG_d (by decide) ?_ (swG_d (by decide) ?_ (swG_d (by decide) ?_ (swG_d (by decide) ?_ (swG_d (by decide) ?_ (swG_d (by decide) ?_ (swG_d (by decide) ?_ (swG_d (by decide) ?_ (swG_d (by decide) ?_ (swG_d (by decide) ?_ (swG_d (by decide) ?_ (swG_d (by decide) ?_ (swG_d (by decide) ?_ (swG_d (by decide) ?_ (swG_d (by decide) ?_ (swG_d (by decide) ?_ (swG_d (by decide) ?_ (swG_d (by decide) ?_ (swG_d (by decide) ?_ (swG_d (by decide) ?_ (trivial))))))))))))))))))))))))))))))))))
                        · refine x_aload_n dX12_done_512 rfl ?_
                          refine x_aload_n dX12_done_513 rfl ?_
                          refine gfX12_233 rfl dX12_done_514 (fun x43 => ?_)
                          refine x_bipush (v := 10) dX12_done_517 (by decide) ?_
                          refine x_iload_n dX12_done_519 rfl ?_
                          refine x_imul dX12_done_520 ?_
                          refine x_iload dX12_done_521 rfl ?_
                          refine x_iadd dX12_done_523 ?_
                          refine x_iald dX12_done_524 (fun x44 => ?_)
                          refine cmX12_659 rfl hs (Nat.le_of_ble_eq_true rfl) dX12_done_525 (fun M45 => ?_)
                          refine x_goto (tgt := 726) dX12_done_528 (by decide) ?_
                          exact x_weak (by exact ⟨rfl, ⟨rfl, ⟨rfl, ⟨rfl, ⟨rfl, trivial⟩⟩⟩⟩⟩) (hj726 (s8.1, x25, M45))
                        · refine x_aload_n dX12_done_531 rfl ?_
                          refine gfX12_233 rfl dX12_done_532 (fun x46 => ?_)
                          refine x_bipush (v := 10) dX12_done_535 (by decide) ?_
                          refine x_iload_n dX12_done_537 rfl ?_
                          refine x_imul dX12_done_538 ?_
                          refine x_iload dX12_done_539 rfl ?_
                          refine x_iadd dX12_done_541 ?_
                          refine x_aload_n dX12_done_542 rfl ?_
                          refine cmX12_662 rfl hs (Nat.le_of_ble_eq_true rfl) dX12_done_543 (fun x48 M47 => ?_)
                          refine x_iast dX12_done_546 (fun M49 => ?_)
                          refine x_goto (tgt := 726) dX12_done_547 (by decide) ?_
                          exact x_weak (by exact ⟨rfl, ⟨rfl, ⟨rfl, ⟨rfl, ⟨rfl, trivial⟩⟩⟩⟩⟩) (hj726 (s8.1, x25, M49))
                        · refine x_aload_n dX12_done_716 rfl ?_
                          refine x_iload dX12_done_717 rfl ?_
                          refine x_iload dX12_done_719 rfl ?_
                          refine x_iload dX12_done_721 rfl ?_
                          refine cmX12_665 rfl hs (Nat.le_of_ble_eq_true rfl) dX12_done_723 (fun M50 => ?_)
                          exact x_weak (by exact ⟨rfl, ⟨rfl, ⟨rfl, ⟨rfl, ⟨rfl, trivial⟩⟩⟩⟩⟩) (hj726 (s8.1, x25, M50))
                        · refine x_aload_n dX12_done_716 rfl ?_
                          refine x_iload dX12_done_717 rfl ?_
                          refine x_iload dX12_done_719 rfl ?_
                          refine x_iload dX12_done_721 rfl ?_
                          refine cmX12_665 rfl hs (Nat.le_of_ble_eq_true rfl) dX12_done_723 (fun M51 => ?_)
                          exact x_weak (by exact ⟨rfl, ⟨rfl, ⟨rfl, ⟨rfl, ⟨rfl, trivial⟩⟩⟩⟩⟩) (hj726 (s8.1, x25, M51))
                        · refine x_aload_n dX12_done_716 rfl ?_
                          refine x_iload dX12_done_717 rfl ?_
                          refine x_iload dX12_done_719 rfl ?_
                          refine x_iload dX12_done_721 rfl ?_
                          refine cmX12_665 rfl hs (Nat.le_of_ble_eq_true rfl) dX12_done_723 (fun M52 => ?_)
                          exact x_weak (by exact ⟨rfl, ⟨rfl, ⟨rfl, ⟨rfl, ⟨rfl, trivial⟩⟩⟩⟩⟩) (hj726 (s8.1, x25, M52))
                        · refine x_aload_n dX12_done_716 rfl ?_
                          refine x_iload dX12_done_717 rfl ?_
                          refine x_iload dX12_done_719 rfl ?_
                          refine x_iload dX12_done_721 rfl ?_
                          refine cmX12_665 rfl hs (Nat.le_of_ble_eq_true rfl) dX12_done_723 (fun M53 => ?_)
                          exact x_weak (by exact ⟨rfl, ⟨rfl, ⟨rfl, ⟨rfl, ⟨rfl, trivial⟩⟩⟩⟩⟩) (hj726 (s8.1, x25, M53))
                        · refine x_aload_n dX12_done_716 rfl ?_
                          refine x_iload dX12_done_717 rfl ?_
                          refine x_iload dX12_done_719 rfl ?_
                          refine x_iload dX12_done_721 rfl ?_
                          refine cmX12_665 rfl hs (Nat.le_of_ble_eq_true rfl) dX12_done_723 (fun M54 => ?_)
                          exact x_weak (by exact ⟨rfl, ⟨rfl, ⟨rfl, ⟨rfl, ⟨rfl, trivial⟩⟩⟩⟩⟩) (hj726 (s8.1, x25, M54))
                        · refine x_aload_n dX12_done_685 rfl ?_
                          refine cmX12_662 rfl hs (Nat.le_of_ble_eq_true rfl) dX12_done_686 (fun x56 M55 => ?_)
                          refine x_istore (lo' := [some (va_rf a0), none, none, some (.int x1), some (.int x7), some (.int s8.1), some (.int s8.2.1), none, none, some (.int s23.1), some (.int s24), some (.int x25), some (.int x56)]) dX12_done_689 (by decide) rfl rfl ?_
                          refine x_aload_n dX12_done_691 rfl ?_
                          refine x_iload_n dX12_done_692 rfl ?_
                          refine pfX12_629 rfl dX12_done_693 (fun M57 => ?_)
                          refine x_aload_n dX12_done_696 rfl ?_
                          refine x_iload dX12_done_697 rfl ?_
                          refine pfX12_638 rfl dX12_done_699 (fun M58 => ?_)
                          refine x_iload dX12_done_702 rfl ?_
                          refine x_bipush (v := 34) dX12_done_704 (by decide) ?_
                          refine x_jn (σ := Int32) 715 (fun s59 => [none, none, none, none, none, none, none, none, none, none, none, none, none]) (fun s59 => [.int s59]) (fun s59 => M58) (fun s59 => ?_) (fun j715 hj715 => ?_)
                          · exact x_iret rfl dX12_done_715
                          refine x_icmp_ne (tgt := 713) dX12_done_706 (by decide) (fun _ => ?_) (fun _ => ?_)
                          · refine x_iconst (v := 0) dX12_done_709 (by decide) ?_
                            refine x_goto (tgt := 715) dX12_done_710 (by decide) ?_
                            exact x_weak (by exact trivial) (hj715 ((0 : Int32)))
                          · refine x_iload dX12_done_713 rfl ?_
                            exact x_weak (by exact trivial) (hj715 x56)
                        · refine x_aload_n dX12_done_716 rfl ?_
                          refine x_iload dX12_done_717 rfl ?_
                          refine x_iload dX12_done_719 rfl ?_
                          refine x_iload dX12_done_721 rfl ?_
                          refine cmX12_665 rfl hs (Nat.le_of_ble_eq_true rfl) dX12_done_723 (fun M60 => ?_)
                          exact x_weak (by exact ⟨rfl, ⟨rfl, ⟨rfl, ⟨rfl, ⟨rfl, trivial⟩⟩⟩⟩⟩) (hj726 (s8.1, x25, M60))
                        · refine x_aload_n dX12_done_716 rfl ?_
                          refine x_iload dX12_done_717 rfl ?_
                          refine x_iload dX12_done_719 rfl ?_
                          refine x_iload dX12_done_721 rfl ?_
                          refine cmX12_665 rfl hs (Nat.le_of_ble_eq_true rfl) dX12_done_723 (fun M61 => ?_)
                          exact x_weak (by exact ⟨rfl, ⟨rfl, ⟨rfl, ⟨rfl, ⟨rfl, trivial⟩⟩⟩⟩⟩) (hj726 (s8.1, x25, M61))
                        · refine x_aload_n dX12_done_716 rfl ?_
                          refine x_iload dX12_done_717 rfl ?_
                          refine x_iload dX12_done_719 rfl ?_
                          refine x_iload dX12_done_721 rfl ?_
                          refine cmX12_665 rfl hs (Nat.le_of_ble_eq_true rfl) dX12_done_723 (fun M62 => ?_)
                          exact x_weak (by exact ⟨rfl, ⟨rfl, ⟨rfl, ⟨rfl, ⟨rfl, trivial⟩⟩⟩⟩⟩) (hj726 (s8.1, x25, M62))
                        · refine x_aload_n dX12_done_716 rfl ?_
                          refine x_iload dX12_done_717 rfl ?_
                          refine x_iload dX12_done_719 rfl ?_
                          refine x_iload dX12_done_721 rfl ?_
                          refine cmX12_665 rfl hs (Nat.le_of_ble_eq_true rfl) dX12_done_723 (fun M63 => ?_)
                          exact x_weak (by exact ⟨rfl, ⟨rfl, ⟨rfl, ⟨rfl, ⟨rfl, trivial⟩⟩⟩⟩⟩) (hj726 (s8.1, x25, M63))
                        · refine x_aload_n dX12_done_716 rfl ?_
                          refine x_iload dX12_done_717 rfl ?_
                          refine x_iload dX12_done_719 rfl ?_
                          refine x_iload dX12_done_721 rfl ?_
                          refine cmX12_665 rfl hs (Nat.le_of_ble_eq_true rfl) dX12_done_723 (fun M64 => ?_)
                          exact x_weak (by exact ⟨rfl, ⟨rfl, ⟨rfl, ⟨rfl, ⟨rfl, trivial⟩⟩⟩⟩⟩) (hj726 (s8.1, x25, M64))
                        · refine x_aload_n dX12_done_716 rfl ?_
                          refine x_iload dX12_done_717 rfl ?_
                          refine x_iload dX12_done_719 rfl ?_
                          refine x_iload dX12_done_721 rfl ?_
                          refine cmX12_665 rfl hs (Nat.le_of_ble_eq_true rfl) dX12_done_723 (fun M65 => ?_)
                          exact x_weak (by exact ⟨rfl, ⟨rfl, ⟨rfl, ⟨rfl, ⟨rfl, trivial⟩⟩⟩⟩⟩) (hj726 (s8.1, x25, M65))
                        · refine x_aload_n dX12_done_716 rfl ?_
                          refine x_iload dX12_done_717 rfl ?_
                          refine x_iload dX12_done_719 rfl ?_
                          refine x_iload dX12_done_721 rfl ?_
                          refine cmX12_665 rfl hs (Nat.le_of_ble_eq_true rfl) dX12_done_723 (fun M66 => ?_)
                          exact x_weak (by exact ⟨rfl, ⟨rfl, ⟨rfl, ⟨rfl, ⟨rfl, trivial⟩⟩⟩⟩⟩) (hj726 (s8.1, x25, M66))
                        · refine x_aload_n dX12_done_716 rfl ?_
                          refine x_iload dX12_done_717 rfl ?_
                          refine x_iload dX12_done_719 rfl ?_
                          refine x_iload dX12_done_721 rfl ?_
                          refine cmX12_665 rfl hs (Nat.le_of_ble_eq_true rfl) dX12_done_723 (fun M67 => ?_)
                          exact x_weak (by exact ⟨rfl, ⟨rfl, ⟨rfl, ⟨rfl, ⟨rfl, trivial⟩⟩⟩⟩⟩) (hj726 (s8.1, x25, M67))
                        · refine x_aload_n dX12_done_716 rfl ?_
                          refine x_iload dX12_done_717 rfl ?_
                          refine x_iload dX12_done_719 rfl ?_
                          refine x_iload dX12_done_721 rfl ?_
                          refine cmX12_665 rfl hs (Nat.le_of_ble_eq_true rfl) dX12_done_723 (fun M68 => ?_)
                          exact x_weak (by exact ⟨rfl, ⟨rfl, ⟨rfl, ⟨rfl, ⟨rfl, trivial⟩⟩⟩⟩⟩) (hj726 (s8.1, x25, M68))
                        · refine x_aload_n dX12_done_716 rfl ?_
                          refine x_iload dX12_done_717 rfl ?_
                          refine x_iload dX12_done_719 rfl ?_
                          refine x_iload dX12_done_721 rfl ?_
                          refine cmX12_665 rfl hs (Nat.le_of_ble_eq_true rfl) dX12_done_723 (fun M69 => ?_)
                          exact x_weak (by exact ⟨rfl, ⟨rfl, ⟨rfl, ⟨rfl, ⟨rfl, trivial⟩⟩⟩⟩⟩) (hj726 (s8.1, x25, M69))
                        · refine x_aload_n dX12_done_716 rfl ?_
                          refine x_iload dX12_done_717 rfl ?_
                          refine x_iload dX12_done_719 rfl ?_
                          refine x_iload dX12_done_721 rfl ?_
                          refine cmX12_665 rfl hs (Nat.le_of_ble_eq_true rfl) dX12_done_723 (fun M70 => ?_)
                          exact x_weak (by exact ⟨rfl, ⟨rfl, ⟨rfl, ⟨rfl, ⟨rfl, trivial⟩⟩⟩⟩⟩) (hj726 (s8.1, x25, M70))
                        · refine x_aload_n dX12_done_716 rfl ?_
                          refine x_iload dX12_done_717 rfl ?_
                          refine x_iload dX12_done_719 rfl ?_
                          refine x_iload dX12_done_721 rfl ?_
                          refine cmX12_665 rfl hs (Nat.le_of_ble_eq_true rfl) dX12_done_723 (fun M71 => ?_)
                          exact x_weak (by exact ⟨rfl, ⟨rfl, ⟨rfl, ⟨rfl, ⟨rfl, trivial⟩⟩⟩⟩⟩) (hj726 (s8.1, x25, M71))
                        · refine x_aload_n dX12_done_716 rfl ?_
                          refine x_iload dX12_done_717 rfl ?_
                          refine x_iload dX12_done_719 rfl ?_
                          refine x_iload dX12_done_721 rfl ?_
                          refine cmX12_665 rfl hs (Nat.le_of_ble_eq_true rfl) dX12_done_723 (fun M72 => ?_)
                          exact x_weak (by exact ⟨rfl, ⟨rfl, ⟨rfl, ⟨rfl, ⟨rfl, trivial⟩⟩⟩⟩⟩) (hj726 (s8.1, x25, M72))
                        · refine x_aload_n dX12_done_716 rfl ?_
                          refine x_iload dX12_done_717 rfl ?_
                          refine x_iload dX12_done_719 rfl ?_
                          refine x_iload dX12_done_721 rfl ?_
                          refine cmX12_665 rfl hs (Nat.le_of_ble_eq_true rfl) dX12_done_723 (fun M73 => ?_)
                          exact x_weak (by exact ⟨rfl, ⟨rfl, ⟨rfl, ⟨rfl, ⟨rfl, trivial⟩⟩⟩⟩⟩) (hj726 (s8.1, x25, M73))
                        · refine x_aload_n dX12_done_716 rfl ?_
                          refine x_iload dX12_done_717 rfl ?_
                          refine x_iload dX12_done_719 rfl ?_
                          refine x_iload dX12_done_721 rfl ?_
                          refine cmX12_665 rfl hs (Nat.le_of_ble_eq_true rfl) dX12_done_723 (fun M74 => ?_)
                          exact x_weak (by exact ⟨rfl, ⟨rfl, ⟨rfl, ⟨rfl, ⟨rfl, trivial⟩⟩⟩⟩⟩) (hj726 (s8.1, x25, M74))
                        · refine x_aload_n dX12_done_550 rfl ?_
                          refine cmX12_662 rfl hs (Nat.le_of_ble_eq_true rfl) dX12_done_551 (fun x76 M75 => ?_)
                          refine x_jn (σ := Int32) 580 (fun s77 => [some (va_rf a0), none, none, some (.int x1), some (.int x7), some (.int s8.1), none, none, none, none, none, none, none]) (fun s77 => [.int s77]) (fun s77 => M75) (fun s77 => ?_) (fun j580 hj580 => ?_)
                          · refine x_istore (lo' := [some (va_rf a0), none, none, some (.int x1), some (.int x7), some (.int s8.1), none, none, none, none, none, some (.int s77), none]) dX12_done_580 (by decide) rfl rfl ?_
                            refine x_goto (tgt := 726) dX12_done_582 (by decide) ?_
                            exact x_weak (by exact ⟨rfl, ⟨rfl, ⟨rfl, ⟨rfl, ⟨rfl, trivial⟩⟩⟩⟩⟩) (hj726 (s8.1, s77, M75))
                          refine x_if_ne (tgt := 578) dX12_done_554 (by decide) (fun _ => ?_) (fun _ => ?_)
                          · refine x_iload dX12_done_557 rfl ?_
                            refine x_iload dX12_done_559 rfl ?_
                            refine x_sipush (v := 1000) dX12_done_561 (by decide) ?_
                            refine x_jn (σ := Int32) 574 (fun s78 => [some (va_rf a0), none, none, some (.int x1), some (.int x7), some (.int s8.1), none, none, none, none, none, none, none]) (fun s78 => [.int s78, .int s24]) (fun s78 => M75) (fun s78 => ?_) (fun j574 hj574 => ?_)
                            · refine x_iadd dX12_done_574 ?_
                              refine x_goto (tgt := 580) dX12_done_575 (by decide) ?_
                              exact x_weak (by exact ⟨rfl, ⟨rfl, ⟨rfl, ⟨rfl, trivial⟩⟩⟩⟩) (hj580 (s24 + s78))
                            refine x_icmp_ge (tgt := 571) dX12_done_564 (by decide) (fun _ => ?_) (fun _ => ?_)
                            · refine x_sipush (v := 1000) dX12_done_571 (by decide) ?_
                              exact x_weak (by exact ⟨rfl, ⟨rfl, ⟨rfl, ⟨rfl, trivial⟩⟩⟩⟩) (hj574 ((1000 : Int32)))
                            · refine x_iconst (v := 0) dX12_done_567 (by decide) ?_
                              refine x_goto (tgt := 574) dX12_done_568 (by decide) ?_
                              exact x_weak (by exact ⟨rfl, ⟨rfl, ⟨rfl, ⟨rfl, trivial⟩⟩⟩⟩) (hj574 ((0 : Int32)))
                          · refine x_iload dX12_done_578 rfl ?_
                            exact x_weak (by exact ⟨rfl, ⟨rfl, ⟨rfl, ⟨rfl, trivial⟩⟩⟩⟩) (hj580 x25)
                        · refine x_iload dX12_done_620 rfl ?_
                          refine x_iload dX12_done_622 rfl ?_
                          refine x_sipush (v := 1000) dX12_done_624 (by decide) ?_
                          refine x_jn (σ := Int32) 637 (fun s79 => [some (va_rf a0), none, none, some (.int x1), some (.int x7), some (.int s8.1), none, none, none, none, none, none, none]) (fun s79 => [.int s79, .int s24]) (fun s79 => s23.2) (fun s79 => ?_) (fun j637 hj637 => ?_)
                          · refine x_iadd dX12_done_637 ?_
                            refine x_ltI (fun x80 => ?_)
                            refine x_istore (lo' := [some (va_rf a0), none, none, some (.int x1), some (.int x7), some (.int s8.1), none, none, none, none, none, some (.int x80), none]) dX12_done_638 (by decide) rfl rfl ?_
                            refine x_goto (tgt := 726) dX12_done_640 (by decide) ?_
                            exact x_weak (by exact ⟨rfl, ⟨rfl, ⟨rfl, ⟨rfl, ⟨rfl, trivial⟩⟩⟩⟩⟩) (hj726 (s8.1, x80, s23.2))
                          refine x_icmp_ge (tgt := 634) dX12_done_627 (by decide) (fun _ => ?_) (fun _ => ?_)
                          · refine x_sipush (v := 1000) dX12_done_634 (by decide) ?_
                            exact x_weak (by exact ⟨rfl, ⟨rfl, ⟨rfl, ⟨rfl, trivial⟩⟩⟩⟩) (hj637 ((1000 : Int32)))
                          · refine x_iconst (v := 0) dX12_done_630 (by decide) ?_
                            refine x_goto (tgt := 637) dX12_done_631 (by decide) ?_
                            exact x_weak (by exact ⟨rfl, ⟨rfl, ⟨rfl, ⟨rfl, trivial⟩⟩⟩⟩) (hj637 ((0 : Int32)))
                        · refine x_aload_n dX12_done_643 rfl ?_
                          refine gfX12_236 rfl dX12_done_644 (fun x81 => ?_)
                          refine x_bipush (v := 25) dX12_done_647 (by decide) ?_
                          refine x_iload_n dX12_done_649 rfl ?_
                          refine x_imul dX12_done_650 ?_
                          refine x_iload dX12_done_651 rfl ?_
                          refine x_iadd dX12_done_653 ?_
                          refine x_iload dX12_done_654 rfl ?_
                          refine x_iload dX12_done_656 rfl ?_
                          refine x_sipush (v := 1000) dX12_done_658 (by decide) ?_
                          refine x_jn (σ := Int32) 671 (fun s82 => [some (va_rf a0), none, none, some (.int x1), some (.int x7), some (.int s8.1), none, none, none, none, none, some (.int x25), none]) (fun s82 => [.int s82, .int s24, .int ((((25 : Int32)) * x1) + s8.1), va_rf x81]) (fun s82 => s23.2) (fun s82 => ?_) (fun j671 hj671 => ?_)
                          · refine x_iadd dX12_done_671 ?_
                            refine x_iast dX12_done_672 (fun M83 => ?_)
                            refine x_iincN (v := 1) (lo' := fun x84 => [some (va_rf a0), none, none, some (.int x1), some (.int x7), some (.int x84), none, none, none, none, none, some (.int x25), none]) (by decide) dX12_done_673 rfl (by decide) rfl (fun _ => rfl) (fun x84 => ?_)
                            refine x_goto (tgt := 726) dX12_done_676 (by decide) ?_
                            exact x_weak (by exact ⟨rfl, ⟨rfl, ⟨rfl, ⟨rfl, ⟨rfl, trivial⟩⟩⟩⟩⟩) (hj726 (x84, x25, M83))
                          refine x_icmp_ge (tgt := 668) dX12_done_661 (by decide) (fun _ => ?_) (fun _ => ?_)
                          · refine x_sipush (v := 1000) dX12_done_668 (by decide) ?_
                            exact x_weak (by exact ⟨rfl, ⟨rfl, ⟨rfl, ⟨rfl, ⟨rfl, trivial⟩⟩⟩⟩⟩) (hj671 ((1000 : Int32)))
                          · refine x_iconst (v := 0) dX12_done_664 (by decide) ?_
                            refine x_goto (tgt := 671) dX12_done_665 (by decide) ?_
                            exact x_weak (by exact ⟨rfl, ⟨rfl, ⟨rfl, ⟨rfl, ⟨rfl, trivial⟩⟩⟩⟩⟩) (hj671 ((0 : Int32)))
                        · refine x_iincN (v := -1) (lo' := fun x85 => [some (va_rf a0), none, none, some (.int x1), some (.int x7), some (.int x85), some (.int s8.2.1), none, none, some (.int s23.1), some (.int s24), some (.int x25), none]) (by decide) dX12_done_679 rfl (by decide) rfl (fun _ => rfl) (fun x85 => ?_)
                          refine x_goto (tgt := 726) dX12_done_682 (by decide) ?_
                          exact x_weak (by exact ⟨rfl, ⟨rfl, ⟨rfl, ⟨rfl, ⟨rfl, trivial⟩⟩⟩⟩⟩) (hj726 (x85, x25, s23.2))
                        · refine x_aload_n dX12_done_716 rfl ?_
                          refine x_iload dX12_done_717 rfl ?_
                          refine x_iload dX12_done_719 rfl ?_
                          refine x_iload dX12_done_721 rfl ?_
                          refine cmX12_665 rfl hs (Nat.le_of_ble_eq_true rfl) dX12_done_723 (fun M86 => ?_)
                          exact x_weak (by exact ⟨rfl, ⟨rfl, ⟨rfl, ⟨rfl, ⟨rfl, trivial⟩⟩⟩⟩⟩) (hj726 (s8.1, x25, M86))
                        · refine x_aload_n dX12_done_716 rfl ?_
                          refine x_iload dX12_done_717 rfl ?_
                          refine x_iload dX12_done_719 rfl ?_
                          refine x_iload dX12_done_721 rfl ?_
                          refine cmX12_665 rfl hs (Nat.le_of_ble_eq_true rfl) dX12_done_723 (fun M87 => ?_)
                          exact x_weak (by exact ⟨rfl, ⟨rfl, ⟨rfl, ⟨rfl, ⟨rfl, trivial⟩⟩⟩⟩⟩) (hj726 (s8.1, x25, M87))
                        · refine x_aload_n dX12_done_716 rfl ?_
                          refine x_iload dX12_done_717 rfl ?_
                          refine x_iload dX12_done_719 rfl ?_
                          refine x_iload dX12_done_721 rfl ?_
                          refine cmX12_665 rfl hs (Nat.le_of_ble_eq_true rfl) dX12_done_723 (fun M88 => ?_)
                          exact x_weak (by exact ⟨rfl, ⟨rfl, ⟨rfl, ⟨rfl, ⟨rfl, trivial⟩⟩⟩⟩⟩) (hj726 (s8.1, x25, M88))
                        · refine x_aload_n dX12_done_585 rfl ?_
                          refine cmX12_662 rfl hs (Nat.le_of_ble_eq_true rfl) dX12_done_586 (fun x90 M89 => ?_)
                          refine x_jn (σ := Int32) 615 (fun s91 => [some (va_rf a0), none, none, some (.int x1), some (.int x7), some (.int s8.1), none, none, none, none, none, none, none]) (fun s91 => [.int s91]) (fun s91 => M89) (fun s91 => ?_) (fun j615 hj615 => ?_)
                          · refine x_istore (lo' := [some (va_rf a0), none, none, some (.int x1), some (.int x7), some (.int s8.1), none, none, none, none, none, some (.int s91), none]) dX12_done_615 (by decide) rfl rfl ?_
                            refine x_goto (tgt := 726) dX12_done_617 (by decide) ?_
                            exact x_weak (by exact ⟨rfl, ⟨rfl, ⟨rfl, ⟨rfl, ⟨rfl, trivial⟩⟩⟩⟩⟩) (hj726 (s8.1, s91, M89))
                          refine x_if_eq (tgt := 613) dX12_done_589 (by decide) (fun _ => ?_) (fun _ => ?_)
                          · refine x_iload dX12_done_613 rfl ?_
                            exact x_weak (by exact ⟨rfl, ⟨rfl, ⟨rfl, ⟨rfl, trivial⟩⟩⟩⟩) (hj615 x25)
                          · refine x_iload dX12_done_592 rfl ?_
                            refine x_iload dX12_done_594 rfl ?_
                            refine x_sipush (v := 1000) dX12_done_596 (by decide) ?_
                            refine x_jn (σ := Int32) 609 (fun s92 => [some (va_rf a0), none, none, some (.int x1), some (.int x7), some (.int s8.1), none, none, none, none, none, none, none]) (fun s92 => [.int s92, .int s24]) (fun s92 => M89) (fun s92 => ?_) (fun j609 hj609 => ?_)
                            · refine x_iadd dX12_done_609 ?_
                              refine x_goto (tgt := 615) dX12_done_610 (by decide) ?_
                              exact x_weak (by exact ⟨rfl, ⟨rfl, ⟨rfl, ⟨rfl, trivial⟩⟩⟩⟩) (hj615 (s24 + s92))
                            refine x_icmp_ge (tgt := 606) dX12_done_599 (by decide) (fun _ => ?_) (fun _ => ?_)
                            · refine x_sipush (v := 1000) dX12_done_606 (by decide) ?_
                              exact x_weak (by exact ⟨rfl, ⟨rfl, ⟨rfl, ⟨rfl, trivial⟩⟩⟩⟩) (hj609 ((1000 : Int32)))
                            · refine x_iconst (v := 0) dX12_done_602 (by decide) ?_
                              refine x_goto (tgt := 609) dX12_done_603 (by decide) ?_
                              exact x_weak (by exact ⟨rfl, ⟨rfl, ⟨rfl, ⟨rfl, trivial⟩⟩⟩⟩) (hj609 ((0 : Int32)))
                        · refine x_aload_n dX12_done_716 rfl ?_
                          refine x_iload dX12_done_717 rfl ?_
                          refine x_iload dX12_done_719 rfl ?_
                          refine x_iload dX12_done_721 rfl ?_
                          refine cmX12_665 rfl hs (Nat.le_of_ble_eq_true rfl) dX12_done_723 (fun M93 => ?_)
                          exact x_weak (by exact ⟨rfl, ⟨rfl, ⟨rfl, ⟨rfl, ⟨rfl, trivial⟩⟩⟩⟩⟩) (hj726 (s8.1, x25, M93))
                        · refine x_aload_n dX12_done_716 rfl ?_
                          refine x_iload dX12_done_717 rfl ?_
                          refine x_iload dX12_done_719 rfl ?_
                          refine x_iload dX12_done_721 rfl ?_
                          refine cmX12_665 rfl hs (Nat.le_of_ble_eq_true rfl) dX12_done_723 (fun M94 => ?_)
                          exact x_weak (by exact ⟨rfl, ⟨rfl, ⟨rfl, ⟨rfl, ⟨rfl, trivial⟩⟩⟩⟩⟩) (hj726 (s8.1, x25, M94))
                        · refine x_aload_n dX12_done_685 rfl ?_
                          refine cmX12_662 rfl hs (Nat.le_of_ble_eq_true rfl) dX12_done_686 (fun x96 M95 => ?_)
                          refine x_istore (lo' := [some (va_rf a0), none, none, some (.int x1), some (.int x7), some (.int s8.1), some (.int s8.2.1), none, none, some (.int s23.1), some (.int s24), some (.int x25), some (.int x96)]) dX12_done_689 (by decide) rfl rfl ?_
                          refine x_aload_n dX12_done_691 rfl ?_
                          refine x_iload_n dX12_done_692 rfl ?_
                          refine pfX12_629 rfl dX12_done_693 (fun M97 => ?_)
                          refine x_aload_n dX12_done_696 rfl ?_
                          refine x_iload dX12_done_697 rfl ?_
                          refine pfX12_638 rfl dX12_done_699 (fun M98 => ?_)
                          refine x_iload dX12_done_702 rfl ?_
                          refine x_bipush (v := 34) dX12_done_704 (by decide) ?_
                          refine x_jn (σ := Int32) 715 (fun s99 => [none, none, none, none, none, none, none, none, none, none, none, none, none]) (fun s99 => [.int s99]) (fun s99 => M98) (fun s99 => ?_) (fun j715 hj715 => ?_)
                          · exact x_iret rfl dX12_done_715
                          refine x_icmp_ne (tgt := 713) dX12_done_706 (by decide) (fun _ => ?_) (fun _ => ?_)
                          · refine x_iconst (v := 0) dX12_done_709 (by decide) ?_
                            refine x_goto (tgt := 715) dX12_done_710 (by decide) ?_
                            exact x_weak (by exact trivial) (hj715 ((0 : Int32)))
                          · refine x_iload dX12_done_713 rfl ?_
                            exact x_weak (by exact trivial) (hj715 x96)
                      · refine x_aload_n dX12_done_716 rfl ?_
                        refine x_iload dX12_done_717 rfl ?_
                        refine x_iload dX12_done_719 rfl ?_
                        refine x_iload dX12_done_721 rfl ?_
                        refine cmX12_665 rfl hs (Nat.le_of_ble_eq_true rfl) dX12_done_723 (fun M100 => ?_)
                        exact x_weak (by exact ⟨rfl, ⟨rfl, ⟨rfl, ⟨rfl, ⟨rfl, trivial⟩⟩⟩⟩⟩) (hj726 (s8.1, x25, M100))
                    refine x_jn (σ := Unit) 345 (fun s101 => [some (va_rf a0), none, none, some (.int x1), some (.int x7), some (.int s8.1), some (.int s8.2.1), some (.int s18), none, some (.int s23.1), none, none, none]) (fun s101 => []) (fun s101 => s23.2) (fun s101 => ?_) (fun j345 hj345 => ?_)
                    · refine x_aload_n dX12_done_345 rfl ?_
                      refine gfX12_100 rfl dX12_done_346 (fun x102 => ?_)
                      refine x_iload dX12_done_349 rfl ?_
                      refine x_iald dX12_done_351 (fun x103 => ?_)
                      exact x_weak (by exact ⟨rfl, ⟨rfl, ⟨rfl, ⟨rfl, ⟨rfl, ⟨rfl, trivial⟩⟩⟩⟩⟩⟩) (hj352 x103)
                    refine x_if_eq (tgt := 345) dX12_done_325 (by decide) (fun _ => ?_) (fun _ => ?_)
                    · exact x_weak (by exact ⟨rfl, ⟨rfl, ⟨rfl, ⟨rfl, ⟨rfl, ⟨rfl, ⟨rfl, trivial⟩⟩⟩⟩⟩⟩⟩) (hj345 ())
                    · refine x_iload dX12_done_328 rfl ?_
                      refine x_if_ne (tgt := 345) dX12_done_330 (by decide) (fun _ => ?_) (fun _ => ?_)
                      · refine x_aload_n dX12_done_333 rfl ?_
                        refine gfX12_100 rfl dX12_done_334 (fun x104 => ?_)
                        refine x_iload dX12_done_337 rfl ?_
                        refine x_iald dX12_done_339 (fun x105 => ?_)
                        refine x_iconst (v := 1) dX12_done_340 (by decide) ?_
                        refine x_iadd dX12_done_341 ?_
                        refine x_goto (tgt := 352) dX12_done_342 (by decide) ?_
                        exact x_weak (by exact ⟨rfl, ⟨rfl, ⟨rfl, ⟨rfl, ⟨rfl, ⟨rfl, trivial⟩⟩⟩⟩⟩⟩) (hj352 (x105 + ((1 : Int32))))
                      · exact x_weak (by exact ⟨rfl, ⟨rfl, ⟨rfl, ⟨rfl, ⟨rfl, ⟨rfl, ⟨rfl, trivial⟩⟩⟩⟩⟩⟩⟩) (hj345 ())
                  refine x_if_eq (tgt := 314) dX12_done_298 (by decide) (fun _ => ?_) (fun _ => ?_)
                  · refine x_aload_n dX12_done_314 rfl ?_
                    refine gfX12_97 rfl dX12_done_315 (fun x106 => ?_)
                    refine x_iload dX12_done_318 rfl ?_
                    refine x_bald dX12_done_320 (fun x107 => ?_)
                    exact x_weak (by exact ⟨rfl, ⟨rfl, ⟨rfl, ⟨rfl, ⟨rfl, ⟨rfl, ⟨rfl, trivial⟩⟩⟩⟩⟩⟩⟩) (hj321 (x107, s20))
                  · refine x_aload_n dX12_done_301 rfl ?_
                    refine gfX12_97 rfl dX12_done_302 (fun x108 => ?_)
                    refine x_iload dX12_done_305 rfl ?_
                    refine x_bald dX12_done_307 (fun x109 => ?_)
                    refine cmX12_597 rfl hs (Nat.le_of_ble_eq_true rfl) dX12_done_308 (fun x111 M110 => ?_)
                    refine x_goto (tgt := 321) dX12_done_311 (by decide) ?_
                    exact x_weak (by exact ⟨rfl, ⟨rfl, ⟨rfl, ⟨rfl, ⟨rfl, ⟨rfl, ⟨rfl, trivial⟩⟩⟩⟩⟩⟩⟩) (hj321 (x111, M110))
                refine x_icmp_ne (tgt := 293) dX12_done_286 (by decide) (fun _ => ?_) (fun _ => ?_)
                · refine x_iconst (v := 1) dX12_done_289 (by decide) ?_
                  refine x_goto (tgt := 294) dX12_done_290 (by decide) ?_
                  exact x_weak (by exact ⟨rfl, ⟨rfl, ⟨rfl, ⟨rfl, ⟨rfl, ⟨rfl, trivial⟩⟩⟩⟩⟩⟩) (hj294 ((1 : Int32)))
                · refine x_iconst (v := 0) dX12_done_293 (by decide) ?_
                  exact x_weak (by exact ⟨rfl, ⟨rfl, ⟨rfl, ⟨rfl, ⟨rfl, ⟨rfl, trivial⟩⟩⟩⟩⟩⟩) (hj294 ((0 : Int32)))
              refine x_if_eq (tgt := 280) dX12_done_226 (by decide) (fun _ => ?_) (fun _ => ?_)
              · exact x_weak (by exact ⟨rfl, ⟨rfl, ⟨rfl, ⟨rfl, ⟨rfl, ⟨rfl, trivial⟩⟩⟩⟩⟩⟩) (hj280 M17)
              · refine x_aload_n dX12_done_229 rfl ?_
                refine gfX12_249 rfl dX12_done_230 (fun x112 => ?_)
                refine x_iload dX12_done_233 rfl ?_
                refine x_dup2 dX12_done_235 (xc1_i _) (xc1_r _) ?_
                refine x_iald dX12_done_236 (fun x113 => ?_)
                refine x_iconst (v := 1) dX12_done_237 (by decide) ?_
                refine x_iadd dX12_done_238 ?_
                refine x_iast dX12_done_239 (fun M114 => ?_)
                refine x_aload_n dX12_done_240 rfl ?_
                refine gfX12_252 rfl dX12_done_241 (fun x115 => ?_)
                refine x_iload dX12_done_244 rfl ?_
                refine x_dup2 dX12_done_246 (xc1_i _) (xc1_r _) ?_
                refine x_iald dX12_done_247 (fun x116 => ?_)
                refine x_aload_n dX12_done_248 rfl ?_
                refine gfX12_255 rfl dX12_done_249 (fun x117 => ?_)
                refine x_iload dX12_done_252 rfl ?_
                refine x_iald dX12_done_254 (fun x118 => ?_)
                refine x_aload_n dX12_done_255 rfl ?_
                refine gfX12_656 rfl dX12_done_256 (fun x119 => ?_)
                refine x_jn (σ := Int32) 267 (fun s120 => [some (va_rf a0), none, none, some (.int x1), some (.int x7), some (.int s8.1), some (.int s8.2.1), some (.int s18), none, none, none, none, none]) (fun s120 => [.int s120, .int x116, .int s18, va_rf x115]) (fun s120 => M114) (fun s120 => ?_) (fun j267 hj267 => ?_)
                · refine x_iadd dX12_done_267 ?_
                  refine x_iast dX12_done_268 (fun M121 => ?_)
                  refine x_aload_n dX12_done_269 rfl ?_
                  refine gfX12_255 rfl dX12_done_270 (fun x122 => ?_)
                  refine x_iload dX12_done_273 rfl ?_
                  refine x_aload_n dX12_done_275 rfl ?_
                  refine gfX12_656 rfl dX12_done_276 (fun x123 => ?_)
                  refine x_iast dX12_done_279 (fun M124 => ?_)
                  exact x_weak (by exact ⟨rfl, ⟨rfl, ⟨rfl, ⟨rfl, ⟨rfl, ⟨rfl, trivial⟩⟩⟩⟩⟩⟩) (hj280 M124)
                refine x_icmp_ne (tgt := 266) dX12_done_259 (by decide) (fun _ => ?_) (fun _ => ?_)
                · refine x_iconst (v := 0) dX12_done_262 (by decide) ?_
                  refine x_goto (tgt := 267) dX12_done_263 (by decide) ?_
                  exact x_weak (by exact ⟨rfl, ⟨rfl, ⟨rfl, ⟨rfl, ⟨rfl, ⟨rfl, trivial⟩⟩⟩⟩⟩⟩) (hj267 ((0 : Int32)))
                · refine x_iconst (v := 1) dX12_done_266 (by decide) ?_
                  exact x_weak (by exact ⟨rfl, ⟨rfl, ⟨rfl, ⟨rfl, ⟨rfl, ⟨rfl, trivial⟩⟩⟩⟩⟩⟩) (hj267 ((1 : Int32)))
            refine x_icmp_ge (tgt := 207) dX12_done_190 (by decide) (fun _ => ?_) (fun _ => ?_)
            · refine x_sipush (v := 1000) dX12_done_207 (by decide) ?_
              refine x_aload_n dX12_done_210 rfl ?_
              refine gfX12_603 rfl dX12_done_211 (fun x125 => ?_)
              refine x_iconst (v := 1) dX12_done_214 (by decide) ?_
              refine x_isub dX12_done_215 ?_
              refine x_imul dX12_done_216 ?_
              refine x_iload dX12_done_217 rfl ?_
              refine x_iadd dX12_done_219 ?_
              exact x_weak (by exact ⟨rfl, ⟨rfl, ⟨rfl, ⟨rfl, ⟨rfl, trivial⟩⟩⟩⟩⟩) (hj220 ((((1000 : Int32)) * (x125 - ((1 : Int32)))) + s8.2.1))
            · refine x_sipush (v := 1000) dX12_done_193 (by decide) ?_
              refine x_aload_n dX12_done_196 rfl ?_
              refine gfX12_600 rfl dX12_done_197 (fun x126 => ?_)
              refine x_imul dX12_done_200 ?_
              refine x_iload dX12_done_201 rfl ?_
              refine x_iadd dX12_done_203 ?_
              refine x_goto (tgt := 220) dX12_done_204 (by decide) ?_
              exact x_weak (by exact ⟨rfl, ⟨rfl, ⟨rfl, ⟨rfl, ⟨rfl, trivial⟩⟩⟩⟩⟩) (hj220 ((((1000 : Int32)) * x126) + s8.2.1))
          · refine x_aload_n dX12_done_142 rfl ?_
            refine x_iload_n dX12_done_143 rfl ?_
            refine pfX12_629 rfl dX12_done_144 (fun M127 => ?_)
            refine x_aload_n dX12_done_147 rfl ?_
            refine x_iload dX12_done_148 rfl ?_
            refine pfX12_638 rfl dX12_done_150 (fun M128 => ?_)
            refine x_iconst (v := 0) dX12_done_153 (by decide) ?_
            exact x_iret rfl dX12_done_154
        refine x_if_ne (tgt := 113) dX12_done_93 (by decide) (fun _ => ?_) (fun _ => ?_)
        · refine x_aload_n dX12_done_96 rfl ?_
          refine x_iconst (v := 1) dX12_done_97 (by decide) ?_
          refine pfX12_635 rfl dX12_done_98 (fun M129 => ?_)
          refine x_aload_n dX12_done_101 rfl ?_
          refine x_bipush (v := 6) dX12_done_102 (by decide) ?_
          refine x_iload dX12_done_104 rfl ?_
          refine x_iconst (v := 1) dX12_done_106 (by decide) ?_
          refine cmX12_625 rfl hs (Nat.le_of_ble_eq_true rfl) dX12_done_107 (fun M130 => ?_)
          refine x_goto (tgt := 135) dX12_done_110 (by decide) ?_
          exact x_weak (by exact ⟨rfl, ⟨rfl, ⟨rfl, ⟨rfl, ⟨rfl, trivial⟩⟩⟩⟩⟩) (hj135 M130)
        · refine x_aload_n dX12_done_113 rfl ?_
          refine gfX12_644 rfl dX12_done_114 (fun x131 => ?_)
          refine x_if_ne (tgt := 135) dX12_done_117 (by decide) (fun _ => ?_) (fun _ => ?_)
          · refine x_aload_n dX12_done_120 rfl ?_
            refine x_iconst (v := 1) dX12_done_121 (by decide) ?_
            refine pfX12_647 rfl dX12_done_122 (fun M132 => ?_)
            refine x_aload_n dX12_done_125 rfl ?_
            refine x_iconst (v := 1) dX12_done_126 (by decide) ?_
            refine pfX12_635 rfl dX12_done_127 (fun M133 => ?_)
            refine x_aload_n dX12_done_130 rfl ?_
            refine x_iconst (v := 1) dX12_done_131 (by decide) ?_
            refine pfX12_610 rfl dX12_done_132 (fun M134 => ?_)
            exact x_weak (by exact ⟨rfl, ⟨rfl, ⟨rfl, ⟨rfl, ⟨rfl, trivial⟩⟩⟩⟩⟩) (hj135 M134)
          · exact x_weak (by exact ⟨rfl, ⟨rfl, ⟨rfl, ⟨rfl, ⟨rfl, trivial⟩⟩⟩⟩⟩) (hj135 s8.2.2)
    · refine x_aload_n dX12_done_25 rfl ?_
      refine gfX12_233 rfl dX12_done_26 (fun x135 => ?_)
      refine x_bipush (v := 10) dX12_done_29 (by decide) ?_
      refine x_iload_n dX12_done_31 rfl ?_
      refine x_imul dX12_done_32 ?_
      refine x_iload dX12_done_33 rfl ?_
      refine x_iadd dX12_done_35 ?_
      refine x_iload dX12_done_36 rfl ?_
      refine x_iload_n dX12_done_38 rfl ?_
      refine x_jn (σ := Int32) 60 (fun s136 => [some (va_rf a0), some (.int a1), some (.int a2), some (.int x1), some (.int s4.1), none, none, none, none, none, none, none, none]) (fun s136 => [.int s136, .int ((((10 : Int32)) * x1) + s4.1), va_rf x135]) (fun s136 => s4.2) (fun s136 => ?_) (fun j60 hj60 => ?_)
      · refine x_iast dX12_done_60 (fun M137 => ?_)
        refine x_iincN (v := 1) (lo' := fun x138 => [some (va_rf a0), some (.int a1), some (.int a2), some (.int x1), some (.int x138), none, none, none, none, none, none, none, none]) (by decide) dX12_done_61 rfl (by decide) rfl (fun _ => rfl) (fun x138 => ?_)
        refine x_goto (tgt := 18) dX12_done_64 (by decide) ?_
        exact x_weak (by exact ⟨rfl, ⟨rfl, ⟨rfl, ⟨rfl, ⟨rfl, trivial⟩⟩⟩⟩⟩) (hj18 (x138, M137))
      refine x_icmp_ge (tgt := 59) dX12_done_39 (by decide) (fun _ => ?_) (fun _ => ?_)
      · refine x_iconst (v := 0) dX12_done_59 (by decide) ?_
        exact x_weak (by exact ⟨rfl, ⟨rfl, ⟨rfl, ⟨rfl, ⟨rfl, trivial⟩⟩⟩⟩⟩) (hj60 ((0 : Int32)))
      · refine x_aload_n dX12_done_42 rfl ?_
        refine gfX12_230 rfl dX12_done_43 (fun x139 => ?_)
        refine x_aload_n dX12_done_46 rfl ?_
        refine gfX12_638 rfl dX12_done_47 (fun x140 => ?_)
        refine x_iload_n dX12_done_50 rfl ?_
        refine x_isub dX12_done_51 ?_
        refine x_iload dX12_done_52 rfl ?_
        refine x_iadd dX12_done_54 ?_
        refine x_iald dX12_done_55 (fun x141 => ?_)
        refine x_goto (tgt := 60) dX12_done_56 (by decide) ?_
        exact x_weak (by exact ⟨rfl, ⟨rfl, ⟨rfl, ⟨rfl, ⟨rfl, trivial⟩⟩⟩⟩⟩) (hj60 x141)
theorem s243 {l : Launch} {d : Nat} {rec : Nat → List Value → Mem → XA} (hS : Nonempty XS) (hs : XSnd l xmt rec d) : Snd1 l 243 (b243 rec) d := by
  intro as M r M' h0
  unfold b243 at h0
  obtain ⟨a0, l1, e1, h1⟩ := aR_inv h0
  obtain ⟨a1, l2, e2, h2⟩ := aI_inv h1
  obtain ⟨a2, l3, e3, h3⟩ := aI_inv h2
  obtain ⟨ez, h⟩ := aZ_inv h3
  subst ez
  subst e3
  subst e2
  subst e1
  exact xmet (M := M) (as := [va_rf a0, .int a1, .int a2]) (lo := [some (va_rf a0), some (.int a1), some (.int a2)]) 243 xq243 xm243 (by rw [xargs_rf, xargs_i, xargs_i, xargs_nil]; exact ⟨rfl, ⟨rfl, ⟨rfl, trivial⟩⟩⟩) (by rw [xargs_rf, xargs_i, xargs_i, xargs_nil]; exact Nat.le_of_ble_eq_true rfl) (fun S G K => x_weak (by exact ⟨rfl, ⟨rfl, ⟨rfl, trivial⟩⟩⟩) (k243 hs a0 a1 a2 M)) h hS
