set_option maxRecDepth 100000 in
def c82_4 (rec : Nat → List Value → Mem → XA) (a0 : Option Nat) (j81 : Mem → XA) : (Int32 × Int32 × Mem) → ((Int32 × Int32 × Mem) → XA) → XA := fun s2 j4 =>
  if ((3000 : Int32)) ≤ s2.2.1 then (
    j81 s2.2.2) else (
    if s2.1 = 0 then (
      j81 s2.2.2) else (
      vC (7, 20) s2.2.2 a0 <|
      cL (rec 65 [va_rf a0] s2.2.2) fun x4 M3 =>
      vC (7, 20) M3 a0 <|
      cI (rec 74 [va_rf a0, .long x4] M3) fun x6 M5 =>
      jn (fun (s7 : Int32) =>
        gtI (7, 20) M5 a0 16 fun x8 =>
        jn (fun (s9 : Int32) =>
          vC (7, 20) M5 a0 <|
          cL (rec 66 [va_rf a0, .int s7, .int s9] M5) fun x11 M10 =>
          vC (7, 20) M10 a0 <|
          cV (rec 75 [va_rf a0, .long x11] M10) fun M12 =>
          gtI (7, 20) M12 a0 13 fun x13 =>
          jn (fun (s14 : Int32) =>
            jn (fun (s15 : Mem) =>
              lt (s2.2.1 + (1 : Int32)) fun (x16 : Int32) =>
              j4 (s14, x16, s15)) fun j75 =>
            if s14 = 0 then (
              j75 M12) else (
              vC (7, 20) M12 a0 <|
              cV (rec 63 [va_rf a0] M12) fun M17 =>
              j75 M17)) fun j66 =>
          if x13 = ((44 : Int32)) then (
            j66 ((1 : Int32))) else (
            j66 ((0 : Int32)))) fun j46 =>
        if x8 < ((4 : Int32)) then (
          j46 ((0 : Int32))) else (
          j46 ((1 : Int32)))) fun j33 =>
      if x6 < 0 then (
        j33 ((0 : Int32))) else (
        j33 ((1 : Int32)))))
set_option maxRecDepth 100000 in
def c82 (rec : Nat → List Value → Mem → XA) (a0 : Option Nat) (M0 : Mem) : XA :=
  jn (fun (s1 : Mem) =>
    some (.null, s1)) fun j81 =>
  lp (c82_4 rec a0 j81) 4294967296 ((1 : Int32), (0 : Int32), M0)
def b82 (rec : Nat → List Value → Mem → XA) (as : List Value) (M0 : Mem) : XA := aR as fun a0 as => aZ as (c82 rec a0 M0)
set_option maxRecDepth 100000 in
set_option maxHeartbeats 4000000 in
theorem k82 {S : XS} {G : XG} {K : Nat × Nat} {l : Launch} {d : Nat} {rec : Nat → List Value → Mem → XA} (hs : XSnd l xmt rec d) (a0 : Option Nat) (M0 : Mem) : Xe S G K l (yX6_readParameters, cX6_readParameters, 3, none) d 0 [some (va_rf a0), none, none] [] M0 (c82 rec a0 M0) := by
  unfold c82
  refine x_iconst (v := 1) dX6_readParameters_0 (by decide) ?_
  refine x_istore_n (lo' := [some (va_rf a0), some (.int ((1 : Int32))), none]) dX6_readParameters_1 (by decide) (xok_r rfl) rfl ?_
  refine x_iconst (v := 0) dX6_readParameters_2 (by decide) ?_
  refine x_istore_n (lo' := [some (va_rf a0), some (.int ((1 : Int32))), some (.int ((0 : Int32)))]) dX6_readParameters_3 (by decide) rfl rfl ?_
  refine x_jn (σ := Mem) 81 (fun s1 => [none, none, none]) (fun s1 => []) (fun s1 => s1) (fun s1 => ?_) (fun j81 hj81 => ?_)
  · exact x_vret rfl dX6_readParameters_81
  refine x_weak (by exact ⟨rfl, ⟨rfl, ⟨rfl, trivial⟩⟩⟩) (x_lp (σ := Int32 × Int32 × Mem) 4 (fun s2 => [some (va_rf a0), some (.int s2.1), some (.int s2.2.1)]) (fun s2 => []) (fun s2 => s2.2.2) (fun s2 j4 hj4 => ?_) 4294967296 ((1 : Int32), (0 : Int32), M0))
  · refine x_iload_n dX6_readParameters_4 rfl ?_
    refine x_sipush (v := 3000) dX6_readParameters_5 (by decide) ?_
    refine x_icmp_ge (tgt := 81) dX6_readParameters_8 (by decide) (fun _ => ?_) (fun _ => ?_)
    · exact x_weak (by exact trivial) (hj81 s2.2.2)
    · refine x_iload_n dX6_readParameters_11 rfl ?_
      refine x_if_eq (tgt := 81) dX6_readParameters_12 (by decide) (fun _ => ?_) (fun _ => ?_)
      · exact x_weak (by exact trivial) (hj81 s2.2.2)
      · refine x_aload_n dX6_readParameters_15 rfl ?_
        refine x_aload_n dX6_readParameters_16 rfl ?_
        refine x_aload_n dX6_readParameters_17 rfl ?_
        refine x_aload_n dX6_readParameters_18 rfl ?_
        refine cmX6_127 rfl hs (Nat.le_of_ble_eq_true rfl) dX6_readParameters_19 (fun x4 M3 => ?_)
        refine cmX6_221 rfl hs (Nat.le_of_ble_eq_true rfl) dX6_readParameters_22 (fun x6 M5 => ?_)
        refine x_jn (σ := Int32) 33 (fun s7 => [some (va_rf a0), none, some (.int s2.2.1)]) (fun s7 => [.int s7, va_rf a0, va_rf a0]) (fun s7 => M5) (fun s7 => ?_) (fun j33 hj33 => ?_)
        · refine x_aload_n dX6_readParameters_33 rfl ?_
          refine gfX6_145 rfl dX6_readParameters_34 (fun x8 => ?_)
          refine x_iconst (v := 4) dX6_readParameters_37 (by decide) ?_
          refine x_jn (σ := Int32) 46 (fun s9 => [some (va_rf a0), none, some (.int s2.2.1)]) (fun s9 => [.int s9, .int s7, va_rf a0, va_rf a0]) (fun s9 => M5) (fun s9 => ?_) (fun j46 hj46 => ?_)
          · refine cmX6_152 rfl hs (Nat.le_of_ble_eq_true rfl) dX6_readParameters_46 (fun x11 M10 => ?_)
            refine cmX6_224 rfl hs (Nat.le_of_ble_eq_true rfl) dX6_readParameters_49 (fun M12 => ?_)
            refine x_aload_n dX6_readParameters_52 rfl ?_
            refine gfX6_81 rfl dX6_readParameters_53 (fun x13 => ?_)
            refine x_bipush (v := 44) dX6_readParameters_56 (by decide) ?_
            refine x_jn (σ := Int32) 66 (fun s14 => [some (va_rf a0), none, some (.int s2.2.1)]) (fun s14 => [.int s14]) (fun s14 => M12) (fun s14 => ?_) (fun j66 hj66 => ?_)
            · refine x_istore_n (lo' := [some (va_rf a0), some (.int s14), some (.int s2.2.1)]) dX6_readParameters_66 (by decide) (xok_r rfl) rfl ?_
              refine x_iload_n dX6_readParameters_67 rfl ?_
              refine x_jn (σ := Mem) 75 (fun s15 => [some (va_rf a0), some (.int s14), some (.int s2.2.1)]) (fun s15 => []) (fun s15 => s15) (fun s15 => ?_) (fun j75 hj75 => ?_)
              · refine x_iincN (v := 1) (lo' := fun x16 => [some (va_rf a0), some (.int s14), some (.int x16)]) (by decide) dX6_readParameters_75 rfl (by decide) rfl (fun _ => rfl) (fun x16 => ?_)
                refine x_goto (tgt := 4) dX6_readParameters_78 (by decide) ?_
                exact x_weak (by exact ⟨rfl, ⟨rfl, ⟨rfl, trivial⟩⟩⟩) (hj4 (s14, x16, s15))
              refine x_if_eq (tgt := 75) dX6_readParameters_68 (by decide) (fun _ => ?_) (fun _ => ?_)
              · exact x_weak (by exact ⟨rfl, ⟨rfl, ⟨rfl, trivial⟩⟩⟩) (hj75 M12)
              · refine x_aload_n dX6_readParameters_71 rfl ?_
                refine cmX6_121 rfl hs (Nat.le_of_ble_eq_true rfl) dX6_readParameters_72 (fun M17 => ?_)
                exact x_weak (by exact ⟨rfl, ⟨rfl, ⟨rfl, trivial⟩⟩⟩) (hj75 M17)
            refine x_icmp_ne (tgt := 65) dX6_readParameters_58 (by decide) (fun _ => ?_) (fun _ => ?_)
            · refine x_iconst (v := 1) dX6_readParameters_61 (by decide) ?_
              refine x_goto (tgt := 66) dX6_readParameters_62 (by decide) ?_
              exact x_weak (by exact ⟨rfl, ⟨rfl, trivial⟩⟩) (hj66 ((1 : Int32)))
            · refine x_iconst (v := 0) dX6_readParameters_65 (by decide) ?_
              exact x_weak (by exact ⟨rfl, ⟨rfl, trivial⟩⟩) (hj66 ((0 : Int32)))
          refine x_icmp_lt (tgt := 45) dX6_readParameters_38 (by decide) (fun _ => ?_) (fun _ => ?_)
          · refine x_iconst (v := 0) dX6_readParameters_45 (by decide) ?_
            exact x_weak (by exact ⟨rfl, ⟨rfl, trivial⟩⟩) (hj46 ((0 : Int32)))
          · refine x_iconst (v := 1) dX6_readParameters_41 (by decide) ?_
            refine x_goto (tgt := 46) dX6_readParameters_42 (by decide) ?_
            exact x_weak (by exact ⟨rfl, ⟨rfl, trivial⟩⟩) (hj46 ((1 : Int32)))
        refine x_if_lt (tgt := 32) dX6_readParameters_25 (by decide) (fun _ => ?_) (fun _ => ?_)
        · refine x_iconst (v := 0) dX6_readParameters_32 (by decide) ?_
          exact x_weak (by exact ⟨rfl, ⟨rfl, trivial⟩⟩) (hj33 ((0 : Int32)))
        · refine x_iconst (v := 1) dX6_readParameters_28 (by decide) ?_
          refine x_goto (tgt := 33) dX6_readParameters_29 (by decide) ?_
          exact x_weak (by exact ⟨rfl, ⟨rfl, trivial⟩⟩) (hj33 ((1 : Int32)))
theorem s82 {l : Launch} {d : Nat} {rec : Nat → List Value → Mem → XA} (hS : Nonempty XS) (hs : XSnd l xmt rec d) : Snd1 l 82 (b82 rec) d := by
  intro as M r M' h0
  unfold b82 at h0
  obtain ⟨a0, l1, e1, h1⟩ := aR_inv h0
  obtain ⟨ez, h⟩ := aZ_inv h1
  subst ez
  subst e1
  exact xmet (M := M) (as := [va_rf a0]) (lo := [some (va_rf a0)]) 82 xq82 xm82 (by rw [xargs_rf, xargs_nil]; exact ⟨rfl, trivial⟩) (by rw [xargs_rf, xargs_nil]; exact Nat.le_of_ble_eq_true rfl) (fun S G K => x_weak (by exact ⟨rfl, trivial⟩) (k82 hs a0 M)) h hS
set_option maxRecDepth 100000 in
def c83 (rec : Nat → List Value → Mem → XA) (a0 : Option Nat) (a1 : Option Nat) (M0 : Mem) : XA :=
  gtI (7, 20) M0 a0 13 fun x1 =>
  jn (fun (s2 : Int32) =>
    if s2 = 0 then (
      vC (7, 20) M0 a0 <|
      cV (rec 63 [va_rf a0] M0) fun M3 =>
      jn (fun (s4 : Mem) =>
        some (.null, s4)) fun j153 =>
      if x1 = ((206 : Int32)) then (
        gtI (7, 20) M3 a0 9 fun x5 =>
        ptI (11, 10) M3 a1 5 x5 fun M6 =>
        j153 M6) else (
        if x1 = ((208 : Int32)) then (
          gtP (11, 10) M3 a1 6 fun x7 =>
          gtI (11, 10) M3 a1 7 fun x8 =>
          gtI (7, 20) M3 a0 9 fun x9 =>
          asI 100 M3 x7 x8 x9 fun M10 =>
          gtI (11, 10) M10 a1 7 fun x11 =>
          ptI (11, 10) M10 a1 7 (x11 + ((1 : Int32))) fun M12 =>
          j153 M12) else (
          gtP (11, 10) M3 a1 8 fun x13 =>
          gtI (11, 10) M3 a1 9 fun x14 =>
          gtI (7, 20) M3 a0 9 fun x15 =>
          asI 100 M3 x13 x14 x15 fun M16 =>
          gtI (11, 10) M16 a1 9 fun x17 =>
          ptI (11, 10) M16 a1 9 (x17 + ((1 : Int32))) fun M18 =>
          j153 M18))) else (
      vC (7, 20) M0 a0 <|
      cV (rec 62 [va_rf a0, .int ((6 : Int32))] M0) fun M19 =>
      some (.null, M19))) fun j63 =>
  if x1 = ((206 : Int32)) then (
    gtI (11, 10) M0 a1 5 fun x20 =>
    if x20 < 0 then (
      j63 ((0 : Int32))) else (
      j63 ((1 : Int32)))) else (
    if x1 = ((208 : Int32)) then (
      gtI (11, 10) M0 a1 7 fun x21 =>
      if x21 < ((3 : Int32)) then (
        j63 ((0 : Int32))) else (
        j63 ((1 : Int32)))) else (
      gtI (11, 10) M0 a1 9 fun x22 =>
      if x22 < ((3 : Int32)) then (
        j63 ((0 : Int32))) else (
        j63 ((1 : Int32)))))
def b83 (rec : Nat → List Value → Mem → XA) (as : List Value) (M0 : Mem) : XA := aR as fun a0 as => aR as fun a1 as => aZ as (c83 rec a0 a1 M0)
set_option maxRecDepth 100000 in
set_option maxHeartbeats 4000000 in
theorem k83 {S : XS} {G : XG} {K : Nat × Nat} {l : Launch} {d : Nat} {rec : Nat → List Value → Mem → XA} (hs : XSnd l xmt rec d) (a0 : Option Nat) (a1 : Option Nat) (M0 : Mem) : Xe S G K l (yX6_readNameless, cX6_readNameless, 4, none) d 0 [some (va_rf a0), some (va_rf a1), none, none] [] M0 (c83 rec a0 a1 M0) := by
  unfold c83
  refine x_aload_n dX6_readNameless_0 rfl ?_
  refine gfX6_81 rfl dX6_readNameless_1 (fun x1 => ?_)
  refine x_istore_n (lo' := [some (va_rf a0), some (va_rf a1), some (.int x1), none]) dX6_readNameless_4 (by decide) (xok_r rfl) rfl ?_
  refine x_iload_n dX6_readNameless_5 rfl ?_
  refine x_sipush (v := 206) dX6_readNameless_6 (by decide) ?_
  refine x_jn (σ := Int32) 63 (fun s2 => [some (va_rf a0), some (va_rf a1), some (.int x1), none]) (fun s2 => [.int s2]) (fun s2 => M0) (fun s2 => ?_) (fun j63 hj63 => ?_)
  · refine x_istore_n (lo' := [some (va_rf a0), some (va_rf a1), some (.int x1), some (.int s2)]) dX6_readNameless_63 (by decide) rfl rfl ?_
    refine x_iload_n dX6_readNameless_64 rfl ?_
    refine x_if_eq (tgt := 75) dX6_readNameless_65 (by decide) (fun _ => ?_) (fun _ => ?_)
    · refine x_aload_n dX6_readNameless_75 rfl ?_
      refine cmX6_121 rfl hs (Nat.le_of_ble_eq_true rfl) dX6_readNameless_76 (fun M3 => ?_)
      refine x_iload_n dX6_readNameless_79 rfl ?_
      refine x_sipush (v := 206) dX6_readNameless_80 (by decide) ?_
      refine x_jn (σ := Mem) 153 (fun s4 => [none, none, none, none]) (fun s4 => []) (fun s4 => s4) (fun s4 => ?_) (fun j153 hj153 => ?_)
      · exact x_vret rfl dX6_readNameless_153
      refine x_icmp_ne (tgt := 97) dX6_readNameless_83 (by decide) (fun _ => ?_) (fun _ => ?_)
      · refine x_aload_n dX6_readNameless_86 rfl ?_
        refine x_aload_n dX6_readNameless_87 rfl ?_
        refine gfX6_62 rfl dX6_readNameless_88 (fun x5 => ?_)
        refine pfX6_228 rfl dX6_readNameless_91 (fun M6 => ?_)
        refine x_goto (tgt := 153) dX6_readNameless_94 (by decide) ?_
        exact x_weak (by exact trivial) (hj153 M6)
      · refine x_iload_n dX6_readNameless_97 rfl ?_
        refine x_sipush (v := 208) dX6_readNameless_98 (by decide) ?_
        refine x_icmp_ne (tgt := 130) dX6_readNameless_101 (by decide) (fun _ => ?_) (fun _ => ?_)
        · refine x_aload_n dX6_readNameless_104 rfl ?_
          refine gfX6_237 rfl dX6_readNameless_105 (fun x7 => ?_)
          refine x_aload_n dX6_readNameless_108 rfl ?_
          refine gfX6_231 rfl dX6_readNameless_109 (fun x8 => ?_)
          refine x_aload_n dX6_readNameless_112 rfl ?_
          refine gfX6_62 rfl dX6_readNameless_113 (fun x9 => ?_)
          refine x_iast dX6_readNameless_116 (fun M10 => ?_)
          refine x_aload_n dX6_readNameless_117 rfl ?_
          refine x_dup dX6_readNameless_118 (xc1_r _) ?_
          refine gfX6_231 rfl dX6_readNameless_119 (fun x11 => ?_)
          refine x_iconst (v := 1) dX6_readNameless_122 (by decide) ?_
          refine x_iadd dX6_readNameless_123 ?_
          refine pfX6_231 rfl dX6_readNameless_124 (fun M12 => ?_)
          refine x_goto (tgt := 153) dX6_readNameless_127 (by decide) ?_
          exact x_weak (by exact trivial) (hj153 M12)
        · refine x_aload_n dX6_readNameless_130 rfl ?_
          refine gfX6_240 rfl dX6_readNameless_131 (fun x13 => ?_)
          refine x_aload_n dX6_readNameless_134 rfl ?_
          refine gfX6_234 rfl dX6_readNameless_135 (fun x14 => ?_)
          refine x_aload_n dX6_readNameless_138 rfl ?_
          refine gfX6_62 rfl dX6_readNameless_139 (fun x15 => ?_)
          refine x_iast dX6_readNameless_142 (fun M16 => ?_)
          refine x_aload_n dX6_readNameless_143 rfl ?_
          refine x_dup dX6_readNameless_144 (xc1_r _) ?_
          refine gfX6_234 rfl dX6_readNameless_145 (fun x17 => ?_)
          refine x_iconst (v := 1) dX6_readNameless_148 (by decide) ?_
          refine x_iadd dX6_readNameless_149 ?_
          refine pfX6_234 rfl dX6_readNameless_150 (fun M18 => ?_)
          exact x_weak (by exact trivial) (hj153 M18)
    · refine x_aload_n dX6_readNameless_68 rfl ?_
      refine x_bipush (v := 6) dX6_readNameless_69 (by decide) ?_
      refine cmX6_109 rfl hs (Nat.le_of_ble_eq_true rfl) dX6_readNameless_71 (fun M19 => ?_)
      exact x_vret rfl dX6_readNameless_74
  refine x_icmp_ne (tgt := 27) dX6_readNameless_9 (by decide) (fun _ => ?_) (fun _ => ?_)
  · refine x_aload_n dX6_readNameless_12 rfl ?_
    refine gfX6_228 rfl dX6_readNameless_13 (fun x20 => ?_)
    refine x_if_lt (tgt := 23) dX6_readNameless_16 (by decide) (fun _ => ?_) (fun _ => ?_)
    · refine x_iconst (v := 0) dX6_readNameless_23 (by decide) ?_
      refine x_goto (tgt := 63) dX6_readNameless_24 (by decide) ?_
      exact x_weak (by exact ⟨rfl, ⟨rfl, ⟨rfl, trivial⟩⟩⟩) (hj63 ((0 : Int32)))
    · refine x_iconst (v := 1) dX6_readNameless_19 (by decide) ?_
      refine x_goto (tgt := 63) dX6_readNameless_20 (by decide) ?_
      exact x_weak (by exact ⟨rfl, ⟨rfl, ⟨rfl, trivial⟩⟩⟩) (hj63 ((1 : Int32)))
  · refine x_iload_n dX6_readNameless_27 rfl ?_
    refine x_sipush (v := 208) dX6_readNameless_28 (by decide) ?_
    refine x_icmp_ne (tgt := 50) dX6_readNameless_31 (by decide) (fun _ => ?_) (fun _ => ?_)
    · refine x_aload_n dX6_readNameless_34 rfl ?_
      refine gfX6_231 rfl dX6_readNameless_35 (fun x21 => ?_)
      refine x_iconst (v := 3) dX6_readNameless_38 (by decide) ?_
      refine x_icmp_lt (tgt := 46) dX6_readNameless_39 (by decide) (fun _ => ?_) (fun _ => ?_)
      · refine x_iconst (v := 0) dX6_readNameless_46 (by decide) ?_
        refine x_goto (tgt := 63) dX6_readNameless_47 (by decide) ?_
        exact x_weak (by exact ⟨rfl, ⟨rfl, ⟨rfl, trivial⟩⟩⟩) (hj63 ((0 : Int32)))
      · refine x_iconst (v := 1) dX6_readNameless_42 (by decide) ?_
        refine x_goto (tgt := 63) dX6_readNameless_43 (by decide) ?_
        exact x_weak (by exact ⟨rfl, ⟨rfl, ⟨rfl, trivial⟩⟩⟩) (hj63 ((1 : Int32)))
    · refine x_aload_n dX6_readNameless_50 rfl ?_
      refine gfX6_234 rfl dX6_readNameless_51 (fun x22 => ?_)
      refine x_iconst (v := 3) dX6_readNameless_54 (by decide) ?_
      refine x_icmp_lt (tgt := 62) dX6_readNameless_55 (by decide) (fun _ => ?_) (fun _ => ?_)
      · refine x_iconst (v := 0) dX6_readNameless_62 (by decide) ?_
        exact x_weak (by exact ⟨rfl, ⟨rfl, ⟨rfl, trivial⟩⟩⟩) (hj63 ((0 : Int32)))
      · refine x_iconst (v := 1) dX6_readNameless_58 (by decide) ?_
        refine x_goto (tgt := 63) dX6_readNameless_59 (by decide) ?_
        exact x_weak (by exact ⟨rfl, ⟨rfl, ⟨rfl, trivial⟩⟩⟩) (hj63 ((1 : Int32)))
theorem s83 {l : Launch} {d : Nat} {rec : Nat → List Value → Mem → XA} (hS : Nonempty XS) (hs : XSnd l xmt rec d) : Snd1 l 83 (b83 rec) d := by
  intro as M r M' h0
  unfold b83 at h0
  obtain ⟨a0, l1, e1, h1⟩ := aR_inv h0
  obtain ⟨a1, l2, e2, h2⟩ := aR_inv h1
  obtain ⟨ez, h⟩ := aZ_inv h2
  subst ez
  subst e2
  subst e1
  exact xmet (M := M) (as := [va_rf a0, va_rf a1]) (lo := [some (va_rf a0), some (va_rf a1)]) 83 xq83 xm83 (by rw [xargs_rf, xargs_rf, xargs_nil]; exact ⟨rfl, ⟨rfl, trivial⟩⟩) (by rw [xargs_rf, xargs_rf, xargs_nil]; exact Nat.le_of_ble_eq_true rfl) (fun S G K => x_weak (by exact ⟨rfl, ⟨rfl, trivial⟩⟩) (k83 hs a0 a1 M)) h hS
set_option maxRecDepth 100000 in
def c84_131 (rec : Nat → List Value → Mem → XA) (a0 : Option Nat) (j168 : Mem → XA) : (Int32 × Mem) → ((Int32 × Mem) → XA) → XA := fun s27 j131 =>
  gtP (7, 20) s27.2 a0 3 fun x28 =>
  vC (0, 3) s27.2 x28 <|
  cI (rec 346 [va_rf x28] s27.2) fun x30 M29 =>
  if x30 ≤ s27.1 then (
    j168 M29) else (
    gtP (7, 20) M29 a0 3 fun x31 =>
    vC (0, 3) M29 x31 <|
    cP (rec 348 [va_rf x31, .int s27.1] M29) fun x33 M32 =>
    cst (8, 9) M32 x33 <|
    gtI (7, 20) M32 a0 9 fun x34 =>
    ptI (8, 9) M32 x33 5 x34 fun M35 =>
    lt (s27.1 + (1 : Int32)) fun (x36 : Int32) =>
    j131 (x36, M35))
set_option maxRecDepth 100000 in
def c84 (rec : Nat → List Value → Mem → XA) (a0 : Option Nat) (M0 : Mem) : XA :=
  vC (7, 20) M0 a0 <|
  cV (rec 63 [va_rf a0] M0) fun M1 =>
  gtP (7, 20) M1 a0 3 fun x2 =>
  vC (0, 3) M1 x2 <|
  cI (rec 346 [va_rf x2] M1) fun x4 M3 =>
  vC (7, 20) M3 a0 <|
  cI (rec 73 [va_rf a0] M3) fun x6 M5 =>
  jn (fun (s7 : Int32) =>
    vC (7, 20) M5 a0 <|
    cL (rec 66 [va_rf a0, .int x6, .int s7] M5) fun x9 M8 =>
    nO (8, 9) M8 fun x10 M11 =>
    gtP (7, 20) M11 a0 1 fun x12 =>
    vC (0, 3) M11 x12 <|
    cI (rec 346 [va_rf x12] M11) fun x14 M13 =>
    vC (8, 9) M13 x10 <|
    cV (rec 110 [va_rf x10, .long x9, .int (x14 - ((1 : Int32))), .int ((5 : Int32))] M13) fun M15 =>
    gtP (7, 20) M15 a0 3 fun x16 =>
    vC (0, 3) M15 x16 <|
    cI (rec 350 [va_rf x16, va_rf x10] M15) fun x18 M17 =>
    gtI (7, 20) M17 a0 13 fun x19 =>
    jn (fun (s20 : Mem) =>
      gtI (7, 20) s20 a0 13 fun x21 =>
      jn (fun (s22 : Mem) =>
        gtI (7, 20) s22 a0 13 fun x23 =>
        jn (fun (s24 : Mem) =>
          jn (fun (s25 : Mem) =>
            vC (7, 20) s25 a0 <|
            cV (rec 75 [va_rf a0, .long ((26996 : Int64))] s25) fun M26 =>
            some (.null, M26)) fun j168 =>
          lp (c84_131 rec a0 j168) 4294967296 (x4, s24)) fun j128 =>
        if x23 = ((213 : Int32)) then (
          vC (7, 20) s22 a0 <|
          cV (rec 63 [va_rf a0] s22) fun M37 =>
          vC (7, 20) M37 a0 <|
          cV (rec 85 [va_rf a0, va_rf x10] M37) fun M38 =>
          j128 M38) else (
          j128 s22)) fun j108 =>
      if x21 = ((212 : Int32)) then (
        vC (7, 20) s20 a0 <|
        cV (rec 63 [va_rf a0] s20) fun M39 =>
        vC (7, 20) M39 a0 <|
        cI (rec 67 [va_rf a0, .int ((1 : Int32)), .int ((999999999 : Int32))] M39) fun x41 M40 =>
        ptI (8, 9) M40 x10 6 x41 fun M42 =>
        j108 M42) else (
        j108 s20)) fun j82 =>
    if x19 = ((211 : Int32)) then (
      ptZ (8, 9) M17 x10 7 ((1 : Int32)) fun M43 =>
      vC (7, 20) M43 a0 <|
      cV (rec 63 [va_rf a0] M43) fun M44 =>
      j82 M44) else (
      j82 M17)) fun j28 =>
  if x4 < ((16 : Int32)) then (
    j28 ((0 : Int32))) else (
    j28 ((1 : Int32)))
def b84 (rec : Nat → List Value → Mem → XA) (as : List Value) (M0 : Mem) : XA := aR as fun a0 as => aZ as (c84 rec a0 M0)
set_option maxRecDepth 100000 in
set_option maxHeartbeats 4000000 in
theorem k84 {S : XS} {G : XG} {K : Nat × Nat} {l : Launch} {d : Nat} {rec : Nat → List Value → Mem → XA} (hs : XSnd l xmt rec d) (a0 : Option Nat) (M0 : Mem) : Xe S G K l (yX6_readTest, cX6_readTest, 6, none) d 0 [some (va_rf a0), none, none, none, none, none] [] M0 (c84 rec a0 M0) := by
  unfold c84
  refine x_aload_n dX6_readTest_0 rfl ?_
  refine cmX6_121 rfl hs (Nat.le_of_ble_eq_true rfl) dX6_readTest_1 (fun M1 => ?_)
  refine x_aload_n dX6_readTest_4 rfl ?_
  refine gfX6_56 rfl dX6_readTest_5 (fun x2 => ?_)
  refine cmX6_94 rfl hs (Nat.le_of_ble_eq_true rfl) dX6_readTest_8 (fun x4 M3 => ?_)
  refine x_istore_n (lo' := [some (va_rf a0), some (.int x4), none, none, none, none]) dX6_readTest_11 (by decide) (xok_r rfl) rfl ?_
  refine x_aload_n dX6_readTest_12 rfl ?_
  refine x_aload_n dX6_readTest_13 rfl ?_
  refine cmX6_192 rfl hs (Nat.le_of_ble_eq_true rfl) dX6_readTest_14 (fun x6 M5 => ?_)
  refine x_iload_n dX6_readTest_17 rfl ?_
  refine x_bipush (v := 16) dX6_readTest_18 (by decide) ?_
  refine x_jn (σ := Int32) 28 (fun s7 => [some (va_rf a0), some (.int x4), none, none, none, none]) (fun s7 => [.int s7, .int x6, va_rf a0]) (fun s7 => M5) (fun s7 => ?_) (fun j28 hj28 => ?_)
  · refine cmX6_152 rfl hs (Nat.le_of_ble_eq_true rfl) dX6_readTest_28 (fun x9 M8 => ?_)
    refine x_lstore_n (lo' := [some (va_rf a0), some (.int x4), some (.long x9), none, none, none]) dX6_readTest_31 (by decide) rfl rfl ?_
    refine nwX6_135 rfl dX6_readTest_32 (fun x10 M11 => ?_)
    refine x_dup dX6_readTest_35 (xc1_r _) ?_
    refine x_lload_n dX6_readTest_36 rfl ?_
    refine x_aload_n dX6_readTest_37 rfl ?_
    refine gfX6_49 rfl dX6_readTest_38 (fun x12 => ?_)
    refine cmX6_94 rfl hs (Nat.le_of_ble_eq_true rfl) dX6_readTest_41 (fun x14 M13 => ?_)
    refine x_iconst (v := 1) dX6_readTest_44 (by decide) ?_
    refine x_isub dX6_readTest_45 ?_
    refine x_iconst (v := 5) dX6_readTest_46 (by decide) ?_
    refine cmX6_196 rfl hs (Nat.le_of_ble_eq_true rfl) dX6_readTest_47 (fun M15 => ?_)
    refine x_astore (lo' := [some (va_rf a0), some (.int x4), some (.long x9), none, some (va_rf x10), none]) dX6_readTest_50 (by decide) rfl rfl ?_
    refine x_aload_n dX6_readTest_52 rfl ?_
    refine gfX6_56 rfl dX6_readTest_53 (fun x16 => ?_)
    refine x_aload dX6_readTest_56 rfl ?_
    refine cmX6_159 rfl hs (Nat.le_of_ble_eq_true rfl) dX6_readTest_58 (fun x18 M17 => ?_)
    refine x_pop dX6_readTest_61 (xc1_i _) ?_
    refine x_aload_n dX6_readTest_62 rfl ?_
    refine gfX6_81 rfl dX6_readTest_63 (fun x19 => ?_)
    refine x_sipush (v := 211) dX6_readTest_66 (by decide) ?_
    refine x_jn (σ := Mem) 82 (fun s20 => [some (va_rf a0), some (.int x4), none, none, some (va_rf x10), none]) (fun s20 => []) (fun s20 => s20) (fun s20 => ?_) (fun j82 hj82 => ?_)
    · refine x_aload_n dX6_readTest_82 rfl ?_
      refine gfX6_81 rfl dX6_readTest_83 (fun x21 => ?_)
      refine x_sipush (v := 212) dX6_readTest_86 (by decide) ?_
      refine x_jn (σ := Mem) 108 (fun s22 => [some (va_rf a0), some (.int x4), none, none, some (va_rf x10), none]) (fun s22 => []) (fun s22 => s22) (fun s22 => ?_) (fun j108 hj108 => ?_)
      · refine x_aload_n dX6_readTest_108 rfl ?_
        refine gfX6_81 rfl dX6_readTest_109 (fun x23 => ?_)
        refine x_sipush (v := 213) dX6_readTest_112 (by decide) ?_
        refine x_jn (σ := Mem) 128 (fun s24 => [some (va_rf a0), some (.int x4), none, none, none, none]) (fun s24 => []) (fun s24 => s24) (fun s24 => ?_) (fun j128 hj128 => ?_)
        · refine x_iload_n dX6_readTest_128 rfl ?_
          refine x_istore (lo' := [some (va_rf a0), some (.int x4), none, none, none, some (.int x4)]) dX6_readTest_129 (by decide) rfl rfl ?_
          refine x_jn (σ := Mem) 168 (fun s25 => [some (va_rf a0), none, none, none, none, none]) (fun s25 => []) (fun s25 => s25) (fun s25 => ?_) (fun j168 hj168 => ?_)
          · refine x_aload_n dX6_readTest_168 rfl ?_
            refine x_ldc2 (v := 26996) dX6_readTest_169 lk_constantLong_X6_254 ?_
            refine cmX6_224 rfl hs (Nat.le_of_ble_eq_true rfl) dX6_readTest_172 (fun M26 => ?_)
            exact x_vret rfl dX6_readTest_175
          refine x_weak (by exact ⟨rfl, ⟨rfl, trivial⟩⟩) (x_lp (σ := Int32 × Mem) 131 (fun s27 => [some (va_rf a0), none, none, none, none, some (.int s27.1)]) (fun s27 => []) (fun s27 => s27.2) (fun s27 j131 hj131 => ?_) 4294967296 (x4, s24))
          · refine x_iload dX6_readTest_131 rfl ?_
            refine x_aload_n dX6_readTest_133 rfl ?_
            refine gfX6_56 rfl dX6_readTest_134 (fun x28 => ?_)
            refine cmX6_94 rfl hs (Nat.le_of_ble_eq_true rfl) dX6_readTest_137 (fun x30 M29 => ?_)
            refine x_icmp_ge (tgt := 168) dX6_readTest_140 (by decide) (fun _ => ?_) (fun _ => ?_)
            · exact x_weak (by exact ⟨rfl, trivial⟩) (hj168 M29)
            · refine x_aload_n dX6_readTest_143 rfl ?_
              refine gfX6_56 rfl dX6_readTest_144 (fun x31 => ?_)
              refine x_iload dX6_readTest_147 rfl ?_
              refine cmX6_97 rfl hs (Nat.le_of_ble_eq_true rfl) dX6_readTest_149 (fun x33 M32 => ?_)
              refine ccX6_135 rfl dX6_readTest_152 ?_
              refine x_aload_n dX6_readTest_155 rfl ?_
              refine gfX6_62 rfl dX6_readTest_156 (fun x34 => ?_)
              refine pfX6_218 rfl dX6_readTest_159 (fun M35 => ?_)
              refine x_iincN (v := 1) (lo' := fun x36 => [some (va_rf a0), none, none, none, none, some (.int x36)]) (by decide) dX6_readTest_162 rfl (by decide) rfl (fun _ => rfl) (fun x36 => ?_)
              refine x_goto (tgt := 131) dX6_readTest_165 (by decide) ?_
              exact x_weak (by exact ⟨rfl, ⟨rfl, trivial⟩⟩) (hj131 (x36, M35))
        refine x_icmp_ne (tgt := 128) dX6_readTest_115 (by decide) (fun _ => ?_) (fun _ => ?_)
        · refine x_aload_n dX6_readTest_118 rfl ?_
          refine cmX6_121 rfl hs (Nat.le_of_ble_eq_true rfl) dX6_readTest_119 (fun M37 => ?_)
          refine x_aload_n dX6_readTest_122 rfl ?_
          refine x_aload dX6_readTest_123 rfl ?_
          refine cmX6_250 rfl hs (Nat.le_of_ble_eq_true rfl) dX6_readTest_125 (fun M38 => ?_)
          exact x_weak (by exact ⟨rfl, ⟨rfl, trivial⟩⟩) (hj128 M38)
        · exact x_weak (by exact ⟨rfl, ⟨rfl, trivial⟩⟩) (hj128 s22)
      refine x_icmp_ne (tgt := 108) dX6_readTest_89 (by decide) (fun _ => ?_) (fun _ => ?_)
      · refine x_aload_n dX6_readTest_92 rfl ?_
        refine cmX6_121 rfl hs (Nat.le_of_ble_eq_true rfl) dX6_readTest_93 (fun M39 => ?_)
        refine x_aload dX6_readTest_96 rfl ?_
        refine x_aload_n dX6_readTest_98 rfl ?_
        refine x_iconst (v := 1) dX6_readTest_99 (by decide) ?_
        refine x_ldc (v := 999999999) dX6_readTest_100 lk_constant_X6_246 ?_
        refine cmX6_211 rfl hs (Nat.le_of_ble_eq_true rfl) dX6_readTest_102 (fun x41 M40 => ?_)
        refine pfX6_247 rfl dX6_readTest_105 (fun M42 => ?_)
        exact x_weak (by exact ⟨rfl, ⟨rfl, ⟨rfl, trivial⟩⟩⟩) (hj108 M42)
      · exact x_weak (by exact ⟨rfl, ⟨rfl, ⟨rfl, trivial⟩⟩⟩) (hj108 s20)
    refine x_icmp_ne (tgt := 82) dX6_readTest_69 (by decide) (fun _ => ?_) (fun _ => ?_)
    · refine x_aload dX6_readTest_72 rfl ?_
      refine x_iconst (v := 1) dX6_readTest_74 (by decide) ?_
      refine pfX6_243 rfl dX6_readTest_75 (fun M43 => ?_)
      refine x_aload_n dX6_readTest_78 rfl ?_
      refine cmX6_121 rfl hs (Nat.le_of_ble_eq_true rfl) dX6_readTest_79 (fun M44 => ?_)
      exact x_weak (by exact ⟨rfl, ⟨rfl, ⟨rfl, trivial⟩⟩⟩) (hj82 M44)
    · exact x_weak (by exact ⟨rfl, ⟨rfl, ⟨rfl, trivial⟩⟩⟩) (hj82 M17)
  refine x_icmp_lt (tgt := 27) dX6_readTest_20 (by decide) (fun _ => ?_) (fun _ => ?_)
  · refine x_iconst (v := 0) dX6_readTest_27 (by decide) ?_
    exact x_weak (by exact ⟨rfl, ⟨rfl, trivial⟩⟩) (hj28 ((0 : Int32)))
  · refine x_iconst (v := 1) dX6_readTest_23 (by decide) ?_
    refine x_goto (tgt := 28) dX6_readTest_24 (by decide) ?_
    exact x_weak (by exact ⟨rfl, ⟨rfl, trivial⟩⟩) (hj28 ((1 : Int32)))
theorem s84 {l : Launch} {d : Nat} {rec : Nat → List Value → Mem → XA} (hS : Nonempty XS) (hs : XSnd l xmt rec d) : Snd1 l 84 (b84 rec) d := by
  intro as M r M' h0
  unfold b84 at h0
  obtain ⟨a0, l1, e1, h1⟩ := aR_inv h0
  obtain ⟨ez, h⟩ := aZ_inv h1
  subst ez
  subst e1
  exact xmet (M := M) (as := [va_rf a0]) (lo := [some (va_rf a0)]) 84 xq84 xm84 (by rw [xargs_rf, xargs_nil]; exact ⟨rfl, trivial⟩) (by rw [xargs_rf, xargs_nil]; exact Nat.le_of_ble_eq_true rfl) (fun S G K => x_weak (by exact ⟨rfl, trivial⟩) (k84 hs a0 M)) h hS
set_option maxRecDepth 100000 in
def c85_10 (rec : Nat → List Value → Mem → XA) (a0 : Option Nat) (a1 : Option Nat) (j126 : Mem → XA) : (Int32 × Mem) → ((Int32 × Mem) → XA) → XA := fun s5 j10 =>
  if ((3000 : Int32)) ≤ s5.1 then (
    j126 s5.2) else (
    gtI (7, 20) s5.2 a0 13 fun x6 =>
    if x6 = ((44 : Int32)) then (
      vC (7, 20) s5.2 a0 <|
      cV (rec 63 [va_rf a0] s5.2) fun M7 =>
      gtI (7, 20) M7 a0 13 fun x8 =>
      jn (fun (s9 : Mem) =>
        nO (8, 9) s9 fun x10 M11 =>
        gtL (8, 9) M11 a1 0 fun x12 =>
        gtI (8, 9) M11 a1 1 fun x13 =>
        vC (8, 9) M11 x10 <|
        cV (rec 110 [va_rf x10, .long x12, .int x13, .int ((5 : Int32))] M11) fun M14 =>
        gtI (8, 9) M14 a1 7 fun x15 =>
        ptZ (8, 9) M14 x10 7 x15 fun M16 =>
        gtI (8, 9) M16 a1 6 fun x17 =>
        ptI (8, 9) M16 x10 6 x17 fun M18 =>
        vC (7, 20) M18 a0 <|
        cI (rec 68 [va_rf a0] M18) fun x20 M19 =>
        ptI (8, 9) M19 x10 4 x20 fun M21 =>
        gtP (7, 20) M21 a0 3 fun x22 =>
        vC (0, 3) M21 x22 <|
        cI (rec 350 [va_rf x22, va_rf x10] M21) fun x24 M23 =>
        lt (s5.1 + (1 : Int32)) fun (x25 : Int32) =>
        j10 (x25, M23)) fun j70 =>
      jn (fun (s26 : Unit) =>
        jn (fun (s27 : Mem) =>
          vC (7, 20) s27 a0 <|
          cV (rec 62 [va_rf a0, .int ((6 : Int32))] s27) fun M28 =>
          j70 M28) fun j64 =>
        if ((4 : Int32)) ≤ s5.1 then (
          j64 M7) else (
          gtP (7, 20) M7 a0 3 fun x29 =>
          vC (0, 3) M7 x29 <|
          cI (rec 346 [va_rf x29] M7) fun x31 M30 =>
          if x31 < ((16 : Int32)) then (
            j70 M30) else (
            j64 M30))) fun j47 =>
      if x8 = ((45 : Int32)) then (
        j47 ()) else (
        gtI (7, 20) M7 a0 13 fun x32 =>
        if x32 = ((4 : Int32)) then (
          j47 ()) else (
          j70 M7))) else (
      j126 s5.2))
set_option maxRecDepth 100000 in
def c85 (rec : Nat → List Value → Mem → XA) (a0 : Option Nat) (a1 : Option Nat) (M0 : Mem) : XA :=
  vC (7, 20) M0 a0 <|
  cI (rec 68 [va_rf a0] M0) fun x2 M1 =>
  ptI (8, 9) M1 a1 4 x2 fun M3 =>
  jn (fun (s4 : Mem) =>
    some (.null, s4)) fun j126 =>
  lp (c85_10 rec a0 a1 j126) 4294967296 ((1 : Int32), M3)
def b85 (rec : Nat → List Value → Mem → XA) (as : List Value) (M0 : Mem) : XA := aR as fun a0 as => aR as fun a1 as => aZ as (c85 rec a0 a1 M0)
set_option maxRecDepth 100000 in
set_option maxHeartbeats 4000000 in
theorem k85 {S : XS} {G : XG} {K : Nat × Nat} {l : Launch} {d : Nat} {rec : Nat → List Value → Mem → XA} (hs : XSnd l xmt rec d) (a0 : Option Nat) (a1 : Option Nat) (M0 : Mem) : Xe S G K l (yX6_readWith, cX6_readWith, 4, none) d 0 [some (va_rf a0), some (va_rf a1), none, none] [] M0 (c85 rec a0 a1 M0) := by
  unfold c85
  refine x_aload_n dX6_readWith_0 rfl ?_
  refine x_aload_n dX6_readWith_1 rfl ?_
  refine cmX6_205 rfl hs (Nat.le_of_ble_eq_true rfl) dX6_readWith_2 (fun x2 M1 => ?_)
  refine pfX6_208 rfl dX6_readWith_5 (fun M3 => ?_)
  refine x_iconst (v := 1) dX6_readWith_8 (by decide) ?_
  refine x_istore_n (lo' := [some (va_rf a0), some (va_rf a1), some (.int ((1 : Int32))), none]) dX6_readWith_9 (by decide) (xok_r rfl) rfl ?_
  refine x_jn (σ := Mem) 126 (fun s4 => [none, none, none, none]) (fun s4 => []) (fun s4 => s4) (fun s4 => ?_) (fun j126 hj126 => ?_)
  · exact x_vret rfl dX6_readWith_126
  refine x_weak (by exact ⟨rfl, ⟨rfl, ⟨rfl, trivial⟩⟩⟩) (x_lp (σ := Int32 × Mem) 10 (fun s5 => [some (va_rf a0), some (va_rf a1), some (.int s5.1), none]) (fun s5 => []) (fun s5 => s5.2) (fun s5 j10 hj10 => ?_) 4294967296 ((1 : Int32), M3))
  · refine x_iload_n dX6_readWith_10 rfl ?_
    refine x_sipush (v := 3000) dX6_readWith_11 (by decide) ?_
    refine x_icmp_ge (tgt := 126) dX6_readWith_14 (by decide) (fun _ => ?_) (fun _ => ?_)
    · exact x_weak (by exact trivial) (hj126 s5.2)
    · refine x_aload_n dX6_readWith_17 rfl ?_
      refine gfX6_81 rfl dX6_readWith_18 (fun x6 => ?_)
      refine x_bipush (v := 44) dX6_readWith_21 (by decide) ?_
      refine x_icmp_ne (tgt := 126) dX6_readWith_23 (by decide) (fun _ => ?_) (fun _ => ?_)
      · refine x_aload_n dX6_readWith_26 rfl ?_
        refine cmX6_121 rfl hs (Nat.le_of_ble_eq_true rfl) dX6_readWith_27 (fun M7 => ?_)
        refine x_aload_n dX6_readWith_30 rfl ?_
        refine gfX6_81 rfl dX6_readWith_31 (fun x8 => ?_)
        refine x_bipush (v := 45) dX6_readWith_34 (by decide) ?_
        refine x_jn (σ := Mem) 70 (fun s9 => [some (va_rf a0), some (va_rf a1), some (.int s5.1), none]) (fun s9 => []) (fun s9 => s9) (fun s9 => ?_) (fun j70 hj70 => ?_)
        · refine nwX6_135 rfl dX6_readWith_70 (fun x10 M11 => ?_)
          refine x_dup dX6_readWith_73 (xc1_r _) ?_
          refine x_aload_n dX6_readWith_74 rfl ?_
          refine gfX6_140 rfl dX6_readWith_75 (fun x12 => ?_)
          refine x_aload_n dX6_readWith_78 rfl ?_
          refine gfX6_137 rfl dX6_readWith_79 (fun x13 => ?_)
          refine x_iconst (v := 5) dX6_readWith_82 (by decide) ?_
          refine cmX6_196 rfl hs (Nat.le_of_ble_eq_true rfl) dX6_readWith_83 (fun M14 => ?_)
          refine x_astore_n (lo' := [some (va_rf a0), some (va_rf a1), some (.int s5.1), some (va_rf x10)]) dX6_readWith_86 (by decide) rfl rfl ?_
          refine x_aload_n dX6_readWith_87 rfl ?_
          refine x_aload_n dX6_readWith_88 rfl ?_
          refine gfX6_243 rfl dX6_readWith_89 (fun x15 => ?_)
          refine pfX6_243 rfl dX6_readWith_92 (fun M16 => ?_)
          refine x_aload_n dX6_readWith_95 rfl ?_
          refine x_aload_n dX6_readWith_96 rfl ?_
          refine gfX6_247 rfl dX6_readWith_97 (fun x17 => ?_)
          refine pfX6_247 rfl dX6_readWith_100 (fun M18 => ?_)
          refine x_aload_n dX6_readWith_103 rfl ?_
          refine x_aload_n dX6_readWith_104 rfl ?_
          refine cmX6_205 rfl hs (Nat.le_of_ble_eq_true rfl) dX6_readWith_105 (fun x20 M19 => ?_)
          refine pfX6_208 rfl dX6_readWith_108 (fun M21 => ?_)
          refine x_aload_n dX6_readWith_111 rfl ?_
          refine gfX6_56 rfl dX6_readWith_112 (fun x22 => ?_)
          refine x_aload_n dX6_readWith_115 rfl ?_
          refine cmX6_159 rfl hs (Nat.le_of_ble_eq_true rfl) dX6_readWith_116 (fun x24 M23 => ?_)
          refine x_pop dX6_readWith_119 (xc1_i _) ?_
          refine x_iincN (v := 1) (lo' := fun x25 => [some (va_rf a0), some (va_rf a1), some (.int x25), some (va_rf x10)]) (by decide) dX6_readWith_120 rfl (by decide) (xok_r rfl) (fun _ => rfl) (fun x25 => ?_)
          refine x_goto (tgt := 10) dX6_readWith_123 (by decide) ?_
          exact x_weak (by exact ⟨rfl, ⟨rfl, ⟨rfl, trivial⟩⟩⟩) (hj10 (x25, M23))
        refine x_jn (σ := Unit) 47 (fun s26 => [some (va_rf a0), some (va_rf a1), some (.int s5.1), none]) (fun s26 => []) (fun s26 => M7) (fun s26 => ?_) (fun j47 hj47 => ?_)
        · refine x_iload_n dX6_readWith_47 rfl ?_
          refine x_iconst (v := 4) dX6_readWith_48 (by decide) ?_
          refine x_jn (σ := Mem) 64 (fun s27 => [some (va_rf a0), some (va_rf a1), some (.int s5.1), none]) (fun s27 => []) (fun s27 => s27) (fun s27 => ?_) (fun j64 hj64 => ?_)
          · refine x_aload_n dX6_readWith_64 rfl ?_
            refine x_bipush (v := 6) dX6_readWith_65 (by decide) ?_
            refine cmX6_109 rfl hs (Nat.le_of_ble_eq_true rfl) dX6_readWith_67 (fun M28 => ?_)
            exact x_weak (by exact ⟨rfl, ⟨rfl, ⟨rfl, trivial⟩⟩⟩) (hj70 M28)
          refine x_icmp_ge (tgt := 64) dX6_readWith_49 (by decide) (fun _ => ?_) (fun _ => ?_)
          · exact x_weak (by exact ⟨rfl, ⟨rfl, ⟨rfl, trivial⟩⟩⟩) (hj64 M7)
          · refine x_aload_n dX6_readWith_52 rfl ?_
            refine gfX6_56 rfl dX6_readWith_53 (fun x29 => ?_)
            refine cmX6_94 rfl hs (Nat.le_of_ble_eq_true rfl) dX6_readWith_56 (fun x31 M30 => ?_)
            refine x_bipush (v := 16) dX6_readWith_59 (by decide) ?_
            refine x_icmp_lt (tgt := 70) dX6_readWith_61 (by decide) (fun _ => ?_) (fun _ => ?_)
            · exact x_weak (by exact ⟨rfl, ⟨rfl, ⟨rfl, trivial⟩⟩⟩) (hj70 M30)
            · exact x_weak (by exact ⟨rfl, ⟨rfl, ⟨rfl, trivial⟩⟩⟩) (hj64 M30)
        refine x_icmp_eq (tgt := 47) dX6_readWith_36 (by decide) (fun _ => ?_) (fun _ => ?_)
        · exact x_weak (by exact ⟨rfl, ⟨rfl, ⟨rfl, trivial⟩⟩⟩) (hj47 ())
        · refine x_aload_n dX6_readWith_39 rfl ?_
          refine gfX6_81 rfl dX6_readWith_40 (fun x32 => ?_)
          refine x_iconst (v := 4) dX6_readWith_43 (by decide) ?_
          refine x_icmp_ne (tgt := 70) dX6_readWith_44 (by decide) (fun _ => ?_) (fun _ => ?_)
          · exact x_weak (by exact ⟨rfl, ⟨rfl, ⟨rfl, trivial⟩⟩⟩) (hj47 ())
          · exact x_weak (by exact ⟨rfl, ⟨rfl, ⟨rfl, trivial⟩⟩⟩) (hj70 M7)
      · exact x_weak (by exact trivial) (hj126 s5.2)
theorem s85 {l : Launch} {d : Nat} {rec : Nat → List Value → Mem → XA} (hS : Nonempty XS) (hs : XSnd l xmt rec d) : Snd1 l 85 (b85 rec) d := by
  intro as M r M' h0
  unfold b85 at h0
  obtain ⟨a0, l1, e1, h1⟩ := aR_inv h0
  obtain ⟨a1, l2, e2, h2⟩ := aR_inv h1
  obtain ⟨ez, h⟩ := aZ_inv h2
  subst ez
  subst e2
  subst e1
  exact xmet (M := M) (as := [va_rf a0, va_rf a1]) (lo := [some (va_rf a0), some (va_rf a1)]) 85 xq85 xm85 (by rw [xargs_rf, xargs_rf, xargs_nil]; exact ⟨rfl, ⟨rfl, trivial⟩⟩) (by rw [xargs_rf, xargs_rf, xargs_nil]; exact Nat.le_of_ble_eq_true rfl) (fun S G K => x_weak (by exact ⟨rfl, ⟨rfl, trivial⟩⟩) (k85 hs a0 a1 M)) h hS
set_option maxRecDepth 100000 in
def c86 (rec : Nat → List Value → Mem → XA) (a0 : Option Nat) (M0 : Mem) : XA :=
  vC (7, 20) M0 a0 <|
  cV (rec 63 [va_rf a0] M0) fun M1 =>
  nO (8, 9) M1 fun x2 M3 =>
  vC (7, 20) M3 a0 <|
  cI (rec 73 [va_rf a0] M3) fun x5 M4 =>
  gtP (7, 20) M4 a0 4 fun x6 =>
  vC (0, 3) M4 x6 <|
  cI (rec 346 [va_rf x6] M4) fun x8 M7 =>
  jn (fun (s9 : Int32) =>
    vC (7, 20) M7 a0 <|
    cL (rec 66 [va_rf a0, .int x5, .int s9] M7) fun x11 M10 =>
    gtP (7, 20) M10 a0 1 fun x12 =>
    vC (0, 3) M10 x12 <|
    cI (rec 346 [va_rf x12] M10) fun x14 M13 =>
    vC (8, 9) M13 x2 <|
    cV (rec 110 [va_rf x2, .long x11, .int (x14 - ((1 : Int32))), .int ((6 : Int32))] M13) fun M15 =>
    gtP (7, 20) M15 a0 4 fun x16 =>
    vC (0, 3) M15 x16 <|
    cI (rec 350 [va_rf x16, va_rf x2] M15) fun x18 M17 =>
    vC (7, 20) M17 a0 <|
    cV (rec 64 [va_rf a0, .int ((40 : Int32))] M17) fun M19 =>
    vC (7, 20) M19 a0 <|
    cV (rec 82 [va_rf a0] M19) fun M20 =>
    vC (7, 20) M20 a0 <|
    cV (rec 64 [va_rf a0, .int ((41 : Int32))] M20) fun M21 =>
    gtI (7, 20) M21 a0 16 fun x22 =>
    ptI (8, 9) M21 x2 4 x22 fun M23 =>
    gtI (7, 20) M23 a0 9 fun x24 =>
    ptI (8, 9) M23 x2 5 x24 fun M25 =>
    some (.null, M25)) fun j30 =>
  if x8 < ((6 : Int32)) then (
    j30 ((0 : Int32))) else (
    j30 ((1 : Int32)))
def b86 (rec : Nat → List Value → Mem → XA) (as : List Value) (M0 : Mem) : XA := aR as fun a0 as => aZ as (c86 rec a0 M0)
set_option maxRecDepth 100000 in
set_option maxHeartbeats 4000000 in
theorem k86 {S : XS} {G : XG} {K : Nat × Nat} {l : Launch} {d : Nat} {rec : Nat → List Value → Mem → XA} (hs : XSnd l xmt rec d) (a0 : Option Nat) (M0 : Mem) : Xe S G K l (yX6_readProp, cX6_readProp, 2, none) d 0 [some (va_rf a0), none] [] M0 (c86 rec a0 M0) := by
  unfold c86
  refine x_aload_n dX6_readProp_0 rfl ?_
  refine cmX6_121 rfl hs (Nat.le_of_ble_eq_true rfl) dX6_readProp_1 (fun M1 => ?_)
  refine nwX6_135 rfl dX6_readProp_4 (fun x2 M3 => ?_)
  refine x_dup dX6_readProp_7 (xc1_r _) ?_
  refine x_aload_n dX6_readProp_8 rfl ?_
  refine x_aload_n dX6_readProp_9 rfl ?_
  refine cmX6_192 rfl hs (Nat.le_of_ble_eq_true rfl) dX6_readProp_10 (fun x5 M4 => ?_)
  refine x_aload_n dX6_readProp_13 rfl ?_
  refine gfX6_59 rfl dX6_readProp_14 (fun x6 => ?_)
  refine cmX6_94 rfl hs (Nat.le_of_ble_eq_true rfl) dX6_readProp_17 (fun x8 M7 => ?_)
  refine x_bipush (v := 6) dX6_readProp_20 (by decide) ?_
  refine x_jn (σ := Int32) 30 (fun s9 => [some (va_rf a0), none]) (fun s9 => [.int s9, .int x5, va_rf a0, va_rf x2, va_rf x2]) (fun s9 => M7) (fun s9 => ?_) (fun j30 hj30 => ?_)
  · refine cmX6_152 rfl hs (Nat.le_of_ble_eq_true rfl) dX6_readProp_30 (fun x11 M10 => ?_)
    refine x_aload_n dX6_readProp_33 rfl ?_
    refine gfX6_49 rfl dX6_readProp_34 (fun x12 => ?_)
    refine cmX6_94 rfl hs (Nat.le_of_ble_eq_true rfl) dX6_readProp_37 (fun x14 M13 => ?_)
    refine x_iconst (v := 1) dX6_readProp_40 (by decide) ?_
    refine x_isub dX6_readProp_41 ?_
    refine x_bipush (v := 6) dX6_readProp_42 (by decide) ?_
    refine cmX6_196 rfl hs (Nat.le_of_ble_eq_true rfl) dX6_readProp_44 (fun M15 => ?_)
    refine x_astore_n (lo' := [some (va_rf a0), some (va_rf x2)]) dX6_readProp_47 (by decide) (xok_r rfl) rfl ?_
    refine x_aload_n dX6_readProp_48 rfl ?_
    refine gfX6_59 rfl dX6_readProp_49 (fun x16 => ?_)
    refine x_aload_n dX6_readProp_52 rfl ?_
    refine cmX6_159 rfl hs (Nat.le_of_ble_eq_true rfl) dX6_readProp_53 (fun x18 M17 => ?_)
    refine x_pop dX6_readProp_56 (xc1_i _) ?_
    refine x_aload_n dX6_readProp_57 rfl ?_
    refine x_bipush (v := 40) dX6_readProp_58 (by decide) ?_
    refine cmX6_90 rfl hs (Nat.le_of_ble_eq_true rfl) dX6_readProp_60 (fun M19 => ?_)
    refine x_aload_n dX6_readProp_63 rfl ?_
    refine cmX6_215 rfl hs (Nat.le_of_ble_eq_true rfl) dX6_readProp_64 (fun M20 => ?_)
    refine x_aload_n dX6_readProp_67 rfl ?_
    refine x_bipush (v := 41) dX6_readProp_68 (by decide) ?_
    refine cmX6_90 rfl hs (Nat.le_of_ble_eq_true rfl) dX6_readProp_70 (fun M21 => ?_)
    refine x_aload_n dX6_readProp_73 rfl ?_
    refine x_aload_n dX6_readProp_74 rfl ?_
    refine gfX6_145 rfl dX6_readProp_75 (fun x22 => ?_)
    refine pfX6_208 rfl dX6_readProp_78 (fun M23 => ?_)
    refine x_aload_n dX6_readProp_81 rfl ?_
    refine x_aload_n dX6_readProp_82 rfl ?_
    refine gfX6_62 rfl dX6_readProp_83 (fun x24 => ?_)
    refine pfX6_218 rfl dX6_readProp_86 (fun M25 => ?_)
    exact x_vret rfl dX6_readProp_89
  refine x_icmp_lt (tgt := 29) dX6_readProp_22 (by decide) (fun _ => ?_) (fun _ => ?_)
  · refine x_iconst (v := 0) dX6_readProp_29 (by decide) ?_
    exact x_weak (by exact ⟨rfl, trivial⟩) (hj30 ((0 : Int32)))
  · refine x_iconst (v := 1) dX6_readProp_25 (by decide) ?_
    refine x_goto (tgt := 30) dX6_readProp_26 (by decide) ?_
    exact x_weak (by exact ⟨rfl, trivial⟩) (hj30 ((1 : Int32)))
theorem s86 {l : Launch} {d : Nat} {rec : Nat → List Value → Mem → XA} (hS : Nonempty XS) (hs : XSnd l xmt rec d) : Snd1 l 86 (b86 rec) d := by
  intro as M r M' h0
  unfold b86 at h0
  obtain ⟨a0, l1, e1, h1⟩ := aR_inv h0
  obtain ⟨ez, h⟩ := aZ_inv h1
  subst ez
  subst e1
  exact xmet (M := M) (as := [va_rf a0]) (lo := [some (va_rf a0)]) 86 xq86 xm86 (by rw [xargs_rf, xargs_nil]; exact ⟨rfl, trivial⟩) (by rw [xargs_rf, xargs_nil]; exact Nat.le_of_ble_eq_true rfl) (fun S G K => x_weak (by exact ⟨rfl, trivial⟩) (k86 hs a0 M)) h hS
set_option maxRecDepth 100000 in
def c87 (rec : Nat → List Value → Mem → XA) (a0 : Option Nat) (a1 : Int32) (a2 : Int32) (M0 : Mem) : XA :=
  gtI (7, 20) M0 a0 9 fun x1 =>
  if x1 < ((4096 : Int32)) then (
    gtP (7, 20) M0 a0 5 fun x2 =>
    gtI (7, 20) M0 a0 9 fun x3 =>
    asI 100 M0 x2 x3 a1 fun M4 =>
    gtP (7, 20) M4 a0 6 fun x5 =>
    gtI (7, 20) M4 a0 9 fun x6 =>
    asI 100 M4 x5 x6 a2 fun M7 =>
    gtP (7, 20) M7 a0 7 fun x8 =>
    gtI (7, 20) M7 a0 9 fun x9 =>
    asI 100 M7 x8 x9 (((-2 : Int32))) fun M10 =>
    gtI (7, 20) M10 a0 9 fun x11 =>
    ptI (7, 20) M10 a0 9 (x11 + ((1 : Int32))) fun M12 =>
    gtI (7, 20) M12 a0 9 fun x13 =>
    some (.int (x13 - ((1 : Int32))), M12)) else (
    some (.int ((4095 : Int32)), M0))
def b87 (rec : Nat → List Value → Mem → XA) (as : List Value) (M0 : Mem) : XA := aR as fun a0 as => aI as fun a1 as => aI as fun a2 as => aZ as (c87 rec a0 a1 a2 M0)
set_option maxRecDepth 100000 in
set_option maxHeartbeats 4000000 in
theorem k87 {S : XS} {G : XG} {K : Nat × Nat} {l : Launch} {d : Nat} {rec : Nat → List Value → Mem → XA} (hs : XSnd l xmt rec d) (a0 : Option Nat) (a1 : Int32) (a2 : Int32) (M0 : Mem) : Xe S G K l (yX6_emit, cX6_emit, 3, some .int) d 0 [some (va_rf a0), some (.int a1), some (.int a2)] [] M0 (c87 rec a0 a1 a2 M0) := by
  unfold c87
  refine x_aload_n dX6_emit_0 rfl ?_
  refine gfX6_62 rfl dX6_emit_1 (fun x1 => ?_)
  refine x_sipush (v := 4096) dX6_emit_4 (by decide) ?_
  refine x_icmp_lt (tgt := 14) dX6_emit_7 (by decide) (fun _ => ?_) (fun _ => ?_)
  · refine x_aload_n dX6_emit_14 rfl ?_
    refine gfX6_18 rfl dX6_emit_15 (fun x2 => ?_)
    refine x_aload_n dX6_emit_18 rfl ?_
    refine gfX6_62 rfl dX6_emit_19 (fun x3 => ?_)
    refine x_iload_n dX6_emit_22 rfl ?_
    refine x_iast dX6_emit_23 (fun M4 => ?_)
    refine x_aload_n dX6_emit_24 rfl ?_
    refine gfX6_22 rfl dX6_emit_25 (fun x5 => ?_)
    refine x_aload_n dX6_emit_28 rfl ?_
    refine gfX6_62 rfl dX6_emit_29 (fun x6 => ?_)
    refine x_iload_n dX6_emit_32 rfl ?_
    refine x_iast dX6_emit_33 (fun M7 => ?_)
    refine x_aload_n dX6_emit_34 rfl ?_
    refine gfX6_25 rfl dX6_emit_35 (fun x8 => ?_)
    refine x_aload_n dX6_emit_38 rfl ?_
    refine gfX6_62 rfl dX6_emit_39 (fun x9 => ?_)
    refine x_bipush (v := -2) dX6_emit_42 (by decide) ?_
    refine x_iast dX6_emit_44 (fun M10 => ?_)
    refine x_aload_n dX6_emit_45 rfl ?_
    refine x_dup dX6_emit_46 (xc1_r _) ?_
    refine gfX6_62 rfl dX6_emit_47 (fun x11 => ?_)
    refine x_iconst (v := 1) dX6_emit_50 (by decide) ?_
    refine x_iadd dX6_emit_51 ?_
    refine pfX6_62 rfl dX6_emit_52 (fun M12 => ?_)
    refine x_aload_n dX6_emit_55 rfl ?_
    refine gfX6_62 rfl dX6_emit_56 (fun x13 => ?_)
    refine x_iconst (v := 1) dX6_emit_59 (by decide) ?_
    refine x_isub dX6_emit_60 ?_
    exact x_iret rfl dX6_emit_61
  · refine x_sipush (v := 4095) dX6_emit_10 (by decide) ?_
    exact x_iret rfl dX6_emit_13
theorem s87 {l : Launch} {d : Nat} {rec : Nat → List Value → Mem → XA} (hS : Nonempty XS) (hs : XSnd l xmt rec d) : Snd1 l 87 (b87 rec) d := by
  intro as M r M' h0
  unfold b87 at h0
  obtain ⟨a0, l1, e1, h1⟩ := aR_inv h0
  obtain ⟨a1, l2, e2, h2⟩ := aI_inv h1
  obtain ⟨a2, l3, e3, h3⟩ := aI_inv h2
  obtain ⟨ez, h⟩ := aZ_inv h3
  subst ez
  subst e3
  subst e2
  subst e1
  exact xmet (M := M) (as := [va_rf a0, .int a1, .int a2]) (lo := [some (va_rf a0), some (.int a1), some (.int a2)]) 87 xq87 xm87 (by rw [xargs_rf, xargs_i, xargs_i, xargs_nil]; exact ⟨rfl, ⟨rfl, ⟨rfl, trivial⟩⟩⟩) (by rw [xargs_rf, xargs_i, xargs_i, xargs_nil]; exact Nat.le_of_ble_eq_true rfl) (fun S G K => x_weak (by exact ⟨rfl, ⟨rfl, ⟨rfl, trivial⟩⟩⟩) (k87 hs a0 a1 a2 M)) h hS
set_option maxRecDepth 100000 in
def c88 (rec : Nat → List Value → Mem → XA) (a0 : Option Nat) (M0 : Mem) : XA :=
  vC (7, 20) M0 a0 <|
  cI (rec 87 [va_rf a0, .int ((0 : Int32)), .int ((0 : Int32))] M0) fun x2 M1 =>
  vC (7, 20) M1 a0 <|
  cI (rec 87 [va_rf a0, .int ((8 : Int32)), .int ((0 : Int32))] M1) fun x4 M3 =>
  gtI (7, 20) M3 a0 13 fun x5 =>
  jn (fun (s6 : Mem) =>
    some (.null, s6)) fun j55 =>
  if x5 = ((125 : Int32)) then (
    gtI (7, 20) M3 a0 9 fun x7 =>
    gtI (7, 20) M3 a0 14 fun x8 =>
    jn (fun (s9 : Unit) =>
      vC (7, 20) M3 a0 <|
      cV (rec 62 [va_rf a0, .int ((6 : Int32))] M3) fun M10 =>
      j55 M10) fun j49 =>
    if ((200 : Int32)) < (x7 - x8) then (
      j49 ()) else (
      gtI (7, 20) M3 a0 9 fun x11 =>
      if x11 ≤ ((1000 : Int32)) then (
        j55 M3) else (
        j49 ()))) else (
    j55 M3)
def b88 (rec : Nat → List Value → Mem → XA) (as : List Value) (M0 : Mem) : XA := aR as fun a0 as => aZ as (c88 rec a0 M0)
set_option maxRecDepth 100000 in
set_option maxHeartbeats 4000000 in
theorem k88 {S : XS} {G : XG} {K : Nat × Nat} {l : Launch} {d : Nat} {rec : Nat → List Value → Mem → XA} (hs : XSnd l xmt rec d) (a0 : Option Nat) (M0 : Mem) : Xe S G K l (yX6_endCode, cX6_endCode, 1, none) d 0 [some (va_rf a0)] [] M0 (c88 rec a0 M0) := by
  unfold c88
  refine x_aload_n dX6_endCode_0 rfl ?_
  refine x_iconst (v := 0) dX6_endCode_1 (by decide) ?_
  refine x_iconst (v := 0) dX6_endCode_2 (by decide) ?_
  refine cmX6_256 rfl hs (Nat.le_of_ble_eq_true rfl) dX6_endCode_3 (fun x2 M1 => ?_)
  refine x_pop dX6_endCode_6 (xc1_i _) ?_
  refine x_aload_n dX6_endCode_7 rfl ?_
  refine x_bipush (v := 8) dX6_endCode_8 (by decide) ?_
  refine x_iconst (v := 0) dX6_endCode_10 (by decide) ?_
  refine cmX6_256 rfl hs (Nat.le_of_ble_eq_true rfl) dX6_endCode_11 (fun x4 M3 => ?_)
  refine x_pop dX6_endCode_14 (xc1_i _) ?_
  refine x_aload_n dX6_endCode_15 rfl ?_
  refine gfX6_81 rfl dX6_endCode_16 (fun x5 => ?_)
  refine x_bipush (v := 125) dX6_endCode_19 (by decide) ?_
  refine x_jn (σ := Mem) 55 (fun s6 => [none]) (fun s6 => []) (fun s6 => s6) (fun s6 => ?_) (fun j55 hj55 => ?_)
  · exact x_vret rfl dX6_endCode_55
  refine x_icmp_ne (tgt := 55) dX6_endCode_21 (by decide) (fun _ => ?_) (fun _ => ?_)
  · refine x_aload_n dX6_endCode_24 rfl ?_
    refine gfX6_62 rfl dX6_endCode_25 (fun x7 => ?_)
    refine x_aload_n dX6_endCode_28 rfl ?_
    refine gfX6_170 rfl dX6_endCode_29 (fun x8 => ?_)
    refine x_isub dX6_endCode_32 ?_
    refine x_sipush (v := 200) dX6_endCode_33 (by decide) ?_
    refine x_jn (σ := Unit) 49 (fun s9 => [some (va_rf a0)]) (fun s9 => []) (fun s9 => M3) (fun s9 => ?_) (fun j49 hj49 => ?_)
    · refine x_aload_n dX6_endCode_49 rfl ?_
      refine x_bipush (v := 6) dX6_endCode_50 (by decide) ?_
      refine cmX6_109 rfl hs (Nat.le_of_ble_eq_true rfl) dX6_endCode_52 (fun M10 => ?_)
      exact x_weak (by exact trivial) (hj55 M10)
    refine x_icmp_gt (tgt := 49) dX6_endCode_36 (by decide) (fun _ => ?_) (fun _ => ?_)
    · exact x_weak (by exact ⟨rfl, trivial⟩) (hj49 ())
    · refine x_aload_n dX6_endCode_39 rfl ?_
      refine gfX6_62 rfl dX6_endCode_40 (fun x11 => ?_)
      refine x_sipush (v := 1000) dX6_endCode_43 (by decide) ?_
      refine x_icmp_le (tgt := 55) dX6_endCode_46 (by decide) (fun _ => ?_) (fun _ => ?_)
      · exact x_weak (by exact trivial) (hj55 M3)
      · exact x_weak (by exact ⟨rfl, trivial⟩) (hj49 ())
  · exact x_weak (by exact trivial) (hj55 M3)
theorem s88 {l : Launch} {d : Nat} {rec : Nat → List Value → Mem → XA} (hS : Nonempty XS) (hs : XSnd l xmt rec d) : Snd1 l 88 (b88 rec) d := by
  intro as M r M' h0
  unfold b88 at h0
  obtain ⟨a0, l1, e1, h1⟩ := aR_inv h0
  obtain ⟨ez, h⟩ := aZ_inv h1
  subst ez
  subst e1
  exact xmet (M := M) (as := [va_rf a0]) (lo := [some (va_rf a0)]) 88 xq88 xm88 (by rw [xargs_rf, xargs_nil]; exact ⟨rfl, trivial⟩) (by rw [xargs_rf, xargs_nil]; exact Nat.le_of_ble_eq_true rfl) (fun S G K => x_weak (by exact ⟨rfl, trivial⟩) (k88 hs a0 M)) h hS
set_option maxRecDepth 100000 in
def c89_14 (rec : Nat → List Value → Mem → XA) (a0 : Option Nat) (a1 : Int32) (j51 : Mem → XA) : (Int32 × Mem) → ((Int32 × Mem) → XA) → XA := fun s8 j14 =>
  if ((3000 : Int32)) ≤ s8.1 then (
    j51 s8.2) else (
    gtI (7, 20) s8.2 a0 13 fun x9 =>
    if x9 = ((125 : Int32)) then (
      j51 s8.2) else (
      gtI (7, 20) s8.2 a0 13 fun x10 =>
      if x10 = ((2 : Int32)) then (
        j51 s8.2) else (
        vC (7, 20) s8.2 a0 <|
        cV (rec 90 [va_rf a0, .int (a1 + ((1 : Int32)))] s8.2) fun M11 =>
        lt (s8.1 + (1 : Int32)) fun (x12 : Int32) =>
        j14 (x12, M11))))
set_option maxRecDepth 100000 in
def c89 (rec : Nat → List Value → Mem → XA) (a0 : Option Nat) (a1 : Int32) (M0 : Mem) : XA :=
  vC (7, 20) M0 a0 <|
  cV (rec 69 [va_rf a0, .int ((123 : Int32)), .int a1] M0) fun M1 =>
  gtI (7, 20) M1 a0 16 fun x2 =>
  jn (fun (s3 : Mem) =>
    jn (fun (s4 : Mem) =>
      vC (7, 20) s4 a0 <|
      cV (rec 64 [va_rf a0, .int ((125 : Int32))] s4) fun M5 =>
      ptI (7, 20) M5 a0 16 x2 fun M6 =>
      some (.null, M6)) fun j59 =>
    if a1 = 0 then (
      vC (7, 20) s3 a0 <|
      cV (rec 88 [va_rf a0] s3) fun M7 =>
      j59 M7) else (
      j59 s3)) fun j51 =>
  lp (c89_14 rec a0 a1 j51) 4294967296 ((0 : Int32), M1)
def b89 (rec : Nat → List Value → Mem → XA) (as : List Value) (M0 : Mem) : XA := aR as fun a0 as => aI as fun a1 as => aZ as (c89 rec a0 a1 M0)
set_option maxRecDepth 100000 in
set_option maxHeartbeats 4000000 in
theorem k89 {S : XS} {G : XG} {K : Nat × Nat} {l : Launch} {d : Nat} {rec : Nat → List Value → Mem → XA} (hs : XSnd l xmt rec d) (a0 : Option Nat) (a1 : Int32) (M0 : Mem) : Xe S G K l (yX6_block, cX6_block, 4, none) d 0 [some (va_rf a0), some (.int a1), none, none] [] M0 (c89 rec a0 a1 M0) := by
  unfold c89
  refine x_aload_n dX6_block_0 rfl ?_
  refine x_bipush (v := 123) dX6_block_1 (by decide) ?_
  refine x_iload_n dX6_block_3 rfl ?_
  refine cmX6_259 rfl hs (Nat.le_of_ble_eq_true rfl) dX6_block_4 (fun M1 => ?_)
  refine x_aload_n dX6_block_7 rfl ?_
  refine gfX6_145 rfl dX6_block_8 (fun x2 => ?_)
  refine x_istore_n (lo' := [some (va_rf a0), some (.int a1), some (.int x2), none]) dX6_block_11 (by decide) rfl rfl ?_
  refine x_iconst (v := 0) dX6_block_12 (by decide) ?_
  refine x_istore_n (lo' := [some (va_rf a0), some (.int a1), some (.int x2), some (.int ((0 : Int32)))]) dX6_block_13 (by decide) rfl rfl ?_
  refine x_jn (σ := Mem) 51 (fun s3 => [some (va_rf a0), some (.int a1), some (.int x2), none]) (fun s3 => []) (fun s3 => s3) (fun s3 => ?_) (fun j51 hj51 => ?_)
  · refine x_iload_n dX6_block_51 rfl ?_
    refine x_jn (σ := Mem) 59 (fun s4 => [some (va_rf a0), none, some (.int x2), none]) (fun s4 => []) (fun s4 => s4) (fun s4 => ?_) (fun j59 hj59 => ?_)
    · refine x_aload_n dX6_block_59 rfl ?_
      refine x_bipush (v := 125) dX6_block_60 (by decide) ?_
      refine cmX6_90 rfl hs (Nat.le_of_ble_eq_true rfl) dX6_block_62 (fun M5 => ?_)
      refine x_aload_n dX6_block_65 rfl ?_
      refine x_iload_n dX6_block_66 rfl ?_
      refine pfX6_145 rfl dX6_block_67 (fun M6 => ?_)
      exact x_vret rfl dX6_block_70
    refine x_if_ne (tgt := 59) dX6_block_52 (by decide) (fun _ => ?_) (fun _ => ?_)
    · refine x_aload_n dX6_block_55 rfl ?_
      refine cmX6_266 rfl hs (Nat.le_of_ble_eq_true rfl) dX6_block_56 (fun M7 => ?_)
      exact x_weak (by exact ⟨rfl, ⟨rfl, trivial⟩⟩) (hj59 M7)
    · exact x_weak (by exact ⟨rfl, ⟨rfl, trivial⟩⟩) (hj59 s3)
  refine x_weak (by exact ⟨rfl, ⟨rfl, ⟨rfl, ⟨rfl, trivial⟩⟩⟩⟩) (x_lp (σ := Int32 × Mem) 14 (fun s8 => [some (va_rf a0), some (.int a1), some (.int x2), some (.int s8.1)]) (fun s8 => []) (fun s8 => s8.2) (fun s8 j14 hj14 => ?_) 4294967296 ((0 : Int32), M1))
  · refine x_iload_n dX6_block_14 rfl ?_
    refine x_sipush (v := 3000) dX6_block_15 (by decide) ?_
    refine x_icmp_ge (tgt := 51) dX6_block_18 (by decide) (fun _ => ?_) (fun _ => ?_)
    · exact x_weak (by exact ⟨rfl, ⟨rfl, ⟨rfl, trivial⟩⟩⟩) (hj51 s8.2)
    · refine x_aload_n dX6_block_21 rfl ?_
      refine gfX6_81 rfl dX6_block_22 (fun x9 => ?_)
      refine x_bipush (v := 125) dX6_block_25 (by decide) ?_
      refine x_icmp_eq (tgt := 51) dX6_block_27 (by decide) (fun _ => ?_) (fun _ => ?_)
      · exact x_weak (by exact ⟨rfl, ⟨rfl, ⟨rfl, trivial⟩⟩⟩) (hj51 s8.2)
      · refine x_aload_n dX6_block_30 rfl ?_
        refine gfX6_81 rfl dX6_block_31 (fun x10 => ?_)
        refine x_iconst (v := 2) dX6_block_34 (by decide) ?_
        refine x_icmp_eq (tgt := 51) dX6_block_35 (by decide) (fun _ => ?_) (fun _ => ?_)
        · exact x_weak (by exact ⟨rfl, ⟨rfl, ⟨rfl, trivial⟩⟩⟩) (hj51 s8.2)
        · refine x_aload_n dX6_block_38 rfl ?_
          refine x_iload_n dX6_block_39 rfl ?_
          refine x_iconst (v := 1) dX6_block_40 (by decide) ?_
          refine x_iadd dX6_block_41 ?_
          refine cmX6_263 rfl hs (Nat.le_of_ble_eq_true rfl) dX6_block_42 (fun M11 => ?_)
          refine x_iincN (v := 1) (lo' := fun x12 => [some (va_rf a0), some (.int a1), some (.int x2), some (.int x12)]) (by decide) dX6_block_45 rfl (by decide) rfl (fun _ => rfl) (fun x12 => ?_)
          refine x_goto (tgt := 14) dX6_block_48 (by decide) ?_
          exact x_weak (by exact ⟨rfl, ⟨rfl, ⟨rfl, ⟨rfl, trivial⟩⟩⟩⟩) (hj14 (x12, M11))
theorem s89 {l : Launch} {d : Nat} {rec : Nat → List Value → Mem → XA} (hS : Nonempty XS) (hs : XSnd l xmt rec d) : Snd1 l 89 (b89 rec) d := by
  intro as M r M' h0
  unfold b89 at h0
  obtain ⟨a0, l1, e1, h1⟩ := aR_inv h0
  obtain ⟨a1, l2, e2, h2⟩ := aI_inv h1
  obtain ⟨ez, h⟩ := aZ_inv h2
  subst ez
  subst e2
  subst e1
  exact xmet (M := M) (as := [va_rf a0, .int a1]) (lo := [some (va_rf a0), some (.int a1)]) 89 xq89 xm89 (by rw [xargs_rf, xargs_i, xargs_nil]; exact ⟨rfl, ⟨rfl, trivial⟩⟩) (by rw [xargs_rf, xargs_i, xargs_nil]; exact Nat.le_of_ble_eq_true rfl) (fun S G K => x_weak (by exact ⟨rfl, ⟨rfl, trivial⟩⟩) (k89 hs a0 a1 M)) h hS
set_option maxRecDepth 100000 in
def c90 (rec : Nat → List Value → Mem → XA) (a0 : Option Nat) (a1 : Int32) (M0 : Mem) : XA :=
  gtI (7, 20) M0 a0 13 fun x1 =>
  jn (fun (s2 : Mem) =>
    some (.null, s2)) fun j155 =>
  swI x1 [
   ((3 : Int32), (
      vC (7, 20) M0 a0 <|
      cV (rec 96 [va_rf a0, .int a1] M0) fun M3 =>
      j155 M3)),
   ((215 : Int32), (
      vC (7, 20) M0 a0 <|
      cV (rec 92 [va_rf a0, .int a1] M0) fun M4 =>
      j155 M4)),
   ((216 : Int32), (
      vC (7, 20) M0 a0 <|
      cV (rec 93 [va_rf a0, .int a1] M0) fun M5 =>
      j155 M5)),
   ((218 : Int32), (
      vC (7, 20) M0 a0 <|
      cV (rec 94 [va_rf a0, .int a1] M0) fun M6 =>
      j155 M6)),
   ((219 : Int32), (
      vC (7, 20) M0 a0 <|
      cV (rec 91 [va_rf a0, .int ((8 : Int32)), .int a1] M0) fun M7 =>
      j155 M7)),
   ((220 : Int32), (
      vC (7, 20) M0 a0 <|
      cV (rec 91 [va_rf a0, .int ((28 : Int32)), .int a1] M0) fun M8 =>
      j155 M8)),
   ((221 : Int32), (
      vC (7, 20) M0 a0 <|
      cV (rec 91 [va_rf a0, .int ((29 : Int32)), .int a1] M0) fun M9 =>
      j155 M9)),
   ((222 : Int32), (
      vC (7, 20) M0 a0 <|
      cV (rec 95 [va_rf a0, .int a1] M0) fun M10 =>
      j155 M10))] (
    vC (7, 20) M0 a0 <|
    cV (rec 62 [va_rf a0, .int ((2 : Int32))] M0) fun M11 =>
    j155 M11)
def b90 (rec : Nat → List Value → Mem → XA) (as : List Value) (M0 : Mem) : XA := aR as fun a0 as => aI as fun a1 as => aZ as (c90 rec a0 a1 M0)
set_option maxRecDepth 100000 in
set_option maxHeartbeats 4000000 in
theorem k90 {S : XS} {G : XG} {K : Nat × Nat} {l : Launch} {d : Nat} {rec : Nat → List Value → Mem → XA} (hs : XSnd l xmt rec d) (a0 : Option Nat) (a1 : Int32) (M0 : Mem) : Xe S G K l (yX6_statement, cX6_statement, 2, none) d 0 [some (va_rf a0), some (.int a1)] [] M0 (c90 rec a0 a1 M0) := by
  unfold c90
  refine x_aload_n dX6_statement_0 rfl ?_
  refine gfX6_81 rfl dX6_statement_1 (fun x1 => ?_)
  refine x_jn (σ := Mem) 155 (fun s2 => [none, none]) (fun s2 => []) (fun s2 => s2) (fun s2 => ?_) (fun j155 hj155 => ?_)
  · exact x_vret rfl dX6_statement_155
  refine x_lookup (tgt := 150) dX6_statement_4 [(3, 88), (215, 80), (216, 96), (218, 104), (219, 112), (220, 122), (221, 132), (222, 142)] (by decide +kernel) (by decide +kernel) (by decide) ?_ ?_
  · refine swG_d (by decide) ?_ (swG_d (by decide) ?_ (swG_d (by decide) ?_ (swG_d (by decide) ?_ (swG_d (by decide) ?_ (swG_d (by decide) ?_ (swG_d (by decide) ?_ (swG_d (by decide) ?_ (trivial))))))))
    · refine x_aload_n dX6_statement_88 rfl ?_
      refine x_iload_n dX6_statement_89 rfl ?_
      refine cmX6_271 rfl hs (Nat.le_of_ble_eq_true rfl) dX6_statement_90 (fun M3 => ?_)
      refine x_goto (tgt := 155) dX6_statement_93 (by decide) ?_
      exact x_weak (by exact trivial) (hj155 M3)
    · refine x_aload_n dX6_statement_80 rfl ?_
      refine x_iload_n dX6_statement_81 rfl ?_
      refine cmX6_268 rfl hs (Nat.le_of_ble_eq_true rfl) dX6_statement_82 (fun M4 => ?_)
      refine x_goto (tgt := 155) dX6_statement_85 (by decide) ?_
      exact x_weak (by exact trivial) (hj155 M4)
    · refine x_aload_n dX6_statement_96 rfl ?_
      refine x_iload_n dX6_statement_97 rfl ?_
      refine cmX6_274 rfl hs (Nat.le_of_ble_eq_true rfl) dX6_statement_98 (fun M5 => ?_)
      refine x_goto (tgt := 155) dX6_statement_101 (by decide) ?_
      exact x_weak (by exact trivial) (hj155 M5)
    · refine x_aload_n dX6_statement_104 rfl ?_
      refine x_iload_n dX6_statement_105 rfl ?_
      refine cmX6_277 rfl hs (Nat.le_of_ble_eq_true rfl) dX6_statement_106 (fun M6 => ?_)
      refine x_goto (tgt := 155) dX6_statement_109 (by decide) ?_
      exact x_weak (by exact trivial) (hj155 M6)
    · refine x_aload_n dX6_statement_112 rfl ?_
      refine x_bipush (v := 8) dX6_statement_113 (by decide) ?_
      refine x_iload_n dX6_statement_115 rfl ?_
      refine cmX6_280 rfl hs (Nat.le_of_ble_eq_true rfl) dX6_statement_116 (fun M7 => ?_)
      refine x_goto (tgt := 155) dX6_statement_119 (by decide) ?_
      exact x_weak (by exact trivial) (hj155 M7)
    · refine x_aload_n dX6_statement_122 rfl ?_
      refine x_bipush (v := 28) dX6_statement_123 (by decide) ?_
      refine x_iload_n dX6_statement_125 rfl ?_
      refine cmX6_280 rfl hs (Nat.le_of_ble_eq_true rfl) dX6_statement_126 (fun M8 => ?_)
      refine x_goto (tgt := 155) dX6_statement_129 (by decide) ?_
      exact x_weak (by exact trivial) (hj155 M8)
    · refine x_aload_n dX6_statement_132 rfl ?_
      refine x_bipush (v := 29) dX6_statement_133 (by decide) ?_
      refine x_iload_n dX6_statement_135 rfl ?_
      refine cmX6_280 rfl hs (Nat.le_of_ble_eq_true rfl) dX6_statement_136 (fun M9 => ?_)
      refine x_goto (tgt := 155) dX6_statement_139 (by decide) ?_
      exact x_weak (by exact trivial) (hj155 M9)
    · refine x_aload_n dX6_statement_142 rfl ?_
      refine x_iload_n dX6_statement_143 rfl ?_
      refine cmX6_283 rfl hs (Nat.le_of_ble_eq_true rfl) dX6_statement_144 (fun M10 => ?_)
      refine x_goto (tgt := 155) dX6_statement_147 (by decide) ?_
      exact x_weak (by exact trivial) (hj155 M10)
  · refine x_aload_n dX6_statement_150 rfl ?_
    refine x_iconst (v := 2) dX6_statement_151 (by decide) ?_
    refine cmX6_109 rfl hs (Nat.le_of_ble_eq_true rfl) dX6_statement_152 (fun M11 => ?_)
    exact x_weak (by exact trivial) (hj155 M11)
theorem s90 {l : Launch} {d : Nat} {rec : Nat → List Value → Mem → XA} (hS : Nonempty XS) (hs : XSnd l xmt rec d) : Snd1 l 90 (b90 rec) d := by
  intro as M r M' h0
  unfold b90 at h0
  obtain ⟨a0, l1, e1, h1⟩ := aR_inv h0
  obtain ⟨a1, l2, e2, h2⟩ := aI_inv h1
  obtain ⟨ez, h⟩ := aZ_inv h2
  subst ez
  subst e2
  subst e1
  exact xmet (M := M) (as := [va_rf a0, .int a1]) (lo := [some (va_rf a0), some (.int a1)]) 90 xq90 xm90 (by rw [xargs_rf, xargs_i, xargs_nil]; exact ⟨rfl, ⟨rfl, trivial⟩⟩) (by rw [xargs_rf, xargs_i, xargs_nil]; exact Nat.le_of_ble_eq_true rfl) (fun S G K => x_weak (by exact ⟨rfl, ⟨rfl, trivial⟩⟩) (k90 hs a0 a1 M)) h hS
set_option maxRecDepth 100000 in
def c91 (rec : Nat → List Value → Mem → XA) (a0 : Option Nat) (a1 : Int32) (a2 : Int32) (M0 : Mem) : XA :=
  vC (7, 20) M0 a0 <|
  cV (rec 63 [va_rf a0] M0) fun M1 =>
  vC (7, 20) M1 a0 <|
  cV (rec 99 [va_rf a0, .int ((0 : Int32)), .int a2] M1) fun M2 =>
  vC (7, 20) M2 a0 <|
  cV (rec 64 [va_rf a0, .int ((59 : Int32))] M2) fun M3 =>
  vC (7, 20) M3 a0 <|
  cI (rec 87 [va_rf a0, .int a1, .int ((0 : Int32))] M3) fun x5 M4 =>
  some (.null, M4)
def b91 (rec : Nat → List Value → Mem → XA) (as : List Value) (M0 : Mem) : XA := aR as fun a0 as => aI as fun a1 as => aI as fun a2 as => aZ as (c91 rec a0 a1 a2 M0)
set_option maxRecDepth 100000 in
set_option maxHeartbeats 4000000 in
theorem k91 {S : XS} {G : XG} {K : Nat × Nat} {l : Launch} {d : Nat} {rec : Nat → List Value → Mem → XA} (hs : XSnd l xmt rec d) (a0 : Option Nat) (a1 : Int32) (a2 : Int32) (M0 : Mem) : Xe S G K l (yX6_valueStatement, cX6_valueStatement, 3, none) d 0 [some (va_rf a0), some (.int a1), some (.int a2)] [] M0 (c91 rec a0 a1 a2 M0) := by
  unfold c91
  refine x_aload_n dX6_valueStatement_0 rfl ?_
  refine cmX6_121 rfl hs (Nat.le_of_ble_eq_true rfl) dX6_valueStatement_1 (fun M1 => ?_)
  refine x_aload_n dX6_valueStatement_4 rfl ?_
  refine x_iconst (v := 0) dX6_valueStatement_5 (by decide) ?_
  refine x_iload_n dX6_valueStatement_6 rfl ?_
  refine cmX6_286 rfl hs (Nat.le_of_ble_eq_true rfl) dX6_valueStatement_7 (fun M2 => ?_)
  refine x_aload_n dX6_valueStatement_10 rfl ?_
  refine x_bipush (v := 59) dX6_valueStatement_11 (by decide) ?_
  refine cmX6_90 rfl hs (Nat.le_of_ble_eq_true rfl) dX6_valueStatement_13 (fun M3 => ?_)
  refine x_aload_n dX6_valueStatement_16 rfl ?_
  refine x_iload_n dX6_valueStatement_17 rfl ?_
  refine x_iconst (v := 0) dX6_valueStatement_18 (by decide) ?_
  refine cmX6_256 rfl hs (Nat.le_of_ble_eq_true rfl) dX6_valueStatement_19 (fun x5 M4 => ?_)
  refine x_pop dX6_valueStatement_22 (xc1_i _) ?_
  exact x_vret rfl dX6_valueStatement_23
theorem s91 {l : Launch} {d : Nat} {rec : Nat → List Value → Mem → XA} (hS : Nonempty XS) (hs : XSnd l xmt rec d) : Snd1 l 91 (b91 rec) d := by
  intro as M r M' h0
  unfold b91 at h0
  obtain ⟨a0, l1, e1, h1⟩ := aR_inv h0
  obtain ⟨a1, l2, e2, h2⟩ := aI_inv h1
  obtain ⟨a2, l3, e3, h3⟩ := aI_inv h2
  obtain ⟨ez, h⟩ := aZ_inv h3
  subst ez
  subst e3
  subst e2
  subst e1
  exact xmet (M := M) (as := [va_rf a0, .int a1, .int a2]) (lo := [some (va_rf a0), some (.int a1), some (.int a2)]) 91 xq91 xm91 (by rw [xargs_rf, xargs_i, xargs_i, xargs_nil]; exact ⟨rfl, ⟨rfl, ⟨rfl, trivial⟩⟩⟩) (by rw [xargs_rf, xargs_i, xargs_i, xargs_nil]; exact Nat.le_of_ble_eq_true rfl) (fun S G K => x_weak (by exact ⟨rfl, ⟨rfl, ⟨rfl, trivial⟩⟩⟩) (k91 hs a0 a1 a2 M)) h hS
set_option maxRecDepth 100000 in
def c92 (rec : Nat → List Value → Mem → XA) (a0 : Option Nat) (a1 : Int32) (M0 : Mem) : XA :=
  vC (7, 20) M0 a0 <|
  cV (rec 63 [va_rf a0] M0) fun M1 =>
  vC (7, 20) M1 a0 <|
  cL (rec 65 [va_rf a0] M1) fun x3 M2 =>
  vC (7, 20) M2 a0 <|
  cI (rec 74 [va_rf a0, .long x3] M2) fun x5 M4 =>
  jn (fun (s6 : Int32) =>
    gtI (7, 20) M4 a0 16 fun x7 =>
    jn (fun (s8 : Int32) =>
      vC (7, 20) M4 a0 <|
      cL (rec 66 [va_rf a0, .int s6, .int s8] M4) fun x10 M9 =>
      vC (7, 20) M9 a0 <|
      cV (rec 64 [va_rf a0, .int ((61 : Int32))] M9) fun M11 =>
      vC (7, 20) M11 a0 <|
      cV (rec 99 [va_rf a0, .int ((0 : Int32)), .int a1] M11) fun M12 =>
      vC (7, 20) M12 a0 <|
      cV (rec 64 [va_rf a0, .int ((59 : Int32))] M12) fun M13 =>
      gtI (7, 20) M13 a0 16 fun x14 =>
      vC (7, 20) M13 a0 <|
      cI (rec 87 [va_rf a0, .int ((2 : Int32)), .int x14] M13) fun x16 M15 =>
      vC (7, 20) M15 a0 <|
      cV (rec 75 [va_rf a0, .long x10] M15) fun M17 =>
      some (.null, M17)) fun j35 =>
    if x7 < ((10 : Int32)) then (
      j35 ((0 : Int32))) else (
      j35 ((1 : Int32)))) fun j21 =>
  if x5 < 0 then (
    j21 ((0 : Int32))) else (
    j21 ((1 : Int32)))
def b92 (rec : Nat → List Value → Mem → XA) (as : List Value) (M0 : Mem) : XA := aR as fun a0 as => aI as fun a1 as => aZ as (c92 rec a0 a1 M0)
set_option maxRecDepth 100000 in
set_option maxHeartbeats 4000000 in
theorem k92 {S : XS} {G : XG} {K : Nat × Nat} {l : Launch} {d : Nat} {rec : Nat → List Value → Mem → XA} (hs : XSnd l xmt rec d) (a0 : Option Nat) (a1 : Int32) (M0 : Mem) : Xe S G K l (yX6_letStatement, cX6_letStatement, 4, none) d 0 [some (va_rf a0), some (.int a1), none, none] [] M0 (c92 rec a0 a1 M0) := by
  unfold c92
  refine x_aload_n dX6_letStatement_0 rfl ?_
  refine cmX6_121 rfl hs (Nat.le_of_ble_eq_true rfl) dX6_letStatement_1 (fun M1 => ?_)
  refine x_aload_n dX6_letStatement_4 rfl ?_
  refine x_aload_n dX6_letStatement_5 rfl ?_
  refine x_aload_n dX6_letStatement_6 rfl ?_
  refine cmX6_127 rfl hs (Nat.le_of_ble_eq_true rfl) dX6_letStatement_7 (fun x3 M2 => ?_)
  refine cmX6_221 rfl hs (Nat.le_of_ble_eq_true rfl) dX6_letStatement_10 (fun x5 M4 => ?_)
  refine x_jn (σ := Int32) 21 (fun s6 => [some (va_rf a0), some (.int a1), none, none]) (fun s6 => [.int s6, va_rf a0]) (fun s6 => M4) (fun s6 => ?_) (fun j21 hj21 => ?_)
  · refine x_aload_n dX6_letStatement_21 rfl ?_
    refine gfX6_145 rfl dX6_letStatement_22 (fun x7 => ?_)
    refine x_bipush (v := 10) dX6_letStatement_25 (by decide) ?_
    refine x_jn (σ := Int32) 35 (fun s8 => [some (va_rf a0), some (.int a1), none, none]) (fun s8 => [.int s8, .int s6, va_rf a0]) (fun s8 => M4) (fun s8 => ?_) (fun j35 hj35 => ?_)
    · refine cmX6_152 rfl hs (Nat.le_of_ble_eq_true rfl) dX6_letStatement_35 (fun x10 M9 => ?_)
      refine x_lstore_n (lo' := [some (va_rf a0), some (.int a1), some (.long x10), none]) dX6_letStatement_38 (by decide) rfl rfl ?_
      refine x_aload_n dX6_letStatement_39 rfl ?_
      refine x_bipush (v := 61) dX6_letStatement_40 (by decide) ?_
      refine cmX6_90 rfl hs (Nat.le_of_ble_eq_true rfl) dX6_letStatement_42 (fun M11 => ?_)
      refine x_aload_n dX6_letStatement_45 rfl ?_
      refine x_iconst (v := 0) dX6_letStatement_46 (by decide) ?_
      refine x_iload_n dX6_letStatement_47 rfl ?_
      refine cmX6_286 rfl hs (Nat.le_of_ble_eq_true rfl) dX6_letStatement_48 (fun M12 => ?_)
      refine x_aload_n dX6_letStatement_51 rfl ?_
      refine x_bipush (v := 59) dX6_letStatement_52 (by decide) ?_
      refine cmX6_90 rfl hs (Nat.le_of_ble_eq_true rfl) dX6_letStatement_54 (fun M13 => ?_)
      refine x_aload_n dX6_letStatement_57 rfl ?_
      refine x_iconst (v := 2) dX6_letStatement_58 (by decide) ?_
      refine x_aload_n dX6_letStatement_59 rfl ?_
      refine gfX6_145 rfl dX6_letStatement_60 (fun x14 => ?_)
      refine cmX6_256 rfl hs (Nat.le_of_ble_eq_true rfl) dX6_letStatement_63 (fun x16 M15 => ?_)
      refine x_pop dX6_letStatement_66 (xc1_i _) ?_
      refine x_aload_n dX6_letStatement_67 rfl ?_
      refine x_lload_n dX6_letStatement_68 rfl ?_
      refine cmX6_224 rfl hs (Nat.le_of_ble_eq_true rfl) dX6_letStatement_69 (fun M17 => ?_)
      exact x_vret rfl dX6_letStatement_72
    refine x_icmp_lt (tgt := 34) dX6_letStatement_27 (by decide) (fun _ => ?_) (fun _ => ?_)
    · refine x_iconst (v := 0) dX6_letStatement_34 (by decide) ?_
      exact x_weak (by exact ⟨rfl, ⟨rfl, trivial⟩⟩) (hj35 ((0 : Int32)))
    · refine x_iconst (v := 1) dX6_letStatement_30 (by decide) ?_
      refine x_goto (tgt := 35) dX6_letStatement_31 (by decide) ?_
      exact x_weak (by exact ⟨rfl, ⟨rfl, trivial⟩⟩) (hj35 ((1 : Int32)))
  refine x_if_lt (tgt := 20) dX6_letStatement_13 (by decide) (fun _ => ?_) (fun _ => ?_)
  · refine x_iconst (v := 0) dX6_letStatement_20 (by decide) ?_
    exact x_weak (by exact ⟨rfl, ⟨rfl, trivial⟩⟩) (hj21 ((0 : Int32)))
  · refine x_iconst (v := 1) dX6_letStatement_16 (by decide) ?_
    refine x_goto (tgt := 21) dX6_letStatement_17 (by decide) ?_
    exact x_weak (by exact ⟨rfl, ⟨rfl, trivial⟩⟩) (hj21 ((1 : Int32)))
theorem s92 {l : Launch} {d : Nat} {rec : Nat → List Value → Mem → XA} (hS : Nonempty XS) (hs : XSnd l xmt rec d) : Snd1 l 92 (b92 rec) d := by
  intro as M r M' h0
  unfold b92 at h0
  obtain ⟨a0, l1, e1, h1⟩ := aR_inv h0
  obtain ⟨a1, l2, e2, h2⟩ := aI_inv h1
  obtain ⟨ez, h⟩ := aZ_inv h2
  subst ez
  subst e2
  subst e1
  exact xmet (M := M) (as := [va_rf a0, .int a1]) (lo := [some (va_rf a0), some (.int a1)]) 92 xq92 xm92 (by rw [xargs_rf, xargs_i, xargs_nil]; exact ⟨rfl, ⟨rfl, trivial⟩⟩) (by rw [xargs_rf, xargs_i, xargs_nil]; exact Nat.le_of_ble_eq_true rfl) (fun S G K => x_weak (by exact ⟨rfl, ⟨rfl, trivial⟩⟩) (k92 hs a0 a1 M)) h hS
set_option maxRecDepth 100000 in
def c93 (rec : Nat → List Value → Mem → XA) (a0 : Option Nat) (a1 : Int32) (M0 : Mem) : XA :=
  vC (7, 20) M0 a0 <|
  cV (rec 63 [va_rf a0] M0) fun M1 =>
  vC (7, 20) M1 a0 <|
  cV (rec 99 [va_rf a0, .int ((0 : Int32)), .int a1] M1) fun M2 =>
  vC (7, 20) M2 a0 <|
  cI (rec 87 [va_rf a0, .int ((24 : Int32)), .int ((0 : Int32))] M2) fun x4 M3 =>
  vC (7, 20) M3 a0 <|
  cV (rec 89 [va_rf a0, .int a1] M3) fun M5 =>
  gtI (7, 20) M5 a0 13 fun x6 =>
  jn (fun (s7 : Mem) =>
    some (.null, s7)) fun j83 =>
  if x6 = ((217 : Int32)) then (
    vC (7, 20) M5 a0 <|
    cV (rec 63 [va_rf a0] M5) fun M8 =>
    vC (7, 20) M8 a0 <|
    cI (rec 87 [va_rf a0, .int ((25 : Int32)), .int ((0 : Int32))] M8) fun x10 M9 =>
    gtP (7, 20) M9 a0 6 fun x11 =>
    gtI (7, 20) M9 a0 9 fun x12 =>
    asI 100 M9 x11 x4 x12 fun M13 =>
    vC (7, 20) M13 a0 <|
    cV (rec 89 [va_rf a0, .int a1] M13) fun M14 =>
    gtP (7, 20) M14 a0 6 fun x15 =>
    gtI (7, 20) M14 a0 9 fun x16 =>
    asI 100 M14 x15 x10 x16 fun M17 =>
    j83 M17) else (
    gtP (7, 20) M5 a0 6 fun x18 =>
    gtI (7, 20) M5 a0 9 fun x19 =>
    asI 100 M5 x18 x4 x19 fun M20 =>
    j83 M20)
def b93 (rec : Nat → List Value → Mem → XA) (as : List Value) (M0 : Mem) : XA := aR as fun a0 as => aI as fun a1 as => aZ as (c93 rec a0 a1 M0)
set_option maxRecDepth 100000 in
set_option maxHeartbeats 4000000 in
theorem k93 {S : XS} {G : XG} {K : Nat × Nat} {l : Launch} {d : Nat} {rec : Nat → List Value → Mem → XA} (hs : XSnd l xmt rec d) (a0 : Option Nat) (a1 : Int32) (M0 : Mem) : Xe S G K l (yX6_ifStatement, cX6_ifStatement, 4, none) d 0 [some (va_rf a0), some (.int a1), none, none] [] M0 (c93 rec a0 a1 M0) := by
  unfold c93
  refine x_aload_n dX6_ifStatement_0 rfl ?_
  refine cmX6_121 rfl hs (Nat.le_of_ble_eq_true rfl) dX6_ifStatement_1 (fun M1 => ?_)
  refine x_aload_n dX6_ifStatement_4 rfl ?_
  refine x_iconst (v := 0) dX6_ifStatement_5 (by decide) ?_
  refine x_iload_n dX6_ifStatement_6 rfl ?_
  refine cmX6_286 rfl hs (Nat.le_of_ble_eq_true rfl) dX6_ifStatement_7 (fun M2 => ?_)
  refine x_aload_n dX6_ifStatement_10 rfl ?_
  refine x_bipush (v := 24) dX6_ifStatement_11 (by decide) ?_
  refine x_iconst (v := 0) dX6_ifStatement_13 (by decide) ?_
  refine cmX6_256 rfl hs (Nat.le_of_ble_eq_true rfl) dX6_ifStatement_14 (fun x4 M3 => ?_)
  refine x_istore_n (lo' := [some (va_rf a0), some (.int a1), some (.int x4), none]) dX6_ifStatement_17 (by decide) rfl rfl ?_
  refine x_aload_n dX6_ifStatement_18 rfl ?_
  refine x_iload_n dX6_ifStatement_19 rfl ?_
  refine cmX6_186 rfl hs (Nat.le_of_ble_eq_true rfl) dX6_ifStatement_20 (fun M5 => ?_)
  refine x_aload_n dX6_ifStatement_23 rfl ?_
  refine gfX6_81 rfl dX6_ifStatement_24 (fun x6 => ?_)
  refine x_sipush (v := 217) dX6_ifStatement_27 (by decide) ?_
  refine x_jn (σ := Mem) 83 (fun s7 => [none, none, none, none]) (fun s7 => []) (fun s7 => s7) (fun s7 => ?_) (fun j83 hj83 => ?_)
  · exact x_vret rfl dX6_ifStatement_83
  refine x_icmp_ne (tgt := 73) dX6_ifStatement_30 (by decide) (fun _ => ?_) (fun _ => ?_)
  · refine x_aload_n dX6_ifStatement_33 rfl ?_
    refine cmX6_121 rfl hs (Nat.le_of_ble_eq_true rfl) dX6_ifStatement_34 (fun M8 => ?_)
    refine x_aload_n dX6_ifStatement_37 rfl ?_
    refine x_bipush (v := 25) dX6_ifStatement_38 (by decide) ?_
    refine x_iconst (v := 0) dX6_ifStatement_40 (by decide) ?_
    refine cmX6_256 rfl hs (Nat.le_of_ble_eq_true rfl) dX6_ifStatement_41 (fun x10 M9 => ?_)
    refine x_istore_n (lo' := [some (va_rf a0), some (.int a1), some (.int x4), some (.int x10)]) dX6_ifStatement_44 (by decide) rfl rfl ?_
    refine x_aload_n dX6_ifStatement_45 rfl ?_
    refine gfX6_22 rfl dX6_ifStatement_46 (fun x11 => ?_)
    refine x_iload_n dX6_ifStatement_49 rfl ?_
    refine x_aload_n dX6_ifStatement_50 rfl ?_
    refine gfX6_62 rfl dX6_ifStatement_51 (fun x12 => ?_)
    refine x_iast dX6_ifStatement_54 (fun M13 => ?_)
    refine x_aload_n dX6_ifStatement_55 rfl ?_
    refine x_iload_n dX6_ifStatement_56 rfl ?_
    refine cmX6_186 rfl hs (Nat.le_of_ble_eq_true rfl) dX6_ifStatement_57 (fun M14 => ?_)
    refine x_aload_n dX6_ifStatement_60 rfl ?_
    refine gfX6_22 rfl dX6_ifStatement_61 (fun x15 => ?_)
    refine x_iload_n dX6_ifStatement_64 rfl ?_
    refine x_aload_n dX6_ifStatement_65 rfl ?_
    refine gfX6_62 rfl dX6_ifStatement_66 (fun x16 => ?_)
    refine x_iast dX6_ifStatement_69 (fun M17 => ?_)
    refine x_goto (tgt := 83) dX6_ifStatement_70 (by decide) ?_
    exact x_weak (by exact trivial) (hj83 M17)
  · refine x_aload_n dX6_ifStatement_73 rfl ?_
    refine gfX6_22 rfl dX6_ifStatement_74 (fun x18 => ?_)
    refine x_iload_n dX6_ifStatement_77 rfl ?_
    refine x_aload_n dX6_ifStatement_78 rfl ?_
    refine gfX6_62 rfl dX6_ifStatement_79 (fun x19 => ?_)
    refine x_iast dX6_ifStatement_82 (fun M20 => ?_)
    exact x_weak (by exact trivial) (hj83 M20)
theorem s93 {l : Launch} {d : Nat} {rec : Nat → List Value → Mem → XA} (hS : Nonempty XS) (hs : XSnd l xmt rec d) : Snd1 l 93 (b93 rec) d := by
  intro as M r M' h0
  unfold b93 at h0
  obtain ⟨a0, l1, e1, h1⟩ := aR_inv h0
  obtain ⟨a1, l2, e2, h2⟩ := aI_inv h1
  obtain ⟨ez, h⟩ := aZ_inv h2
  subst ez
  subst e2
  subst e1
  exact xmet (M := M) (as := [va_rf a0, .int a1]) (lo := [some (va_rf a0), some (.int a1)]) 93 xq93 xm93 (by rw [xargs_rf, xargs_i, xargs_nil]; exact ⟨rfl, ⟨rfl, trivial⟩⟩) (by rw [xargs_rf, xargs_i, xargs_nil]; exact Nat.le_of_ble_eq_true rfl) (fun S G K => x_weak (by exact ⟨rfl, ⟨rfl, trivial⟩⟩) (k93 hs a0 a1 M)) h hS
set_option maxRecDepth 100000 in
def c94 (rec : Nat → List Value → Mem → XA) (a0 : Option Nat) (a1 : Int32) (M0 : Mem) : XA :=
  vC (7, 20) M0 a0 <|
  cV (rec 63 [va_rf a0] M0) fun M1 =>
  gtI (7, 20) M1 a0 9 fun x2 =>
  vC (7, 20) M1 a0 <|
  cV (rec 99 [va_rf a0, .int ((0 : Int32)), .int a1] M1) fun M3 =>
  vC (7, 20) M3 a0 <|
  cI (rec 87 [va_rf a0, .int ((24 : Int32)), .int ((0 : Int32))] M3) fun x5 M4 =>
  vC (7, 20) M4 a0 <|
  cV (rec 89 [va_rf a0, .int a1] M4) fun M6 =>
  vC (7, 20) M6 a0 <|
  cI (rec 87 [va_rf a0, .int ((25 : Int32)), .int x2] M6) fun x8 M7 =>
  gtP (7, 20) M7 a0 6 fun x9 =>
  gtI (7, 20) M7 a0 9 fun x10 =>
  asI 100 M7 x9 x5 x10 fun M11 =>
  some (.null, M11)
def b94 (rec : Nat → List Value → Mem → XA) (as : List Value) (M0 : Mem) : XA := aR as fun a0 as => aI as fun a1 as => aZ as (c94 rec a0 a1 M0)
set_option maxRecDepth 100000 in
set_option maxHeartbeats 4000000 in
theorem k94 {S : XS} {G : XG} {K : Nat × Nat} {l : Launch} {d : Nat} {rec : Nat → List Value → Mem → XA} (hs : XSnd l xmt rec d) (a0 : Option Nat) (a1 : Int32) (M0 : Mem) : Xe S G K l (yX6_whileStatement, cX6_whileStatement, 4, none) d 0 [some (va_rf a0), some (.int a1), none, none] [] M0 (c94 rec a0 a1 M0) := by
  unfold c94
  refine x_aload_n dX6_whileStatement_0 rfl ?_
  refine cmX6_121 rfl hs (Nat.le_of_ble_eq_true rfl) dX6_whileStatement_1 (fun M1 => ?_)
  refine x_aload_n dX6_whileStatement_4 rfl ?_
  refine gfX6_62 rfl dX6_whileStatement_5 (fun x2 => ?_)
  refine x_istore_n (lo' := [some (va_rf a0), some (.int a1), some (.int x2), none]) dX6_whileStatement_8 (by decide) rfl rfl ?_
  refine x_aload_n dX6_whileStatement_9 rfl ?_
  refine x_iconst (v := 0) dX6_whileStatement_10 (by decide) ?_
  refine x_iload_n dX6_whileStatement_11 rfl ?_
  refine cmX6_286 rfl hs (Nat.le_of_ble_eq_true rfl) dX6_whileStatement_12 (fun M3 => ?_)
  refine x_aload_n dX6_whileStatement_15 rfl ?_
  refine x_bipush (v := 24) dX6_whileStatement_16 (by decide) ?_
  refine x_iconst (v := 0) dX6_whileStatement_18 (by decide) ?_
  refine cmX6_256 rfl hs (Nat.le_of_ble_eq_true rfl) dX6_whileStatement_19 (fun x5 M4 => ?_)
  refine x_istore_n (lo' := [some (va_rf a0), some (.int a1), some (.int x2), some (.int x5)]) dX6_whileStatement_22 (by decide) rfl rfl ?_
  refine x_aload_n dX6_whileStatement_23 rfl ?_
  refine x_iload_n dX6_whileStatement_24 rfl ?_
  refine cmX6_186 rfl hs (Nat.le_of_ble_eq_true rfl) dX6_whileStatement_25 (fun M6 => ?_)
  refine x_aload_n dX6_whileStatement_28 rfl ?_
  refine x_bipush (v := 25) dX6_whileStatement_29 (by decide) ?_
  refine x_iload_n dX6_whileStatement_31 rfl ?_
  refine cmX6_256 rfl hs (Nat.le_of_ble_eq_true rfl) dX6_whileStatement_32 (fun x8 M7 => ?_)
  refine x_pop dX6_whileStatement_35 (xc1_i _) ?_
  refine x_aload_n dX6_whileStatement_36 rfl ?_
  refine gfX6_22 rfl dX6_whileStatement_37 (fun x9 => ?_)
  refine x_iload_n dX6_whileStatement_40 rfl ?_
  refine x_aload_n dX6_whileStatement_41 rfl ?_
  refine gfX6_62 rfl dX6_whileStatement_42 (fun x10 => ?_)
  refine x_iast dX6_whileStatement_45 (fun M11 => ?_)
  exact x_vret rfl dX6_whileStatement_46
theorem s94 {l : Launch} {d : Nat} {rec : Nat → List Value → Mem → XA} (hS : Nonempty XS) (hs : XSnd l xmt rec d) : Snd1 l 94 (b94 rec) d := by
  intro as M r M' h0
  unfold b94 at h0
  obtain ⟨a0, l1, e1, h1⟩ := aR_inv h0
  obtain ⟨a1, l2, e2, h2⟩ := aI_inv h1
  obtain ⟨ez, h⟩ := aZ_inv h2
  subst ez
  subst e2
  subst e1
  exact xmet (M := M) (as := [va_rf a0, .int a1]) (lo := [some (va_rf a0), some (.int a1)]) 94 xq94 xm94 (by rw [xargs_rf, xargs_i, xargs_nil]; exact ⟨rfl, ⟨rfl, trivial⟩⟩) (by rw [xargs_rf, xargs_i, xargs_nil]; exact Nat.le_of_ble_eq_true rfl) (fun S G K => x_weak (by exact ⟨rfl, ⟨rfl, trivial⟩⟩) (k94 hs a0 a1 M)) h hS
set_option maxRecDepth 100000 in
def c95_49 (rec : Nat → List Value → Mem → XA) (a0 : Option Nat) (j84 : Mem → XA) (x6 : Int32) : (Int32 × Mem) → ((Int32 × Mem) → XA) → XA := fun s34 j49 =>
  if x6 ≤ s34.1 then (
    j84 s34.2) else (
    gtP (7, 20) s34.2 a0 7 fun x35 =>
    alI 100 s34.2 x35 s34.1 fun x36 =>
    jn (fun (s37 : Mem) =>
      lt (s34.1 + (1 : Int32)) fun (x38 : Int32) =>
      j49 (x38, s37)) fun j78 =>
    if x36 = ((-2 : Int32)) then (
      gtP (7, 20) s34.2 a0 7 fun x39 =>
      gtI (7, 20) s34.2 a0 9 fun x40 =>
      asI 100 s34.2 x39 s34.1 x40 fun M41 =>
      j78 M41) else (
      j78 s34.2))
set_option maxRecDepth 100000 in
def c95 (rec : Nat → List Value → Mem → XA) (a0 : Option Nat) (a1 : Int32) (M0 : Mem) : XA :=
  vC (7, 20) M0 a0 <|
  cV (rec 63 [va_rf a0] M0) fun M1 =>
  vC (7, 20) M1 a0 <|
  cI (rec 87 [va_rf a0, .int ((26 : Int32)), .int ((0 : Int32))] M1) fun x3 M2 =>
  vC (7, 20) M2 a0 <|
  cV (rec 89 [va_rf a0, .int a1] M2) fun M4 =>
  vC (7, 20) M4 a0 <|
  cI (rec 87 [va_rf a0, .int ((27 : Int32)), .int ((0 : Int32))] M4) fun x6 M5 =>
  vC (7, 20) M5 a0 <|
  cI (rec 87 [va_rf a0, .int ((25 : Int32)), .int ((0 : Int32))] M5) fun x8 M7 =>
  gtP (7, 20) M7 a0 6 fun x9 =>
  gtI (7, 20) M7 a0 9 fun x10 =>
  asI 100 M7 x9 x3 x10 fun M11 =>
  lt (x3 + ((1 : Int32))) fun (x12 : Int32) =>
  jn (fun (s13 : Mem) =>
    vC (7, 20) s13 a0 <|
    cV (rec 64 [va_rf a0, .int ((223 : Int32))] s13) fun M14 =>
    gtI (7, 20) M14 a0 16 fun x15 =>
    vC (7, 20) M14 a0 <|
    cL (rec 65 [va_rf a0] M14) fun x17 M16 =>
    vC (7, 20) M16 a0 <|
    cI (rec 74 [va_rf a0, .long x17] M16) fun x19 M18 =>
    jn (fun (s20 : Int32) =>
      gtI (7, 20) M18 a0 16 fun x21 =>
      jn (fun (s22 : Int32) =>
        vC (7, 20) M18 a0 <|
        cL (rec 66 [va_rf a0, .int s20, .int s22] M18) fun x24 M23 =>
        gtI (7, 20) M23 a0 16 fun x25 =>
        vC (7, 20) M23 a0 <|
        cI (rec 87 [va_rf a0, .int ((2 : Int32)), .int x25] M23) fun x27 M26 =>
        vC (7, 20) M26 a0 <|
        cV (rec 75 [va_rf a0, .long x24] M26) fun M28 =>
        vC (7, 20) M28 a0 <|
        cV (rec 89 [va_rf a0, .int a1] M28) fun M29 =>
        ptI (7, 20) M29 a0 16 x15 fun M30 =>
        gtP (7, 20) M30 a0 6 fun x31 =>
        gtI (7, 20) M30 a0 9 fun x32 =>
        asI 100 M30 x31 x8 x32 fun M33 =>
        some (.null, M33)) fun j128 =>
      if x21 < ((10 : Int32)) then (
        j128 ((0 : Int32))) else (
        j128 ((1 : Int32)))) fun j114 =>
    if x19 < 0 then (
      j114 ((0 : Int32))) else (
      j114 ((1 : Int32)))) fun j84 =>
  lp (c95_49 rec a0 j84 x6) 4294967296 (x12, M11)
def b95 (rec : Nat → List Value → Mem → XA) (as : List Value) (M0 : Mem) : XA := aR as fun a0 as => aI as fun a1 as => aZ as (c95 rec a0 a1 M0)
set_option maxRecDepth 100000 in
set_option maxHeartbeats 4000000 in
theorem k95 {S : XS} {G : XG} {K : Nat × Nat} {l : Launch} {d : Nat} {rec : Nat → List Value → Mem → XA} (hs : XSnd l xmt rec d) (a0 : Option Nat) (a1 : Int32) (M0 : Mem) : Xe S G K l (yX6_tryStatement, cX6_tryStatement, 8, none) d 0 [some (va_rf a0), some (.int a1), none, none, none, none, none, none] [] M0 (c95 rec a0 a1 M0) := by
  unfold c95
  refine x_aload_n dX6_tryStatement_0 rfl ?_
  refine cmX6_121 rfl hs (Nat.le_of_ble_eq_true rfl) dX6_tryStatement_1 (fun M1 => ?_)
  refine x_aload_n dX6_tryStatement_4 rfl ?_
  refine x_bipush (v := 26) dX6_tryStatement_5 (by decide) ?_
  refine x_iconst (v := 0) dX6_tryStatement_7 (by decide) ?_
  refine cmX6_256 rfl hs (Nat.le_of_ble_eq_true rfl) dX6_tryStatement_8 (fun x3 M2 => ?_)
  refine x_istore_n (lo' := [some (va_rf a0), some (.int a1), some (.int x3), none, none, none, none, none]) dX6_tryStatement_11 (by decide) rfl rfl ?_
  refine x_aload_n dX6_tryStatement_12 rfl ?_
  refine x_iload_n dX6_tryStatement_13 rfl ?_
  refine cmX6_186 rfl hs (Nat.le_of_ble_eq_true rfl) dX6_tryStatement_14 (fun M4 => ?_)
  refine x_aload_n dX6_tryStatement_17 rfl ?_
  refine x_bipush (v := 27) dX6_tryStatement_18 (by decide) ?_
  refine x_iconst (v := 0) dX6_tryStatement_20 (by decide) ?_
  refine cmX6_256 rfl hs (Nat.le_of_ble_eq_true rfl) dX6_tryStatement_21 (fun x6 M5 => ?_)
  refine x_istore_n (lo' := [some (va_rf a0), some (.int a1), some (.int x3), some (.int x6), none, none, none, none]) dX6_tryStatement_24 (by decide) rfl rfl ?_
  refine x_aload_n dX6_tryStatement_25 rfl ?_
  refine x_bipush (v := 25) dX6_tryStatement_26 (by decide) ?_
  refine x_iconst (v := 0) dX6_tryStatement_28 (by decide) ?_
  refine cmX6_256 rfl hs (Nat.le_of_ble_eq_true rfl) dX6_tryStatement_29 (fun x8 M7 => ?_)
  refine x_istore (lo' := [some (va_rf a0), some (.int a1), some (.int x3), some (.int x6), some (.int x8), none, none, none]) dX6_tryStatement_32 (by decide) rfl rfl ?_
  refine x_aload_n dX6_tryStatement_34 rfl ?_
  refine gfX6_22 rfl dX6_tryStatement_35 (fun x9 => ?_)
  refine x_iload_n dX6_tryStatement_38 rfl ?_
  refine x_aload_n dX6_tryStatement_39 rfl ?_
  refine gfX6_62 rfl dX6_tryStatement_40 (fun x10 => ?_)
  refine x_iast dX6_tryStatement_43 (fun M11 => ?_)
  refine x_iload_n dX6_tryStatement_44 rfl ?_
  refine x_iconst (v := 1) dX6_tryStatement_45 (by decide) ?_
  refine x_iadd dX6_tryStatement_46 ?_
  refine x_ltI (fun x12 => ?_)
  refine x_istore (lo' := [some (va_rf a0), some (.int a1), some (.int x3), some (.int x6), some (.int x8), some (.int x12), none, none]) dX6_tryStatement_47 (by decide) rfl rfl ?_
  refine x_jn (σ := Mem) 84 (fun s13 => [some (va_rf a0), some (.int a1), none, none, some (.int x8), none, none, none]) (fun s13 => []) (fun s13 => s13) (fun s13 => ?_) (fun j84 hj84 => ?_)
  · refine x_aload_n dX6_tryStatement_84 rfl ?_
    refine x_sipush (v := 223) dX6_tryStatement_85 (by decide) ?_
    refine cmX6_90 rfl hs (Nat.le_of_ble_eq_true rfl) dX6_tryStatement_88 (fun M14 => ?_)
    refine x_aload_n dX6_tryStatement_91 rfl ?_
    refine gfX6_145 rfl dX6_tryStatement_92 (fun x15 => ?_)
    refine x_istore (lo' := [some (va_rf a0), some (.int a1), none, none, some (.int x8), some (.int x15), none, none]) dX6_tryStatement_95 (by decide) rfl rfl ?_
    refine x_aload_n dX6_tryStatement_97 rfl ?_
    refine x_aload_n dX6_tryStatement_98 rfl ?_
    refine x_aload_n dX6_tryStatement_99 rfl ?_
    refine cmX6_127 rfl hs (Nat.le_of_ble_eq_true rfl) dX6_tryStatement_100 (fun x17 M16 => ?_)
    refine cmX6_221 rfl hs (Nat.le_of_ble_eq_true rfl) dX6_tryStatement_103 (fun x19 M18 => ?_)
    refine x_jn (σ := Int32) 114 (fun s20 => [some (va_rf a0), some (.int a1), none, none, some (.int x8), some (.int x15), none, none]) (fun s20 => [.int s20, va_rf a0]) (fun s20 => M18) (fun s20 => ?_) (fun j114 hj114 => ?_)
    · refine x_aload_n dX6_tryStatement_114 rfl ?_
      refine gfX6_145 rfl dX6_tryStatement_115 (fun x21 => ?_)
      refine x_bipush (v := 10) dX6_tryStatement_118 (by decide) ?_
      refine x_jn (σ := Int32) 128 (fun s22 => [some (va_rf a0), some (.int a1), none, none, some (.int x8), some (.int x15), none, none]) (fun s22 => [.int s22, .int s20, va_rf a0]) (fun s22 => M18) (fun s22 => ?_) (fun j128 hj128 => ?_)
      · refine cmX6_152 rfl hs (Nat.le_of_ble_eq_true rfl) dX6_tryStatement_128 (fun x24 M23 => ?_)
        refine x_lstore (lo' := [some (va_rf a0), some (.int a1), none, none, some (.int x8), some (.int x15), some (.long x24), none]) dX6_tryStatement_131 (by decide) rfl rfl ?_
        refine x_aload_n dX6_tryStatement_133 rfl ?_
        refine x_iconst (v := 2) dX6_tryStatement_134 (by decide) ?_
        refine x_aload_n dX6_tryStatement_135 rfl ?_
        refine gfX6_145 rfl dX6_tryStatement_136 (fun x25 => ?_)
        refine cmX6_256 rfl hs (Nat.le_of_ble_eq_true rfl) dX6_tryStatement_139 (fun x27 M26 => ?_)
        refine x_pop dX6_tryStatement_142 (xc1_i _) ?_
        refine x_aload_n dX6_tryStatement_143 rfl ?_
        refine x_lload dX6_tryStatement_144 rfl ?_
        refine cmX6_224 rfl hs (Nat.le_of_ble_eq_true rfl) dX6_tryStatement_146 (fun M28 => ?_)
        refine x_aload_n dX6_tryStatement_149 rfl ?_
        refine x_iload_n dX6_tryStatement_150 rfl ?_
        refine cmX6_186 rfl hs (Nat.le_of_ble_eq_true rfl) dX6_tryStatement_151 (fun M29 => ?_)
        refine x_aload_n dX6_tryStatement_154 rfl ?_
        refine x_iload dX6_tryStatement_155 rfl ?_
        refine pfX6_145 rfl dX6_tryStatement_157 (fun M30 => ?_)
        refine x_aload_n dX6_tryStatement_160 rfl ?_
        refine gfX6_22 rfl dX6_tryStatement_161 (fun x31 => ?_)
        refine x_iload dX6_tryStatement_164 rfl ?_
        refine x_aload_n dX6_tryStatement_166 rfl ?_
        refine gfX6_62 rfl dX6_tryStatement_167 (fun x32 => ?_)
        refine x_iast dX6_tryStatement_170 (fun M33 => ?_)
        exact x_vret rfl dX6_tryStatement_171
      refine x_icmp_lt (tgt := 127) dX6_tryStatement_120 (by decide) (fun _ => ?_) (fun _ => ?_)
      · refine x_iconst (v := 0) dX6_tryStatement_127 (by decide) ?_
        exact x_weak (by exact ⟨rfl, ⟨rfl, ⟨rfl, ⟨rfl, trivial⟩⟩⟩⟩) (hj128 ((0 : Int32)))
      · refine x_iconst (v := 1) dX6_tryStatement_123 (by decide) ?_
        refine x_goto (tgt := 128) dX6_tryStatement_124 (by decide) ?_
        exact x_weak (by exact ⟨rfl, ⟨rfl, ⟨rfl, ⟨rfl, trivial⟩⟩⟩⟩) (hj128 ((1 : Int32)))
    refine x_if_lt (tgt := 113) dX6_tryStatement_106 (by decide) (fun _ => ?_) (fun _ => ?_)
    · refine x_iconst (v := 0) dX6_tryStatement_113 (by decide) ?_
      exact x_weak (by exact ⟨rfl, ⟨rfl, ⟨rfl, ⟨rfl, trivial⟩⟩⟩⟩) (hj114 ((0 : Int32)))
    · refine x_iconst (v := 1) dX6_tryStatement_109 (by decide) ?_
      refine x_goto (tgt := 114) dX6_tryStatement_110 (by decide) ?_
      exact x_weak (by exact ⟨rfl, ⟨rfl, ⟨rfl, ⟨rfl, trivial⟩⟩⟩⟩) (hj114 ((1 : Int32)))
  refine x_weak (by exact ⟨rfl, ⟨rfl, ⟨rfl, ⟨rfl, ⟨rfl, trivial⟩⟩⟩⟩⟩) (x_lp (σ := Int32 × Mem) 49 (fun s34 => [some (va_rf a0), some (.int a1), none, some (.int x6), some (.int x8), some (.int s34.1), none, none]) (fun s34 => []) (fun s34 => s34.2) (fun s34 j49 hj49 => ?_) 4294967296 (x12, M11))
  · refine x_iload dX6_tryStatement_49 rfl ?_
    refine x_iload_n dX6_tryStatement_51 rfl ?_
    refine x_icmp_ge (tgt := 84) dX6_tryStatement_52 (by decide) (fun _ => ?_) (fun _ => ?_)
    · exact x_weak (by exact ⟨rfl, ⟨rfl, ⟨rfl, trivial⟩⟩⟩) (hj84 s34.2)
    · refine x_aload_n dX6_tryStatement_55 rfl ?_
      refine gfX6_25 rfl dX6_tryStatement_56 (fun x35 => ?_)
      refine x_iload dX6_tryStatement_59 rfl ?_
      refine x_iald dX6_tryStatement_61 (fun x36 => ?_)
      refine x_bipush (v := -2) dX6_tryStatement_62 (by decide) ?_
      refine x_jn (σ := Mem) 78 (fun s37 => [some (va_rf a0), some (.int a1), none, some (.int x6), some (.int x8), some (.int s34.1), none, none]) (fun s37 => []) (fun s37 => s37) (fun s37 => ?_) (fun j78 hj78 => ?_)
      · refine x_iincN (v := 1) (lo' := fun x38 => [some (va_rf a0), some (.int a1), none, some (.int x6), some (.int x8), some (.int x38), none, none]) (by decide) dX6_tryStatement_78 rfl (by decide) rfl (fun _ => rfl) (fun x38 => ?_)
        refine x_goto (tgt := 49) dX6_tryStatement_81 (by decide) ?_
        exact x_weak (by exact ⟨rfl, ⟨rfl, ⟨rfl, ⟨rfl, ⟨rfl, trivial⟩⟩⟩⟩⟩) (hj49 (x38, s37))
      refine x_icmp_ne (tgt := 78) dX6_tryStatement_64 (by decide) (fun _ => ?_) (fun _ => ?_)
      · refine x_aload_n dX6_tryStatement_67 rfl ?_
        refine gfX6_25 rfl dX6_tryStatement_68 (fun x39 => ?_)
        refine x_iload dX6_tryStatement_71 rfl ?_
        refine x_aload_n dX6_tryStatement_73 rfl ?_
        refine gfX6_62 rfl dX6_tryStatement_74 (fun x40 => ?_)
        refine x_iast dX6_tryStatement_77 (fun M41 => ?_)
        exact x_weak (by exact ⟨rfl, ⟨rfl, ⟨rfl, ⟨rfl, ⟨rfl, trivial⟩⟩⟩⟩⟩) (hj78 M41)
      · exact x_weak (by exact ⟨rfl, ⟨rfl, ⟨rfl, ⟨rfl, ⟨rfl, trivial⟩⟩⟩⟩⟩) (hj78 s34.2)
theorem s95 {l : Launch} {d : Nat} {rec : Nat → List Value → Mem → XA} (hS : Nonempty XS) (hs : XSnd l xmt rec d) : Snd1 l 95 (b95 rec) d := by
  intro as M r M' h0
  unfold b95 at h0
  obtain ⟨a0, l1, e1, h1⟩ := aR_inv h0
  obtain ⟨a1, l2, e2, h2⟩ := aI_inv h1
  obtain ⟨ez, h⟩ := aZ_inv h2
  subst ez
  subst e2
  subst e1
  exact xmet (M := M) (as := [va_rf a0, .int a1]) (lo := [some (va_rf a0), some (.int a1)]) 95 xq95 xm95 (by rw [xargs_rf, xargs_i, xargs_nil]; exact ⟨rfl, ⟨rfl, trivial⟩⟩) (by rw [xargs_rf, xargs_i, xargs_nil]; exact Nat.le_of_ble_eq_true rfl) (fun S G K => x_weak (by exact ⟨rfl, ⟨rfl, trivial⟩⟩) (k95 hs a0 a1 M)) h hS
