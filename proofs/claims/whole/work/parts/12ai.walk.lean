set_option maxRecDepth 100000 in
def c133 (rec : Nat → List Value → Mem → XA) (a0 : Option Nat) (a1 : Int32) (a2 : Int32) (a3 : Int32) (M0 : Mem) : XA :=
  vC (12, 19) M0 a0 <|
  cP (rec 167 [va_rf a0, .int a1] M0) fun x2 M1 =>
  jn (fun (s3 : Option Nat × Mem) =>
    if s3.1 = none then (
      some (.int ((-1 : Int32)), s3.2)) else (
      swI a3 [
       ((0 : Int32), (
          gtI (8, 9) s3.2 s3.1 1 fun x4 =>
          some (.int x4, s3.2))),
       ((1 : Int32), (
          gtI (8, 9) s3.2 s3.1 2 fun x5 =>
          some (.int x5, s3.2))),
       ((2 : Int32), (
          gtI (8, 9) s3.2 s3.1 3 fun x6 =>
          jn (fun (s7 : Int32) =>
            some (.int s7, s3.2)) fun j93 =>
          if x6 = 0 then (
            j93 ((0 : Int32))) else (
            j93 ((1 : Int32))))),
       ((3 : Int32), (
          gtI (8, 9) s3.2 s3.1 4 fun x8 =>
          some (.int x8, s3.2))),
       ((4 : Int32), (
          gtI (8, 9) s3.2 s3.1 2 fun x9 =>
          jn (fun (s10 : Int32) =>
            some (.int s10, s3.2)) fun j119 =>
          if x9 = ((4 : Int32)) then (
            gtI (8, 9) s3.2 s3.1 5 fun x11 =>
            j119 x11) else (
            j119 ((-2 : Int32)))))] (
        some (.int ((-1 : Int32)), s3.2)))) fun j25 =>
  if x2 = none then (
    j25 (none, M1)) else (
    gtP (6, 18) M1 x2 2 fun x12 =>
    cP (rec 168 [va_rf x12, .int a2] M1) fun x14 M13 =>
    j25 (x14, M13))
def b133 (rec : Nat → List Value → Mem → XA) (as : List Value) (M0 : Mem) : XA := aR as fun a0 as => aI as fun a1 as => aI as fun a2 as => aI as fun a3 as => aZ as (c133 rec a0 a1 a2 a3 M0)
set_option maxRecDepth 100000 in
set_option maxHeartbeats 4000000 in
theorem k133 {S : XS} {G : XG} {K : Nat × Nat} {l : Launch} {d : Nat} {rec : Nat → List Value → Mem → XA} (hs : XSnd l xmt rec d) (a0 : Option Nat) (a1 : Int32) (a2 : Int32) (a3 : Int32) (M0 : Mem) : Xe S G K l (yX11_member, cX11_member, 6, some .int) d 0 [some (va_rf a0), some (.int a1), some (.int a2), some (.int a3), none, none] [] M0 (c133 rec a0 a1 a2 a3 M0) := by
  unfold c133
  refine x_aload_n dX11_member_0 rfl ?_
  refine x_iload_n dX11_member_1 rfl ?_
  refine cmX11_109 rfl hs (Nat.le_of_ble_eq_true rfl) dX11_member_2 (fun x2 M1 => ?_)
  refine x_astore (lo' := [some (va_rf a0), some (.int a1), some (.int a2), some (.int a3), some (va_rf x2), none]) dX11_member_5 (by decide) rfl rfl ?_
  refine x_aload dX11_member_7 rfl ?_
  refine x_jn (σ := Option Nat × Mem) 25 (fun s3 => [none, none, none, some (.int a3), none, none]) (fun s3 => [va_rf s3.1]) (fun s3 => s3.2) (fun s3 => ?_) (fun j25 hj25 => ?_)
  · refine x_astore (lo' := [none, none, none, some (.int a3), none, some (va_rf s3.1)]) dX11_member_25 (by decide) rfl rfl ?_
    refine x_aload dX11_member_27 rfl ?_
    refine x_ifnonnull (tgt := 34) dX11_member_29 (by decide) (fun _ => ?_) (fun _ => ?_)
    · refine x_iconst (v := -1) dX11_member_32 (by decide) ?_
      exact x_iret rfl dX11_member_33
    · refine x_iload_n dX11_member_34 rfl ?_
      refine x_table (tgt := 120) dX11_member_35 [(0, 68), (1, 74), (2, 80), (3, 94), (4, 100)] (by decide +kernel) (by decide +kernel) (by decide) ?_ ?_
      · refine swG_d (by decide) ?_ (swG_d (by decide) ?_ (swG_d (by decide) ?_ (swG_d (by decide) ?_ (swG_d (by decide) ?_ (trivial)))))
        · refine x_aload dX11_member_68 rfl ?_
          refine gfX11_134 rfl dX11_member_70 (fun x4 => ?_)
          exact x_iret rfl dX11_member_73
        · refine x_aload dX11_member_74 rfl ?_
          refine gfX11_139 rfl dX11_member_76 (fun x5 => ?_)
          exact x_iret rfl dX11_member_79
        · refine x_aload dX11_member_80 rfl ?_
          refine gfX11_142 rfl dX11_member_82 (fun x6 => ?_)
          refine x_jn (σ := Int32) 93 (fun s7 => [none, none, none, none, none, none]) (fun s7 => [.int s7]) (fun s7 => s3.2) (fun s7 => ?_) (fun j93 hj93 => ?_)
          · exact x_iret rfl dX11_member_93
          refine x_if_eq (tgt := 92) dX11_member_85 (by decide) (fun _ => ?_) (fun _ => ?_)
          · refine x_iconst (v := 0) dX11_member_92 (by decide) ?_
            exact x_weak (by exact trivial) (hj93 ((0 : Int32)))
          · refine x_iconst (v := 1) dX11_member_88 (by decide) ?_
            refine x_goto (tgt := 93) dX11_member_89 (by decide) ?_
            exact x_weak (by exact trivial) (hj93 ((1 : Int32)))
        · refine x_aload dX11_member_94 rfl ?_
          refine gfX11_146 rfl dX11_member_96 (fun x8 => ?_)
          exact x_iret rfl dX11_member_99
        · refine x_aload dX11_member_100 rfl ?_
          refine gfX11_139 rfl dX11_member_102 (fun x9 => ?_)
          refine x_iconst (v := 4) dX11_member_105 (by decide) ?_
          refine x_jn (σ := Int32) 119 (fun s10 => [none, none, none, none, none, none]) (fun s10 => [.int s10]) (fun s10 => s3.2) (fun s10 => ?_) (fun j119 hj119 => ?_)
          · exact x_iret rfl dX11_member_119
          refine x_icmp_ne (tgt := 117) dX11_member_106 (by decide) (fun _ => ?_) (fun _ => ?_)
          · refine x_aload dX11_member_109 rfl ?_
            refine gfX11_149 rfl dX11_member_111 (fun x11 => ?_)
            refine x_goto (tgt := 119) dX11_member_114 (by decide) ?_
            exact x_weak (by exact trivial) (hj119 x11)
          · refine x_bipush (v := -2) dX11_member_117 (by decide) ?_
            exact x_weak (by exact trivial) (hj119 ((-2 : Int32)))
      · refine x_iconst (v := -1) dX11_member_120 (by decide) ?_
        exact x_iret rfl dX11_member_121
  refine x_ifnonnull (tgt := 16) dX11_member_9 (by decide) (fun _ => ?_) (fun _ => ?_)
  · refine x_null dX11_member_12 ?_
    refine x_goto (tgt := 25) dX11_member_13 (by decide) ?_
    exact x_weak (by exact ⟨rfl, trivial⟩) (hj25 (none, M1))
  · refine x_aload dX11_member_16 rfl ?_
    refine gfX11_116 rfl dX11_member_18 (fun x12 => ?_)
    refine x_iload_n dX11_member_21 rfl ?_
    refine cmX11_130 rfl hs (Nat.le_of_ble_eq_true rfl) dX11_member_22 (fun x14 M13 => ?_)
    exact x_weak (by exact ⟨rfl, trivial⟩) (hj25 (x14, M13))
theorem s133 {l : Launch} {d : Nat} {rec : Nat → List Value → Mem → XA} (hS : Nonempty XS) (hs : XSnd l xmt rec d) : Snd1 l 133 (b133 rec) d := by
  intro as M r M' h0
  unfold b133 at h0
  obtain ⟨a0, l1, e1, h1⟩ := aR_inv h0
  obtain ⟨a1, l2, e2, h2⟩ := aI_inv h1
  obtain ⟨a2, l3, e3, h3⟩ := aI_inv h2
  obtain ⟨a3, l4, e4, h4⟩ := aI_inv h3
  obtain ⟨ez, h⟩ := aZ_inv h4
  subst ez
  subst e4
  subst e3
  subst e2
  subst e1
  exact xmet (M := M) (as := [va_rf a0, .int a1, .int a2, .int a3]) (lo := [some (va_rf a0), some (.int a1), some (.int a2), some (.int a3)]) 133 xq133 xm133 (by rw [xargs_rf, xargs_i, xargs_i, xargs_i, xargs_nil]; exact ⟨rfl, ⟨rfl, ⟨rfl, ⟨rfl, trivial⟩⟩⟩⟩) (by rw [xargs_rf, xargs_i, xargs_i, xargs_i, xargs_nil]; exact Nat.le_of_ble_eq_true rfl) (fun S G K => x_weak (by exact ⟨rfl, ⟨rfl, ⟨rfl, ⟨rfl, trivial⟩⟩⟩⟩) (k133 hs a0 a1 a2 a3 M)) h hS
set_option maxRecDepth 100000 in
def c134 (rec : Nat → List Value → Mem → XA) (a0 : Option Nat) (a1 : Int32) (a2 : Int32) (a3 : Int32) (M0 : Mem) : XA :=
  vC (12, 19) M0 a0 <|
  cP (rec 167 [va_rf a0, .int a1] M0) fun x2 M1 =>
  cP (rec 169 [va_rf x2, .int a2] M1) fun x4 M3 =>
  if x4 = none then (
    some (.int ((-1 : Int32)), M3)) else (
    swI a3 [
     ((0 : Int32), (
        gtI (8, 9) M3 x4 1 fun x5 =>
        some (.int x5, M3))),
     ((1 : Int32), (
        gtI (8, 9) M3 x4 4 fun x6 =>
        some (.int x6, M3))),
     ((2 : Int32), (
        gtI (8, 9) M3 x4 6 fun x7 =>
        some (.int x7, M3))),
     ((3 : Int32), (
        gtI (8, 9) M3 x4 7 fun x8 =>
        jn (fun (s9 : Int32) =>
          some (.int s9, M3)) fun j83 =>
        if x8 = 0 then (
          j83 ((0 : Int32))) else (
          j83 ((1 : Int32))))),
     ((4 : Int32), (
        gtI (8, 9) M3 x4 5 fun x10 =>
        some (.int x10, M3)))] (
      some (.int ((-1 : Int32)), M3)))
def b134 (rec : Nat → List Value → Mem → XA) (as : List Value) (M0 : Mem) : XA := aR as fun a0 as => aI as fun a1 as => aI as fun a2 as => aI as fun a3 as => aZ as (c134 rec a0 a1 a2 a3 M0)
set_option maxRecDepth 100000 in
set_option maxHeartbeats 4000000 in
theorem k134 {S : XS} {G : XG} {K : Nat × Nat} {l : Launch} {d : Nat} {rec : Nat → List Value → Mem → XA} (hs : XSnd l xmt rec d) (a0 : Option Nat) (a1 : Int32) (a2 : Int32) (a3 : Int32) (M0 : Mem) : Xe S G K l (yX11_about, cX11_about, 5, some .int) d 0 [some (va_rf a0), some (.int a1), some (.int a2), some (.int a3), none] [] M0 (c134 rec a0 a1 a2 a3 M0) := by
  unfold c134
  refine x_aload_n dX11_about_0 rfl ?_
  refine x_iload_n dX11_about_1 rfl ?_
  refine cmX11_109 rfl hs (Nat.le_of_ble_eq_true rfl) dX11_about_2 (fun x2 M1 => ?_)
  refine x_iload_n dX11_about_5 rfl ?_
  refine cmX11_152 rfl hs (Nat.le_of_ble_eq_true rfl) dX11_about_6 (fun x4 M3 => ?_)
  refine x_astore (lo' := [some (va_rf a0), some (.int a1), some (.int a2), some (.int a3), some (va_rf x4)]) dX11_about_9 (by decide) rfl rfl ?_
  refine x_aload dX11_about_11 rfl ?_
  refine x_ifnonnull (tgt := 18) dX11_about_13 (by decide) (fun _ => ?_) (fun _ => ?_)
  · refine x_iconst (v := -1) dX11_about_16 (by decide) ?_
    exact x_iret rfl dX11_about_17
  · refine x_iload_n dX11_about_18 rfl ?_
    refine x_table (tgt := 90) dX11_about_19 [(0, 52), (1, 58), (2, 64), (3, 70), (4, 84)] (by decide +kernel) (by decide +kernel) (by decide) ?_ ?_
    · refine swG_d (by decide) ?_ (swG_d (by decide) ?_ (swG_d (by decide) ?_ (swG_d (by decide) ?_ (swG_d (by decide) ?_ (trivial)))))
      · refine x_aload dX11_about_52 rfl ?_
        refine gfX11_134 rfl dX11_about_54 (fun x5 => ?_)
        exact x_iret rfl dX11_about_57
      · refine x_aload dX11_about_58 rfl ?_
        refine gfX11_146 rfl dX11_about_60 (fun x6 => ?_)
        exact x_iret rfl dX11_about_63
      · refine x_aload dX11_about_64 rfl ?_
        refine gfX11_156 rfl dX11_about_66 (fun x7 => ?_)
        exact x_iret rfl dX11_about_69
      · refine x_aload dX11_about_70 rfl ?_
        refine gfX11_159 rfl dX11_about_72 (fun x8 => ?_)
        refine x_jn (σ := Int32) 83 (fun s9 => [none, none, none, none, none]) (fun s9 => [.int s9]) (fun s9 => M3) (fun s9 => ?_) (fun j83 hj83 => ?_)
        · exact x_iret rfl dX11_about_83
        refine x_if_eq (tgt := 82) dX11_about_75 (by decide) (fun _ => ?_) (fun _ => ?_)
        · refine x_iconst (v := 0) dX11_about_82 (by decide) ?_
          exact x_weak (by exact trivial) (hj83 ((0 : Int32)))
        · refine x_iconst (v := 1) dX11_about_78 (by decide) ?_
          refine x_goto (tgt := 83) dX11_about_79 (by decide) ?_
          exact x_weak (by exact trivial) (hj83 ((1 : Int32)))
      · refine x_aload dX11_about_84 rfl ?_
        refine gfX11_149 rfl dX11_about_86 (fun x10 => ?_)
        exact x_iret rfl dX11_about_89
    · refine x_iconst (v := -1) dX11_about_90 (by decide) ?_
      exact x_iret rfl dX11_about_91
theorem s134 {l : Launch} {d : Nat} {rec : Nat → List Value → Mem → XA} (hS : Nonempty XS) (hs : XSnd l xmt rec d) : Snd1 l 134 (b134 rec) d := by
  intro as M r M' h0
  unfold b134 at h0
  obtain ⟨a0, l1, e1, h1⟩ := aR_inv h0
  obtain ⟨a1, l2, e2, h2⟩ := aI_inv h1
  obtain ⟨a2, l3, e3, h3⟩ := aI_inv h2
  obtain ⟨a3, l4, e4, h4⟩ := aI_inv h3
  obtain ⟨ez, h⟩ := aZ_inv h4
  subst ez
  subst e4
  subst e3
  subst e2
  subst e1
  exact xmet (M := M) (as := [va_rf a0, .int a1, .int a2, .int a3]) (lo := [some (va_rf a0), some (.int a1), some (.int a2), some (.int a3)]) 134 xq134 xm134 (by rw [xargs_rf, xargs_i, xargs_i, xargs_i, xargs_nil]; exact ⟨rfl, ⟨rfl, ⟨rfl, ⟨rfl, trivial⟩⟩⟩⟩) (by rw [xargs_rf, xargs_i, xargs_i, xargs_i, xargs_nil]; exact Nat.le_of_ble_eq_true rfl) (fun S G K => x_weak (by exact ⟨rfl, ⟨rfl, ⟨rfl, ⟨rfl, trivial⟩⟩⟩⟩) (k134 hs a0 a1 a2 a3 M)) h hS
set_option maxRecDepth 100000 in
def c135 (rec : Nat → List Value → Mem → XA) (a0 : Option Nat) (a1 : Int32) (a2 : Int32) (a3 : Int32) (a4 : Int32) (M0 : Mem) : XA :=
  vC (12, 19) M0 a0 <|
  cP (rec 167 [va_rf a0, .int a1] M0) fun x2 M1 =>
  jn (fun (s3 : Unit) =>
    some (.int ((-1 : Int32)), M1)) fun j21 =>
  if x2 = none then (
    j21 ()) else (
    if a2 < 0 then (
      j21 ()) else (
      if a2 ≤ ((3 : Int32)) then (
        if a2 = 0 then (
          jn (fun (s4 : Int32 × Mem) =>
            some (.int s4.1, s4.2)) fun j67 =>
          jn (fun (s5 : Mem) =>
            j67 ((-1 : Int32), s5)) fun j43 =>
          if a3 < 0 then (
            j43 M1) else (
            gtP (6, 18) M1 x2 1 fun x6 =>
            vC (0, 3) M1 x6 <|
            cI (rec 346 [va_rf x6] M1) fun x8 M7 =>
            if a3 < x8 then (
              gtP (6, 18) M7 x2 1 fun x9 =>
              vC (0, 3) M7 x9 <|
              cP (rec 348 [va_rf x9, .int a3] M7) fun x11 M10 =>
              cst (11, 10) M10 x11 <|
              gtL (11, 10) M10 x11 0 fun x12 =>
              cI (rec 173 [.long x12, .int a4] M10) fun x14 M13 =>
              j67 (x14, M13)) else (
              j43 M7))) else (
          jn (fun (s15 : Option Nat) =>
            cP (rec 168 [va_rf s15, .int a3] M1) fun x17 M16 =>
            jn (fun (s18 : Int32 × Mem) =>
              some (.int s18.1, s18.2)) fun j124 =>
            if x17 = none then (
              j124 ((-1 : Int32), M16)) else (
              gtL (8, 9) M16 x17 0 fun x19 =>
              cI (rec 173 [.long x19, .int a4] M16) fun x21 M20 =>
              j124 (x21, M20))) fun j99 =>
          if a2 = ((1 : Int32)) then (
            gtP (6, 18) M1 x2 2 fun x22 =>
            j99 x22) else (
            if a2 = ((2 : Int32)) then (
              gtP (6, 18) M1 x2 3 fun x23 =>
              j99 x23) else (
              gtP (6, 18) M1 x2 4 fun x24 =>
              j99 x24)))) else (
        j21 ())))
def b135 (rec : Nat → List Value → Mem → XA) (as : List Value) (M0 : Mem) : XA := aR as fun a0 as => aI as fun a1 as => aI as fun a2 as => aI as fun a3 as => aI as fun a4 as => aZ as (c135 rec a0 a1 a2 a3 a4 M0)
set_option maxRecDepth 100000 in
set_option maxHeartbeats 4000000 in
theorem k135 {S : XS} {G : XG} {K : Nat × Nat} {l : Launch} {d : Nat} {rec : Nat → List Value → Mem → XA} (hs : XSnd l xmt rec d) (a0 : Option Nat) (a1 : Int32) (a2 : Int32) (a3 : Int32) (a4 : Int32) (M0 : Mem) : Xe S G K l (yX11_name, cX11_name, 7, some .int) d 0 [some (va_rf a0), some (.int a1), some (.int a2), some (.int a3), some (.int a4), none, none] [] M0 (c135 rec a0 a1 a2 a3 a4 M0) := by
  unfold c135
  refine x_aload_n dX11_name_0 rfl ?_
  refine x_iload_n dX11_name_1 rfl ?_
  refine cmX11_109 rfl hs (Nat.le_of_ble_eq_true rfl) dX11_name_2 (fun x2 M1 => ?_)
  refine x_astore (lo' := [some (va_rf a0), some (.int a1), some (.int a2), some (.int a3), some (.int a4), some (va_rf x2), none]) dX11_name_5 (by decide) rfl rfl ?_
  refine x_aload dX11_name_7 rfl ?_
  refine x_jn (σ := Unit) 21 (fun s3 => [none, none, none, none, none, none, none]) (fun s3 => []) (fun s3 => M1) (fun s3 => ?_) (fun j21 hj21 => ?_)
  · refine x_iconst (v := -1) dX11_name_21 (by decide) ?_
    exact x_iret rfl dX11_name_22
  refine x_ifnull (tgt := 21) dX11_name_9 (by decide) (fun _ => ?_) (fun _ => ?_)
  · exact x_weak (by exact trivial) (hj21 ())
  · refine x_iload_n dX11_name_12 rfl ?_
    refine x_if_lt (tgt := 21) dX11_name_13 (by decide) (fun _ => ?_) (fun _ => ?_)
    · exact x_weak (by exact trivial) (hj21 ())
    · refine x_iload_n dX11_name_16 rfl ?_
      refine x_iconst (v := 3) dX11_name_17 (by decide) ?_
      refine x_icmp_le (tgt := 23) dX11_name_18 (by decide) (fun _ => ?_) (fun _ => ?_)
      · refine x_iload_n dX11_name_23 rfl ?_
        refine x_if_ne (tgt := 68) dX11_name_24 (by decide) (fun _ => ?_) (fun _ => ?_)
        · refine x_iload_n dX11_name_27 rfl ?_
          refine x_jn (σ := Int32 × Mem) 67 (fun s4 => [none, none, none, none, none, none, none]) (fun s4 => [.int s4.1]) (fun s4 => s4.2) (fun s4 => ?_) (fun j67 hj67 => ?_)
          · exact x_iret rfl dX11_name_67
          refine x_jn (σ := Mem) 43 (fun s5 => [none, none, none, none, none, none, none]) (fun s5 => []) (fun s5 => s5) (fun s5 => ?_) (fun j43 hj43 => ?_)
          · refine x_iconst (v := -1) dX11_name_43 (by decide) ?_
            refine x_goto (tgt := 67) dX11_name_44 (by decide) ?_
            exact x_weak (by exact trivial) (hj67 ((-1 : Int32), s5))
          refine x_if_lt (tgt := 43) dX11_name_28 (by decide) (fun _ => ?_) (fun _ => ?_)
          · exact x_weak (by exact trivial) (hj43 M1)
          · refine x_iload_n dX11_name_31 rfl ?_
            refine x_aload dX11_name_32 rfl ?_
            refine gfX11_113 rfl dX11_name_34 (fun x6 => ?_)
            refine cmX11_88 rfl hs (Nat.le_of_ble_eq_true rfl) dX11_name_37 (fun x8 M7 => ?_)
            refine x_icmp_lt (tgt := 47) dX11_name_40 (by decide) (fun _ => ?_) (fun _ => ?_)
            · refine x_aload dX11_name_47 rfl ?_
              refine gfX11_113 rfl dX11_name_49 (fun x9 => ?_)
              refine x_iload_n dX11_name_52 rfl ?_
              refine cmX11_162 rfl hs (Nat.le_of_ble_eq_true rfl) dX11_name_53 (fun x11 M10 => ?_)
              refine ccX11_166 rfl dX11_name_56 ?_
              refine gfX11_168 rfl dX11_name_59 (fun x12 => ?_)
              refine x_iload dX11_name_62 rfl ?_
              refine cmX11_172 rfl hs (Nat.le_of_ble_eq_true rfl) dX11_name_64 (fun x14 M13 => ?_)
              exact x_weak (by exact trivial) (hj67 (x14, M13))
            · exact x_weak (by exact trivial) (hj43 M7)
        · refine x_iload_n dX11_name_68 rfl ?_
          refine x_iconst (v := 1) dX11_name_69 (by decide) ?_
          refine x_jn (σ := Option Nat) 99 (fun s15 => [none, none, none, some (.int a3), some (.int a4), none, none]) (fun s15 => [va_rf s15]) (fun s15 => M1) (fun s15 => ?_) (fun j99 hj99 => ?_)
          · refine x_iload_n dX11_name_99 rfl ?_
            refine cmX11_130 rfl hs (Nat.le_of_ble_eq_true rfl) dX11_name_100 (fun x17 M16 => ?_)
            refine x_astore (lo' := [none, none, none, some (.int a3), some (.int a4), none, some (va_rf x17)]) dX11_name_103 (by decide) rfl rfl ?_
            refine x_aload dX11_name_105 rfl ?_
            refine x_jn (σ := Int32 × Mem) 124 (fun s18 => [none, none, none, none, none, none, none]) (fun s18 => [.int s18.1]) (fun s18 => s18.2) (fun s18 => ?_) (fun j124 hj124 => ?_)
            · exact x_iret rfl dX11_name_124
            refine x_ifnonnull (tgt := 114) dX11_name_107 (by decide) (fun _ => ?_) (fun _ => ?_)
            · refine x_iconst (v := -1) dX11_name_110 (by decide) ?_
              refine x_goto (tgt := 124) dX11_name_111 (by decide) ?_
              exact x_weak (by exact trivial) (hj124 ((-1 : Int32), M16))
            · refine x_aload dX11_name_114 rfl ?_
              refine gfX11_176 rfl dX11_name_116 (fun x19 => ?_)
              refine x_iload dX11_name_119 rfl ?_
              refine cmX11_172 rfl hs (Nat.le_of_ble_eq_true rfl) dX11_name_121 (fun x21 M20 => ?_)
              exact x_weak (by exact trivial) (hj124 (x21, M20))
          refine x_icmp_ne (tgt := 81) dX11_name_70 (by decide) (fun _ => ?_) (fun _ => ?_)
          · refine x_aload dX11_name_73 rfl ?_
            refine gfX11_116 rfl dX11_name_75 (fun x22 => ?_)
            refine x_goto (tgt := 99) dX11_name_78 (by decide) ?_
            exact x_weak (by exact ⟨rfl, ⟨rfl, trivial⟩⟩) (hj99 x22)
          · refine x_iload_n dX11_name_81 rfl ?_
            refine x_iconst (v := 2) dX11_name_82 (by decide) ?_
            refine x_icmp_ne (tgt := 94) dX11_name_83 (by decide) (fun _ => ?_) (fun _ => ?_)
            · refine x_aload dX11_name_86 rfl ?_
              refine gfX11_121 rfl dX11_name_88 (fun x23 => ?_)
              refine x_goto (tgt := 99) dX11_name_91 (by decide) ?_
              exact x_weak (by exact ⟨rfl, ⟨rfl, trivial⟩⟩) (hj99 x23)
            · refine x_aload dX11_name_94 rfl ?_
              refine gfX11_124 rfl dX11_name_96 (fun x24 => ?_)
              exact x_weak (by exact ⟨rfl, ⟨rfl, trivial⟩⟩) (hj99 x24)
      · exact x_weak (by exact trivial) (hj21 ())
theorem s135 {l : Launch} {d : Nat} {rec : Nat → List Value → Mem → XA} (hS : Nonempty XS) (hs : XSnd l xmt rec d) : Snd1 l 135 (b135 rec) d := by
  intro as M r M' h0
  unfold b135 at h0
  obtain ⟨a0, l1, e1, h1⟩ := aR_inv h0
  obtain ⟨a1, l2, e2, h2⟩ := aI_inv h1
  obtain ⟨a2, l3, e3, h3⟩ := aI_inv h2
  obtain ⟨a3, l4, e4, h4⟩ := aI_inv h3
  obtain ⟨a4, l5, e5, h5⟩ := aI_inv h4
  obtain ⟨ez, h⟩ := aZ_inv h5
  subst ez
  subst e5
  subst e4
  subst e3
  subst e2
  subst e1
  exact xmet (M := M) (as := [va_rf a0, .int a1, .int a2, .int a3, .int a4]) (lo := [some (va_rf a0), some (.int a1), some (.int a2), some (.int a3), some (.int a4)]) 135 xq135 xm135 (by rw [xargs_rf, xargs_i, xargs_i, xargs_i, xargs_i, xargs_nil]; exact ⟨rfl, ⟨rfl, ⟨rfl, ⟨rfl, ⟨rfl, trivial⟩⟩⟩⟩⟩) (by rw [xargs_rf, xargs_i, xargs_i, xargs_i, xargs_i, xargs_nil]; exact Nat.le_of_ble_eq_true rfl) (fun S G K => x_weak (by exact ⟨rfl, ⟨rfl, ⟨rfl, ⟨rfl, ⟨rfl, trivial⟩⟩⟩⟩⟩) (k135 hs a0 a1 a2 a3 a4 M)) h hS
set_option maxRecDepth 100000 in
def c136 (rec : Nat → List Value → Mem → XA) (a0 : Option Nat) (a1 : Int32) (a2 : Int32) (a3 : Int32) (M0 : Mem) : XA :=
  vC (12, 19) M0 a0 <|
  cP (rec 167 [va_rf a0, .int a1] M0) fun x2 M1 =>
  jn (fun (s3 : Unit) =>
    some (.int ((-1 : Int32)), M1)) fun j34 =>
  if x2 = none then (
    j34 ()) else (
    if a2 < 0 then (
      j34 ()) else (
      gtI (6, 18) M1 x2 5 fun x4 =>
      if x4 ≤ a2 then (
        j34 ()) else (
        if a3 < 0 then (
          j34 ()) else (
          if a3 ≤ ((1 : Int32)) then (
            jn (fun (s5 : Int32) =>
              some (.int s5, M1)) fun j57 =>
            if a3 = 0 then (
              gtP (6, 18) M1 x2 6 fun x6 =>
              alI 100 M1 x6 a2 fun x7 =>
              j57 x7) else (
              gtP (6, 18) M1 x2 7 fun x8 =>
              alI 100 M1 x8 a2 fun x9 =>
              j57 x9)) else (
            j34 ())))))
def b136 (rec : Nat → List Value → Mem → XA) (as : List Value) (M0 : Mem) : XA := aR as fun a0 as => aI as fun a1 as => aI as fun a2 as => aI as fun a3 as => aZ as (c136 rec a0 a1 a2 a3 M0)
set_option maxRecDepth 100000 in
set_option maxHeartbeats 4000000 in
theorem k136 {S : XS} {G : XG} {K : Nat × Nat} {l : Launch} {d : Nat} {rec : Nat → List Value → Mem → XA} (hs : XSnd l xmt rec d) (a0 : Option Nat) (a1 : Int32) (a2 : Int32) (a3 : Int32) (M0 : Mem) : Xe S G K l (yX11_code, cX11_code, 5, some .int) d 0 [some (va_rf a0), some (.int a1), some (.int a2), some (.int a3), none] [] M0 (c136 rec a0 a1 a2 a3 M0) := by
  unfold c136
  refine x_aload_n dX11_code_0 rfl ?_
  refine x_iload_n dX11_code_1 rfl ?_
  refine cmX11_109 rfl hs (Nat.le_of_ble_eq_true rfl) dX11_code_2 (fun x2 M1 => ?_)
  refine x_astore (lo' := [some (va_rf a0), some (.int a1), some (.int a2), some (.int a3), some (va_rf x2)]) dX11_code_5 (by decide) rfl rfl ?_
  refine x_aload dX11_code_7 rfl ?_
  refine x_jn (σ := Unit) 34 (fun s3 => [none, none, none, none, none]) (fun s3 => []) (fun s3 => M1) (fun s3 => ?_) (fun j34 hj34 => ?_)
  · refine x_iconst (v := -1) dX11_code_34 (by decide) ?_
    exact x_iret rfl dX11_code_35
  refine x_ifnull (tgt := 34) dX11_code_9 (by decide) (fun _ => ?_) (fun _ => ?_)
  · exact x_weak (by exact trivial) (hj34 ())
  · refine x_iload_n dX11_code_12 rfl ?_
    refine x_if_lt (tgt := 34) dX11_code_13 (by decide) (fun _ => ?_) (fun _ => ?_)
    · exact x_weak (by exact trivial) (hj34 ())
    · refine x_iload_n dX11_code_16 rfl ?_
      refine x_aload dX11_code_17 rfl ?_
      refine gfX11_119 rfl dX11_code_19 (fun x4 => ?_)
      refine x_icmp_ge (tgt := 34) dX11_code_22 (by decide) (fun _ => ?_) (fun _ => ?_)
      · exact x_weak (by exact trivial) (hj34 ())
      · refine x_iload_n dX11_code_25 rfl ?_
        refine x_if_lt (tgt := 34) dX11_code_26 (by decide) (fun _ => ?_) (fun _ => ?_)
        · exact x_weak (by exact trivial) (hj34 ())
        · refine x_iload_n dX11_code_29 rfl ?_
          refine x_iconst (v := 1) dX11_code_30 (by decide) ?_
          refine x_icmp_le (tgt := 36) dX11_code_31 (by decide) (fun _ => ?_) (fun _ => ?_)
          · refine x_iload_n dX11_code_36 rfl ?_
            refine x_jn (σ := Int32) 57 (fun s5 => [none, none, none, none, none]) (fun s5 => [.int s5]) (fun s5 => M1) (fun s5 => ?_) (fun j57 hj57 => ?_)
            · exact x_iret rfl dX11_code_57
            refine x_if_ne (tgt := 50) dX11_code_37 (by decide) (fun _ => ?_) (fun _ => ?_)
            · refine x_aload dX11_code_40 rfl ?_
              refine gfX11_177 rfl dX11_code_42 (fun x6 => ?_)
              refine x_iload_n dX11_code_45 rfl ?_
              refine x_iald dX11_code_46 (fun x7 => ?_)
              refine x_goto (tgt := 57) dX11_code_47 (by decide) ?_
              exact x_weak (by exact trivial) (hj57 x7)
            · refine x_aload dX11_code_50 rfl ?_
              refine gfX11_180 rfl dX11_code_52 (fun x8 => ?_)
              refine x_iload_n dX11_code_55 rfl ?_
              refine x_iald dX11_code_56 (fun x9 => ?_)
              exact x_weak (by exact trivial) (hj57 x9)
          · exact x_weak (by exact trivial) (hj34 ())
theorem s136 {l : Launch} {d : Nat} {rec : Nat → List Value → Mem → XA} (hS : Nonempty XS) (hs : XSnd l xmt rec d) : Snd1 l 136 (b136 rec) d := by
  intro as M r M' h0
  unfold b136 at h0
  obtain ⟨a0, l1, e1, h1⟩ := aR_inv h0
  obtain ⟨a1, l2, e2, h2⟩ := aI_inv h1
  obtain ⟨a2, l3, e3, h3⟩ := aI_inv h2
  obtain ⟨a3, l4, e4, h4⟩ := aI_inv h3
  obtain ⟨ez, h⟩ := aZ_inv h4
  subst ez
  subst e4
  subst e3
  subst e2
  subst e1
  exact xmet (M := M) (as := [va_rf a0, .int a1, .int a2, .int a3]) (lo := [some (va_rf a0), some (.int a1), some (.int a2), some (.int a3)]) 136 xq136 xm136 (by rw [xargs_rf, xargs_i, xargs_i, xargs_i, xargs_nil]; exact ⟨rfl, ⟨rfl, ⟨rfl, ⟨rfl, trivial⟩⟩⟩⟩) (by rw [xargs_rf, xargs_i, xargs_i, xargs_i, xargs_nil]; exact Nat.le_of_ble_eq_true rfl) (fun S G K => x_weak (by exact ⟨rfl, ⟨rfl, ⟨rfl, ⟨rfl, trivial⟩⟩⟩⟩) (k136 hs a0 a1 a2 a3 M)) h hS
set_option maxRecDepth 100000 in
def c137 (rec : Nat → List Value → Mem → XA) (a0 : Option Nat) (a1 : Int32) (M0 : Mem) : XA :=
  jn (fun (s1 : Unit) =>
    some (.int ((-1 : Int32)), M0)) fun j12 =>
  if a1 < ((1 : Int32)) then (
    j12 ()) else (
    if a1 ≤ ((1000 : Int32)) then (
      gtP (12, 19) M0 a0 2 fun x2 =>
      gtI (4, 22) M0 x2 1 fun x3 =>
      gtP (12, 19) M0 a0 2 fun x4 =>
      ptI (4, 22) M0 x4 1 a1 fun M5 =>
      some (.int x3, M5)) else (
      j12 ()))
def b137 (rec : Nat → List Value → Mem → XA) (as : List Value) (M0 : Mem) : XA := aR as fun a0 as => aI as fun a1 as => aZ as (c137 rec a0 a1 M0)
set_option maxRecDepth 100000 in
set_option maxHeartbeats 4000000 in
theorem k137 {S : XS} {G : XG} {K : Nat × Nat} {l : Launch} {d : Nat} {rec : Nat → List Value → Mem → XA} (hs : XSnd l xmt rec d) (a0 : Option Nat) (a1 : Int32) (M0 : Mem) : Xe S G K l (yX11_steps, cX11_steps, 3, some .int) d 0 [some (va_rf a0), some (.int a1), none] [] M0 (c137 rec a0 a1 M0) := by
  unfold c137
  refine x_iload_n dX11_steps_0 rfl ?_
  refine x_iconst (v := 1) dX11_steps_1 (by decide) ?_
  refine x_jn (σ := Unit) 12 (fun s1 => [none, none, none]) (fun s1 => []) (fun s1 => M0) (fun s1 => ?_) (fun j12 hj12 => ?_)
  · refine x_iconst (v := -1) dX11_steps_12 (by decide) ?_
    exact x_iret rfl dX11_steps_13
  refine x_icmp_lt (tgt := 12) dX11_steps_2 (by decide) (fun _ => ?_) (fun _ => ?_)
  · exact x_weak (by exact trivial) (hj12 ())
  · refine x_iload_n dX11_steps_5 rfl ?_
    refine x_sipush (v := 1000) dX11_steps_6 (by decide) ?_
    refine x_icmp_le (tgt := 14) dX11_steps_9 (by decide) (fun _ => ?_) (fun _ => ?_)
    · refine x_aload_n dX11_steps_14 rfl ?_
      refine gfX11_26 rfl dX11_steps_15 (fun x2 => ?_)
      refine gfX11_183 rfl dX11_steps_18 (fun x3 => ?_)
      refine x_istore_n (lo' := [some (va_rf a0), some (.int a1), some (.int x3)]) dX11_steps_21 (by decide) rfl rfl ?_
      refine x_aload_n dX11_steps_22 rfl ?_
      refine gfX11_26 rfl dX11_steps_23 (fun x4 => ?_)
      refine x_iload_n dX11_steps_26 rfl ?_
      refine pfX11_183 rfl dX11_steps_27 (fun M5 => ?_)
      refine x_iload_n dX11_steps_30 rfl ?_
      exact x_iret rfl dX11_steps_31
    · exact x_weak (by exact trivial) (hj12 ())
theorem s137 {l : Launch} {d : Nat} {rec : Nat → List Value → Mem → XA} (hS : Nonempty XS) (hs : XSnd l xmt rec d) : Snd1 l 137 (b137 rec) d := by
  intro as M r M' h0
  unfold b137 at h0
  obtain ⟨a0, l1, e1, h1⟩ := aR_inv h0
  obtain ⟨a1, l2, e2, h2⟩ := aI_inv h1
  obtain ⟨ez, h⟩ := aZ_inv h2
  subst ez
  subst e2
  subst e1
  exact xmet (M := M) (as := [va_rf a0, .int a1]) (lo := [some (va_rf a0), some (.int a1)]) 137 xq137 xm137 (by rw [xargs_rf, xargs_i, xargs_nil]; exact ⟨rfl, ⟨rfl, trivial⟩⟩) (by rw [xargs_rf, xargs_i, xargs_nil]; exact Nat.le_of_ble_eq_true rfl) (fun S G K => x_weak (by exact ⟨rfl, ⟨rfl, trivial⟩⟩) (k137 hs a0 a1 M)) h hS
set_option maxRecDepth 100000 in
def c138 (rec : Nat → List Value → Mem → XA) (a0 : Option Nat) (a1 : Int32) (M0 : Mem) : XA :=
  gtP (12, 19) M0 a0 2 fun x1 =>
  gtI (4, 22) M0 x1 2 fun x2 =>
  gtP (12, 19) M0 a0 2 fun x3 =>
  ptI (4, 22) M0 x3 2 a1 fun M4 =>
  some (.int x2, M4)
def b138 (rec : Nat → List Value → Mem → XA) (as : List Value) (M0 : Mem) : XA := aR as fun a0 as => aI as fun a1 as => aZ as (c138 rec a0 a1 M0)
set_option maxRecDepth 100000 in
set_option maxHeartbeats 4000000 in
theorem k138 {S : XS} {G : XG} {K : Nat × Nat} {l : Launch} {d : Nat} {rec : Nat → List Value → Mem → XA} (hs : XSnd l xmt rec d) (a0 : Option Nat) (a1 : Int32) (M0 : Mem) : Xe S G K l (yX11_seed, cX11_seed, 3, some .int) d 0 [some (va_rf a0), some (.int a1), none] [] M0 (c138 rec a0 a1 M0) := by
  unfold c138
  refine x_aload_n dX11_seed_0 rfl ?_
  refine gfX11_26 rfl dX11_seed_1 (fun x1 => ?_)
  refine gfX11_186 rfl dX11_seed_4 (fun x2 => ?_)
  refine x_istore_n (lo' := [some (va_rf a0), some (.int a1), some (.int x2)]) dX11_seed_7 (by decide) rfl rfl ?_
  refine x_aload_n dX11_seed_8 rfl ?_
  refine gfX11_26 rfl dX11_seed_9 (fun x3 => ?_)
  refine x_iload_n dX11_seed_12 rfl ?_
  refine pfX11_186 rfl dX11_seed_13 (fun M4 => ?_)
  refine x_iload_n dX11_seed_16 rfl ?_
  exact x_iret rfl dX11_seed_17
theorem s138 {l : Launch} {d : Nat} {rec : Nat → List Value → Mem → XA} (hS : Nonempty XS) (hs : XSnd l xmt rec d) : Snd1 l 138 (b138 rec) d := by
  intro as M r M' h0
  unfold b138 at h0
  obtain ⟨a0, l1, e1, h1⟩ := aR_inv h0
  obtain ⟨a1, l2, e2, h2⟩ := aI_inv h1
  obtain ⟨ez, h⟩ := aZ_inv h2
  subst ez
  subst e2
  subst e1
  exact xmet (M := M) (as := [va_rf a0, .int a1]) (lo := [some (va_rf a0), some (.int a1)]) 138 xq138 xm138 (by rw [xargs_rf, xargs_i, xargs_nil]; exact ⟨rfl, ⟨rfl, trivial⟩⟩) (by rw [xargs_rf, xargs_i, xargs_nil]; exact Nat.le_of_ble_eq_true rfl) (fun S G K => x_weak (by exact ⟨rfl, ⟨rfl, trivial⟩⟩) (k138 hs a0 a1 M)) h hS
set_option maxRecDepth 100000 in
def c139 (rec : Nat → List Value → Mem → XA) (a0 : Option Nat) (a1 : Int32) (a2 : Int32) (a3 : Int32) (M0 : Mem) : XA :=
  vC (12, 19) M0 a0 <|
  cP (rec 167 [va_rf a0, .int a1] M0) fun x2 M1 =>
  jn (fun (s3 : Unit) =>
    some (.int ((-1 : Int32)), M1)) fun j40 =>
  if x2 = none then (
    j40 ()) else (
    if a2 < 0 then (
      j40 ()) else (
      gtP (6, 18) M1 x2 10 fun x4 =>
      aln M1 x4 fun x5 =>
      if x5 ≤ a2 then (
        j40 ()) else (
        if a3 < 0 then (
          j40 ()) else (
          gtP (6, 18) M1 x2 10 fun x6 =>
          aln M1 x6 fun x7 =>
          if a3 < x7 then (
            gtP (6, 18) M1 x2 10 fun x8 =>
            alI 100 M1 x8 a2 fun x9 =>
            gtP (6, 18) M1 x2 10 fun x10 =>
            gtP (6, 18) M1 x2 10 fun x11 =>
            alI 100 M1 x11 a3 fun x12 =>
            asI 100 M1 x10 a2 x12 fun M13 =>
            gtP (6, 18) M13 x2 10 fun x14 =>
            asI 100 M13 x14 a3 x9 fun M15 =>
            gtP (6, 18) M15 x2 10 fun x16 =>
            alI 100 M15 x16 a2 fun x17 =>
            some (.int x17, M15)) else (
            j40 ())))))
def b139 (rec : Nat → List Value → Mem → XA) (as : List Value) (M0 : Mem) : XA := aR as fun a0 as => aI as fun a1 as => aI as fun a2 as => aI as fun a3 as => aZ as (c139 rec a0 a1 a2 a3 M0)
set_option maxRecDepth 100000 in
set_option maxHeartbeats 4000000 in
theorem k139 {S : XS} {G : XG} {K : Nat × Nat} {l : Launch} {d : Nat} {rec : Nat → List Value → Mem → XA} (hs : XSnd l xmt rec d) (a0 : Option Nat) (a1 : Int32) (a2 : Int32) (a3 : Int32) (M0 : Mem) : Xe S G K l (yX11_swap, cX11_swap, 6, some .int) d 0 [some (va_rf a0), some (.int a1), some (.int a2), some (.int a3), none, none] [] M0 (c139 rec a0 a1 a2 a3 M0) := by
  unfold c139
  refine x_aload_n dX11_swap_0 rfl ?_
  refine x_iload_n dX11_swap_1 rfl ?_
  refine cmX11_109 rfl hs (Nat.le_of_ble_eq_true rfl) dX11_swap_2 (fun x2 M1 => ?_)
  refine x_astore (lo' := [some (va_rf a0), some (.int a1), some (.int a2), some (.int a3), some (va_rf x2), none]) dX11_swap_5 (by decide) rfl rfl ?_
  refine x_aload dX11_swap_7 rfl ?_
  refine x_jn (σ := Unit) 40 (fun s3 => [none, none, none, none, none, none]) (fun s3 => []) (fun s3 => M1) (fun s3 => ?_) (fun j40 hj40 => ?_)
  · refine x_iconst (v := -1) dX11_swap_40 (by decide) ?_
    exact x_iret rfl dX11_swap_41
  refine x_ifnull (tgt := 40) dX11_swap_9 (by decide) (fun _ => ?_) (fun _ => ?_)
  · exact x_weak (by exact trivial) (hj40 ())
  · refine x_iload_n dX11_swap_12 rfl ?_
    refine x_if_lt (tgt := 40) dX11_swap_13 (by decide) (fun _ => ?_) (fun _ => ?_)
    · exact x_weak (by exact trivial) (hj40 ())
    · refine x_iload_n dX11_swap_16 rfl ?_
      refine x_aload dX11_swap_17 rfl ?_
      refine gfX11_189 rfl dX11_swap_19 (fun x4 => ?_)
      refine x_alen dX11_swap_22 (fun x5 => ?_)
      refine x_icmp_ge (tgt := 40) dX11_swap_23 (by decide) (fun _ => ?_) (fun _ => ?_)
      · exact x_weak (by exact trivial) (hj40 ())
      · refine x_iload_n dX11_swap_26 rfl ?_
        refine x_if_lt (tgt := 40) dX11_swap_27 (by decide) (fun _ => ?_) (fun _ => ?_)
        · exact x_weak (by exact trivial) (hj40 ())
        · refine x_iload_n dX11_swap_30 rfl ?_
          refine x_aload dX11_swap_31 rfl ?_
          refine gfX11_189 rfl dX11_swap_33 (fun x6 => ?_)
          refine x_alen dX11_swap_36 (fun x7 => ?_)
          refine x_icmp_lt (tgt := 42) dX11_swap_37 (by decide) (fun _ => ?_) (fun _ => ?_)
          · refine x_aload dX11_swap_42 rfl ?_
            refine gfX11_189 rfl dX11_swap_44 (fun x8 => ?_)
            refine x_iload_n dX11_swap_47 rfl ?_
            refine x_iald dX11_swap_48 (fun x9 => ?_)
            refine x_istore (lo' := [some (va_rf a0), some (.int a1), some (.int a2), some (.int a3), some (va_rf x2), some (.int x9)]) dX11_swap_49 (by decide) (xok_r rfl) rfl ?_
            refine x_aload dX11_swap_51 rfl ?_
            refine gfX11_189 rfl dX11_swap_53 (fun x10 => ?_)
            refine x_iload_n dX11_swap_56 rfl ?_
            refine x_aload dX11_swap_57 rfl ?_
            refine gfX11_189 rfl dX11_swap_59 (fun x11 => ?_)
            refine x_iload_n dX11_swap_62 rfl ?_
            refine x_iald dX11_swap_63 (fun x12 => ?_)
            refine x_iast dX11_swap_64 (fun M13 => ?_)
            refine x_aload dX11_swap_65 rfl ?_
            refine gfX11_189 rfl dX11_swap_67 (fun x14 => ?_)
            refine x_iload_n dX11_swap_70 rfl ?_
            refine x_iload dX11_swap_71 rfl ?_
            refine x_iast dX11_swap_73 (fun M15 => ?_)
            refine x_aload dX11_swap_74 rfl ?_
            refine gfX11_189 rfl dX11_swap_76 (fun x16 => ?_)
            refine x_iload_n dX11_swap_79 rfl ?_
            refine x_iald dX11_swap_80 (fun x17 => ?_)
            exact x_iret rfl dX11_swap_81
          · exact x_weak (by exact trivial) (hj40 ())
theorem s139 {l : Launch} {d : Nat} {rec : Nat → List Value → Mem → XA} (hS : Nonempty XS) (hs : XSnd l xmt rec d) : Snd1 l 139 (b139 rec) d := by
  intro as M r M' h0
  unfold b139 at h0
  obtain ⟨a0, l1, e1, h1⟩ := aR_inv h0
  obtain ⟨a1, l2, e2, h2⟩ := aI_inv h1
  obtain ⟨a2, l3, e3, h3⟩ := aI_inv h2
  obtain ⟨a3, l4, e4, h4⟩ := aI_inv h3
  obtain ⟨ez, h⟩ := aZ_inv h4
  subst ez
  subst e4
  subst e3
  subst e2
  subst e1
  exact xmet (M := M) (as := [va_rf a0, .int a1, .int a2, .int a3]) (lo := [some (va_rf a0), some (.int a1), some (.int a2), some (.int a3)]) 139 xq139 xm139 (by rw [xargs_rf, xargs_i, xargs_i, xargs_i, xargs_nil]; exact ⟨rfl, ⟨rfl, ⟨rfl, ⟨rfl, trivial⟩⟩⟩⟩) (by rw [xargs_rf, xargs_i, xargs_i, xargs_i, xargs_nil]; exact Nat.le_of_ble_eq_true rfl) (fun S G K => x_weak (by exact ⟨rfl, ⟨rfl, ⟨rfl, ⟨rfl, trivial⟩⟩⟩⟩) (k139 hs a0 a1 a2 a3 M)) h hS
set_option maxRecDepth 100000 in
def c140 (rec : Nat → List Value → Mem → XA) (a0 : Option Nat) (a1 : Int32) (M0 : Mem) : XA :=
  vC (12, 19) M0 a0 <|
  cP (rec 167 [va_rf a0, .int a1] M0) fun x2 M1 =>
  if x2 = none then (
    some (.int ((-1 : Int32)), M1)) else (
    gtP (12, 19) M1 a0 2 fun x3 =>
    vC (4, 22) M1 x3 <|
    cV (rec 19 [va_rf x3, va_rf x2, .int ((2147483647 : Int32))] M1) fun M4 =>
    gtP (12, 19) M4 a0 2 fun x5 =>
    vC (4, 22) M4 x5 <|
    cV (rec 21 [va_rf x5, .int ((2 : Int32))] M4) fun M6 =>
    vC (6, 18) M6 x2 <|
    cV (rec 54 [va_rf x2] M6) fun M7 =>
    gtP (6, 18) M7 x2 10 fun x8 =>
    gtP (6, 18) M7 x2 10 fun x9 =>
    aln M7 x9 fun x10 =>
    gtP (6, 18) M7 x2 11 fun x11 =>
    vC (12, 19) M7 a0 <|
    cV (rec 174 [va_rf a0, va_rf x2, va_rf x8, .int x10, .int ((-2 : Int32)), va_rf x11] M7) fun M12 =>
    ptZ (6, 18) M12 x2 13 ((1 : Int32)) fun M13 =>
    lp (fun (s14 : Int32 × Int32) j64 =>
      gtP (6, 18) M13 x2 10 fun x15 =>
      aln M13 x15 fun x16 =>
      if x16 ≤ s14.2 then (
        some (.int s14.1, M13)) else (
        gtP (6, 18) M13 x2 11 fun x17 =>
        alP 113 M13 x17 ((0 : Int32)) fun x18 =>
        alI 100 M13 x18 s14.2 fun x19 =>
        jn (fun (s20 : Int32) =>
          lt (s14.2 + (1 : Int32)) fun (x21 : Int32) =>
          j64 (s20, x21)) fun j90 =>
        if x19 = ((1 : Int32)) then (
          lt (s14.1 + (1 : Int32)) fun (x22 : Int32) =>
          j90 x22) else (
          j90 s14.1))) 4294967296 ((0 : Int32), (0 : Int32)))
def b140 (rec : Nat → List Value → Mem → XA) (as : List Value) (M0 : Mem) : XA := aR as fun a0 as => aI as fun a1 as => aZ as (c140 rec a0 a1 M0)
set_option maxRecDepth 100000 in
set_option maxHeartbeats 4000000 in
theorem k140 {S : XS} {G : XG} {K : Nat × Nat} {l : Launch} {d : Nat} {rec : Nat → List Value → Mem → XA} (hs : XSnd l xmt rec d) (a0 : Option Nat) (a1 : Int32) (M0 : Mem) : Xe S G K l (yX11_run, cX11_run, 5, some .int) d 0 [some (va_rf a0), some (.int a1), none, none, none] [] M0 (c140 rec a0 a1 M0) := by
  unfold c140
  refine x_aload_n dX11_run_0 rfl ?_
  refine x_iload_n dX11_run_1 rfl ?_
  refine cmX11_109 rfl hs (Nat.le_of_ble_eq_true rfl) dX11_run_2 (fun x2 M1 => ?_)
  refine x_astore_n (lo' := [some (va_rf a0), some (.int a1), some (va_rf x2), none, none]) dX11_run_5 (by decide) rfl rfl ?_
  refine x_aload_n dX11_run_6 rfl ?_
  refine x_ifnonnull (tgt := 12) dX11_run_7 (by decide) (fun _ => ?_) (fun _ => ?_)
  · refine x_iconst (v := -1) dX11_run_10 (by decide) ?_
    exact x_iret rfl dX11_run_11
  · refine x_aload_n dX11_run_12 rfl ?_
    refine gfX11_26 rfl dX11_run_13 (fun x3 => ?_)
    refine x_aload_n dX11_run_16 rfl ?_
    refine x_ldc (v := 2147483647) dX11_run_17 lk_constant_X11_192 ?_
    refine cmX11_193 rfl hs (Nat.le_of_ble_eq_true rfl) dX11_run_19 (fun M4 => ?_)
    refine x_aload_n dX11_run_22 rfl ?_
    refine gfX11_26 rfl dX11_run_23 (fun x5 => ?_)
    refine x_iconst (v := 2) dX11_run_26 (by decide) ?_
    refine cmX11_197 rfl hs (Nat.le_of_ble_eq_true rfl) dX11_run_27 (fun M6 => ?_)
    refine x_aload_n dX11_run_30 rfl ?_
    refine cmX11_200 rfl hs (Nat.le_of_ble_eq_true rfl) dX11_run_31 (fun M7 => ?_)
    refine x_aload_n dX11_run_34 rfl ?_
    refine x_aload_n dX11_run_35 rfl ?_
    refine x_aload_n dX11_run_36 rfl ?_
    refine gfX11_189 rfl dX11_run_37 (fun x8 => ?_)
    refine x_aload_n dX11_run_40 rfl ?_
    refine gfX11_189 rfl dX11_run_41 (fun x9 => ?_)
    refine x_alen dX11_run_44 (fun x10 => ?_)
    refine x_bipush (v := -2) dX11_run_45 (by decide) ?_
    refine x_aload_n dX11_run_47 rfl ?_
    refine gfX11_203 rfl dX11_run_48 (fun x11 => ?_)
    refine cmX11_206 rfl hs (Nat.le_of_ble_eq_true rfl) dX11_run_51 (fun M12 => ?_)
    refine x_aload_n dX11_run_54 rfl ?_
    refine x_iconst (v := 1) dX11_run_55 (by decide) ?_
    refine pfX11_210 rfl dX11_run_56 (fun M13 => ?_)
    refine x_iconst (v := 0) dX11_run_59 (by decide) ?_
    refine x_istore_n (lo' := [some (va_rf a0), some (.int a1), some (va_rf x2), some (.int ((0 : Int32))), none]) dX11_run_60 (by decide) (xok_r rfl) rfl ?_
    refine x_iconst (v := 0) dX11_run_61 (by decide) ?_
    refine x_istore (lo' := [some (va_rf a0), some (.int a1), some (va_rf x2), some (.int ((0 : Int32))), some (.int ((0 : Int32)))]) dX11_run_62 (by decide) rfl rfl ?_
    refine x_weak (by exact ⟨rfl, ⟨rfl, ⟨rfl, trivial⟩⟩⟩) (x_lp (σ := Int32 × Int32) 64 (fun s14 => [none, none, some (va_rf x2), some (.int s14.1), some (.int s14.2)]) (fun s14 => []) (fun s14 => M13) (fun s14 j64 hj64 => ?_) 4294967296 ((0 : Int32), (0 : Int32)))
    · refine x_iload dX11_run_64 rfl ?_
      refine x_aload_n dX11_run_66 rfl ?_
      refine gfX11_189 rfl dX11_run_67 (fun x15 => ?_)
      refine x_alen dX11_run_70 (fun x16 => ?_)
      refine x_icmp_ge (tgt := 96) dX11_run_71 (by decide) (fun _ => ?_) (fun _ => ?_)
      · refine x_iload_n dX11_run_96 rfl ?_
        exact x_iret rfl dX11_run_97
      · refine x_aload_n dX11_run_74 rfl ?_
        refine gfX11_203 rfl dX11_run_75 (fun x17 => ?_)
        refine x_iconst (v := 0) dX11_run_78 (by decide) ?_
        refine x_aldg (t := 113) (tn := 8) (by decide) (by decide) rfl rfl dX11_run_79 (fun x18 => ?_)
        refine x_iload dX11_run_80 rfl ?_
        refine x_iald dX11_run_82 (fun x19 => ?_)
        refine x_iconst (v := 1) dX11_run_83 (by decide) ?_
        refine x_jn (σ := Int32) 90 (fun s20 => [none, none, some (va_rf x2), some (.int s20), some (.int s14.2)]) (fun s20 => []) (fun s20 => M13) (fun s20 => ?_) (fun j90 hj90 => ?_)
        · refine x_iincN (v := 1) (lo' := fun x21 => [none, none, some (va_rf x2), some (.int s20), some (.int x21)]) (by decide) dX11_run_90 rfl (by decide) rfl (fun _ => rfl) (fun x21 => ?_)
          refine x_goto (tgt := 64) dX11_run_93 (by decide) ?_
          exact x_weak (by exact ⟨rfl, ⟨rfl, ⟨rfl, trivial⟩⟩⟩) (hj64 (s20, x21))
        refine x_icmp_ne (tgt := 90) dX11_run_84 (by decide) (fun _ => ?_) (fun _ => ?_)
        · refine x_iincN (v := 1) (lo' := fun x22 => [none, none, some (va_rf x2), some (.int x22), some (.int s14.2)]) (by decide) dX11_run_87 rfl (by decide) (xok_r rfl) (fun _ => rfl) (fun x22 => ?_)
          exact x_weak (by exact ⟨rfl, ⟨rfl, ⟨rfl, trivial⟩⟩⟩) (hj90 x22)
        · exact x_weak (by exact ⟨rfl, ⟨rfl, ⟨rfl, trivial⟩⟩⟩) (hj90 s14.1)
theorem s140 {l : Launch} {d : Nat} {rec : Nat → List Value → Mem → XA} (hS : Nonempty XS) (hs : XSnd l xmt rec d) : Snd1 l 140 (b140 rec) d := by
  intro as M r M' h0
  unfold b140 at h0
  obtain ⟨a0, l1, e1, h1⟩ := aR_inv h0
  obtain ⟨a1, l2, e2, h2⟩ := aI_inv h1
  obtain ⟨ez, h⟩ := aZ_inv h2
  subst ez
  subst e2
  subst e1
  exact xmet (M := M) (as := [va_rf a0, .int a1]) (lo := [some (va_rf a0), some (.int a1)]) 140 xq140 xm140 (by rw [xargs_rf, xargs_i, xargs_nil]; exact ⟨rfl, ⟨rfl, trivial⟩⟩) (by rw [xargs_rf, xargs_i, xargs_nil]; exact Nat.le_of_ble_eq_true rfl) (fun S G K => x_weak (by exact ⟨rfl, ⟨rfl, trivial⟩⟩) (k140 hs a0 a1 M)) h hS
set_option maxRecDepth 100000 in
def c141 (rec : Nat → List Value → Mem → XA) (a0 : Option Nat) (a1 : Int32) (a2 : Int32) (a3 : Int32) (M0 : Mem) : XA :=
  vC (12, 19) M0 a0 <|
  cP (rec 167 [va_rf a0, .int a1] M0) fun x2 M1 =>
  cP (rec 169 [va_rf x2, .int a2] M1) fun x4 M3 =>
  jn (fun (s5 : Unit) =>
    some (.int ((-1 : Int32)), M3)) fun j25 =>
  if x4 = none then (
    j25 ()) else (
    if a3 < 0 then (
      j25 ()) else (
      if a3 < ((4 : Int32)) then (
        gtI (6, 18) M3 x2 13 fun x6 =>
        jn (fun (s7 : Int32) =>
          some (.int s7, M3)) fun j49 =>
        if x6 = 0 then (
          j49 ((-2 : Int32))) else (
          gtP (6, 18) M3 x2 11 fun x8 =>
          alP 113 M3 x8 a3 fun x9 =>
          alI 100 M3 x9 a2 fun x10 =>
          j49 x10)) else (
        j25 ())))
def b141 (rec : Nat → List Value → Mem → XA) (as : List Value) (M0 : Mem) : XA := aR as fun a0 as => aI as fun a1 as => aI as fun a2 as => aI as fun a3 as => aZ as (c141 rec a0 a1 a2 a3 M0)
set_option maxRecDepth 100000 in
set_option maxHeartbeats 4000000 in
theorem k141 {S : XS} {G : XG} {K : Nat × Nat} {l : Launch} {d : Nat} {rec : Nat → List Value → Mem → XA} (hs : XSnd l xmt rec d) (a0 : Option Nat) (a1 : Int32) (a2 : Int32) (a3 : Int32) (M0 : Mem) : Xe S G K l (yX11_verdict, cX11_verdict, 5, some .int) d 0 [some (va_rf a0), some (.int a1), some (.int a2), some (.int a3), none] [] M0 (c141 rec a0 a1 a2 a3 M0) := by
  unfold c141
  refine x_aload_n dX11_verdict_0 rfl ?_
  refine x_iload_n dX11_verdict_1 rfl ?_
  refine cmX11_109 rfl hs (Nat.le_of_ble_eq_true rfl) dX11_verdict_2 (fun x2 M1 => ?_)
  refine x_astore (lo' := [some (va_rf a0), some (.int a1), some (.int a2), some (.int a3), some (va_rf x2)]) dX11_verdict_5 (by decide) rfl rfl ?_
  refine x_aload dX11_verdict_7 rfl ?_
  refine x_iload_n dX11_verdict_9 rfl ?_
  refine cmX11_152 rfl hs (Nat.le_of_ble_eq_true rfl) dX11_verdict_10 (fun x4 M3 => ?_)
  refine x_jn (σ := Unit) 25 (fun s5 => [none, none, none, none, none]) (fun s5 => []) (fun s5 => M3) (fun s5 => ?_) (fun j25 hj25 => ?_)
  · refine x_iconst (v := -1) dX11_verdict_25 (by decide) ?_
    exact x_iret rfl dX11_verdict_26
  refine x_ifnull (tgt := 25) dX11_verdict_13 (by decide) (fun _ => ?_) (fun _ => ?_)
  · exact x_weak (by exact trivial) (hj25 ())
  · refine x_iload_n dX11_verdict_16 rfl ?_
    refine x_if_lt (tgt := 25) dX11_verdict_17 (by decide) (fun _ => ?_) (fun _ => ?_)
    · exact x_weak (by exact trivial) (hj25 ())
    · refine x_iload_n dX11_verdict_20 rfl ?_
      refine x_iconst (v := 4) dX11_verdict_21 (by decide) ?_
      refine x_icmp_lt (tgt := 27) dX11_verdict_22 (by decide) (fun _ => ?_) (fun _ => ?_)
      · refine x_aload dX11_verdict_27 rfl ?_
        refine gfX11_210 rfl dX11_verdict_29 (fun x6 => ?_)
        refine x_jn (σ := Int32) 49 (fun s7 => [none, none, none, none, none]) (fun s7 => [.int s7]) (fun s7 => M3) (fun s7 => ?_) (fun j49 hj49 => ?_)
        · exact x_iret rfl dX11_verdict_49
        refine x_if_eq (tgt := 47) dX11_verdict_32 (by decide) (fun _ => ?_) (fun _ => ?_)
        · refine x_bipush (v := -2) dX11_verdict_47 (by decide) ?_
          exact x_weak (by exact trivial) (hj49 ((-2 : Int32)))
        · refine x_aload dX11_verdict_35 rfl ?_
          refine gfX11_203 rfl dX11_verdict_37 (fun x8 => ?_)
          refine x_iload_n dX11_verdict_40 rfl ?_
          refine x_aldg (t := 113) (tn := 8) (by decide) (by decide) rfl rfl dX11_verdict_41 (fun x9 => ?_)
          refine x_iload_n dX11_verdict_42 rfl ?_
          refine x_iald dX11_verdict_43 (fun x10 => ?_)
          refine x_goto (tgt := 49) dX11_verdict_44 (by decide) ?_
          exact x_weak (by exact trivial) (hj49 x10)
      · exact x_weak (by exact trivial) (hj25 ())
theorem s141 {l : Launch} {d : Nat} {rec : Nat → List Value → Mem → XA} (hS : Nonempty XS) (hs : XSnd l xmt rec d) : Snd1 l 141 (b141 rec) d := by
  intro as M r M' h0
  unfold b141 at h0
  obtain ⟨a0, l1, e1, h1⟩ := aR_inv h0
  obtain ⟨a1, l2, e2, h2⟩ := aI_inv h1
  obtain ⟨a2, l3, e3, h3⟩ := aI_inv h2
  obtain ⟨a3, l4, e4, h4⟩ := aI_inv h3
  obtain ⟨ez, h⟩ := aZ_inv h4
  subst ez
  subst e4
  subst e3
  subst e2
  subst e1
  exact xmet (M := M) (as := [va_rf a0, .int a1, .int a2, .int a3]) (lo := [some (va_rf a0), some (.int a1), some (.int a2), some (.int a3)]) 141 xq141 xm141 (by rw [xargs_rf, xargs_i, xargs_i, xargs_i, xargs_nil]; exact ⟨rfl, ⟨rfl, ⟨rfl, ⟨rfl, trivial⟩⟩⟩⟩) (by rw [xargs_rf, xargs_i, xargs_i, xargs_i, xargs_nil]; exact Nat.le_of_ble_eq_true rfl) (fun S G K => x_weak (by exact ⟨rfl, ⟨rfl, ⟨rfl, ⟨rfl, trivial⟩⟩⟩⟩) (k141 hs a0 a1 a2 a3 M)) h hS
set_option maxRecDepth 100000 in
def c142 (rec : Nat → List Value → Mem → XA) (a0 : Option Nat) (a1 : Int32) (a2 : Int32) (a3 : Int32) (M0 : Mem) : XA :=
  vC (12, 19) M0 a0 <|
  cP (rec 167 [va_rf a0, .int a1] M0) fun x2 M1 =>
  jn (fun (s3 : Unit) =>
    some (.int ((-1 : Int32)), M1)) fun j34 =>
  if x2 = none then (
    j34 ()) else (
    if a2 < 0 then (
      j34 ()) else (
      gtI (6, 18) M1 x2 5 fun x4 =>
      if x4 ≤ a2 then (
        j34 ()) else (
        if a3 < 0 then (
          j34 ()) else (
          if a3 ≤ ((1 : Int32)) then (
            gtI (6, 18) M1 x2 13 fun x5 =>
            jn (fun (s6 : Int32) =>
              some (.int s6, M1)) fun j66 =>
            if x5 = 0 then (
              j66 ((-2 : Int32))) else (
              gtP (6, 18) M1 x2 12 fun x7 =>
              jn (fun (s8 : Int32) =>
                alP 113 M1 x7 s8 fun x9 =>
                alI 100 M1 x9 a2 fun x10 =>
                j66 x10) fun j58 =>
              if a3 = 0 then (
                j58 ((0 : Int32))) else (
                j58 ((1 : Int32))))) else (
            j34 ())))))
def b142 (rec : Nat → List Value → Mem → XA) (as : List Value) (M0 : Mem) : XA := aR as fun a0 as => aI as fun a1 as => aI as fun a2 as => aI as fun a3 as => aZ as (c142 rec a0 a1 a2 a3 M0)
set_option maxRecDepth 100000 in
set_option maxHeartbeats 4000000 in
theorem k142 {S : XS} {G : XG} {K : Nat × Nat} {l : Launch} {d : Nat} {rec : Nat → List Value → Mem → XA} (hs : XSnd l xmt rec d) (a0 : Option Nat) (a1 : Int32) (a2 : Int32) (a3 : Int32) (M0 : Mem) : Xe S G K l (yX11_cover, cX11_cover, 5, some .int) d 0 [some (va_rf a0), some (.int a1), some (.int a2), some (.int a3), none] [] M0 (c142 rec a0 a1 a2 a3 M0) := by
  unfold c142
  refine x_aload_n dX11_cover_0 rfl ?_
  refine x_iload_n dX11_cover_1 rfl ?_
  refine cmX11_109 rfl hs (Nat.le_of_ble_eq_true rfl) dX11_cover_2 (fun x2 M1 => ?_)
  refine x_astore (lo' := [some (va_rf a0), some (.int a1), some (.int a2), some (.int a3), some (va_rf x2)]) dX11_cover_5 (by decide) rfl rfl ?_
  refine x_aload dX11_cover_7 rfl ?_
  refine x_jn (σ := Unit) 34 (fun s3 => [none, none, none, none, none]) (fun s3 => []) (fun s3 => M1) (fun s3 => ?_) (fun j34 hj34 => ?_)
  · refine x_iconst (v := -1) dX11_cover_34 (by decide) ?_
    exact x_iret rfl dX11_cover_35
  refine x_ifnull (tgt := 34) dX11_cover_9 (by decide) (fun _ => ?_) (fun _ => ?_)
  · exact x_weak (by exact trivial) (hj34 ())
  · refine x_iload_n dX11_cover_12 rfl ?_
    refine x_if_lt (tgt := 34) dX11_cover_13 (by decide) (fun _ => ?_) (fun _ => ?_)
    · exact x_weak (by exact trivial) (hj34 ())
    · refine x_iload_n dX11_cover_16 rfl ?_
      refine x_aload dX11_cover_17 rfl ?_
      refine gfX11_119 rfl dX11_cover_19 (fun x4 => ?_)
      refine x_icmp_ge (tgt := 34) dX11_cover_22 (by decide) (fun _ => ?_) (fun _ => ?_)
      · exact x_weak (by exact trivial) (hj34 ())
      · refine x_iload_n dX11_cover_25 rfl ?_
        refine x_if_lt (tgt := 34) dX11_cover_26 (by decide) (fun _ => ?_) (fun _ => ?_)
        · exact x_weak (by exact trivial) (hj34 ())
        · refine x_iload_n dX11_cover_29 rfl ?_
          refine x_iconst (v := 1) dX11_cover_30 (by decide) ?_
          refine x_icmp_le (tgt := 36) dX11_cover_31 (by decide) (fun _ => ?_) (fun _ => ?_)
          · refine x_aload dX11_cover_36 rfl ?_
            refine gfX11_210 rfl dX11_cover_38 (fun x5 => ?_)
            refine x_jn (σ := Int32) 66 (fun s6 => [none, none, none, none, none]) (fun s6 => [.int s6]) (fun s6 => M1) (fun s6 => ?_) (fun j66 hj66 => ?_)
            · exact x_iret rfl dX11_cover_66
            refine x_if_eq (tgt := 64) dX11_cover_41 (by decide) (fun _ => ?_) (fun _ => ?_)
            · refine x_bipush (v := -2) dX11_cover_64 (by decide) ?_
              exact x_weak (by exact trivial) (hj66 ((-2 : Int32)))
            · refine x_aload dX11_cover_44 rfl ?_
              refine gfX11_213 rfl dX11_cover_46 (fun x7 => ?_)
              refine x_iload_n dX11_cover_49 rfl ?_
              refine x_jn (σ := Int32) 58 (fun s8 => [none, none, some (.int a2), none, none]) (fun s8 => [.int s8, va_rf x7]) (fun s8 => M1) (fun s8 => ?_) (fun j58 hj58 => ?_)
              · refine x_aldg (t := 113) (tn := 8) (by decide) (by decide) rfl rfl dX11_cover_58 (fun x9 => ?_)
                refine x_iload_n dX11_cover_59 rfl ?_
                refine x_iald dX11_cover_60 (fun x10 => ?_)
                refine x_goto (tgt := 66) dX11_cover_61 (by decide) ?_
                exact x_weak (by exact trivial) (hj66 x10)
              refine x_if_ne (tgt := 57) dX11_cover_50 (by decide) (fun _ => ?_) (fun _ => ?_)
              · refine x_iconst (v := 0) dX11_cover_53 (by decide) ?_
                refine x_goto (tgt := 58) dX11_cover_54 (by decide) ?_
                exact x_weak (by exact ⟨rfl, trivial⟩) (hj58 ((0 : Int32)))
              · refine x_iconst (v := 1) dX11_cover_57 (by decide) ?_
                exact x_weak (by exact ⟨rfl, trivial⟩) (hj58 ((1 : Int32)))
          · exact x_weak (by exact trivial) (hj34 ())
theorem s142 {l : Launch} {d : Nat} {rec : Nat → List Value → Mem → XA} (hS : Nonempty XS) (hs : XSnd l xmt rec d) : Snd1 l 142 (b142 rec) d := by
  intro as M r M' h0
  unfold b142 at h0
  obtain ⟨a0, l1, e1, h1⟩ := aR_inv h0
  obtain ⟨a1, l2, e2, h2⟩ := aI_inv h1
  obtain ⟨a2, l3, e3, h3⟩ := aI_inv h2
  obtain ⟨a3, l4, e4, h4⟩ := aI_inv h3
  obtain ⟨ez, h⟩ := aZ_inv h4
  subst ez
  subst e4
  subst e3
  subst e2
  subst e1
  exact xmet (M := M) (as := [va_rf a0, .int a1, .int a2, .int a3]) (lo := [some (va_rf a0), some (.int a1), some (.int a2), some (.int a3)]) 142 xq142 xm142 (by rw [xargs_rf, xargs_i, xargs_i, xargs_i, xargs_nil]; exact ⟨rfl, ⟨rfl, ⟨rfl, ⟨rfl, trivial⟩⟩⟩⟩) (by rw [xargs_rf, xargs_i, xargs_i, xargs_i, xargs_nil]; exact Nat.le_of_ble_eq_true rfl) (fun S G K => x_weak (by exact ⟨rfl, ⟨rfl, ⟨rfl, ⟨rfl, trivial⟩⟩⟩⟩) (k142 hs a0 a1 a2 a3 M)) h hS
set_option maxRecDepth 100000 in
def c143 (rec : Nat → List Value → Mem → XA) (a0 : Option Nat) (a1 : Int32) (a2 : Int32) (M0 : Mem) : XA :=
  vC (12, 19) M0 a0 <|
  cP (rec 167 [va_rf a0, .int a1] M0) fun x2 M1 =>
  cP (rec 169 [va_rf x2, .int a2] M1) fun x4 M3 =>
  if x4 = none then (
    some (.int ((-1 : Int32)), M3)) else (
    gtP (12, 19) M3 a0 2 fun x5 =>
    vC (4, 22) M3 x5 <|
    cV (rec 19 [va_rf x5, va_rf x2, .int ((2147483647 : Int32))] M3) fun M6 =>
    vC (12, 19) M6 a0 <|
    cI (rec 175 [va_rf a0, va_rf x4] M6) fun x8 M7 =>
    some (.int x8, M7))
def b143 (rec : Nat → List Value → Mem → XA) (as : List Value) (M0 : Mem) : XA := aR as fun a0 as => aI as fun a1 as => aI as fun a2 as => aZ as (c143 rec a0 a1 a2 M0)
set_option maxRecDepth 100000 in
set_option maxHeartbeats 4000000 in
theorem k143 {S : XS} {G : XG} {K : Nat × Nat} {l : Launch} {d : Nat} {rec : Nat → List Value → Mem → XA} (hs : XSnd l xmt rec d) (a0 : Option Nat) (a1 : Int32) (a2 : Int32) (M0 : Mem) : Xe S G K l (yX11_alone, cX11_alone, 5, some .int) d 0 [some (va_rf a0), some (.int a1), some (.int a2), none, none] [] M0 (c143 rec a0 a1 a2 M0) := by
  unfold c143
  refine x_aload_n dX11_alone_0 rfl ?_
  refine x_iload_n dX11_alone_1 rfl ?_
  refine cmX11_109 rfl hs (Nat.le_of_ble_eq_true rfl) dX11_alone_2 (fun x2 M1 => ?_)
  refine x_astore_n (lo' := [some (va_rf a0), some (.int a1), some (.int a2), some (va_rf x2), none]) dX11_alone_5 (by decide) rfl rfl ?_
  refine x_aload_n dX11_alone_6 rfl ?_
  refine x_iload_n dX11_alone_7 rfl ?_
  refine cmX11_152 rfl hs (Nat.le_of_ble_eq_true rfl) dX11_alone_8 (fun x4 M3 => ?_)
  refine x_astore (lo' := [some (va_rf a0), some (.int a1), some (.int a2), some (va_rf x2), some (va_rf x4)]) dX11_alone_11 (by decide) (xok_r rfl) rfl ?_
  refine x_aload dX11_alone_13 rfl ?_
  refine x_ifnonnull (tgt := 20) dX11_alone_15 (by decide) (fun _ => ?_) (fun _ => ?_)
  · refine x_iconst (v := -1) dX11_alone_18 (by decide) ?_
    exact x_iret rfl dX11_alone_19
  · refine x_aload_n dX11_alone_20 rfl ?_
    refine gfX11_26 rfl dX11_alone_21 (fun x5 => ?_)
    refine x_aload_n dX11_alone_24 rfl ?_
    refine x_ldc (v := 2147483647) dX11_alone_25 lk_constant_X11_192 ?_
    refine cmX11_193 rfl hs (Nat.le_of_ble_eq_true rfl) dX11_alone_27 (fun M6 => ?_)
    refine x_aload_n dX11_alone_30 rfl ?_
    refine x_aload dX11_alone_31 rfl ?_
    refine cmX11_216 rfl hs (Nat.le_of_ble_eq_true rfl) dX11_alone_33 (fun x8 M7 => ?_)
    exact x_iret rfl dX11_alone_36
theorem s143 {l : Launch} {d : Nat} {rec : Nat → List Value → Mem → XA} (hS : Nonempty XS) (hs : XSnd l xmt rec d) : Snd1 l 143 (b143 rec) d := by
  intro as M r M' h0
  unfold b143 at h0
  obtain ⟨a0, l1, e1, h1⟩ := aR_inv h0
  obtain ⟨a1, l2, e2, h2⟩ := aI_inv h1
  obtain ⟨a2, l3, e3, h3⟩ := aI_inv h2
  obtain ⟨ez, h⟩ := aZ_inv h3
  subst ez
  subst e3
  subst e2
  subst e1
  exact xmet (M := M) (as := [va_rf a0, .int a1, .int a2]) (lo := [some (va_rf a0), some (.int a1), some (.int a2)]) 143 xq143 xm143 (by rw [xargs_rf, xargs_i, xargs_i, xargs_nil]; exact ⟨rfl, ⟨rfl, ⟨rfl, trivial⟩⟩⟩) (by rw [xargs_rf, xargs_i, xargs_i, xargs_nil]; exact Nat.le_of_ble_eq_true rfl) (fun S G K => x_weak (by exact ⟨rfl, ⟨rfl, ⟨rfl, trivial⟩⟩⟩) (k143 hs a0 a1 a2 M)) h hS
set_option maxRecDepth 100000 in
def c144 (rec : Nat → List Value → Mem → XA) (a0 : Option Nat) (a1 : Int32) (M0 : Mem) : XA :=
  gtI (12, 19) M0 a0 7 fun x1 =>
  jn (fun (s2 : Unit) =>
    some (.int ((-1 : Int32)), M0)) fun j16 =>
  if x1 = 0 then (
    j16 ()) else (
    if a1 < 0 then (
      j16 ()) else (
      if a1 ≤ ((3 : Int32)) then (
        swI a1 [
         ((0 : Int32), (
            gtP (12, 19) M0 a0 6 fun x3 =>
            gtI (5, 5) M0 x3 1 fun x4 =>
            some (.int x4, M0))),
         ((1 : Int32), (
            gtP (12, 19) M0 a0 6 fun x5 =>
            gtI (5, 5) M0 x5 2 fun x6 =>
            some (.int x6, M0))),
         ((2 : Int32), (
            gtP (12, 19) M0 a0 6 fun x7 =>
            gtI (5, 5) M0 x7 3 fun x8 =>
            some (.int x8, M0)))] (
          gtP (12, 19) M0 a0 6 fun x9 =>
          gtI (5, 5) M0 x9 4 fun x10 =>
          some (.int x10, M0))) else (
        j16 ())))
def b144 (rec : Nat → List Value → Mem → XA) (as : List Value) (M0 : Mem) : XA := aR as fun a0 as => aI as fun a1 as => aZ as (c144 rec a0 a1 M0)
set_option maxRecDepth 100000 in
set_option maxHeartbeats 4000000 in
theorem k144 {S : XS} {G : XG} {K : Nat × Nat} {l : Launch} {d : Nat} {rec : Nat → List Value → Mem → XA} (hs : XSnd l xmt rec d) (a0 : Option Nat) (a1 : Int32) (M0 : Mem) : Xe S G K l (yX11_told, cX11_told, 2, some .int) d 0 [some (va_rf a0), some (.int a1)] [] M0 (c144 rec a0 a1 M0) := by
  unfold c144
  refine x_aload_n dX11_told_0 rfl ?_
  refine gfX11_220 rfl dX11_told_1 (fun x1 => ?_)
  refine x_jn (σ := Unit) 16 (fun s2 => [none, none]) (fun s2 => []) (fun s2 => M0) (fun s2 => ?_) (fun j16 hj16 => ?_)
  · refine x_iconst (v := -1) dX11_told_16 (by decide) ?_
    exact x_iret rfl dX11_told_17
  refine x_if_eq (tgt := 16) dX11_told_4 (by decide) (fun _ => ?_) (fun _ => ?_)
  · exact x_weak (by exact trivial) (hj16 ())
  · refine x_iload_n dX11_told_7 rfl ?_
    refine x_if_lt (tgt := 16) dX11_told_8 (by decide) (fun _ => ?_) (fun _ => ?_)
    · exact x_weak (by exact trivial) (hj16 ())
    · refine x_iload_n dX11_told_11 rfl ?_
      refine x_iconst (v := 3) dX11_told_12 (by decide) ?_
      refine x_icmp_le (tgt := 18) dX11_told_13 (by decide) (fun _ => ?_) (fun _ => ?_)
      · refine x_iload_n dX11_told_18 rfl ?_
        refine x_table (tgt := 68) dX11_told_19 [(0, 44), (1, 52), (2, 60)] (by decide +kernel) (by decide +kernel) (by decide) ?_ ?_
        · refine swG_d (by decide) ?_ (swG_d (by decide) ?_ (swG_d (by decide) ?_ (trivial)))
          · refine x_aload_n dX11_told_44 rfl ?_
            refine gfX11_39 rfl dX11_told_45 (fun x3 => ?_)
            refine gfX11_223 rfl dX11_told_48 (fun x4 => ?_)
            exact x_iret rfl dX11_told_51
          · refine x_aload_n dX11_told_52 rfl ?_
            refine gfX11_39 rfl dX11_told_53 (fun x5 => ?_)
            refine gfX11_226 rfl dX11_told_56 (fun x6 => ?_)
            exact x_iret rfl dX11_told_59
          · refine x_aload_n dX11_told_60 rfl ?_
            refine gfX11_39 rfl dX11_told_61 (fun x7 => ?_)
            refine gfX11_229 rfl dX11_told_64 (fun x8 => ?_)
            exact x_iret rfl dX11_told_67
        · refine x_aload_n dX11_told_68 rfl ?_
          refine gfX11_39 rfl dX11_told_69 (fun x9 => ?_)
          refine gfX11_232 rfl dX11_told_72 (fun x10 => ?_)
          exact x_iret rfl dX11_told_75
      · exact x_weak (by exact trivial) (hj16 ())
theorem s144 {l : Launch} {d : Nat} {rec : Nat → List Value → Mem → XA} (hS : Nonempty XS) (hs : XSnd l xmt rec d) : Snd1 l 144 (b144 rec) d := by
  intro as M r M' h0
  unfold b144 at h0
  obtain ⟨a0, l1, e1, h1⟩ := aR_inv h0
  obtain ⟨a1, l2, e2, h2⟩ := aI_inv h1
  obtain ⟨ez, h⟩ := aZ_inv h2
  subst ez
  subst e2
  subst e1
  exact xmet (M := M) (as := [va_rf a0, .int a1]) (lo := [some (va_rf a0), some (.int a1)]) 144 xq144 xm144 (by rw [xargs_rf, xargs_i, xargs_nil]; exact ⟨rfl, ⟨rfl, trivial⟩⟩) (by rw [xargs_rf, xargs_i, xargs_nil]; exact Nat.le_of_ble_eq_true rfl) (fun S G K => x_weak (by exact ⟨rfl, ⟨rfl, trivial⟩⟩) (k144 hs a0 a1 M)) h hS
set_option maxRecDepth 100000 in
def c145 (rec : Nat → List Value → Mem → XA) (a0 : Option Nat) (a1 : Int32) (a2 : Int32) (M0 : Mem) : XA :=
  vC (12, 19) M0 a0 <|
  cP (rec 167 [va_rf a0, .int a1] M0) fun x2 M1 =>
  jn (fun (s3 : Option Nat × Mem) =>
    jn (fun (s4 : Unit) =>
      some (.int ((-1 : Int32)), s3.2)) fun j38 =>
    if s3.1 = none then (
      j38 ()) else (
      gtI (8, 9) s3.2 s3.1 2 fun x5 =>
      if x5 = ((4 : Int32)) then (
        lp (fun (s6 : Option Nat × Int32 × Mem) j46 =>
          if ((8 : Int32)) ≤ s6.2.1 then (
            if s6.1 = none then (
              some (.int ((-3 : Int32)), s6.2.2)) else (
              gtI (12, 19) s6.2.2 a0 3 fun x7 =>
              gtI (8, 9) s6.2.2 s3.1 4 fun x8 =>
              vC (10, 9) s6.2.2 s6.1 <|
              cV (rec 121 [va_rf s6.1, .int x7, .int a1, .int a2, .int x8] s6.2.2) fun M9 =>
              gtI (12, 19) M9 a0 3 fun x10 =>
              ptI (12, 19) M9 a0 3 (x10 + ((1 : Int32))) fun M11 =>
              some (.int x10, M11))) else (
            gtP (12, 19) s6.2.2 a0 2 fun x12 =>
            gtP (4, 22) s6.2.2 x12 7 fun x13 =>
            alP 112 s6.2.2 x13 s6.2.1 fun x14 =>
            vC (10, 9) s6.2.2 x14 <|
            cI (rec 122 [va_rf x14, .int a1, .int a2] s6.2.2) fun x16 M15 =>
            if x16 = 0 then (
              gtP (12, 19) M15 a0 2 fun x17 =>
              gtP (4, 22) M15 x17 7 fun x18 =>
              alP 112 M15 x18 s6.2.1 fun x19 =>
              gtI (10, 9) M15 x19 0 fun x20 =>
              jn (fun (s21 : Option Nat) =>
                lt (s6.2.1 + (1 : Int32)) fun (x22 : Int32) =>
                j46 (s21, x22, M15)) fun j102 =>
              if 0 ≤ x20 then (
                j102 s6.1) else (
                gtP (12, 19) M15 a0 2 fun x23 =>
                gtP (4, 22) M15 x23 7 fun x24 =>
                alP 112 M15 x24 s6.2.1 fun x25 =>
                j102 x25)) else (
              some (.int ((-2 : Int32)), M15)))) 4294967296 (none, (0 : Int32), s3.2)) else (
        j38 ()))) fun j22 =>
  if x2 = none then (
    j22 (none, M1)) else (
    gtP (6, 18) M1 x2 2 fun x26 =>
    cP (rec 168 [va_rf x26, .int a2] M1) fun x28 M27 =>
    j22 (x28, M27))
def b145 (rec : Nat → List Value → Mem → XA) (as : List Value) (M0 : Mem) : XA := aR as fun a0 as => aI as fun a1 as => aI as fun a2 as => aZ as (c145 rec a0 a1 a2 M0)
set_option maxRecDepth 100000 in
set_option maxHeartbeats 4000000 in
theorem k145 {S : XS} {G : XG} {K : Nat × Nat} {l : Launch} {d : Nat} {rec : Nat → List Value → Mem → XA} (hs : XSnd l xmt rec d) (a0 : Option Nat) (a1 : Int32) (a2 : Int32) (M0 : Mem) : Xe S G K l (yX11_twin, cX11_twin, 7, some .int) d 0 [some (va_rf a0), some (.int a1), some (.int a2), none, none, none, none] [] M0 (c145 rec a0 a1 a2 M0) := by
  unfold c145
  refine x_aload_n dX11_twin_0 rfl ?_
  refine x_iload_n dX11_twin_1 rfl ?_
  refine cmX11_109 rfl hs (Nat.le_of_ble_eq_true rfl) dX11_twin_2 (fun x2 M1 => ?_)
  refine x_astore_n (lo' := [some (va_rf a0), some (.int a1), some (.int a2), some (va_rf x2), none, none, none]) dX11_twin_5 (by decide) rfl rfl ?_
  refine x_aload_n dX11_twin_6 rfl ?_
  refine x_jn (σ := Option Nat × Mem) 22 (fun s3 => [some (va_rf a0), some (.int a1), some (.int a2), none, none, none, none]) (fun s3 => [va_rf s3.1]) (fun s3 => s3.2) (fun s3 => ?_) (fun j22 hj22 => ?_)
  · refine x_astore (lo' := [some (va_rf a0), some (.int a1), some (.int a2), none, some (va_rf s3.1), none, none]) dX11_twin_22 (by decide) rfl rfl ?_
    refine x_aload dX11_twin_24 rfl ?_
    refine x_jn (σ := Unit) 38 (fun s4 => [none, none, none, none, none, none, none]) (fun s4 => []) (fun s4 => s3.2) (fun s4 => ?_) (fun j38 hj38 => ?_)
    · refine x_iconst (v := -1) dX11_twin_38 (by decide) ?_
      exact x_iret rfl dX11_twin_39
    refine x_ifnull (tgt := 38) dX11_twin_26 (by decide) (fun _ => ?_) (fun _ => ?_)
    · exact x_weak (by exact trivial) (hj38 ())
    · refine x_aload dX11_twin_29 rfl ?_
      refine gfX11_139 rfl dX11_twin_31 (fun x5 => ?_)
      refine x_iconst (v := 4) dX11_twin_34 (by decide) ?_
      refine x_icmp_eq (tgt := 40) dX11_twin_35 (by decide) (fun _ => ?_) (fun _ => ?_)
      · refine x_null dX11_twin_40 ?_
        refine x_astore (lo' := [some (va_rf a0), some (.int a1), some (.int a2), none, some (va_rf s3.1), some (va_rf none), none]) dX11_twin_41 (by decide) (xok_r rfl) rfl ?_
        refine x_iconst (v := 0) dX11_twin_43 (by decide) ?_
        refine x_istore (lo' := [some (va_rf a0), some (.int a1), some (.int a2), none, some (va_rf s3.1), some (va_rf none), some (.int ((0 : Int32)))]) dX11_twin_44 (by decide) (xok_r rfl) rfl ?_
        refine x_weak (by exact ⟨rfl, ⟨rfl, ⟨rfl, ⟨rfl, ⟨rfl, ⟨rfl, trivial⟩⟩⟩⟩⟩⟩) (x_lp (σ := Option Nat × Int32 × Mem) 46 (fun s6 => [some (va_rf a0), some (.int a1), some (.int a2), none, some (va_rf s3.1), some (va_rf s6.1), some (.int s6.2.1)]) (fun s6 => []) (fun s6 => s6.2.2) (fun s6 j46 hj46 => ?_) 4294967296 (none, (0 : Int32), s3.2))
        · refine x_iload dX11_twin_46 rfl ?_
          refine x_bipush (v := 8) dX11_twin_48 (by decide) ?_
          refine x_icmp_ge (tgt := 108) dX11_twin_50 (by decide) (fun _ => ?_) (fun _ => ?_)
          · refine x_aload dX11_twin_108 rfl ?_
            refine x_ifnonnull (tgt := 116) dX11_twin_110 (by decide) (fun _ => ?_) (fun _ => ?_)
            · refine x_bipush (v := -3) dX11_twin_113 (by decide) ?_
              exact x_iret rfl dX11_twin_115
            · refine x_aload dX11_twin_116 rfl ?_
              refine x_aload_n dX11_twin_118 rfl ?_
              refine gfX11_248 rfl dX11_twin_119 (fun x7 => ?_)
              refine x_iload_n dX11_twin_122 rfl ?_
              refine x_iload_n dX11_twin_123 rfl ?_
              refine x_aload dX11_twin_124 rfl ?_
              refine gfX11_146 rfl dX11_twin_126 (fun x8 => ?_)
              refine cmX11_251 rfl hs (Nat.le_of_ble_eq_true rfl) dX11_twin_129 (fun M9 => ?_)
              refine x_aload_n dX11_twin_132 rfl ?_
              refine x_dup dX11_twin_133 (xc1_r _) ?_
              refine gfX11_248 rfl dX11_twin_134 (fun x10 => ?_)
              refine x_dup_x1 dX11_twin_137 (xc1_i _) (xc1_r _) ?_
              refine x_iconst (v := 1) dX11_twin_138 (by decide) ?_
              refine x_iadd dX11_twin_139 ?_
              refine pfX11_248 rfl dX11_twin_140 (fun M11 => ?_)
              exact x_iret rfl dX11_twin_143
          · refine x_aload_n dX11_twin_53 rfl ?_
            refine gfX11_26 rfl dX11_twin_54 (fun x12 => ?_)
            refine gfX11_235 rfl dX11_twin_57 (fun x13 => ?_)
            refine x_iload dX11_twin_60 rfl ?_
            refine x_aldq (t := 112) (tn := 7) (by decide) (by decide) rfl dX11_twin_62 (fun x14 => ?_)
            refine x_iload_n dX11_twin_63 rfl ?_
            refine x_iload_n dX11_twin_64 rfl ?_
            refine cmX11_239 rfl hs (Nat.le_of_ble_eq_true rfl) dX11_twin_65 (fun x16 M15 => ?_)
            refine x_if_eq (tgt := 74) dX11_twin_68 (by decide) (fun _ => ?_) (fun _ => ?_)
            · refine x_aload_n dX11_twin_74 rfl ?_
              refine gfX11_26 rfl dX11_twin_75 (fun x17 => ?_)
              refine gfX11_235 rfl dX11_twin_78 (fun x18 => ?_)
              refine x_iload dX11_twin_81 rfl ?_
              refine x_aldq (t := 112) (tn := 7) (by decide) (by decide) rfl dX11_twin_83 (fun x19 => ?_)
              refine gfX11_245 rfl dX11_twin_84 (fun x20 => ?_)
              refine x_jn (σ := Option Nat) 102 (fun s21 => [some (va_rf a0), some (.int a1), some (.int a2), none, some (va_rf s3.1), some (va_rf s21), some (.int s6.2.1)]) (fun s21 => []) (fun s21 => M15) (fun s21 => ?_) (fun j102 hj102 => ?_)
              · refine x_iincN (v := 1) (lo' := fun x22 => [some (va_rf a0), some (.int a1), some (.int a2), none, some (va_rf s3.1), some (va_rf s21), some (.int x22)]) (by decide) dX11_twin_102 rfl (by decide) (xok_r rfl) (fun _ => rfl) (fun x22 => ?_)
                refine x_goto (tgt := 46) dX11_twin_105 (by decide) ?_
                exact x_weak (by exact ⟨rfl, ⟨rfl, ⟨rfl, ⟨rfl, ⟨rfl, ⟨rfl, trivial⟩⟩⟩⟩⟩⟩) (hj46 (s21, x22, M15))
              refine x_if_ge (tgt := 102) dX11_twin_87 (by decide) (fun _ => ?_) (fun _ => ?_)
              · exact x_weak (by exact ⟨rfl, ⟨rfl, ⟨rfl, ⟨rfl, ⟨rfl, ⟨rfl, trivial⟩⟩⟩⟩⟩⟩) (hj102 s6.1)
              · refine x_aload_n dX11_twin_90 rfl ?_
                refine gfX11_26 rfl dX11_twin_91 (fun x23 => ?_)
                refine gfX11_235 rfl dX11_twin_94 (fun x24 => ?_)
                refine x_iload dX11_twin_97 rfl ?_
                refine x_aldq (t := 112) (tn := 7) (by decide) (by decide) rfl dX11_twin_99 (fun x25 => ?_)
                refine x_astore (lo' := [some (va_rf a0), some (.int a1), some (.int a2), none, some (va_rf s3.1), some (va_rf x25), some (.int s6.2.1)]) dX11_twin_100 (by decide) (xok_r rfl) rfl ?_
                exact x_weak (by exact ⟨rfl, ⟨rfl, ⟨rfl, ⟨rfl, ⟨rfl, ⟨rfl, trivial⟩⟩⟩⟩⟩⟩) (hj102 x25)
            · refine x_bipush (v := -2) dX11_twin_71 (by decide) ?_
              exact x_iret rfl dX11_twin_73
      · exact x_weak (by exact trivial) (hj38 ())
  refine x_ifnonnull (tgt := 14) dX11_twin_7 (by decide) (fun _ => ?_) (fun _ => ?_)
  · refine x_null dX11_twin_10 ?_
    refine x_goto (tgt := 22) dX11_twin_11 (by decide) ?_
    exact x_weak (by exact ⟨rfl, ⟨rfl, ⟨rfl, trivial⟩⟩⟩) (hj22 (none, M1))
  · refine x_aload_n dX11_twin_14 rfl ?_
    refine gfX11_116 rfl dX11_twin_15 (fun x26 => ?_)
    refine x_iload_n dX11_twin_18 rfl ?_
    refine cmX11_130 rfl hs (Nat.le_of_ble_eq_true rfl) dX11_twin_19 (fun x28 M27 => ?_)
    exact x_weak (by exact ⟨rfl, ⟨rfl, ⟨rfl, trivial⟩⟩⟩) (hj22 (x28, M27))
theorem s145 {l : Launch} {d : Nat} {rec : Nat → List Value → Mem → XA} (hS : Nonempty XS) (hs : XSnd l xmt rec d) : Snd1 l 145 (b145 rec) d := by
  intro as M r M' h0
  unfold b145 at h0
  obtain ⟨a0, l1, e1, h1⟩ := aR_inv h0
  obtain ⟨a1, l2, e2, h2⟩ := aI_inv h1
  obtain ⟨a2, l3, e3, h3⟩ := aI_inv h2
  obtain ⟨ez, h⟩ := aZ_inv h3
  subst ez
  subst e3
  subst e2
  subst e1
  exact xmet (M := M) (as := [va_rf a0, .int a1, .int a2]) (lo := [some (va_rf a0), some (.int a1), some (.int a2)]) 145 xq145 xm145 (by rw [xargs_rf, xargs_i, xargs_i, xargs_nil]; exact ⟨rfl, ⟨rfl, ⟨rfl, trivial⟩⟩⟩) (by rw [xargs_rf, xargs_i, xargs_i, xargs_nil]; exact Nat.le_of_ble_eq_true rfl) (fun S G K => x_weak (by exact ⟨rfl, ⟨rfl, ⟨rfl, trivial⟩⟩⟩) (k145 hs a0 a1 a2 M)) h hS
set_option maxRecDepth 100000 in
def c146 (rec : Nat → List Value → Mem → XA) (a0 : Option Nat) (a1 : Int32) (a2 : Int32) (a3 : Int32) (a4 : Int32) (a5 : Int32) (M0 : Mem) : XA :=
  vC (12, 19) M0 a0 <|
  cP (rec 170 [va_rf a0, .int a1] M0) fun x2 M1 =>
  jn (fun (s3 : Unit) =>
    some (.int ((-1 : Int32)), M1)) fun j26 =>
  if x2 = none then (
    j26 ()) else (
    if a2 < ((-1 : Int32)) then (
      j26 ()) else (
      gtI (10, 9) M1 x2 1 fun x4 =>
      if a2 < x4 then (
        gtI (10, 9) M1 x2 2 fun x5 =>
        jn (fun (s6 : Int32 × Mem) =>
          some (.int s6.1, s6.2)) fun j54 =>
        if x5 < ((8 : Int32)) then (
          vC (10, 9) M1 x2 <|
          cI (rec 123 [va_rf x2, .int a2, .int a3, .int a4, .int a5] M1) fun x8 M7 =>
          j54 (x8, M7)) else (
          j54 ((-3 : Int32), M1))) else (
        j26 ())))
def b146 (rec : Nat → List Value → Mem → XA) (as : List Value) (M0 : Mem) : XA := aR as fun a0 as => aI as fun a1 as => aI as fun a2 as => aI as fun a3 as => aI as fun a4 as => aI as fun a5 as => aZ as (c146 rec a0 a1 a2 a3 a4 a5 M0)
set_option maxRecDepth 100000 in
set_option maxHeartbeats 4000000 in
theorem k146 {S : XS} {G : XG} {K : Nat × Nat} {l : Launch} {d : Nat} {rec : Nat → List Value → Mem → XA} (hs : XSnd l xmt rec d) (a0 : Option Nat) (a1 : Int32) (a2 : Int32) (a3 : Int32) (a4 : Int32) (a5 : Int32) (M0 : Mem) : Xe S G K l (yX11_rule, cX11_rule, 7, some .int) d 0 [some (va_rf a0), some (.int a1), some (.int a2), some (.int a3), some (.int a4), some (.int a5), none] [] M0 (c146 rec a0 a1 a2 a3 a4 a5 M0) := by
  unfold c146
  refine x_aload_n dX11_rule_0 rfl ?_
  refine x_iload_n dX11_rule_1 rfl ?_
  refine cmX11_255 rfl hs (Nat.le_of_ble_eq_true rfl) dX11_rule_2 (fun x2 M1 => ?_)
  refine x_astore (lo' := [some (va_rf a0), some (.int a1), some (.int a2), some (.int a3), some (.int a4), some (.int a5), some (va_rf x2)]) dX11_rule_5 (by decide) rfl rfl ?_
  refine x_aload dX11_rule_7 rfl ?_
  refine x_jn (σ := Unit) 26 (fun s3 => [none, none, none, none, none, none, none]) (fun s3 => []) (fun s3 => M1) (fun s3 => ?_) (fun j26 hj26 => ?_)
  · refine x_iconst (v := -1) dX11_rule_26 (by decide) ?_
    exact x_iret rfl dX11_rule_27
  refine x_ifnull (tgt := 26) dX11_rule_9 (by decide) (fun _ => ?_) (fun _ => ?_)
  · exact x_weak (by exact trivial) (hj26 ())
  · refine x_iload_n dX11_rule_12 rfl ?_
    refine x_iconst (v := -1) dX11_rule_13 (by decide) ?_
    refine x_icmp_lt (tgt := 26) dX11_rule_14 (by decide) (fun _ => ?_) (fun _ => ?_)
    · exact x_weak (by exact trivial) (hj26 ())
    · refine x_iload_n dX11_rule_17 rfl ?_
      refine x_aload dX11_rule_18 rfl ?_
      refine gfX11_259 rfl dX11_rule_20 (fun x4 => ?_)
      refine x_icmp_lt (tgt := 28) dX11_rule_23 (by decide) (fun _ => ?_) (fun _ => ?_)
      · refine x_aload dX11_rule_28 rfl ?_
        refine gfX11_262 rfl dX11_rule_30 (fun x5 => ?_)
        refine x_bipush (v := 8) dX11_rule_33 (by decide) ?_
        refine x_jn (σ := Int32 × Mem) 54 (fun s6 => [none, none, none, none, none, none, none]) (fun s6 => [.int s6.1]) (fun s6 => s6.2) (fun s6 => ?_) (fun j54 hj54 => ?_)
        · exact x_iret rfl dX11_rule_54
        refine x_icmp_lt (tgt := 43) dX11_rule_35 (by decide) (fun _ => ?_) (fun _ => ?_)
        · refine x_aload dX11_rule_43 rfl ?_
          refine x_iload_n dX11_rule_45 rfl ?_
          refine x_iload_n dX11_rule_46 rfl ?_
          refine x_iload dX11_rule_47 rfl ?_
          refine x_iload dX11_rule_49 rfl ?_
          refine cmX11_265 rfl hs (Nat.le_of_ble_eq_true rfl) dX11_rule_51 (fun x8 M7 => ?_)
          exact x_weak (by exact trivial) (hj54 (x8, M7))
        · refine x_bipush (v := -3) dX11_rule_38 (by decide) ?_
          refine x_goto (tgt := 54) dX11_rule_40 (by decide) ?_
          exact x_weak (by exact trivial) (hj54 ((-3 : Int32), M1))
      · exact x_weak (by exact trivial) (hj26 ())
theorem s146 {l : Launch} {d : Nat} {rec : Nat → List Value → Mem → XA} (hS : Nonempty XS) (hs : XSnd l xmt rec d) : Snd1 l 146 (b146 rec) d := by
  intro as M r M' h0
  unfold b146 at h0
  obtain ⟨a0, l1, e1, h1⟩ := aR_inv h0
  obtain ⟨a1, l2, e2, h2⟩ := aI_inv h1
  obtain ⟨a2, l3, e3, h3⟩ := aI_inv h2
  obtain ⟨a3, l4, e4, h4⟩ := aI_inv h3
  obtain ⟨a4, l5, e5, h5⟩ := aI_inv h4
  obtain ⟨a5, l6, e6, h6⟩ := aI_inv h5
  obtain ⟨ez, h⟩ := aZ_inv h6
  subst ez
  subst e6
  subst e5
  subst e4
  subst e3
  subst e2
  subst e1
  exact xmet (M := M) (as := [va_rf a0, .int a1, .int a2, .int a3, .int a4, .int a5]) (lo := [some (va_rf a0), some (.int a1), some (.int a2), some (.int a3), some (.int a4), some (.int a5)]) 146 xq146 xm146 (by rw [xargs_rf, xargs_i, xargs_i, xargs_i, xargs_i, xargs_i, xargs_nil]; exact ⟨rfl, ⟨rfl, ⟨rfl, ⟨rfl, ⟨rfl, ⟨rfl, trivial⟩⟩⟩⟩⟩⟩) (by rw [xargs_rf, xargs_i, xargs_i, xargs_i, xargs_i, xargs_i, xargs_nil]; exact Nat.le_of_ble_eq_true rfl) (fun S G K => x_weak (by exact ⟨rfl, ⟨rfl, ⟨rfl, ⟨rfl, ⟨rfl, ⟨rfl, trivial⟩⟩⟩⟩⟩⟩) (k146 hs a0 a1 a2 a3 a4 a5 M)) h hS
set_option maxRecDepth 100000 in
def c147 (rec : Nat → List Value → Mem → XA) (a0 : Option Nat) (a1 : Int32) (M0 : Mem) : XA :=
  vC (12, 19) M0 a0 <|
  cP (rec 170 [va_rf a0, .int a1] M0) fun x2 M1 =>
  if x2 = none then (
    some (.int ((-1 : Int32)), M1)) else (
    ptI (10, 9) M1 x2 0 ((-2 : Int32)) fun M3 =>
    gtI (10, 9) M3 x2 2 fun x4 =>
    some (.int x4, M3))
def b147 (rec : Nat → List Value → Mem → XA) (as : List Value) (M0 : Mem) : XA := aR as fun a0 as => aI as fun a1 as => aZ as (c147 rec a0 a1 M0)
set_option maxRecDepth 100000 in
set_option maxHeartbeats 4000000 in
theorem k147 {S : XS} {G : XG} {K : Nat × Nat} {l : Launch} {d : Nat} {rec : Nat → List Value → Mem → XA} (hs : XSnd l xmt rec d) (a0 : Option Nat) (a1 : Int32) (M0 : Mem) : Xe S G K l (yX11_drop, cX11_drop, 3, some .int) d 0 [some (va_rf a0), some (.int a1), none] [] M0 (c147 rec a0 a1 M0) := by
  unfold c147
  refine x_aload_n dX11_drop_0 rfl ?_
  refine x_iload_n dX11_drop_1 rfl ?_
  refine cmX11_255 rfl hs (Nat.le_of_ble_eq_true rfl) dX11_drop_2 (fun x2 M1 => ?_)
  refine x_astore_n (lo' := [some (va_rf a0), some (.int a1), some (va_rf x2)]) dX11_drop_5 (by decide) rfl rfl ?_
  refine x_aload_n dX11_drop_6 rfl ?_
  refine x_ifnonnull (tgt := 12) dX11_drop_7 (by decide) (fun _ => ?_) (fun _ => ?_)
  · refine x_iconst (v := -1) dX11_drop_10 (by decide) ?_
    exact x_iret rfl dX11_drop_11
  · refine x_aload_n dX11_drop_12 rfl ?_
    refine x_bipush (v := -2) dX11_drop_13 (by decide) ?_
    refine pfX11_245 rfl dX11_drop_15 (fun M3 => ?_)
    refine x_aload_n dX11_drop_18 rfl ?_
    refine gfX11_262 rfl dX11_drop_19 (fun x4 => ?_)
    exact x_iret rfl dX11_drop_22
theorem s147 {l : Launch} {d : Nat} {rec : Nat → List Value → Mem → XA} (hS : Nonempty XS) (hs : XSnd l xmt rec d) : Snd1 l 147 (b147 rec) d := by
  intro as M r M' h0
  unfold b147 at h0
  obtain ⟨a0, l1, e1, h1⟩ := aR_inv h0
  obtain ⟨a1, l2, e2, h2⟩ := aI_inv h1
  obtain ⟨ez, h⟩ := aZ_inv h2
  subst ez
  subst e2
  subst e1
  exact xmet (M := M) (as := [va_rf a0, .int a1]) (lo := [some (va_rf a0), some (.int a1)]) 147 xq147 xm147 (by rw [xargs_rf, xargs_i, xargs_nil]; exact ⟨rfl, ⟨rfl, trivial⟩⟩) (by rw [xargs_rf, xargs_i, xargs_nil]; exact Nat.le_of_ble_eq_true rfl) (fun S G K => x_weak (by exact ⟨rfl, ⟨rfl, trivial⟩⟩) (k147 hs a0 a1 M)) h hS
set_option maxRecDepth 100000 in
def c148 (rec : Nat → List Value → Mem → XA) (a0 : Option Nat) (a1 : Int32) (a2 : Int32) (a3 : Int32) (M0 : Mem) : XA :=
  vC (12, 19) M0 a0 <|
  cP (rec 170 [va_rf a0, .int a1] M0) fun x2 M1 =>
  if x2 = none then (
    some (.int ((-1 : Int32)), M1)) else (
    if a2 = ((-1 : Int32)) then (
      gtI (10, 9) M1 x2 4 fun x3 =>
      some (.int x3, M1)) else (
      jn (fun (s4 : Unit) =>
        some (.int ((-1 : Int32)), M1)) fun j58 =>
      if a2 < 0 then (
        j58 ()) else (
        if ((50 : Int32)) ≤ a2 then (
          j58 ()) else (
          gtI (10, 9) M1 x2 4 fun x5 =>
          if x5 ≤ a2 then (
            j58 ()) else (
            if a3 < ((-1 : Int32)) then (
              j58 ()) else (
              gtI (10, 9) M1 x2 1 fun x6 =>
              if a3 < x6 then (
                jn (fun (s7 : Int32) =>
                  some (.int s7, M1)) fun j86 =>
                if a3 = ((-1 : Int32)) then (
                  gtP (10, 9) M1 x2 6 fun x8 =>
                  alI 100 M1 x8 a2 fun x9 =>
                  j86 x9) else (
                  gtP (10, 9) M1 x2 5 fun x10 =>
                  alI 100 M1 x10 ((a2 * ((4 : Int32))) + a3) fun x11 =>
                  j86 x11)) else (
                j58 ())))))))
def b148 (rec : Nat → List Value → Mem → XA) (as : List Value) (M0 : Mem) : XA := aR as fun a0 as => aI as fun a1 as => aI as fun a2 as => aI as fun a3 as => aZ as (c148 rec a0 a1 a2 a3 M0)
set_option maxRecDepth 100000 in
set_option maxHeartbeats 4000000 in
theorem k148 {S : XS} {G : XG} {K : Nat × Nat} {l : Launch} {d : Nat} {rec : Nat → List Value → Mem → XA} (hs : XSnd l xmt rec d) (a0 : Option Nat) (a1 : Int32) (a2 : Int32) (a3 : Int32) (M0 : Mem) : Xe S G K l (yX11_calls, cX11_calls, 5, some .int) d 0 [some (va_rf a0), some (.int a1), some (.int a2), some (.int a3), none] [] M0 (c148 rec a0 a1 a2 a3 M0) := by
  unfold c148
  refine x_aload_n dX11_calls_0 rfl ?_
  refine x_iload_n dX11_calls_1 rfl ?_
  refine cmX11_255 rfl hs (Nat.le_of_ble_eq_true rfl) dX11_calls_2 (fun x2 M1 => ?_)
  refine x_astore (lo' := [some (va_rf a0), some (.int a1), some (.int a2), some (.int a3), some (va_rf x2)]) dX11_calls_5 (by decide) rfl rfl ?_
  refine x_aload dX11_calls_7 rfl ?_
  refine x_ifnonnull (tgt := 14) dX11_calls_9 (by decide) (fun _ => ?_) (fun _ => ?_)
  · refine x_iconst (v := -1) dX11_calls_12 (by decide) ?_
    exact x_iret rfl dX11_calls_13
  · refine x_iload_n dX11_calls_14 rfl ?_
    refine x_iconst (v := -1) dX11_calls_15 (by decide) ?_
    refine x_icmp_ne (tgt := 25) dX11_calls_16 (by decide) (fun _ => ?_) (fun _ => ?_)
    · refine x_aload dX11_calls_19 rfl ?_
      refine gfX11_269 rfl dX11_calls_21 (fun x3 => ?_)
      exact x_iret rfl dX11_calls_24
    · refine x_iload_n dX11_calls_25 rfl ?_
      refine x_jn (σ := Unit) 58 (fun s4 => [none, none, none, none, none]) (fun s4 => []) (fun s4 => M1) (fun s4 => ?_) (fun j58 hj58 => ?_)
      · refine x_iconst (v := -1) dX11_calls_58 (by decide) ?_
        exact x_iret rfl dX11_calls_59
      refine x_if_lt (tgt := 58) dX11_calls_26 (by decide) (fun _ => ?_) (fun _ => ?_)
      · exact x_weak (by exact trivial) (hj58 ())
      · refine x_iload_n dX11_calls_29 rfl ?_
        refine x_bipush (v := 50) dX11_calls_30 (by decide) ?_
        refine x_icmp_ge (tgt := 58) dX11_calls_32 (by decide) (fun _ => ?_) (fun _ => ?_)
        · exact x_weak (by exact trivial) (hj58 ())
        · refine x_iload_n dX11_calls_35 rfl ?_
          refine x_aload dX11_calls_36 rfl ?_
          refine gfX11_269 rfl dX11_calls_38 (fun x5 => ?_)
          refine x_icmp_ge (tgt := 58) dX11_calls_41 (by decide) (fun _ => ?_) (fun _ => ?_)
          · exact x_weak (by exact trivial) (hj58 ())
          · refine x_iload_n dX11_calls_44 rfl ?_
            refine x_iconst (v := -1) dX11_calls_45 (by decide) ?_
            refine x_icmp_lt (tgt := 58) dX11_calls_46 (by decide) (fun _ => ?_) (fun _ => ?_)
            · exact x_weak (by exact trivial) (hj58 ())
            · refine x_iload_n dX11_calls_49 rfl ?_
              refine x_aload dX11_calls_50 rfl ?_
              refine gfX11_259 rfl dX11_calls_52 (fun x6 => ?_)
              refine x_icmp_lt (tgt := 60) dX11_calls_55 (by decide) (fun _ => ?_) (fun _ => ?_)
              · refine x_iload_n dX11_calls_60 rfl ?_
                refine x_iconst (v := -1) dX11_calls_61 (by decide) ?_
                refine x_jn (σ := Int32) 86 (fun s7 => [none, none, none, none, none]) (fun s7 => [.int s7]) (fun s7 => M1) (fun s7 => ?_) (fun j86 hj86 => ?_)
                · exact x_iret rfl dX11_calls_86
                refine x_icmp_ne (tgt := 75) dX11_calls_62 (by decide) (fun _ => ?_) (fun _ => ?_)
                · refine x_aload dX11_calls_65 rfl ?_
                  refine gfX11_272 rfl dX11_calls_67 (fun x8 => ?_)
                  refine x_iload_n dX11_calls_70 rfl ?_
                  refine x_iald dX11_calls_71 (fun x9 => ?_)
                  refine x_goto (tgt := 86) dX11_calls_72 (by decide) ?_
                  exact x_weak (by exact trivial) (hj86 x9)
                · refine x_aload dX11_calls_75 rfl ?_
                  refine gfX11_275 rfl dX11_calls_77 (fun x10 => ?_)
                  refine x_iload_n dX11_calls_80 rfl ?_
                  refine x_iconst (v := 4) dX11_calls_81 (by decide) ?_
                  refine x_imul dX11_calls_82 ?_
                  refine x_iload_n dX11_calls_83 rfl ?_
                  refine x_iadd dX11_calls_84 ?_
                  refine x_iald dX11_calls_85 (fun x11 => ?_)
                  exact x_weak (by exact trivial) (hj86 x11)
              · exact x_weak (by exact trivial) (hj58 ())
theorem s148 {l : Launch} {d : Nat} {rec : Nat → List Value → Mem → XA} (hS : Nonempty XS) (hs : XSnd l xmt rec d) : Snd1 l 148 (b148 rec) d := by
  intro as M r M' h0
  unfold b148 at h0
  obtain ⟨a0, l1, e1, h1⟩ := aR_inv h0
  obtain ⟨a1, l2, e2, h2⟩ := aI_inv h1
  obtain ⟨a2, l3, e3, h3⟩ := aI_inv h2
  obtain ⟨a3, l4, e4, h4⟩ := aI_inv h3
  obtain ⟨ez, h⟩ := aZ_inv h4
  subst ez
  subst e4
  subst e3
  subst e2
  subst e1
  exact xmet (M := M) (as := [va_rf a0, .int a1, .int a2, .int a3]) (lo := [some (va_rf a0), some (.int a1), some (.int a2), some (.int a3)]) 148 xq148 xm148 (by rw [xargs_rf, xargs_i, xargs_i, xargs_i, xargs_nil]; exact ⟨rfl, ⟨rfl, ⟨rfl, ⟨rfl, trivial⟩⟩⟩⟩) (by rw [xargs_rf, xargs_i, xargs_i, xargs_i, xargs_nil]; exact Nat.le_of_ble_eq_true rfl) (fun S G K => x_weak (by exact ⟨rfl, ⟨rfl, ⟨rfl, ⟨rfl, trivial⟩⟩⟩⟩) (k148 hs a0 a1 a2 a3 M)) h hS
set_option maxRecDepth 100000 in
def c149 (rec : Nat → List Value → Mem → XA) (a0 : Option Nat) (a1 : Int32) (a2 : Int32) (a3 : Int32) (M0 : Mem) : XA :=
  vC (12, 19) M0 a0 <|
  cP (rec 167 [va_rf a0, .int a1] M0) fun x2 M1 =>
  jn (fun (s3 : Unit) =>
    some (.int ((-1 : Int32)), M1)) fun j35 =>
  if x2 = none then (
    j35 ()) else (
    if a2 < 0 then (
      j35 ()) else (
      gtP (6, 18) M1 x2 9 fun x4 =>
      aln M1 x4 fun x5 =>
      if x5 ≤ a2 then (
        j35 ()) else (
        if a3 < 0 then (
          j35 ()) else (
          if a3 ≤ ((2 : Int32)) then (
            if a3 = ((2 : Int32)) then (
              gtI (6, 18) M1 x2 16 fun x6 =>
              jn (fun (s7 : Int32 × Mem) =>
                some (.int s7.1, s7.2)) fun j65 =>
              if x6 = 0 then (
                j65 ((-2 : Int32), M1)) else (
                gtP (6, 18) M1 x2 14 fun x8 =>
                alI 100 M1 x8 a2 fun x9 =>
                cI (rec 315 [.int x9] M1) fun x11 M10 =>
                j65 (x11, M10))) else (
              gtP (6, 18) M1 x2 9 fun x12 =>
              alI 100 M1 x12 a2 fun x13 =>
              jn (fun (s14 : Int32) =>
                some (.int s14, M1)) fun j96 =>
              if a3 = 0 then (
                j96 x13) else (
                gtP (6, 18) M1 x2 6 fun x15 =>
                alI 100 M1 x15 x13 fun x16 =>
                alI 100 M1 ((some 1)) x16 fun x17 =>
                j96 x17))) else (
            j35 ())))))
def b149 (rec : Nat → List Value → Mem → XA) (as : List Value) (M0 : Mem) : XA := aR as fun a0 as => aI as fun a1 as => aI as fun a2 as => aI as fun a3 as => aZ as (c149 rec a0 a1 a2 a3 M0)
set_option maxRecDepth 100000 in
set_option maxHeartbeats 4000000 in
theorem k149 {S : XS} {G : XG} {K : Nat × Nat} {l : Launch} {d : Nat} {rec : Nat → List Value → Mem → XA} (hs : XSnd l xmt rec d) (a0 : Option Nat) (a1 : Int32) (a2 : Int32) (a3 : Int32) (M0 : Mem) : Xe S G K l (yX11_mutant, cX11_mutant, 6, some .int) d 0 [some (va_rf a0), some (.int a1), some (.int a2), some (.int a3), none, none] [] M0 (c149 rec a0 a1 a2 a3 M0) := by
  unfold c149
  refine x_aload_n dX11_mutant_0 rfl ?_
  refine x_iload_n dX11_mutant_1 rfl ?_
  refine cmX11_109 rfl hs (Nat.le_of_ble_eq_true rfl) dX11_mutant_2 (fun x2 M1 => ?_)
  refine x_astore (lo' := [some (va_rf a0), some (.int a1), some (.int a2), some (.int a3), some (va_rf x2), none]) dX11_mutant_5 (by decide) rfl rfl ?_
  refine x_aload dX11_mutant_7 rfl ?_
  refine x_jn (σ := Unit) 35 (fun s3 => [none, none, none, none, none, none]) (fun s3 => []) (fun s3 => M1) (fun s3 => ?_) (fun j35 hj35 => ?_)
  · refine x_iconst (v := -1) dX11_mutant_35 (by decide) ?_
    exact x_iret rfl dX11_mutant_36
  refine x_ifnull (tgt := 35) dX11_mutant_9 (by decide) (fun _ => ?_) (fun _ => ?_)
  · exact x_weak (by exact trivial) (hj35 ())
  · refine x_iload_n dX11_mutant_12 rfl ?_
    refine x_if_lt (tgt := 35) dX11_mutant_13 (by decide) (fun _ => ?_) (fun _ => ?_)
    · exact x_weak (by exact trivial) (hj35 ())
    · refine x_iload_n dX11_mutant_16 rfl ?_
      refine x_aload dX11_mutant_17 rfl ?_
      refine gfX11_127 rfl dX11_mutant_19 (fun x4 => ?_)
      refine x_alen dX11_mutant_22 (fun x5 => ?_)
      refine x_icmp_ge (tgt := 35) dX11_mutant_23 (by decide) (fun _ => ?_) (fun _ => ?_)
      · exact x_weak (by exact trivial) (hj35 ())
      · refine x_iload_n dX11_mutant_26 rfl ?_
        refine x_if_lt (tgt := 35) dX11_mutant_27 (by decide) (fun _ => ?_) (fun _ => ?_)
        · exact x_weak (by exact trivial) (hj35 ())
        · refine x_iload_n dX11_mutant_30 rfl ?_
          refine x_iconst (v := 2) dX11_mutant_31 (by decide) ?_
          refine x_icmp_le (tgt := 37) dX11_mutant_32 (by decide) (fun _ => ?_) (fun _ => ?_)
          · refine x_iload_n dX11_mutant_37 rfl ?_
            refine x_iconst (v := 2) dX11_mutant_38 (by decide) ?_
            refine x_icmp_ne (tgt := 66) dX11_mutant_39 (by decide) (fun _ => ?_) (fun _ => ?_)
            · refine x_aload dX11_mutant_42 rfl ?_
              refine gfX11_278 rfl dX11_mutant_44 (fun x6 => ?_)
              refine x_jn (σ := Int32 × Mem) 65 (fun s7 => [none, none, none, none, none, none]) (fun s7 => [.int s7.1]) (fun s7 => s7.2) (fun s7 => ?_) (fun j65 hj65 => ?_)
              · exact x_iret rfl dX11_mutant_65
              refine x_if_eq (tgt := 63) dX11_mutant_47 (by decide) (fun _ => ?_) (fun _ => ?_)
              · refine x_bipush (v := -2) dX11_mutant_63 (by decide) ?_
                exact x_weak (by exact trivial) (hj65 ((-2 : Int32), M1))
              · refine x_aload dX11_mutant_50 rfl ?_
                refine gfX11_281 rfl dX11_mutant_52 (fun x8 => ?_)
                refine x_iload_n dX11_mutant_55 rfl ?_
                refine x_iald dX11_mutant_56 (fun x9 => ?_)
                refine cmX11_284 rfl hs (Nat.le_of_ble_eq_true rfl) dX11_mutant_57 (fun x11 M10 => ?_)
                refine x_goto (tgt := 65) dX11_mutant_60 (by decide) ?_
                exact x_weak (by exact trivial) (hj65 (x11, M10))
            · refine x_aload dX11_mutant_66 rfl ?_
              refine gfX11_127 rfl dX11_mutant_68 (fun x12 => ?_)
              refine x_iload_n dX11_mutant_71 rfl ?_
              refine x_iald dX11_mutant_72 (fun x13 => ?_)
              refine x_istore (lo' := [some (va_rf a0), some (.int a1), some (.int a2), some (.int a3), some (va_rf x2), some (.int x13)]) dX11_mutant_73 (by decide) (xok_r rfl) rfl ?_
              refine x_iload_n dX11_mutant_75 rfl ?_
              refine x_jn (σ := Int32) 96 (fun s14 => [none, none, none, none, none, none]) (fun s14 => [.int s14]) (fun s14 => M1) (fun s14 => ?_) (fun j96 hj96 => ?_)
              · exact x_iret rfl dX11_mutant_96
              refine x_if_ne (tgt := 84) dX11_mutant_76 (by decide) (fun _ => ?_) (fun _ => ?_)
              · refine x_iload dX11_mutant_79 rfl ?_
                refine x_goto (tgt := 96) dX11_mutant_81 (by decide) ?_
                exact x_weak (by exact trivial) (hj96 x13)
              · refine x_gets (v := va_rf (some 1)) z_ins lsX11_290 dX11_mutant_84 ?_
                refine x_aload dX11_mutant_87 rfl ?_
                refine gfX11_177 rfl dX11_mutant_89 (fun x15 => ?_)
                refine x_iload dX11_mutant_92 rfl ?_
                refine x_iald dX11_mutant_94 (fun x16 => ?_)
                refine x_iald dX11_mutant_95 (fun x17 => ?_)
                exact x_weak (by exact trivial) (hj96 x17)
          · exact x_weak (by exact trivial) (hj35 ())
theorem s149 {l : Launch} {d : Nat} {rec : Nat → List Value → Mem → XA} (hS : Nonempty XS) (hs : XSnd l xmt rec d) : Snd1 l 149 (b149 rec) d := by
  intro as M r M' h0
  unfold b149 at h0
  obtain ⟨a0, l1, e1, h1⟩ := aR_inv h0
  obtain ⟨a1, l2, e2, h2⟩ := aI_inv h1
  obtain ⟨a2, l3, e3, h3⟩ := aI_inv h2
  obtain ⟨a3, l4, e4, h4⟩ := aI_inv h3
  obtain ⟨ez, h⟩ := aZ_inv h4
  subst ez
  subst e4
  subst e3
  subst e2
  subst e1
  exact xmet (M := M) (as := [va_rf a0, .int a1, .int a2, .int a3]) (lo := [some (va_rf a0), some (.int a1), some (.int a2), some (.int a3)]) 149 xq149 xm149 (by rw [xargs_rf, xargs_i, xargs_i, xargs_i, xargs_nil]; exact ⟨rfl, ⟨rfl, ⟨rfl, ⟨rfl, trivial⟩⟩⟩⟩) (by rw [xargs_rf, xargs_i, xargs_i, xargs_i, xargs_nil]; exact Nat.le_of_ble_eq_true rfl) (fun S G K => x_weak (by exact ⟨rfl, ⟨rfl, ⟨rfl, ⟨rfl, trivial⟩⟩⟩⟩) (k149 hs a0 a1 a2 a3 M)) h hS
set_option maxRecDepth 100000 in
def c150 (rec : Nat → List Value → Mem → XA) (a0 : Option Nat) (a1 : Int32) (M0 : Mem) : XA :=
  vC (12, 19) M0 a0 <|
  cP (rec 167 [va_rf a0, .int a1] M0) fun x2 M1 =>
  if x2 = none then (
    some (.int ((-1 : Int32)), M1)) else (
    gtP (12, 19) M1 a0 2 fun x3 =>
    vC (4, 22) M1 x3 <|
    cV (rec 19 [va_rf x3, va_rf x2, .int ((40000 : Int32))] M1) fun M4 =>
    gtP (6, 18) M4 x2 10 fun x5 =>
    gtP (6, 18) M4 x2 10 fun x6 =>
    aln M4 x6 fun x7 =>
    gtP (12, 19) M4 a0 17 fun x8 =>
    vC (12, 19) M4 a0 <|
    cV (rec 174 [va_rf a0, va_rf x2, va_rf x5, .int x7, .int ((-2 : Int32)), va_rf x8] M4) fun M9 =>
    lp (fun (s10 : Int32 × Mem) j45 =>
      gtP (6, 18) s10.2 x2 9 fun x11 =>
      aln s10.2 x11 fun x12 =>
      jn (fun (s13 : Mem) =>
        gtP (12, 19) s13 a0 2 fun x14 =>
        vC (4, 22) s13 x14 <|
        cI (rec 22 [va_rf x14] s13) fun x16 M15 =>
        if x16 = 0 then (
          vC (6, 18) M15 x2 <|
          cI (rec 56 [va_rf x2] M15) fun x18 M17 =>
          some (.int x18, M17)) else (
          some (.int ((-4 : Int32)), M15))) fun j118 =>
      if x12 ≤ s10.1 then (
        j118 s10.2) else (
        gtP (12, 19) s10.2 a0 2 fun x19 =>
        vC (4, 22) s10.2 x19 <|
        cI (rec 22 [va_rf x19] s10.2) fun x21 M20 =>
        if x21 = 0 then (
          gtP (12, 19) M20 a0 2 fun x22 =>
          gtP (6, 18) M20 x2 9 fun x23 =>
          alI 100 M20 x23 s10.1 fun x24 =>
          ptI (4, 22) M20 x22 3 x24 fun M25 =>
          gtP (6, 18) M25 x2 10 fun x26 =>
          gtP (6, 18) M25 x2 10 fun x27 =>
          aln M25 x27 fun x28 =>
          gtP (12, 19) M25 a0 18 fun x29 =>
          vC (12, 19) M25 a0 <|
          cV (rec 174 [va_rf a0, va_rf x2, va_rf x26, .int x28, .int ((-2 : Int32)), va_rf x29] M25) fun M30 =>
          gtP (6, 18) M30 x2 15 fun x31 =>
          gtP (6, 18) M30 x2 10 fun x32 =>
          aln M30 x32 fun x33 =>
          vC (12, 19) M30 a0 <|
          cI (rec 176 [va_rf a0, .int x33] M30) fun x35 M34 =>
          asI 100 M34 x31 s10.1 x35 fun M36 =>
          lt (s10.1 + (1 : Int32)) fun (x37 : Int32) =>
          j45 (x37, M36)) else (
          j118 M20))) 4294967296 ((0 : Int32), M9))
def b150 (rec : Nat → List Value → Mem → XA) (as : List Value) (M0 : Mem) : XA := aR as fun a0 as => aI as fun a1 as => aZ as (c150 rec a0 a1 M0)
set_option maxRecDepth 100000 in
set_option maxHeartbeats 4000000 in
theorem k150 {S : XS} {G : XG} {K : Nat × Nat} {l : Launch} {d : Nat} {rec : Nat → List Value → Mem → XA} (hs : XSnd l xmt rec d) (a0 : Option Nat) (a1 : Int32) (M0 : Mem) : Xe S G K l (yX11_kill, cX11_kill, 4, some .int) d 0 [some (va_rf a0), some (.int a1), none, none] [] M0 (c150 rec a0 a1 M0) := by
  unfold c150
  refine x_aload_n dX11_kill_0 rfl ?_
  refine x_iload_n dX11_kill_1 rfl ?_
  refine cmX11_109 rfl hs (Nat.le_of_ble_eq_true rfl) dX11_kill_2 (fun x2 M1 => ?_)
  refine x_astore_n (lo' := [some (va_rf a0), some (.int a1), some (va_rf x2), none]) dX11_kill_5 (by decide) rfl rfl ?_
  refine x_aload_n dX11_kill_6 rfl ?_
  refine x_ifnonnull (tgt := 12) dX11_kill_7 (by decide) (fun _ => ?_) (fun _ => ?_)
  · refine x_iconst (v := -1) dX11_kill_10 (by decide) ?_
    exact x_iret rfl dX11_kill_11
  · refine x_aload_n dX11_kill_12 rfl ?_
    refine gfX11_26 rfl dX11_kill_13 (fun x3 => ?_)
    refine x_aload_n dX11_kill_16 rfl ?_
    refine x_ldcw (v := 40000) dX11_kill_17 lk_constant_X11_293 ?_
    refine cmX11_193 rfl hs (Nat.le_of_ble_eq_true rfl) dX11_kill_20 (fun M4 => ?_)
    refine x_aload_n dX11_kill_23 rfl ?_
    refine x_aload_n dX11_kill_24 rfl ?_
    refine x_aload_n dX11_kill_25 rfl ?_
    refine gfX11_189 rfl dX11_kill_26 (fun x5 => ?_)
    refine x_aload_n dX11_kill_29 rfl ?_
    refine gfX11_189 rfl dX11_kill_30 (fun x6 => ?_)
    refine x_alen dX11_kill_33 (fun x7 => ?_)
    refine x_bipush (v := -2) dX11_kill_34 (by decide) ?_
    refine x_aload_n dX11_kill_36 rfl ?_
    refine gfX11_69 rfl dX11_kill_37 (fun x8 => ?_)
    refine cmX11_206 rfl hs (Nat.le_of_ble_eq_true rfl) dX11_kill_40 (fun M9 => ?_)
    refine x_iconst (v := 0) dX11_kill_43 (by decide) ?_
    refine x_istore_n (lo' := [some (va_rf a0), some (.int a1), some (va_rf x2), some (.int ((0 : Int32)))]) dX11_kill_44 (by decide) (xok_r rfl) rfl ?_
    refine x_weak (by exact ⟨rfl, ⟨rfl, ⟨rfl, trivial⟩⟩⟩) (x_lp (σ := Int32 × Mem) 45 (fun s10 => [some (va_rf a0), none, some (va_rf x2), some (.int s10.1)]) (fun s10 => []) (fun s10 => s10.2) (fun s10 j45 hj45 => ?_) 4294967296 ((0 : Int32), M9))
    · refine x_iload_n dX11_kill_45 rfl ?_
      refine x_aload_n dX11_kill_46 rfl ?_
      refine gfX11_127 rfl dX11_kill_47 (fun x11 => ?_)
      refine x_alen dX11_kill_50 (fun x12 => ?_)
      refine x_jn (σ := Mem) 118 (fun s13 => [some (va_rf a0), none, some (va_rf x2), none]) (fun s13 => []) (fun s13 => s13) (fun s13 => ?_) (fun j118 hj118 => ?_)
      · refine x_aload_n dX11_kill_118 rfl ?_
        refine gfX11_26 rfl dX11_kill_119 (fun x14 => ?_)
        refine cmX11_294 rfl hs (Nat.le_of_ble_eq_true rfl) dX11_kill_122 (fun x16 M15 => ?_)
        refine x_if_eq (tgt := 131) dX11_kill_125 (by decide) (fun _ => ?_) (fun _ => ?_)
        · refine x_aload_n dX11_kill_131 rfl ?_
          refine cmX11_307 rfl hs (Nat.le_of_ble_eq_true rfl) dX11_kill_132 (fun x18 M17 => ?_)
          exact x_iret rfl dX11_kill_135
        · refine x_bipush (v := -4) dX11_kill_128 (by decide) ?_
          exact x_iret rfl dX11_kill_130
      refine x_icmp_ge (tgt := 118) dX11_kill_51 (by decide) (fun _ => ?_) (fun _ => ?_)
      · exact x_weak (by exact ⟨rfl, ⟨rfl, trivial⟩⟩) (hj118 s10.2)
      · refine x_aload_n dX11_kill_54 rfl ?_
        refine gfX11_26 rfl dX11_kill_55 (fun x19 => ?_)
        refine cmX11_294 rfl hs (Nat.le_of_ble_eq_true rfl) dX11_kill_58 (fun x21 M20 => ?_)
        refine x_if_ne (tgt := 118) dX11_kill_61 (by decide) (fun _ => ?_) (fun _ => ?_)
        · refine x_aload_n dX11_kill_64 rfl ?_
          refine gfX11_26 rfl dX11_kill_65 (fun x22 => ?_)
          refine x_aload_n dX11_kill_68 rfl ?_
          refine gfX11_127 rfl dX11_kill_69 (fun x23 => ?_)
          refine x_iload_n dX11_kill_72 rfl ?_
          refine x_iald dX11_kill_73 (fun x24 => ?_)
          refine pfX11_298 rfl dX11_kill_74 (fun M25 => ?_)
          refine x_aload_n dX11_kill_77 rfl ?_
          refine x_aload_n dX11_kill_78 rfl ?_
          refine x_aload_n dX11_kill_79 rfl ?_
          refine gfX11_189 rfl dX11_kill_80 (fun x26 => ?_)
          refine x_aload_n dX11_kill_83 rfl ?_
          refine gfX11_189 rfl dX11_kill_84 (fun x27 => ?_)
          refine x_alen dX11_kill_87 (fun x28 => ?_)
          refine x_bipush (v := -2) dX11_kill_88 (by decide) ?_
          refine x_aload_n dX11_kill_90 rfl ?_
          refine gfX11_72 rfl dX11_kill_91 (fun x29 => ?_)
          refine cmX11_206 rfl hs (Nat.le_of_ble_eq_true rfl) dX11_kill_94 (fun M30 => ?_)
          refine x_aload_n dX11_kill_97 rfl ?_
          refine gfX11_301 rfl dX11_kill_98 (fun x31 => ?_)
          refine x_iload_n dX11_kill_101 rfl ?_
          refine x_aload_n dX11_kill_102 rfl ?_
          refine x_aload_n dX11_kill_103 rfl ?_
          refine gfX11_189 rfl dX11_kill_104 (fun x32 => ?_)
          refine x_alen dX11_kill_107 (fun x33 => ?_)
          refine cmX11_304 rfl hs (Nat.le_of_ble_eq_true rfl) dX11_kill_108 (fun x35 M34 => ?_)
          refine x_iast dX11_kill_111 (fun M36 => ?_)
          refine x_iincN (v := 1) (lo' := fun x37 => [some (va_rf a0), none, some (va_rf x2), some (.int x37)]) (by decide) dX11_kill_112 rfl (by decide) (xok_r rfl) (fun _ => rfl) (fun x37 => ?_)
          refine x_goto (tgt := 45) dX11_kill_115 (by decide) ?_
          exact x_weak (by exact ⟨rfl, ⟨rfl, ⟨rfl, trivial⟩⟩⟩) (hj45 (x37, M36))
        · exact x_weak (by exact ⟨rfl, ⟨rfl, trivial⟩⟩) (hj118 M20)
theorem s150 {l : Launch} {d : Nat} {rec : Nat → List Value → Mem → XA} (hS : Nonempty XS) (hs : XSnd l xmt rec d) : Snd1 l 150 (b150 rec) d := by
  intro as M r M' h0
  unfold b150 at h0
  obtain ⟨a0, l1, e1, h1⟩ := aR_inv h0
  obtain ⟨a1, l2, e2, h2⟩ := aI_inv h1
  obtain ⟨ez, h⟩ := aZ_inv h2
  subst ez
  subst e2
  subst e1
  exact xmet (M := M) (as := [va_rf a0, .int a1]) (lo := [some (va_rf a0), some (.int a1)]) 150 xq150 xm150 (by rw [xargs_rf, xargs_i, xargs_nil]; exact ⟨rfl, ⟨rfl, trivial⟩⟩) (by rw [xargs_rf, xargs_i, xargs_nil]; exact Nat.le_of_ble_eq_true rfl) (fun S G K => x_weak (by exact ⟨rfl, ⟨rfl, trivial⟩⟩) (k150 hs a0 a1 M)) h hS
