set_option maxRecDepth 100000 in
def c146 (rec : Nat → List Value → Mem → XA) (a0 : Option Nat) (a1 : Int32) (a2 : Int32) (a3 : Int32) (a4 : Int32) (a5 : Int32) (M0 : Mem) : XA :=
  vC (12, 19) M0 a0 <|
  cP (rec 170 [va_rf a0, .int a1] M0) fun x2 M1 =>
  jn (fun (s3 : Unit) =>
    some (.int ((-1 : Int32)), M1)) fun j26 =>
  if x2 = none then (
    j26 ()) else (
    if a2 < ((-1 : Int32)) then (
      j26 ()) else (
      gtI (10, 9) M1 x2 1 fun x4 =>
      if a2 < x4 then (
        gtI (10, 9) M1 x2 2 fun x5 =>
        jn (fun (s6 : Int32 × Mem) =>
          some (.int s6.1, s6.2)) fun j54 =>
        if x5 < ((8 : Int32)) then (
          vC (10, 9) M1 x2 <|
          cI (rec 123 [va_rf x2, .int a2, .int a3, .int a4, .int a5] M1) fun x8 M7 =>
          j54 (x8, M7)) else (
          j54 ((-3 : Int32), M1))) else (
        j26 ())))
def b146 (rec : Nat → List Value → Mem → XA) (as : List Value) (M0 : Mem) : XA := aR as fun a0 as => aI as fun a1 as => aI as fun a2 as => aI as fun a3 as => aI as fun a4 as => aI as fun a5 as => aZ as (c146 rec a0 a1 a2 a3 a4 a5 M0)
set_option maxRecDepth 100000 in
set_option maxHeartbeats 4000000 in
theorem k146 {S : XS} {G : XG} {K : Nat × Nat} {l : Launch} {d : Nat} {rec : Nat → List Value → Mem → XA} (hs : XSnd l xmt rec d) (a0 : Option Nat) (a1 : Int32) (a2 : Int32) (a3 : Int32) (a4 : Int32) (a5 : Int32) (M0 : Mem) : Xe S G K l (yX11_rule, cX11_rule, 7, some .int) d 0 [some (va_rf a0), some (.int a1), some (.int a2), some (.int a3), some (.int a4), some (.int a5), none] [] M0 (c146 rec a0 a1 a2 a3 a4 a5 M0) := by
  unfold c146
  refine x_aload_n dX11_rule_0 rfl ?_
  refine x_iload_n dX11_rule_1 rfl ?_
  refine cmX11_255 rfl hs (Nat.le_of_ble_eq_true rfl) dX11_rule_2 (fun x2 M1 => ?_)
  refine x_astore (lo' := [some (va_rf a0), some (.int a1), some (.int a2), some (.int a3), some (.int a4), some (.int a5), some (va_rf x2)]) dX11_rule_5 (by decide) rfl rfl ?_
  refine x_aload dX11_rule_7 rfl ?_
  refine x_jn (σ := Unit) 26 (fun s3 => [none, none, none, none, none, none, none]) (fun s3 => []) (fun s3 => M1) (fun s3 => ?_) (fun j26 hj26 => ?_)
  · refine x_iconst (v := -1) dX11_rule_26 (by decide) ?_
    exact x_iret rfl dX11_rule_27
  refine x_ifnull (tgt := 26) dX11_rule_9 (by decide) (fun _ => ?_) (fun _ => ?_)
  · exact x_weak (by exact trivial) (hj26 ())
  · refine x_iload_n dX11_rule_12 rfl ?_
    refine x_iconst (v := -1) dX11_rule_13 (by decide) ?_
    refine x_icmp_lt (tgt := 26) dX11_rule_14 (by decide) (fun _ => ?_) (fun _ => ?_)
    · exact x_weak (by exact trivial) (hj26 ())
    · refine x_iload_n dX11_rule_17 rfl ?_
      refine x_aload dX11_rule_18 rfl ?_
      refine gfX11_259 rfl dX11_rule_20 (fun x4 => ?_)
      refine x_icmp_lt (tgt := 28) dX11_rule_23 (by decide) (fun _ => ?_) (fun _ => ?_)
      · refine x_aload dX11_rule_28 rfl ?_
        refine gfX11_262 rfl dX11_rule_30 (fun x5 => ?_)
        refine x_bipush (v := 8) dX11_rule_33 (by decide) ?_
        refine x_jn (σ := Int32 × Mem) 54 (fun s6 => [none, none, none, none, none, none, none]) (fun s6 => [.int s6.1]) (fun s6 => s6.2) (fun s6 => ?_) (fun j54 hj54 => ?_)
        · exact x_iret rfl dX11_rule_54
        refine x_icmp_lt (tgt := 43) dX11_rule_35 (by decide) (fun _ => ?_) (fun _ => ?_)
        · refine x_aload dX11_rule_43 rfl ?_
          refine x_iload_n dX11_rule_45 rfl ?_
          refine x_iload_n dX11_rule_46 rfl ?_
          refine x_iload dX11_rule_47 rfl ?_
          refine x_iload dX11_rule_49 rfl ?_
          refine cmX11_265 rfl hs (Nat.le_of_ble_eq_true rfl) dX11_rule_51 (fun x8 M7 => ?_)
          exact x_weak (by exact trivial) (hj54 (x8, M7))
        · refine x_bipush (v := -3) dX11_rule_38 (by decide) ?_
          refine x_goto (tgt := 54) dX11_rule_40 (by decide) ?_
          exact x_weak (by exact trivial) (hj54 ((-3 : Int32), M1))
      · exact x_weak (by exact trivial) (hj26 ())
theorem s146 {l : Launch} {d : Nat} {rec : Nat → List Value → Mem → XA} (hS : Nonempty XS) (hs : XSnd l xmt rec d) : Snd1 l 146 (b146 rec) d := by
  intro as M r M' h0
  unfold b146 at h0
  obtain ⟨a0, l1, e1, h1⟩ := aR_inv h0
  obtain ⟨a1, l2, e2, h2⟩ := aI_inv h1
  obtain ⟨a2, l3, e3, h3⟩ := aI_inv h2
  obtain ⟨a3, l4, e4, h4⟩ := aI_inv h3
  obtain ⟨a4, l5, e5, h5⟩ := aI_inv h4
  obtain ⟨a5, l6, e6, h6⟩ := aI_inv h5
  obtain ⟨ez, h⟩ := aZ_inv h6
  subst ez
  subst e6
  subst e5
  subst e4
  subst e3
  subst e2
  subst e1
  exact xmet (M := M) (as := [va_rf a0, .int a1, .int a2, .int a3, .int a4, .int a5]) (lo := [some (va_rf a0), some (.int a1), some (.int a2), some (.int a3), some (.int a4), some (.int a5)]) 146 xq146 xm146 (by rw [xargs_rf, xargs_i, xargs_i, xargs_i, xargs_i, xargs_i, xargs_nil]; exact ⟨rfl, ⟨rfl, ⟨rfl, ⟨rfl, ⟨rfl, ⟨rfl, trivial⟩⟩⟩⟩⟩⟩) (by rw [xargs_rf, xargs_i, xargs_i, xargs_i, xargs_i, xargs_i, xargs_nil]; exact Nat.le_of_ble_eq_true rfl) (fun S G K => x_weak (by exact ⟨rfl, ⟨rfl, ⟨rfl, ⟨rfl, ⟨rfl, ⟨rfl, trivial⟩⟩⟩⟩⟩⟩) (k146 hs a0 a1 a2 a3 a4 a5 M)) h hS
set_option maxRecDepth 100000 in
def c147 (rec : Nat → List Value → Mem → XA) (a0 : Option Nat) (a1 : Int32) (M0 : Mem) : XA :=
  vC (12, 19) M0 a0 <|
  cP (rec 170 [va_rf a0, .int a1] M0) fun x2 M1 =>
  if x2 = none then (
    some (.int ((-1 : Int32)), M1)) else (
    ptI (10, 9) M1 x2 0 ((-2 : Int32)) fun M3 =>
    gtI (10, 9) M3 x2 2 fun x4 =>
    some (.int x4, M3))
def b147 (rec : Nat → List Value → Mem → XA) (as : List Value) (M0 : Mem) : XA := aR as fun a0 as => aI as fun a1 as => aZ as (c147 rec a0 a1 M0)
set_option maxRecDepth 100000 in
set_option maxHeartbeats 4000000 in
theorem k147 {S : XS} {G : XG} {K : Nat × Nat} {l : Launch} {d : Nat} {rec : Nat → List Value → Mem → XA} (hs : XSnd l xmt rec d) (a0 : Option Nat) (a1 : Int32) (M0 : Mem) : Xe S G K l (yX11_drop, cX11_drop, 3, some .int) d 0 [some (va_rf a0), some (.int a1), none] [] M0 (c147 rec a0 a1 M0) := by
  unfold c147
  refine x_aload_n dX11_drop_0 rfl ?_
  refine x_iload_n dX11_drop_1 rfl ?_
  refine cmX11_255 rfl hs (Nat.le_of_ble_eq_true rfl) dX11_drop_2 (fun x2 M1 => ?_)
  refine x_astore_n (lo' := [some (va_rf a0), some (.int a1), some (va_rf x2)]) dX11_drop_5 (by decide) rfl rfl ?_
  refine x_aload_n dX11_drop_6 rfl ?_
  refine x_ifnonnull (tgt := 12) dX11_drop_7 (by decide) (fun _ => ?_) (fun _ => ?_)
  · refine x_iconst (v := -1) dX11_drop_10 (by decide) ?_
    exact x_iret rfl dX11_drop_11
  · refine x_aload_n dX11_drop_12 rfl ?_
    refine x_bipush (v := -2) dX11_drop_13 (by decide) ?_
    refine pfX11_245 rfl dX11_drop_15 (fun M3 => ?_)
    refine x_aload_n dX11_drop_18 rfl ?_
    refine gfX11_262 rfl dX11_drop_19 (fun x4 => ?_)
    exact x_iret rfl dX11_drop_22
theorem s147 {l : Launch} {d : Nat} {rec : Nat → List Value → Mem → XA} (hS : Nonempty XS) (hs : XSnd l xmt rec d) : Snd1 l 147 (b147 rec) d := by
  intro as M r M' h0
  unfold b147 at h0
  obtain ⟨a0, l1, e1, h1⟩ := aR_inv h0
  obtain ⟨a1, l2, e2, h2⟩ := aI_inv h1
  obtain ⟨ez, h⟩ := aZ_inv h2
  subst ez
  subst e2
  subst e1
  exact xmet (M := M) (as := [va_rf a0, .int a1]) (lo := [some (va_rf a0), some (.int a1)]) 147 xq147 xm147 (by rw [xargs_rf, xargs_i, xargs_nil]; exact ⟨rfl, ⟨rfl, trivial⟩⟩) (by rw [xargs_rf, xargs_i, xargs_nil]; exact Nat.le_of_ble_eq_true rfl) (fun S G K => x_weak (by exact ⟨rfl, ⟨rfl, trivial⟩⟩) (k147 hs a0 a1 M)) h hS
set_option maxRecDepth 100000 in
def c148 (rec : Nat → List Value → Mem → XA) (a0 : Option Nat) (a1 : Int32) (a2 : Int32) (a3 : Int32) (M0 : Mem) : XA :=
  vC (12, 19) M0 a0 <|
  cP (rec 170 [va_rf a0, .int a1] M0) fun x2 M1 =>
  if x2 = none then (
    some (.int ((-1 : Int32)), M1)) else (
    if a2 = ((-1 : Int32)) then (
      gtI (10, 9) M1 x2 4 fun x3 =>
      some (.int x3, M1)) else (
      jn (fun (s4 : Unit) =>
        some (.int ((-1 : Int32)), M1)) fun j58 =>
      if a2 < 0 then (
        j58 ()) else (
        if ((50 : Int32)) ≤ a2 then (
          j58 ()) else (
          gtI (10, 9) M1 x2 4 fun x5 =>
          if x5 ≤ a2 then (
            j58 ()) else (
            if a3 < ((-1 : Int32)) then (
              j58 ()) else (
              gtI (10, 9) M1 x2 1 fun x6 =>
              if a3 < x6 then (
                jn (fun (s7 : Int32) =>
                  some (.int s7, M1)) fun j86 =>
                if a3 = ((-1 : Int32)) then (
                  gtP (10, 9) M1 x2 6 fun x8 =>
                  alI 100 M1 x8 a2 fun x9 =>
                  j86 x9) else (
                  gtP (10, 9) M1 x2 5 fun x10 =>
                  alI 100 M1 x10 ((a2 * ((4 : Int32))) + a3) fun x11 =>
                  j86 x11)) else (
                j58 ())))))))
def b148 (rec : Nat → List Value → Mem → XA) (as : List Value) (M0 : Mem) : XA := aR as fun a0 as => aI as fun a1 as => aI as fun a2 as => aI as fun a3 as => aZ as (c148 rec a0 a1 a2 a3 M0)
set_option maxRecDepth 100000 in
set_option maxHeartbeats 4000000 in
theorem k148 {S : XS} {G : XG} {K : Nat × Nat} {l : Launch} {d : Nat} {rec : Nat → List Value → Mem → XA} (hs : XSnd l xmt rec d) (a0 : Option Nat) (a1 : Int32) (a2 : Int32) (a3 : Int32) (M0 : Mem) : Xe S G K l (yX11_calls, cX11_calls, 5, some .int) d 0 [some (va_rf a0), some (.int a1), some (.int a2), some (.int a3), none] [] M0 (c148 rec a0 a1 a2 a3 M0) := by
  unfold c148
  refine x_aload_n dX11_calls_0 rfl ?_
  refine x_iload_n dX11_calls_1 rfl ?_
  refine cmX11_255 rfl hs (Nat.le_of_ble_eq_true rfl) dX11_calls_2 (fun x2 M1 => ?_)
  refine x_astore (lo' := [some (va_rf a0), some (.int a1), some (.int a2), some (.int a3), some (va_rf x2)]) dX11_calls_5 (by decide) rfl rfl ?_
  refine x_aload dX11_calls_7 rfl ?_
  refine x_ifnonnull (tgt := 14) dX11_calls_9 (by decide) (fun _ => ?_) (fun _ => ?_)
  · refine x_iconst (v := -1) dX11_calls_12 (by decide) ?_
    exact x_iret rfl dX11_calls_13
  · refine x_iload_n dX11_calls_14 rfl ?_
    refine x_iconst (v := -1) dX11_calls_15 (by decide) ?_
    refine x_icmp_ne (tgt := 25) dX11_calls_16 (by decide) (fun _ => ?_) (fun _ => ?_)
    · refine x_aload dX11_calls_19 rfl ?_
      refine gfX11_269 rfl dX11_calls_21 (fun x3 => ?_)
      exact x_iret rfl dX11_calls_24
    · refine x_iload_n dX11_calls_25 rfl ?_
      refine x_jn (σ := Unit) 58 (fun s4 => [none, none, none, none, none]) (fun s4 => []) (fun s4 => M1) (fun s4 => ?_) (fun j58 hj58 => ?_)
      · refine x_iconst (v := -1) dX11_calls_58 (by decide) ?_
        exact x_iret rfl dX11_calls_59
      refine x_if_lt (tgt := 58) dX11_calls_26 (by decide) (fun _ => ?_) (fun _ => ?_)
      · exact x_weak (by exact trivial) (hj58 ())
      · refine x_iload_n dX11_calls_29 rfl ?_
        refine x_bipush (v := 50) dX11_calls_30 (by decide) ?_
        refine x_icmp_ge (tgt := 58) dX11_calls_32 (by decide) (fun _ => ?_) (fun _ => ?_)
        · exact x_weak (by exact trivial) (hj58 ())
        · refine x_iload_n dX11_calls_35 rfl ?_
          refine x_aload dX11_calls_36 rfl ?_
          refine gfX11_269 rfl dX11_calls_38 (fun x5 => ?_)
          refine x_icmp_ge (tgt := 58) dX11_calls_41 (by decide) (fun _ => ?_) (fun _ => ?_)
          · exact x_weak (by exact trivial) (hj58 ())
          · refine x_iload_n dX11_calls_44 rfl ?_
            refine x_iconst (v := -1) dX11_calls_45 (by decide) ?_
            refine x_icmp_lt (tgt := 58) dX11_calls_46 (by decide) (fun _ => ?_) (fun _ => ?_)
            · exact x_weak (by exact trivial) (hj58 ())
            · refine x_iload_n dX11_calls_49 rfl ?_
              refine x_aload dX11_calls_50 rfl ?_
              refine gfX11_259 rfl dX11_calls_52 (fun x6 => ?_)
              refine x_icmp_lt (tgt := 60) dX11_calls_55 (by decide) (fun _ => ?_) (fun _ => ?_)
              · refine x_iload_n dX11_calls_60 rfl ?_
                refine x_iconst (v := -1) dX11_calls_61 (by decide) ?_
                refine x_jn (σ := Int32) 86 (fun s7 => [none, none, none, none, none]) (fun s7 => [.int s7]) (fun s7 => M1) (fun s7 => ?_) (fun j86 hj86 => ?_)
                · exact x_iret rfl dX11_calls_86
                refine x_icmp_ne (tgt := 75) dX11_calls_62 (by decide) (fun _ => ?_) (fun _ => ?_)
                · refine x_aload dX11_calls_65 rfl ?_
                  refine gfX11_272 rfl dX11_calls_67 (fun x8 => ?_)
                  refine x_iload_n dX11_calls_70 rfl ?_
                  refine x_iald dX11_calls_71 (fun x9 => ?_)
                  refine x_goto (tgt := 86) dX11_calls_72 (by decide) ?_
                  exact x_weak (by exact trivial) (hj86 x9)
                · refine x_aload dX11_calls_75 rfl ?_
                  refine gfX11_275 rfl dX11_calls_77 (fun x10 => ?_)
                  refine x_iload_n dX11_calls_80 rfl ?_
                  refine x_iconst (v := 4) dX11_calls_81 (by decide) ?_
                  refine x_imul dX11_calls_82 ?_
                  refine x_iload_n dX11_calls_83 rfl ?_
                  refine x_iadd dX11_calls_84 ?_
                  refine x_iald dX11_calls_85 (fun x11 => ?_)
                  exact x_weak (by exact trivial) (hj86 x11)
              · exact x_weak (by exact trivial) (hj58 ())
theorem s148 {l : Launch} {d : Nat} {rec : Nat → List Value → Mem → XA} (hS : Nonempty XS) (hs : XSnd l xmt rec d) : Snd1 l 148 (b148 rec) d := by
  intro as M r M' h0
  unfold b148 at h0
  obtain ⟨a0, l1, e1, h1⟩ := aR_inv h0
  obtain ⟨a1, l2, e2, h2⟩ := aI_inv h1
  obtain ⟨a2, l3, e3, h3⟩ := aI_inv h2
  obtain ⟨a3, l4, e4, h4⟩ := aI_inv h3
  obtain ⟨ez, h⟩ := aZ_inv h4
  subst ez
  subst e4
  subst e3
  subst e2
  subst e1
  exact xmet (M := M) (as := [va_rf a0, .int a1, .int a2, .int a3]) (lo := [some (va_rf a0), some (.int a1), some (.int a2), some (.int a3)]) 148 xq148 xm148 (by rw [xargs_rf, xargs_i, xargs_i, xargs_i, xargs_nil]; exact ⟨rfl, ⟨rfl, ⟨rfl, ⟨rfl, trivial⟩⟩⟩⟩) (by rw [xargs_rf, xargs_i, xargs_i, xargs_i, xargs_nil]; exact Nat.le_of_ble_eq_true rfl) (fun S G K => x_weak (by exact ⟨rfl, ⟨rfl, ⟨rfl, ⟨rfl, trivial⟩⟩⟩⟩) (k148 hs a0 a1 a2 a3 M)) h hS
set_option maxRecDepth 100000 in
def c149 (rec : Nat → List Value → Mem → XA) (a0 : Option Nat) (a1 : Int32) (a2 : Int32) (a3 : Int32) (M0 : Mem) : XA :=
  vC (12, 19) M0 a0 <|
  cP (rec 167 [va_rf a0, .int a1] M0) fun x2 M1 =>
  jn (fun (s3 : Unit) =>
    some (.int ((-1 : Int32)), M1)) fun j35 =>
  if x2 = none then (
    j35 ()) else (
    if a2 < 0 then (
      j35 ()) else (
      gtP (6, 18) M1 x2 9 fun x4 =>
      aln M1 x4 fun x5 =>
      if x5 ≤ a2 then (
        j35 ()) else (
        if a3 < 0 then (
          j35 ()) else (
          if a3 ≤ ((2 : Int32)) then (
            if a3 = ((2 : Int32)) then (
              gtI (6, 18) M1 x2 16 fun x6 =>
              jn (fun (s7 : Int32 × Mem) =>
                some (.int s7.1, s7.2)) fun j65 =>
              if x6 = 0 then (
                j65 ((-2 : Int32), M1)) else (
                gtP (6, 18) M1 x2 14 fun x8 =>
                alI 100 M1 x8 a2 fun x9 =>
                cI (rec 315 [.int x9] M1) fun x11 M10 =>
                j65 (x11, M10))) else (
              gtP (6, 18) M1 x2 9 fun x12 =>
              alI 100 M1 x12 a2 fun x13 =>
              jn (fun (s14 : Int32) =>
                some (.int s14, M1)) fun j96 =>
              if a3 = 0 then (
                j96 x13) else (
                gtP (6, 18) M1 x2 6 fun x15 =>
                alI 100 M1 x15 x13 fun x16 =>
                alI 100 M1 ((some 1)) x16 fun x17 =>
                j96 x17))) else (
            j35 ())))))
def b149 (rec : Nat → List Value → Mem → XA) (as : List Value) (M0 : Mem) : XA := aR as fun a0 as => aI as fun a1 as => aI as fun a2 as => aI as fun a3 as => aZ as (c149 rec a0 a1 a2 a3 M0)
set_option maxRecDepth 100000 in
set_option maxHeartbeats 4000000 in
theorem k149 {S : XS} {G : XG} {K : Nat × Nat} {l : Launch} {d : Nat} {rec : Nat → List Value → Mem → XA} (hs : XSnd l xmt rec d) (a0 : Option Nat) (a1 : Int32) (a2 : Int32) (a3 : Int32) (M0 : Mem) : Xe S G K l (yX11_mutant, cX11_mutant, 6, some .int) d 0 [some (va_rf a0), some (.int a1), some (.int a2), some (.int a3), none, none] [] M0 (c149 rec a0 a1 a2 a3 M0) := by
  unfold c149
  refine x_aload_n dX11_mutant_0 rfl ?_
  refine x_iload_n dX11_mutant_1 rfl ?_
  refine cmX11_109 rfl hs (Nat.le_of_ble_eq_true rfl) dX11_mutant_2 (fun x2 M1 => ?_)
  refine x_astore (lo' := [some (va_rf a0), some (.int a1), some (.int a2), some (.int a3), some (va_rf x2), none]) dX11_mutant_5 (by decide) rfl rfl ?_
  refine x_aload dX11_mutant_7 rfl ?_
  refine x_jn (σ := Unit) 35 (fun s3 => [none, none, none, none, none, none]) (fun s3 => []) (fun s3 => M1) (fun s3 => ?_) (fun j35 hj35 => ?_)
  · refine x_iconst (v := -1) dX11_mutant_35 (by decide) ?_
    exact x_iret rfl dX11_mutant_36
  refine x_ifnull (tgt := 35) dX11_mutant_9 (by decide) (fun _ => ?_) (fun _ => ?_)
  · exact x_weak (by exact trivial) (hj35 ())
  · refine x_iload_n dX11_mutant_12 rfl ?_
    refine x_if_lt (tgt := 35) dX11_mutant_13 (by decide) (fun _ => ?_) (fun _ => ?_)
    · exact x_weak (by exact trivial) (hj35 ())
    · refine x_iload_n dX11_mutant_16 rfl ?_
      refine x_aload dX11_mutant_17 rfl ?_
      refine gfX11_127 rfl dX11_mutant_19 (fun x4 => ?_)
      refine x_alen dX11_mutant_22 (fun x5 => ?_)
      refine x_icmp_ge (tgt := 35) dX11_mutant_23 (by decide) (fun _ => ?_) (fun _ => ?_)
      · exact x_weak (by exact trivial) (hj35 ())
      · refine x_iload_n dX11_mutant_26 rfl ?_
        refine x_if_lt (tgt := 35) dX11_mutant_27 (by decide) (fun _ => ?_) (fun _ => ?_)
        · exact x_weak (by exact trivial) (hj35 ())
        · refine x_iload_n dX11_mutant_30 rfl ?_
          refine x_iconst (v := 2) dX11_mutant_31 (by decide) ?_
          refine x_icmp_le (tgt := 37) dX11_mutant_32 (by decide) (fun _ => ?_) (fun _ => ?_)
          · refine x_iload_n dX11_mutant_37 rfl ?_
            refine x_iconst (v := 2) dX11_mutant_38 (by decide) ?_
            refine x_icmp_ne (tgt := 66) dX11_mutant_39 (by decide) (fun _ => ?_) (fun _ => ?_)
            · refine x_aload dX11_mutant_42 rfl ?_
              refine gfX11_278 rfl dX11_mutant_44 (fun x6 => ?_)
              refine x_jn (σ := Int32 × Mem) 65 (fun s7 => [none, none, none, none, none, none]) (fun s7 => [.int s7.1]) (fun s7 => s7.2) (fun s7 => ?_) (fun j65 hj65 => ?_)
              · exact x_iret rfl dX11_mutant_65
              refine x_if_eq (tgt := 63) dX11_mutant_47 (by decide) (fun _ => ?_) (fun _ => ?_)
              · refine x_bipush (v := -2) dX11_mutant_63 (by decide) ?_
                exact x_weak (by exact trivial) (hj65 ((-2 : Int32), M1))
              · refine x_aload dX11_mutant_50 rfl ?_
                refine gfX11_281 rfl dX11_mutant_52 (fun x8 => ?_)
                refine x_iload_n dX11_mutant_55 rfl ?_
                refine x_iald dX11_mutant_56 (fun x9 => ?_)
                refine cmX11_284 rfl hs (Nat.le_of_ble_eq_true rfl) dX11_mutant_57 (fun x11 M10 => ?_)
                refine x_goto (tgt := 65) dX11_mutant_60 (by decide) ?_
                exact x_weak (by exact trivial) (hj65 (x11, M10))
            · refine x_aload dX11_mutant_66 rfl ?_
              refine gfX11_127 rfl dX11_mutant_68 (fun x12 => ?_)
              refine x_iload_n dX11_mutant_71 rfl ?_
              refine x_iald dX11_mutant_72 (fun x13 => ?_)
              refine x_istore (lo' := [some (va_rf a0), some (.int a1), some (.int a2), some (.int a3), some (va_rf x2), some (.int x13)]) dX11_mutant_73 (by decide) (xok_r rfl) rfl ?_
              refine x_iload_n dX11_mutant_75 rfl ?_
              refine x_jn (σ := Int32) 96 (fun s14 => [none, none, none, none, none, none]) (fun s14 => [.int s14]) (fun s14 => M1) (fun s14 => ?_) (fun j96 hj96 => ?_)
              · exact x_iret rfl dX11_mutant_96
              refine x_if_ne (tgt := 84) dX11_mutant_76 (by decide) (fun _ => ?_) (fun _ => ?_)
              · refine x_iload dX11_mutant_79 rfl ?_
                refine x_goto (tgt := 96) dX11_mutant_81 (by decide) ?_
                exact x_weak (by exact trivial) (hj96 x13)
              · refine x_gets (v := va_rf (some 1)) z_ins lsX11_290 dX11_mutant_84 ?_
                refine x_aload dX11_mutant_87 rfl ?_
                refine gfX11_177 rfl dX11_mutant_89 (fun x15 => ?_)
                refine x_iload dX11_mutant_92 rfl ?_
                refine x_iald dX11_mutant_94 (fun x16 => ?_)
                refine x_iald dX11_mutant_95 (fun x17 => ?_)
                exact x_weak (by exact trivial) (hj96 x17)
          · exact x_weak (by exact trivial) (hj35 ())
theorem s149 {l : Launch} {d : Nat} {rec : Nat → List Value → Mem → XA} (hS : Nonempty XS) (hs : XSnd l xmt rec d) : Snd1 l 149 (b149 rec) d := by
  intro as M r M' h0
  unfold b149 at h0
  obtain ⟨a0, l1, e1, h1⟩ := aR_inv h0
  obtain ⟨a1, l2, e2, h2⟩ := aI_inv h1
  obtain ⟨a2, l3, e3, h3⟩ := aI_inv h2
  obtain ⟨a3, l4, e4, h4⟩ := aI_inv h3
  obtain ⟨ez, h⟩ := aZ_inv h4
  subst ez
  subst e4
  subst e3
  subst e2
  subst e1
  exact xmet (M := M) (as := [va_rf a0, .int a1, .int a2, .int a3]) (lo := [some (va_rf a0), some (.int a1), some (.int a2), some (.int a3)]) 149 xq149 xm149 (by rw [xargs_rf, xargs_i, xargs_i, xargs_i, xargs_nil]; exact ⟨rfl, ⟨rfl, ⟨rfl, ⟨rfl, trivial⟩⟩⟩⟩) (by rw [xargs_rf, xargs_i, xargs_i, xargs_i, xargs_nil]; exact Nat.le_of_ble_eq_true rfl) (fun S G K => x_weak (by exact ⟨rfl, ⟨rfl, ⟨rfl, ⟨rfl, trivial⟩⟩⟩⟩) (k149 hs a0 a1 a2 a3 M)) h hS
set_option maxRecDepth 100000 in
def c150_45 (rec : Nat → List Value → Mem → XA) (a0 : Option Nat) (j118 : Mem → XA) (x2 : Option Nat) : (Int32 × Mem) → ((Int32 × Mem) → XA) → XA := fun s16 j45 =>
  gtP (6, 18) s16.2 x2 9 fun x17 =>
  aln s16.2 x17 fun x18 =>
  if x18 ≤ s16.1 then (
    j118 s16.2) else (
    gtP (12, 19) s16.2 a0 2 fun x19 =>
    vC (4, 22) s16.2 x19 <|
    cI (rec 22 [va_rf x19] s16.2) fun x21 M20 =>
    if x21 = 0 then (
      gtP (12, 19) M20 a0 2 fun x22 =>
      gtP (6, 18) M20 x2 9 fun x23 =>
      alI 100 M20 x23 s16.1 fun x24 =>
      ptI (4, 22) M20 x22 3 x24 fun M25 =>
      gtP (6, 18) M25 x2 10 fun x26 =>
      gtP (6, 18) M25 x2 10 fun x27 =>
      aln M25 x27 fun x28 =>
      gtP (12, 19) M25 a0 18 fun x29 =>
      vC (12, 19) M25 a0 <|
      cV (rec 174 [va_rf a0, va_rf x2, va_rf x26, .int x28, .int ((-2 : Int32)), va_rf x29] M25) fun M30 =>
      gtP (6, 18) M30 x2 15 fun x31 =>
      gtP (6, 18) M30 x2 10 fun x32 =>
      aln M30 x32 fun x33 =>
      vC (12, 19) M30 a0 <|
      cI (rec 176 [va_rf a0, .int x33] M30) fun x35 M34 =>
      asI 100 M34 x31 s16.1 x35 fun M36 =>
      lt (s16.1 + (1 : Int32)) fun (x37 : Int32) =>
      j45 (x37, M36)) else (
      j118 M20))
set_option maxRecDepth 100000 in
def c150 (rec : Nat → List Value → Mem → XA) (a0 : Option Nat) (a1 : Int32) (M0 : Mem) : XA :=
  vC (12, 19) M0 a0 <|
  cP (rec 167 [va_rf a0, .int a1] M0) fun x2 M1 =>
  if x2 = none then (
    some (.int ((-1 : Int32)), M1)) else (
    gtP (12, 19) M1 a0 2 fun x3 =>
    vC (4, 22) M1 x3 <|
    cV (rec 19 [va_rf x3, va_rf x2, .int ((40000 : Int32))] M1) fun M4 =>
    gtP (6, 18) M4 x2 10 fun x5 =>
    gtP (6, 18) M4 x2 10 fun x6 =>
    aln M4 x6 fun x7 =>
    gtP (12, 19) M4 a0 17 fun x8 =>
    vC (12, 19) M4 a0 <|
    cV (rec 174 [va_rf a0, va_rf x2, va_rf x5, .int x7, .int ((-2 : Int32)), va_rf x8] M4) fun M9 =>
    jn (fun (s10 : Mem) =>
      gtP (12, 19) s10 a0 2 fun x11 =>
      vC (4, 22) s10 x11 <|
      cI (rec 22 [va_rf x11] s10) fun x13 M12 =>
      if x13 = 0 then (
        vC (6, 18) M12 x2 <|
        cI (rec 56 [va_rf x2] M12) fun x15 M14 =>
        some (.int x15, M14)) else (
        some (.int ((-4 : Int32)), M12))) fun j118 =>
    lp (c150_45 rec a0 j118 x2) 4294967296 ((0 : Int32), M9))
def b150 (rec : Nat → List Value → Mem → XA) (as : List Value) (M0 : Mem) : XA := aR as fun a0 as => aI as fun a1 as => aZ as (c150 rec a0 a1 M0)
set_option maxRecDepth 100000 in
set_option maxHeartbeats 4000000 in
theorem k150 {S : XS} {G : XG} {K : Nat × Nat} {l : Launch} {d : Nat} {rec : Nat → List Value → Mem → XA} (hs : XSnd l xmt rec d) (a0 : Option Nat) (a1 : Int32) (M0 : Mem) : Xe S G K l (yX11_kill, cX11_kill, 4, some .int) d 0 [some (va_rf a0), some (.int a1), none, none] [] M0 (c150 rec a0 a1 M0) := by
  unfold c150
  refine x_aload_n dX11_kill_0 rfl ?_
  refine x_iload_n dX11_kill_1 rfl ?_
  refine cmX11_109 rfl hs (Nat.le_of_ble_eq_true rfl) dX11_kill_2 (fun x2 M1 => ?_)
  refine x_astore_n (lo' := [some (va_rf a0), some (.int a1), some (va_rf x2), none]) dX11_kill_5 (by decide) rfl rfl ?_
  refine x_aload_n dX11_kill_6 rfl ?_
  refine x_ifnonnull (tgt := 12) dX11_kill_7 (by decide) (fun _ => ?_) (fun _ => ?_)
  · refine x_iconst (v := -1) dX11_kill_10 (by decide) ?_
    exact x_iret rfl dX11_kill_11
  · refine x_aload_n dX11_kill_12 rfl ?_
    refine gfX11_26 rfl dX11_kill_13 (fun x3 => ?_)
    refine x_aload_n dX11_kill_16 rfl ?_
    refine x_ldcw (v := 40000) dX11_kill_17 lk_constant_X11_293 ?_
    refine cmX11_193 rfl hs (Nat.le_of_ble_eq_true rfl) dX11_kill_20 (fun M4 => ?_)
    refine x_aload_n dX11_kill_23 rfl ?_
    refine x_aload_n dX11_kill_24 rfl ?_
    refine x_aload_n dX11_kill_25 rfl ?_
    refine gfX11_189 rfl dX11_kill_26 (fun x5 => ?_)
    refine x_aload_n dX11_kill_29 rfl ?_
    refine gfX11_189 rfl dX11_kill_30 (fun x6 => ?_)
    refine x_alen dX11_kill_33 (fun x7 => ?_)
    refine x_bipush (v := -2) dX11_kill_34 (by decide) ?_
    refine x_aload_n dX11_kill_36 rfl ?_
    refine gfX11_69 rfl dX11_kill_37 (fun x8 => ?_)
    refine cmX11_206 rfl hs (Nat.le_of_ble_eq_true rfl) dX11_kill_40 (fun M9 => ?_)
    refine x_iconst (v := 0) dX11_kill_43 (by decide) ?_
    refine x_istore_n (lo' := [some (va_rf a0), some (.int a1), some (va_rf x2), some (.int ((0 : Int32)))]) dX11_kill_44 (by decide) (xok_r rfl) rfl ?_
    refine x_jn (σ := Mem) 118 (fun s10 => [some (va_rf a0), none, some (va_rf x2), none]) (fun s10 => []) (fun s10 => s10) (fun s10 => ?_) (fun j118 hj118 => ?_)
    · refine x_aload_n dX11_kill_118 rfl ?_
      refine gfX11_26 rfl dX11_kill_119 (fun x11 => ?_)
      refine cmX11_294 rfl hs (Nat.le_of_ble_eq_true rfl) dX11_kill_122 (fun x13 M12 => ?_)
      refine x_if_eq (tgt := 131) dX11_kill_125 (by decide) (fun _ => ?_) (fun _ => ?_)
      · refine x_aload_n dX11_kill_131 rfl ?_
        refine cmX11_307 rfl hs (Nat.le_of_ble_eq_true rfl) dX11_kill_132 (fun x15 M14 => ?_)
        exact x_iret rfl dX11_kill_135
      · refine x_bipush (v := -4) dX11_kill_128 (by decide) ?_
        exact x_iret rfl dX11_kill_130
    refine x_weak (by exact ⟨rfl, ⟨rfl, ⟨rfl, trivial⟩⟩⟩) (x_lp (σ := Int32 × Mem) 45 (fun s16 => [some (va_rf a0), none, some (va_rf x2), some (.int s16.1)]) (fun s16 => []) (fun s16 => s16.2) (fun s16 j45 hj45 => ?_) 4294967296 ((0 : Int32), M9))
    · refine x_iload_n dX11_kill_45 rfl ?_
      refine x_aload_n dX11_kill_46 rfl ?_
      refine gfX11_127 rfl dX11_kill_47 (fun x17 => ?_)
      refine x_alen dX11_kill_50 (fun x18 => ?_)
      refine x_icmp_ge (tgt := 118) dX11_kill_51 (by decide) (fun _ => ?_) (fun _ => ?_)
      · exact x_weak (by exact ⟨rfl, ⟨rfl, trivial⟩⟩) (hj118 s16.2)
      · refine x_aload_n dX11_kill_54 rfl ?_
        refine gfX11_26 rfl dX11_kill_55 (fun x19 => ?_)
        refine cmX11_294 rfl hs (Nat.le_of_ble_eq_true rfl) dX11_kill_58 (fun x21 M20 => ?_)
        refine x_if_ne (tgt := 118) dX11_kill_61 (by decide) (fun _ => ?_) (fun _ => ?_)
        · refine x_aload_n dX11_kill_64 rfl ?_
          refine gfX11_26 rfl dX11_kill_65 (fun x22 => ?_)
          refine x_aload_n dX11_kill_68 rfl ?_
          refine gfX11_127 rfl dX11_kill_69 (fun x23 => ?_)
          refine x_iload_n dX11_kill_72 rfl ?_
          refine x_iald dX11_kill_73 (fun x24 => ?_)
          refine pfX11_298 rfl dX11_kill_74 (fun M25 => ?_)
          refine x_aload_n dX11_kill_77 rfl ?_
          refine x_aload_n dX11_kill_78 rfl ?_
          refine x_aload_n dX11_kill_79 rfl ?_
          refine gfX11_189 rfl dX11_kill_80 (fun x26 => ?_)
          refine x_aload_n dX11_kill_83 rfl ?_
          refine gfX11_189 rfl dX11_kill_84 (fun x27 => ?_)
          refine x_alen dX11_kill_87 (fun x28 => ?_)
          refine x_bipush (v := -2) dX11_kill_88 (by decide) ?_
          refine x_aload_n dX11_kill_90 rfl ?_
          refine gfX11_72 rfl dX11_kill_91 (fun x29 => ?_)
          refine cmX11_206 rfl hs (Nat.le_of_ble_eq_true rfl) dX11_kill_94 (fun M30 => ?_)
          refine x_aload_n dX11_kill_97 rfl ?_
          refine gfX11_301 rfl dX11_kill_98 (fun x31 => ?_)
          refine x_iload_n dX11_kill_101 rfl ?_
          refine x_aload_n dX11_kill_102 rfl ?_
          refine x_aload_n dX11_kill_103 rfl ?_
          refine gfX11_189 rfl dX11_kill_104 (fun x32 => ?_)
          refine x_alen dX11_kill_107 (fun x33 => ?_)
          refine cmX11_304 rfl hs (Nat.le_of_ble_eq_true rfl) dX11_kill_108 (fun x35 M34 => ?_)
          refine x_iast dX11_kill_111 (fun M36 => ?_)
          refine x_iincN (v := 1) (lo' := fun x37 => [some (va_rf a0), none, some (va_rf x2), some (.int x37)]) (by decide) dX11_kill_112 rfl (by decide) (xok_r rfl) (fun _ => rfl) (fun x37 => ?_)
          refine x_goto (tgt := 45) dX11_kill_115 (by decide) ?_
          exact x_weak (by exact ⟨rfl, ⟨rfl, ⟨rfl, trivial⟩⟩⟩) (hj45 (x37, M36))
        · exact x_weak (by exact ⟨rfl, ⟨rfl, trivial⟩⟩) (hj118 M20)
theorem s150 {l : Launch} {d : Nat} {rec : Nat → List Value → Mem → XA} (hS : Nonempty XS) (hs : XSnd l xmt rec d) : Snd1 l 150 (b150 rec) d := by
  intro as M r M' h0
  unfold b150 at h0
  obtain ⟨a0, l1, e1, h1⟩ := aR_inv h0
  obtain ⟨a1, l2, e2, h2⟩ := aI_inv h1
  obtain ⟨ez, h⟩ := aZ_inv h2
  subst ez
  subst e2
  subst e1
  exact xmet (M := M) (as := [va_rf a0, .int a1]) (lo := [some (va_rf a0), some (.int a1)]) 150 xq150 xm150 (by rw [xargs_rf, xargs_i, xargs_nil]; exact ⟨rfl, ⟨rfl, trivial⟩⟩) (by rw [xargs_rf, xargs_i, xargs_nil]; exact Nat.le_of_ble_eq_true rfl) (fun S G K => x_weak (by exact ⟨rfl, ⟨rfl, trivial⟩⟩) (k150 hs a0 a1 M)) h hS
set_option maxRecDepth 100000 in
def c151 (rec : Nat → List Value → Mem → XA) (a0 : Option Nat) (a1 : Int32) (a2 : Int32) (a3 : Int32) (M0 : Mem) : XA :=
  vC (12, 19) M0 a0 <|
  cP (rec 167 [va_rf a0, .int a1] M0) fun x2 M1 =>
  cP (rec 169 [va_rf x2, .int a3] M1) fun x4 M3 =>
  jn (fun (s5 : Unit) =>
    some (.int ((-1 : Int32)), M3)) fun j30 =>
  if x4 = none then (
    j30 ()) else (
    if a2 < 0 then (
      j30 ()) else (
      gtP (6, 18) M3 x2 9 fun x6 =>
      aln M3 x6 fun x7 =>
      if a2 < x7 then (
        gtI (6, 18) M3 x2 16 fun x8 =>
        jn (fun (s9 : Int32) =>
          some (.int s9, M3)) fun j56 =>
        if x8 = 0 then (
          j56 ((-2 : Int32))) else (
          gtP (6, 18) M3 x2 14 fun x10 =>
          alI 100 M3 x10 a2 fun x11 =>
          j56 ((x11 >>> (a3 &&& 31)) &&& ((1 : Int32))))) else (
        j30 ())))
def b151 (rec : Nat → List Value → Mem → XA) (as : List Value) (M0 : Mem) : XA := aR as fun a0 as => aI as fun a1 as => aI as fun a2 as => aI as fun a3 as => aZ as (c151 rec a0 a1 a2 a3 M0)
set_option maxRecDepth 100000 in
set_option maxHeartbeats 4000000 in
theorem k151 {S : XS} {G : XG} {K : Nat × Nat} {l : Launch} {d : Nat} {rec : Nat → List Value → Mem → XA} (hs : XSnd l xmt rec d) (a0 : Option Nat) (a1 : Int32) (a2 : Int32) (a3 : Int32) (M0 : Mem) : Xe S G K l (yX11_killed, cX11_killed, 5, some .int) d 0 [some (va_rf a0), some (.int a1), some (.int a2), some (.int a3), none] [] M0 (c151 rec a0 a1 a2 a3 M0) := by
  unfold c151
  refine x_aload_n dX11_killed_0 rfl ?_
  refine x_iload_n dX11_killed_1 rfl ?_
  refine cmX11_109 rfl hs (Nat.le_of_ble_eq_true rfl) dX11_killed_2 (fun x2 M1 => ?_)
  refine x_astore (lo' := [some (va_rf a0), some (.int a1), some (.int a2), some (.int a3), some (va_rf x2)]) dX11_killed_5 (by decide) rfl rfl ?_
  refine x_aload dX11_killed_7 rfl ?_
  refine x_iload_n dX11_killed_9 rfl ?_
  refine cmX11_152 rfl hs (Nat.le_of_ble_eq_true rfl) dX11_killed_10 (fun x4 M3 => ?_)
  refine x_jn (σ := Unit) 30 (fun s5 => [none, none, none, none, none]) (fun s5 => []) (fun s5 => M3) (fun s5 => ?_) (fun j30 hj30 => ?_)
  · refine x_iconst (v := -1) dX11_killed_30 (by decide) ?_
    exact x_iret rfl dX11_killed_31
  refine x_ifnull (tgt := 30) dX11_killed_13 (by decide) (fun _ => ?_) (fun _ => ?_)
  · exact x_weak (by exact trivial) (hj30 ())
  · refine x_iload_n dX11_killed_16 rfl ?_
    refine x_if_lt (tgt := 30) dX11_killed_17 (by decide) (fun _ => ?_) (fun _ => ?_)
    · exact x_weak (by exact trivial) (hj30 ())
    · refine x_iload_n dX11_killed_20 rfl ?_
      refine x_aload dX11_killed_21 rfl ?_
      refine gfX11_127 rfl dX11_killed_23 (fun x6 => ?_)
      refine x_alen dX11_killed_26 (fun x7 => ?_)
      refine x_icmp_lt (tgt := 32) dX11_killed_27 (by decide) (fun _ => ?_) (fun _ => ?_)
      · refine x_aload dX11_killed_32 rfl ?_
        refine gfX11_278 rfl dX11_killed_34 (fun x8 => ?_)
        refine x_jn (σ := Int32) 56 (fun s9 => [none, none, none, none, none]) (fun s9 => [.int s9]) (fun s9 => M3) (fun s9 => ?_) (fun j56 hj56 => ?_)
        · exact x_iret rfl dX11_killed_56
        refine x_if_eq (tgt := 54) dX11_killed_37 (by decide) (fun _ => ?_) (fun _ => ?_)
        · refine x_bipush (v := -2) dX11_killed_54 (by decide) ?_
          exact x_weak (by exact trivial) (hj56 ((-2 : Int32)))
        · refine x_aload dX11_killed_40 rfl ?_
          refine gfX11_281 rfl dX11_killed_42 (fun x10 => ?_)
          refine x_iload_n dX11_killed_45 rfl ?_
          refine x_iald dX11_killed_46 (fun x11 => ?_)
          refine x_iload_n dX11_killed_47 rfl ?_
          refine x_ishr dX11_killed_48 ?_
          refine x_iconst (v := 1) dX11_killed_49 (by decide) ?_
          refine x_iand dX11_killed_50 ?_
          refine x_goto (tgt := 56) dX11_killed_51 (by decide) ?_
          exact x_weak (by exact trivial) (hj56 ((x11 >>> (a3 &&& 31)) &&& ((1 : Int32))))
      · exact x_weak (by exact trivial) (hj30 ())
theorem s151 {l : Launch} {d : Nat} {rec : Nat → List Value → Mem → XA} (hS : Nonempty XS) (hs : XSnd l xmt rec d) : Snd1 l 151 (b151 rec) d := by
  intro as M r M' h0
  unfold b151 at h0
  obtain ⟨a0, l1, e1, h1⟩ := aR_inv h0
  obtain ⟨a1, l2, e2, h2⟩ := aI_inv h1
  obtain ⟨a2, l3, e3, h3⟩ := aI_inv h2
  obtain ⟨a3, l4, e4, h4⟩ := aI_inv h3
  obtain ⟨ez, h⟩ := aZ_inv h4
  subst ez
  subst e4
  subst e3
  subst e2
  subst e1
  exact xmet (M := M) (as := [va_rf a0, .int a1, .int a2, .int a3]) (lo := [some (va_rf a0), some (.int a1), some (.int a2), some (.int a3)]) 151 xq151 xm151 (by rw [xargs_rf, xargs_i, xargs_i, xargs_i, xargs_nil]; exact ⟨rfl, ⟨rfl, ⟨rfl, ⟨rfl, trivial⟩⟩⟩⟩) (by rw [xargs_rf, xargs_i, xargs_i, xargs_i, xargs_nil]; exact Nat.le_of_ble_eq_true rfl) (fun S G K => x_weak (by exact ⟨rfl, ⟨rfl, ⟨rfl, ⟨rfl, trivial⟩⟩⟩⟩) (k151 hs a0 a1 a2 a3 M)) h hS
set_option maxRecDepth 100000 in
def c152 (rec : Nat → List Value → Mem → XA) (a0 : Option Nat) (a1 : Int32) (a2 : Int32) (M0 : Mem) : XA :=
  vC (12, 19) M0 a0 <|
  cP (rec 167 [va_rf a0, .int a1] M0) fun x2 M1 =>
  jn (fun (s3 : Unit) =>
    some (.int ((-1 : Int32)), M1)) fun j15 =>
  if x2 = none then (
    j15 ()) else (
    if ((-1 : Int32)) ≤ a2 then (
      gtI (6, 18) M1 x2 16 fun x4 =>
      if x4 = 0 then (
        some (.int ((-2 : Int32)), M1)) else (
        vC (6, 18) M1 x2 <|
        cI (rec 57 [va_rf x2] M1) fun x6 M5 =>
        jn (fun (s7 : Int32 × Mem) =>
          some (.int s7.1, s7.2)) fun j52 =>
        if a2 = ((-1 : Int32)) then (
          cI (rec 315 [.int x6] M5) fun x9 M8 =>
          j52 (x9, M8)) else (
          cI (rec 177 [.int x6, .int a2] M5) fun x11 M10 =>
          j52 (x11, M10)))) else (
      j15 ()))
def b152 (rec : Nat → List Value → Mem → XA) (as : List Value) (M0 : Mem) : XA := aR as fun a0 as => aI as fun a1 as => aI as fun a2 as => aZ as (c152 rec a0 a1 a2 M0)
set_option maxRecDepth 100000 in
set_option maxHeartbeats 4000000 in
theorem k152 {S : XS} {G : XG} {K : Nat × Nat} {l : Launch} {d : Nat} {rec : Nat → List Value → Mem → XA} (hs : XSnd l xmt rec d) (a0 : Option Nat) (a1 : Int32) (a2 : Int32) (M0 : Mem) : Xe S G K l (yX11_least, cX11_least, 5, some .int) d 0 [some (va_rf a0), some (.int a1), some (.int a2), none, none] [] M0 (c152 rec a0 a1 a2 M0) := by
  unfold c152
  refine x_aload_n dX11_least_0 rfl ?_
  refine x_iload_n dX11_least_1 rfl ?_
  refine cmX11_109 rfl hs (Nat.le_of_ble_eq_true rfl) dX11_least_2 (fun x2 M1 => ?_)
  refine x_astore_n (lo' := [some (va_rf a0), some (.int a1), some (.int a2), some (va_rf x2), none]) dX11_least_5 (by decide) rfl rfl ?_
  refine x_aload_n dX11_least_6 rfl ?_
  refine x_jn (σ := Unit) 15 (fun s3 => [none, none, none, none, none]) (fun s3 => []) (fun s3 => M1) (fun s3 => ?_) (fun j15 hj15 => ?_)
  · refine x_iconst (v := -1) dX11_least_15 (by decide) ?_
    exact x_iret rfl dX11_least_16
  refine x_ifnull (tgt := 15) dX11_least_7 (by decide) (fun _ => ?_) (fun _ => ?_)
  · exact x_weak (by exact trivial) (hj15 ())
  · refine x_iload_n dX11_least_10 rfl ?_
    refine x_iconst (v := -1) dX11_least_11 (by decide) ?_
    refine x_icmp_ge (tgt := 17) dX11_least_12 (by decide) (fun _ => ?_) (fun _ => ?_)
    · refine x_aload_n dX11_least_17 rfl ?_
      refine gfX11_278 rfl dX11_least_18 (fun x4 => ?_)
      refine x_if_ne (tgt := 27) dX11_least_21 (by decide) (fun _ => ?_) (fun _ => ?_)
      · refine x_bipush (v := -2) dX11_least_24 (by decide) ?_
        exact x_iret rfl dX11_least_26
      · refine x_aload_n dX11_least_27 rfl ?_
        refine cmX11_310 rfl hs (Nat.le_of_ble_eq_true rfl) dX11_least_28 (fun x6 M5 => ?_)
        refine x_istore (lo' := [some (va_rf a0), some (.int a1), some (.int a2), some (va_rf x2), some (.int x6)]) dX11_least_31 (by decide) (xok_r rfl) rfl ?_
        refine x_iload_n dX11_least_33 rfl ?_
        refine x_iconst (v := -1) dX11_least_34 (by decide) ?_
        refine x_jn (σ := Int32 × Mem) 52 (fun s7 => [none, none, none, none, none]) (fun s7 => [.int s7.1]) (fun s7 => s7.2) (fun s7 => ?_) (fun j52 hj52 => ?_)
        · exact x_iret rfl dX11_least_52
        refine x_icmp_ne (tgt := 46) dX11_least_35 (by decide) (fun _ => ?_) (fun _ => ?_)
        · refine x_iload dX11_least_38 rfl ?_
          refine cmX11_284 rfl hs (Nat.le_of_ble_eq_true rfl) dX11_least_40 (fun x9 M8 => ?_)
          refine x_goto (tgt := 52) dX11_least_43 (by decide) ?_
          exact x_weak (by exact trivial) (hj52 (x9, M8))
        · refine x_iload dX11_least_46 rfl ?_
          refine x_iload_n dX11_least_48 rfl ?_
          refine cmX11_313 rfl hs (Nat.le_of_ble_eq_true rfl) dX11_least_49 (fun x11 M10 => ?_)
          exact x_weak (by exact trivial) (hj52 (x11, M10))
    · exact x_weak (by exact trivial) (hj15 ())
theorem s152 {l : Launch} {d : Nat} {rec : Nat → List Value → Mem → XA} (hS : Nonempty XS) (hs : XSnd l xmt rec d) : Snd1 l 152 (b152 rec) d := by
  intro as M r M' h0
  unfold b152 at h0
  obtain ⟨a0, l1, e1, h1⟩ := aR_inv h0
  obtain ⟨a1, l2, e2, h2⟩ := aI_inv h1
  obtain ⟨a2, l3, e3, h3⟩ := aI_inv h2
  obtain ⟨ez, h⟩ := aZ_inv h3
  subst ez
  subst e3
  subst e2
  subst e1
  exact xmet (M := M) (as := [va_rf a0, .int a1, .int a2]) (lo := [some (va_rf a0), some (.int a1), some (.int a2)]) 152 xq152 xm152 (by rw [xargs_rf, xargs_i, xargs_i, xargs_nil]; exact ⟨rfl, ⟨rfl, ⟨rfl, trivial⟩⟩⟩) (by rw [xargs_rf, xargs_i, xargs_i, xargs_nil]; exact Nat.le_of_ble_eq_true rfl) (fun S G K => x_weak (by exact ⟨rfl, ⟨rfl, ⟨rfl, trivial⟩⟩⟩) (k152 hs a0 a1 a2 M)) h hS
set_option maxRecDepth 100000 in
def c153_82 (rec : Nat → List Value → Mem → XA) (a0 : Option Nat) (j119 : Mem → XA) (s3 : Option Nat × Mem) : (Int32 × Int32 × Mem) → ((Int32 × Int32 × Mem) → XA) → XA := fun s21 j82 =>
  if ((1000000 : Int32)) ≤ s21.2.1 then (
    j119 s21.2.2) else (
    if s21.1 = 0 then (
      j119 s21.2.2) else (
      gtP (12, 19) s21.2.2 a0 2 fun x22 =>
      vC (4, 22) s21.2.2 x22 <|
      cI (rec 22 [va_rf x22] s21.2.2) fun x24 M23 =>
      if x24 = 0 then (
        vC (12, 19) M23 a0 <|
        cI (rec 179 [va_rf a0, va_rf s3.1] M23) fun x26 M25 =>
        lt (s21.2.1 + (1 : Int32)) fun (x27 : Int32) =>
        j82 (x26, x27, M25)) else (
        j119 M23)))
set_option maxRecDepth 100000 in
def c153 (rec : Nat → List Value → Mem → XA) (a0 : Option Nat) (a1 : Int32) (a2 : Int32) (a3 : Int32) (M0 : Mem) : XA :=
  vC (12, 19) M0 a0 <|
  cP (rec 167 [va_rf a0, .int a1] M0) fun x2 M1 =>
  jn (fun (s3 : Option Nat × Mem) =>
    jn (fun (s4 : Unit) =>
      some (.int ((-1 : Int32)), s3.2)) fun j44 =>
    if s3.1 = none then (
      j44 ()) else (
      if a3 < ((1 : Int32)) then (
        j44 ()) else (
        if a3 ≤ ((200 : Int32)) then (
          gtP (12, 19) s3.2 a0 2 fun x5 =>
          vC (4, 22) s3.2 x5 <|
          cV (rec 19 [va_rf x5, va_rf x2, .int ((20000 : Int32))] s3.2) fun M6 =>
          vC (12, 19) M6 a0 <|
          cI (rec 178 [va_rf a0, va_rf s3.1, .int a3] M6) fun x8 M7 =>
          jn (fun (s9 : Int32) =>
            jn (fun (s10 : Mem) =>
              gtP (12, 19) s10 a0 2 fun x11 =>
              vC (4, 22) s10 x11 <|
              cI (rec 22 [va_rf x11] s10) fun x13 M12 =>
              if x13 = 0 then (
                gtP (12, 19) M12 a0 11 fun x14 =>
                gtP (12, 19) M12 a0 12 fun x15 =>
                acI M12 x14 ((0 : Int32)) x15 ((0 : Int32)) ((6 : Int32)) fun M16 =>
                jn (fun (s17 : Int32) =>
                  ptI (12, 19) M16 a0 13 s17 fun M18 =>
                  jn (fun (s19 : Int32) =>
                    some (.int s19, M18)) fun j175 =>
                  if x8 = 0 then (
                    j175 ((0 : Int32))) else (
                    j175 ((1 : Int32)))) fun j162 =>
                if x8 = 0 then (
                  gtI (8, 9) M16 s3.1 4 fun x20 =>
                  j162 x20) else (
                  j162 ((0 : Int32)))) else (
                some (.int ((-4 : Int32)), M12))) fun j119 =>
            lp (c153_82 rec a0 j119 s3) 4294967296 (s9, (0 : Int32), M7)) fun j77 =>
          if x8 = 0 then (
            j77 ((1 : Int32))) else (
            j77 ((0 : Int32)))) else (
          j44 ())))) fun j25 =>
  if x2 = none then (
    j25 (none, M1)) else (
    gtP (6, 18) M1 x2 4 fun x28 =>
    cP (rec 168 [va_rf x28, .int a2] M1) fun x30 M29 =>
    j25 (x30, M29))
def b153 (rec : Nat → List Value → Mem → XA) (as : List Value) (M0 : Mem) : XA := aR as fun a0 as => aI as fun a1 as => aI as fun a2 as => aI as fun a3 as => aZ as (c153 rec a0 a1 a2 a3 M0)
set_option maxRecDepth 100000 in
set_option maxHeartbeats 4000000 in
theorem k153 {S : XS} {G : XG} {K : Nat × Nat} {l : Launch} {d : Nat} {rec : Nat → List Value → Mem → XA} (hs : XSnd l xmt rec d) (a0 : Option Nat) (a1 : Int32) (a2 : Int32) (a3 : Int32) (M0 : Mem) : Xe S G K l (yX11_property, cX11_property, 9, some .int) d 0 [some (va_rf a0), some (.int a1), some (.int a2), some (.int a3), none, none, none, none, none] [] M0 (c153 rec a0 a1 a2 a3 M0) := by
  unfold c153
  refine x_aload_n dX11_property_0 rfl ?_
  refine x_iload_n dX11_property_1 rfl ?_
  refine cmX11_109 rfl hs (Nat.le_of_ble_eq_true rfl) dX11_property_2 (fun x2 M1 => ?_)
  refine x_astore (lo' := [some (va_rf a0), some (.int a1), some (.int a2), some (.int a3), some (va_rf x2), none, none, none, none]) dX11_property_5 (by decide) rfl rfl ?_
  refine x_aload dX11_property_7 rfl ?_
  refine x_jn (σ := Option Nat × Mem) 25 (fun s3 => [some (va_rf a0), none, none, some (.int a3), some (va_rf x2), none, none, none, none]) (fun s3 => [va_rf s3.1]) (fun s3 => s3.2) (fun s3 => ?_) (fun j25 hj25 => ?_)
  · refine x_astore (lo' := [some (va_rf a0), none, none, some (.int a3), some (va_rf x2), some (va_rf s3.1), none, none, none]) dX11_property_25 (by decide) (xok_r rfl) rfl ?_
    refine x_aload dX11_property_27 rfl ?_
    refine x_jn (σ := Unit) 44 (fun s4 => [none, none, none, none, none, none, none, none, none]) (fun s4 => []) (fun s4 => s3.2) (fun s4 => ?_) (fun j44 hj44 => ?_)
    · refine x_iconst (v := -1) dX11_property_44 (by decide) ?_
      exact x_iret rfl dX11_property_45
    refine x_ifnull (tgt := 44) dX11_property_29 (by decide) (fun _ => ?_) (fun _ => ?_)
    · exact x_weak (by exact trivial) (hj44 ())
    · refine x_iload_n dX11_property_32 rfl ?_
      refine x_iconst (v := 1) dX11_property_33 (by decide) ?_
      refine x_icmp_lt (tgt := 44) dX11_property_34 (by decide) (fun _ => ?_) (fun _ => ?_)
      · exact x_weak (by exact trivial) (hj44 ())
      · refine x_iload_n dX11_property_37 rfl ?_
        refine x_sipush (v := 200) dX11_property_38 (by decide) ?_
        refine x_icmp_le (tgt := 46) dX11_property_41 (by decide) (fun _ => ?_) (fun _ => ?_)
        · refine x_aload_n dX11_property_46 rfl ?_
          refine gfX11_26 rfl dX11_property_47 (fun x5 => ?_)
          refine x_aload dX11_property_50 rfl ?_
          refine x_sipush (v := 20000) dX11_property_52 (by decide) ?_
          refine cmX11_193 rfl hs (Nat.le_of_ble_eq_true rfl) dX11_property_55 (fun M6 => ?_)
          refine x_aload_n dX11_property_58 rfl ?_
          refine x_aload dX11_property_59 rfl ?_
          refine x_iload_n dX11_property_61 rfl ?_
          refine cmX11_317 rfl hs (Nat.le_of_ble_eq_true rfl) dX11_property_62 (fun x8 M7 => ?_)
          refine x_istore (lo' := [some (va_rf a0), none, none, some (.int a3), some (va_rf x2), some (va_rf s3.1), some (.int x8), none, none]) dX11_property_65 (by decide) (xok_r rfl) rfl ?_
          refine x_iload dX11_property_67 rfl ?_
          refine x_jn (σ := Int32) 77 (fun s9 => [some (va_rf a0), none, none, none, none, some (va_rf s3.1), some (.int x8), none, none]) (fun s9 => [.int s9]) (fun s9 => M7) (fun s9 => ?_) (fun j77 hj77 => ?_)
          · refine x_istore (lo' := [some (va_rf a0), none, none, none, none, some (va_rf s3.1), some (.int x8), some (.int s9), none]) dX11_property_77 (by decide) rfl rfl ?_
            refine x_iconst (v := 0) dX11_property_79 (by decide) ?_
            refine x_istore (lo' := [some (va_rf a0), none, none, none, none, some (va_rf s3.1), some (.int x8), some (.int s9), some (.int ((0 : Int32)))]) dX11_property_80 (by decide) rfl rfl ?_
            refine x_jn (σ := Mem) 119 (fun s10 => [some (va_rf a0), none, none, none, none, some (va_rf s3.1), some (.int x8), none, none]) (fun s10 => []) (fun s10 => s10) (fun s10 => ?_) (fun j119 hj119 => ?_)
            · refine x_aload_n dX11_property_119 rfl ?_
              refine gfX11_26 rfl dX11_property_120 (fun x11 => ?_)
              refine cmX11_294 rfl hs (Nat.le_of_ble_eq_true rfl) dX11_property_123 (fun x13 M12 => ?_)
              refine x_if_eq (tgt := 132) dX11_property_126 (by decide) (fun _ => ?_) (fun _ => ?_)
              · refine x_aload_n dX11_property_132 rfl ?_
                refine gfX11_50 rfl dX11_property_133 (fun x14 => ?_)
                refine x_iconst (v := 0) dX11_property_136 (by decide) ?_
                refine x_aload_n dX11_property_137 rfl ?_
                refine gfX11_54 rfl dX11_property_138 (fun x15 => ?_)
                refine x_iconst (v := 0) dX11_property_141 (by decide) ?_
                refine x_bipush (v := 6) dX11_property_142 (by decide) ?_
                refine x_acI lk_methodLink_X11_326 w_acn w_acs w_aci (Nat.le_of_ble_eq_true rfl) dX11_property_144 (fun M16 => ?_)
                refine x_aload_n dX11_property_147 rfl ?_
                refine x_iload dX11_property_148 rfl ?_
                refine x_jn (σ := Int32) 162 (fun s17 => [none, none, none, none, none, none, some (.int x8), none, none]) (fun s17 => [.int s17, va_rf a0]) (fun s17 => M16) (fun s17 => ?_) (fun j162 hj162 => ?_)
                · refine pfX11_57 rfl dX11_property_162 (fun M18 => ?_)
                  refine x_iload dX11_property_165 rfl ?_
                  refine x_jn (σ := Int32) 175 (fun s19 => [none, none, none, none, none, none, none, none, none]) (fun s19 => [.int s19]) (fun s19 => M18) (fun s19 => ?_) (fun j175 hj175 => ?_)
                  · exact x_iret rfl dX11_property_175
                  refine x_if_eq (tgt := 174) dX11_property_167 (by decide) (fun _ => ?_) (fun _ => ?_)
                  · refine x_iconst (v := 0) dX11_property_174 (by decide) ?_
                    exact x_weak (by exact trivial) (hj175 ((0 : Int32)))
                  · refine x_iconst (v := 1) dX11_property_170 (by decide) ?_
                    refine x_goto (tgt := 175) dX11_property_171 (by decide) ?_
                    exact x_weak (by exact trivial) (hj175 ((1 : Int32)))
                refine x_if_eq (tgt := 157) dX11_property_150 (by decide) (fun _ => ?_) (fun _ => ?_)
                · refine x_aload dX11_property_157 rfl ?_
                  refine gfX11_146 rfl dX11_property_159 (fun x20 => ?_)
                  exact x_weak (by exact ⟨rfl, trivial⟩) (hj162 x20)
                · refine x_iconst (v := 0) dX11_property_153 (by decide) ?_
                  refine x_goto (tgt := 162) dX11_property_154 (by decide) ?_
                  exact x_weak (by exact ⟨rfl, trivial⟩) (hj162 ((0 : Int32)))
              · refine x_bipush (v := -4) dX11_property_129 (by decide) ?_
                exact x_iret rfl dX11_property_131
            refine x_weak (by exact ⟨rfl, ⟨rfl, ⟨rfl, ⟨rfl, ⟨rfl, trivial⟩⟩⟩⟩⟩) (x_lp (σ := Int32 × Int32 × Mem) 82 (fun s21 => [some (va_rf a0), none, none, none, none, some (va_rf s3.1), some (.int x8), some (.int s21.1), some (.int s21.2.1)]) (fun s21 => []) (fun s21 => s21.2.2) (fun s21 j82 hj82 => ?_) 4294967296 (s9, (0 : Int32), M7))
            · refine x_iload dX11_property_82 rfl ?_
              refine x_ldcw (v := 1000000) dX11_property_84 lk_constant_X11_321 ?_
              refine x_icmp_ge (tgt := 119) dX11_property_87 (by decide) (fun _ => ?_) (fun _ => ?_)
              · exact x_weak (by exact ⟨rfl, ⟨rfl, ⟨rfl, trivial⟩⟩⟩) (hj119 s21.2.2)
              · refine x_iload dX11_property_90 rfl ?_
                refine x_if_eq (tgt := 119) dX11_property_92 (by decide) (fun _ => ?_) (fun _ => ?_)
                · exact x_weak (by exact ⟨rfl, ⟨rfl, ⟨rfl, trivial⟩⟩⟩) (hj119 s21.2.2)
                · refine x_aload_n dX11_property_95 rfl ?_
                  refine gfX11_26 rfl dX11_property_96 (fun x22 => ?_)
                  refine cmX11_294 rfl hs (Nat.le_of_ble_eq_true rfl) dX11_property_99 (fun x24 M23 => ?_)
                  refine x_if_ne (tgt := 119) dX11_property_102 (by decide) (fun _ => ?_) (fun _ => ?_)
                  · refine x_aload_n dX11_property_105 rfl ?_
                    refine x_aload dX11_property_106 rfl ?_
                    refine cmX11_322 rfl hs (Nat.le_of_ble_eq_true rfl) dX11_property_108 (fun x26 M25 => ?_)
                    refine x_istore (lo' := [some (va_rf a0), none, none, none, none, some (va_rf s3.1), some (.int x8), some (.int x26), some (.int s21.2.1)]) dX11_property_111 (by decide) rfl rfl ?_
                    refine x_iincN (v := 1) (lo' := fun x27 => [some (va_rf a0), none, none, none, none, some (va_rf s3.1), some (.int x8), some (.int x26), some (.int x27)]) (by decide) dX11_property_113 rfl (by decide) rfl (fun _ => rfl) (fun x27 => ?_)
                    refine x_goto (tgt := 82) dX11_property_116 (by decide) ?_
                    exact x_weak (by exact ⟨rfl, ⟨rfl, ⟨rfl, ⟨rfl, ⟨rfl, trivial⟩⟩⟩⟩⟩) (hj82 (x26, x27, M25))
                  · exact x_weak (by exact ⟨rfl, ⟨rfl, ⟨rfl, trivial⟩⟩⟩) (hj119 M23)
          refine x_if_ne (tgt := 76) dX11_property_69 (by decide) (fun _ => ?_) (fun _ => ?_)
          · refine x_iconst (v := 1) dX11_property_72 (by decide) ?_
            refine x_goto (tgt := 77) dX11_property_73 (by decide) ?_
            exact x_weak (by exact ⟨rfl, ⟨rfl, ⟨rfl, trivial⟩⟩⟩) (hj77 ((1 : Int32)))
          · refine x_iconst (v := 0) dX11_property_76 (by decide) ?_
            exact x_weak (by exact ⟨rfl, ⟨rfl, ⟨rfl, trivial⟩⟩⟩) (hj77 ((0 : Int32)))
        · exact x_weak (by exact trivial) (hj44 ())
  refine x_ifnonnull (tgt := 16) dX11_property_9 (by decide) (fun _ => ?_) (fun _ => ?_)
  · refine x_null dX11_property_12 ?_
    refine x_goto (tgt := 25) dX11_property_13 (by decide) ?_
    exact x_weak (by exact ⟨rfl, ⟨rfl, ⟨rfl, trivial⟩⟩⟩) (hj25 (none, M1))
  · refine x_aload dX11_property_16 rfl ?_
    refine gfX11_124 rfl dX11_property_18 (fun x28 => ?_)
    refine x_iload_n dX11_property_21 rfl ?_
    refine cmX11_130 rfl hs (Nat.le_of_ble_eq_true rfl) dX11_property_22 (fun x30 M29 => ?_)
    exact x_weak (by exact ⟨rfl, ⟨rfl, ⟨rfl, trivial⟩⟩⟩) (hj25 (x30, M29))
theorem s153 {l : Launch} {d : Nat} {rec : Nat → List Value → Mem → XA} (hS : Nonempty XS) (hs : XSnd l xmt rec d) : Snd1 l 153 (b153 rec) d := by
  intro as M r M' h0
  unfold b153 at h0
  obtain ⟨a0, l1, e1, h1⟩ := aR_inv h0
  obtain ⟨a1, l2, e2, h2⟩ := aI_inv h1
  obtain ⟨a2, l3, e3, h3⟩ := aI_inv h2
  obtain ⟨a3, l4, e4, h4⟩ := aI_inv h3
  obtain ⟨ez, h⟩ := aZ_inv h4
  subst ez
  subst e4
  subst e3
  subst e2
  subst e1
  exact xmet (M := M) (as := [va_rf a0, .int a1, .int a2, .int a3]) (lo := [some (va_rf a0), some (.int a1), some (.int a2), some (.int a3)]) 153 xq153 xm153 (by rw [xargs_rf, xargs_i, xargs_i, xargs_i, xargs_nil]; exact ⟨rfl, ⟨rfl, ⟨rfl, ⟨rfl, trivial⟩⟩⟩⟩) (by rw [xargs_rf, xargs_i, xargs_i, xargs_i, xargs_nil]; exact Nat.le_of_ble_eq_true rfl) (fun S G K => x_weak (by exact ⟨rfl, ⟨rfl, ⟨rfl, ⟨rfl, trivial⟩⟩⟩⟩) (k153 hs a0 a1 a2 a3 M)) h hS
set_option maxRecDepth 100000 in
def c154 (rec : Nat → List Value → Mem → XA) (a0 : Option Nat) (a1 : Int32) (M0 : Mem) : XA :=
  gtI (12, 19) M0 a0 13 fun x1 =>
  jn (fun (s2 : Unit) =>
    some (.int ((-1 : Int32)), M0)) fun j23 =>
  if x1 = ((-2 : Int32)) then (
    j23 ()) else (
    if a1 < ((-2 : Int32)) then (
      j23 ()) else (
      gtI (12, 19) M0 a0 13 fun x3 =>
      if a1 < x3 then (
        jn (fun (s4 : Int32) =>
          some (.int s4, M0)) fun j60 =>
        if a1 = ((-2 : Int32)) then (
          gtP (12, 19) M0 a0 12 fun x5 =>
          alI 100 M0 x5 ((5 : Int32)) fun x6 =>
          j60 x6) else (
          if a1 = ((-1 : Int32)) then (
            gtP (12, 19) M0 a0 12 fun x7 =>
            alI 100 M0 x7 ((4 : Int32)) fun x8 =>
            j60 x8) else (
            gtP (12, 19) M0 a0 12 fun x9 =>
            alI 100 M0 x9 a1 fun x10 =>
            j60 x10))) else (
        j23 ())))
def b154 (rec : Nat → List Value → Mem → XA) (as : List Value) (M0 : Mem) : XA := aR as fun a0 as => aI as fun a1 as => aZ as (c154 rec a0 a1 M0)
set_option maxRecDepth 100000 in
set_option maxHeartbeats 4000000 in
theorem k154 {S : XS} {G : XG} {K : Nat × Nat} {l : Launch} {d : Nat} {rec : Nat → List Value → Mem → XA} (hs : XSnd l xmt rec d) (a0 : Option Nat) (a1 : Int32) (M0 : Mem) : Xe S G K l (yX11_small, cX11_small, 2, some .int) d 0 [some (va_rf a0), some (.int a1)] [] M0 (c154 rec a0 a1 M0) := by
  unfold c154
  refine x_aload_n dX11_small_0 rfl ?_
  refine gfX11_57 rfl dX11_small_1 (fun x1 => ?_)
  refine x_bipush (v := -2) dX11_small_4 (by decide) ?_
  refine x_jn (σ := Unit) 23 (fun s2 => [none, none]) (fun s2 => []) (fun s2 => M0) (fun s2 => ?_) (fun j23 hj23 => ?_)
  · refine x_iconst (v := -1) dX11_small_23 (by decide) ?_
    exact x_iret rfl dX11_small_24
  refine x_icmp_eq (tgt := 23) dX11_small_6 (by decide) (fun _ => ?_) (fun _ => ?_)
  · exact x_weak (by exact trivial) (hj23 ())
  · refine x_iload_n dX11_small_9 rfl ?_
    refine x_bipush (v := -2) dX11_small_10 (by decide) ?_
    refine x_icmp_lt (tgt := 23) dX11_small_12 (by decide) (fun _ => ?_) (fun _ => ?_)
    · exact x_weak (by exact trivial) (hj23 ())
    · refine x_iload_n dX11_small_15 rfl ?_
      refine x_aload_n dX11_small_16 rfl ?_
      refine gfX11_57 rfl dX11_small_17 (fun x3 => ?_)
      refine x_icmp_lt (tgt := 25) dX11_small_20 (by decide) (fun _ => ?_) (fun _ => ?_)
      · refine x_iload_n dX11_small_25 rfl ?_
        refine x_bipush (v := -2) dX11_small_26 (by decide) ?_
        refine x_jn (σ := Int32) 60 (fun s4 => [none, none]) (fun s4 => [.int s4]) (fun s4 => M0) (fun s4 => ?_) (fun j60 hj60 => ?_)
        · exact x_iret rfl dX11_small_60
        refine x_icmp_ne (tgt := 40) dX11_small_28 (by decide) (fun _ => ?_) (fun _ => ?_)
        · refine x_aload_n dX11_small_31 rfl ?_
          refine gfX11_54 rfl dX11_small_32 (fun x5 => ?_)
          refine x_iconst (v := 5) dX11_small_35 (by decide) ?_
          refine x_iald dX11_small_36 (fun x6 => ?_)
          refine x_goto (tgt := 60) dX11_small_37 (by decide) ?_
          exact x_weak (by exact trivial) (hj60 x6)
        · refine x_iload_n dX11_small_40 rfl ?_
          refine x_iconst (v := -1) dX11_small_41 (by decide) ?_
          refine x_icmp_ne (tgt := 54) dX11_small_42 (by decide) (fun _ => ?_) (fun _ => ?_)
          · refine x_aload_n dX11_small_45 rfl ?_
            refine gfX11_54 rfl dX11_small_46 (fun x7 => ?_)
            refine x_iconst (v := 4) dX11_small_49 (by decide) ?_
            refine x_iald dX11_small_50 (fun x8 => ?_)
            refine x_goto (tgt := 60) dX11_small_51 (by decide) ?_
            exact x_weak (by exact trivial) (hj60 x8)
          · refine x_aload_n dX11_small_54 rfl ?_
            refine gfX11_54 rfl dX11_small_55 (fun x9 => ?_)
            refine x_iload_n dX11_small_58 rfl ?_
            refine x_iald dX11_small_59 (fun x10 => ?_)
            exact x_weak (by exact trivial) (hj60 x10)
      · exact x_weak (by exact trivial) (hj23 ())
theorem s154 {l : Launch} {d : Nat} {rec : Nat → List Value → Mem → XA} (hS : Nonempty XS) (hs : XSnd l xmt rec d) : Snd1 l 154 (b154 rec) d := by
  intro as M r M' h0
  unfold b154 at h0
  obtain ⟨a0, l1, e1, h1⟩ := aR_inv h0
  obtain ⟨a1, l2, e2, h2⟩ := aI_inv h1
  obtain ⟨ez, h⟩ := aZ_inv h2
  subst ez
  subst e2
  subst e1
  exact xmet (M := M) (as := [va_rf a0, .int a1]) (lo := [some (va_rf a0), some (.int a1)]) 154 xq154 xm154 (by rw [xargs_rf, xargs_i, xargs_nil]; exact ⟨rfl, ⟨rfl, trivial⟩⟩) (by rw [xargs_rf, xargs_i, xargs_nil]; exact Nat.le_of_ble_eq_true rfl) (fun S G K => x_weak (by exact ⟨rfl, ⟨rfl, trivial⟩⟩) (k154 hs a0 a1 M)) h hS
set_option maxRecDepth 100000 in
def c155 (rec : Nat → List Value → Mem → XA) (a0 : Option Nat) (a1 : Int32) (a2 : Int32) (M0 : Mem) : XA :=
  jn (fun (s1 : Int32 × Mem) =>
    some (.int s1.1, s1.2)) fun j22 =>
  jn (fun (s2 : Mem) =>
    j22 ((-2 : Int32), s2)) fun j12 =>
  if a2 < 0 then (
    j12 M0) else (
    cI (rec 180 [.int a1] M0) fun x4 M3 =>
    if a2 < x4 then (
      cI (rec 181 [.int a1, .int a2] M3) fun x6 M5 =>
      j22 (x6, M5)) else (
      j12 M3))
def b155 (rec : Nat → List Value → Mem → XA) (as : List Value) (M0 : Mem) : XA := aR as fun a0 as => aI as fun a1 as => aI as fun a2 as => aZ as (c155 rec a0 a1 a2 M0)
set_option maxRecDepth 100000 in
set_option maxHeartbeats 4000000 in
theorem k155 {S : XS} {G : XG} {K : Nat × Nat} {l : Launch} {d : Nat} {rec : Nat → List Value → Mem → XA} (hs : XSnd l xmt rec d) (a0 : Option Nat) (a1 : Int32) (a2 : Int32) (M0 : Mem) : Xe S G K l (yX11_smaller, cX11_smaller, 3, some .int) d 0 [some (va_rf a0), some (.int a1), some (.int a2)] [] M0 (c155 rec a0 a1 a2 M0) := by
  unfold c155
  refine x_iload_n dX11_smaller_0 rfl ?_
  refine x_jn (σ := Int32 × Mem) 22 (fun s1 => [none, none, none]) (fun s1 => [.int s1.1]) (fun s1 => s1.2) (fun s1 => ?_) (fun j22 hj22 => ?_)
  · exact x_iret rfl dX11_smaller_22
  refine x_jn (σ := Mem) 12 (fun s2 => [none, none, none]) (fun s2 => []) (fun s2 => s2) (fun s2 => ?_) (fun j12 hj12 => ?_)
  · refine x_bipush (v := -2) dX11_smaller_12 (by decide) ?_
    refine x_goto (tgt := 22) dX11_smaller_14 (by decide) ?_
    exact x_weak (by exact trivial) (hj22 ((-2 : Int32), s2))
  refine x_if_lt (tgt := 12) dX11_smaller_1 (by decide) (fun _ => ?_) (fun _ => ?_)
  · exact x_weak (by exact trivial) (hj12 M0)
  · refine x_iload_n dX11_smaller_4 rfl ?_
    refine x_iload_n dX11_smaller_5 rfl ?_
    refine cmX11_332 rfl hs (Nat.le_of_ble_eq_true rfl) dX11_smaller_6 (fun x4 M3 => ?_)
    refine x_icmp_lt (tgt := 17) dX11_smaller_9 (by decide) (fun _ => ?_) (fun _ => ?_)
    · refine x_iload_n dX11_smaller_17 rfl ?_
      refine x_iload_n dX11_smaller_18 rfl ?_
      refine cmX11_335 rfl hs (Nat.le_of_ble_eq_true rfl) dX11_smaller_19 (fun x6 M5 => ?_)
      exact x_weak (by exact trivial) (hj22 (x6, M5))
    · exact x_weak (by exact trivial) (hj12 M3)
theorem s155 {l : Launch} {d : Nat} {rec : Nat → List Value → Mem → XA} (hS : Nonempty XS) (hs : XSnd l xmt rec d) : Snd1 l 155 (b155 rec) d := by
  intro as M r M' h0
  unfold b155 at h0
  obtain ⟨a0, l1, e1, h1⟩ := aR_inv h0
  obtain ⟨a1, l2, e2, h2⟩ := aI_inv h1
  obtain ⟨a2, l3, e3, h3⟩ := aI_inv h2
  obtain ⟨ez, h⟩ := aZ_inv h3
  subst ez
  subst e3
  subst e2
  subst e1
  exact xmet (M := M) (as := [va_rf a0, .int a1, .int a2]) (lo := [some (va_rf a0), some (.int a1), some (.int a2)]) 155 xq155 xm155 (by rw [xargs_rf, xargs_i, xargs_i, xargs_nil]; exact ⟨rfl, ⟨rfl, ⟨rfl, trivial⟩⟩⟩) (by rw [xargs_rf, xargs_i, xargs_i, xargs_nil]; exact Nat.le_of_ble_eq_true rfl) (fun S G K => x_weak (by exact ⟨rfl, ⟨rfl, ⟨rfl, trivial⟩⟩⟩) (k155 hs a0 a1 a2 M)) h hS
set_option maxRecDepth 100000 in
def c156 (rec : Nat → List Value → Mem → XA) (a0 : Option Nat) (a1 : Int32) (M0 : Mem) : XA :=
  jn (fun (s1 : Unit) =>
    some (.int ((-1 : Int32)), M0)) fun j9 =>
  if a1 < 0 then (
    j9 ()) else (
    if a1 ≤ ((2 : Int32)) then (
      gtP (12, 19) M0 a0 5 fun x2 =>
      vC (0, 3) M0 x2 <|
      cI (rec 346 [va_rf x2] M0) fun x4 M3 =>
      if x4 < ((8 : Int32)) then (
        gtP (12, 19) M3 a0 5 fun x5 =>
        nO (2, 7) M3 fun x6 M7 =>
        vC (2, 7) M7 x6 <|
        cV (rec 5 [va_rf x6, .int a1] M7) fun M8 =>
        vC (0, 3) M8 x5 <|
        cI (rec 350 [va_rf x5, va_rf x6] M8) fun x10 M9 =>
        gtP (12, 19) M9 a0 5 fun x11 =>
        vC (0, 3) M9 x11 <|
        cI (rec 346 [va_rf x11] M9) fun x13 M12 =>
        some (.int (x13 - ((1 : Int32))), M12)) else (
        some (.int ((-3 : Int32)), M3))) else (
      j9 ()))
def b156 (rec : Nat → List Value → Mem → XA) (as : List Value) (M0 : Mem) : XA := aR as fun a0 as => aI as fun a1 as => aZ as (c156 rec a0 a1 M0)
set_option maxRecDepth 100000 in
set_option maxHeartbeats 4000000 in
theorem k156 {S : XS} {G : XG} {K : Nat × Nat} {l : Launch} {d : Nat} {rec : Nat → List Value → Mem → XA} (hs : XSnd l xmt rec d) (a0 : Option Nat) (a1 : Int32) (M0 : Mem) : Xe S G K l (yX11_history, cX11_history, 2, some .int) d 0 [some (va_rf a0), some (.int a1)] [] M0 (c156 rec a0 a1 M0) := by
  unfold c156
  refine x_iload_n dX11_history_0 rfl ?_
  refine x_jn (σ := Unit) 9 (fun s1 => [none, none]) (fun s1 => []) (fun s1 => M0) (fun s1 => ?_) (fun j9 hj9 => ?_)
  · refine x_iconst (v := -1) dX11_history_9 (by decide) ?_
    exact x_iret rfl dX11_history_10
  refine x_if_lt (tgt := 9) dX11_history_1 (by decide) (fun _ => ?_) (fun _ => ?_)
  · exact x_weak (by exact trivial) (hj9 ())
  · refine x_iload_n dX11_history_4 rfl ?_
    refine x_iconst (v := 2) dX11_history_5 (by decide) ?_
    refine x_icmp_le (tgt := 11) dX11_history_6 (by decide) (fun _ => ?_) (fun _ => ?_)
    · refine x_aload_n dX11_history_11 rfl ?_
      refine gfX11_33 rfl dX11_history_12 (fun x2 => ?_)
      refine cmX11_88 rfl hs (Nat.le_of_ble_eq_true rfl) dX11_history_15 (fun x4 M3 => ?_)
      refine x_bipush (v := 8) dX11_history_18 (by decide) ?_
      refine x_icmp_lt (tgt := 26) dX11_history_20 (by decide) (fun _ => ?_) (fun _ => ?_)
      · refine x_aload_n dX11_history_26 rfl ?_
        refine gfX11_33 rfl dX11_history_27 (fun x5 => ?_)
        refine nwX11_338 rfl dX11_history_30 (fun x6 M7 => ?_)
        refine x_dup dX11_history_33 (xc1_r _) ?_
        refine x_iload_n dX11_history_34 rfl ?_
        refine cmX11_340 rfl hs (Nat.le_of_ble_eq_true rfl) dX11_history_35 (fun M8 => ?_)
        refine cmX11_106 rfl hs (Nat.le_of_ble_eq_true rfl) dX11_history_38 (fun x10 M9 => ?_)
        refine x_pop dX11_history_41 (xc1_i _) ?_
        refine x_aload_n dX11_history_42 rfl ?_
        refine gfX11_33 rfl dX11_history_43 (fun x11 => ?_)
        refine cmX11_88 rfl hs (Nat.le_of_ble_eq_true rfl) dX11_history_46 (fun x13 M12 => ?_)
        refine x_iconst (v := 1) dX11_history_49 (by decide) ?_
        refine x_isub dX11_history_50 ?_
        exact x_iret rfl dX11_history_51
      · refine x_bipush (v := -3) dX11_history_23 (by decide) ?_
        exact x_iret rfl dX11_history_25
    · exact x_weak (by exact trivial) (hj9 ())
theorem s156 {l : Launch} {d : Nat} {rec : Nat → List Value → Mem → XA} (hS : Nonempty XS) (hs : XSnd l xmt rec d) : Snd1 l 156 (b156 rec) d := by
  intro as M r M' h0
  unfold b156 at h0
  obtain ⟨a0, l1, e1, h1⟩ := aR_inv h0
  obtain ⟨a1, l2, e2, h2⟩ := aI_inv h1
  obtain ⟨ez, h⟩ := aZ_inv h2
  subst ez
  subst e2
  subst e1
  exact xmet (M := M) (as := [va_rf a0, .int a1]) (lo := [some (va_rf a0), some (.int a1)]) 156 xq156 xm156 (by rw [xargs_rf, xargs_i, xargs_nil]; exact ⟨rfl, ⟨rfl, trivial⟩⟩) (by rw [xargs_rf, xargs_i, xargs_nil]; exact Nat.le_of_ble_eq_true rfl) (fun S G K => x_weak (by exact ⟨rfl, ⟨rfl, trivial⟩⟩) (k156 hs a0 a1 M)) h hS
set_option maxRecDepth 100000 in
def c157 (rec : Nat → List Value → Mem → XA) (a0 : Option Nat) (a1 : Int32) (a2 : Int32) (a3 : Int32) (a4 : Int32) (a5 : Int32) (a6 : Int32) (M0 : Mem) : XA :=
  vC (12, 19) M0 a0 <|
  cP (rec 171 [va_rf a0, .int a1] M0) fun x2 M1 =>
  jn (fun (s3 : Unit) =>
    some (.int ((-1 : Int32)), M1)) fun j41 =>
  if x2 = none then (
    j41 ()) else (
    if a2 < 0 then (
      j41 ()) else (
      if ((1 : Int32)) < a2 then (
        j41 ()) else (
        if a5 < 0 then (
          j41 ()) else (
          if ((1000 : Int32)) < a6 then (
            j41 ()) else (
            if a5 ≤ a6 then (
              gtI (2, 7) M1 x2 1 fun x4 =>
              jn (fun (s5 : Int32 × Mem) =>
                some (.int s5.1, s5.2)) fun j71 =>
              if x4 < ((8 : Int32)) then (
                vC (2, 7) M1 x2 <|
                cI (rec 6 [va_rf x2, .int a2, .int a3, .int a4, .int a5, .int a6] M1) fun x7 M6 =>
                j71 (x7, M6)) else (
                j71 ((-3 : Int32), M1))) else (
              j41 ()))))))
def b157 (rec : Nat → List Value → Mem → XA) (as : List Value) (M0 : Mem) : XA := aR as fun a0 as => aI as fun a1 as => aI as fun a2 as => aI as fun a3 as => aI as fun a4 as => aI as fun a5 as => aI as fun a6 as => aZ as (c157 rec a0 a1 a2 a3 a4 a5 a6 M0)
set_option maxRecDepth 100000 in
set_option maxHeartbeats 4000000 in
theorem k157 {S : XS} {G : XG} {K : Nat × Nat} {l : Launch} {d : Nat} {rec : Nat → List Value → Mem → XA} (hs : XSnd l xmt rec d) (a0 : Option Nat) (a1 : Int32) (a2 : Int32) (a3 : Int32) (a4 : Int32) (a5 : Int32) (a6 : Int32) (M0 : Mem) : Xe S G K l (yX11_op, cX11_op, 8, some .int) d 0 [some (va_rf a0), some (.int a1), some (.int a2), some (.int a3), some (.int a4), some (.int a5), some (.int a6), none] [] M0 (c157 rec a0 a1 a2 a3 a4 a5 a6 M0) := by
  unfold c157
  refine x_aload_n dX11_op_0 rfl ?_
  refine x_iload_n dX11_op_1 rfl ?_
  refine cmX11_342 rfl hs (Nat.le_of_ble_eq_true rfl) dX11_op_2 (fun x2 M1 => ?_)
  refine x_astore (lo' := [some (va_rf a0), some (.int a1), some (.int a2), some (.int a3), some (.int a4), some (.int a5), some (.int a6), some (va_rf x2)]) dX11_op_5 (by decide) rfl rfl ?_
  refine x_aload dX11_op_7 rfl ?_
  refine x_jn (σ := Unit) 41 (fun s3 => [none, none, none, none, none, none, none, none]) (fun s3 => []) (fun s3 => M1) (fun s3 => ?_) (fun j41 hj41 => ?_)
  · refine x_iconst (v := -1) dX11_op_41 (by decide) ?_
    exact x_iret rfl dX11_op_42
  refine x_ifnull (tgt := 41) dX11_op_9 (by decide) (fun _ => ?_) (fun _ => ?_)
  · exact x_weak (by exact trivial) (hj41 ())
  · refine x_iload_n dX11_op_12 rfl ?_
    refine x_if_lt (tgt := 41) dX11_op_13 (by decide) (fun _ => ?_) (fun _ => ?_)
    · exact x_weak (by exact trivial) (hj41 ())
    · refine x_iload_n dX11_op_16 rfl ?_
      refine x_iconst (v := 1) dX11_op_17 (by decide) ?_
      refine x_icmp_gt (tgt := 41) dX11_op_18 (by decide) (fun _ => ?_) (fun _ => ?_)
      · exact x_weak (by exact trivial) (hj41 ())
      · refine x_iload dX11_op_21 rfl ?_
        refine x_if_lt (tgt := 41) dX11_op_23 (by decide) (fun _ => ?_) (fun _ => ?_)
        · exact x_weak (by exact trivial) (hj41 ())
        · refine x_iload dX11_op_26 rfl ?_
          refine x_sipush (v := 1000) dX11_op_28 (by decide) ?_
          refine x_icmp_gt (tgt := 41) dX11_op_31 (by decide) (fun _ => ?_) (fun _ => ?_)
          · exact x_weak (by exact trivial) (hj41 ())
          · refine x_iload dX11_op_34 rfl ?_
            refine x_iload dX11_op_36 rfl ?_
            refine x_icmp_le (tgt := 43) dX11_op_38 (by decide) (fun _ => ?_) (fun _ => ?_)
            · refine x_aload dX11_op_43 rfl ?_
              refine gfX11_346 rfl dX11_op_45 (fun x4 => ?_)
              refine x_bipush (v := 8) dX11_op_48 (by decide) ?_
              refine x_jn (σ := Int32 × Mem) 71 (fun s5 => [none, none, none, none, none, none, none, none]) (fun s5 => [.int s5.1]) (fun s5 => s5.2) (fun s5 => ?_) (fun j71 hj71 => ?_)
              · exact x_iret rfl dX11_op_71
              refine x_icmp_lt (tgt := 58) dX11_op_50 (by decide) (fun _ => ?_) (fun _ => ?_)
              · refine x_aload dX11_op_58 rfl ?_
                refine x_iload_n dX11_op_60 rfl ?_
                refine x_iload_n dX11_op_61 rfl ?_
                refine x_iload dX11_op_62 rfl ?_
                refine x_iload dX11_op_64 rfl ?_
                refine x_iload dX11_op_66 rfl ?_
                refine cmX11_347 rfl hs (Nat.le_of_ble_eq_true rfl) dX11_op_68 (fun x7 M6 => ?_)
                exact x_weak (by exact trivial) (hj71 (x7, M6))
              · refine x_bipush (v := -3) dX11_op_53 (by decide) ?_
                refine x_goto (tgt := 71) dX11_op_55 (by decide) ?_
                exact x_weak (by exact trivial) (hj71 ((-3 : Int32), M1))
            · exact x_weak (by exact trivial) (hj41 ())
theorem s157 {l : Launch} {d : Nat} {rec : Nat → List Value → Mem → XA} (hS : Nonempty XS) (hs : XSnd l xmt rec d) : Snd1 l 157 (b157 rec) d := by
  intro as M r M' h0
  unfold b157 at h0
  obtain ⟨a0, l1, e1, h1⟩ := aR_inv h0
  obtain ⟨a1, l2, e2, h2⟩ := aI_inv h1
  obtain ⟨a2, l3, e3, h3⟩ := aI_inv h2
  obtain ⟨a3, l4, e4, h4⟩ := aI_inv h3
  obtain ⟨a4, l5, e5, h5⟩ := aI_inv h4
  obtain ⟨a5, l6, e6, h6⟩ := aI_inv h5
  obtain ⟨a6, l7, e7, h7⟩ := aI_inv h6
  obtain ⟨ez, h⟩ := aZ_inv h7
  subst ez
  subst e7
  subst e6
  subst e5
  subst e4
  subst e3
  subst e2
  subst e1
  exact xmet (M := M) (as := [va_rf a0, .int a1, .int a2, .int a3, .int a4, .int a5, .int a6]) (lo := [some (va_rf a0), some (.int a1), some (.int a2), some (.int a3), some (.int a4), some (.int a5), some (.int a6)]) 157 xq157 xm157 (by rw [xargs_rf, xargs_i, xargs_i, xargs_i, xargs_i, xargs_i, xargs_i, xargs_nil]; exact ⟨rfl, ⟨rfl, ⟨rfl, ⟨rfl, ⟨rfl, ⟨rfl, ⟨rfl, trivial⟩⟩⟩⟩⟩⟩⟩) (by rw [xargs_rf, xargs_i, xargs_i, xargs_i, xargs_i, xargs_i, xargs_i, xargs_nil]; exact Nat.le_of_ble_eq_true rfl) (fun S G K => x_weak (by exact ⟨rfl, ⟨rfl, ⟨rfl, ⟨rfl, ⟨rfl, ⟨rfl, ⟨rfl, trivial⟩⟩⟩⟩⟩⟩⟩) (k157 hs a0 a1 a2 a3 a4 a5 a6 M)) h hS
set_option maxRecDepth 100000 in
def c158 (rec : Nat → List Value → Mem → XA) (a0 : Option Nat) (a1 : Int32) (M0 : Mem) : XA :=
  vC (12, 19) M0 a0 <|
  cP (rec 171 [va_rf a0, .int a1] M0) fun x2 M1 =>
  if x2 = none then (
    some (.int ((-1 : Int32)), M1)) else (
    vC (2, 7) M1 x2 <|
    cI (rec 7 [va_rf x2] M1) fun x4 M3 =>
    jn (fun (s5 : Int32) =>
      some (.int s5, M3)) fun j24 =>
    if x4 = 0 then (
      j24 ((0 : Int32))) else (
      j24 ((1 : Int32))))
def b158 (rec : Nat → List Value → Mem → XA) (as : List Value) (M0 : Mem) : XA := aR as fun a0 as => aI as fun a1 as => aZ as (c158 rec a0 a1 M0)
set_option maxRecDepth 100000 in
set_option maxHeartbeats 4000000 in
theorem k158 {S : XS} {G : XG} {K : Nat × Nat} {l : Launch} {d : Nat} {rec : Nat → List Value → Mem → XA} (hs : XSnd l xmt rec d) (a0 : Option Nat) (a1 : Int32) (M0 : Mem) : Xe S G K l (yX11_linear, cX11_linear, 3, some .int) d 0 [some (va_rf a0), some (.int a1), none] [] M0 (c158 rec a0 a1 M0) := by
  unfold c158
  refine x_aload_n dX11_linear_0 rfl ?_
  refine x_iload_n dX11_linear_1 rfl ?_
  refine cmX11_342 rfl hs (Nat.le_of_ble_eq_true rfl) dX11_linear_2 (fun x2 M1 => ?_)
  refine x_astore_n (lo' := [some (va_rf a0), some (.int a1), some (va_rf x2)]) dX11_linear_5 (by decide) rfl rfl ?_
  refine x_aload_n dX11_linear_6 rfl ?_
  refine x_ifnonnull (tgt := 12) dX11_linear_7 (by decide) (fun _ => ?_) (fun _ => ?_)
  · refine x_iconst (v := -1) dX11_linear_10 (by decide) ?_
    exact x_iret rfl dX11_linear_11
  · refine x_aload_n dX11_linear_12 rfl ?_
    refine cmX11_350 rfl hs (Nat.le_of_ble_eq_true rfl) dX11_linear_13 (fun x4 M3 => ?_)
    refine x_jn (σ := Int32) 24 (fun s5 => [none, none, none]) (fun s5 => [.int s5]) (fun s5 => M3) (fun s5 => ?_) (fun j24 hj24 => ?_)
    · exact x_iret rfl dX11_linear_24
    refine x_if_eq (tgt := 23) dX11_linear_16 (by decide) (fun _ => ?_) (fun _ => ?_)
    · refine x_iconst (v := 0) dX11_linear_23 (by decide) ?_
      exact x_weak (by exact trivial) (hj24 ((0 : Int32)))
    · refine x_iconst (v := 1) dX11_linear_19 (by decide) ?_
      refine x_goto (tgt := 24) dX11_linear_20 (by decide) ?_
      exact x_weak (by exact trivial) (hj24 ((1 : Int32)))
theorem s158 {l : Launch} {d : Nat} {rec : Nat → List Value → Mem → XA} (hS : Nonempty XS) (hs : XSnd l xmt rec d) : Snd1 l 158 (b158 rec) d := by
  intro as M r M' h0
  unfold b158 at h0
  obtain ⟨a0, l1, e1, h1⟩ := aR_inv h0
  obtain ⟨a1, l2, e2, h2⟩ := aI_inv h1
  obtain ⟨ez, h⟩ := aZ_inv h2
  subst ez
  subst e2
  subst e1
  exact xmet (M := M) (as := [va_rf a0, .int a1]) (lo := [some (va_rf a0), some (.int a1)]) 158 xq158 xm158 (by rw [xargs_rf, xargs_i, xargs_nil]; exact ⟨rfl, ⟨rfl, trivial⟩⟩) (by rw [xargs_rf, xargs_i, xargs_nil]; exact Nat.le_of_ble_eq_true rfl) (fun S G K => x_weak (by exact ⟨rfl, ⟨rfl, trivial⟩⟩) (k158 hs a0 a1 M)) h hS
set_option maxRecDepth 100000 in
def c159 (rec : Nat → List Value → Mem → XA) (a0 : Option Nat) (a1 : Int32) (a2 : Int32) (M0 : Mem) : XA :=
  vC (12, 19) M0 a0 <|
  cP (rec 171 [va_rf a0, .int a1] M0) fun x2 M1 =>
  jn (fun (s3 : Unit) =>
    some (.int ((-1 : Int32)), M1)) fun j22 =>
  if x2 = none then (
    j22 ()) else (
    if a2 < 0 then (
      j22 ()) else (
      gtI (2, 7) M1 x2 1 fun x4 =>
      if a2 < x4 then (
        vC (2, 7) M1 x2 <|
        cI (rec 7 [va_rf x2] M1) fun x6 M5 =>
        jn (fun (s7 : Int32) =>
          some (.int s7, M5)) fun j42 =>
        if x6 = 0 then (
          j42 ((-2 : Int32))) else (
          gtP (2, 7) M5 x2 0 fun x8 =>
          alI 100 M5 x8 a2 fun x9 =>
          j42 x9)) else (
        j22 ())))
def b159 (rec : Nat → List Value → Mem → XA) (as : List Value) (M0 : Mem) : XA := aR as fun a0 as => aI as fun a1 as => aI as fun a2 as => aZ as (c159 rec a0 a1 a2 M0)
set_option maxRecDepth 100000 in
set_option maxHeartbeats 4000000 in
theorem k159 {S : XS} {G : XG} {K : Nat × Nat} {l : Launch} {d : Nat} {rec : Nat → List Value → Mem → XA} (hs : XSnd l xmt rec d) (a0 : Option Nat) (a1 : Int32) (a2 : Int32) (M0 : Mem) : Xe S G K l (yX11_place, cX11_place, 4, some .int) d 0 [some (va_rf a0), some (.int a1), some (.int a2), none] [] M0 (c159 rec a0 a1 a2 M0) := by
  unfold c159
  refine x_aload_n dX11_place_0 rfl ?_
  refine x_iload_n dX11_place_1 rfl ?_
  refine cmX11_342 rfl hs (Nat.le_of_ble_eq_true rfl) dX11_place_2 (fun x2 M1 => ?_)
  refine x_astore_n (lo' := [some (va_rf a0), some (.int a1), some (.int a2), some (va_rf x2)]) dX11_place_5 (by decide) rfl rfl ?_
  refine x_aload_n dX11_place_6 rfl ?_
  refine x_jn (σ := Unit) 22 (fun s3 => [none, none, none, none]) (fun s3 => []) (fun s3 => M1) (fun s3 => ?_) (fun j22 hj22 => ?_)
  · refine x_iconst (v := -1) dX11_place_22 (by decide) ?_
    exact x_iret rfl dX11_place_23
  refine x_ifnull (tgt := 22) dX11_place_7 (by decide) (fun _ => ?_) (fun _ => ?_)
  · exact x_weak (by exact trivial) (hj22 ())
  · refine x_iload_n dX11_place_10 rfl ?_
    refine x_if_lt (tgt := 22) dX11_place_11 (by decide) (fun _ => ?_) (fun _ => ?_)
    · exact x_weak (by exact trivial) (hj22 ())
    · refine x_iload_n dX11_place_14 rfl ?_
      refine x_aload_n dX11_place_15 rfl ?_
      refine gfX11_346 rfl dX11_place_16 (fun x4 => ?_)
      refine x_icmp_lt (tgt := 24) dX11_place_19 (by decide) (fun _ => ?_) (fun _ => ?_)
      · refine x_aload_n dX11_place_24 rfl ?_
        refine cmX11_350 rfl hs (Nat.le_of_ble_eq_true rfl) dX11_place_25 (fun x6 M5 => ?_)
        refine x_jn (σ := Int32) 42 (fun s7 => [none, none, none, none]) (fun s7 => [.int s7]) (fun s7 => M5) (fun s7 => ?_) (fun j42 hj42 => ?_)
        · exact x_iret rfl dX11_place_42
        refine x_if_eq (tgt := 40) dX11_place_28 (by decide) (fun _ => ?_) (fun _ => ?_)
        · refine x_bipush (v := -2) dX11_place_40 (by decide) ?_
          exact x_weak (by exact trivial) (hj42 ((-2 : Int32)))
        · refine x_aload_n dX11_place_31 rfl ?_
          refine gfX11_353 rfl dX11_place_32 (fun x8 => ?_)
          refine x_iload_n dX11_place_35 rfl ?_
          refine x_iald dX11_place_36 (fun x9 => ?_)
          refine x_goto (tgt := 42) dX11_place_37 (by decide) ?_
          exact x_weak (by exact trivial) (hj42 x9)
      · exact x_weak (by exact trivial) (hj22 ())
theorem s159 {l : Launch} {d : Nat} {rec : Nat → List Value → Mem → XA} (hS : Nonempty XS) (hs : XSnd l xmt rec d) : Snd1 l 159 (b159 rec) d := by
  intro as M r M' h0
  unfold b159 at h0
  obtain ⟨a0, l1, e1, h1⟩ := aR_inv h0
  obtain ⟨a1, l2, e2, h2⟩ := aI_inv h1
  obtain ⟨a2, l3, e3, h3⟩ := aI_inv h2
  obtain ⟨ez, h⟩ := aZ_inv h3
  subst ez
  subst e3
  subst e2
  subst e1
  exact xmet (M := M) (as := [va_rf a0, .int a1, .int a2]) (lo := [some (va_rf a0), some (.int a1), some (.int a2)]) 159 xq159 xm159 (by rw [xargs_rf, xargs_i, xargs_i, xargs_nil]; exact ⟨rfl, ⟨rfl, ⟨rfl, trivial⟩⟩⟩) (by rw [xargs_rf, xargs_i, xargs_i, xargs_nil]; exact Nat.le_of_ble_eq_true rfl) (fun S G K => x_weak (by exact ⟨rfl, ⟨rfl, ⟨rfl, trivial⟩⟩⟩) (k159 hs a0 a1 a2 M)) h hS
set_option maxRecDepth 100000 in
def c160 (rec : Nat → List Value → Mem → XA) (a0 : Option Nat) (a1 : Int32) (a2 : Int32) (M0 : Mem) : XA :=
  vC (12, 19) M0 a0 <|
  cP (rec 167 [va_rf a0, .int a1] M0) fun x2 M1 =>
  cP (rec 169 [va_rf x2, .int a2] M1) fun x4 M3 =>
  if x4 = none then (
    some (.int ((-1 : Int32)), M3)) else (
    gtP (12, 19) M3 a0 2 fun x5 =>
    vC (4, 22) M3 x5 <|
    cV (rec 19 [va_rf x5, va_rf x2, .int ((20000 : Int32))] M3) fun M6 =>
    gtP (12, 19) M6 a0 2 fun x7 =>
    gtP (12, 19) M6 a0 8 fun x8 =>
    ptP (4, 22) M6 x7 4 x8 fun M9 =>
    vC (12, 19) M9 a0 <|
    cI (rec 362 [va_rf a0, va_rf x4] M9) fun x11 M10 =>
    if x11 = ((-4 : Int32)) then (
      some (.int ((-4 : Int32)), M10)) else (
      gtP (12, 19) M10 a0 8 fun x12 =>
      gtI (3, 7) M10 x12 2 fun x13 =>
      if x13 = 0 then (
        gtP (12, 19) M10 a0 8 fun x14 =>
        gtL (3, 7) M10 x14 0 fun x15 =>
        ptI (12, 19) M10 a0 9 x15.toInt32 fun M16 =>
        gtP (12, 19) M16 a0 8 fun x17 =>
        gtL (3, 7) M16 x17 1 fun x18 =>
        ptI (12, 19) M16 a0 10 x18.toInt32 fun M19 =>
        some (.int x11, M19)) else (
        some (.int ((-5 : Int32)), M10))))
def b160 (rec : Nat → List Value → Mem → XA) (as : List Value) (M0 : Mem) : XA := aR as fun a0 as => aI as fun a1 as => aI as fun a2 as => aZ as (c160 rec a0 a1 a2 M0)
set_option maxRecDepth 100000 in
set_option maxHeartbeats 4000000 in
theorem k160 {S : XS} {G : XG} {K : Nat × Nat} {l : Launch} {d : Nat} {rec : Nat → List Value → Mem → XA} (hs : XSnd l xmt rec d) (a0 : Option Nat) (a1 : Int32) (a2 : Int32) (M0 : Mem) : Xe S G K l (yX11_luck, cX11_luck, 6, some .int) d 0 [some (va_rf a0), some (.int a1), some (.int a2), none, none, none] [] M0 (c160 rec a0 a1 a2 M0) := by
  unfold c160
  refine x_aload_n dX11_luck_0 rfl ?_
  refine x_iload_n dX11_luck_1 rfl ?_
  refine cmX11_109 rfl hs (Nat.le_of_ble_eq_true rfl) dX11_luck_2 (fun x2 M1 => ?_)
  refine x_astore_n (lo' := [some (va_rf a0), some (.int a1), some (.int a2), some (va_rf x2), none, none]) dX11_luck_5 (by decide) rfl rfl ?_
  refine x_aload_n dX11_luck_6 rfl ?_
  refine x_iload_n dX11_luck_7 rfl ?_
  refine cmX11_152 rfl hs (Nat.le_of_ble_eq_true rfl) dX11_luck_8 (fun x4 M3 => ?_)
  refine x_astore (lo' := [some (va_rf a0), some (.int a1), some (.int a2), some (va_rf x2), some (va_rf x4), none]) dX11_luck_11 (by decide) (xok_r rfl) rfl ?_
  refine x_aload dX11_luck_13 rfl ?_
  refine x_ifnonnull (tgt := 20) dX11_luck_15 (by decide) (fun _ => ?_) (fun _ => ?_)
  · refine x_iconst (v := -1) dX11_luck_18 (by decide) ?_
    exact x_iret rfl dX11_luck_19
  · refine x_aload_n dX11_luck_20 rfl ?_
    refine gfX11_26 rfl dX11_luck_21 (fun x5 => ?_)
    refine x_aload_n dX11_luck_24 rfl ?_
    refine x_sipush (v := 20000) dX11_luck_25 (by decide) ?_
    refine cmX11_193 rfl hs (Nat.le_of_ble_eq_true rfl) dX11_luck_28 (fun M6 => ?_)
    refine x_aload_n dX11_luck_31 rfl ?_
    refine gfX11_26 rfl dX11_luck_32 (fun x7 => ?_)
    refine x_aload_n dX11_luck_35 rfl ?_
    refine gfX11_46 rfl dX11_luck_36 (fun x8 => ?_)
    refine pfX11_356 rfl dX11_luck_39 (fun M9 => ?_)
    refine x_aload_n dX11_luck_42 rfl ?_
    refine x_aload dX11_luck_43 rfl ?_
    refine cmX11_359 rfl hs (Nat.le_of_ble_eq_true rfl) dX11_luck_45 (fun x11 M10 => ?_)
    refine x_istore (lo' := [some (va_rf a0), some (.int a1), some (.int a2), some (va_rf x2), some (va_rf x4), some (.int x11)]) dX11_luck_48 (by decide) (xok_r rfl) rfl ?_
    refine x_iload dX11_luck_50 rfl ?_
    refine x_bipush (v := -4) dX11_luck_52 (by decide) ?_
    refine x_icmp_ne (tgt := 60) dX11_luck_54 (by decide) (fun _ => ?_) (fun _ => ?_)
    · refine x_bipush (v := -4) dX11_luck_57 (by decide) ?_
      exact x_iret rfl dX11_luck_59
    · refine x_aload_n dX11_luck_60 rfl ?_
      refine gfX11_46 rfl dX11_luck_61 (fun x12 => ?_)
      refine gfX11_362 rfl dX11_luck_64 (fun x13 => ?_)
      refine x_if_eq (tgt := 73) dX11_luck_67 (by decide) (fun _ => ?_) (fun _ => ?_)
      · refine x_aload_n dX11_luck_73 rfl ?_
        refine x_aload_n dX11_luck_74 rfl ?_
        refine gfX11_46 rfl dX11_luck_75 (fun x14 => ?_)
        refine gfX11_365 rfl dX11_luck_78 (fun x15 => ?_)
        refine x_l2i dX11_luck_81 ?_
        refine pfX11_368 rfl dX11_luck_82 (fun M16 => ?_)
        refine x_aload_n dX11_luck_85 rfl ?_
        refine x_aload_n dX11_luck_86 rfl ?_
        refine gfX11_46 rfl dX11_luck_87 (fun x17 => ?_)
        refine gfX11_371 rfl dX11_luck_90 (fun x18 => ?_)
        refine x_l2i dX11_luck_93 ?_
        refine pfX11_374 rfl dX11_luck_94 (fun M19 => ?_)
        refine x_iload dX11_luck_97 rfl ?_
        exact x_iret rfl dX11_luck_99
      · refine x_bipush (v := -5) dX11_luck_70 (by decide) ?_
        exact x_iret rfl dX11_luck_72
theorem s160 {l : Launch} {d : Nat} {rec : Nat → List Value → Mem → XA} (hS : Nonempty XS) (hs : XSnd l xmt rec d) : Snd1 l 160 (b160 rec) d := by
  intro as M r M' h0
  unfold b160 at h0
  obtain ⟨a0, l1, e1, h1⟩ := aR_inv h0
  obtain ⟨a1, l2, e2, h2⟩ := aI_inv h1
  obtain ⟨a2, l3, e3, h3⟩ := aI_inv h2
  obtain ⟨ez, h⟩ := aZ_inv h3
  subst ez
  subst e3
  subst e2
  subst e1
  exact xmet (M := M) (as := [va_rf a0, .int a1, .int a2]) (lo := [some (va_rf a0), some (.int a1), some (.int a2)]) 160 xq160 xm160 (by rw [xargs_rf, xargs_i, xargs_i, xargs_nil]; exact ⟨rfl, ⟨rfl, ⟨rfl, trivial⟩⟩⟩) (by rw [xargs_rf, xargs_i, xargs_i, xargs_nil]; exact Nat.le_of_ble_eq_true rfl) (fun S G K => x_weak (by exact ⟨rfl, ⟨rfl, ⟨rfl, trivial⟩⟩⟩) (k160 hs a0 a1 a2 M)) h hS
set_option maxRecDepth 100000 in
def c161 (rec : Nat → List Value → Mem → XA) (a0 : Option Nat) (a1 : Int32) (M0 : Mem) : XA :=
  gtI (12, 19) M0 a0 10 fun x1 =>
  jn (fun (s2 : Unit) =>
    some (.int ((-1 : Int32)), M0)) fun j16 =>
  if x1 = 0 then (
    j16 ()) else (
    if a1 < 0 then (
      j16 ()) else (
      if a1 ≤ ((1 : Int32)) then (
        jn (fun (s3 : Int32) =>
          some (.int s3, M0)) fun j33 =>
        if a1 = 0 then (
          gtI (12, 19) M0 a0 9 fun x4 =>
          j33 x4) else (
          gtI (12, 19) M0 a0 10 fun x5 =>
          j33 x5)) else (
        j16 ())))
def b161 (rec : Nat → List Value → Mem → XA) (as : List Value) (M0 : Mem) : XA := aR as fun a0 as => aI as fun a1 as => aZ as (c161 rec a0 a1 M0)
set_option maxRecDepth 100000 in
set_option maxHeartbeats 4000000 in
theorem k161 {S : XS} {G : XG} {K : Nat × Nat} {l : Launch} {d : Nat} {rec : Nat → List Value → Mem → XA} (hs : XSnd l xmt rec d) (a0 : Option Nat) (a1 : Int32) (M0 : Mem) : Xe S G K l (yX11_share, cX11_share, 2, some .int) d 0 [some (va_rf a0), some (.int a1)] [] M0 (c161 rec a0 a1 M0) := by
  unfold c161
  refine x_aload_n dX11_share_0 rfl ?_
  refine gfX11_374 rfl dX11_share_1 (fun x1 => ?_)
  refine x_jn (σ := Unit) 16 (fun s2 => [none, none]) (fun s2 => []) (fun s2 => M0) (fun s2 => ?_) (fun j16 hj16 => ?_)
  · refine x_iconst (v := -1) dX11_share_16 (by decide) ?_
    exact x_iret rfl dX11_share_17
  refine x_if_eq (tgt := 16) dX11_share_4 (by decide) (fun _ => ?_) (fun _ => ?_)
  · exact x_weak (by exact trivial) (hj16 ())
  · refine x_iload_n dX11_share_7 rfl ?_
    refine x_if_lt (tgt := 16) dX11_share_8 (by decide) (fun _ => ?_) (fun _ => ?_)
    · exact x_weak (by exact trivial) (hj16 ())
    · refine x_iload_n dX11_share_11 rfl ?_
      refine x_iconst (v := 1) dX11_share_12 (by decide) ?_
      refine x_icmp_le (tgt := 18) dX11_share_13 (by decide) (fun _ => ?_) (fun _ => ?_)
      · refine x_iload_n dX11_share_18 rfl ?_
        refine x_jn (σ := Int32) 33 (fun s3 => [none, none]) (fun s3 => [.int s3]) (fun s3 => M0) (fun s3 => ?_) (fun j33 hj33 => ?_)
        · exact x_iret rfl dX11_share_33
        refine x_if_ne (tgt := 29) dX11_share_19 (by decide) (fun _ => ?_) (fun _ => ?_)
        · refine x_aload_n dX11_share_22 rfl ?_
          refine gfX11_368 rfl dX11_share_23 (fun x4 => ?_)
          refine x_goto (tgt := 33) dX11_share_26 (by decide) ?_
          exact x_weak (by exact trivial) (hj33 x4)
        · refine x_aload_n dX11_share_29 rfl ?_
          refine gfX11_374 rfl dX11_share_30 (fun x5 => ?_)
          exact x_weak (by exact trivial) (hj33 x5)
      · exact x_weak (by exact trivial) (hj16 ())
theorem s161 {l : Launch} {d : Nat} {rec : Nat → List Value → Mem → XA} (hS : Nonempty XS) (hs : XSnd l xmt rec d) : Snd1 l 161 (b161 rec) d := by
  intro as M r M' h0
  unfold b161 at h0
  obtain ⟨a0, l1, e1, h1⟩ := aR_inv h0
  obtain ⟨a1, l2, e2, h2⟩ := aI_inv h1
  obtain ⟨ez, h⟩ := aZ_inv h2
  subst ez
  subst e2
  subst e1
  exact xmet (M := M) (as := [va_rf a0, .int a1]) (lo := [some (va_rf a0), some (.int a1)]) 161 xq161 xm161 (by rw [xargs_rf, xargs_i, xargs_nil]; exact ⟨rfl, ⟨rfl, trivial⟩⟩) (by rw [xargs_rf, xargs_i, xargs_nil]; exact Nat.le_of_ble_eq_true rfl) (fun S G K => x_weak (by exact ⟨rfl, ⟨rfl, trivial⟩⟩) (k161 hs a0 a1 M)) h hS
set_option maxRecDepth 100000 in
def c162_192 (rec : Nat → List Value → Mem → XA) (a0 : Option Nat) (j279 : Int32 × Mem → XA) (s34 : Int32 × Int32 × Int32 × Mem) (x2 : Option Nat) : (Int32 × Int32 × Int32 × Mem) → ((Int32 × Int32 × Int32 × Mem) → XA) → XA := fun s38 j192 =>
  if s34.1 ≤ s38.2.2.1 then (
    j279 (s38.1, s38.2.2.2)) else (
    gtP (12, 19) s38.2.2.2 a0 2 fun x39 =>
    vC (4, 22) s38.2.2.2 x39 <|
    cI (rec 22 [va_rf x39] s38.2.2.2) fun x41 M40 =>
    if x41 = 0 then (
      gtP (12, 19) M40 a0 14 fun x42 =>
      gtP (12, 19) M40 a0 17 fun x43 =>
      vC (12, 19) M40 a0 <|
      cV (rec 174 [va_rf a0, va_rf x2, va_rf x42, .int (s38.1 + ((1 : Int32))), .int s38.2.1, va_rf x43] M40) fun M44 =>
      gtP (12, 19) M44 a0 2 fun x45 =>
      gtP (4, 22) M44 x45 0 fun x46 =>
      gtI (5, 5) M44 x46 0 fun x47 =>
      jn (fun (s48 : Int32 × Int32 × Mem) =>
        lt (s38.2.2.1 + (1 : Int32)) fun (x49 : Int32) =>
        j192 (s48.1, s48.2.1, x49, s48.2.2)) fun j273 =>
      if x47 = ((1 : Int32)) then (
        lt (s38.2.1 + (1 : Int32)) fun (x50 : Int32) =>
        j273 (s38.1, x50, M44)) else (
        gtP (12, 19) M44 a0 14 fun x51 =>
        gtP (12, 19) M44 a0 14 fun x52 =>
        acI M44 x51 (s38.2.1 + ((1 : Int32))) x52 s38.2.1 (s38.1 - s38.2.1) fun M53 =>
        lt (s38.1 + (-1 : Int32)) fun (x54 : Int32) =>
        j273 (x54, s38.2.1, M53))) else (
      j279 (s38.1, M40)))
set_option maxRecDepth 100000 in
def c162_170 (rec : Nat → List Value → Mem → XA) (a0 : Option Nat) (j299 : Int32 × Mem → XA) (x2 : Option Nat) : (Int32 × Int32 × Int32 × Mem) → ((Int32 × Int32 × Int32 × Mem) → XA) → XA := fun s34 j170 =>
  if ((16 : Int32)) < s34.2.2.1 then (
    j299 (s34.1, s34.2.2.2)) else (
    if s34.2.1 = 0 then (
      j299 (s34.1, s34.2.2.2)) else (
      jn (fun (s35 : Int32 × Mem) =>
        jn (fun (s36 : Int32) =>
          lt (s34.2.2.1 + (1 : Int32)) fun (x37 : Int32) =>
          j170 (s35.1, s36, x37, s35.2)) fun j291 =>
        if s34.1 ≤ s35.1 then (
          j291 ((0 : Int32))) else (
          j291 ((1 : Int32)))) fun j279 =>
      lp (c162_192 rec a0 j279 s34 x2) 4294967296 (s34.1, (0 : Int32), (0 : Int32), s34.2.2.2)))
set_option maxRecDepth 100000 in
def c162 (rec : Nat → List Value → Mem → XA) (a0 : Option Nat) (a1 : Int32) (a2 : Int32) (M0 : Mem) : XA :=
  vC (12, 19) M0 a0 <|
  cP (rec 167 [va_rf a0, .int a1] M0) fun x2 M1 =>
  cP (rec 169 [va_rf x2, .int a2] M1) fun x4 M3 =>
  if x4 = none then (
    some (.int ((-1 : Int32)), M3)) else (
    gtI (8, 9) M3 x4 7 fun x5 =>
    if x5 = 0 then (
      gtP (12, 19) M3 a0 2 fun x6 =>
      vC (4, 22) M3 x6 <|
      cV (rec 19 [va_rf x6, va_rf x2, .int ((20000 : Int32))] M3) fun M7 =>
      cI (rec 182 [va_rf x2, .int a2] M7) fun x9 M8 =>
      gtP (6, 18) M8 x2 10 fun x10 =>
      gtP (12, 19) M8 a0 14 fun x11 =>
      acI M8 x10 ((0 : Int32)) x11 ((0 : Int32)) x9 fun M12 =>
      gtP (12, 19) M12 a0 14 fun x13 =>
      asI 100 M12 x13 x9 a2 fun M14 =>
      gtP (12, 19) M14 a0 14 fun x15 =>
      gtP (12, 19) M14 a0 17 fun x16 =>
      vC (12, 19) M14 a0 <|
      cV (rec 174 [va_rf a0, va_rf x2, va_rf x15, .int (x9 + ((1 : Int32))), .int ((-2 : Int32)), va_rf x16] M14) fun M17 =>
      gtP (12, 19) M17 a0 2 fun x18 =>
      gtP (4, 22) M17 x18 0 fun x19 =>
      gtI (5, 5) M17 x19 0 fun x20 =>
      jn (fun (s21 : Int32) =>
        jn (fun (s22 : Int32 × Mem) =>
          gtP (12, 19) s22.2 a0 2 fun x23 =>
          vC (4, 22) s22.2 x23 <|
          cI (rec 22 [va_rf x23] s22.2) fun x25 M24 =>
          if x25 = 0 then (
            if s22.1 = 0 then (
              some (.int ((-2 : Int32)), M24)) else (
              jn (fun (s26 : Int32 × Mem) =>
                gtP (12, 19) s26.2 a0 2 fun x27 =>
                vC (4, 22) s26.2 x27 <|
                cI (rec 22 [va_rf x27] s26.2) fun x29 M28 =>
                if x29 = 0 then (
                  gtP (12, 19) M28 a0 14 fun x30 =>
                  gtP (12, 19) M28 a0 15 fun x31 =>
                  acI M28 x30 ((0 : Int32)) x31 ((0 : Int32)) s26.1 fun M32 =>
                  ptI (12, 19) M32 a0 16 s26.1 fun M33 =>
                  some (.int s26.1, M33)) else (
                  some (.int ((-4 : Int32)), M28))) fun j299 =>
              lp (c162_170 rec a0 j299 x2) 4294967296 (x9, (1 : Int32), (0 : Int32), M24))) else (
            some (.int ((-4 : Int32)), M24))) fun j141 =>
        jn (fun (s55 : Mem) =>
          j141 ((0 : Int32), s55)) fun j140 =>
        if s21 = 0 then (
          j140 M17) else (
          gtP (12, 19) M17 a0 2 fun x56 =>
          vC (4, 22) M17 x56 <|
          cI (rec 22 [va_rf x56] M17) fun x58 M57 =>
          if x58 = 0 then (
            vC (12, 19) M57 a0 <|
            cI (rec 363 [va_rf a0, va_rf x4] M57) fun x60 M59 =>
            if x60 = 0 then (
              j140 M59) else (
              j141 ((1 : Int32), M59))) else (
            j140 M57))) fun j110 =>
      if x20 = ((1 : Int32)) then (
        j110 ((0 : Int32))) else (
        j110 ((1 : Int32)))) else (
      some (.int ((-2 : Int32)), M3)))
def b162 (rec : Nat → List Value → Mem → XA) (as : List Value) (M0 : Mem) : XA := aR as fun a0 as => aI as fun a1 as => aI as fun a2 as => aZ as (c162 rec a0 a1 a2 M0)
set_option maxRecDepth 100000 in
set_option maxHeartbeats 4000000 in
theorem k162 {S : XS} {G : XG} {K : Nat × Nat} {l : Launch} {d : Nat} {rec : Nat → List Value → Mem → XA} (hs : XSnd l xmt rec d) (a0 : Option Nat) (a1 : Int32) (a2 : Int32) (M0 : Mem) : Xe S G K l (yX11_blame, cX11_blame, 13, some .int) d 0 [some (va_rf a0), some (.int a1), some (.int a2), none, none, none, none, none, none, none, none, none, none] [] M0 (c162 rec a0 a1 a2 M0) := by
  unfold c162
  refine x_aload_n dX11_blame_0 rfl ?_
  refine x_iload_n dX11_blame_1 rfl ?_
  refine cmX11_109 rfl hs (Nat.le_of_ble_eq_true rfl) dX11_blame_2 (fun x2 M1 => ?_)
  refine x_astore_n (lo' := [some (va_rf a0), some (.int a1), some (.int a2), some (va_rf x2), none, none, none, none, none, none, none, none, none]) dX11_blame_5 (by decide) rfl rfl ?_
  refine x_aload_n dX11_blame_6 rfl ?_
  refine x_iload_n dX11_blame_7 rfl ?_
  refine cmX11_152 rfl hs (Nat.le_of_ble_eq_true rfl) dX11_blame_8 (fun x4 M3 => ?_)
  refine x_astore (lo' := [some (va_rf a0), some (.int a1), some (.int a2), some (va_rf x2), some (va_rf x4), none, none, none, none, none, none, none, none]) dX11_blame_11 (by decide) (xok_r rfl) rfl ?_
  refine x_aload dX11_blame_13 rfl ?_
  refine x_ifnonnull (tgt := 20) dX11_blame_15 (by decide) (fun _ => ?_) (fun _ => ?_)
  · refine x_iconst (v := -1) dX11_blame_18 (by decide) ?_
    exact x_iret rfl dX11_blame_19
  · refine x_aload dX11_blame_20 rfl ?_
    refine gfX11_159 rfl dX11_blame_22 (fun x5 => ?_)
    refine x_if_eq (tgt := 31) dX11_blame_25 (by decide) (fun _ => ?_) (fun _ => ?_)
    · refine x_aload_n dX11_blame_31 rfl ?_
      refine gfX11_26 rfl dX11_blame_32 (fun x6 => ?_)
      refine x_aload_n dX11_blame_35 rfl ?_
      refine x_sipush (v := 20000) dX11_blame_36 (by decide) ?_
      refine cmX11_193 rfl hs (Nat.le_of_ble_eq_true rfl) dX11_blame_39 (fun M7 => ?_)
      refine x_aload_n dX11_blame_42 rfl ?_
      refine x_iload_n dX11_blame_43 rfl ?_
      refine cmX11_377 rfl hs (Nat.le_of_ble_eq_true rfl) dX11_blame_44 (fun x9 M8 => ?_)
      refine x_istore (lo' := [some (va_rf a0), some (.int a1), some (.int a2), some (va_rf x2), some (va_rf x4), some (.int x9), none, none, none, none, none, none, none]) dX11_blame_47 (by decide) (xok_r rfl) rfl ?_
      refine x_aload_n dX11_blame_49 rfl ?_
      refine gfX11_189 rfl dX11_blame_50 (fun x10 => ?_)
      refine x_iconst (v := 0) dX11_blame_53 (by decide) ?_
      refine x_aload_n dX11_blame_54 rfl ?_
      refine gfX11_61 rfl dX11_blame_55 (fun x11 => ?_)
      refine x_iconst (v := 0) dX11_blame_58 (by decide) ?_
      refine x_iload dX11_blame_59 rfl ?_
      refine x_acI lk_methodLink_X11_326 w_acn w_acs w_aci (Nat.le_of_ble_eq_true rfl) dX11_blame_61 (fun M12 => ?_)
      refine x_aload_n dX11_blame_64 rfl ?_
      refine gfX11_61 rfl dX11_blame_65 (fun x13 => ?_)
      refine x_iload dX11_blame_68 rfl ?_
      refine x_iload_n dX11_blame_70 rfl ?_
      refine x_iast dX11_blame_71 (fun M14 => ?_)
      refine x_aload_n dX11_blame_72 rfl ?_
      refine x_aload_n dX11_blame_73 rfl ?_
      refine x_aload_n dX11_blame_74 rfl ?_
      refine gfX11_61 rfl dX11_blame_75 (fun x15 => ?_)
      refine x_iload dX11_blame_78 rfl ?_
      refine x_iconst (v := 1) dX11_blame_80 (by decide) ?_
      refine x_iadd dX11_blame_81 ?_
      refine x_bipush (v := -2) dX11_blame_82 (by decide) ?_
      refine x_aload_n dX11_blame_84 rfl ?_
      refine gfX11_69 rfl dX11_blame_85 (fun x16 => ?_)
      refine cmX11_206 rfl hs (Nat.le_of_ble_eq_true rfl) dX11_blame_88 (fun M17 => ?_)
      refine x_aload_n dX11_blame_91 rfl ?_
      refine gfX11_26 rfl dX11_blame_92 (fun x18 => ?_)
      refine gfX11_381 rfl dX11_blame_95 (fun x19 => ?_)
      refine gfX11_384 rfl dX11_blame_98 (fun x20 => ?_)
      refine x_iconst (v := 1) dX11_blame_101 (by decide) ?_
      refine x_jn (σ := Int32) 110 (fun s21 => [some (va_rf a0), none, none, some (va_rf x2), some (va_rf x4), some (.int x9), none, none, none, none, none, none, none]) (fun s21 => [.int s21]) (fun s21 => M17) (fun s21 => ?_) (fun j110 hj110 => ?_)
      · refine x_istore (lo' := [some (va_rf a0), none, none, some (va_rf x2), some (va_rf x4), some (.int x9), some (.int s21), none, none, none, none, none, none]) dX11_blame_110 (by decide) rfl rfl ?_
        refine x_iload dX11_blame_112 rfl ?_
        refine x_jn (σ := Int32 × Mem) 141 (fun s22 => [some (va_rf a0), none, none, some (va_rf x2), none, some (.int x9), none, none, none, none, none, none, none]) (fun s22 => [.int s22.1]) (fun s22 => s22.2) (fun s22 => ?_) (fun j141 hj141 => ?_)
        · refine x_istore (lo' := [some (va_rf a0), none, none, some (va_rf x2), none, some (.int x9), none, some (.int s22.1), none, none, none, none, none]) dX11_blame_141 (by decide) rfl rfl ?_
          refine x_aload_n dX11_blame_143 rfl ?_
          refine gfX11_26 rfl dX11_blame_144 (fun x23 => ?_)
          refine cmX11_294 rfl hs (Nat.le_of_ble_eq_true rfl) dX11_blame_147 (fun x25 M24 => ?_)
          refine x_if_eq (tgt := 156) dX11_blame_150 (by decide) (fun _ => ?_) (fun _ => ?_)
          · refine x_iload dX11_blame_156 rfl ?_
            refine x_if_ne (tgt := 164) dX11_blame_158 (by decide) (fun _ => ?_) (fun _ => ?_)
            · refine x_bipush (v := -2) dX11_blame_161 (by decide) ?_
              exact x_iret rfl dX11_blame_163
            · refine x_iconst (v := 1) dX11_blame_164 (by decide) ?_
              refine x_istore (lo' := [some (va_rf a0), none, none, some (va_rf x2), none, some (.int x9), none, some (.int s22.1), some (.int ((1 : Int32))), none, none, none, none]) dX11_blame_165 (by decide) rfl rfl ?_
              refine x_iconst (v := 0) dX11_blame_167 (by decide) ?_
              refine x_istore (lo' := [some (va_rf a0), none, none, some (va_rf x2), none, some (.int x9), none, some (.int s22.1), some (.int ((1 : Int32))), some (.int ((0 : Int32))), none, none, none]) dX11_blame_168 (by decide) rfl rfl ?_
              refine x_jn (σ := Int32 × Mem) 299 (fun s26 => [some (va_rf a0), none, none, none, none, some (.int s26.1), none, none, none, none, none, none, none]) (fun s26 => []) (fun s26 => s26.2) (fun s26 => ?_) (fun j299 hj299 => ?_)
              · refine x_aload_n dX11_blame_299 rfl ?_
                refine gfX11_26 rfl dX11_blame_300 (fun x27 => ?_)
                refine cmX11_294 rfl hs (Nat.le_of_ble_eq_true rfl) dX11_blame_303 (fun x29 M28 => ?_)
                refine x_if_eq (tgt := 312) dX11_blame_306 (by decide) (fun _ => ?_) (fun _ => ?_)
                · refine x_aload_n dX11_blame_312 rfl ?_
                  refine gfX11_61 rfl dX11_blame_313 (fun x30 => ?_)
                  refine x_iconst (v := 0) dX11_blame_316 (by decide) ?_
                  refine x_aload_n dX11_blame_317 rfl ?_
                  refine gfX11_64 rfl dX11_blame_318 (fun x31 => ?_)
                  refine x_iconst (v := 0) dX11_blame_321 (by decide) ?_
                  refine x_iload dX11_blame_322 rfl ?_
                  refine x_acI lk_methodLink_X11_326 w_acn w_acs w_aci (Nat.le_of_ble_eq_true rfl) dX11_blame_324 (fun M32 => ?_)
                  refine x_aload_n dX11_blame_327 rfl ?_
                  refine x_iload dX11_blame_328 rfl ?_
                  refine pfX11_390 rfl dX11_blame_330 (fun M33 => ?_)
                  refine x_iload dX11_blame_333 rfl ?_
                  exact x_iret rfl dX11_blame_335
                · refine x_bipush (v := -4) dX11_blame_309 (by decide) ?_
                  exact x_iret rfl dX11_blame_311
              refine x_weak (by exact ⟨rfl, ⟨rfl, ⟨rfl, ⟨rfl, ⟨rfl, trivial⟩⟩⟩⟩⟩) (x_lp (σ := Int32 × Int32 × Int32 × Mem) 170 (fun s34 => [some (va_rf a0), none, none, some (va_rf x2), none, some (.int s34.1), none, none, some (.int s34.2.1), some (.int s34.2.2.1), none, none, none]) (fun s34 => []) (fun s34 => s34.2.2.2) (fun s34 j170 hj170 => ?_) 4294967296 (x9, (1 : Int32), (0 : Int32), M24))
              · refine x_iload dX11_blame_170 rfl ?_
                refine x_bipush (v := 16) dX11_blame_172 (by decide) ?_
                refine x_icmp_gt (tgt := 299) dX11_blame_174 (by decide) (fun _ => ?_) (fun _ => ?_)
                · exact x_weak (by exact ⟨rfl, ⟨rfl, trivial⟩⟩) (hj299 (s34.1, s34.2.2.2))
                · refine x_iload dX11_blame_177 rfl ?_
                  refine x_if_eq (tgt := 299) dX11_blame_179 (by decide) (fun _ => ?_) (fun _ => ?_)
                  · exact x_weak (by exact ⟨rfl, ⟨rfl, trivial⟩⟩) (hj299 (s34.1, s34.2.2.2))
                  · refine x_iload dX11_blame_182 rfl ?_
                    refine x_istore (lo' := [some (va_rf a0), none, none, some (va_rf x2), none, some (.int s34.1), none, none, some (.int s34.2.1), some (.int s34.2.2.1), some (.int s34.1), none, none]) dX11_blame_184 (by decide) rfl rfl ?_
                    refine x_iconst (v := 0) dX11_blame_186 (by decide) ?_
                    refine x_istore (lo' := [some (va_rf a0), none, none, some (va_rf x2), none, some (.int s34.1), none, none, some (.int s34.2.1), some (.int s34.2.2.1), some (.int s34.1), some (.int ((0 : Int32))), none]) dX11_blame_187 (by decide) rfl rfl ?_
                    refine x_iconst (v := 0) dX11_blame_189 (by decide) ?_
                    refine x_istore (lo' := [some (va_rf a0), none, none, some (va_rf x2), none, some (.int s34.1), none, none, some (.int s34.2.1), some (.int s34.2.2.1), some (.int s34.1), some (.int ((0 : Int32))), some (.int ((0 : Int32)))]) dX11_blame_190 (by decide) rfl rfl ?_
                    refine x_jn (σ := Int32 × Mem) 279 (fun s35 => [some (va_rf a0), none, none, some (va_rf x2), none, some (.int s35.1), none, none, none, some (.int s34.2.2.1), some (.int s34.1), none, none]) (fun s35 => []) (fun s35 => s35.2) (fun s35 => ?_) (fun j279 hj279 => ?_)
                    · refine x_iload dX11_blame_279 rfl ?_
                      refine x_iload dX11_blame_281 rfl ?_
                      refine x_jn (σ := Int32) 291 (fun s36 => [some (va_rf a0), none, none, some (va_rf x2), none, some (.int s35.1), none, none, none, some (.int s34.2.2.1), none, none, none]) (fun s36 => [.int s36]) (fun s36 => s35.2) (fun s36 => ?_) (fun j291 hj291 => ?_)
                      · refine x_istore (lo' := [some (va_rf a0), none, none, some (va_rf x2), none, some (.int s35.1), none, none, some (.int s36), some (.int s34.2.2.1), none, none, none]) dX11_blame_291 (by decide) rfl rfl ?_
                        refine x_iincN (v := 1) (lo' := fun x37 => [some (va_rf a0), none, none, some (va_rf x2), none, some (.int s35.1), none, none, some (.int s36), some (.int x37), none, none, none]) (by decide) dX11_blame_293 rfl (by decide) rfl (fun _ => rfl) (fun x37 => ?_)
                        refine x_goto (tgt := 170) dX11_blame_296 (by decide) ?_
                        exact x_weak (by exact ⟨rfl, ⟨rfl, ⟨rfl, ⟨rfl, ⟨rfl, trivial⟩⟩⟩⟩⟩) (hj170 (s35.1, s36, x37, s35.2))
                      refine x_icmp_ge (tgt := 290) dX11_blame_283 (by decide) (fun _ => ?_) (fun _ => ?_)
                      · refine x_iconst (v := 0) dX11_blame_290 (by decide) ?_
                        exact x_weak (by exact ⟨rfl, ⟨rfl, ⟨rfl, ⟨rfl, trivial⟩⟩⟩⟩) (hj291 ((0 : Int32)))
                      · refine x_iconst (v := 1) dX11_blame_286 (by decide) ?_
                        refine x_goto (tgt := 291) dX11_blame_287 (by decide) ?_
                        exact x_weak (by exact ⟨rfl, ⟨rfl, ⟨rfl, ⟨rfl, trivial⟩⟩⟩⟩) (hj291 ((1 : Int32)))
                    refine x_weak (by exact ⟨rfl, ⟨rfl, ⟨rfl, ⟨rfl, ⟨rfl, ⟨rfl, ⟨rfl, trivial⟩⟩⟩⟩⟩⟩⟩) (x_lp (σ := Int32 × Int32 × Int32 × Mem) 192 (fun s38 => [some (va_rf a0), none, none, some (va_rf x2), none, some (.int s38.1), none, none, none, some (.int s34.2.2.1), some (.int s34.1), some (.int s38.2.1), some (.int s38.2.2.1)]) (fun s38 => []) (fun s38 => s38.2.2.2) (fun s38 j192 hj192 => ?_) 4294967296 (s34.1, (0 : Int32), (0 : Int32), s34.2.2.2))
                    · refine x_iload dX11_blame_192 rfl ?_
                      refine x_iload dX11_blame_194 rfl ?_
                      refine x_icmp_ge (tgt := 279) dX11_blame_196 (by decide) (fun _ => ?_) (fun _ => ?_)
                      · exact x_weak (by exact ⟨rfl, ⟨rfl, ⟨rfl, ⟨rfl, ⟨rfl, trivial⟩⟩⟩⟩⟩) (hj279 (s38.1, s38.2.2.2))
                      · refine x_aload_n dX11_blame_199 rfl ?_
                        refine gfX11_26 rfl dX11_blame_200 (fun x39 => ?_)
                        refine cmX11_294 rfl hs (Nat.le_of_ble_eq_true rfl) dX11_blame_203 (fun x41 M40 => ?_)
                        refine x_if_ne (tgt := 279) dX11_blame_206 (by decide) (fun _ => ?_) (fun _ => ?_)
                        · refine x_aload_n dX11_blame_209 rfl ?_
                          refine x_aload_n dX11_blame_210 rfl ?_
                          refine x_aload_n dX11_blame_211 rfl ?_
                          refine gfX11_61 rfl dX11_blame_212 (fun x42 => ?_)
                          refine x_iload dX11_blame_215 rfl ?_
                          refine x_iconst (v := 1) dX11_blame_217 (by decide) ?_
                          refine x_iadd dX11_blame_218 ?_
                          refine x_iload dX11_blame_219 rfl ?_
                          refine x_aload_n dX11_blame_221 rfl ?_
                          refine gfX11_69 rfl dX11_blame_222 (fun x43 => ?_)
                          refine cmX11_206 rfl hs (Nat.le_of_ble_eq_true rfl) dX11_blame_225 (fun M44 => ?_)
                          refine x_aload_n dX11_blame_228 rfl ?_
                          refine gfX11_26 rfl dX11_blame_229 (fun x45 => ?_)
                          refine gfX11_381 rfl dX11_blame_232 (fun x46 => ?_)
                          refine gfX11_384 rfl dX11_blame_235 (fun x47 => ?_)
                          refine x_iconst (v := 1) dX11_blame_238 (by decide) ?_
                          refine x_jn (σ := Int32 × Int32 × Mem) 273 (fun s48 => [some (va_rf a0), none, none, some (va_rf x2), none, some (.int s48.1), none, none, none, some (.int s34.2.2.1), some (.int s34.1), some (.int s48.2.1), some (.int s38.2.2.1)]) (fun s48 => []) (fun s48 => s48.2.2) (fun s48 => ?_) (fun j273 hj273 => ?_)
                          · refine x_iincN (v := 1) (lo' := fun x49 => [some (va_rf a0), none, none, some (va_rf x2), none, some (.int s48.1), none, none, none, some (.int s34.2.2.1), some (.int s34.1), some (.int s48.2.1), some (.int x49)]) (by decide) dX11_blame_273 rfl (by decide) rfl (fun _ => rfl) (fun x49 => ?_)
                            refine x_goto (tgt := 192) dX11_blame_276 (by decide) ?_
                            exact x_weak (by exact ⟨rfl, ⟨rfl, ⟨rfl, ⟨rfl, ⟨rfl, ⟨rfl, ⟨rfl, trivial⟩⟩⟩⟩⟩⟩⟩) (hj192 (s48.1, s48.2.1, x49, s48.2.2))
                          refine x_icmp_ne (tgt := 248) dX11_blame_239 (by decide) (fun _ => ?_) (fun _ => ?_)
                          · refine x_iincN (v := 1) (lo' := fun x50 => [some (va_rf a0), none, none, some (va_rf x2), none, some (.int s38.1), none, none, none, some (.int s34.2.2.1), some (.int s34.1), some (.int x50), some (.int s38.2.2.1)]) (by decide) dX11_blame_242 rfl (by decide) rfl (fun _ => rfl) (fun x50 => ?_)
                            refine x_goto (tgt := 273) dX11_blame_245 (by decide) ?_
                            exact x_weak (by exact ⟨rfl, ⟨rfl, ⟨rfl, ⟨rfl, ⟨rfl, ⟨rfl, ⟨rfl, trivial⟩⟩⟩⟩⟩⟩⟩) (hj273 (s38.1, x50, M44))
                          · refine x_aload_n dX11_blame_248 rfl ?_
                            refine gfX11_61 rfl dX11_blame_249 (fun x51 => ?_)
                            refine x_iload dX11_blame_252 rfl ?_
                            refine x_iconst (v := 1) dX11_blame_254 (by decide) ?_
                            refine x_iadd dX11_blame_255 ?_
                            refine x_aload_n dX11_blame_256 rfl ?_
                            refine gfX11_61 rfl dX11_blame_257 (fun x52 => ?_)
                            refine x_iload dX11_blame_260 rfl ?_
                            refine x_iload dX11_blame_262 rfl ?_
                            refine x_iload dX11_blame_264 rfl ?_
                            refine x_isub dX11_blame_266 ?_
                            refine x_acI lk_methodLink_X11_326 w_acn w_acs w_aci (Nat.le_of_ble_eq_true rfl) dX11_blame_267 (fun M53 => ?_)
                            refine x_iincN (v := -1) (lo' := fun x54 => [some (va_rf a0), none, none, some (va_rf x2), none, some (.int x54), none, none, none, some (.int s34.2.2.1), some (.int s34.1), some (.int s38.2.1), some (.int s38.2.2.1)]) (by decide) dX11_blame_270 rfl (by decide) rfl (fun _ => rfl) (fun x54 => ?_)
                            exact x_weak (by exact ⟨rfl, ⟨rfl, ⟨rfl, ⟨rfl, ⟨rfl, ⟨rfl, ⟨rfl, trivial⟩⟩⟩⟩⟩⟩⟩) (hj273 (x54, s38.2.1, M53))
                        · exact x_weak (by exact ⟨rfl, ⟨rfl, ⟨rfl, ⟨rfl, ⟨rfl, trivial⟩⟩⟩⟩⟩) (hj279 (s38.1, M40))
          · refine x_bipush (v := -4) dX11_blame_153 (by decide) ?_
            exact x_iret rfl dX11_blame_155
        refine x_jn (σ := Mem) 140 (fun s55 => [some (va_rf a0), none, none, some (va_rf x2), none, some (.int x9), none, none, none, none, none, none, none]) (fun s55 => []) (fun s55 => s55) (fun s55 => ?_) (fun j140 hj140 => ?_)
        · refine x_iconst (v := 0) dX11_blame_140 (by decide) ?_
          exact x_weak (by exact ⟨rfl, ⟨rfl, ⟨rfl, trivial⟩⟩⟩) (hj141 ((0 : Int32), s55))
        refine x_if_eq (tgt := 140) dX11_blame_114 (by decide) (fun _ => ?_) (fun _ => ?_)
        · exact x_weak (by exact ⟨rfl, ⟨rfl, ⟨rfl, trivial⟩⟩⟩) (hj140 M17)
        · refine x_aload_n dX11_blame_117 rfl ?_
          refine gfX11_26 rfl dX11_blame_118 (fun x56 => ?_)
          refine cmX11_294 rfl hs (Nat.le_of_ble_eq_true rfl) dX11_blame_121 (fun x58 M57 => ?_)
          refine x_if_ne (tgt := 140) dX11_blame_124 (by decide) (fun _ => ?_) (fun _ => ?_)
          · refine x_aload_n dX11_blame_127 rfl ?_
            refine x_aload dX11_blame_128 rfl ?_
            refine cmX11_387 rfl hs (Nat.le_of_ble_eq_true rfl) dX11_blame_130 (fun x60 M59 => ?_)
            refine x_if_eq (tgt := 140) dX11_blame_133 (by decide) (fun _ => ?_) (fun _ => ?_)
            · exact x_weak (by exact ⟨rfl, ⟨rfl, ⟨rfl, trivial⟩⟩⟩) (hj140 M59)
            · refine x_iconst (v := 1) dX11_blame_136 (by decide) ?_
              refine x_goto (tgt := 141) dX11_blame_137 (by decide) ?_
              exact x_weak (by exact ⟨rfl, ⟨rfl, ⟨rfl, trivial⟩⟩⟩) (hj141 ((1 : Int32), M59))
          · exact x_weak (by exact ⟨rfl, ⟨rfl, ⟨rfl, trivial⟩⟩⟩) (hj140 M57)
      refine x_icmp_eq (tgt := 109) dX11_blame_102 (by decide) (fun _ => ?_) (fun _ => ?_)
      · refine x_iconst (v := 0) dX11_blame_109 (by decide) ?_
        exact x_weak (by exact ⟨rfl, ⟨rfl, ⟨rfl, ⟨rfl, trivial⟩⟩⟩⟩) (hj110 ((0 : Int32)))
      · refine x_iconst (v := 1) dX11_blame_105 (by decide) ?_
        refine x_goto (tgt := 110) dX11_blame_106 (by decide) ?_
        exact x_weak (by exact ⟨rfl, ⟨rfl, ⟨rfl, ⟨rfl, trivial⟩⟩⟩⟩) (hj110 ((1 : Int32)))
    · refine x_bipush (v := -2) dX11_blame_28 (by decide) ?_
      exact x_iret rfl dX11_blame_30
theorem s162 {l : Launch} {d : Nat} {rec : Nat → List Value → Mem → XA} (hS : Nonempty XS) (hs : XSnd l xmt rec d) : Snd1 l 162 (b162 rec) d := by
  intro as M r M' h0
  unfold b162 at h0
  obtain ⟨a0, l1, e1, h1⟩ := aR_inv h0
  obtain ⟨a1, l2, e2, h2⟩ := aI_inv h1
  obtain ⟨a2, l3, e3, h3⟩ := aI_inv h2
  obtain ⟨ez, h⟩ := aZ_inv h3
  subst ez
  subst e3
  subst e2
  subst e1
  exact xmet (M := M) (as := [va_rf a0, .int a1, .int a2]) (lo := [some (va_rf a0), some (.int a1), some (.int a2)]) 162 xq162 xm162 (by rw [xargs_rf, xargs_i, xargs_i, xargs_nil]; exact ⟨rfl, ⟨rfl, ⟨rfl, trivial⟩⟩⟩) (by rw [xargs_rf, xargs_i, xargs_i, xargs_nil]; exact Nat.le_of_ble_eq_true rfl) (fun S G K => x_weak (by exact ⟨rfl, ⟨rfl, ⟨rfl, trivial⟩⟩⟩) (k162 hs a0 a1 a2 M)) h hS
