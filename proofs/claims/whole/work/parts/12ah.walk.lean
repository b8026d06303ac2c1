set_option maxRecDepth 100000 in
def c114 (rec : Nat → List Value → Mem → XA) (a0 : Option Nat) (M0 : Mem) : XA :=
  lp (fun (s1 : Mem) j0 =>
    gtI (9, 8) s1 a0 7 fun x2 =>
    gtI (9, 8) s1 a0 1 fun x3 =>
    jn (fun (s4 : Unit) =>
      some (.null, s1)) fun j66 =>
    if x3 ≤ x2 then (
      j66 ()) else (
      gtP (9, 8) s1 a0 0 fun x5 =>
      gtI (9, 8) s1 a0 7 fun x6 =>
      alI 101 s1 x5 x6 fun x7 =>
      jn (fun (s8 : Unit) =>
        gtI (9, 8) s1 a0 7 fun x9 =>
        ptI (9, 8) s1 a0 7 (x9 + ((1 : Int32))) fun M10 =>
        j0 M10) fun j53 =>
      if x7 = ((10 : Int32)) then (
        j53 ()) else (
        gtP (9, 8) s1 a0 0 fun x11 =>
        gtI (9, 8) s1 a0 7 fun x12 =>
        alI 101 s1 x11 x12 fun x13 =>
        if x13 = ((13 : Int32)) then (
          j53 ()) else (
          gtP (9, 8) s1 a0 0 fun x14 =>
          gtI (9, 8) s1 a0 7 fun x15 =>
          alI 101 s1 x14 x15 fun x16 =>
          if x16 = ((32 : Int32)) then (
            j53 ()) else (
            j66 ()))))) 4294967296 M0
def b114 (rec : Nat → List Value → Mem → XA) (as : List Value) (M0 : Mem) : XA := aR as fun a0 as => aZ as (c114 rec a0 M0)
set_option maxRecDepth 100000 in
set_option maxHeartbeats 4000000 in
theorem k114 {S : XS} {G : XG} {K : Nat × Nat} {l : Launch} {d : Nat} {rec : Nat → List Value → Mem → XA} (hs : XSnd l xmt rec d) (a0 : Option Nat) (M0 : Mem) : Xe S G K l (yX8_skipBlanks, cX8_skipBlanks, 1, none) d 0 [some (va_rf a0)] [] M0 (c114 rec a0 M0) := by
  unfold c114
  refine x_weak (by exact ⟨rfl, trivial⟩) (x_lp (σ := Mem) 0 (fun s1 => [some (va_rf a0)]) (fun s1 => []) (fun s1 => s1) (fun s1 j0 hj0 => ?_) 4294967296 M0)
  · refine x_aload_n dX8_skipBlanks_0 rfl ?_
    refine gfX8_47 rfl dX8_skipBlanks_1 (fun x2 => ?_)
    refine x_aload_n dX8_skipBlanks_4 rfl ?_
    refine gfX8_41 rfl dX8_skipBlanks_5 (fun x3 => ?_)
    refine x_jn (σ := Unit) 66 (fun s4 => [none]) (fun s4 => []) (fun s4 => s1) (fun s4 => ?_) (fun j66 hj66 => ?_)
    · exact x_vret rfl dX8_skipBlanks_66
    refine x_icmp_ge (tgt := 66) dX8_skipBlanks_8 (by decide) (fun _ => ?_) (fun _ => ?_)
    · exact x_weak (by exact trivial) (hj66 ())
    · refine x_aload_n dX8_skipBlanks_11 rfl ?_
      refine gfX8_9 rfl dX8_skipBlanks_12 (fun x5 => ?_)
      refine x_aload_n dX8_skipBlanks_15 rfl ?_
      refine gfX8_47 rfl dX8_skipBlanks_16 (fun x6 => ?_)
      refine x_bald dX8_skipBlanks_19 (fun x7 => ?_)
      refine x_bipush (v := 10) dX8_skipBlanks_20 (by decide) ?_
      refine x_jn (σ := Unit) 53 (fun s8 => [some (va_rf a0)]) (fun s8 => []) (fun s8 => s1) (fun s8 => ?_) (fun j53 hj53 => ?_)
      · refine x_aload_n dX8_skipBlanks_53 rfl ?_
        refine x_dup dX8_skipBlanks_54 (xc1_r _) ?_
        refine gfX8_47 rfl dX8_skipBlanks_55 (fun x9 => ?_)
        refine x_iconst (v := 1) dX8_skipBlanks_58 (by decide) ?_
        refine x_iadd dX8_skipBlanks_59 ?_
        refine pfX8_47 rfl dX8_skipBlanks_60 (fun M10 => ?_)
        refine x_goto (tgt := 0) dX8_skipBlanks_63 (by decide) ?_
        exact x_weak (by exact ⟨rfl, trivial⟩) (hj0 M10)
      refine x_icmp_eq (tgt := 53) dX8_skipBlanks_22 (by decide) (fun _ => ?_) (fun _ => ?_)
      · exact x_weak (by exact ⟨rfl, trivial⟩) (hj53 ())
      · refine x_aload_n dX8_skipBlanks_25 rfl ?_
        refine gfX8_9 rfl dX8_skipBlanks_26 (fun x11 => ?_)
        refine x_aload_n dX8_skipBlanks_29 rfl ?_
        refine gfX8_47 rfl dX8_skipBlanks_30 (fun x12 => ?_)
        refine x_bald dX8_skipBlanks_33 (fun x13 => ?_)
        refine x_bipush (v := 13) dX8_skipBlanks_34 (by decide) ?_
        refine x_icmp_eq (tgt := 53) dX8_skipBlanks_36 (by decide) (fun _ => ?_) (fun _ => ?_)
        · exact x_weak (by exact ⟨rfl, trivial⟩) (hj53 ())
        · refine x_aload_n dX8_skipBlanks_39 rfl ?_
          refine gfX8_9 rfl dX8_skipBlanks_40 (fun x14 => ?_)
          refine x_aload_n dX8_skipBlanks_43 rfl ?_
          refine gfX8_47 rfl dX8_skipBlanks_44 (fun x15 => ?_)
          refine x_bald dX8_skipBlanks_47 (fun x16 => ?_)
          refine x_bipush (v := 32) dX8_skipBlanks_48 (by decide) ?_
          refine x_icmp_ne (tgt := 66) dX8_skipBlanks_50 (by decide) (fun _ => ?_) (fun _ => ?_)
          · exact x_weak (by exact ⟨rfl, trivial⟩) (hj53 ())
          · exact x_weak (by exact trivial) (hj66 ())
theorem s114 {l : Launch} {d : Nat} {rec : Nat → List Value → Mem → XA} (hS : Nonempty XS) (hs : XSnd l xmt rec d) : Snd1 l 114 (b114 rec) d := by
  intro as M r M' h0
  unfold b114 at h0
  obtain ⟨a0, l1, e1, h1⟩ := aR_inv h0
  obtain ⟨ez, h⟩ := aZ_inv h1
  subst ez
  subst e1
  exact xmet (M := M) (as := [va_rf a0]) (lo := [some (va_rf a0)]) 114 xq114 xm114 (by rw [xargs_rf, xargs_nil]; exact ⟨rfl, trivial⟩) (by rw [xargs_rf, xargs_nil]; exact Nat.le_of_ble_eq_true rfl) (fun S G K => x_weak (by exact ⟨rfl, trivial⟩) (k114 hs a0 M)) h hS
set_option maxRecDepth 100000 in
def c115 (rec : Nat → List Value → Mem → XA) (a0 : Option Nat) (a1 : Int32) (M0 : Mem) : XA :=
  gtI (9, 8) M0 a0 1 fun x1 =>
  jn (fun (s2 : Int32) =>
    rtZ s2 M0) fun j35 =>
  jn (fun (s3 : Unit) =>
    j35 ((0 : Int32))) fun j34 =>
  if x1 ≤ a1 then (
    j34 ()) else (
    gtP (9, 8) M0 a0 0 fun x4 =>
    alI 101 M0 x4 a1 fun x5 =>
    if x5 < ((97 : Int32)) then (
      j34 ()) else (
      gtP (9, 8) M0 a0 0 fun x6 =>
      alI 101 M0 x6 a1 fun x7 =>
      if ((122 : Int32)) < x7 then (
        j34 ()) else (
        j35 ((1 : Int32)))))
def b115 (rec : Nat → List Value → Mem → XA) (as : List Value) (M0 : Mem) : XA := aR as fun a0 as => aI as fun a1 as => aZ as (c115 rec a0 a1 M0)
set_option maxRecDepth 100000 in
set_option maxHeartbeats 4000000 in
theorem k115 {S : XS} {G : XG} {K : Nat × Nat} {l : Launch} {d : Nat} {rec : Nat → List Value → Mem → XA} (hs : XSnd l xmt rec d) (a0 : Option Nat) (a1 : Int32) (M0 : Mem) : Xe S G K l (yX8_isLetter, cX8_isLetter, 2, some .boolean) d 0 [some (va_rf a0), some (.int a1)] [] M0 (c115 rec a0 a1 M0) := by
  unfold c115
  refine x_iload_n dX8_isLetter_0 rfl ?_
  refine x_aload_n dX8_isLetter_1 rfl ?_
  refine gfX8_41 rfl dX8_isLetter_2 (fun x1 => ?_)
  refine x_jn (σ := Int32) 35 (fun s2 => [none, none]) (fun s2 => [.int s2]) (fun s2 => M0) (fun s2 => ?_) (fun j35 hj35 => ?_)
  · exact x_zret rfl dX8_isLetter_35
  refine x_jn (σ := Unit) 34 (fun s3 => [none, none]) (fun s3 => []) (fun s3 => M0) (fun s3 => ?_) (fun j34 hj34 => ?_)
  · refine x_iconst (v := 0) dX8_isLetter_34 (by decide) ?_
    exact x_weak (by exact trivial) (hj35 ((0 : Int32)))
  refine x_icmp_ge (tgt := 34) dX8_isLetter_5 (by decide) (fun _ => ?_) (fun _ => ?_)
  · exact x_weak (by exact trivial) (hj34 ())
  · refine x_aload_n dX8_isLetter_8 rfl ?_
    refine gfX8_9 rfl dX8_isLetter_9 (fun x4 => ?_)
    refine x_iload_n dX8_isLetter_12 rfl ?_
    refine x_bald dX8_isLetter_13 (fun x5 => ?_)
    refine x_bipush (v := 97) dX8_isLetter_14 (by decide) ?_
    refine x_icmp_lt (tgt := 34) dX8_isLetter_16 (by decide) (fun _ => ?_) (fun _ => ?_)
    · exact x_weak (by exact trivial) (hj34 ())
    · refine x_aload_n dX8_isLetter_19 rfl ?_
      refine gfX8_9 rfl dX8_isLetter_20 (fun x6 => ?_)
      refine x_iload_n dX8_isLetter_23 rfl ?_
      refine x_bald dX8_isLetter_24 (fun x7 => ?_)
      refine x_bipush (v := 122) dX8_isLetter_25 (by decide) ?_
      refine x_icmp_gt (tgt := 34) dX8_isLetter_27 (by decide) (fun _ => ?_) (fun _ => ?_)
      · exact x_weak (by exact trivial) (hj34 ())
      · refine x_iconst (v := 1) dX8_isLetter_30 (by decide) ?_
        refine x_goto (tgt := 35) dX8_isLetter_31 (by decide) ?_
        exact x_weak (by exact trivial) (hj35 ((1 : Int32)))
theorem s115 {l : Launch} {d : Nat} {rec : Nat → List Value → Mem → XA} (hS : Nonempty XS) (hs : XSnd l xmt rec d) : Snd1 l 115 (b115 rec) d := by
  intro as M r M' h0
  unfold b115 at h0
  obtain ⟨a0, l1, e1, h1⟩ := aR_inv h0
  obtain ⟨a1, l2, e2, h2⟩ := aI_inv h1
  obtain ⟨ez, h⟩ := aZ_inv h2
  subst ez
  subst e2
  subst e1
  exact xmet (M := M) (as := [va_rf a0, .int a1]) (lo := [some (va_rf a0), some (.int a1)]) 115 xq115 xm115 (by rw [xargs_rf, xargs_i, xargs_nil]; exact ⟨rfl, ⟨rfl, trivial⟩⟩) (by rw [xargs_rf, xargs_i, xargs_nil]; exact Nat.le_of_ble_eq_true rfl) (fun S G K => x_weak (by exact ⟨rfl, ⟨rfl, trivial⟩⟩) (k115 hs a0 a1 M)) h hS
set_option maxRecDepth 100000 in
def c116 (rec : Nat → List Value → Mem → XA) (a0 : Option Nat) (a1 : Int32) (M0 : Mem) : XA :=
  gtI (9, 8) M0 a0 1 fun x1 =>
  jn (fun (s2 : Int32) =>
    rtZ s2 M0) fun j35 =>
  jn (fun (s3 : Unit) =>
    j35 ((0 : Int32))) fun j34 =>
  if x1 ≤ a1 then (
    j34 ()) else (
    gtP (9, 8) M0 a0 0 fun x4 =>
    alI 101 M0 x4 a1 fun x5 =>
    if x5 < ((48 : Int32)) then (
      j34 ()) else (
      gtP (9, 8) M0 a0 0 fun x6 =>
      alI 101 M0 x6 a1 fun x7 =>
      if ((57 : Int32)) < x7 then (
        j34 ()) else (
        j35 ((1 : Int32)))))
def b116 (rec : Nat → List Value → Mem → XA) (as : List Value) (M0 : Mem) : XA := aR as fun a0 as => aI as fun a1 as => aZ as (c116 rec a0 a1 M0)
set_option maxRecDepth 100000 in
set_option maxHeartbeats 4000000 in
theorem k116 {S : XS} {G : XG} {K : Nat × Nat} {l : Launch} {d : Nat} {rec : Nat → List Value → Mem → XA} (hs : XSnd l xmt rec d) (a0 : Option Nat) (a1 : Int32) (M0 : Mem) : Xe S G K l (yX8_isDigit, cX8_isDigit, 2, some .boolean) d 0 [some (va_rf a0), some (.int a1)] [] M0 (c116 rec a0 a1 M0) := by
  unfold c116
  refine x_iload_n dX8_isDigit_0 rfl ?_
  refine x_aload_n dX8_isDigit_1 rfl ?_
  refine gfX8_41 rfl dX8_isDigit_2 (fun x1 => ?_)
  refine x_jn (σ := Int32) 35 (fun s2 => [none, none]) (fun s2 => [.int s2]) (fun s2 => M0) (fun s2 => ?_) (fun j35 hj35 => ?_)
  · exact x_zret rfl dX8_isDigit_35
  refine x_jn (σ := Unit) 34 (fun s3 => [none, none]) (fun s3 => []) (fun s3 => M0) (fun s3 => ?_) (fun j34 hj34 => ?_)
  · refine x_iconst (v := 0) dX8_isDigit_34 (by decide) ?_
    exact x_weak (by exact trivial) (hj35 ((0 : Int32)))
  refine x_icmp_ge (tgt := 34) dX8_isDigit_5 (by decide) (fun _ => ?_) (fun _ => ?_)
  · exact x_weak (by exact trivial) (hj34 ())
  · refine x_aload_n dX8_isDigit_8 rfl ?_
    refine gfX8_9 rfl dX8_isDigit_9 (fun x4 => ?_)
    refine x_iload_n dX8_isDigit_12 rfl ?_
    refine x_bald dX8_isDigit_13 (fun x5 => ?_)
    refine x_bipush (v := 48) dX8_isDigit_14 (by decide) ?_
    refine x_icmp_lt (tgt := 34) dX8_isDigit_16 (by decide) (fun _ => ?_) (fun _ => ?_)
    · exact x_weak (by exact trivial) (hj34 ())
    · refine x_aload_n dX8_isDigit_19 rfl ?_
      refine gfX8_9 rfl dX8_isDigit_20 (fun x6 => ?_)
      refine x_iload_n dX8_isDigit_23 rfl ?_
      refine x_bald dX8_isDigit_24 (fun x7 => ?_)
      refine x_bipush (v := 57) dX8_isDigit_25 (by decide) ?_
      refine x_icmp_gt (tgt := 34) dX8_isDigit_27 (by decide) (fun _ => ?_) (fun _ => ?_)
      · exact x_weak (by exact trivial) (hj34 ())
      · refine x_iconst (v := 1) dX8_isDigit_30 (by decide) ?_
        refine x_goto (tgt := 35) dX8_isDigit_31 (by decide) ?_
        exact x_weak (by exact trivial) (hj35 ((1 : Int32)))
theorem s116 {l : Launch} {d : Nat} {rec : Nat → List Value → Mem → XA} (hS : Nonempty XS) (hs : XSnd l xmt rec d) : Snd1 l 116 (b116 rec) d := by
  intro as M r M' h0
  unfold b116 at h0
  obtain ⟨a0, l1, e1, h1⟩ := aR_inv h0
  obtain ⟨a1, l2, e2, h2⟩ := aI_inv h1
  obtain ⟨ez, h⟩ := aZ_inv h2
  subst ez
  subst e2
  subst e1
  exact xmet (M := M) (as := [va_rf a0, .int a1]) (lo := [some (va_rf a0), some (.int a1)]) 116 xq116 xm116 (by rw [xargs_rf, xargs_i, xargs_nil]; exact ⟨rfl, ⟨rfl, trivial⟩⟩) (by rw [xargs_rf, xargs_i, xargs_nil]; exact Nat.le_of_ble_eq_true rfl) (fun S G K => x_weak (by exact ⟨rfl, ⟨rfl, trivial⟩⟩) (k116 hs a0 a1 M)) h hS
set_option maxRecDepth 100000 in
def c117 (rec : Nat → List Value → Mem → XA) (a0 : Option Nat) (M0 : Mem) : XA :=
  gtI (9, 8) M0 a0 7 fun x1 =>
  lp (fun (s2 : Int64 × Mem) j7 =>
    gtI (9, 8) s2.2 a0 7 fun x3 =>
    gtI (9, 8) s2.2 a0 1 fun x4 =>
    jn (fun (s5 : Mem) =>
      gtI (9, 8) s5 a0 7 fun x6 =>
      if (x6 - x1) ≤ ((8 : Int32)) then (
        gtP (9, 8) s5 a0 4 fun x7 =>
        gtI (9, 8) s5 a0 6 fun x8 =>
        asL s5 x7 x8 s2.1 fun M9 =>
        lp (fun (s10 : Int32) j95 =>
          if ((28 : Int32)) ≤ s10 then (
            some (.int ((3 : Int32)), M9)) else (
            gtP (9, 8) M9 a0 5 fun x11 =>
            alL M9 x11 s10 fun x12 =>
            if (lg_cmp x12 s2.1) = 0 then (
              some (.int (((200 : Int32)) + s10), M9)) else (
              lt (s10 + (1 : Int32)) fun (x13 : Int32) =>
              j95 x13))) 4294967296 ((0 : Int32))) else (
        some (.int ((1 : Int32)), s5))) fun j69 =>
    if x4 ≤ x3 then (
      j69 s2.2) else (
      gtI (9, 8) s2.2 a0 7 fun x14 =>
      vC (9, 8) s2.2 a0 <|
      cI (rec 115 [va_rf a0, .int x14] s2.2) fun x16 M15 =>
      jn (fun (s17 : Mem) =>
        gtP (9, 8) s17 a0 0 fun x18 =>
        gtI (9, 8) s17 a0 7 fun x19 =>
        alI 101 s17 x18 x19 fun x20 =>
        lt ((s2.1 <<< (Int32.toInt64 ((8 : Int32)) &&& 63)) ||| x20.toInt64) fun (x21 : Int64) =>
        gtI (9, 8) s17 a0 7 fun x22 =>
        ptI (9, 8) s17 a0 7 (x22 + ((1 : Int32))) fun M23 =>
        j7 (x21, M23)) fun j40 =>
      if x16 = 0 then (
        gtI (9, 8) M15 a0 7 fun x24 =>
        vC (9, 8) M15 a0 <|
        cI (rec 116 [va_rf a0, .int x24] M15) fun x26 M25 =>
        if x26 = 0 then (
          j69 M25) else (
          j40 M25)) else (
        j40 M15))) 4294967296 ((0 : Int64), M0)
def b117 (rec : Nat → List Value → Mem → XA) (as : List Value) (M0 : Mem) : XA := aR as fun a0 as => aZ as (c117 rec a0 M0)
set_option maxRecDepth 100000 in
set_option maxHeartbeats 4000000 in
theorem k117 {S : XS} {G : XG} {K : Nat × Nat} {l : Launch} {d : Nat} {rec : Nat → List Value → Mem → XA} (hs : XSnd l xmt rec d) (a0 : Option Nat) (M0 : Mem) : Xe S G K l (yX8_wordHere, cX8_wordHere, 5, some .int) d 0 [some (va_rf a0), none, none, none, none] [] M0 (c117 rec a0 M0) := by
  unfold c117
  refine x_aload_n dX8_wordHere_0 rfl ?_
  refine gfX8_47 rfl dX8_wordHere_1 (fun x1 => ?_)
  refine x_istore_n (lo' := [some (va_rf a0), some (.int x1), none, none, none]) dX8_wordHere_4 (by decide) (xok_r rfl) rfl ?_
  refine x_lconst (v := 0) dX8_wordHere_5 (by decide) ?_
  refine x_lstore_n (lo' := [some (va_rf a0), some (.int x1), some (.long ((0 : Int64))), none, none]) dX8_wordHere_6 (by decide) rfl rfl ?_
  refine x_weak (by exact ⟨rfl, ⟨rfl, ⟨rfl, trivial⟩⟩⟩) (x_lp (σ := Int64 × Mem) 7 (fun s2 => [some (va_rf a0), some (.int x1), some (.long s2.1), none, none]) (fun s2 => []) (fun s2 => s2.2) (fun s2 j7 hj7 => ?_) 4294967296 ((0 : Int64), M0))
  · refine x_aload_n dX8_wordHere_7 rfl ?_
    refine gfX8_47 rfl dX8_wordHere_8 (fun x3 => ?_)
    refine x_aload_n dX8_wordHere_11 rfl ?_
    refine gfX8_41 rfl dX8_wordHere_12 (fun x4 => ?_)
    refine x_jn (σ := Mem) 69 (fun s5 => [some (va_rf a0), some (.int x1), some (.long s2.1), none, none]) (fun s5 => []) (fun s5 => s5) (fun s5 => ?_) (fun j69 hj69 => ?_)
    · refine x_aload_n dX8_wordHere_69 rfl ?_
      refine gfX8_47 rfl dX8_wordHere_70 (fun x6 => ?_)
      refine x_iload_n dX8_wordHere_73 rfl ?_
      refine x_isub dX8_wordHere_74 ?_
      refine x_bipush (v := 8) dX8_wordHere_75 (by decide) ?_
      refine x_icmp_le (tgt := 82) dX8_wordHere_77 (by decide) (fun _ => ?_) (fun _ => ?_)
      · refine x_aload_n dX8_wordHere_82 rfl ?_
        refine gfX8_22 rfl dX8_wordHere_83 (fun x7 => ?_)
        refine x_aload_n dX8_wordHere_86 rfl ?_
        refine gfX8_44 rfl dX8_wordHere_87 (fun x8 => ?_)
        refine x_lload_n dX8_wordHere_90 rfl ?_
        refine x_last dX8_wordHere_91 (fun M9 => ?_)
        refine x_iconst (v := 0) dX8_wordHere_92 (by decide) ?_
        refine x_istore (lo' := [some (va_rf a0), some (.int x1), some (.long s2.1), none, some (.int ((0 : Int32)))]) dX8_wordHere_93 (by decide) rfl rfl ?_
        refine x_weak (by exact ⟨rfl, ⟨rfl, ⟨rfl, trivial⟩⟩⟩) (x_lp (σ := Int32) 95 (fun s10 => [some (va_rf a0), none, some (.long s2.1), none, some (.int s10)]) (fun s10 => []) (fun s10 => M9) (fun s10 j95 hj95 => ?_) 4294967296 ((0 : Int32)))
        · refine x_iload dX8_wordHere_95 rfl ?_
          refine x_bipush (v := 28) dX8_wordHere_97 (by decide) ?_
          refine x_icmp_ge (tgt := 127) dX8_wordHere_99 (by decide) (fun _ => ?_) (fun _ => ?_)
          · refine x_iconst (v := 3) dX8_wordHere_127 (by decide) ?_
            exact x_iret rfl dX8_wordHere_128
          · refine x_aload_n dX8_wordHere_102 rfl ?_
            refine gfX8_26 rfl dX8_wordHere_103 (fun x11 => ?_)
            refine x_iload dX8_wordHere_106 rfl ?_
            refine x_lald dX8_wordHere_108 (fun x12 => ?_)
            refine x_lload_n dX8_wordHere_109 rfl ?_
            refine x_lcmp dX8_wordHere_110 ?_
            refine x_if_ne (tgt := 121) dX8_wordHere_111 (by decide) (fun _ => ?_) (fun _ => ?_)
            · refine x_sipush (v := 200) dX8_wordHere_114 (by decide) ?_
              refine x_iload dX8_wordHere_117 rfl ?_
              refine x_iadd dX8_wordHere_119 ?_
              exact x_iret rfl dX8_wordHere_120
            · refine x_iincN (v := 1) (lo' := fun x13 => [some (va_rf a0), none, some (.long s2.1), none, some (.int x13)]) (by decide) dX8_wordHere_121 rfl (by decide) rfl (fun _ => rfl) (fun x13 => ?_)
              refine x_goto (tgt := 95) dX8_wordHere_124 (by decide) ?_
              exact x_weak (by exact ⟨rfl, ⟨rfl, ⟨rfl, trivial⟩⟩⟩) (hj95 x13)
      · refine x_iconst (v := 1) dX8_wordHere_80 (by decide) ?_
        exact x_iret rfl dX8_wordHere_81
    refine x_icmp_ge (tgt := 69) dX8_wordHere_15 (by decide) (fun _ => ?_) (fun _ => ?_)
    · exact x_weak (by exact ⟨rfl, ⟨rfl, ⟨rfl, trivial⟩⟩⟩) (hj69 s2.2)
    · refine x_aload_n dX8_wordHere_18 rfl ?_
      refine x_aload_n dX8_wordHere_19 rfl ?_
      refine gfX8_47 rfl dX8_wordHere_20 (fun x14 => ?_)
      refine cmX8_53 rfl hs (Nat.le_of_ble_eq_true rfl) dX8_wordHere_23 (fun x16 M15 => ?_)
      refine x_jn (σ := Mem) 40 (fun s17 => [some (va_rf a0), some (.int x1), some (.long s2.1), none, none]) (fun s17 => []) (fun s17 => s17) (fun s17 => ?_) (fun j40 hj40 => ?_)
      · refine x_lload_n dX8_wordHere_40 rfl ?_
        refine x_bipush (v := 8) dX8_wordHere_41 (by decide) ?_
        refine x_lshl dX8_wordHere_43 ?_
        refine x_aload_n dX8_wordHere_44 rfl ?_
        refine gfX8_9 rfl dX8_wordHere_45 (fun x18 => ?_)
        refine x_aload_n dX8_wordHere_48 rfl ?_
        refine gfX8_47 rfl dX8_wordHere_49 (fun x19 => ?_)
        refine x_bald dX8_wordHere_52 (fun x20 => ?_)
        refine x_i2l dX8_wordHere_53 ?_
        refine x_lor dX8_wordHere_54 ?_
        refine x_ltL (fun x21 => ?_)
        refine x_lstore_n (lo' := [some (va_rf a0), some (.int x1), some (.long x21), none, none]) dX8_wordHere_55 (by decide) rfl rfl ?_
        refine x_aload_n dX8_wordHere_56 rfl ?_
        refine x_dup dX8_wordHere_57 (xc1_r _) ?_
        refine gfX8_47 rfl dX8_wordHere_58 (fun x22 => ?_)
        refine x_iconst (v := 1) dX8_wordHere_61 (by decide) ?_
        refine x_iadd dX8_wordHere_62 ?_
        refine pfX8_47 rfl dX8_wordHere_63 (fun M23 => ?_)
        refine x_goto (tgt := 7) dX8_wordHere_66 (by decide) ?_
        exact x_weak (by exact ⟨rfl, ⟨rfl, ⟨rfl, trivial⟩⟩⟩) (hj7 (x21, M23))
      refine x_if_ne (tgt := 40) dX8_wordHere_26 (by decide) (fun _ => ?_) (fun _ => ?_)
      · refine x_aload_n dX8_wordHere_29 rfl ?_
        refine x_aload_n dX8_wordHere_30 rfl ?_
        refine gfX8_47 rfl dX8_wordHere_31 (fun x24 => ?_)
        refine cmX8_60 rfl hs (Nat.le_of_ble_eq_true rfl) dX8_wordHere_34 (fun x26 M25 => ?_)
        refine x_if_eq (tgt := 69) dX8_wordHere_37 (by decide) (fun _ => ?_) (fun _ => ?_)
        · exact x_weak (by exact ⟨rfl, ⟨rfl, ⟨rfl, trivial⟩⟩⟩) (hj69 M25)
        · exact x_weak (by exact ⟨rfl, ⟨rfl, ⟨rfl, trivial⟩⟩⟩) (hj40 M25)
      · exact x_weak (by exact ⟨rfl, ⟨rfl, ⟨rfl, trivial⟩⟩⟩) (hj40 M15)
theorem s117 {l : Launch} {d : Nat} {rec : Nat → List Value → Mem → XA} (hS : Nonempty XS) (hs : XSnd l xmt rec d) : Snd1 l 117 (b117 rec) d := by
  intro as M r M' h0
  unfold b117 at h0
  obtain ⟨a0, l1, e1, h1⟩ := aR_inv h0
  obtain ⟨ez, h⟩ := aZ_inv h1
  subst ez
  subst e1
  exact xmet (M := M) (as := [va_rf a0]) (lo := [some (va_rf a0)]) 117 xq117 xm117 (by rw [xargs_rf, xargs_nil]; exact ⟨rfl, trivial⟩) (by rw [xargs_rf, xargs_nil]; exact Nat.le_of_ble_eq_true rfl) (fun S G K => x_weak (by exact ⟨rfl, trivial⟩) (k117 hs a0 M)) h hS
set_option maxRecDepth 100000 in
def c118 (rec : Nat → List Value → Mem → XA) (a0 : Option Nat) (M0 : Mem) : XA :=
  gtI (9, 8) M0 a0 7 fun x1 =>
  lp (fun (s2 : Int64 × Mem) j7 =>
    gtI (9, 8) s2.2 a0 7 fun x3 =>
    gtI (9, 8) s2.2 a0 1 fun x4 =>
    jn (fun (s5 : Mem) =>
      gtI (9, 8) s5 a0 7 fun x6 =>
      jn (fun (s7 : Mem) =>
        some (.int ((1 : Int32)), s7)) fun j84 =>
      if ((9 : Int32)) < (x6 - x1) then (
        j84 s5) else (
        gtI (9, 8) s5 a0 7 fun x8 =>
        vC (9, 8) s5 a0 <|
        cI (rec 115 [va_rf a0, .int x8] s5) fun x10 M9 =>
        if x10 = 0 then (
          gtP (9, 8) M9 a0 4 fun x11 =>
          gtI (9, 8) M9 a0 6 fun x12 =>
          asL M9 x11 x12 s2.1 fun M13 =>
          some (.int ((4 : Int32)), M13)) else (
          j84 M9))) fun j62 =>
    if x4 ≤ x3 then (
      j62 s2.2) else (
      gtI (9, 8) s2.2 a0 7 fun x14 =>
      vC (9, 8) s2.2 a0 <|
      cI (rec 116 [va_rf a0, .int x14] s2.2) fun x16 M15 =>
      if x16 = 0 then (
        j62 M15) else (
        gtP (9, 8) M15 a0 0 fun x17 =>
        gtI (9, 8) M15 a0 7 fun x18 =>
        alI 101 M15 x17 x18 fun x19 =>
        lt ((s2.1 * ((10 : Int64))) + ((x19 - ((48 : Int32))).toInt64)) fun (x20 : Int64) =>
        gtI (9, 8) M15 a0 7 fun x21 =>
        ptI (9, 8) M15 a0 7 (x21 + ((1 : Int32))) fun M22 =>
        j7 (x20, M22)))) 4294967296 ((0 : Int64), M0)
def b118 (rec : Nat → List Value → Mem → XA) (as : List Value) (M0 : Mem) : XA := aR as fun a0 as => aZ as (c118 rec a0 M0)
set_option maxRecDepth 100000 in
set_option maxHeartbeats 4000000 in
theorem k118 {S : XS} {G : XG} {K : Nat × Nat} {l : Launch} {d : Nat} {rec : Nat → List Value → Mem → XA} (hs : XSnd l xmt rec d) (a0 : Option Nat) (M0 : Mem) : Xe S G K l (yX8_numberHere, cX8_numberHere, 4, some .int) d 0 [some (va_rf a0), none, none, none] [] M0 (c118 rec a0 M0) := by
  unfold c118
  refine x_aload_n dX8_numberHere_0 rfl ?_
  refine gfX8_47 rfl dX8_numberHere_1 (fun x1 => ?_)
  refine x_istore_n (lo' := [some (va_rf a0), some (.int x1), none, none]) dX8_numberHere_4 (by decide) (xok_r rfl) rfl ?_
  refine x_lconst (v := 0) dX8_numberHere_5 (by decide) ?_
  refine x_lstore_n (lo' := [some (va_rf a0), some (.int x1), some (.long ((0 : Int64))), none]) dX8_numberHere_6 (by decide) rfl rfl ?_
  refine x_weak (by exact ⟨rfl, ⟨rfl, ⟨rfl, trivial⟩⟩⟩) (x_lp (σ := Int64 × Mem) 7 (fun s2 => [some (va_rf a0), some (.int x1), some (.long s2.1), none]) (fun s2 => []) (fun s2 => s2.2) (fun s2 j7 hj7 => ?_) 4294967296 ((0 : Int64), M0))
  · refine x_aload_n dX8_numberHere_7 rfl ?_
    refine gfX8_47 rfl dX8_numberHere_8 (fun x3 => ?_)
    refine x_aload_n dX8_numberHere_11 rfl ?_
    refine gfX8_41 rfl dX8_numberHere_12 (fun x4 => ?_)
    refine x_jn (σ := Mem) 62 (fun s5 => [some (va_rf a0), some (.int x1), some (.long s2.1), none]) (fun s5 => []) (fun s5 => s5) (fun s5 => ?_) (fun j62 hj62 => ?_)
    · refine x_aload_n dX8_numberHere_62 rfl ?_
      refine gfX8_47 rfl dX8_numberHere_63 (fun x6 => ?_)
      refine x_iload_n dX8_numberHere_66 rfl ?_
      refine x_isub dX8_numberHere_67 ?_
      refine x_bipush (v := 9) dX8_numberHere_68 (by decide) ?_
      refine x_jn (σ := Mem) 84 (fun s7 => [none, none, none, none]) (fun s7 => []) (fun s7 => s7) (fun s7 => ?_) (fun j84 hj84 => ?_)
      · refine x_iconst (v := 1) dX8_numberHere_84 (by decide) ?_
        exact x_iret rfl dX8_numberHere_85
      refine x_icmp_gt (tgt := 84) dX8_numberHere_70 (by decide) (fun _ => ?_) (fun _ => ?_)
      · exact x_weak (by exact trivial) (hj84 s5)
      · refine x_aload_n dX8_numberHere_73 rfl ?_
        refine x_aload_n dX8_numberHere_74 rfl ?_
        refine gfX8_47 rfl dX8_numberHere_75 (fun x8 => ?_)
        refine cmX8_53 rfl hs (Nat.le_of_ble_eq_true rfl) dX8_numberHere_78 (fun x10 M9 => ?_)
        refine x_if_eq (tgt := 86) dX8_numberHere_81 (by decide) (fun _ => ?_) (fun _ => ?_)
        · refine x_aload_n dX8_numberHere_86 rfl ?_
          refine gfX8_22 rfl dX8_numberHere_87 (fun x11 => ?_)
          refine x_aload_n dX8_numberHere_90 rfl ?_
          refine gfX8_44 rfl dX8_numberHere_91 (fun x12 => ?_)
          refine x_lload_n dX8_numberHere_94 rfl ?_
          refine x_last dX8_numberHere_95 (fun M13 => ?_)
          refine x_iconst (v := 4) dX8_numberHere_96 (by decide) ?_
          exact x_iret rfl dX8_numberHere_97
        · exact x_weak (by exact trivial) (hj84 M9)
    refine x_icmp_ge (tgt := 62) dX8_numberHere_15 (by decide) (fun _ => ?_) (fun _ => ?_)
    · exact x_weak (by exact ⟨rfl, ⟨rfl, ⟨rfl, trivial⟩⟩⟩) (hj62 s2.2)
    · refine x_aload_n dX8_numberHere_18 rfl ?_
      refine x_aload_n dX8_numberHere_19 rfl ?_
      refine gfX8_47 rfl dX8_numberHere_20 (fun x14 => ?_)
      refine cmX8_60 rfl hs (Nat.le_of_ble_eq_true rfl) dX8_numberHere_23 (fun x16 M15 => ?_)
      refine x_if_eq (tgt := 62) dX8_numberHere_26 (by decide) (fun _ => ?_) (fun _ => ?_)
      · exact x_weak (by exact ⟨rfl, ⟨rfl, ⟨rfl, trivial⟩⟩⟩) (hj62 M15)
      · refine x_lload_n dX8_numberHere_29 rfl ?_
        refine x_ldc2 (v := 10) dX8_numberHere_30 lk_constantLong_X8_69 ?_
        refine x_lmul dX8_numberHere_33 ?_
        refine x_aload_n dX8_numberHere_34 rfl ?_
        refine gfX8_9 rfl dX8_numberHere_35 (fun x17 => ?_)
        refine x_aload_n dX8_numberHere_38 rfl ?_
        refine gfX8_47 rfl dX8_numberHere_39 (fun x18 => ?_)
        refine x_bald dX8_numberHere_42 (fun x19 => ?_)
        refine x_bipush (v := 48) dX8_numberHere_43 (by decide) ?_
        refine x_isub dX8_numberHere_45 ?_
        refine x_i2l dX8_numberHere_46 ?_
        refine x_ladd dX8_numberHere_47 ?_
        refine x_ltL (fun x20 => ?_)
        refine x_lstore_n (lo' := [some (va_rf a0), some (.int x1), some (.long x20), none]) dX8_numberHere_48 (by decide) rfl rfl ?_
        refine x_aload_n dX8_numberHere_49 rfl ?_
        refine x_dup dX8_numberHere_50 (xc1_r _) ?_
        refine gfX8_47 rfl dX8_numberHere_51 (fun x21 => ?_)
        refine x_iconst (v := 1) dX8_numberHere_54 (by decide) ?_
        refine x_iadd dX8_numberHere_55 ?_
        refine pfX8_47 rfl dX8_numberHere_56 (fun M22 => ?_)
        refine x_goto (tgt := 7) dX8_numberHere_59 (by decide) ?_
        exact x_weak (by exact ⟨rfl, ⟨rfl, ⟨rfl, trivial⟩⟩⟩) (hj7 (x20, M22))
theorem s118 {l : Launch} {d : Nat} {rec : Nat → List Value → Mem → XA} (hS : Nonempty XS) (hs : XSnd l xmt rec d) : Snd1 l 118 (b118 rec) d := by
  intro as M r M' h0
  unfold b118 at h0
  obtain ⟨a0, l1, e1, h1⟩ := aR_inv h0
  obtain ⟨ez, h⟩ := aZ_inv h1
  subst ez
  subst e1
  exact xmet (M := M) (as := [va_rf a0]) (lo := [some (va_rf a0)]) 118 xq118 xm118 (by rw [xargs_rf, xargs_nil]; exact ⟨rfl, trivial⟩) (by rw [xargs_rf, xargs_nil]; exact Nat.le_of_ble_eq_true rfl) (fun S G K => x_weak (by exact ⟨rfl, trivial⟩) (k118 hs a0 M)) h hS
set_option maxRecDepth 100000 in
def c119 (rec : Nat → List Value → Mem → XA) (a0 : Option Nat) (M0 : Mem) : XA :=
  gtP (9, 8) M0 a0 0 fun x1 =>
  gtI (9, 8) M0 a0 7 fun x2 =>
  alI 101 M0 x1 x2 fun x3 =>
  gtI (9, 8) M0 a0 7 fun x4 =>
  gtI (9, 8) M0 a0 1 fun x5 =>
  jn (fun (s6 : Int32) =>
    gtI (9, 8) M0 a0 7 fun x7 =>
    ptI (9, 8) M0 a0 7 (x7 + ((1 : Int32))) fun M8 =>
    jn (fun (s9 : Unit) =>
      jn (fun (s10 : Int32 × Mem) =>
        some (.int s10.1, s10.2)) fun j134 =>
      jn (fun (s11 : Mem) =>
        j134 ((1 : Int32), s11)) fun j133 =>
      if x3 ≤ 0 then (
        j133 M8) else (
        vS ((some 4)) <|
        cI (rec 322 [va_rf ((some 4)), .int ((x3.toUInt32 % 65536).toInt32)] M8) fun x13 M12 =>
        if x13 < 0 then (
          j133 M12) else (
          j134 (x3, M12)))) fun j115 =>
    if s6 = 0 then (
      j115 ()) else (
      jn (fun (s14 : Unit) =>
        gtI (9, 8) M8 a0 7 fun x15 =>
        ptI (9, 8) M8 a0 7 (x15 + ((1 : Int32))) fun M16 =>
        jn (fun (s17 : Int32) =>
          some (.int s17, M16)) fun j114 =>
        if x3 = ((60 : Int32)) then (
          j114 ((128 : Int32))) else (
          if x3 = ((61 : Int32)) then (
            j114 ((129 : Int32))) else (
            j114 ((130 : Int32))))) fun j77 =>
      if x3 = ((60 : Int32)) then (
        j77 ()) else (
        if x3 = ((61 : Int32)) then (
          j77 ()) else (
          if x3 = ((33 : Int32)) then (
            j77 ()) else (
            j115 ()))))) fun j44 =>
  jn (fun (s18 : Unit) =>
    j44 ((0 : Int32))) fun j43 =>
  if x5 ≤ (x4 + ((1 : Int32))) then (
    j43 ()) else (
    gtP (9, 8) M0 a0 0 fun x19 =>
    gtI (9, 8) M0 a0 7 fun x20 =>
    alI 101 M0 x19 (x20 + ((1 : Int32))) fun x21 =>
    if x21 = ((61 : Int32)) then (
      j44 ((1 : Int32))) else (
      j43 ()))
def b119 (rec : Nat → List Value → Mem → XA) (as : List Value) (M0 : Mem) : XA := aR as fun a0 as => aZ as (c119 rec a0 M0)
set_option maxRecDepth 100000 in
set_option maxHeartbeats 4000000 in
theorem k119 {S : XS} {G : XG} {K : Nat × Nat} {l : Launch} {d : Nat} {rec : Nat → List Value → Mem → XA} (hs : XSnd l xmt rec d) (a0 : Option Nat) (M0 : Mem) : Xe S G K l (yX8_signHere, cX8_signHere, 3, some .int) d 0 [some (va_rf a0), none, none] [] M0 (c119 rec a0 M0) := by
  unfold c119
  refine x_aload_n dX8_signHere_0 rfl ?_
  refine gfX8_9 rfl dX8_signHere_1 (fun x1 => ?_)
  refine x_aload_n dX8_signHere_4 rfl ?_
  refine gfX8_47 rfl dX8_signHere_5 (fun x2 => ?_)
  refine x_bald dX8_signHere_8 (fun x3 => ?_)
  refine x_istore_n (lo' := [some (va_rf a0), some (.int x3), none]) dX8_signHere_9 (by decide) (xok_r rfl) rfl ?_
  refine x_aload_n dX8_signHere_10 rfl ?_
  refine gfX8_47 rfl dX8_signHere_11 (fun x4 => ?_)
  refine x_iconst (v := 1) dX8_signHere_14 (by decide) ?_
  refine x_iadd dX8_signHere_15 ?_
  refine x_aload_n dX8_signHere_16 rfl ?_
  refine gfX8_41 rfl dX8_signHere_17 (fun x5 => ?_)
  refine x_jn (σ := Int32) 44 (fun s6 => [some (va_rf a0), some (.int x3), none]) (fun s6 => [.int s6]) (fun s6 => M0) (fun s6 => ?_) (fun j44 hj44 => ?_)
  · refine x_istore_n (lo' := [some (va_rf a0), some (.int x3), some (.int s6)]) dX8_signHere_44 (by decide) rfl rfl ?_
    refine x_aload_n dX8_signHere_45 rfl ?_
    refine x_dup dX8_signHere_46 (xc1_r _) ?_
    refine gfX8_47 rfl dX8_signHere_47 (fun x7 => ?_)
    refine x_iconst (v := 1) dX8_signHere_50 (by decide) ?_
    refine x_iadd dX8_signHere_51 ?_
    refine pfX8_47 rfl dX8_signHere_52 (fun M8 => ?_)
    refine x_iload_n dX8_signHere_55 rfl ?_
    refine x_jn (σ := Unit) 115 (fun s9 => [none, some (.int x3), none]) (fun s9 => []) (fun s9 => M8) (fun s9 => ?_) (fun j115 hj115 => ?_)
    · refine x_iload_n dX8_signHere_115 rfl ?_
      refine x_jn (σ := Int32 × Mem) 134 (fun s10 => [none, none, none]) (fun s10 => [.int s10.1]) (fun s10 => s10.2) (fun s10 => ?_) (fun j134 hj134 => ?_)
      · exact x_iret rfl dX8_signHere_134
      refine x_jn (σ := Mem) 133 (fun s11 => [none, none, none]) (fun s11 => []) (fun s11 => s11) (fun s11 => ?_) (fun j133 hj133 => ?_)
      · refine x_iconst (v := 1) dX8_signHere_133 (by decide) ?_
        exact x_weak (by exact trivial) (hj134 ((1 : Int32), s11))
      refine x_if_le (tgt := 133) dX8_signHere_116 (by decide) (fun _ => ?_) (fun _ => ?_)
      · exact x_weak (by exact trivial) (hj133 M8)
      · refine x_ldcS (i := 1) rfl (by decide) dX8_signHere_119 ?_
        refine x_iload_n dX8_signHere_121 rfl ?_
        refine x_i2c dX8_signHere_122 ?_
        refine cmX8_73 rfl hs (Nat.le_of_ble_eq_true rfl) dX8_signHere_123 (fun x13 M12 => ?_)
        refine x_if_lt (tgt := 133) dX8_signHere_126 (by decide) (fun _ => ?_) (fun _ => ?_)
        · exact x_weak (by exact trivial) (hj133 M12)
        · refine x_iload_n dX8_signHere_129 rfl ?_
          refine x_goto (tgt := 134) dX8_signHere_130 (by decide) ?_
          exact x_weak (by exact trivial) (hj134 (x3, M12))
    refine x_if_eq (tgt := 115) dX8_signHere_56 (by decide) (fun _ => ?_) (fun _ => ?_)
    · exact x_weak (by exact ⟨rfl, trivial⟩) (hj115 ())
    · refine x_iload_n dX8_signHere_59 rfl ?_
      refine x_bipush (v := 60) dX8_signHere_60 (by decide) ?_
      refine x_jn (σ := Unit) 77 (fun s14 => [some (va_rf a0), some (.int x3), none]) (fun s14 => []) (fun s14 => M8) (fun s14 => ?_) (fun j77 hj77 => ?_)
      · refine x_aload_n dX8_signHere_77 rfl ?_
        refine x_dup dX8_signHere_78 (xc1_r _) ?_
        refine gfX8_47 rfl dX8_signHere_79 (fun x15 => ?_)
        refine x_iconst (v := 1) dX8_signHere_82 (by decide) ?_
        refine x_iadd dX8_signHere_83 ?_
        refine pfX8_47 rfl dX8_signHere_84 (fun M16 => ?_)
        refine x_iload_n dX8_signHere_87 rfl ?_
        refine x_bipush (v := 60) dX8_signHere_88 (by decide) ?_
        refine x_jn (σ := Int32) 114 (fun s17 => [none, none, none]) (fun s17 => [.int s17]) (fun s17 => M16) (fun s17 => ?_) (fun j114 hj114 => ?_)
        · exact x_iret rfl dX8_signHere_114
        refine x_icmp_ne (tgt := 99) dX8_signHere_90 (by decide) (fun _ => ?_) (fun _ => ?_)
        · refine x_sipush (v := 128) dX8_signHere_93 (by decide) ?_
          refine x_goto (tgt := 114) dX8_signHere_96 (by decide) ?_
          exact x_weak (by exact trivial) (hj114 ((128 : Int32)))
        · refine x_iload_n dX8_signHere_99 rfl ?_
          refine x_bipush (v := 61) dX8_signHere_100 (by decide) ?_
          refine x_icmp_ne (tgt := 111) dX8_signHere_102 (by decide) (fun _ => ?_) (fun _ => ?_)
          · refine x_sipush (v := 129) dX8_signHere_105 (by decide) ?_
            refine x_goto (tgt := 114) dX8_signHere_108 (by decide) ?_
            exact x_weak (by exact trivial) (hj114 ((129 : Int32)))
          · refine x_sipush (v := 130) dX8_signHere_111 (by decide) ?_
            exact x_weak (by exact trivial) (hj114 ((130 : Int32)))
      refine x_icmp_eq (tgt := 77) dX8_signHere_62 (by decide) (fun _ => ?_) (fun _ => ?_)
      · exact x_weak (by exact ⟨rfl, ⟨rfl, trivial⟩⟩) (hj77 ())
      · refine x_iload_n dX8_signHere_65 rfl ?_
        refine x_bipush (v := 61) dX8_signHere_66 (by decide) ?_
        refine x_icmp_eq (tgt := 77) dX8_signHere_68 (by decide) (fun _ => ?_) (fun _ => ?_)
        · exact x_weak (by exact ⟨rfl, ⟨rfl, trivial⟩⟩) (hj77 ())
        · refine x_iload_n dX8_signHere_71 rfl ?_
          refine x_bipush (v := 33) dX8_signHere_72 (by decide) ?_
          refine x_icmp_ne (tgt := 115) dX8_signHere_74 (by decide) (fun _ => ?_) (fun _ => ?_)
          · exact x_weak (by exact ⟨rfl, ⟨rfl, trivial⟩⟩) (hj77 ())
          · exact x_weak (by exact ⟨rfl, trivial⟩) (hj115 ())
  refine x_jn (σ := Unit) 43 (fun s18 => [some (va_rf a0), some (.int x3), none]) (fun s18 => []) (fun s18 => M0) (fun s18 => ?_) (fun j43 hj43 => ?_)
  · refine x_iconst (v := 0) dX8_signHere_43 (by decide) ?_
    exact x_weak (by exact ⟨rfl, ⟨rfl, trivial⟩⟩) (hj44 ((0 : Int32)))
  refine x_icmp_ge (tgt := 43) dX8_signHere_20 (by decide) (fun _ => ?_) (fun _ => ?_)
  · exact x_weak (by exact ⟨rfl, ⟨rfl, trivial⟩⟩) (hj43 ())
  · refine x_aload_n dX8_signHere_23 rfl ?_
    refine gfX8_9 rfl dX8_signHere_24 (fun x19 => ?_)
    refine x_aload_n dX8_signHere_27 rfl ?_
    refine gfX8_47 rfl dX8_signHere_28 (fun x20 => ?_)
    refine x_iconst (v := 1) dX8_signHere_31 (by decide) ?_
    refine x_iadd dX8_signHere_32 ?_
    refine x_bald dX8_signHere_33 (fun x21 => ?_)
    refine x_bipush (v := 61) dX8_signHere_34 (by decide) ?_
    refine x_icmp_ne (tgt := 43) dX8_signHere_36 (by decide) (fun _ => ?_) (fun _ => ?_)
    · refine x_iconst (v := 1) dX8_signHere_39 (by decide) ?_
      refine x_goto (tgt := 44) dX8_signHere_40 (by decide) ?_
      exact x_weak (by exact ⟨rfl, ⟨rfl, trivial⟩⟩) (hj44 ((1 : Int32)))
    · exact x_weak (by exact ⟨rfl, ⟨rfl, trivial⟩⟩) (hj43 ())
theorem s119 {l : Launch} {d : Nat} {rec : Nat → List Value → Mem → XA} (hS : Nonempty XS) (hs : XSnd l xmt rec d) : Snd1 l 119 (b119 rec) d := by
  intro as M r M' h0
  unfold b119 at h0
  obtain ⟨a0, l1, e1, h1⟩ := aR_inv h0
  obtain ⟨ez, h⟩ := aZ_inv h1
  subst ez
  subst e1
  exact xmet (M := M) (as := [va_rf a0]) (lo := [some (va_rf a0)]) 119 xq119 xm119 (by rw [xargs_rf, xargs_nil]; exact ⟨rfl, trivial⟩) (by rw [xargs_rf, xargs_nil]; exact Nat.le_of_ble_eq_true rfl) (fun S G K => x_weak (by exact ⟨rfl, trivial⟩) (k119 hs a0 M)) h hS
set_option maxRecDepth 100000 in
def c120 (rec : Nat → List Value → Mem → XA) (a0 : Option Nat) (M0 : Mem) : XA :=
  nn a0 <|
  ptI (10, 9) M0 a0 0 ((-2 : Int32)) fun M1 =>
  nA 100 M1 ((32 : Int32)) fun x2 M3 =>
  ptP (10, 9) M3 a0 3 x2 fun M4 =>
  nA 100 M4 ((200 : Int32)) fun x5 M6 =>
  ptP (10, 9) M6 a0 5 x5 fun M7 =>
  nA 100 M7 ((50 : Int32)) fun x8 M9 =>
  ptP (10, 9) M9 a0 6 x8 fun M10 =>
  some (.null, M10)
def b120 (rec : Nat → List Value → Mem → XA) (as : List Value) (M0 : Mem) : XA := aR as fun a0 as => aZ as (c120 rec a0 M0)
set_option maxRecDepth 100000 in
set_option maxHeartbeats 4000000 in
theorem k120 {S : XS} {G : XG} {K : Nat × Nat} {l : Launch} {d : Nat} {rec : Nat → List Value → Mem → XA} (hs : XSnd l xmt rec d) (a0 : Option Nat) (M0 : Mem) : Xe S G K l (yX9_init, cX9_init, 1, none) d 0 [some (va_rf a0)] [] M0 (c120 rec a0 M0) := by
  unfold c120
  refine x_aload_n dX9_init_0 rfl ?_
  refine xoiX9 rfl (Nat.le_of_ble_eq_true rfl) dX9_init_1 ?_
  refine x_aload_n dX9_init_4 rfl ?_
  refine x_bipush (v := -2) dX9_init_5 (by decide) ?_
  refine pfX9_9 rfl dX9_init_7 (fun M1 => ?_)
  refine x_aload_n dX9_init_10 rfl ?_
  refine x_bipush (v := 32) dX9_init_11 (by decide) ?_
  refine x_newa100 dX9_init_13 (fun x2 M3 => ?_)
  refine pfX9_15 rfl rfl dX9_init_15 (fun M4 => ?_)
  refine x_aload_n dX9_init_18 rfl ?_
  refine x_sipush (v := 200) dX9_init_19 (by decide) ?_
  refine x_newa100 dX9_init_22 (fun x5 M6 => ?_)
  refine pfX9_19 rfl rfl dX9_init_24 (fun M7 => ?_)
  refine x_aload_n dX9_init_27 rfl ?_
  refine x_bipush (v := 50) dX9_init_28 (by decide) ?_
  refine x_newa100 dX9_init_30 (fun x8 M9 => ?_)
  refine pfX9_22 rfl rfl dX9_init_32 (fun M10 => ?_)
  exact x_vret rfl dX9_init_35
theorem s120 {l : Launch} {d : Nat} {rec : Nat → List Value → Mem → XA} (hS : Nonempty XS) (hs : XSnd l xmt rec d) : Snd1 l 120 (b120 rec) d := by
  intro as M r M' h0
  unfold b120 at h0
  obtain ⟨a0, l1, e1, h1⟩ := aR_inv h0
  obtain ⟨ez, h⟩ := aZ_inv h1
  subst ez
  subst e1
  exact xmet (M := M) (as := [va_rf a0]) (lo := [some (va_rf a0)]) 120 xq120 xm120 (by rw [xargs_rf, xargs_nil]; exact ⟨rfl, trivial⟩) (by rw [xargs_rf, xargs_nil]; exact Nat.le_of_ble_eq_true rfl) (fun S G K => x_weak (by exact ⟨rfl, trivial⟩) (k120 hs a0 M)) h hS
set_option maxRecDepth 100000 in
def c121 (rec : Nat → List Value → Mem → XA) (a0 : Option Nat) (a1 : Int32) (a2 : Int32) (a3 : Int32) (a4 : Int32) (M0 : Mem) : XA :=
  ptI (10, 9) M0 a0 0 a1 fun M1 =>
  ptI (10, 9) M1 a0 7 a2 fun M2 =>
  ptI (10, 9) M2 a0 8 a3 fun M3 =>
  ptI (10, 9) M3 a0 1 a4 fun M4 =>
  ptI (10, 9) M4 a0 2 ((0 : Int32)) fun M5 =>
  ptI (10, 9) M5 a0 4 ((0 : Int32)) fun M6 =>
  some (.null, M6)
def b121 (rec : Nat → List Value → Mem → XA) (as : List Value) (M0 : Mem) : XA := aR as fun a0 as => aI as fun a1 as => aI as fun a2 as => aI as fun a3 as => aI as fun a4 as => aZ as (c121 rec a0 a1 a2 a3 a4 M0)
set_option maxRecDepth 100000 in
set_option maxHeartbeats 4000000 in
theorem k121 {S : XS} {G : XG} {K : Nat × Nat} {l : Launch} {d : Nat} {rec : Nat → List Value → Mem → XA} (hs : XSnd l xmt rec d) (a0 : Option Nat) (a1 : Int32) (a2 : Int32) (a3 : Int32) (a4 : Int32) (M0 : Mem) : Xe S G K l (yX9_begin, cX9_begin, 5, none) d 0 [some (va_rf a0), some (.int a1), some (.int a2), some (.int a3), some (.int a4)] [] M0 (c121 rec a0 a1 a2 a3 a4 M0) := by
  unfold c121
  refine x_aload_n dX9_begin_0 rfl ?_
  refine x_iload_n dX9_begin_1 rfl ?_
  refine pfX9_9 rfl dX9_begin_2 (fun M1 => ?_)
  refine x_aload_n dX9_begin_5 rfl ?_
  refine x_iload_n dX9_begin_6 rfl ?_
  refine pfX9_25 rfl dX9_begin_7 (fun M2 => ?_)
  refine x_aload_n dX9_begin_10 rfl ?_
  refine x_iload_n dX9_begin_11 rfl ?_
  refine pfX9_28 rfl dX9_begin_12 (fun M3 => ?_)
  refine x_aload_n dX9_begin_15 rfl ?_
  refine x_iload dX9_begin_16 rfl ?_
  refine pfX9_31 rfl dX9_begin_18 (fun M4 => ?_)
  refine x_aload_n dX9_begin_21 rfl ?_
  refine x_iconst (v := 0) dX9_begin_22 (by decide) ?_
  refine pfX9_34 rfl dX9_begin_23 (fun M5 => ?_)
  refine x_aload_n dX9_begin_26 rfl ?_
  refine x_iconst (v := 0) dX9_begin_27 (by decide) ?_
  refine pfX9_37 rfl dX9_begin_28 (fun M6 => ?_)
  exact x_vret rfl dX9_begin_31
theorem s121 {l : Launch} {d : Nat} {rec : Nat → List Value → Mem → XA} (hS : Nonempty XS) (hs : XSnd l xmt rec d) : Snd1 l 121 (b121 rec) d := by
  intro as M r M' h0
  unfold b121 at h0
  obtain ⟨a0, l1, e1, h1⟩ := aR_inv h0
  obtain ⟨a1, l2, e2, h2⟩ := aI_inv h1
  obtain ⟨a2, l3, e3, h3⟩ := aI_inv h2
  obtain ⟨a3, l4, e4, h4⟩ := aI_inv h3
  obtain ⟨a4, l5, e5, h5⟩ := aI_inv h4
  obtain ⟨ez, h⟩ := aZ_inv h5
  subst ez
  subst e5
  subst e4
  subst e3
  subst e2
  subst e1
  exact xmet (M := M) (as := [va_rf a0, .int a1, .int a2, .int a3, .int a4]) (lo := [some (va_rf a0), some (.int a1), some (.int a2), some (.int a3), some (.int a4)]) 121 xq121 xm121 (by rw [xargs_rf, xargs_i, xargs_i, xargs_i, xargs_i, xargs_nil]; exact ⟨rfl, ⟨rfl, ⟨rfl, ⟨rfl, ⟨rfl, trivial⟩⟩⟩⟩⟩) (by rw [xargs_rf, xargs_i, xargs_i, xargs_i, xargs_i, xargs_nil]; exact Nat.le_of_ble_eq_true rfl) (fun S G K => x_weak (by exact ⟨rfl, ⟨rfl, ⟨rfl, ⟨rfl, ⟨rfl, trivial⟩⟩⟩⟩⟩) (k121 hs a0 a1 a2 a3 a4 M)) h hS
set_option maxRecDepth 100000 in
def c122 (rec : Nat → List Value → Mem → XA) (a0 : Option Nat) (a1 : Int32) (a2 : Int32) (M0 : Mem) : XA :=
  gtI (10, 9) M0 a0 0 fun x1 =>
  jn (fun (s2 : Int32) =>
    rtZ s2 M0) fun j28 =>
  jn (fun (s3 : Unit) =>
    j28 ((0 : Int32))) fun j27 =>
  if x1 < 0 then (
    j27 ()) else (
    gtI (10, 9) M0 a0 7 fun x4 =>
    if x4 = a1 then (
      gtI (10, 9) M0 a0 8 fun x5 =>
      if x5 = a2 then (
        j28 ((1 : Int32))) else (
        j27 ())) else (
      j27 ()))
def b122 (rec : Nat → List Value → Mem → XA) (as : List Value) (M0 : Mem) : XA := aR as fun a0 as => aI as fun a1 as => aI as fun a2 as => aZ as (c122 rec a0 a1 a2 M0)
set_option maxRecDepth 100000 in
set_option maxHeartbeats 4000000 in
theorem k122 {S : XS} {G : XG} {K : Nat × Nat} {l : Launch} {d : Nat} {rec : Nat → List Value → Mem → XA} (hs : XSnd l xmt rec d) (a0 : Option Nat) (a1 : Int32) (a2 : Int32) (M0 : Mem) : Xe S G K l (yX9_standsFor, cX9_standsFor, 3, some .boolean) d 0 [some (va_rf a0), some (.int a1), some (.int a2)] [] M0 (c122 rec a0 a1 a2 M0) := by
  unfold c122
  refine x_aload_n dX9_standsFor_0 rfl ?_
  refine gfX9_9 rfl dX9_standsFor_1 (fun x1 => ?_)
  refine x_jn (σ := Int32) 28 (fun s2 => [none, none, none]) (fun s2 => [.int s2]) (fun s2 => M0) (fun s2 => ?_) (fun j28 hj28 => ?_)
  · exact x_zret rfl dX9_standsFor_28
  refine x_jn (σ := Unit) 27 (fun s3 => [none, none, none]) (fun s3 => []) (fun s3 => M0) (fun s3 => ?_) (fun j27 hj27 => ?_)
  · refine x_iconst (v := 0) dX9_standsFor_27 (by decide) ?_
    exact x_weak (by exact trivial) (hj28 ((0 : Int32)))
  refine x_if_lt (tgt := 27) dX9_standsFor_4 (by decide) (fun _ => ?_) (fun _ => ?_)
  · exact x_weak (by exact trivial) (hj27 ())
  · refine x_aload_n dX9_standsFor_7 rfl ?_
    refine gfX9_25 rfl dX9_standsFor_8 (fun x4 => ?_)
    refine x_iload_n dX9_standsFor_11 rfl ?_
    refine x_icmp_ne (tgt := 27) dX9_standsFor_12 (by decide) (fun _ => ?_) (fun _ => ?_)
    · refine x_aload_n dX9_standsFor_15 rfl ?_
      refine gfX9_28 rfl dX9_standsFor_16 (fun x5 => ?_)
      refine x_iload_n dX9_standsFor_19 rfl ?_
      refine x_icmp_ne (tgt := 27) dX9_standsFor_20 (by decide) (fun _ => ?_) (fun _ => ?_)
      · refine x_iconst (v := 1) dX9_standsFor_23 (by decide) ?_
        refine x_goto (tgt := 28) dX9_standsFor_24 (by decide) ?_
        exact x_weak (by exact trivial) (hj28 ((1 : Int32)))
      · exact x_weak (by exact trivial) (hj27 ())
    · exact x_weak (by exact trivial) (hj27 ())
theorem s122 {l : Launch} {d : Nat} {rec : Nat → List Value → Mem → XA} (hS : Nonempty XS) (hs : XSnd l xmt rec d) : Snd1 l 122 (b122 rec) d := by
  intro as M r M' h0
  unfold b122 at h0
  obtain ⟨a0, l1, e1, h1⟩ := aR_inv h0
  obtain ⟨a1, l2, e2, h2⟩ := aI_inv h1
  obtain ⟨a2, l3, e3, h3⟩ := aI_inv h2
  obtain ⟨ez, h⟩ := aZ_inv h3
  subst ez
  subst e3
  subst e2
  subst e1
  exact xmet (M := M) (as := [va_rf a0, .int a1, .int a2]) (lo := [some (va_rf a0), some (.int a1), some (.int a2)]) 122 xq122 xm122 (by rw [xargs_rf, xargs_i, xargs_i, xargs_nil]; exact ⟨rfl, ⟨rfl, ⟨rfl, trivial⟩⟩⟩) (by rw [xargs_rf, xargs_i, xargs_i, xargs_nil]; exact Nat.le_of_ble_eq_true rfl) (fun S G K => x_weak (by exact ⟨rfl, ⟨rfl, ⟨rfl, trivial⟩⟩⟩) (k122 hs a0 a1 a2 M)) h hS
set_option maxRecDepth 100000 in
def c123 (rec : Nat → List Value → Mem → XA) (a0 : Option Nat) (a1 : Int32) (a2 : Int32) (a3 : Int32) (a4 : Int32) (M0 : Mem) : XA :=
  gtI (10, 9) M0 a0 2 fun x1 =>
  lt (x1 * ((4 : Int32))) fun (x2 : Int32) =>
  gtP (10, 9) M0 a0 3 fun x3 =>
  asI 100 M0 x3 (x2 + ((0 : Int32))) a1 fun M4 =>
  gtP (10, 9) M4 a0 3 fun x5 =>
  asI 100 M4 x5 (x2 + ((1 : Int32))) a2 fun M6 =>
  gtP (10, 9) M6 a0 3 fun x7 =>
  jn (fun (s8 : Int32) =>
    asI 100 M6 x7 (x2 + ((2 : Int32))) s8 fun M9 =>
    gtP (10, 9) M9 a0 3 fun x10 =>
    asI 100 M9 x10 (x2 + ((3 : Int32))) a4 fun M11 =>
    gtI (10, 9) M11 a0 2 fun x12 =>
    ptI (10, 9) M11 a0 2 (x12 + ((1 : Int32))) fun M13 =>
    gtI (10, 9) M13 a0 2 fun x14 =>
    some (.int x14, M13)) fun j45 =>
  if a3 = 0 then (
    j45 ((0 : Int32))) else (
    j45 ((1 : Int32)))
def b123 (rec : Nat → List Value → Mem → XA) (as : List Value) (M0 : Mem) : XA := aR as fun a0 as => aI as fun a1 as => aI as fun a2 as => aI as fun a3 as => aI as fun a4 as => aZ as (c123 rec a0 a1 a2 a3 a4 M0)
set_option maxRecDepth 100000 in
set_option maxHeartbeats 4000000 in
theorem k123 {S : XS} {G : XG} {K : Nat × Nat} {l : Launch} {d : Nat} {rec : Nat → List Value → Mem → XA} (hs : XSnd l xmt rec d) (a0 : Option Nat) (a1 : Int32) (a2 : Int32) (a3 : Int32) (a4 : Int32) (M0 : Mem) : Xe S G K l (yX9_addRule, cX9_addRule, 6, some .int) d 0 [some (va_rf a0), some (.int a1), some (.int a2), some (.int a3), some (.int a4), none] [] M0 (c123 rec a0 a1 a2 a3 a4 M0) := by
  unfold c123
  refine x_aload_n dX9_addRule_0 rfl ?_
  refine gfX9_34 rfl dX9_addRule_1 (fun x1 => ?_)
  refine x_iconst (v := 4) dX9_addRule_4 (by decide) ?_
  refine x_imul dX9_addRule_5 ?_
  refine x_ltI (fun x2 => ?_)
  refine x_istore (lo' := [some (va_rf a0), some (.int a1), some (.int a2), some (.int a3), some (.int a4), some (.int x2)]) dX9_addRule_6 (by decide) rfl rfl ?_
  refine x_aload_n dX9_addRule_8 rfl ?_
  refine gfX9_15 rfl dX9_addRule_9 (fun x3 => ?_)
  refine x_iload dX9_addRule_12 rfl ?_
  refine x_iconst (v := 0) dX9_addRule_14 (by decide) ?_
  refine x_iadd dX9_addRule_15 ?_
  refine x_iload_n dX9_addRule_16 rfl ?_
  refine x_iast dX9_addRule_17 (fun M4 => ?_)
  refine x_aload_n dX9_addRule_18 rfl ?_
  refine gfX9_15 rfl dX9_addRule_19 (fun x5 => ?_)
  refine x_iload dX9_addRule_22 rfl ?_
  refine x_iconst (v := 1) dX9_addRule_24 (by decide) ?_
  refine x_iadd dX9_addRule_25 ?_
  refine x_iload_n dX9_addRule_26 rfl ?_
  refine x_iast dX9_addRule_27 (fun M6 => ?_)
  refine x_aload_n dX9_addRule_28 rfl ?_
  refine gfX9_15 rfl dX9_addRule_29 (fun x7 => ?_)
  refine x_iload dX9_addRule_32 rfl ?_
  refine x_iconst (v := 2) dX9_addRule_34 (by decide) ?_
  refine x_iadd dX9_addRule_35 ?_
  refine x_iload_n dX9_addRule_36 rfl ?_
  refine x_jn (σ := Int32) 45 (fun s8 => [some (va_rf a0), none, none, none, some (.int a4), some (.int x2)]) (fun s8 => [.int s8, .int (x2 + ((2 : Int32))), va_rf x7]) (fun s8 => M6) (fun s8 => ?_) (fun j45 hj45 => ?_)
  · refine x_iast dX9_addRule_45 (fun M9 => ?_)
    refine x_aload_n dX9_addRule_46 rfl ?_
    refine gfX9_15 rfl dX9_addRule_47 (fun x10 => ?_)
    refine x_iload dX9_addRule_50 rfl ?_
    refine x_iconst (v := 3) dX9_addRule_52 (by decide) ?_
    refine x_iadd dX9_addRule_53 ?_
    refine x_iload dX9_addRule_54 rfl ?_
    refine x_iast dX9_addRule_56 (fun M11 => ?_)
    refine x_aload_n dX9_addRule_57 rfl ?_
    refine x_dup dX9_addRule_58 (xc1_r _) ?_
    refine gfX9_34 rfl dX9_addRule_59 (fun x12 => ?_)
    refine x_iconst (v := 1) dX9_addRule_62 (by decide) ?_
    refine x_iadd dX9_addRule_63 ?_
    refine pfX9_34 rfl dX9_addRule_64 (fun M13 => ?_)
    refine x_aload_n dX9_addRule_67 rfl ?_
    refine gfX9_34 rfl dX9_addRule_68 (fun x14 => ?_)
    exact x_iret rfl dX9_addRule_71
  refine x_if_eq (tgt := 44) dX9_addRule_37 (by decide) (fun _ => ?_) (fun _ => ?_)
  · refine x_iconst (v := 0) dX9_addRule_44 (by decide) ?_
    exact x_weak (by exact ⟨rfl, ⟨rfl, ⟨rfl, trivial⟩⟩⟩) (hj45 ((0 : Int32)))
  · refine x_iconst (v := 1) dX9_addRule_40 (by decide) ?_
    refine x_goto (tgt := 45) dX9_addRule_41 (by decide) ?_
    exact x_weak (by exact ⟨rfl, ⟨rfl, ⟨rfl, trivial⟩⟩⟩) (hj45 ((1 : Int32)))
theorem s123 {l : Launch} {d : Nat} {rec : Nat → List Value → Mem → XA} (hS : Nonempty XS) (hs : XSnd l xmt rec d) : Snd1 l 123 (b123 rec) d := by
  intro as M r M' h0
  unfold b123 at h0
  obtain ⟨a0, l1, e1, h1⟩ := aR_inv h0
  obtain ⟨a1, l2, e2, h2⟩ := aI_inv h1
  obtain ⟨a2, l3, e3, h3⟩ := aI_inv h2
  obtain ⟨a3, l4, e4, h4⟩ := aI_inv h3
  obtain ⟨a4, l5, e5, h5⟩ := aI_inv h4
  obtain ⟨ez, h⟩ := aZ_inv h5
  subst ez
  subst e5
  subst e4
  subst e3
  subst e2
  subst e1
  exact xmet (M := M) (as := [va_rf a0, .int a1, .int a2, .int a3, .int a4]) (lo := [some (va_rf a0), some (.int a1), some (.int a2), some (.int a3), some (.int a4)]) 123 xq123 xm123 (by rw [xargs_rf, xargs_i, xargs_i, xargs_i, xargs_i, xargs_nil]; exact ⟨rfl, ⟨rfl, ⟨rfl, ⟨rfl, ⟨rfl, trivial⟩⟩⟩⟩⟩) (by rw [xargs_rf, xargs_i, xargs_i, xargs_i, xargs_i, xargs_nil]; exact Nat.le_of_ble_eq_true rfl) (fun S G K => x_weak (by exact ⟨rfl, ⟨rfl, ⟨rfl, ⟨rfl, ⟨rfl, trivial⟩⟩⟩⟩⟩) (k123 hs a0 a1 a2 a3 a4 M)) h hS
set_option maxRecDepth 100000 in
def c124 (rec : Nat → List Value → Mem → XA) (a0 : Option Nat) (a1 : Option Nat) (a2 : Int32) (M0 : Mem) : XA :=
  gtI (10, 9) M0 a0 2 fun x1 =>
  lt (x1 - ((1 : Int32))) fun (x2 : Int32) =>
  lp (fun (s3 : Int32) j7 =>
    if s3 < 0 then (
      some (.int ((-2 : Int32)), M0)) else (
      gtP (10, 9) M0 a0 3 fun x4 =>
      alI 100 M0 x4 ((s3 * ((4 : Int32))) + ((0 : Int32))) fun x5 =>
      jn (fun (s6 : Int32) =>
        if s6 = 0 then (
          lt (s3 + (-1 : Int32)) fun (x7 : Int32) =>
          j7 x7) else (
          some (.int s3, M0))) fun j61 =>
      jn (fun (s8 : Unit) =>
        j61 ((1 : Int32))) fun j56 =>
      if x5 < 0 then (
        j56 ()) else (
        aln M0 a1 fun x9 =>
        jn (fun (s10 : Unit) =>
          j61 ((0 : Int32))) fun j60 =>
        if x9 ≤ (a2 + x5) then (
          j60 ()) else (
          alI 100 M0 a1 (a2 + x5) fun x11 =>
          gtP (10, 9) M0 a0 3 fun x12 =>
          alI 100 M0 x12 ((s3 * ((4 : Int32))) + ((1 : Int32))) fun x13 =>
          if x11 = x13 then (
            j56 ()) else (
            j60 ()))))) 4294967296 x2
def b124 (rec : Nat → List Value → Mem → XA) (as : List Value) (M0 : Mem) : XA := aR as fun a0 as => aR as fun a1 as => aI as fun a2 as => aZ as (c124 rec a0 a1 a2 M0)
set_option maxRecDepth 100000 in
set_option maxHeartbeats 4000000 in
theorem k124 {S : XS} {G : XG} {K : Nat × Nat} {l : Launch} {d : Nat} {rec : Nat → List Value → Mem → XA} (hs : XSnd l xmt rec d) (a0 : Option Nat) (a1 : Option Nat) (a2 : Int32) (M0 : Mem) : Xe S G K l (yX9_fitting, cX9_fitting, 6, some .int) d 0 [some (va_rf a0), some (va_rf a1), some (.int a2), none, none, none] [] M0 (c124 rec a0 a1 a2 M0) := by
  unfold c124
  refine x_aload_n dX9_fitting_0 rfl ?_
  refine gfX9_34 rfl dX9_fitting_1 (fun x1 => ?_)
  refine x_iconst (v := 1) dX9_fitting_4 (by decide) ?_
  refine x_isub dX9_fitting_5 ?_
  refine x_ltI (fun x2 => ?_)
  refine x_istore_n (lo' := [some (va_rf a0), some (va_rf a1), some (.int a2), some (.int x2), none, none]) dX9_fitting_6 (by decide) rfl rfl ?_
  refine x_weak (by exact ⟨rfl, ⟨rfl, ⟨rfl, ⟨rfl, trivial⟩⟩⟩⟩) (x_lp (σ := Int32) 7 (fun s3 => [some (va_rf a0), some (va_rf a1), some (.int a2), some (.int s3), none, none]) (fun s3 => []) (fun s3 => M0) (fun s3 j7 hj7 => ?_) 4294967296 x2)
  · refine x_iload_n dX9_fitting_7 rfl ?_
    refine x_if_lt (tgt := 76) dX9_fitting_8 (by decide) (fun _ => ?_) (fun _ => ?_)
    · refine x_bipush (v := -2) dX9_fitting_76 (by decide) ?_
      exact x_iret rfl dX9_fitting_78
    · refine x_aload_n dX9_fitting_11 rfl ?_
      refine gfX9_15 rfl dX9_fitting_12 (fun x4 => ?_)
      refine x_iload_n dX9_fitting_15 rfl ?_
      refine x_iconst (v := 4) dX9_fitting_16 (by decide) ?_
      refine x_imul dX9_fitting_17 ?_
      refine x_iconst (v := 0) dX9_fitting_18 (by decide) ?_
      refine x_iadd dX9_fitting_19 ?_
      refine x_iald dX9_fitting_20 (fun x5 => ?_)
      refine x_istore (lo' := [some (va_rf a0), some (va_rf a1), some (.int a2), some (.int s3), some (.int x5), none]) dX9_fitting_21 (by decide) rfl rfl ?_
      refine x_iload dX9_fitting_23 rfl ?_
      refine x_jn (σ := Int32) 61 (fun s6 => [some (va_rf a0), some (va_rf a1), some (.int a2), some (.int s3), none, none]) (fun s6 => [.int s6]) (fun s6 => M0) (fun s6 => ?_) (fun j61 hj61 => ?_)
      · refine x_istore (lo' := [some (va_rf a0), some (va_rf a1), some (.int a2), some (.int s3), none, some (.int s6)]) dX9_fitting_61 (by decide) rfl rfl ?_
        refine x_iload dX9_fitting_63 rfl ?_
        refine x_if_eq (tgt := 70) dX9_fitting_65 (by decide) (fun _ => ?_) (fun _ => ?_)
        · refine x_iincN (v := -1) (lo' := fun x7 => [some (va_rf a0), some (va_rf a1), some (.int a2), some (.int x7), none, some (.int s6)]) (by decide) dX9_fitting_70 rfl (by decide) rfl (fun _ => rfl) (fun x7 => ?_)
          refine x_goto (tgt := 7) dX9_fitting_73 (by decide) ?_
          exact x_weak (by exact ⟨rfl, ⟨rfl, ⟨rfl, ⟨rfl, trivial⟩⟩⟩⟩) (hj7 x7)
        · refine x_iload_n dX9_fitting_68 rfl ?_
          exact x_iret rfl dX9_fitting_69
      refine x_jn (σ := Unit) 56 (fun s8 => [some (va_rf a0), some (va_rf a1), some (.int a2), some (.int s3), none, none]) (fun s8 => []) (fun s8 => M0) (fun s8 => ?_) (fun j56 hj56 => ?_)
      · refine x_iconst (v := 1) dX9_fitting_56 (by decide) ?_
        refine x_goto (tgt := 61) dX9_fitting_57 (by decide) ?_
        exact x_weak (by exact ⟨rfl, ⟨rfl, ⟨rfl, ⟨rfl, trivial⟩⟩⟩⟩) (hj61 ((1 : Int32)))
      refine x_if_lt (tgt := 56) dX9_fitting_25 (by decide) (fun _ => ?_) (fun _ => ?_)
      · exact x_weak (by exact ⟨rfl, ⟨rfl, ⟨rfl, ⟨rfl, trivial⟩⟩⟩⟩) (hj56 ())
      · refine x_iload_n dX9_fitting_28 rfl ?_
        refine x_iload dX9_fitting_29 rfl ?_
        refine x_iadd dX9_fitting_31 ?_
        refine x_aload_n dX9_fitting_32 rfl ?_
        refine x_alen dX9_fitting_33 (fun x9 => ?_)
        refine x_jn (σ := Unit) 60 (fun s10 => [some (va_rf a0), some (va_rf a1), some (.int a2), some (.int s3), none, none]) (fun s10 => []) (fun s10 => M0) (fun s10 => ?_) (fun j60 hj60 => ?_)
        · refine x_iconst (v := 0) dX9_fitting_60 (by decide) ?_
          exact x_weak (by exact ⟨rfl, ⟨rfl, ⟨rfl, ⟨rfl, trivial⟩⟩⟩⟩) (hj61 ((0 : Int32)))
        refine x_icmp_ge (tgt := 60) dX9_fitting_34 (by decide) (fun _ => ?_) (fun _ => ?_)
        · exact x_weak (by exact ⟨rfl, ⟨rfl, ⟨rfl, ⟨rfl, trivial⟩⟩⟩⟩) (hj60 ())
        · refine x_aload_n dX9_fitting_37 rfl ?_
          refine x_iload_n dX9_fitting_38 rfl ?_
          refine x_iload dX9_fitting_39 rfl ?_
          refine x_iadd dX9_fitting_41 ?_
          refine x_iald dX9_fitting_42 (fun x11 => ?_)
          refine x_aload_n dX9_fitting_43 rfl ?_
          refine gfX9_15 rfl dX9_fitting_44 (fun x12 => ?_)
          refine x_iload_n dX9_fitting_47 rfl ?_
          refine x_iconst (v := 4) dX9_fitting_48 (by decide) ?_
          refine x_imul dX9_fitting_49 ?_
          refine x_iconst (v := 1) dX9_fitting_50 (by decide) ?_
          refine x_iadd dX9_fitting_51 ?_
          refine x_iald dX9_fitting_52 (fun x13 => ?_)
          refine x_icmp_ne (tgt := 60) dX9_fitting_53 (by decide) (fun _ => ?_) (fun _ => ?_)
          · exact x_weak (by exact ⟨rfl, ⟨rfl, ⟨rfl, ⟨rfl, trivial⟩⟩⟩⟩) (hj56 ())
          · exact x_weak (by exact ⟨rfl, ⟨rfl, ⟨rfl, ⟨rfl, trivial⟩⟩⟩⟩) (hj60 ())
theorem s124 {l : Launch} {d : Nat} {rec : Nat → List Value → Mem → XA} (hS : Nonempty XS) (hs : XSnd l xmt rec d) : Snd1 l 124 (b124 rec) d := by
  intro as M r M' h0
  unfold b124 at h0
  obtain ⟨a0, l1, e1, h1⟩ := aR_inv h0
  obtain ⟨a1, l2, e2, h2⟩ := aR_inv h1
  obtain ⟨a2, l3, e3, h3⟩ := aI_inv h2
  obtain ⟨ez, h⟩ := aZ_inv h3
  subst ez
  subst e3
  subst e2
  subst e1
  exact xmet (M := M) (as := [va_rf a0, va_rf a1, .int a2]) (lo := [some (va_rf a0), some (va_rf a1), some (.int a2)]) 124 xq124 xm124 (by rw [xargs_rf, xargs_rf, xargs_i, xargs_nil]; exact ⟨rfl, ⟨rfl, ⟨rfl, trivial⟩⟩⟩) (by rw [xargs_rf, xargs_rf, xargs_i, xargs_nil]; exact Nat.le_of_ble_eq_true rfl) (fun S G K => x_weak (by exact ⟨rfl, ⟨rfl, ⟨rfl, trivial⟩⟩⟩) (k124 hs a0 a1 a2 M)) h hS
set_option maxRecDepth 100000 in
def c125 (rec : Nat → List Value → Mem → XA) (a0 : Option Nat) (a1 : Option Nat) (a2 : Int32) (a3 : Int32) (M0 : Mem) : XA :=
  gtI (10, 9) M0 a0 4 fun x1 =>
  jn (fun (s2 : Mem) =>
    gtI (10, 9) s2 a0 4 fun x3 =>
    ptI (10, 9) s2 a0 4 (x3 + ((1 : Int32))) fun M4 =>
    some (.null, M4)) fun j72 =>
  if ((50 : Int32)) ≤ x1 then (
    j72 M0) else (
    gtP (10, 9) M0 a0 6 fun x5 =>
    gtI (10, 9) M0 a0 4 fun x6 =>
    asI 100 M0 x5 x6 a3 fun M7 =>
    lp (fun (s8 : Int32 × Mem) j22 =>
      gtI (10, 9) s8.2 a0 1 fun x9 =>
      if x9 ≤ s8.1 then (
        j72 s8.2) else (
        if ((4 : Int32)) ≤ s8.1 then (
          j72 s8.2) else (
          aln s8.2 a1 fun x10 =>
          if x10 ≤ (a2 + s8.1) then (
            j72 s8.2) else (
            gtP (10, 9) s8.2 a0 5 fun x11 =>
            gtI (10, 9) s8.2 a0 4 fun x12 =>
            alI 100 s8.2 a1 (a2 + s8.1) fun x13 =>
            asI 100 s8.2 x11 ((x12 * ((4 : Int32))) + s8.1) x13 fun M14 =>
            lt (s8.1 + (1 : Int32)) fun (x15 : Int32) =>
            j22 (x15, M14))))) 4294967296 ((0 : Int32), M7))
def b125 (rec : Nat → List Value → Mem → XA) (as : List Value) (M0 : Mem) : XA := aR as fun a0 as => aR as fun a1 as => aI as fun a2 as => aI as fun a3 as => aZ as (c125 rec a0 a1 a2 a3 M0)
set_option maxRecDepth 100000 in
set_option maxHeartbeats 4000000 in
theorem k125 {S : XS} {G : XG} {K : Nat × Nat} {l : Launch} {d : Nat} {rec : Nat → List Value → Mem → XA} (hs : XSnd l xmt rec d) (a0 : Option Nat) (a1 : Option Nat) (a2 : Int32) (a3 : Int32) (M0 : Mem) : Xe S G K l (yX9_note, cX9_note, 5, none) d 0 [some (va_rf a0), some (va_rf a1), some (.int a2), some (.int a3), none] [] M0 (c125 rec a0 a1 a2 a3 M0) := by
  unfold c125
  refine x_aload_n dX9_note_0 rfl ?_
  refine gfX9_37 rfl dX9_note_1 (fun x1 => ?_)
  refine x_bipush (v := 50) dX9_note_4 (by decide) ?_
  refine x_jn (σ := Mem) 72 (fun s2 => [some (va_rf a0), none, none, none, none]) (fun s2 => []) (fun s2 => s2) (fun s2 => ?_) (fun j72 hj72 => ?_)
  · refine x_aload_n dX9_note_72 rfl ?_
    refine x_dup dX9_note_73 (xc1_r _) ?_
    refine gfX9_37 rfl dX9_note_74 (fun x3 => ?_)
    refine x_iconst (v := 1) dX9_note_77 (by decide) ?_
    refine x_iadd dX9_note_78 ?_
    refine pfX9_37 rfl dX9_note_79 (fun M4 => ?_)
    exact x_vret rfl dX9_note_82
  refine x_icmp_ge (tgt := 72) dX9_note_6 (by decide) (fun _ => ?_) (fun _ => ?_)
  · exact x_weak (by exact ⟨rfl, trivial⟩) (hj72 M0)
  · refine x_aload_n dX9_note_9 rfl ?_
    refine gfX9_22 rfl dX9_note_10 (fun x5 => ?_)
    refine x_aload_n dX9_note_13 rfl ?_
    refine gfX9_37 rfl dX9_note_14 (fun x6 => ?_)
    refine x_iload_n dX9_note_17 rfl ?_
    refine x_iast dX9_note_18 (fun M7 => ?_)
    refine x_iconst (v := 0) dX9_note_19 (by decide) ?_
    refine x_istore (lo' := [some (va_rf a0), some (va_rf a1), some (.int a2), some (.int a3), some (.int ((0 : Int32)))]) dX9_note_20 (by decide) rfl rfl ?_
    refine x_weak (by exact ⟨rfl, ⟨rfl, ⟨rfl, ⟨rfl, trivial⟩⟩⟩⟩) (x_lp (σ := Int32 × Mem) 22 (fun s8 => [some (va_rf a0), some (va_rf a1), some (.int a2), none, some (.int s8.1)]) (fun s8 => []) (fun s8 => s8.2) (fun s8 j22 hj22 => ?_) 4294967296 ((0 : Int32), M7))
    · refine x_iload dX9_note_22 rfl ?_
      refine x_aload_n dX9_note_24 rfl ?_
      refine gfX9_31 rfl dX9_note_25 (fun x9 => ?_)
      refine x_icmp_ge (tgt := 72) dX9_note_28 (by decide) (fun _ => ?_) (fun _ => ?_)
      · exact x_weak (by exact ⟨rfl, trivial⟩) (hj72 s8.2)
      · refine x_iload dX9_note_31 rfl ?_
        refine x_iconst (v := 4) dX9_note_33 (by decide) ?_
        refine x_icmp_ge (tgt := 72) dX9_note_34 (by decide) (fun _ => ?_) (fun _ => ?_)
        · exact x_weak (by exact ⟨rfl, trivial⟩) (hj72 s8.2)
        · refine x_iload_n dX9_note_37 rfl ?_
          refine x_iload dX9_note_38 rfl ?_
          refine x_iadd dX9_note_40 ?_
          refine x_aload_n dX9_note_41 rfl ?_
          refine x_alen dX9_note_42 (fun x10 => ?_)
          refine x_icmp_ge (tgt := 72) dX9_note_43 (by decide) (fun _ => ?_) (fun _ => ?_)
          · exact x_weak (by exact ⟨rfl, trivial⟩) (hj72 s8.2)
          · refine x_aload_n dX9_note_46 rfl ?_
            refine gfX9_19 rfl dX9_note_47 (fun x11 => ?_)
            refine x_aload_n dX9_note_50 rfl ?_
            refine gfX9_37 rfl dX9_note_51 (fun x12 => ?_)
            refine x_iconst (v := 4) dX9_note_54 (by decide) ?_
            refine x_imul dX9_note_55 ?_
            refine x_iload dX9_note_56 rfl ?_
            refine x_iadd dX9_note_58 ?_
            refine x_aload_n dX9_note_59 rfl ?_
            refine x_iload_n dX9_note_60 rfl ?_
            refine x_iload dX9_note_61 rfl ?_
            refine x_iadd dX9_note_63 ?_
            refine x_iald dX9_note_64 (fun x13 => ?_)
            refine x_iast dX9_note_65 (fun M14 => ?_)
            refine x_iincN (v := 1) (lo' := fun x15 => [some (va_rf a0), some (va_rf a1), some (.int a2), none, some (.int x15)]) (by decide) dX9_note_66 rfl (by decide) rfl (fun _ => rfl) (fun x15 => ?_)
            refine x_goto (tgt := 22) dX9_note_69 (by decide) ?_
            exact x_weak (by exact ⟨rfl, ⟨rfl, ⟨rfl, ⟨rfl, trivial⟩⟩⟩⟩) (hj22 (x15, M14))
theorem s125 {l : Launch} {d : Nat} {rec : Nat → List Value → Mem → XA} (hS : Nonempty XS) (hs : XSnd l xmt rec d) : Snd1 l 125 (b125 rec) d := by
  intro as M r M' h0
  unfold b125 at h0
  obtain ⟨a0, l1, e1, h1⟩ := aR_inv h0
  obtain ⟨a1, l2, e2, h2⟩ := aR_inv h1
  obtain ⟨a2, l3, e3, h3⟩ := aI_inv h2
  obtain ⟨a3, l4, e4, h4⟩ := aI_inv h3
  obtain ⟨ez, h⟩ := aZ_inv h4
  subst ez
  subst e4
  subst e3
  subst e2
  subst e1
  exact xmet (M := M) (as := [va_rf a0, va_rf a1, .int a2, .int a3]) (lo := [some (va_rf a0), some (va_rf a1), some (.int a2), some (.int a3)]) 125 xq125 xm125 (by rw [xargs_rf, xargs_rf, xargs_i, xargs_i, xargs_nil]; exact ⟨rfl, ⟨rfl, ⟨rfl, ⟨rfl, trivial⟩⟩⟩⟩) (by rw [xargs_rf, xargs_rf, xargs_i, xargs_i, xargs_nil]; exact Nat.le_of_ble_eq_true rfl) (fun S G K => x_weak (by exact ⟨rfl, ⟨rfl, ⟨rfl, ⟨rfl, trivial⟩⟩⟩⟩) (k125 hs a0 a1 a2 a3 M)) h hS
set_option maxRecDepth 100000 in
def c126 (rec : Nat → List Value → Mem → XA) (a0 : Option Nat) (a1 : Int64) (a2 : Int32) (a3 : Int32) (M0 : Mem) : XA :=
  nn a0 <|
  ptI (11, 10) M0 a0 5 ((-2 : Int32)) fun M1 =>
  nA 100 M1 ((3 : Int32)) fun x2 M3 =>
  ptP (11, 10) M3 a0 6 x2 fun M4 =>
  nA 100 M4 ((3 : Int32)) fun x5 M6 =>
  ptP (11, 10) M6 a0 8 x5 fun M7 =>
  ptL (11, 10) M7 a0 0 a1 fun M8 =>
  ptI (11, 10) M8 a0 1 a2 fun M9 =>
  ptI (11, 10) M9 a0 2 a2 fun M10 =>
  ptI (11, 10) M10 a0 3 a3 fun M11 =>
  ptI (11, 10) M11 a0 4 a3 fun M12 =>
  some (.null, M12)
def b126 (rec : Nat → List Value → Mem → XA) (as : List Value) (M0 : Mem) : XA := aR as fun a0 as => aL as fun a1 as => aI as fun a2 as => aI as fun a3 as => aZ as (c126 rec a0 a1 a2 a3 M0)
set_option maxRecDepth 100000 in
set_option maxHeartbeats 4000000 in
theorem k126 {S : XS} {G : XG} {K : Nat × Nat} {l : Launch} {d : Nat} {rec : Nat → List Value → Mem → XA} (hs : XSnd l xmt rec d) (a0 : Option Nat) (a1 : Int64) (a2 : Int32) (a3 : Int32) (M0 : Mem) : Xe S G K l (yX10_init, cX10_init, 5, none) d 0 [some (va_rf a0), some (.long a1), none, some (.int a2), some (.int a3)] [] M0 (c126 rec a0 a1 a2 a3 M0) := by
  unfold c126
  refine x_aload_n dX10_init_0 rfl ?_
  refine xoiX10 rfl (Nat.le_of_ble_eq_true rfl) dX10_init_1 ?_
  refine x_aload_n dX10_init_4 rfl ?_
  refine x_bipush (v := -2) dX10_init_5 (by decide) ?_
  refine pfX10_9 rfl dX10_init_7 (fun M1 => ?_)
  refine x_aload_n dX10_init_10 rfl ?_
  refine x_iconst (v := 3) dX10_init_11 (by decide) ?_
  refine x_newa100 dX10_init_12 (fun x2 M3 => ?_)
  refine pfX10_15 rfl rfl dX10_init_14 (fun M4 => ?_)
  refine x_aload_n dX10_init_17 rfl ?_
  refine x_iconst (v := 3) dX10_init_18 (by decide) ?_
  refine x_newa100 dX10_init_19 (fun x5 M6 => ?_)
  refine pfX10_19 rfl rfl dX10_init_21 (fun M7 => ?_)
  refine x_aload_n dX10_init_24 rfl ?_
  refine x_lload_n dX10_init_25 rfl ?_
  refine pfX10_22 rfl rfl dX10_init_26 (fun M8 => ?_)
  refine x_aload_n dX10_init_29 rfl ?_
  refine x_iload_n dX10_init_30 rfl ?_
  refine pfX10_26 rfl rfl dX10_init_31 (fun M9 => ?_)
  refine x_aload_n dX10_init_34 rfl ?_
  refine x_iload_n dX10_init_35 rfl ?_
  refine pfX10_29 rfl dX10_init_36 (fun M10 => ?_)
  refine x_aload_n dX10_init_39 rfl ?_
  refine x_iload dX10_init_40 rfl ?_
  refine pfX10_32 rfl rfl dX10_init_42 (fun M11 => ?_)
  refine x_aload_n dX10_init_45 rfl ?_
  refine x_iload dX10_init_46 rfl ?_
  refine pfX10_35 rfl dX10_init_48 (fun M12 => ?_)
  exact x_vret rfl dX10_init_51
theorem s126 {l : Launch} {d : Nat} {rec : Nat → List Value → Mem → XA} (hS : Nonempty XS) (hs : XSnd l xmt rec d) : Snd1 l 126 (b126 rec) d := by
  intro as M r M' h0
  unfold b126 at h0
  obtain ⟨a0, l1, e1, h1⟩ := aR_inv h0
  obtain ⟨a1, l2, e2, h2⟩ := aL_inv h1
  obtain ⟨a2, l3, e3, h3⟩ := aI_inv h2
  obtain ⟨a3, l4, e4, h4⟩ := aI_inv h3
  obtain ⟨ez, h⟩ := aZ_inv h4
  subst ez
  subst e4
  subst e3
  subst e2
  subst e1
  exact xmet (M := M) (as := [va_rf a0, .long a1, .int a2, .int a3]) (lo := [some (va_rf a0), some (.long a1), none, some (.int a2), some (.int a3)]) 126 xq126 xm126 (by rw [xargs_rf, xargs_l, xargs_i, xargs_i, xargs_nil]; exact ⟨rfl, ⟨rfl, ⟨rfl, ⟨rfl, trivial⟩⟩⟩⟩) (by rw [xargs_rf, xargs_l, xargs_i, xargs_i, xargs_nil]; exact Nat.le_of_ble_eq_true rfl) (fun S G K => x_weak (by exact ⟨rfl, ⟨rfl, ⟨rfl, ⟨rfl, trivial⟩⟩⟩⟩) (k126 hs a0 a1 a2 a3 M)) h hS
set_option maxRecDepth 100000 in
def c127 (rec : Nat → List Value → Mem → XA) (a0 : Option Nat) (M0 : Mem) : XA :=
  nn a0 <|
  nO (7, 20) M0 fun x1 M2 =>
  vC (7, 20) M2 x1 <|
  cV (rec 60 [va_rf x1] M2) fun M3 =>
  ptP (12, 19) M3 a0 0 x1 fun M4 =>
  nO (0, 3) M4 fun x5 M6 =>
  vC (0, 3) M6 x5 <|
  cV (rec 343 [va_rf x5] M6) fun M7 =>
  ptP (12, 19) M7 a0 1 x5 fun M8 =>
  nO (4, 22) M8 fun x9 M10 =>
  vC (4, 22) M10 x9 <|
  cV (rec 18 [va_rf x9] M10) fun M11 =>
  ptP (12, 19) M11 a0 2 x9 fun M12 =>
  nO (0, 3) M12 fun x13 M14 =>
  vC (0, 3) M14 x13 <|
  cV (rec 343 [va_rf x13] M14) fun M15 =>
  ptP (12, 19) M15 a0 4 x13 fun M16 =>
  nO (0, 3) M16 fun x17 M18 =>
  vC (0, 3) M18 x17 <|
  cV (rec 343 [va_rf x17] M18) fun M19 =>
  ptP (12, 19) M19 a0 5 x17 fun M20 =>
  nO (5, 5) M20 fun x21 M22 =>
  vC (5, 5) M22 x21 <|
  cV (rec 47 [va_rf x21] M22) fun M23 =>
  ptP (12, 19) M23 a0 6 x21 fun M24 =>
  nO (3, 7) M24 fun x25 M26 =>
  vC (3, 7) M26 x25 <|
  cV (rec 11 [va_rf x25] M26) fun M27 =>
  ptP (12, 19) M27 a0 8 x25 fun M28 =>
  nA 100 M28 ((6 : Int32)) fun x29 M30 =>
  ptP (12, 19) M30 a0 11 x29 fun M31 =>
  nA 100 M31 ((6 : Int32)) fun x32 M33 =>
  ptP (12, 19) M33 a0 12 x32 fun M34 =>
  ptI (12, 19) M34 a0 13 ((-2 : Int32)) fun M35 =>
  nA 100 M35 ((16 : Int32)) fun x36 M37 =>
  ptP (12, 19) M37 a0 14 x36 fun M38 =>
  nA 100 M38 ((16 : Int32)) fun x39 M40 =>
  ptP (12, 19) M40 a0 15 x39 fun M41 =>
  nAA 113 100 M41 ((4 : Int32)) ((16 : Int32)) fun x42 M43 =>
  ptP (12, 19) M43 a0 17 x42 fun M44 =>
  nAA 113 100 M44 ((4 : Int32)) ((16 : Int32)) fun x45 M46 =>
  ptP (12, 19) M46 a0 18 x45 fun M47 =>
  some (.null, M47)
def b127 (rec : Nat → List Value → Mem → XA) (as : List Value) (M0 : Mem) : XA := aR as fun a0 as => aZ as (c127 rec a0 M0)
set_option maxRecDepth 100000 in
set_option maxHeartbeats 4000000 in
theorem k127 {S : XS} {G : XG} {K : Nat × Nat} {l : Launch} {d : Nat} {rec : Nat → List Value → Mem → XA} (hs : XSnd l xmt rec d) (a0 : Option Nat) (M0 : Mem) : Xe S G K l (yX11_init, cX11_init, 1, none) d 0 [some (va_rf a0)] [] M0 (c127 rec a0 M0) := by
  unfold c127
  refine x_aload_n dX11_init_0 rfl ?_
  refine xoiX11 rfl (Nat.le_of_ble_eq_true rfl) dX11_init_1 ?_
  refine x_aload_n dX11_init_4 rfl ?_
  refine nwX11_9 rfl dX11_init_5 (fun x1 M2 => ?_)
  refine x_dup dX11_init_8 (xc1_r _) ?_
  refine cmX11_11 rfl hs (Nat.le_of_ble_eq_true rfl) dX11_init_9 (fun M3 => ?_)
  refine pfX11_12 rfl rfl dX11_init_12 (fun M4 => ?_)
  refine x_aload_n dX11_init_15 rfl ?_
  refine nwX11_16 rfl dX11_init_16 (fun x5 M6 => ?_)
  refine x_dup dX11_init_19 (xc1_r _) ?_
  refine cmX11_18 rfl hs (Nat.le_of_ble_eq_true rfl) dX11_init_20 (fun M7 => ?_)
  refine pfX11_19 rfl rfl dX11_init_23 (fun M8 => ?_)
  refine x_aload_n dX11_init_26 rfl ?_
  refine nwX11_23 rfl dX11_init_27 (fun x9 M10 => ?_)
  refine x_dup dX11_init_30 (xc1_r _) ?_
  refine cmX11_25 rfl hs (Nat.le_of_ble_eq_true rfl) dX11_init_31 (fun M11 => ?_)
  refine pfX11_26 rfl rfl dX11_init_34 (fun M12 => ?_)
  refine x_aload_n dX11_init_37 rfl ?_
  refine nwX11_16 rfl dX11_init_38 (fun x13 M14 => ?_)
  refine x_dup dX11_init_41 (xc1_r _) ?_
  refine cmX11_18 rfl hs (Nat.le_of_ble_eq_true rfl) dX11_init_42 (fun M15 => ?_)
  refine pfX11_30 rfl rfl dX11_init_45 (fun M16 => ?_)
  refine x_aload_n dX11_init_48 rfl ?_
  refine nwX11_16 rfl dX11_init_49 (fun x17 M18 => ?_)
  refine x_dup dX11_init_52 (xc1_r _) ?_
  refine cmX11_18 rfl hs (Nat.le_of_ble_eq_true rfl) dX11_init_53 (fun M19 => ?_)
  refine pfX11_33 rfl rfl dX11_init_56 (fun M20 => ?_)
  refine x_aload_n dX11_init_59 rfl ?_
  refine nwX11_36 rfl dX11_init_60 (fun x21 M22 => ?_)
  refine x_dup dX11_init_63 (xc1_r _) ?_
  refine cmX11_38 rfl hs (Nat.le_of_ble_eq_true rfl) dX11_init_64 (fun M23 => ?_)
  refine pfX11_39 rfl rfl dX11_init_67 (fun M24 => ?_)
  refine x_aload_n dX11_init_70 rfl ?_
  refine nwX11_43 rfl dX11_init_71 (fun x25 M26 => ?_)
  refine x_dup dX11_init_74 (xc1_r _) ?_
  refine cmX11_45 rfl hs (Nat.le_of_ble_eq_true rfl) dX11_init_75 (fun M27 => ?_)
  refine pfX11_46 rfl rfl dX11_init_78 (fun M28 => ?_)
  refine x_aload_n dX11_init_81 rfl ?_
  refine x_bipush (v := 6) dX11_init_82 (by decide) ?_
  refine x_newa100 dX11_init_84 (fun x29 M30 => ?_)
  refine pfX11_50 rfl rfl dX11_init_86 (fun M31 => ?_)
  refine x_aload_n dX11_init_89 rfl ?_
  refine x_bipush (v := 6) dX11_init_90 (by decide) ?_
  refine x_newa100 dX11_init_92 (fun x32 M33 => ?_)
  refine pfX11_54 rfl rfl dX11_init_94 (fun M34 => ?_)
  refine x_aload_n dX11_init_97 rfl ?_
  refine x_bipush (v := -2) dX11_init_98 (by decide) ?_
  refine pfX11_57 rfl dX11_init_100 (fun M35 => ?_)
  refine x_aload_n dX11_init_103 rfl ?_
  refine x_bipush (v := 16) dX11_init_104 (by decide) ?_
  refine x_newa100 dX11_init_106 (fun x36 M37 => ?_)
  refine pfX11_61 rfl rfl dX11_init_108 (fun M38 => ?_)
  refine x_aload_n dX11_init_111 rfl ?_
  refine x_bipush (v := 16) dX11_init_112 (by decide) ?_
  refine x_newa100 dX11_init_114 (fun x39 M40 => ?_)
  refine pfX11_64 rfl rfl dX11_init_116 (fun M41 => ?_)
  refine x_aload_n dX11_init_119 rfl ?_
  refine x_iconst (v := 4) dX11_init_120 (by decide) ?_
  refine x_bipush (v := 16) dX11_init_121 (by decide) ?_
  refine x_mna113 lk_classLink_X11_67 dX11_init_123 (fun x42 M43 => ?_)
  refine pfX11_69 rfl rfl dX11_init_127 (fun M44 => ?_)
  refine x_aload_n dX11_init_130 rfl ?_
  refine x_iconst (v := 4) dX11_init_131 (by decide) ?_
  refine x_bipush (v := 16) dX11_init_132 (by decide) ?_
  refine x_mna113 lk_classLink_X11_67 dX11_init_134 (fun x45 M46 => ?_)
  refine pfX11_72 rfl rfl dX11_init_138 (fun M47 => ?_)
  exact x_vret rfl dX11_init_141
theorem s127 {l : Launch} {d : Nat} {rec : Nat → List Value → Mem → XA} (hS : Nonempty XS) (hs : XSnd l xmt rec d) : Snd1 l 127 (b127 rec) d := by
  intro as M r M' h0
  unfold b127 at h0
  obtain ⟨a0, l1, e1, h1⟩ := aR_inv h0
  obtain ⟨ez, h⟩ := aZ_inv h1
  subst ez
  subst e1
  exact xmet (M := M) (as := [va_rf a0]) (lo := [some (va_rf a0)]) 127 xq127 xm127 (by rw [xargs_rf, xargs_nil]; exact ⟨rfl, trivial⟩) (by rw [xargs_rf, xargs_nil]; exact Nat.le_of_ble_eq_true rfl) (fun S G K => x_weak (by exact ⟨rfl, trivial⟩) (k127 hs a0 M)) h hS
set_option maxRecDepth 100000 in
def c128 (rec : Nat → List Value → Mem → XA) (a0 : Option Nat) (a1 : Int32) (a2 : Int32) (a3 : Int32) (a4 : Int32) (a5 : Int32) (M0 : Mem) : XA :=
  gtP (12, 19) M0 a0 0 fun x1 =>
  gtP (7, 20) M0 x1 0 fun x2 =>
  gtI (9, 8) M0 x2 1 fun x3 =>
  if (x3 + ((20 : Int32))) ≤ ((3000 : Int32)) then (
    vC (9, 8) M0 x2 <|
    cV (rec 112 [va_rf x2, .int a1] M0) fun M4 =>
    vC (9, 8) M4 x2 <|
    cV (rec 112 [va_rf x2, .int a2] M4) fun M5 =>
    vC (9, 8) M5 x2 <|
    cV (rec 112 [va_rf x2, .int a3] M5) fun M6 =>
    vC (9, 8) M6 x2 <|
    cV (rec 112 [va_rf x2, .int a4] M6) fun M7 =>
    vC (9, 8) M7 x2 <|
    cV (rec 112 [va_rf x2, .int a5] M7) fun M8 =>
    gtI (9, 8) M8 x2 1 fun x9 =>
    some (.int x9, M8)) else (
    some (.int ((-3 : Int32)), M0))
def b128 (rec : Nat → List Value → Mem → XA) (as : List Value) (M0 : Mem) : XA := aR as fun a0 as => aI as fun a1 as => aI as fun a2 as => aI as fun a3 as => aI as fun a4 as => aI as fun a5 as => aZ as (c128 rec a0 a1 a2 a3 a4 a5 M0)
set_option maxRecDepth 100000 in
set_option maxHeartbeats 4000000 in
theorem k128 {S : XS} {G : XG} {K : Nat × Nat} {l : Launch} {d : Nat} {rec : Nat → List Value → Mem → XA} (hs : XSnd l xmt rec d) (a0 : Option Nat) (a1 : Int32) (a2 : Int32) (a3 : Int32) (a4 : Int32) (a5 : Int32) (M0 : Mem) : Xe S G K l (yX11_feed, cX11_feed, 7, some .int) d 0 [some (va_rf a0), some (.int a1), some (.int a2), some (.int a3), some (.int a4), some (.int a5), none] [] M0 (c128 rec a0 a1 a2 a3 a4 a5 M0) := by
  unfold c128
  refine x_aload_n dX11_feed_0 rfl ?_
  refine gfX11_12 rfl dX11_feed_1 (fun x1 => ?_)
  refine gfX11_75 rfl dX11_feed_4 (fun x2 => ?_)
  refine x_astore (lo' := [some (va_rf a0), some (.int a1), some (.int a2), some (.int a3), some (.int a4), some (.int a5), some (va_rf x2)]) dX11_feed_7 (by decide) rfl rfl ?_
  refine x_aload dX11_feed_9 rfl ?_
  refine gfX11_79 rfl dX11_feed_11 (fun x3 => ?_)
  refine x_bipush (v := 20) dX11_feed_14 (by decide) ?_
  refine x_iadd dX11_feed_16 ?_
  refine x_sipush (v := 3000) dX11_feed_17 (by decide) ?_
  refine x_icmp_le (tgt := 26) dX11_feed_20 (by decide) (fun _ => ?_) (fun _ => ?_)
  · refine x_aload dX11_feed_26 rfl ?_
    refine x_iload_n dX11_feed_28 rfl ?_
    refine cmX11_84 rfl hs (Nat.le_of_ble_eq_true rfl) dX11_feed_29 (fun M4 => ?_)
    refine x_aload dX11_feed_32 rfl ?_
    refine x_iload_n dX11_feed_34 rfl ?_
    refine cmX11_84 rfl hs (Nat.le_of_ble_eq_true rfl) dX11_feed_35 (fun M5 => ?_)
    refine x_aload dX11_feed_38 rfl ?_
    refine x_iload_n dX11_feed_40 rfl ?_
    refine cmX11_84 rfl hs (Nat.le_of_ble_eq_true rfl) dX11_feed_41 (fun M6 => ?_)
    refine x_aload dX11_feed_44 rfl ?_
    refine x_iload dX11_feed_46 rfl ?_
    refine cmX11_84 rfl hs (Nat.le_of_ble_eq_true rfl) dX11_feed_48 (fun M7 => ?_)
    refine x_aload dX11_feed_51 rfl ?_
    refine x_iload dX11_feed_53 rfl ?_
    refine cmX11_84 rfl hs (Nat.le_of_ble_eq_true rfl) dX11_feed_55 (fun M8 => ?_)
    refine x_aload dX11_feed_58 rfl ?_
    refine gfX11_79 rfl dX11_feed_60 (fun x9 => ?_)
    exact x_iret rfl dX11_feed_63
  · refine x_bipush (v := -3) dX11_feed_23 (by decide) ?_
    exact x_iret rfl dX11_feed_25
theorem s128 {l : Launch} {d : Nat} {rec : Nat → List Value → Mem → XA} (hS : Nonempty XS) (hs : XSnd l xmt rec d) : Snd1 l 128 (b128 rec) d := by
  intro as M r M' h0
  unfold b128 at h0
  obtain ⟨a0, l1, e1, h1⟩ := aR_inv h0
  obtain ⟨a1, l2, e2, h2⟩ := aI_inv h1
  obtain ⟨a2, l3, e3, h3⟩ := aI_inv h2
  obtain ⟨a3, l4, e4, h4⟩ := aI_inv h3
  obtain ⟨a4, l5, e5, h5⟩ := aI_inv h4
  obtain ⟨a5, l6, e6, h6⟩ := aI_inv h5
  obtain ⟨ez, h⟩ := aZ_inv h6
  subst ez
  subst e6
  subst e5
  subst e4
  subst e3
  subst e2
  subst e1
  exact xmet (M := M) (as := [va_rf a0, .int a1, .int a2, .int a3, .int a4, .int a5]) (lo := [some (va_rf a0), some (.int a1), some (.int a2), some (.int a3), some (.int a4), some (.int a5)]) 128 xq128 xm128 (by rw [xargs_rf, xargs_i, xargs_i, xargs_i, xargs_i, xargs_i, xargs_nil]; exact ⟨rfl, ⟨rfl, ⟨rfl, ⟨rfl, ⟨rfl, ⟨rfl, trivial⟩⟩⟩⟩⟩⟩) (by rw [xargs_rf, xargs_i, xargs_i, xargs_i, xargs_i, xargs_i, xargs_nil]; exact Nat.le_of_ble_eq_true rfl) (fun S G K => x_weak (by exact ⟨rfl, ⟨rfl, ⟨rfl, ⟨rfl, ⟨rfl, ⟨rfl, trivial⟩⟩⟩⟩⟩⟩) (k128 hs a0 a1 a2 a3 a4 a5 M)) h hS
set_option maxRecDepth 100000 in
def c129 (rec : Nat → List Value → Mem → XA) (a0 : Option Nat) (a1 : Int32) (M0 : Mem) : XA :=
  gtP (12, 19) M0 a0 0 fun x1 =>
  gtP (7, 20) M0 x1 0 fun x2 =>
  jn (fun (s3 : Unit) =>
    some (.int ((-1 : Int32)), M0)) fun j20 =>
  if a1 < 0 then (
    j20 ()) else (
    gtI (9, 8) M0 x2 1 fun x4 =>
    if a1 ≤ x4 then (
      gtI (9, 8) M0 x2 1 fun x5 =>
      ptI (9, 8) M0 x2 1 (x5 - a1) fun M6 =>
      gtI (9, 8) M6 x2 1 fun x7 =>
      some (.int x7, M6)) else (
      j20 ()))
def b129 (rec : Nat → List Value → Mem → XA) (as : List Value) (M0 : Mem) : XA := aR as fun a0 as => aI as fun a1 as => aZ as (c129 rec a0 a1 M0)
set_option maxRecDepth 100000 in
set_option maxHeartbeats 4000000 in
theorem k129 {S : XS} {G : XG} {K : Nat × Nat} {l : Launch} {d : Nat} {rec : Nat → List Value → Mem → XA} (hs : XSnd l xmt rec d) (a0 : Option Nat) (a1 : Int32) (M0 : Mem) : Xe S G K l (yX11_cut, cX11_cut, 3, some .int) d 0 [some (va_rf a0), some (.int a1), none] [] M0 (c129 rec a0 a1 M0) := by
  unfold c129
  refine x_aload_n dX11_cut_0 rfl ?_
  refine gfX11_12 rfl dX11_cut_1 (fun x1 => ?_)
  refine gfX11_75 rfl dX11_cut_4 (fun x2 => ?_)
  refine x_astore_n (lo' := [some (va_rf a0), some (.int a1), some (va_rf x2)]) dX11_cut_7 (by decide) rfl rfl ?_
  refine x_iload_n dX11_cut_8 rfl ?_
  refine x_jn (σ := Unit) 20 (fun s3 => [none, none, none]) (fun s3 => []) (fun s3 => M0) (fun s3 => ?_) (fun j20 hj20 => ?_)
  · refine x_iconst (v := -1) dX11_cut_20 (by decide) ?_
    exact x_iret rfl dX11_cut_21
  refine x_if_lt (tgt := 20) dX11_cut_9 (by decide) (fun _ => ?_) (fun _ => ?_)
  · exact x_weak (by exact trivial) (hj20 ())
  · refine x_iload_n dX11_cut_12 rfl ?_
    refine x_aload_n dX11_cut_13 rfl ?_
    refine gfX11_79 rfl dX11_cut_14 (fun x4 => ?_)
    refine x_icmp_le (tgt := 22) dX11_cut_17 (by decide) (fun _ => ?_) (fun _ => ?_)
    · refine x_aload_n dX11_cut_22 rfl ?_
      refine x_dup dX11_cut_23 (xc1_r _) ?_
      refine gfX11_79 rfl dX11_cut_24 (fun x5 => ?_)
      refine x_iload_n dX11_cut_27 rfl ?_
      refine x_isub dX11_cut_28 ?_
      refine pfX11_79 rfl dX11_cut_29 (fun M6 => ?_)
      refine x_aload_n dX11_cut_32 rfl ?_
      refine gfX11_79 rfl dX11_cut_33 (fun x7 => ?_)
      exact x_iret rfl dX11_cut_36
    · exact x_weak (by exact trivial) (hj20 ())
theorem s129 {l : Launch} {d : Nat} {rec : Nat → List Value → Mem → XA} (hS : Nonempty XS) (hs : XSnd l xmt rec d) : Snd1 l 129 (b129 rec) d := by
  intro as M r M' h0
  unfold b129 at h0
  obtain ⟨a0, l1, e1, h1⟩ := aR_inv h0
  obtain ⟨a1, l2, e2, h2⟩ := aI_inv h1
  obtain ⟨ez, h⟩ := aZ_inv h2
  subst ez
  subst e2
  subst e1
  exact xmet (M := M) (as := [va_rf a0, .int a1]) (lo := [some (va_rf a0), some (.int a1)]) 129 xq129 xm129 (by rw [xargs_rf, xargs_i, xargs_nil]; exact ⟨rfl, ⟨rfl, trivial⟩⟩) (by rw [xargs_rf, xargs_i, xargs_nil]; exact Nat.le_of_ble_eq_true rfl) (fun S G K => x_weak (by exact ⟨rfl, ⟨rfl, trivial⟩⟩) (k129 hs a0 a1 M)) h hS
set_option maxRecDepth 100000 in
def c130 (rec : Nat → List Value → Mem → XA) (a0 : Option Nat) (M0 : Mem) : XA :=
  gtP (12, 19) M0 a0 1 fun x1 =>
  vC (0, 3) M0 x1 <|
  cI (rec 346 [va_rf x1] M0) fun x3 M2 =>
  if x3 < ((8 : Int32)) then (
    gtP (12, 19) M2 a0 0 fun x4 =>
    vC (7, 20) M2 x4 <|
    cV (rec 61 [va_rf x4] M2) fun M5 =>
    gtP (12, 19) M5 a0 0 fun x6 =>
    gtP (7, 20) M5 x6 0 fun x7 =>
    ptI (9, 8) M5 x7 1 ((0 : Int32)) fun M8 =>
    gtP (12, 19) M8 a0 0 fun x9 =>
    gtI (7, 20) M8 x9 10 fun x10 =>
    if x10 = 0 then (
      gtP (12, 19) M8 a0 1 fun x11 =>
      vC (0, 3) M8 x11 <|
      cI (rec 346 [va_rf x11] M8) fun x13 M12 =>
      gtP (12, 19) M12 a0 1 fun x14 =>
      nO (6, 18) M12 fun x15 M16 =>
      gtP (12, 19) M16 a0 0 fun x17 =>
      vC (6, 18) M16 x15 <|
      cV (rec 50 [va_rf x15, va_rf x17, .int x13] M16) fun M18 =>
      vC (0, 3) M18 x14 <|
      cI (rec 350 [va_rf x14, va_rf x15] M18) fun x20 M19 =>
      some (.int x13, M19)) else (
      gtP (12, 19) M8 a0 0 fun x21 =>
      gtI (7, 20) M8 x21 11 fun x22 =>
      some (.int (((-10 : Int32)) - x22), M8))) else (
    some (.int ((-3 : Int32)), M2))
def b130 (rec : Nat → List Value → Mem → XA) (as : List Value) (M0 : Mem) : XA := aR as fun a0 as => aZ as (c130 rec a0 M0)
set_option maxRecDepth 100000 in
set_option maxHeartbeats 4000000 in
theorem k130 {S : XS} {G : XG} {K : Nat × Nat} {l : Launch} {d : Nat} {rec : Nat → List Value → Mem → XA} (hs : XSnd l xmt rec d) (a0 : Option Nat) (M0 : Mem) : Xe S G K l (yX11_parcel, cX11_parcel, 2, some .int) d 0 [some (va_rf a0), none] [] M0 (c130 rec a0 M0) := by
  unfold c130
  refine x_aload_n dX11_parcel_0 rfl ?_
  refine gfX11_19 rfl dX11_parcel_1 (fun x1 => ?_)
  refine cmX11_88 rfl hs (Nat.le_of_ble_eq_true rfl) dX11_parcel_4 (fun x3 M2 => ?_)
  refine x_bipush (v := 8) dX11_parcel_7 (by decide) ?_
  refine x_icmp_lt (tgt := 15) dX11_parcel_9 (by decide) (fun _ => ?_) (fun _ => ?_)
  · refine x_aload_n dX11_parcel_15 rfl ?_
    refine gfX11_12 rfl dX11_parcel_16 (fun x4 => ?_)
    refine cmX11_92 rfl hs (Nat.le_of_ble_eq_true rfl) dX11_parcel_19 (fun M5 => ?_)
    refine x_aload_n dX11_parcel_22 rfl ?_
    refine gfX11_12 rfl dX11_parcel_23 (fun x6 => ?_)
    refine gfX11_75 rfl dX11_parcel_26 (fun x7 => ?_)
    refine x_iconst (v := 0) dX11_parcel_29 (by decide) ?_
    refine pfX11_79 rfl dX11_parcel_30 (fun M8 => ?_)
    refine x_aload_n dX11_parcel_33 rfl ?_
    refine gfX11_12 rfl dX11_parcel_34 (fun x9 => ?_)
    refine gfX11_95 rfl dX11_parcel_37 (fun x10 => ?_)
    refine x_if_eq (tgt := 54) dX11_parcel_40 (by decide) (fun _ => ?_) (fun _ => ?_)
    · refine x_aload_n dX11_parcel_54 rfl ?_
      refine gfX11_19 rfl dX11_parcel_55 (fun x11 => ?_)
      refine cmX11_88 rfl hs (Nat.le_of_ble_eq_true rfl) dX11_parcel_58 (fun x13 M12 => ?_)
      refine x_istore_n (lo' := [some (va_rf a0), some (.int x13)]) dX11_parcel_61 (by decide) (xok_r rfl) rfl ?_
      refine x_aload_n dX11_parcel_62 rfl ?_
      refine gfX11_19 rfl dX11_parcel_63 (fun x14 => ?_)
      refine nwX11_101 rfl dX11_parcel_66 (fun x15 M16 => ?_)
      refine x_dup dX11_parcel_69 (xc1_r _) ?_
      refine x_aload_n dX11_parcel_70 rfl ?_
      refine gfX11_12 rfl dX11_parcel_71 (fun x17 => ?_)
      refine x_iload_n dX11_parcel_74 rfl ?_
      refine cmX11_103 rfl hs (Nat.le_of_ble_eq_true rfl) dX11_parcel_75 (fun M18 => ?_)
      refine cmX11_106 rfl hs (Nat.le_of_ble_eq_true rfl) dX11_parcel_78 (fun x20 M19 => ?_)
      refine x_pop dX11_parcel_81 (xc1_i _) ?_
      refine x_iload_n dX11_parcel_82 rfl ?_
      exact x_iret rfl dX11_parcel_83
    · refine x_bipush (v := -10) dX11_parcel_43 (by decide) ?_
      refine x_aload_n dX11_parcel_45 rfl ?_
      refine gfX11_12 rfl dX11_parcel_46 (fun x21 => ?_)
      refine gfX11_98 rfl dX11_parcel_49 (fun x22 => ?_)
      refine x_isub dX11_parcel_52 ?_
      exact x_iret rfl dX11_parcel_53
  · refine x_bipush (v := -3) dX11_parcel_12 (by decide) ?_
    exact x_iret rfl dX11_parcel_14
theorem s130 {l : Launch} {d : Nat} {rec : Nat → List Value → Mem → XA} (hS : Nonempty XS) (hs : XSnd l xmt rec d) : Snd1 l 130 (b130 rec) d := by
  intro as M r M' h0
  unfold b130 at h0
  obtain ⟨a0, l1, e1, h1⟩ := aR_inv h0
  obtain ⟨ez, h⟩ := aZ_inv h1
  subst ez
  subst e1
  exact xmet (M := M) (as := [va_rf a0]) (lo := [some (va_rf a0)]) 130 xq130 xm130 (by rw [xargs_rf, xargs_nil]; exact ⟨rfl, trivial⟩) (by rw [xargs_rf, xargs_nil]; exact Nat.le_of_ble_eq_true rfl) (fun S G K => x_weak (by exact ⟨rfl, trivial⟩) (k130 hs a0 M)) h hS
set_option maxRecDepth 100000 in
def c131 (rec : Nat → List Value → Mem → XA) (a0 : Option Nat) (M0 : Mem) : XA :=
  gtP (12, 19) M0 a0 0 fun x1 =>
  gtI (7, 20) M0 x1 10 fun x2 =>
  some (.int x2, M0)
def b131 (rec : Nat → List Value → Mem → XA) (as : List Value) (M0 : Mem) : XA := aR as fun a0 as => aZ as (c131 rec a0 M0)
set_option maxRecDepth 100000 in
set_option maxHeartbeats 4000000 in
theorem k131 {S : XS} {G : XG} {K : Nat × Nat} {l : Launch} {d : Nat} {rec : Nat → List Value → Mem → XA} (hs : XSnd l xmt rec d) (a0 : Option Nat) (M0 : Mem) : Xe S G K l (yX11_fault, cX11_fault, 1, some .int) d 0 [some (va_rf a0)] [] M0 (c131 rec a0 M0) := by
  unfold c131
  refine x_aload_n dX11_fault_0 rfl ?_
  refine gfX11_12 rfl dX11_fault_1 (fun x1 => ?_)
  refine gfX11_95 rfl dX11_fault_4 (fun x2 => ?_)
  exact x_iret rfl dX11_fault_7
theorem s131 {l : Launch} {d : Nat} {rec : Nat → List Value → Mem → XA} (hS : Nonempty XS) (hs : XSnd l xmt rec d) : Snd1 l 131 (b131 rec) d := by
  intro as M r M' h0
  unfold b131 at h0
  obtain ⟨a0, l1, e1, h1⟩ := aR_inv h0
  obtain ⟨ez, h⟩ := aZ_inv h1
  subst ez
  subst e1
  exact xmet (M := M) (as := [va_rf a0]) (lo := [some (va_rf a0)]) 131 xq131 xm131 (by rw [xargs_rf, xargs_nil]; exact ⟨rfl, trivial⟩) (by rw [xargs_rf, xargs_nil]; exact Nat.le_of_ble_eq_true rfl) (fun S G K => x_weak (by exact ⟨rfl, trivial⟩) (k131 hs a0 M)) h hS
set_option maxRecDepth 100000 in
def c132 (rec : Nat → List Value → Mem → XA) (a0 : Option Nat) (a1 : Int32) (a2 : Int32) (M0 : Mem) : XA :=
  if a2 = 0 then (
    gtP (12, 19) M0 a0 1 fun x1 =>
    vC (0, 3) M0 x1 <|
    cI (rec 346 [va_rf x1] M0) fun x3 M2 =>
    some (.int x3, M2)) else (
    vC (12, 19) M0 a0 <|
    cP (rec 167 [va_rf a0, .int a1] M0) fun x5 M4 =>
    if x5 = none then (
      some (.int ((-1 : Int32)), M4)) else (
      swI a2 [
       ((1 : Int32), (
          gtP (6, 18) M4 x5 1 fun x6 =>
          vC (0, 3) M4 x6 <|
          cI (rec 346 [va_rf x6] M4) fun x8 M7 =>
          some (.int x8, M7))),
       ((2 : Int32), (
          gtP (6, 18) M4 x5 2 fun x9 =>
          vC (0, 3) M4 x9 <|
          cI (rec 346 [va_rf x9] M4) fun x11 M10 =>
          some (.int x11, M10))),
       ((3 : Int32), (
          gtI (6, 18) M4 x5 5 fun x12 =>
          some (.int x12, M4))),
       ((4 : Int32), (
          gtP (6, 18) M4 x5 3 fun x13 =>
          vC (0, 3) M4 x13 <|
          cI (rec 346 [va_rf x13] M4) fun x15 M14 =>
          some (.int x15, M14))),
       ((5 : Int32), (
          gtP (6, 18) M4 x5 4 fun x16 =>
          vC (0, 3) M4 x16 <|
          cI (rec 346 [va_rf x16] M4) fun x18 M17 =>
          some (.int x18, M17))),
       ((6 : Int32), (
          gtP (6, 18) M4 x5 9 fun x19 =>
          aln M4 x19 fun x20 =>
          some (.int x20, M4)))] (
        some (.int ((-1 : Int32)), M4))))
def b132 (rec : Nat → List Value → Mem → XA) (as : List Value) (M0 : Mem) : XA := aR as fun a0 as => aI as fun a1 as => aI as fun a2 as => aZ as (c132 rec a0 a1 a2 M0)
set_option maxRecDepth 100000 in
set_option maxHeartbeats 4000000 in
theorem k132 {S : XS} {G : XG} {K : Nat × Nat} {l : Launch} {d : Nat} {rec : Nat → List Value → Mem → XA} (hs : XSnd l xmt rec d) (a0 : Option Nat) (a1 : Int32) (a2 : Int32) (M0 : Mem) : Xe S G K l (yX11_count, cX11_count, 4, some .int) d 0 [some (va_rf a0), some (.int a1), some (.int a2), none] [] M0 (c132 rec a0 a1 a2 M0) := by
  unfold c132
  refine x_iload_n dX11_count_0 rfl ?_
  refine x_if_ne (tgt := 12) dX11_count_1 (by decide) (fun _ => ?_) (fun _ => ?_)
  · refine x_aload_n dX11_count_4 rfl ?_
    refine gfX11_19 rfl dX11_count_5 (fun x1 => ?_)
    refine cmX11_88 rfl hs (Nat.le_of_ble_eq_true rfl) dX11_count_8 (fun x3 M2 => ?_)
    exact x_iret rfl dX11_count_11
  · refine x_aload_n dX11_count_12 rfl ?_
    refine x_iload_n dX11_count_13 rfl ?_
    refine cmX11_109 rfl hs (Nat.le_of_ble_eq_true rfl) dX11_count_14 (fun x5 M4 => ?_)
    refine x_astore_n (lo' := [some (va_rf a0), some (.int a1), some (.int a2), some (va_rf x5)]) dX11_count_17 (by decide) rfl rfl ?_
    refine x_aload_n dX11_count_18 rfl ?_
    refine x_ifnonnull (tgt := 24) dX11_count_19 (by decide) (fun _ => ?_) (fun _ => ?_)
    · refine x_iconst (v := -1) dX11_count_22 (by decide) ?_
      exact x_iret rfl dX11_count_23
    · refine x_iload_n dX11_count_24 rfl ?_
      refine x_table (tgt := 107) dX11_count_25 [(1, 64), (2, 72), (3, 80), (4, 85), (5, 93), (6, 101)] (by decide +kernel) (by decide +kernel) (by decide) ?_ ?_
      · refine swG_d (by decide) ?_ (swG_d (by decide) ?_ (swG_d (by decide) ?_ (swG_d (by decide) ?_ (swG_d (by decide) ?_ (swG_d (by decide) ?_ (trivial))))))
        · refine x_aload_n dX11_count_64 rfl ?_
          refine gfX11_113 rfl dX11_count_65 (fun x6 => ?_)
          refine cmX11_88 rfl hs (Nat.le_of_ble_eq_true rfl) dX11_count_68 (fun x8 M7 => ?_)
          exact x_iret rfl dX11_count_71
        · refine x_aload_n dX11_count_72 rfl ?_
          refine gfX11_116 rfl dX11_count_73 (fun x9 => ?_)
          refine cmX11_88 rfl hs (Nat.le_of_ble_eq_true rfl) dX11_count_76 (fun x11 M10 => ?_)
          exact x_iret rfl dX11_count_79
        · refine x_aload_n dX11_count_80 rfl ?_
          refine gfX11_119 rfl dX11_count_81 (fun x12 => ?_)
          exact x_iret rfl dX11_count_84
        · refine x_aload_n dX11_count_85 rfl ?_
          refine gfX11_121 rfl dX11_count_86 (fun x13 => ?_)
          refine cmX11_88 rfl hs (Nat.le_of_ble_eq_true rfl) dX11_count_89 (fun x15 M14 => ?_)
          exact x_iret rfl dX11_count_92
        · refine x_aload_n dX11_count_93 rfl ?_
          refine gfX11_124 rfl dX11_count_94 (fun x16 => ?_)
          refine cmX11_88 rfl hs (Nat.le_of_ble_eq_true rfl) dX11_count_97 (fun x18 M17 => ?_)
          exact x_iret rfl dX11_count_100
        · refine x_aload_n dX11_count_101 rfl ?_
          refine gfX11_127 rfl dX11_count_102 (fun x19 => ?_)
          refine x_alen dX11_count_105 (fun x20 => ?_)
          exact x_iret rfl dX11_count_106
      · refine x_iconst (v := -1) dX11_count_107 (by decide) ?_
        exact x_iret rfl dX11_count_108
theorem s132 {l : Launch} {d : Nat} {rec : Nat → List Value → Mem → XA} (hS : Nonempty XS) (hs : XSnd l xmt rec d) : Snd1 l 132 (b132 rec) d := by
  intro as M r M' h0
  unfold b132 at h0
  obtain ⟨a0, l1, e1, h1⟩ := aR_inv h0
  obtain ⟨a1, l2, e2, h2⟩ := aI_inv h1
  obtain ⟨a2, l3, e3, h3⟩ := aI_inv h2
  obtain ⟨ez, h⟩ := aZ_inv h3
  subst ez
  subst e3
  subst e2
  subst e1
  exact xmet (M := M) (as := [va_rf a0, .int a1, .int a2]) (lo := [some (va_rf a0), some (.int a1), some (.int a2)]) 132 xq132 xm132 (by rw [xargs_rf, xargs_i, xargs_i, xargs_nil]; exact ⟨rfl, ⟨rfl, ⟨rfl, trivial⟩⟩⟩) (by rw [xargs_rf, xargs_i, xargs_i, xargs_nil]; exact Nat.le_of_ble_eq_true rfl) (fun S G K => x_weak (by exact ⟨rfl, ⟨rfl, ⟨rfl, trivial⟩⟩⟩) (k132 hs a0 a1 a2 M)) h hS
