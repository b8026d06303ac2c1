set_option maxRecDepth 100000 in
def c184 (rec : Nat → List Value → Mem → XA) (a0 : Int32) (a1 : Int32) (a2 : Int32) (M0 : Mem) : XA :=
  jn (fun (s1 : Int32) =>
    rtZ s1 M0) fun j15 =>
  jn (fun (s2 : Unit) =>
    j15 ((0 : Int32))) fun j14 =>
  if a0 < a1 then (
    j14 ()) else (
    if a2 < a0 then (
      j14 ()) else (
      j15 ((1 : Int32))))
def b184 (rec : Nat → List Value → Mem → XA) (as : List Value) (M0 : Mem) : XA := aI as fun a0 as => aI as fun a1 as => aI as fun a2 as => aZ as (c184 rec a0 a1 a2 M0)
set_option maxRecDepth 100000 in
set_option maxHeartbeats 4000000 in
theorem k184 {S : XS} {G : XG} {K : Nat × Nat} {l : Launch} {d : Nat} {rec : Nat → List Value → Mem → XA} (hs : XSnd l xmt rec d) (a0 : Int32) (a1 : Int32) (a2 : Int32) (M0 : Mem) : Xe S G K l (yX12_in, cX12_in, 3, some .boolean) d 0 [some (.int a0), some (.int a1), some (.int a2)] [] M0 (c184 rec a0 a1 a2 M0) := by
  unfold c184
  refine x_iload_n dX12_in_0 rfl ?_
  refine x_iload_n dX12_in_1 rfl ?_
  refine x_jn (σ := Int32) 15 (fun s1 => [none, none, none]) (fun s1 => [.int s1]) (fun s1 => M0) (fun s1 => ?_) (fun j15 hj15 => ?_)
  · exact x_zret rfl dX12_in_15
  refine x_jn (σ := Unit) 14 (fun s2 => [none, none, none]) (fun s2 => []) (fun s2 => M0) (fun s2 => ?_) (fun j14 hj14 => ?_)
  · refine x_iconst (v := 0) dX12_in_14 (by decide) ?_
    exact x_weak (by exact trivial) (hj15 ((0 : Int32)))
  refine x_icmp_lt (tgt := 14) dX12_in_2 (by decide) (fun _ => ?_) (fun _ => ?_)
  · exact x_weak (by exact trivial) (hj14 ())
  · refine x_iload_n dX12_in_5 rfl ?_
    refine x_iload_n dX12_in_6 rfl ?_
    refine x_icmp_gt (tgt := 14) dX12_in_7 (by decide) (fun _ => ?_) (fun _ => ?_)
    · exact x_weak (by exact trivial) (hj14 ())
    · refine x_iconst (v := 1) dX12_in_10 (by decide) ?_
      refine x_goto (tgt := 15) dX12_in_11 (by decide) ?_
      exact x_weak (by exact trivial) (hj15 ((1 : Int32)))
theorem s184 {l : Launch} {d : Nat} {rec : Nat → List Value → Mem → XA} (hS : Nonempty XS) (hs : XSnd l xmt rec d) : Snd1 l 184 (b184 rec) d := by
  intro as M r M' h0
  unfold b184 at h0
  obtain ⟨a0, l1, e1, h1⟩ := aI_inv h0
  obtain ⟨a1, l2, e2, h2⟩ := aI_inv h1
  obtain ⟨a2, l3, e3, h3⟩ := aI_inv h2
  obtain ⟨ez, h⟩ := aZ_inv h3
  subst ez
  subst e3
  subst e2
  subst e1
  exact xmet (M := M) (as := [.int a0, .int a1, .int a2]) (lo := [some (.int a0), some (.int a1), some (.int a2)]) 184 xq184 xm184 (by rw [xargs_i, xargs_i, xargs_i, xargs_nil]; exact ⟨rfl, ⟨rfl, ⟨rfl, trivial⟩⟩⟩) (by rw [xargs_i, xargs_i, xargs_i, xargs_nil]; exact Nat.le_of_ble_eq_true rfl) (fun S G K => x_weak (by exact ⟨rfl, ⟨rfl, ⟨rfl, trivial⟩⟩⟩) (k184 hs a0 a1 a2 M)) h hS
set_option maxRecDepth 100000 in
def c185 (rec : Nat → List Value → Mem → XA) (a0 : Option Nat) (a1 : Int32) (a2 : Int32) (a3 : Int32) (a4 : Int32) (a5 : Int32) (M0 : Mem) : XA :=
  gtI (13, 157) M0 a0 1 fun x1 =>
  if (x1 + ((20 : Int32))) ≤ ((3000 : Int32)) then (
    lp (fun (s2 : Int32 × Mem) j19 =>
      if ((20 : Int32)) ≤ s2.1 then (
        gtI (13, 157) s2.2 a0 1 fun x3 =>
        ptI (13, 157) s2.2 a0 1 (x3 + ((20 : Int32))) fun M4 =>
        gtI (13, 157) M4 a0 1 fun x5 =>
        some (.int x5, M4)) else (
        jn (fun (s6 : Int32) =>
          gtP (13, 157) s2.2 a0 0 fun x7 =>
          gtI (13, 157) s2.2 a0 1 fun x8 =>
          if ((4 : Int32)) = 0 then none else
          asI 101 s2.2 x7 (x8 + s2.1) (((s6 >>> ((((24 : Int32)) - (((8 : Int32)) * (xrem s2.1 ((4 : Int32))))) &&& 31)).toInt8.toInt32).toInt8.toInt32) fun M9 =>
          lt (s2.1 + (1 : Int32)) fun (x10 : Int32) =>
          j19 (x10, M9)) fun j72 =>
        if ((4 : Int32)) ≤ s2.1 then (
          if ((8 : Int32)) ≤ s2.1 then (
            if ((12 : Int32)) ≤ s2.1 then (
              if ((16 : Int32)) ≤ s2.1 then (
                j72 a5) else (
                j72 a4)) else (
              j72 a3)) else (
            j72 a2)) else (
          j72 a1))) 4294967296 ((0 : Int32), M0)) else (
    some (.int ((-3 : Int32)), M0))
def b185 (rec : Nat → List Value → Mem → XA) (as : List Value) (M0 : Mem) : XA := aR as fun a0 as => aI as fun a1 as => aI as fun a2 as => aI as fun a3 as => aI as fun a4 as => aI as fun a5 as => aZ as (c185 rec a0 a1 a2 a3 a4 a5 M0)
set_option maxRecDepth 100000 in
set_option maxHeartbeats 4000000 in
theorem k185 {S : XS} {G : XG} {K : Nat × Nat} {l : Launch} {d : Nat} {rec : Nat → List Value → Mem → XA} (hs : XSnd l xmt rec d) (a0 : Option Nat) (a1 : Int32) (a2 : Int32) (a3 : Int32) (a4 : Int32) (a5 : Int32) (M0 : Mem) : Xe S G K l (yX12_feed, cX12_feed, 8, some .int) d 0 [some (va_rf a0), some (.int a1), some (.int a2), some (.int a3), some (.int a4), some (.int a5), none, none] [] M0 (c185 rec a0 a1 a2 a3 a4 a5 M0) := by
  unfold c185
  refine x_aload_n dX12_feed_0 rfl ?_
  refine gfX12_378 rfl dX12_feed_1 (fun x1 => ?_)
  refine x_bipush (v := 20) dX12_feed_4 (by decide) ?_
  refine x_iadd dX12_feed_6 ?_
  refine x_sipush (v := 3000) dX12_feed_7 (by decide) ?_
  refine x_icmp_le (tgt := 16) dX12_feed_10 (by decide) (fun _ => ?_) (fun _ => ?_)
  · refine x_iconst (v := 0) dX12_feed_16 (by decide) ?_
    refine x_istore (lo' := [some (va_rf a0), some (.int a1), some (.int a2), some (.int a3), some (.int a4), some (.int a5), some (.int ((0 : Int32))), none]) dX12_feed_17 (by decide) rfl rfl ?_
    refine x_weak (by exact ⟨rfl, ⟨rfl, ⟨rfl, ⟨rfl, ⟨rfl, ⟨rfl, ⟨rfl, trivial⟩⟩⟩⟩⟩⟩⟩) (x_lp (σ := Int32 × Mem) 19 (fun s2 => [some (va_rf a0), some (.int a1), some (.int a2), some (.int a3), some (.int a4), some (.int a5), some (.int s2.1), none]) (fun s2 => []) (fun s2 => s2.2) (fun s2 j19 hj19 => ?_) 4294967296 ((0 : Int32), M0))
    · refine x_iload dX12_feed_19 rfl ?_
      refine x_bipush (v := 20) dX12_feed_21 (by decide) ?_
      refine x_icmp_ge (tgt := 106) dX12_feed_23 (by decide) (fun _ => ?_) (fun _ => ?_)
      · refine x_aload_n dX12_feed_106 rfl ?_
        refine x_dup dX12_feed_107 (xc1_r _) ?_
        refine gfX12_378 rfl dX12_feed_108 (fun x3 => ?_)
        refine x_bipush (v := 20) dX12_feed_111 (by decide) ?_
        refine x_iadd dX12_feed_113 ?_
        refine pfX12_378 rfl dX12_feed_114 (fun M4 => ?_)
        refine x_aload_n dX12_feed_117 rfl ?_
        refine gfX12_378 rfl dX12_feed_118 (fun x5 => ?_)
        exact x_iret rfl dX12_feed_121
      · refine x_iload dX12_feed_26 rfl ?_
        refine x_iconst (v := 4) dX12_feed_28 (by decide) ?_
        refine x_jn (σ := Int32) 72 (fun s6 => [some (va_rf a0), some (.int a1), some (.int a2), some (.int a3), some (.int a4), some (.int a5), some (.int s2.1), none]) (fun s6 => [.int s6]) (fun s6 => s2.2) (fun s6 => ?_) (fun j72 hj72 => ?_)
        · refine x_istore (lo' := [some (va_rf a0), some (.int a1), some (.int a2), some (.int a3), some (.int a4), some (.int a5), some (.int s2.1), some (.int s6)]) dX12_feed_72 (by decide) rfl rfl ?_
          refine x_aload_n dX12_feed_74 rfl ?_
          refine gfX12_7 rfl dX12_feed_75 (fun x7 => ?_)
          refine x_aload_n dX12_feed_78 rfl ?_
          refine gfX12_378 rfl dX12_feed_79 (fun x8 => ?_)
          refine x_iload dX12_feed_82 rfl ?_
          refine x_iadd dX12_feed_84 ?_
          refine x_iload dX12_feed_85 rfl ?_
          refine x_bipush (v := 24) dX12_feed_87 (by decide) ?_
          refine x_bipush (v := 8) dX12_feed_89 (by decide) ?_
          refine x_iload dX12_feed_91 rfl ?_
          refine x_iconst (v := 4) dX12_feed_93 (by decide) ?_
          refine x_irem dX12_feed_94 (fun _ => ?_)
          refine x_imul dX12_feed_95 ?_
          refine x_isub dX12_feed_96 ?_
          refine x_ishr dX12_feed_97 ?_
          refine x_i2b dX12_feed_98 ?_
          refine x_bast dX12_feed_99 (fun M9 => ?_)
          refine x_iincN (v := 1) (lo' := fun x10 => [some (va_rf a0), some (.int a1), some (.int a2), some (.int a3), some (.int a4), some (.int a5), some (.int x10), some (.int s6)]) (by decide) dX12_feed_100 rfl (by decide) rfl (fun _ => rfl) (fun x10 => ?_)
          refine x_goto (tgt := 19) dX12_feed_103 (by decide) ?_
          exact x_weak (by exact ⟨rfl, ⟨rfl, ⟨rfl, ⟨rfl, ⟨rfl, ⟨rfl, ⟨rfl, trivial⟩⟩⟩⟩⟩⟩⟩) (hj19 (x10, M9))
        refine x_icmp_ge (tgt := 36) dX12_feed_29 (by decide) (fun _ => ?_) (fun _ => ?_)
        · refine x_iload dX12_feed_36 rfl ?_
          refine x_bipush (v := 8) dX12_feed_38 (by decide) ?_
          refine x_icmp_ge (tgt := 47) dX12_feed_40 (by decide) (fun _ => ?_) (fun _ => ?_)
          · refine x_iload dX12_feed_47 rfl ?_
            refine x_bipush (v := 12) dX12_feed_49 (by decide) ?_
            refine x_icmp_ge (tgt := 58) dX12_feed_51 (by decide) (fun _ => ?_) (fun _ => ?_)
            · refine x_iload dX12_feed_58 rfl ?_
              refine x_bipush (v := 16) dX12_feed_60 (by decide) ?_
              refine x_icmp_ge (tgt := 70) dX12_feed_62 (by decide) (fun _ => ?_) (fun _ => ?_)
              · refine x_iload dX12_feed_70 rfl ?_
                exact x_weak (by exact ⟨rfl, ⟨rfl, ⟨rfl, ⟨rfl, ⟨rfl, ⟨rfl, ⟨rfl, trivial⟩⟩⟩⟩⟩⟩⟩) (hj72 a5)
              · refine x_iload dX12_feed_65 rfl ?_
                refine x_goto (tgt := 72) dX12_feed_67 (by decide) ?_
                exact x_weak (by exact ⟨rfl, ⟨rfl, ⟨rfl, ⟨rfl, ⟨rfl, ⟨rfl, ⟨rfl, trivial⟩⟩⟩⟩⟩⟩⟩) (hj72 a4)
            · refine x_iload_n dX12_feed_54 rfl ?_
              refine x_goto (tgt := 72) dX12_feed_55 (by decide) ?_
              exact x_weak (by exact ⟨rfl, ⟨rfl, ⟨rfl, ⟨rfl, ⟨rfl, ⟨rfl, ⟨rfl, trivial⟩⟩⟩⟩⟩⟩⟩) (hj72 a3)
          · refine x_iload_n dX12_feed_43 rfl ?_
            refine x_goto (tgt := 72) dX12_feed_44 (by decide) ?_
            exact x_weak (by exact ⟨rfl, ⟨rfl, ⟨rfl, ⟨rfl, ⟨rfl, ⟨rfl, ⟨rfl, trivial⟩⟩⟩⟩⟩⟩⟩) (hj72 a2)
        · refine x_iload_n dX12_feed_32 rfl ?_
          refine x_goto (tgt := 72) dX12_feed_33 (by decide) ?_
          exact x_weak (by exact ⟨rfl, ⟨rfl, ⟨rfl, ⟨rfl, ⟨rfl, ⟨rfl, ⟨rfl, trivial⟩⟩⟩⟩⟩⟩⟩) (hj72 a1)
  · refine x_bipush (v := -3) dX12_feed_13 (by decide) ?_
    exact x_iret rfl dX12_feed_15
theorem s185 {l : Launch} {d : Nat} {rec : Nat → List Value → Mem → XA} (hS : Nonempty XS) (hs : XSnd l xmt rec d) : Snd1 l 185 (b185 rec) d := by
  intro as M r M' h0
  unfold b185 at h0
  obtain ⟨a0, l1, e1, h1⟩ := aR_inv h0
  obtain ⟨a1, l2, e2, h2⟩ := aI_inv h1
  obtain ⟨a2, l3, e3, h3⟩ := aI_inv h2
  obtain ⟨a3, l4, e4, h4⟩ := aI_inv h3
  obtain ⟨a4, l5, e5, h5⟩ := aI_inv h4
  obtain ⟨a5, l6, e6, h6⟩ := aI_inv h5
  obtain ⟨ez, h⟩ := aZ_inv h6
  subst ez
  subst e6
  subst e5
  subst e4
  subst e3
  subst e2
  subst e1
  exact xmet (M := M) (as := [va_rf a0, .int a1, .int a2, .int a3, .int a4, .int a5]) (lo := [some (va_rf a0), some (.int a1), some (.int a2), some (.int a3), some (.int a4), some (.int a5)]) 185 xq185 xm185 (by rw [xargs_rf, xargs_i, xargs_i, xargs_i, xargs_i, xargs_i, xargs_nil]; exact ⟨rfl, ⟨rfl, ⟨rfl, ⟨rfl, ⟨rfl, ⟨rfl, trivial⟩⟩⟩⟩⟩⟩) (by rw [xargs_rf, xargs_i, xargs_i, xargs_i, xargs_i, xargs_i, xargs_nil]; exact Nat.le_of_ble_eq_true rfl) (fun S G K => x_weak (by exact ⟨rfl, ⟨rfl, ⟨rfl, ⟨rfl, ⟨rfl, ⟨rfl, trivial⟩⟩⟩⟩⟩⟩) (k185 hs a0 a1 a2 a3 a4 a5 M)) h hS
set_option maxRecDepth 100000 in
def c186 (rec : Nat → List Value → Mem → XA) (a0 : Option Nat) (a1 : Int32) (M0 : Mem) : XA :=
  gtI (13, 157) M0 a0 1 fun x1 =>
  cI (rec 184 [.int a1, .int ((0 : Int32)), .int x1] M0) fun x3 M2 =>
  if x3 = 0 then (
    some (.int ((-1 : Int32)), M2)) else (
    gtI (13, 157) M2 a0 1 fun x4 =>
    ptI (13, 157) M2 a0 1 (x4 - a1) fun M5 =>
    gtI (13, 157) M5 a0 1 fun x6 =>
    some (.int x6, M5))
def b186 (rec : Nat → List Value → Mem → XA) (as : List Value) (M0 : Mem) : XA := aR as fun a0 as => aI as fun a1 as => aZ as (c186 rec a0 a1 M0)
set_option maxRecDepth 100000 in
set_option maxHeartbeats 4000000 in
theorem k186 {S : XS} {G : XG} {K : Nat × Nat} {l : Launch} {d : Nat} {rec : Nat → List Value → Mem → XA} (hs : XSnd l xmt rec d) (a0 : Option Nat) (a1 : Int32) (M0 : Mem) : Xe S G K l (yX12_cut, cX12_cut, 2, some .int) d 0 [some (va_rf a0), some (.int a1)] [] M0 (c186 rec a0 a1 M0) := by
  unfold c186
  refine x_iload_n dX12_cut_0 rfl ?_
  refine x_iconst (v := 0) dX12_cut_1 (by decide) ?_
  refine x_aload_n dX12_cut_2 rfl ?_
  refine gfX12_378 rfl dX12_cut_3 (fun x1 => ?_)
  refine cmX12_381 rfl hs (Nat.le_of_ble_eq_true rfl) dX12_cut_6 (fun x3 M2 => ?_)
  refine x_if_ne (tgt := 14) dX12_cut_9 (by decide) (fun _ => ?_) (fun _ => ?_)
  · refine x_iconst (v := -1) dX12_cut_12 (by decide) ?_
    exact x_iret rfl dX12_cut_13
  · refine x_aload_n dX12_cut_14 rfl ?_
    refine x_dup dX12_cut_15 (xc1_r _) ?_
    refine gfX12_378 rfl dX12_cut_16 (fun x4 => ?_)
    refine x_iload_n dX12_cut_19 rfl ?_
    refine x_isub dX12_cut_20 ?_
    refine pfX12_378 rfl dX12_cut_21 (fun M5 => ?_)
    refine x_aload_n dX12_cut_24 rfl ?_
    refine gfX12_378 rfl dX12_cut_25 (fun x6 => ?_)
    exact x_iret rfl dX12_cut_28
theorem s186 {l : Launch} {d : Nat} {rec : Nat → List Value → Mem → XA} (hS : Nonempty XS) (hs : XSnd l xmt rec d) : Snd1 l 186 (b186 rec) d := by
  intro as M r M' h0
  unfold b186 at h0
  obtain ⟨a0, l1, e1, h1⟩ := aR_inv h0
  obtain ⟨a1, l2, e2, h2⟩ := aI_inv h1
  obtain ⟨ez, h⟩ := aZ_inv h2
  subst ez
  subst e2
  subst e1
  exact xmet (M := M) (as := [va_rf a0, .int a1]) (lo := [some (va_rf a0), some (.int a1)]) 186 xq186 xm186 (by rw [xargs_rf, xargs_i, xargs_nil]; exact ⟨rfl, ⟨rfl, trivial⟩⟩) (by rw [xargs_rf, xargs_i, xargs_nil]; exact Nat.le_of_ble_eq_true rfl) (fun S G K => x_weak (by exact ⟨rfl, ⟨rfl, trivial⟩⟩) (k186 hs a0 a1 M)) h hS
set_option maxRecDepth 100000 in
def c187 (rec : Nat → List Value → Mem → XA) (a0 : Option Nat) (M0 : Mem) : XA :=
  lp (fun (s1 : Int64 × Int32 × Mem) j4 =>
    vS a0 <|
    cI (rec 320 [va_rf a0] s1.2.2) fun x3 M2 =>
    if x3 ≤ s1.2.1 then (
      some (.long s1.1, M2)) else (
      vS a0 <|
      cI (rec 321 [va_rf a0, .int s1.2.1] M2) fun x5 M4 =>
      lt ((s1.1 <<< (Int32.toInt64 ((8 : Int32)) &&& 63)) ||| x5.toInt64) fun (x6 : Int64) =>
      lt (s1.2.1 + (1 : Int32)) fun (x7 : Int32) =>
      j4 (x6, x7, M4))) 4294967296 ((0 : Int64), (0 : Int32), M0)
def b187 (rec : Nat → List Value → Mem → XA) (as : List Value) (M0 : Mem) : XA := aR as fun a0 as => aZ as (c187 rec a0 M0)
set_option maxRecDepth 100000 in
set_option maxHeartbeats 4000000 in
theorem k187 {S : XS} {G : XG} {K : Nat × Nat} {l : Launch} {d : Nat} {rec : Nat → List Value → Mem → XA} (hs : XSnd l xmt rec d) (a0 : Option Nat) (M0 : Mem) : Xe S G K l (yX12_packed, cX12_packed, 4, some .long) d 0 [some (va_rf a0), none, none, none] [] M0 (c187 rec a0 M0) := by
  unfold c187
  refine x_lconst (v := 0) dX12_packed_0 (by decide) ?_
  refine x_lstore_n (lo' := [some (va_rf a0), some (.long ((0 : Int64))), none, none]) dX12_packed_1 (by decide) (xok_r rfl) rfl ?_
  refine x_iconst (v := 0) dX12_packed_2 (by decide) ?_
  refine x_istore_n (lo' := [some (va_rf a0), some (.long ((0 : Int64))), none, some (.int ((0 : Int32)))]) dX12_packed_3 (by decide) rfl rfl ?_
  refine x_weak (by exact ⟨rfl, ⟨rfl, ⟨rfl, trivial⟩⟩⟩) (x_lp (σ := Int64 × Int32 × Mem) 4 (fun s1 => [some (va_rf a0), some (.long s1.1), none, some (.int s1.2.1)]) (fun s1 => []) (fun s1 => s1.2.2) (fun s1 j4 hj4 => ?_) 4294967296 ((0 : Int64), (0 : Int32), M0))
  · refine x_iload_n dX12_packed_4 rfl ?_
    refine x_aload_n dX12_packed_5 rfl ?_
    refine cmX12_385 rfl hs (Nat.le_of_ble_eq_true rfl) dX12_packed_6 (fun x3 M2 => ?_)
    refine x_icmp_ge (tgt := 30) dX12_packed_9 (by decide) (fun _ => ?_) (fun _ => ?_)
    · refine x_lload_n dX12_packed_30 rfl ?_
      exact x_lret rfl dX12_packed_31
    · refine x_lload_n dX12_packed_12 rfl ?_
      refine x_bipush (v := 8) dX12_packed_13 (by decide) ?_
      refine x_lshl dX12_packed_15 ?_
      refine x_aload_n dX12_packed_16 rfl ?_
      refine x_iload_n dX12_packed_17 rfl ?_
      refine cmX12_391 rfl hs (Nat.le_of_ble_eq_true rfl) dX12_packed_18 (fun x5 M4 => ?_)
      refine x_i2l dX12_packed_21 ?_
      refine x_lor dX12_packed_22 ?_
      refine x_ltL (fun x6 => ?_)
      refine x_lstore_n (lo' := [some (va_rf a0), some (.long x6), none, some (.int s1.2.1)]) dX12_packed_23 (by decide) (xok_r rfl) rfl ?_
      refine x_iincN (v := 1) (lo' := fun x7 => [some (va_rf a0), some (.long x6), none, some (.int x7)]) (by decide) dX12_packed_24 rfl (by decide) rfl (fun _ => rfl) (fun x7 => ?_)
      refine x_goto (tgt := 4) dX12_packed_27 (by decide) ?_
      exact x_weak (by exact ⟨rfl, ⟨rfl, ⟨rfl, trivial⟩⟩⟩) (hj4 (x6, x7, M4))
theorem s187 {l : Launch} {d : Nat} {rec : Nat → List Value → Mem → XA} (hS : Nonempty XS) (hs : XSnd l xmt rec d) : Snd1 l 187 (b187 rec) d := by
  intro as M r M' h0
  unfold b187 at h0
  obtain ⟨a0, l1, e1, h1⟩ := aR_inv h0
  obtain ⟨ez, h⟩ := aZ_inv h1
  subst ez
  subst e1
  exact xmet (M := M) (as := [va_rf a0]) (lo := [some (va_rf a0)]) 187 xq187 xm187 (by rw [xargs_rf, xargs_nil]; exact ⟨rfl, trivial⟩) (by rw [xargs_rf, xargs_nil]; exact Nat.le_of_ble_eq_true rfl) (fun S G K => x_weak (by exact ⟨rfl, trivial⟩) (k187 hs a0 M)) h hS
set_option maxRecDepth 100000 in
def c188 (rec : Nat → List Value → Mem → XA) (a0 : Int32) (M0 : Mem) : XA :=
  cI (rec 184 [.int a0, .int ((97 : Int32)), .int ((122 : Int32))] M0) fun x2 M1 =>
  rtZ x2 M1
def b188 (rec : Nat → List Value → Mem → XA) (as : List Value) (M0 : Mem) : XA := aI as fun a0 as => aZ as (c188 rec a0 M0)
set_option maxRecDepth 100000 in
set_option maxHeartbeats 4000000 in
theorem k188 {S : XS} {G : XG} {K : Nat × Nat} {l : Launch} {d : Nat} {rec : Nat → List Value → Mem → XA} (hs : XSnd l xmt rec d) (a0 : Int32) (M0 : Mem) : Xe S G K l (yX12_isLetter, cX12_isLetter, 1, some .boolean) d 0 [some (.int a0)] [] M0 (c188 rec a0 M0) := by
  unfold c188
  refine x_iload_n dX12_isLetter_0 rfl ?_
  refine x_bipush (v := 97) dX12_isLetter_1 (by decide) ?_
  refine x_bipush (v := 122) dX12_isLetter_3 (by decide) ?_
  refine cmX12_381 rfl hs (Nat.le_of_ble_eq_true rfl) dX12_isLetter_5 (fun x2 M1 => ?_)
  exact x_zret rfl dX12_isLetter_8
theorem s188 {l : Launch} {d : Nat} {rec : Nat → List Value → Mem → XA} (hS : Nonempty XS) (hs : XSnd l xmt rec d) : Snd1 l 188 (b188 rec) d := by
  intro as M r M' h0
  unfold b188 at h0
  obtain ⟨a0, l1, e1, h1⟩ := aI_inv h0
  obtain ⟨ez, h⟩ := aZ_inv h1
  subst ez
  subst e1
  exact xmet (M := M) (as := [.int a0]) (lo := [some (.int a0)]) 188 xq188 xm188 (by rw [xargs_i, xargs_nil]; exact ⟨rfl, trivial⟩) (by rw [xargs_i, xargs_nil]; exact Nat.le_of_ble_eq_true rfl) (fun S G K => x_weak (by exact ⟨rfl, trivial⟩) (k188 hs a0 M)) h hS
set_option maxRecDepth 100000 in
def c189 (rec : Nat → List Value → Mem → XA) (a0 : Int32) (M0 : Mem) : XA :=
  cI (rec 184 [.int a0, .int ((48 : Int32)), .int ((57 : Int32))] M0) fun x2 M1 =>
  rtZ x2 M1
def b189 (rec : Nat → List Value → Mem → XA) (as : List Value) (M0 : Mem) : XA := aI as fun a0 as => aZ as (c189 rec a0 M0)
set_option maxRecDepth 100000 in
set_option maxHeartbeats 4000000 in
theorem k189 {S : XS} {G : XG} {K : Nat × Nat} {l : Launch} {d : Nat} {rec : Nat → List Value → Mem → XA} (hs : XSnd l xmt rec d) (a0 : Int32) (M0 : Mem) : Xe S G K l (yX12_isDigit, cX12_isDigit, 1, some .boolean) d 0 [some (.int a0)] [] M0 (c189 rec a0 M0) := by
  unfold c189
  refine x_iload_n dX12_isDigit_0 rfl ?_
  refine x_bipush (v := 48) dX12_isDigit_1 (by decide) ?_
  refine x_bipush (v := 57) dX12_isDigit_3 (by decide) ?_
  refine cmX12_381 rfl hs (Nat.le_of_ble_eq_true rfl) dX12_isDigit_5 (fun x2 M1 => ?_)
  exact x_zret rfl dX12_isDigit_8
theorem s189 {l : Launch} {d : Nat} {rec : Nat → List Value → Mem → XA} (hS : Nonempty XS) (hs : XSnd l xmt rec d) : Snd1 l 189 (b189 rec) d := by
  intro as M r M' h0
  unfold b189 at h0
  obtain ⟨a0, l1, e1, h1⟩ := aI_inv h0
  obtain ⟨ez, h⟩ := aZ_inv h1
  subst ez
  subst e1
  exact xmet (M := M) (as := [.int a0]) (lo := [some (.int a0)]) 189 xq189 xm189 (by rw [xargs_i, xargs_nil]; exact ⟨rfl, trivial⟩) (by rw [xargs_i, xargs_nil]; exact Nat.le_of_ble_eq_true rfl) (fun S G K => x_weak (by exact ⟨rfl, trivial⟩) (k189 hs a0 M)) h hS
set_option maxRecDepth 100000 in
def c190 (rec : Nat → List Value → Mem → XA) (a0 : Option Nat) (a1 : Int32) (M0 : Mem) : XA :=
  gtI (13, 157) M0 a0 1 fun x1 =>
  jn (fun (s2 : Int32) =>
    some (.int s2, M0)) fun j18 =>
  if x1 ≤ a1 then (
    j18 ((0 : Int32))) else (
    gtP (13, 157) M0 a0 0 fun x3 =>
    alI 101 M0 x3 a1 fun x4 =>
    j18 x4)
def b190 (rec : Nat → List Value → Mem → XA) (as : List Value) (M0 : Mem) : XA := aR as fun a0 as => aI as fun a1 as => aZ as (c190 rec a0 a1 M0)
set_option maxRecDepth 100000 in
set_option maxHeartbeats 4000000 in
theorem k190 {S : XS} {G : XG} {K : Nat × Nat} {l : Launch} {d : Nat} {rec : Nat → List Value → Mem → XA} (hs : XSnd l xmt rec d) (a0 : Option Nat) (a1 : Int32) (M0 : Mem) : Xe S G K l (yX12_at, cX12_at, 2, some .int) d 0 [some (va_rf a0), some (.int a1)] [] M0 (c190 rec a0 a1 M0) := by
  unfold c190
  refine x_iload_n dX12_at_0 rfl ?_
  refine x_aload_n dX12_at_1 rfl ?_
  refine gfX12_378 rfl dX12_at_2 (fun x1 => ?_)
  refine x_jn (σ := Int32) 18 (fun s2 => [none, none]) (fun s2 => [.int s2]) (fun s2 => M0) (fun s2 => ?_) (fun j18 hj18 => ?_)
  · exact x_iret rfl dX12_at_18
  refine x_icmp_ge (tgt := 17) dX12_at_5 (by decide) (fun _ => ?_) (fun _ => ?_)
  · refine x_iconst (v := 0) dX12_at_17 (by decide) ?_
    exact x_weak (by exact trivial) (hj18 ((0 : Int32)))
  · refine x_aload_n dX12_at_8 rfl ?_
    refine gfX12_7 rfl dX12_at_9 (fun x3 => ?_)
    refine x_iload_n dX12_at_12 rfl ?_
    refine x_bald dX12_at_13 (fun x4 => ?_)
    refine x_goto (tgt := 18) dX12_at_14 (by decide) ?_
    exact x_weak (by exact trivial) (hj18 x4)
theorem s190 {l : Launch} {d : Nat} {rec : Nat → List Value → Mem → XA} (hS : Nonempty XS) (hs : XSnd l xmt rec d) : Snd1 l 190 (b190 rec) d := by
  intro as M r M' h0
  unfold b190 at h0
  obtain ⟨a0, l1, e1, h1⟩ := aR_inv h0
  obtain ⟨a1, l2, e2, h2⟩ := aI_inv h1
  obtain ⟨ez, h⟩ := aZ_inv h2
  subst ez
  subst e2
  subst e1
  exact xmet (M := M) (as := [va_rf a0, .int a1]) (lo := [some (va_rf a0), some (.int a1)]) 190 xq190 xm190 (by rw [xargs_rf, xargs_i, xargs_nil]; exact ⟨rfl, ⟨rfl, trivial⟩⟩) (by rw [xargs_rf, xargs_i, xargs_nil]; exact Nat.le_of_ble_eq_true rfl) (fun S G K => x_weak (by exact ⟨rfl, ⟨rfl, trivial⟩⟩) (k190 hs a0 a1 M)) h hS
set_option maxRecDepth 100000 in
def c191 (rec : Nat → List Value → Mem → XA) (a0 : Option Nat) (M0 : Mem) : XA :=
  gtI (13, 157) M0 a0 41 fun x1 =>
  if x1 = 0 then (
    lp (fun (s2 : Mem) j8 =>
      gtI (13, 157) s2 a0 38 fun x3 =>
      gtI (13, 157) s2 a0 1 fun x4 =>
      jn (fun (s5 : Mem) =>
        gtI (13, 157) s5 a0 38 fun x6 =>
        ptI (13, 157) s5 a0 37 x6 fun M7 =>
        gtI (13, 157) M7 a0 37 fun x8 =>
        vC (13, 157) M7 a0 <|
        cI (rec 190 [va_rf a0, .int x8] M7) fun x10 M9 =>
        gtI (13, 157) M9 a0 37 fun x11 =>
        gtI (13, 157) M9 a0 1 fun x12 =>
        jn (fun (s13 : Mem) =>
          some (.null, s13)) fun j586 =>
        if x11 = x12 then (
          ptI (13, 157) M9 a0 36 ((0 : Int32)) fun M14 =>
          j586 M14) else (
          cI (rec 188 [.int x10] M9) fun x16 M15 =>
          if x16 = 0 then (
            cI (rec 189 [.int x10] M15) fun x18 M17 =>
            if x18 = 0 then (
              gtI (13, 157) M17 a0 38 fun x19 =>
              ptI (13, 157) M17 a0 38 (x19 + ((1 : Int32))) fun M20 =>
              gtI (13, 157) M20 a0 38 fun x21 =>
              vC (13, 157) M20 a0 <|
              cI (rec 190 [va_rf a0, .int x21] M20) fun x23 M22 =>
              jn (fun (s24 : Int32) =>
                ptI (13, 157) M22 a0 36 x10 fun M25 =>
                jn (fun (s26 : Unit) =>
                  if x10 = ((123 : Int32)) then (
                    j586 M25) else (
                    if x10 = ((125 : Int32)) then (
                      j586 M25) else (
                      if x10 = ((40 : Int32)) then (
                        j586 M25) else (
                        if x10 = ((41 : Int32)) then (
                          j586 M25) else (
                          if x10 = ((91 : Int32)) then (
                            j586 M25) else (
                            if x10 = ((93 : Int32)) then (
                              j586 M25) else (
                              if x10 = ((44 : Int32)) then (
                                j586 M25) else (
                                if x10 = ((59 : Int32)) then (
                                  j586 M25) else (
                                  if x10 = ((46 : Int32)) then (
                                    j586 M25) else (
                                    if x10 = ((61 : Int32)) then (
                                      j586 M25) else (
                                      if x10 = ((43 : Int32)) then (
                                        j586 M25) else (
                                        if x10 = ((45 : Int32)) then (
                                          j586 M25) else (
                                          if x10 = ((42 : Int32)) then (
                                            j586 M25) else (
                                            if x10 = ((47 : Int32)) then (
                                              j586 M25) else (
                                              if x10 = ((37 : Int32)) then (
                                                j586 M25) else (
                                                if x10 = ((60 : Int32)) then (
                                                  j586 M25) else (
                                                  ptI (13, 157) M25 a0 36 ((-1 : Int32)) fun M27 =>
                                                  j586 M27))))))))))))))))) fun j485 =>
                jn (fun (s28 : Unit) =>
                  if s24 = 0 then (
                    j485 ()) else (
                    gtI (13, 157) M25 a0 38 fun x29 =>
                    ptI (13, 157) M25 a0 38 (x29 + ((1 : Int32))) fun M30 =>
                    jn (fun (s31 : Int32) =>
                      ptI (13, 157) M30 a0 36 s31 fun M32 =>
                      j586 M32) fun j479 =>
                    if x10 = ((60 : Int32)) then (
                      j479 ((300 : Int32))) else (
                      if x10 = ((61 : Int32)) then (
                        j479 ((301 : Int32))) else (
                        j479 ((302 : Int32)))))) fun j437 =>
                if x10 = ((60 : Int32)) then (
                  j437 ()) else (
                  if x10 = ((61 : Int32)) then (
                    j437 ()) else (
                    if x10 = ((33 : Int32)) then (
                      j437 ()) else (
                      j485 ())))) fun j413 =>
              if x23 = ((61 : Int32)) then (
                j413 ((1 : Int32))) else (
                j413 ((0 : Int32)))) else (
              ptI (13, 157) M17 a0 40 ((0 : Int32)) fun M33 =>
              lp (fun (s34 : Mem) j274 =>
                gtI (13, 157) s34 a0 38 fun x35 =>
                vC (13, 157) s34 a0 <|
                cI (rec 190 [va_rf a0, .int x35] s34) fun x37 M36 =>
                cI (rec 189 [.int x37] M36) fun x39 M38 =>
                if x39 = 0 then (
                  gtI (13, 157) M38 a0 38 fun x40 =>
                  gtI (13, 157) M38 a0 37 fun x41 =>
                  jn (fun (s42 : Int32 × Mem) =>
                    ptI (13, 157) s42.2 a0 36 s42.1 fun M43 =>
                    j586 M43) fun j379 =>
                  jn (fun (s44 : Mem) =>
                    j379 ((-1 : Int32), s44)) fun j374 =>
                  if ((9 : Int32)) < (x40 - x41) then (
                    j374 M38) else (
                    gtI (13, 157) M38 a0 38 fun x45 =>
                    vC (13, 157) M38 a0 <|
                    cI (rec 190 [va_rf a0, .int x45] M38) fun x47 M46 =>
                    cI (rec 188 [.int x47] M46) fun x49 M48 =>
                    if x49 = 0 then (
                      j379 ((2 : Int32), M48)) else (
                      j374 M48))) else (
                  gtI (13, 157) M38 a0 38 fun x50 =>
                  gtI (13, 157) M38 a0 37 fun x51 =>
                  jn (fun (s52 : Int32 × Mem) =>
                    ptI (13, 157) s52.2 a0 40 s52.1 fun M53 =>
                    gtI (13, 157) M53 a0 38 fun x54 =>
                    ptI (13, 157) M53 a0 38 (x54 + ((1 : Int32))) fun M55 =>
                    j274 M55) fun j329 =>
                  if ((9 : Int32)) ≤ (x50 - x51) then (
                    gtI (13, 157) M38 a0 40 fun x56 =>
                    j329 (x56, M38)) else (
                    gtI (13, 157) M38 a0 40 fun x57 =>
                    gtI (13, 157) M38 a0 38 fun x58 =>
                    vC (13, 157) M38 a0 <|
                    cI (rec 190 [va_rf a0, .int x58] M38) fun x60 M59 =>
                    j329 (((((10 : Int32)) * x57) + x60) - ((48 : Int32)), M59)))) 4294967296 M33)) else (
            ptL (13, 157) M15 a0 39 ((0 : Int64)) fun M61 =>
            lp (fun (s62 : Mem) j119 =>
              gtI (13, 157) s62 a0 38 fun x63 =>
              vC (13, 157) s62 a0 <|
              cI (rec 190 [va_rf a0, .int x63] s62) fun x65 M64 =>
              cI (rec 188 [.int x65] M64) fun x67 M66 =>
              jn (fun (s68 : Mem) =>
                gtL (13, 157) s68 a0 39 fun x69 =>
                gtI (13, 157) s68 a0 38 fun x70 =>
                vC (13, 157) s68 a0 <|
                cI (rec 190 [va_rf a0, .int x70] s68) fun x72 M71 =>
                ptL (13, 157) M71 a0 39 ((x69 <<< (Int32.toInt64 ((8 : Int32)) &&& 63)) ||| x72.toInt64) fun M73 =>
                gtI (13, 157) M73 a0 38 fun x74 =>
                ptI (13, 157) M73 a0 38 (x74 + ((1 : Int32))) fun M75 =>
                j119 M75) fun j147 =>
              if x67 = 0 then (
                gtI (13, 157) M66 a0 38 fun x76 =>
                vC (13, 157) M66 a0 <|
                cI (rec 190 [va_rf a0, .int x76] M66) fun x78 M77 =>
                cI (rec 189 [.int x78] M77) fun x80 M79 =>
                if x80 = 0 then (
                  gtI (13, 157) M79 a0 38 fun x81 =>
                  gtI (13, 157) M79 a0 37 fun x82 =>
                  jn (fun (s83 : Int32) =>
                    ptI (13, 157) M79 a0 36 s83 fun M84 =>
                    lp (fun (s85 : Int32 × Mem) j206 =>
                      gtP (13, 157) s85.2 a0 35 fun x86 =>
                      aln s85.2 x86 fun x87 =>
                      jn (fun (s88 : Unit) =>
                        j586 s85.2) fun j259 =>
                      if x87 ≤ s85.1 then (
                        j259 ()) else (
                        gtI (13, 157) s85.2 a0 36 fun x89 =>
                        if x89 = ((1 : Int32)) then (
                          gtP (13, 157) s85.2 a0 35 fun x90 =>
                          alL s85.2 x90 s85.1 fun x91 =>
                          gtL (13, 157) s85.2 a0 39 fun x92 =>
                          jn (fun (s93 : Int32) =>
                            ptI (13, 157) s85.2 a0 36 s93 fun M94 =>
                            lt (s85.1 + (1 : Int32)) fun (x95 : Int32) =>
                            j206 (x95, M94)) fun j250 =>
                          if (lg_cmp x91 x92) = 0 then (
                            j250 (((401 : Int32)) + s85.1)) else (
                            gtI (13, 157) s85.2 a0 36 fun x96 =>
                            j250 x96)) else (
                          j259 ()))) 4294967296 ((0 : Int32), M84)) fun j201 =>
                  if (x81 - x82) ≤ ((8 : Int32)) then (
                    j201 ((1 : Int32))) else (
                    j201 ((-1 : Int32)))) else (
                  j147 M79)) else (
                j147 M66)) 4294967296 M61))) fun j71 =>
      if x4 ≤ x3 then (
        j71 s2) else (
        gtI (13, 157) s2 a0 38 fun x97 =>
        vC (13, 157) s2 a0 <|
        cI (rec 190 [va_rf a0, .int x97] s2) fun x99 M98 =>
        jn (fun (s100 : Mem) =>
          gtI (13, 157) s100 a0 38 fun x101 =>
          ptI (13, 157) s100 a0 38 (x101 + ((1 : Int32))) fun M102 =>
          j8 M102) fun j58 =>
        if x99 = ((10 : Int32)) then (
          j58 M98) else (
          gtI (13, 157) M98 a0 38 fun x103 =>
          vC (13, 157) M98 a0 <|
          cI (rec 190 [va_rf a0, .int x103] M98) fun x105 M104 =>
          if x105 = ((13 : Int32)) then (
            j58 M104) else (
            gtI (13, 157) M104 a0 38 fun x106 =>
            vC (13, 157) M104 a0 <|
            cI (rec 190 [va_rf a0, .int x106] M104) fun x108 M107 =>
            if x108 = ((32 : Int32)) then (
              j58 M107) else (
              j71 M107))))) 4294967296 M0) else (
    some (.null, M0))
def b191 (rec : Nat → List Value → Mem → XA) (as : List Value) (M0 : Mem) : XA := aR as fun a0 as => aZ as (c191 rec a0 M0)
set_option maxRecDepth 100000 in
set_option maxHeartbeats 4000000 in
theorem k191 {S : XS} {G : XG} {K : Nat × Nat} {l : Launch} {d : Nat} {rec : Nat → List Value → Mem → XA} (hs : XSnd l xmt rec d) (a0 : Option Nat) (M0 : Mem) : Xe S G K l (yX12_next, cX12_next, 3, none) d 0 [some (va_rf a0), none, none] [] M0 (c191 rec a0 M0) := by
  unfold c191
  refine x_aload_n dX12_next_0 rfl ?_
  refine gfX12_395 rfl dX12_next_1 (fun x1 => ?_)
  refine x_if_eq (tgt := 8) dX12_next_4 (by decide) (fun _ => ?_) (fun _ => ?_)
  · refine x_weak (by exact ⟨rfl, trivial⟩) (x_lp (σ := Mem) 8 (fun s2 => [some (va_rf a0), none, none]) (fun s2 => []) (fun s2 => s2) (fun s2 j8 hj8 => ?_) 4294967296 M0)
    · refine x_aload_n dX12_next_8 rfl ?_
      refine gfX12_398 rfl dX12_next_9 (fun x3 => ?_)
      refine x_aload_n dX12_next_12 rfl ?_
      refine gfX12_378 rfl dX12_next_13 (fun x4 => ?_)
      refine x_jn (σ := Mem) 71 (fun s5 => [some (va_rf a0), none, none]) (fun s5 => []) (fun s5 => s5) (fun s5 => ?_) (fun j71 hj71 => ?_)
      · refine x_aload_n dX12_next_71 rfl ?_
        refine x_aload_n dX12_next_72 rfl ?_
        refine gfX12_398 rfl dX12_next_73 (fun x6 => ?_)
        refine pfX12_405 rfl dX12_next_76 (fun M7 => ?_)
        refine x_aload_n dX12_next_79 rfl ?_
        refine x_aload_n dX12_next_80 rfl ?_
        refine gfX12_405 rfl dX12_next_81 (fun x8 => ?_)
        refine cmX12_401 rfl hs (Nat.le_of_ble_eq_true rfl) dX12_next_84 (fun x10 M9 => ?_)
        refine x_istore_n (lo' := [some (va_rf a0), some (.int x10), none]) dX12_next_87 (by decide) (xok_r rfl) rfl ?_
        refine x_aload_n dX12_next_88 rfl ?_
        refine gfX12_405 rfl dX12_next_89 (fun x11 => ?_)
        refine x_aload_n dX12_next_92 rfl ?_
        refine gfX12_378 rfl dX12_next_93 (fun x12 => ?_)
        refine x_jn (σ := Mem) 586 (fun s13 => [none, none, none]) (fun s13 => []) (fun s13 => s13) (fun s13 => ?_) (fun j586 hj586 => ?_)
        · exact x_vret rfl dX12_next_586
        refine x_icmp_ne (tgt := 107) dX12_next_96 (by decide) (fun _ => ?_) (fun _ => ?_)
        · refine x_aload_n dX12_next_99 rfl ?_
          refine x_iconst (v := 0) dX12_next_100 (by decide) ?_
          refine pfX12_408 rfl dX12_next_101 (fun M14 => ?_)
          refine x_goto (tgt := 586) dX12_next_104 (by decide) ?_
          exact x_weak (by exact trivial) (hj586 M14)
        · refine x_iload_n dX12_next_107 rfl ?_
          refine cmX12_411 rfl hs (Nat.le_of_ble_eq_true rfl) dX12_next_108 (fun x16 M15 => ?_)
          refine x_if_eq (tgt := 262) dX12_next_111 (by decide) (fun _ => ?_) (fun _ => ?_)
          · refine x_iload_n dX12_next_262 rfl ?_
            refine cmX12_419 rfl hs (Nat.le_of_ble_eq_true rfl) dX12_next_263 (fun x18 M17 => ?_)
            refine x_if_eq (tgt := 385) dX12_next_266 (by decide) (fun _ => ?_) (fun _ => ?_)
            · refine x_aload_n dX12_next_385 rfl ?_
              refine x_dup dX12_next_386 (xc1_r _) ?_
              refine gfX12_398 rfl dX12_next_387 (fun x19 => ?_)
              refine x_iconst (v := 1) dX12_next_390 (by decide) ?_
              refine x_iadd dX12_next_391 ?_
              refine pfX12_398 rfl dX12_next_392 (fun M20 => ?_)
              refine x_aload_n dX12_next_395 rfl ?_
              refine x_aload_n dX12_next_396 rfl ?_
              refine gfX12_398 rfl dX12_next_397 (fun x21 => ?_)
              refine cmX12_401 rfl hs (Nat.le_of_ble_eq_true rfl) dX12_next_400 (fun x23 M22 => ?_)
              refine x_bipush (v := 61) dX12_next_403 (by decide) ?_
              refine x_jn (σ := Int32) 413 (fun s24 => [some (va_rf a0), some (.int x10), none]) (fun s24 => [.int s24]) (fun s24 => M22) (fun s24 => ?_) (fun j413 hj413 => ?_)
              · refine x_istore_n (lo' := [some (va_rf a0), some (.int x10), some (.int s24)]) dX12_next_413 (by decide) rfl rfl ?_
                refine x_aload_n dX12_next_414 rfl ?_
                refine x_iload_n dX12_next_415 rfl ?_
                refine pfX12_408 rfl dX12_next_416 (fun M25 => ?_)
                refine x_iload_n dX12_next_419 rfl ?_
                refine x_bipush (v := 60) dX12_next_420 (by decide) ?_
                refine x_jn (σ := Unit) 485 (fun s26 => [some (va_rf a0), some (.int x10), none]) (fun s26 => []) (fun s26 => M25) (fun s26 => ?_) (fun j485 hj485 => ?_)
                · refine x_iload_n dX12_next_485 rfl ?_
                  refine x_bipush (v := 123) dX12_next_486 (by decide) ?_
                  refine x_icmp_eq (tgt := 586) dX12_next_488 (by decide) (fun _ => ?_) (fun _ => ?_)
                  · exact x_weak (by exact trivial) (hj586 M25)
                  · refine x_iload_n dX12_next_491 rfl ?_
                    refine x_bipush (v := 125) dX12_next_492 (by decide) ?_
                    refine x_icmp_eq (tgt := 586) dX12_next_494 (by decide) (fun _ => ?_) (fun _ => ?_)
                    · exact x_weak (by exact trivial) (hj586 M25)
                    · refine x_iload_n dX12_next_497 rfl ?_
                      refine x_bipush (v := 40) dX12_next_498 (by decide) ?_
                      refine x_icmp_eq (tgt := 586) dX12_next_500 (by decide) (fun _ => ?_) (fun _ => ?_)
                      · exact x_weak (by exact trivial) (hj586 M25)
                      · refine x_iload_n dX12_next_503 rfl ?_
                        refine x_bipush (v := 41) dX12_next_504 (by decide) ?_
                        refine x_icmp_eq (tgt := 586) dX12_next_506 (by decide) (fun _ => ?_) (fun _ => ?_)
                        · exact x_weak (by exact trivial) (hj586 M25)
                        · refine x_iload_n dX12_next_509 rfl ?_
                          refine x_bipush (v := 91) dX12_next_510 (by decide) ?_
                          refine x_icmp_eq (tgt := 586) dX12_next_512 (by decide) (fun _ => ?_) (fun _ => ?_)
                          · exact x_weak (by exact trivial) (hj586 M25)
                          · refine x_iload_n dX12_next_515 rfl ?_
                            refine x_bipush (v := 93) dX12_next_516 (by decide) ?_
                            refine x_icmp_eq (tgt := 586) dX12_next_518 (by decide) (fun _ => ?_) (fun _ => ?_)
                            · exact x_weak (by exact trivial) (hj586 M25)
                            · refine x_iload_n dX12_next_521 rfl ?_
                              refine x_bipush (v := 44) dX12_next_522 (by decide) ?_
                              refine x_icmp_eq (tgt := 586) dX12_next_524 (by decide) (fun _ => ?_) (fun _ => ?_)
                              · exact x_weak (by exact trivial) (hj586 M25)
                              · refine x_iload_n dX12_next_527 rfl ?_
                                refine x_bipush (v := 59) dX12_next_528 (by decide) ?_
                                refine x_icmp_eq (tgt := 586) dX12_next_530 (by decide) (fun _ => ?_) (fun _ => ?_)
                                · exact x_weak (by exact trivial) (hj586 M25)
                                · refine x_iload_n dX12_next_533 rfl ?_
                                  refine x_bipush (v := 46) dX12_next_534 (by decide) ?_
                                  refine x_icmp_eq (tgt := 586) dX12_next_536 (by decide) (fun _ => ?_) (fun _ => ?_)
                                  · exact x_weak (by exact trivial) (hj586 M25)
                                  · refine x_iload_n dX12_next_539 rfl ?_
                                    refine x_bipush (v := 61) dX12_next_540 (by decide) ?_
                                    refine x_icmp_eq (tgt := 586) dX12_next_542 (by decide) (fun _ => ?_) (fun _ => ?_)
                                    · exact x_weak (by exact trivial) (hj586 M25)
                                    · refine x_iload_n dX12_next_545 rfl ?_
                                      refine x_bipush (v := 43) dX12_next_546 (by decide) ?_
                                      refine x_icmp_eq (tgt := 586) dX12_next_548 (by decide) (fun _ => ?_) (fun _ => ?_)
                                      · exact x_weak (by exact trivial) (hj586 M25)
                                      · refine x_iload_n dX12_next_551 rfl ?_
                                        refine x_bipush (v := 45) dX12_next_552 (by decide) ?_
                                        refine x_icmp_eq (tgt := 586) dX12_next_554 (by decide) (fun _ => ?_) (fun _ => ?_)
                                        · exact x_weak (by exact trivial) (hj586 M25)
                                        · refine x_iload_n dX12_next_557 rfl ?_
                                          refine x_bipush (v := 42) dX12_next_558 (by decide) ?_
                                          refine x_icmp_eq (tgt := 586) dX12_next_560 (by decide) (fun _ => ?_) (fun _ => ?_)
                                          · exact x_weak (by exact trivial) (hj586 M25)
                                          · refine x_iload_n dX12_next_563 rfl ?_
                                            refine x_bipush (v := 47) dX12_next_564 (by decide) ?_
                                            refine x_icmp_eq (tgt := 586) dX12_next_566 (by decide) (fun _ => ?_) (fun _ => ?_)
                                            · exact x_weak (by exact trivial) (hj586 M25)
                                            · refine x_iload_n dX12_next_569 rfl ?_
                                              refine x_bipush (v := 37) dX12_next_570 (by decide) ?_
                                              refine x_icmp_eq (tgt := 586) dX12_next_572 (by decide) (fun _ => ?_) (fun _ => ?_)
                                              · exact x_weak (by exact trivial) (hj586 M25)
                                              · refine x_iload_n dX12_next_575 rfl ?_
                                                refine x_bipush (v := 60) dX12_next_576 (by decide) ?_
                                                refine x_icmp_eq (tgt := 586) dX12_next_578 (by decide) (fun _ => ?_) (fun _ => ?_)
                                                · exact x_weak (by exact trivial) (hj586 M25)
                                                · refine x_aload_n dX12_next_581 rfl ?_
                                                  refine x_iconst (v := -1) dX12_next_582 (by decide) ?_
                                                  refine pfX12_408 rfl dX12_next_583 (fun M27 => ?_)
                                                  exact x_weak (by exact trivial) (hj586 M27)
                refine x_jn (σ := Unit) 437 (fun s28 => [some (va_rf a0), some (.int x10), some (.int s24)]) (fun s28 => []) (fun s28 => M25) (fun s28 => ?_) (fun j437 hj437 => ?_)
                · refine x_iload_n dX12_next_437 rfl ?_
                  refine x_if_eq (tgt := 485) dX12_next_438 (by decide) (fun _ => ?_) (fun _ => ?_)
                  · exact x_weak (by exact ⟨rfl, ⟨rfl, trivial⟩⟩) (hj485 ())
                  · refine x_aload_n dX12_next_441 rfl ?_
                    refine x_dup dX12_next_442 (xc1_r _) ?_
                    refine gfX12_398 rfl dX12_next_443 (fun x29 => ?_)
                    refine x_iconst (v := 1) dX12_next_446 (by decide) ?_
                    refine x_iadd dX12_next_447 ?_
                    refine pfX12_398 rfl dX12_next_448 (fun M30 => ?_)
                    refine x_aload_n dX12_next_451 rfl ?_
                    refine x_iload_n dX12_next_452 rfl ?_
                    refine x_bipush (v := 60) dX12_next_453 (by decide) ?_
                    refine x_jn (σ := Int32) 479 (fun s31 => [none, none, none]) (fun s31 => [.int s31, va_rf a0]) (fun s31 => M30) (fun s31 => ?_) (fun j479 hj479 => ?_)
                    · refine pfX12_408 rfl dX12_next_479 (fun M32 => ?_)
                      refine x_goto (tgt := 586) dX12_next_482 (by decide) ?_
                      exact x_weak (by exact trivial) (hj586 M32)
                    refine x_icmp_ne (tgt := 464) dX12_next_455 (by decide) (fun _ => ?_) (fun _ => ?_)
                    · refine x_sipush (v := 300) dX12_next_458 (by decide) ?_
                      refine x_goto (tgt := 479) dX12_next_461 (by decide) ?_
                      exact x_weak (by exact trivial) (hj479 ((300 : Int32)))
                    · refine x_iload_n dX12_next_464 rfl ?_
                      refine x_bipush (v := 61) dX12_next_465 (by decide) ?_
                      refine x_icmp_ne (tgt := 476) dX12_next_467 (by decide) (fun _ => ?_) (fun _ => ?_)
                      · refine x_sipush (v := 301) dX12_next_470 (by decide) ?_
                        refine x_goto (tgt := 479) dX12_next_473 (by decide) ?_
                        exact x_weak (by exact trivial) (hj479 ((301 : Int32)))
                      · refine x_sipush (v := 302) dX12_next_476 (by decide) ?_
                        exact x_weak (by exact trivial) (hj479 ((302 : Int32)))
                refine x_icmp_eq (tgt := 437) dX12_next_422 (by decide) (fun _ => ?_) (fun _ => ?_)
                · exact x_weak (by exact ⟨rfl, ⟨rfl, ⟨rfl, trivial⟩⟩⟩) (hj437 ())
                · refine x_iload_n dX12_next_425 rfl ?_
                  refine x_bipush (v := 61) dX12_next_426 (by decide) ?_
                  refine x_icmp_eq (tgt := 437) dX12_next_428 (by decide) (fun _ => ?_) (fun _ => ?_)
                  · exact x_weak (by exact ⟨rfl, ⟨rfl, ⟨rfl, trivial⟩⟩⟩) (hj437 ())
                  · refine x_iload_n dX12_next_431 rfl ?_
                    refine x_bipush (v := 33) dX12_next_432 (by decide) ?_
                    refine x_icmp_ne (tgt := 485) dX12_next_434 (by decide) (fun _ => ?_) (fun _ => ?_)
                    · exact x_weak (by exact ⟨rfl, ⟨rfl, ⟨rfl, trivial⟩⟩⟩) (hj437 ())
                    · exact x_weak (by exact ⟨rfl, ⟨rfl, trivial⟩⟩) (hj485 ())
              refine x_icmp_ne (tgt := 412) dX12_next_405 (by decide) (fun _ => ?_) (fun _ => ?_)
              · refine x_iconst (v := 1) dX12_next_408 (by decide) ?_
                refine x_goto (tgt := 413) dX12_next_409 (by decide) ?_
                exact x_weak (by exact ⟨rfl, ⟨rfl, trivial⟩⟩) (hj413 ((1 : Int32)))
              · refine x_iconst (v := 0) dX12_next_412 (by decide) ?_
                exact x_weak (by exact ⟨rfl, ⟨rfl, trivial⟩⟩) (hj413 ((0 : Int32)))
            · refine x_aload_n dX12_next_269 rfl ?_
              refine x_iconst (v := 0) dX12_next_270 (by decide) ?_
              refine pfX12_422 rfl dX12_next_271 (fun M33 => ?_)
              refine x_weak (by exact ⟨rfl, trivial⟩) (x_lp (σ := Mem) 274 (fun s34 => [some (va_rf a0), none, none]) (fun s34 => []) (fun s34 => s34) (fun s34 j274 hj274 => ?_) 4294967296 M33)
              · refine x_aload_n dX12_next_274 rfl ?_
                refine x_aload_n dX12_next_275 rfl ?_
                refine gfX12_398 rfl dX12_next_276 (fun x35 => ?_)
                refine cmX12_401 rfl hs (Nat.le_of_ble_eq_true rfl) dX12_next_279 (fun x37 M36 => ?_)
                refine cmX12_419 rfl hs (Nat.le_of_ble_eq_true rfl) dX12_next_282 (fun x39 M38 => ?_)
                refine x_if_eq (tgt := 345) dX12_next_285 (by decide) (fun _ => ?_) (fun _ => ?_)
                · refine x_aload_n dX12_next_345 rfl ?_
                  refine x_aload_n dX12_next_346 rfl ?_
                  refine gfX12_398 rfl dX12_next_347 (fun x40 => ?_)
                  refine x_aload_n dX12_next_350 rfl ?_
                  refine gfX12_405 rfl dX12_next_351 (fun x41 => ?_)
                  refine x_isub dX12_next_354 ?_
                  refine x_bipush (v := 9) dX12_next_355 (by decide) ?_
                  refine x_jn (σ := Int32 × Mem) 379 (fun s42 => [none, none, none]) (fun s42 => [.int s42.1, va_rf a0]) (fun s42 => s42.2) (fun s42 => ?_) (fun j379 hj379 => ?_)
                  · refine pfX12_408 rfl dX12_next_379 (fun M43 => ?_)
                    refine x_goto (tgt := 586) dX12_next_382 (by decide) ?_
                    exact x_weak (by exact trivial) (hj586 M43)
                  refine x_jn (σ := Mem) 374 (fun s44 => [none, none, none]) (fun s44 => [va_rf a0]) (fun s44 => s44) (fun s44 => ?_) (fun j374 hj374 => ?_)
                  · refine x_iconst (v := -1) dX12_next_374 (by decide) ?_
                    refine x_goto (tgt := 379) dX12_next_375 (by decide) ?_
                    exact x_weak (by exact trivial) (hj379 ((-1 : Int32), s44))
                  refine x_icmp_gt (tgt := 374) dX12_next_357 (by decide) (fun _ => ?_) (fun _ => ?_)
                  · exact x_weak (by exact trivial) (hj374 M38)
                  · refine x_aload_n dX12_next_360 rfl ?_
                    refine x_aload_n dX12_next_361 rfl ?_
                    refine gfX12_398 rfl dX12_next_362 (fun x45 => ?_)
                    refine cmX12_401 rfl hs (Nat.le_of_ble_eq_true rfl) dX12_next_365 (fun x47 M46 => ?_)
                    refine cmX12_411 rfl hs (Nat.le_of_ble_eq_true rfl) dX12_next_368 (fun x49 M48 => ?_)
                    refine x_if_eq (tgt := 378) dX12_next_371 (by decide) (fun _ => ?_) (fun _ => ?_)
                    · refine x_iconst (v := 2) dX12_next_378 (by decide) ?_
                      exact x_weak (by exact trivial) (hj379 ((2 : Int32), M48))
                    · exact x_weak (by exact trivial) (hj374 M48)
                · refine x_aload_n dX12_next_288 rfl ?_
                  refine x_aload_n dX12_next_289 rfl ?_
                  refine gfX12_398 rfl dX12_next_290 (fun x50 => ?_)
                  refine x_aload_n dX12_next_293 rfl ?_
                  refine gfX12_405 rfl dX12_next_294 (fun x51 => ?_)
                  refine x_isub dX12_next_297 ?_
                  refine x_bipush (v := 9) dX12_next_298 (by decide) ?_
                  refine x_jn (σ := Int32 × Mem) 329 (fun s52 => [some (va_rf a0), none, none]) (fun s52 => [.int s52.1, va_rf a0]) (fun s52 => s52.2) (fun s52 => ?_) (fun j329 hj329 => ?_)
                  · refine pfX12_422 rfl dX12_next_329 (fun M53 => ?_)
                    refine x_aload_n dX12_next_332 rfl ?_
                    refine x_dup dX12_next_333 (xc1_r _) ?_
                    refine gfX12_398 rfl dX12_next_334 (fun x54 => ?_)
                    refine x_iconst (v := 1) dX12_next_337 (by decide) ?_
                    refine x_iadd dX12_next_338 ?_
                    refine pfX12_398 rfl dX12_next_339 (fun M55 => ?_)
                    refine x_goto (tgt := 274) dX12_next_342 (by decide) ?_
                    exact x_weak (by exact ⟨rfl, trivial⟩) (hj274 M55)
                  refine x_icmp_ge (tgt := 325) dX12_next_300 (by decide) (fun _ => ?_) (fun _ => ?_)
                  · refine x_aload_n dX12_next_325 rfl ?_
                    refine gfX12_422 rfl dX12_next_326 (fun x56 => ?_)
                    exact x_weak (by exact ⟨rfl, trivial⟩) (hj329 (x56, M38))
                  · refine x_bipush (v := 10) dX12_next_303 (by decide) ?_
                    refine x_aload_n dX12_next_305 rfl ?_
                    refine gfX12_422 rfl dX12_next_306 (fun x57 => ?_)
                    refine x_imul dX12_next_309 ?_
                    refine x_aload_n dX12_next_310 rfl ?_
                    refine x_aload_n dX12_next_311 rfl ?_
                    refine gfX12_398 rfl dX12_next_312 (fun x58 => ?_)
                    refine cmX12_401 rfl hs (Nat.le_of_ble_eq_true rfl) dX12_next_315 (fun x60 M59 => ?_)
                    refine x_iadd dX12_next_318 ?_
                    refine x_bipush (v := 48) dX12_next_319 (by decide) ?_
                    refine x_isub dX12_next_321 ?_
                    refine x_goto (tgt := 329) dX12_next_322 (by decide) ?_
                    exact x_weak (by exact ⟨rfl, trivial⟩) (hj329 (((((10 : Int32)) * x57) + x60) - ((48 : Int32)), M59))
          · refine x_aload_n dX12_next_114 rfl ?_
            refine x_lconst (v := 0) dX12_next_115 (by decide) ?_
            refine pfX12_415 rfl dX12_next_116 (fun M61 => ?_)
            refine x_weak (by exact ⟨rfl, trivial⟩) (x_lp (σ := Mem) 119 (fun s62 => [some (va_rf a0), none, none]) (fun s62 => []) (fun s62 => s62) (fun s62 j119 hj119 => ?_) 4294967296 M61)
            · refine x_aload_n dX12_next_119 rfl ?_
              refine x_aload_n dX12_next_120 rfl ?_
              refine gfX12_398 rfl dX12_next_121 (fun x63 => ?_)
              refine cmX12_401 rfl hs (Nat.le_of_ble_eq_true rfl) dX12_next_124 (fun x65 M64 => ?_)
              refine cmX12_411 rfl hs (Nat.le_of_ble_eq_true rfl) dX12_next_127 (fun x67 M66 => ?_)
              refine x_jn (σ := Mem) 147 (fun s68 => [some (va_rf a0), none, none]) (fun s68 => []) (fun s68 => s68) (fun s68 => ?_) (fun j147 hj147 => ?_)
              · refine x_aload_n dX12_next_147 rfl ?_
                refine x_aload_n dX12_next_148 rfl ?_
                refine gfX12_415 rfl dX12_next_149 (fun x69 => ?_)
                refine x_bipush (v := 8) dX12_next_152 (by decide) ?_
                refine x_lshl dX12_next_154 ?_
                refine x_aload_n dX12_next_155 rfl ?_
                refine x_aload_n dX12_next_156 rfl ?_
                refine gfX12_398 rfl dX12_next_157 (fun x70 => ?_)
                refine cmX12_401 rfl hs (Nat.le_of_ble_eq_true rfl) dX12_next_160 (fun x72 M71 => ?_)
                refine x_i2l dX12_next_163 ?_
                refine x_lor dX12_next_164 ?_
                refine pfX12_415 rfl dX12_next_165 (fun M73 => ?_)
                refine x_aload_n dX12_next_168 rfl ?_
                refine x_dup dX12_next_169 (xc1_r _) ?_
                refine gfX12_398 rfl dX12_next_170 (fun x74 => ?_)
                refine x_iconst (v := 1) dX12_next_173 (by decide) ?_
                refine x_iadd dX12_next_174 ?_
                refine pfX12_398 rfl dX12_next_175 (fun M75 => ?_)
                refine x_goto (tgt := 119) dX12_next_178 (by decide) ?_
                exact x_weak (by exact ⟨rfl, trivial⟩) (hj119 M75)
              refine x_if_ne (tgt := 147) dX12_next_130 (by decide) (fun _ => ?_) (fun _ => ?_)
              · refine x_aload_n dX12_next_133 rfl ?_
                refine x_aload_n dX12_next_134 rfl ?_
                refine gfX12_398 rfl dX12_next_135 (fun x76 => ?_)
                refine cmX12_401 rfl hs (Nat.le_of_ble_eq_true rfl) dX12_next_138 (fun x78 M77 => ?_)
                refine cmX12_419 rfl hs (Nat.le_of_ble_eq_true rfl) dX12_next_141 (fun x80 M79 => ?_)
                refine x_if_eq (tgt := 181) dX12_next_144 (by decide) (fun _ => ?_) (fun _ => ?_)
                · refine x_aload_n dX12_next_181 rfl ?_
                  refine x_aload_n dX12_next_182 rfl ?_
                  refine gfX12_398 rfl dX12_next_183 (fun x81 => ?_)
                  refine x_aload_n dX12_next_186 rfl ?_
                  refine gfX12_405 rfl dX12_next_187 (fun x82 => ?_)
                  refine x_isub dX12_next_190 ?_
                  refine x_bipush (v := 8) dX12_next_191 (by decide) ?_
                  refine x_jn (σ := Int32) 201 (fun s83 => [some (va_rf a0), none, none]) (fun s83 => [.int s83, va_rf a0]) (fun s83 => M79) (fun s83 => ?_) (fun j201 hj201 => ?_)
                  · refine pfX12_408 rfl dX12_next_201 (fun M84 => ?_)
                    refine x_iconst (v := 0) dX12_next_204 (by decide) ?_
                    refine x_istore_n (lo' := [some (va_rf a0), none, some (.int ((0 : Int32)))]) dX12_next_205 (by decide) rfl rfl ?_
                    refine x_weak (by exact ⟨rfl, ⟨rfl, trivial⟩⟩) (x_lp (σ := Int32 × Mem) 206 (fun s85 => [some (va_rf a0), none, some (.int s85.1)]) (fun s85 => []) (fun s85 => s85.2) (fun s85 j206 hj206 => ?_) 4294967296 ((0 : Int32), M84))
                    · refine x_iload_n dX12_next_206 rfl ?_
                      refine x_aload_n dX12_next_207 rfl ?_
                      refine gfX12_173 rfl dX12_next_208 (fun x86 => ?_)
                      refine x_alen dX12_next_211 (fun x87 => ?_)
                      refine x_jn (σ := Unit) 259 (fun s88 => [none, none, none]) (fun s88 => []) (fun s88 => s85.2) (fun s88 => ?_) (fun j259 hj259 => ?_)
                      · refine x_goto (tgt := 586) dX12_next_259 (by decide) ?_
                        exact x_weak (by exact trivial) (hj586 s85.2)
                      refine x_icmp_ge (tgt := 259) dX12_next_212 (by decide) (fun _ => ?_) (fun _ => ?_)
                      · exact x_weak (by exact trivial) (hj259 ())
                      · refine x_aload_n dX12_next_215 rfl ?_
                        refine gfX12_408 rfl dX12_next_216 (fun x89 => ?_)
                        refine x_iconst (v := 1) dX12_next_219 (by decide) ?_
                        refine x_icmp_ne (tgt := 259) dX12_next_220 (by decide) (fun _ => ?_) (fun _ => ?_)
                        · refine x_aload_n dX12_next_223 rfl ?_
                          refine x_aload_n dX12_next_224 rfl ?_
                          refine gfX12_173 rfl dX12_next_225 (fun x90 => ?_)
                          refine x_iload_n dX12_next_228 rfl ?_
                          refine x_lald dX12_next_229 (fun x91 => ?_)
                          refine x_aload_n dX12_next_230 rfl ?_
                          refine gfX12_415 rfl dX12_next_231 (fun x92 => ?_)
                          refine x_lcmp dX12_next_234 ?_
                          refine x_jn (σ := Int32) 250 (fun s93 => [some (va_rf a0), none, some (.int s85.1)]) (fun s93 => [.int s93, va_rf a0]) (fun s93 => s85.2) (fun s93 => ?_) (fun j250 hj250 => ?_)
                          · refine pfX12_408 rfl dX12_next_250 (fun M94 => ?_)
                            refine x_iincN (v := 1) (lo' := fun x95 => [some (va_rf a0), none, some (.int x95)]) (by decide) dX12_next_253 rfl (by decide) rfl (fun _ => rfl) (fun x95 => ?_)
                            refine x_goto (tgt := 206) dX12_next_256 (by decide) ?_
                            exact x_weak (by exact ⟨rfl, ⟨rfl, trivial⟩⟩) (hj206 (x95, M94))
                          refine x_if_ne (tgt := 246) dX12_next_235 (by decide) (fun _ => ?_) (fun _ => ?_)
                          · refine x_sipush (v := 401) dX12_next_238 (by decide) ?_
                            refine x_iload_n dX12_next_241 rfl ?_
                            refine x_iadd dX12_next_242 ?_
                            refine x_goto (tgt := 250) dX12_next_243 (by decide) ?_
                            exact x_weak (by exact ⟨rfl, ⟨rfl, trivial⟩⟩) (hj250 (((401 : Int32)) + s85.1))
                          · refine x_aload_n dX12_next_246 rfl ?_
                            refine gfX12_408 rfl dX12_next_247 (fun x96 => ?_)
                            exact x_weak (by exact ⟨rfl, ⟨rfl, trivial⟩⟩) (hj250 x96)
                        · exact x_weak (by exact trivial) (hj259 ())
                  refine x_icmp_le (tgt := 200) dX12_next_193 (by decide) (fun _ => ?_) (fun _ => ?_)
                  · refine x_iconst (v := 1) dX12_next_200 (by decide) ?_
                    exact x_weak (by exact ⟨rfl, trivial⟩) (hj201 ((1 : Int32)))
                  · refine x_iconst (v := -1) dX12_next_196 (by decide) ?_
                    refine x_goto (tgt := 201) dX12_next_197 (by decide) ?_
                    exact x_weak (by exact ⟨rfl, trivial⟩) (hj201 ((-1 : Int32)))
                · exact x_weak (by exact ⟨rfl, trivial⟩) (hj147 M79)
              · exact x_weak (by exact ⟨rfl, trivial⟩) (hj147 M66)
      refine x_icmp_ge (tgt := 71) dX12_next_16 (by decide) (fun _ => ?_) (fun _ => ?_)
      · exact x_weak (by exact ⟨rfl, trivial⟩) (hj71 s2)
      · refine x_aload_n dX12_next_19 rfl ?_
        refine x_aload_n dX12_next_20 rfl ?_
        refine gfX12_398 rfl dX12_next_21 (fun x97 => ?_)
        refine cmX12_401 rfl hs (Nat.le_of_ble_eq_true rfl) dX12_next_24 (fun x99 M98 => ?_)
        refine x_bipush (v := 10) dX12_next_27 (by decide) ?_
        refine x_jn (σ := Mem) 58 (fun s100 => [some (va_rf a0), none, none]) (fun s100 => []) (fun s100 => s100) (fun s100 => ?_) (fun j58 hj58 => ?_)
        · refine x_aload_n dX12_next_58 rfl ?_
          refine x_dup dX12_next_59 (xc1_r _) ?_
          refine gfX12_398 rfl dX12_next_60 (fun x101 => ?_)
          refine x_iconst (v := 1) dX12_next_63 (by decide) ?_
          refine x_iadd dX12_next_64 ?_
          refine pfX12_398 rfl dX12_next_65 (fun M102 => ?_)
          refine x_goto (tgt := 8) dX12_next_68 (by decide) ?_
          exact x_weak (by exact ⟨rfl, trivial⟩) (hj8 M102)
        refine x_icmp_eq (tgt := 58) dX12_next_29 (by decide) (fun _ => ?_) (fun _ => ?_)
        · exact x_weak (by exact ⟨rfl, trivial⟩) (hj58 M98)
        · refine x_aload_n dX12_next_32 rfl ?_
          refine x_aload_n dX12_next_33 rfl ?_
          refine gfX12_398 rfl dX12_next_34 (fun x103 => ?_)
          refine cmX12_401 rfl hs (Nat.le_of_ble_eq_true rfl) dX12_next_37 (fun x105 M104 => ?_)
          refine x_bipush (v := 13) dX12_next_40 (by decide) ?_
          refine x_icmp_eq (tgt := 58) dX12_next_42 (by decide) (fun _ => ?_) (fun _ => ?_)
          · exact x_weak (by exact ⟨rfl, trivial⟩) (hj58 M104)
          · refine x_aload_n dX12_next_45 rfl ?_
            refine x_aload_n dX12_next_46 rfl ?_
            refine gfX12_398 rfl dX12_next_47 (fun x106 => ?_)
            refine cmX12_401 rfl hs (Nat.le_of_ble_eq_true rfl) dX12_next_50 (fun x108 M107 => ?_)
            refine x_bipush (v := 32) dX12_next_53 (by decide) ?_
            refine x_icmp_ne (tgt := 71) dX12_next_55 (by decide) (fun _ => ?_) (fun _ => ?_)
            · exact x_weak (by exact ⟨rfl, trivial⟩) (hj58 M107)
            · exact x_weak (by exact ⟨rfl, trivial⟩) (hj71 M107)
  · exact x_vret rfl dX12_next_7
theorem s191 {l : Launch} {d : Nat} {rec : Nat → List Value → Mem → XA} (hS : Nonempty XS) (hs : XSnd l xmt rec d) : Snd1 l 191 (b191 rec) d := by
  intro as M r M' h0
  unfold b191 at h0
  obtain ⟨a0, l1, e1, h1⟩ := aR_inv h0
  obtain ⟨ez, h⟩ := aZ_inv h1
  subst ez
  subst e1
  exact xmet (M := M) (as := [va_rf a0]) (lo := [some (va_rf a0)]) 191 xq191 xm191 (by rw [xargs_rf, xargs_nil]; exact ⟨rfl, trivial⟩) (by rw [xargs_rf, xargs_nil]; exact Nat.le_of_ble_eq_true rfl) (fun S G K => x_weak (by exact ⟨rfl, trivial⟩) (k191 hs a0 M)) h hS
set_option maxRecDepth 100000 in
def c192 (rec : Nat → List Value → Mem → XA) (a0 : Option Nat) (a1 : Int32) (a2 : Int32) (M0 : Mem) : XA :=
  gtI (13, 157) M0 a0 41 fun x1 =>
  jn (fun (s2 : Mem) =>
    some (.null, s2)) fun j17 =>
  if x1 = 0 then (
    ptI (13, 157) M0 a0 41 a1 fun M3 =>
    ptI (13, 157) M3 a0 42 a2 fun M4 =>
    j17 M4) else (
    j17 M0)
def b192 (rec : Nat → List Value → Mem → XA) (as : List Value) (M0 : Mem) : XA := aR as fun a0 as => aI as fun a1 as => aI as fun a2 as => aZ as (c192 rec a0 a1 a2 M0)
set_option maxRecDepth 100000 in
set_option maxHeartbeats 4000000 in
theorem k192 {S : XS} {G : XG} {K : Nat × Nat} {l : Launch} {d : Nat} {rec : Nat → List Value → Mem → XA} (hs : XSnd l xmt rec d) (a0 : Option Nat) (a1 : Int32) (a2 : Int32) (M0 : Mem) : Xe S G K l (yX12_fail, cX12_fail, 3, none) d 0 [some (va_rf a0), some (.int a1), some (.int a2)] [] M0 (c192 rec a0 a1 a2 M0) := by
  unfold c192
  refine x_aload_n dX12_fail_0 rfl ?_
  refine gfX12_395 rfl dX12_fail_1 (fun x1 => ?_)
  refine x_jn (σ := Mem) 17 (fun s2 => [none, none, none]) (fun s2 => []) (fun s2 => s2) (fun s2 => ?_) (fun j17 hj17 => ?_)
  · exact x_vret rfl dX12_fail_17
  refine x_if_ne (tgt := 17) dX12_fail_4 (by decide) (fun _ => ?_) (fun _ => ?_)
  · refine x_aload_n dX12_fail_7 rfl ?_
    refine x_iload_n dX12_fail_8 rfl ?_
    refine pfX12_395 rfl dX12_fail_9 (fun M3 => ?_)
    refine x_aload_n dX12_fail_12 rfl ?_
    refine x_iload_n dX12_fail_13 rfl ?_
    refine pfX12_425 rfl dX12_fail_14 (fun M4 => ?_)
    exact x_weak (by exact trivial) (hj17 M4)
  · exact x_weak (by exact trivial) (hj17 M0)
theorem s192 {l : Launch} {d : Nat} {rec : Nat → List Value → Mem → XA} (hS : Nonempty XS) (hs : XSnd l xmt rec d) : Snd1 l 192 (b192 rec) d := by
  intro as M r M' h0
  unfold b192 at h0
  obtain ⟨a0, l1, e1, h1⟩ := aR_inv h0
  obtain ⟨a1, l2, e2, h2⟩ := aI_inv h1
  obtain ⟨a2, l3, e3, h3⟩ := aI_inv h2
  obtain ⟨ez, h⟩ := aZ_inv h3
  subst ez
  subst e3
  subst e2
  subst e1
  exact xmet (M := M) (as := [va_rf a0, .int a1, .int a2]) (lo := [some (va_rf a0), some (.int a1), some (.int a2)]) 192 xq192 xm192 (by rw [xargs_rf, xargs_i, xargs_i, xargs_nil]; exact ⟨rfl, ⟨rfl, ⟨rfl, trivial⟩⟩⟩) (by rw [xargs_rf, xargs_i, xargs_i, xargs_nil]; exact Nat.le_of_ble_eq_true rfl) (fun S G K => x_weak (by exact ⟨rfl, ⟨rfl, ⟨rfl, trivial⟩⟩⟩) (k192 hs a0 a1 a2 M)) h hS
set_option maxRecDepth 100000 in
def c193 (rec : Nat → List Value → Mem → XA) (a0 : Option Nat) (a1 : Int32) (M0 : Mem) : XA :=
  jn (fun (s1 : Mem) =>
    gtI (13, 157) s1 a0 41 fun x2 =>
    jn (fun (s3 : Int32) =>
      rtZ s3 s1) fun j45 =>
    if x2 = 0 then (
      j45 ((1 : Int32))) else (
      j45 ((0 : Int32)))) fun j33 =>
  jn (fun (s4 : Unit) =>
    gtI (13, 157) M0 a0 36 fun x5 =>
    jn (fun (s6 : Int32) =>
      gtI (13, 157) M0 a0 37 fun x7 =>
      vC (13, 157) M0 a0 <|
      cV (rec 192 [va_rf a0, .int s6, .int x7] M0) fun M8 =>
      j33 M8) fun j26 =>
    if x5 = ((-1 : Int32)) then (
      j26 ((1 : Int32))) else (
      j26 ((2 : Int32)))) fun j12 =>
  if a1 = 0 then (
    j12 ()) else (
    gtI (13, 157) M0 a0 36 fun x9 =>
    if x9 = ((-1 : Int32)) then (
      j12 ()) else (
      j33 M0))
def b193 (rec : Nat → List Value → Mem → XA) (as : List Value) (M0 : Mem) : XA := aR as fun a0 as => aI as fun a1 as => aZ as (c193 rec a0 a1 M0)
set_option maxRecDepth 100000 in
set_option maxHeartbeats 4000000 in
theorem k193 {S : XS} {G : XG} {K : Nat × Nat} {l : Launch} {d : Nat} {rec : Nat → List Value → Mem → XA} (hs : XSnd l xmt rec d) (a0 : Option Nat) (a1 : Int32) (M0 : Mem) : Xe S G K l (yX12_must, cX12_must, 2, some .boolean) d 0 [some (va_rf a0), some (.int a1)] [] M0 (c193 rec a0 a1 M0) := by
  unfold c193
  refine x_iload_n dX12_must_0 rfl ?_
  refine x_jn (σ := Mem) 33 (fun s1 => [some (va_rf a0), none]) (fun s1 => []) (fun s1 => s1) (fun s1 => ?_) (fun j33 hj33 => ?_)
  · refine x_aload_n dX12_must_33 rfl ?_
    refine gfX12_395 rfl dX12_must_34 (fun x2 => ?_)
    refine x_jn (σ := Int32) 45 (fun s3 => [none, none]) (fun s3 => [.int s3]) (fun s3 => s1) (fun s3 => ?_) (fun j45 hj45 => ?_)
    · exact x_zret rfl dX12_must_45
    refine x_if_ne (tgt := 44) dX12_must_37 (by decide) (fun _ => ?_) (fun _ => ?_)
    · refine x_iconst (v := 1) dX12_must_40 (by decide) ?_
      refine x_goto (tgt := 45) dX12_must_41 (by decide) ?_
      exact x_weak (by exact trivial) (hj45 ((1 : Int32)))
    · refine x_iconst (v := 0) dX12_must_44 (by decide) ?_
      exact x_weak (by exact trivial) (hj45 ((0 : Int32)))
  refine x_jn (σ := Unit) 12 (fun s4 => [some (va_rf a0), none]) (fun s4 => []) (fun s4 => M0) (fun s4 => ?_) (fun j12 hj12 => ?_)
  · refine x_aload_n dX12_must_12 rfl ?_
    refine x_aload_n dX12_must_13 rfl ?_
    refine gfX12_408 rfl dX12_must_14 (fun x5 => ?_)
    refine x_iconst (v := -1) dX12_must_17 (by decide) ?_
    refine x_jn (σ := Int32) 26 (fun s6 => [some (va_rf a0), none]) (fun s6 => [.int s6, va_rf a0]) (fun s6 => M0) (fun s6 => ?_) (fun j26 hj26 => ?_)
    · refine x_aload_n dX12_must_26 rfl ?_
      refine gfX12_405 rfl dX12_must_27 (fun x7 => ?_)
      refine cmX12_428 rfl hs (Nat.le_of_ble_eq_true rfl) dX12_must_30 (fun M8 => ?_)
      exact x_weak (by exact ⟨rfl, trivial⟩) (hj33 M8)
    refine x_icmp_ne (tgt := 25) dX12_must_18 (by decide) (fun _ => ?_) (fun _ => ?_)
    · refine x_iconst (v := 1) dX12_must_21 (by decide) ?_
      refine x_goto (tgt := 26) dX12_must_22 (by decide) ?_
      exact x_weak (by exact ⟨rfl, trivial⟩) (hj26 ((1 : Int32)))
    · refine x_iconst (v := 2) dX12_must_25 (by decide) ?_
      exact x_weak (by exact ⟨rfl, trivial⟩) (hj26 ((2 : Int32)))
  refine x_if_eq (tgt := 12) dX12_must_1 (by decide) (fun _ => ?_) (fun _ => ?_)
  · exact x_weak (by exact ⟨rfl, trivial⟩) (hj12 ())
  · refine x_aload_n dX12_must_4 rfl ?_
    refine gfX12_408 rfl dX12_must_5 (fun x9 => ?_)
    refine x_iconst (v := -1) dX12_must_8 (by decide) ?_
    refine x_icmp_ne (tgt := 33) dX12_must_9 (by decide) (fun _ => ?_) (fun _ => ?_)
    · exact x_weak (by exact ⟨rfl, trivial⟩) (hj12 ())
    · exact x_weak (by exact ⟨rfl, trivial⟩) (hj33 M0)
theorem s193 {l : Launch} {d : Nat} {rec : Nat → List Value → Mem → XA} (hS : Nonempty XS) (hs : XSnd l xmt rec d) : Snd1 l 193 (b193 rec) d := by
  intro as M r M' h0
  unfold b193 at h0
  obtain ⟨a0, l1, e1, h1⟩ := aR_inv h0
  obtain ⟨a1, l2, e2, h2⟩ := aI_inv h1
  obtain ⟨ez, h⟩ := aZ_inv h2
  subst ez
  subst e2
  subst e1
  exact xmet (M := M) (as := [va_rf a0, .int a1]) (lo := [some (va_rf a0), some (.int a1)]) 193 xq193 xm193 (by rw [xargs_rf, xargs_i, xargs_nil]; exact ⟨rfl, ⟨rfl, trivial⟩⟩) (by rw [xargs_rf, xargs_i, xargs_nil]; exact Nat.le_of_ble_eq_true rfl) (fun S G K => x_weak (by exact ⟨rfl, ⟨rfl, trivial⟩⟩) (k193 hs a0 a1 M)) h hS
set_option maxRecDepth 100000 in
def c194 (rec : Nat → List Value → Mem → XA) (a0 : Option Nat) (a1 : Int32) (a2 : Int32) (M0 : Mem) : XA :=
  jn (fun (s1 : Mem) =>
    gtI (13, 157) s1 a0 41 fun x2 =>
    jn (fun (s3 : Int32) =>
      rtZ s3 s1) fun j25 =>
    if x2 = 0 then (
      j25 ((1 : Int32))) else (
      j25 ((0 : Int32)))) fun j13 =>
  if a1 = 0 then (
    gtI (13, 157) M0 a0 37 fun x4 =>
    vC (13, 157) M0 a0 <|
    cV (rec 192 [va_rf a0, .int a2, .int x4] M0) fun M5 =>
    j13 M5) else (
    j13 M0)
def b194 (rec : Nat → List Value → Mem → XA) (as : List Value) (M0 : Mem) : XA := aR as fun a0 as => aI as fun a1 as => aI as fun a2 as => aZ as (c194 rec a0 a1 a2 M0)
set_option maxRecDepth 100000 in
set_option maxHeartbeats 4000000 in
theorem k194 {S : XS} {G : XG} {K : Nat × Nat} {l : Launch} {d : Nat} {rec : Nat → List Value → Mem → XA} (hs : XSnd l xmt rec d) (a0 : Option Nat) (a1 : Int32) (a2 : Int32) (M0 : Mem) : Xe S G K l (yX12_want, cX12_want, 3, some .boolean) d 0 [some (va_rf a0), some (.int a1), some (.int a2)] [] M0 (c194 rec a0 a1 a2 M0) := by
  unfold c194
  refine x_iload_n dX12_want_0 rfl ?_
  refine x_jn (σ := Mem) 13 (fun s1 => [some (va_rf a0), none, none]) (fun s1 => []) (fun s1 => s1) (fun s1 => ?_) (fun j13 hj13 => ?_)
  · refine x_aload_n dX12_want_13 rfl ?_
    refine gfX12_395 rfl dX12_want_14 (fun x2 => ?_)
    refine x_jn (σ := Int32) 25 (fun s3 => [none, none, none]) (fun s3 => [.int s3]) (fun s3 => s1) (fun s3 => ?_) (fun j25 hj25 => ?_)
    · exact x_zret rfl dX12_want_25
    refine x_if_ne (tgt := 24) dX12_want_17 (by decide) (fun _ => ?_) (fun _ => ?_)
    · refine x_iconst (v := 1) dX12_want_20 (by decide) ?_
      refine x_goto (tgt := 25) dX12_want_21 (by decide) ?_
      exact x_weak (by exact trivial) (hj25 ((1 : Int32)))
    · refine x_iconst (v := 0) dX12_want_24 (by decide) ?_
      exact x_weak (by exact trivial) (hj25 ((0 : Int32)))
  refine x_if_ne (tgt := 13) dX12_want_1 (by decide) (fun _ => ?_) (fun _ => ?_)
  · refine x_aload_n dX12_want_4 rfl ?_
    refine x_iload_n dX12_want_5 rfl ?_
    refine x_aload_n dX12_want_6 rfl ?_
    refine gfX12_405 rfl dX12_want_7 (fun x4 => ?_)
    refine cmX12_428 rfl hs (Nat.le_of_ble_eq_true rfl) dX12_want_10 (fun M5 => ?_)
    exact x_weak (by exact ⟨rfl, trivial⟩) (hj13 M5)
  · exact x_weak (by exact ⟨rfl, trivial⟩) (hj13 M0)
theorem s194 {l : Launch} {d : Nat} {rec : Nat → List Value → Mem → XA} (hS : Nonempty XS) (hs : XSnd l xmt rec d) : Snd1 l 194 (b194 rec) d := by
  intro as M r M' h0
  unfold b194 at h0
  obtain ⟨a0, l1, e1, h1⟩ := aR_inv h0
  obtain ⟨a1, l2, e2, h2⟩ := aI_inv h1
  obtain ⟨a2, l3, e3, h3⟩ := aI_inv h2
  obtain ⟨ez, h⟩ := aZ_inv h3
  subst ez
  subst e3
  subst e2
  subst e1
  exact xmet (M := M) (as := [va_rf a0, .int a1, .int a2]) (lo := [some (va_rf a0), some (.int a1), some (.int a2)]) 194 xq194 xm194 (by rw [xargs_rf, xargs_i, xargs_i, xargs_nil]; exact ⟨rfl, ⟨rfl, ⟨rfl, trivial⟩⟩⟩) (by rw [xargs_rf, xargs_i, xargs_i, xargs_nil]; exact Nat.le_of_ble_eq_true rfl) (fun S G K => x_weak (by exact ⟨rfl, ⟨rfl, ⟨rfl, trivial⟩⟩⟩) (k194 hs a0 a1 a2 M)) h hS
set_option maxRecDepth 100000 in
def c195 (rec : Nat → List Value → Mem → XA) (a0 : Option Nat) (a1 : Int32) (M0 : Mem) : XA :=
  gtI (13, 157) M0 a0 41 fun x1 =>
  jn (fun (s2 : Mem) =>
    gtI (13, 157) s2 a0 41 fun x3 =>
    jn (fun (s4 : Int32) =>
      rtZ s4 s2) fun j43 =>
    if x3 = 0 then (
      j43 ((1 : Int32))) else (
      j43 ((0 : Int32)))) fun j31 =>
  if x1 = 0 then (
    gtI (13, 157) M0 a0 36 fun x5 =>
    jn (fun (s6 : Int32) =>
      vC (13, 157) M0 a0 <|
      cI (rec 193 [va_rf a0, .int s6] M0) fun x8 M7 =>
      if x8 = 0 then (
        j31 M7) else (
        vC (13, 157) M7 a0 <|
        cV (rec 191 [va_rf a0] M7) fun M9 =>
        j31 M9)) fun j21 =>
    if x5 = a1 then (
      j21 ((1 : Int32))) else (
      j21 ((0 : Int32)))) else (
    j31 M0)
def b195 (rec : Nat → List Value → Mem → XA) (as : List Value) (M0 : Mem) : XA := aR as fun a0 as => aI as fun a1 as => aZ as (c195 rec a0 a1 M0)
set_option maxRecDepth 100000 in
set_option maxHeartbeats 4000000 in
theorem k195 {S : XS} {G : XG} {K : Nat × Nat} {l : Launch} {d : Nat} {rec : Nat → List Value → Mem → XA} (hs : XSnd l xmt rec d) (a0 : Option Nat) (a1 : Int32) (M0 : Mem) : Xe S G K l (yX12_need, cX12_need, 2, some .boolean) d 0 [some (va_rf a0), some (.int a1)] [] M0 (c195 rec a0 a1 M0) := by
  unfold c195
  refine x_aload_n dX12_need_0 rfl ?_
  refine gfX12_395 rfl dX12_need_1 (fun x1 => ?_)
  refine x_jn (σ := Mem) 31 (fun s2 => [some (va_rf a0), none]) (fun s2 => []) (fun s2 => s2) (fun s2 => ?_) (fun j31 hj31 => ?_)
  · refine x_aload_n dX12_need_31 rfl ?_
    refine gfX12_395 rfl dX12_need_32 (fun x3 => ?_)
    refine x_jn (σ := Int32) 43 (fun s4 => [none, none]) (fun s4 => [.int s4]) (fun s4 => s2) (fun s4 => ?_) (fun j43 hj43 => ?_)
    · exact x_zret rfl dX12_need_43
    refine x_if_ne (tgt := 42) dX12_need_35 (by decide) (fun _ => ?_) (fun _ => ?_)
    · refine x_iconst (v := 1) dX12_need_38 (by decide) ?_
      refine x_goto (tgt := 43) dX12_need_39 (by decide) ?_
      exact x_weak (by exact trivial) (hj43 ((1 : Int32)))
    · refine x_iconst (v := 0) dX12_need_42 (by decide) ?_
      exact x_weak (by exact trivial) (hj43 ((0 : Int32)))
  refine x_if_ne (tgt := 31) dX12_need_4 (by decide) (fun _ => ?_) (fun _ => ?_)
  · refine x_aload_n dX12_need_7 rfl ?_
    refine x_aload_n dX12_need_8 rfl ?_
    refine gfX12_408 rfl dX12_need_9 (fun x5 => ?_)
    refine x_iload_n dX12_need_12 rfl ?_
    refine x_jn (σ := Int32) 21 (fun s6 => [some (va_rf a0), none]) (fun s6 => [.int s6, va_rf a0]) (fun s6 => M0) (fun s6 => ?_) (fun j21 hj21 => ?_)
    · refine cmX12_432 rfl hs (Nat.le_of_ble_eq_true rfl) dX12_need_21 (fun x8 M7 => ?_)
      refine x_if_eq (tgt := 31) dX12_need_24 (by decide) (fun _ => ?_) (fun _ => ?_)
      · exact x_weak (by exact ⟨rfl, trivial⟩) (hj31 M7)
      · refine x_aload_n dX12_need_27 rfl ?_
        refine cmX12_436 rfl hs (Nat.le_of_ble_eq_true rfl) dX12_need_28 (fun M9 => ?_)
        exact x_weak (by exact ⟨rfl, trivial⟩) (hj31 M9)
    refine x_icmp_ne (tgt := 20) dX12_need_13 (by decide) (fun _ => ?_) (fun _ => ?_)
    · refine x_iconst (v := 1) dX12_need_16 (by decide) ?_
      refine x_goto (tgt := 21) dX12_need_17 (by decide) ?_
      exact x_weak (by exact ⟨rfl, trivial⟩) (hj21 ((1 : Int32)))
    · refine x_iconst (v := 0) dX12_need_20 (by decide) ?_
      exact x_weak (by exact ⟨rfl, trivial⟩) (hj21 ((0 : Int32)))
  · exact x_weak (by exact ⟨rfl, trivial⟩) (hj31 M0)
theorem s195 {l : Launch} {d : Nat} {rec : Nat → List Value → Mem → XA} (hS : Nonempty XS) (hs : XSnd l xmt rec d) : Snd1 l 195 (b195 rec) d := by
  intro as M r M' h0
  unfold b195 at h0
  obtain ⟨a0, l1, e1, h1⟩ := aR_inv h0
  obtain ⟨a1, l2, e2, h2⟩ := aI_inv h1
  obtain ⟨ez, h⟩ := aZ_inv h2
  subst ez
  subst e2
  subst e1
  exact xmet (M := M) (as := [va_rf a0, .int a1]) (lo := [some (va_rf a0), some (.int a1)]) 195 xq195 xm195 (by rw [xargs_rf, xargs_i, xargs_nil]; exact ⟨rfl, ⟨rfl, trivial⟩⟩) (by rw [xargs_rf, xargs_i, xargs_nil]; exact Nat.le_of_ble_eq_true rfl) (fun S G K => x_weak (by exact ⟨rfl, ⟨rfl, trivial⟩⟩) (k195 hs a0 a1 M)) h hS
set_option maxRecDepth 100000 in
def c196 (rec : Nat → List Value → Mem → XA) (a0 : Option Nat) (a1 : Int32) (a2 : Int32) (M0 : Mem) : XA :=
  gtP (13, 157) M0 a0 44 fun x1 =>
  gtI (13, 157) M0 a0 43 fun x2 =>
  asI 101 M0 x1 x2 (a1.toInt8.toInt32.toInt8.toInt32) fun M3 =>
  gtP (13, 157) M3 a0 45 fun x4 =>
  gtI (13, 157) M3 a0 43 fun x5 =>
  asI 100 M3 x4 x5 a2 fun M6 =>
  gtP (13, 157) M6 a0 46 fun x7 =>
  gtI (13, 157) M6 a0 43 fun x8 =>
  gtI (13, 157) M6 a0 49 fun x9 =>
  asI 101 M6 x7 x8 (x9.toInt8.toInt32.toInt8.toInt32) fun M10 =>
  gtP (13, 157) M10 a0 47 fun x11 =>
  gtI (13, 157) M10 a0 43 fun x12 =>
  gtI (13, 157) M10 a0 48 fun x13 =>
  asI 102 M10 x11 x12 ((znar x13)) fun M14 =>
  gtI (13, 157) M14 a0 43 fun x15 =>
  ptI (13, 157) M14 a0 43 (x15 + ((1 : Int32))) fun M16 =>
  gtI (13, 157) M16 a0 43 fun x17 =>
  some (.int (x17 - ((1 : Int32))), M16)
def b196 (rec : Nat → List Value → Mem → XA) (as : List Value) (M0 : Mem) : XA := aR as fun a0 as => aI as fun a1 as => aI as fun a2 as => aZ as (c196 rec a0 a1 a2 M0)
set_option maxRecDepth 100000 in
set_option maxHeartbeats 4000000 in
theorem k196 {S : XS} {G : XG} {K : Nat × Nat} {l : Launch} {d : Nat} {rec : Nat → List Value → Mem → XA} (hs : XSnd l xmt rec d) (a0 : Option Nat) (a1 : Int32) (a2 : Int32) (M0 : Mem) : Xe S G K l (yX12_emit, cX12_emit, 3, some .int) d 0 [some (va_rf a0), some (.int a1), some (.int a2)] [] M0 (c196 rec a0 a1 a2 M0) := by
  unfold c196
  refine x_aload_n dX12_emit_0 rfl ?_
  refine gfX12_176 rfl dX12_emit_1 (fun x1 => ?_)
  refine x_aload_n dX12_emit_4 rfl ?_
  refine gfX12_439 rfl dX12_emit_5 (fun x2 => ?_)
  refine x_iload_n dX12_emit_8 rfl ?_
  refine x_i2b dX12_emit_9 ?_
  refine x_bast dX12_emit_10 (fun M3 => ?_)
  refine x_aload_n dX12_emit_11 rfl ?_
  refine gfX12_179 rfl dX12_emit_12 (fun x4 => ?_)
  refine x_aload_n dX12_emit_15 rfl ?_
  refine gfX12_439 rfl dX12_emit_16 (fun x5 => ?_)
  refine x_iload_n dX12_emit_19 rfl ?_
  refine x_iast dX12_emit_20 (fun M6 => ?_)
  refine x_aload_n dX12_emit_21 rfl ?_
  refine gfX12_182 rfl dX12_emit_22 (fun x7 => ?_)
  refine x_aload_n dX12_emit_25 rfl ?_
  refine gfX12_439 rfl dX12_emit_26 (fun x8 => ?_)
  refine x_aload_n dX12_emit_29 rfl ?_
  refine gfX12_442 rfl dX12_emit_30 (fun x9 => ?_)
  refine x_i2b dX12_emit_33 ?_
  refine x_bast dX12_emit_34 (fun M10 => ?_)
  refine x_aload_n dX12_emit_35 rfl ?_
  refine gfX12_185 rfl dX12_emit_36 (fun x11 => ?_)
  refine x_aload_n dX12_emit_39 rfl ?_
  refine gfX12_439 rfl dX12_emit_40 (fun x12 => ?_)
  refine x_aload_n dX12_emit_43 rfl ?_
  refine gfX12_444 rfl dX12_emit_44 (fun x13 => ?_)
  refine x_zast dX12_emit_47 (fun M14 => ?_)
  refine x_aload_n dX12_emit_48 rfl ?_
  refine x_dup dX12_emit_49 (xc1_r _) ?_
  refine gfX12_439 rfl dX12_emit_50 (fun x15 => ?_)
  refine x_iconst (v := 1) dX12_emit_53 (by decide) ?_
  refine x_iadd dX12_emit_54 ?_
  refine pfX12_439 rfl dX12_emit_55 (fun M16 => ?_)
  refine x_aload_n dX12_emit_58 rfl ?_
  refine gfX12_439 rfl dX12_emit_59 (fun x17 => ?_)
  refine x_iconst (v := 1) dX12_emit_62 (by decide) ?_
  refine x_isub dX12_emit_63 ?_
  exact x_iret rfl dX12_emit_64
theorem s196 {l : Launch} {d : Nat} {rec : Nat → List Value → Mem → XA} (hS : Nonempty XS) (hs : XSnd l xmt rec d) : Snd1 l 196 (b196 rec) d := by
  intro as M r M' h0
  unfold b196 at h0
  obtain ⟨a0, l1, e1, h1⟩ := aR_inv h0
  obtain ⟨a1, l2, e2, h2⟩ := aI_inv h1
  obtain ⟨a2, l3, e3, h3⟩ := aI_inv h2
  obtain ⟨ez, h⟩ := aZ_inv h3
  subst ez
  subst e3
  subst e2
  subst e1
  exact xmet (M := M) (as := [va_rf a0, .int a1, .int a2]) (lo := [some (va_rf a0), some (.int a1), some (.int a2)]) 196 xq196 xm196 (by rw [xargs_rf, xargs_i, xargs_i, xargs_nil]; exact ⟨rfl, ⟨rfl, ⟨rfl, trivial⟩⟩⟩) (by rw [xargs_rf, xargs_i, xargs_i, xargs_nil]; exact Nat.le_of_ble_eq_true rfl) (fun S G K => x_weak (by exact ⟨rfl, ⟨rfl, ⟨rfl, trivial⟩⟩⟩) (k196 hs a0 a1 a2 M)) h hS
set_option maxRecDepth 100000 in
def c197 (rec : Nat → List Value → Mem → XA) (a0 : Option Nat) (a1 : Int64) (M0 : Mem) : XA :=
  lp (fun (s1 : Int32) j2 =>
    gtI (13, 157) M0 a0 51 fun x2 =>
    if x2 ≤ s1 then (
      some (.int ((-1 : Int32)), M0)) else (
      gtP (13, 157) M0 a0 52 fun x3 =>
      alL M0 x3 s1 fun x4 =>
      if (lg_cmp x4 a1) = 0 then (
        some (.int s1, M0)) else (
        lt (s1 + (1 : Int32)) fun (x5 : Int32) =>
        j2 x5))) 4294967296 ((0 : Int32))
def b197 (rec : Nat → List Value → Mem → XA) (as : List Value) (M0 : Mem) : XA := aR as fun a0 as => aL as fun a1 as => aZ as (c197 rec a0 a1 M0)
set_option maxRecDepth 100000 in
set_option maxHeartbeats 4000000 in
theorem k197 {S : XS} {G : XG} {K : Nat × Nat} {l : Launch} {d : Nat} {rec : Nat → List Value → Mem → XA} (hs : XSnd l xmt rec d) (a0 : Option Nat) (a1 : Int64) (M0 : Mem) : Xe S G K l (yX12_seenAs, cX12_seenAs, 4, some .int) d 0 [some (va_rf a0), some (.long a1), none, none] [] M0 (c197 rec a0 a1 M0) := by
  unfold c197
  refine x_iconst (v := 0) dX12_seenAs_0 (by decide) ?_
  refine x_istore_n (lo' := [some (va_rf a0), some (.long a1), none, some (.int ((0 : Int32)))]) dX12_seenAs_1 (by decide) rfl rfl ?_
  refine x_weak (by exact ⟨rfl, ⟨rfl, ⟨rfl, trivial⟩⟩⟩) (x_lp (σ := Int32) 2 (fun s1 => [some (va_rf a0), some (.long a1), none, some (.int s1)]) (fun s1 => []) (fun s1 => M0) (fun s1 j2 hj2 => ?_) 4294967296 ((0 : Int32)))
  · refine x_iload_n dX12_seenAs_2 rfl ?_
    refine x_aload_n dX12_seenAs_3 rfl ?_
    refine gfX12_448 rfl dX12_seenAs_4 (fun x2 => ?_)
    refine x_icmp_ge (tgt := 29) dX12_seenAs_7 (by decide) (fun _ => ?_) (fun _ => ?_)
    · refine x_iconst (v := -1) dX12_seenAs_29 (by decide) ?_
      exact x_iret rfl dX12_seenAs_30
    · refine x_aload_n dX12_seenAs_10 rfl ?_
      refine gfX12_188 rfl dX12_seenAs_11 (fun x3 => ?_)
      refine x_iload_n dX12_seenAs_14 rfl ?_
      refine x_lald dX12_seenAs_15 (fun x4 => ?_)
      refine x_lload_n dX12_seenAs_16 rfl ?_
      refine x_lcmp dX12_seenAs_17 ?_
      refine x_if_ne (tgt := 23) dX12_seenAs_18 (by decide) (fun _ => ?_) (fun _ => ?_)
      · refine x_iload_n dX12_seenAs_21 rfl ?_
        exact x_iret rfl dX12_seenAs_22
      · refine x_iincN (v := 1) (lo' := fun x5 => [some (va_rf a0), some (.long a1), none, some (.int x5)]) (by decide) dX12_seenAs_23 rfl (by decide) rfl (fun _ => rfl) (fun x5 => ?_)
        refine x_goto (tgt := 2) dX12_seenAs_26 (by decide) ?_
        exact x_weak (by exact ⟨rfl, ⟨rfl, ⟨rfl, trivial⟩⟩⟩) (hj2 x5)
theorem s197 {l : Launch} {d : Nat} {rec : Nat → List Value → Mem → XA} (hS : Nonempty XS) (hs : XSnd l xmt rec d) : Snd1 l 197 (b197 rec) d := by
  intro as M r M' h0
  unfold b197 at h0
  obtain ⟨a0, l1, e1, h1⟩ := aR_inv h0
  obtain ⟨a1, l2, e2, h2⟩ := aL_inv h1
  obtain ⟨ez, h⟩ := aZ_inv h2
  subst ez
  subst e2
  subst e1
  exact xmet (M := M) (as := [va_rf a0, .long a1]) (lo := [some (va_rf a0), some (.long a1)]) 197 xq197 xm197 (by rw [xargs_rf, xargs_l, xargs_nil]; exact ⟨rfl, ⟨rfl, trivial⟩⟩) (by rw [xargs_rf, xargs_l, xargs_nil]; exact Nat.le_of_ble_eq_true rfl) (fun S G K => x_weak (by exact ⟨rfl, ⟨rfl, trivial⟩⟩) (k197 hs a0 a1 M)) h hS
set_option maxRecDepth 100000 in
def c198 (rec : Nat → List Value → Mem → XA) (a0 : Option Nat) (M0 : Mem) : XA :=
  gtI (13, 157) M0 a0 41 fun x1 =>
  jn (fun (s2 : Int32 × Mem) =>
    rtZ s2.1 s2.2) fun j79 =>
  jn (fun (s3 : Mem) =>
    j79 ((0 : Int32), s3)) fun j78 =>
  if x1 = 0 then (
    gtI (13, 157) M0 a0 36 fun x4 =>
    jn (fun (s5 : Int32) =>
      vC (13, 157) M0 a0 <|
      cI (rec 193 [va_rf a0, .int s5] M0) fun x7 M6 =>
      if x7 = 0 then (
        j78 M6) else (
        gtL (13, 157) M6 a0 39 fun x8 =>
        vC (13, 157) M6 a0 <|
        cI (rec 197 [va_rf a0, .long x8] M6) fun x10 M9 =>
        jn (fun (s11 : Int32) =>
          vC (13, 157) M9 a0 <|
          cI (rec 194 [va_rf a0, .int s11, .int ((3 : Int32))] M9) fun x13 M12 =>
          if x13 = 0 then (
            j78 M12) else (
            gtI (13, 157) M12 a0 51 fun x14 =>
            jn (fun (s15 : Int32) =>
              vC (13, 157) M12 a0 <|
              cI (rec 194 [va_rf a0, .int s15, .int ((6 : Int32))] M12) fun x17 M16 =>
              if x17 = 0 then (
                j78 M16) else (
                j79 ((1 : Int32), M16))) fun j66 =>
            if ((10 : Int32)) ≤ x14 then (
              j66 ((0 : Int32))) else (
              j66 ((1 : Int32))))) fun j44 =>
        if 0 ≤ x10 then (
          j44 ((0 : Int32))) else (
          j44 ((1 : Int32))))) fun j21 =>
    if x4 = ((1 : Int32)) then (
      j21 ((1 : Int32))) else (
      j21 ((0 : Int32)))) else (
    j78 M0)
def b198 (rec : Nat → List Value → Mem → XA) (as : List Value) (M0 : Mem) : XA := aR as fun a0 as => aZ as (c198 rec a0 M0)
set_option maxRecDepth 100000 in
set_option maxHeartbeats 4000000 in
theorem k198 {S : XS} {G : XG} {K : Nat × Nat} {l : Launch} {d : Nat} {rec : Nat → List Value → Mem → XA} (hs : XSnd l xmt rec d) (a0 : Option Nat) (M0 : Mem) : Xe S G K l (yX12_mayBeSeen, cX12_mayBeSeen, 1, some .boolean) d 0 [some (va_rf a0)] [] M0 (c198 rec a0 M0) := by
  unfold c198
  refine x_aload_n dX12_mayBeSeen_0 rfl ?_
  refine gfX12_395 rfl dX12_mayBeSeen_1 (fun x1 => ?_)
  refine x_jn (σ := Int32 × Mem) 79 (fun s2 => [none]) (fun s2 => [.int s2.1]) (fun s2 => s2.2) (fun s2 => ?_) (fun j79 hj79 => ?_)
  · exact x_zret rfl dX12_mayBeSeen_79
  refine x_jn (σ := Mem) 78 (fun s3 => [none]) (fun s3 => []) (fun s3 => s3) (fun s3 => ?_) (fun j78 hj78 => ?_)
  · refine x_iconst (v := 0) dX12_mayBeSeen_78 (by decide) ?_
    exact x_weak (by exact trivial) (hj79 ((0 : Int32), s3))
  refine x_if_ne (tgt := 78) dX12_mayBeSeen_4 (by decide) (fun _ => ?_) (fun _ => ?_)
  · refine x_aload_n dX12_mayBeSeen_7 rfl ?_
    refine x_aload_n dX12_mayBeSeen_8 rfl ?_
    refine gfX12_408 rfl dX12_mayBeSeen_9 (fun x4 => ?_)
    refine x_iconst (v := 1) dX12_mayBeSeen_12 (by decide) ?_
    refine x_jn (σ := Int32) 21 (fun s5 => [some (va_rf a0)]) (fun s5 => [.int s5, va_rf a0]) (fun s5 => M0) (fun s5 => ?_) (fun j21 hj21 => ?_)
    · refine cmX12_432 rfl hs (Nat.le_of_ble_eq_true rfl) dX12_mayBeSeen_21 (fun x7 M6 => ?_)
      refine x_if_eq (tgt := 78) dX12_mayBeSeen_24 (by decide) (fun _ => ?_) (fun _ => ?_)
      · exact x_weak (by exact trivial) (hj78 M6)
      · refine x_aload_n dX12_mayBeSeen_27 rfl ?_
        refine x_aload_n dX12_mayBeSeen_28 rfl ?_
        refine x_aload_n dX12_mayBeSeen_29 rfl ?_
        refine gfX12_415 rfl dX12_mayBeSeen_30 (fun x8 => ?_)
        refine cmX12_451 rfl hs (Nat.le_of_ble_eq_true rfl) dX12_mayBeSeen_33 (fun x10 M9 => ?_)
        refine x_jn (σ := Int32) 44 (fun s11 => [some (va_rf a0)]) (fun s11 => [.int s11, va_rf a0]) (fun s11 => M9) (fun s11 => ?_) (fun j44 hj44 => ?_)
        · refine x_iconst (v := 3) dX12_mayBeSeen_44 (by decide) ?_
          refine cmX12_455 rfl hs (Nat.le_of_ble_eq_true rfl) dX12_mayBeSeen_45 (fun x13 M12 => ?_)
          refine x_if_eq (tgt := 78) dX12_mayBeSeen_48 (by decide) (fun _ => ?_) (fun _ => ?_)
          · exact x_weak (by exact trivial) (hj78 M12)
          · refine x_aload_n dX12_mayBeSeen_51 rfl ?_
            refine x_aload_n dX12_mayBeSeen_52 rfl ?_
            refine gfX12_448 rfl dX12_mayBeSeen_53 (fun x14 => ?_)
            refine x_bipush (v := 10) dX12_mayBeSeen_56 (by decide) ?_
            refine x_jn (σ := Int32) 66 (fun s15 => [none]) (fun s15 => [.int s15, va_rf a0]) (fun s15 => M12) (fun s15 => ?_) (fun j66 hj66 => ?_)
            · refine x_bipush (v := 6) dX12_mayBeSeen_66 (by decide) ?_
              refine cmX12_455 rfl hs (Nat.le_of_ble_eq_true rfl) dX12_mayBeSeen_68 (fun x17 M16 => ?_)
              refine x_if_eq (tgt := 78) dX12_mayBeSeen_71 (by decide) (fun _ => ?_) (fun _ => ?_)
              · exact x_weak (by exact trivial) (hj78 M16)
              · refine x_iconst (v := 1) dX12_mayBeSeen_74 (by decide) ?_
                refine x_goto (tgt := 79) dX12_mayBeSeen_75 (by decide) ?_
                exact x_weak (by exact trivial) (hj79 ((1 : Int32), M16))
            refine x_icmp_ge (tgt := 65) dX12_mayBeSeen_58 (by decide) (fun _ => ?_) (fun _ => ?_)
            · refine x_iconst (v := 0) dX12_mayBeSeen_65 (by decide) ?_
              exact x_weak (by exact trivial) (hj66 ((0 : Int32)))
            · refine x_iconst (v := 1) dX12_mayBeSeen_61 (by decide) ?_
              refine x_goto (tgt := 66) dX12_mayBeSeen_62 (by decide) ?_
              exact x_weak (by exact trivial) (hj66 ((1 : Int32)))
        refine x_if_ge (tgt := 43) dX12_mayBeSeen_36 (by decide) (fun _ => ?_) (fun _ => ?_)
        · refine x_iconst (v := 0) dX12_mayBeSeen_43 (by decide) ?_
          exact x_weak (by exact ⟨rfl, trivial⟩) (hj44 ((0 : Int32)))
        · refine x_iconst (v := 1) dX12_mayBeSeen_39 (by decide) ?_
          refine x_goto (tgt := 44) dX12_mayBeSeen_40 (by decide) ?_
          exact x_weak (by exact ⟨rfl, trivial⟩) (hj44 ((1 : Int32)))
    refine x_icmp_ne (tgt := 20) dX12_mayBeSeen_13 (by decide) (fun _ => ?_) (fun _ => ?_)
    · refine x_iconst (v := 1) dX12_mayBeSeen_16 (by decide) ?_
      refine x_goto (tgt := 21) dX12_mayBeSeen_17 (by decide) ?_
      exact x_weak (by exact ⟨rfl, trivial⟩) (hj21 ((1 : Int32)))
    · refine x_iconst (v := 0) dX12_mayBeSeen_20 (by decide) ?_
      exact x_weak (by exact ⟨rfl, trivial⟩) (hj21 ((0 : Int32)))
  · exact x_weak (by exact trivial) (hj78 M0)
theorem s198 {l : Launch} {d : Nat} {rec : Nat → List Value → Mem → XA} (hS : Nonempty XS) (hs : XSnd l xmt rec d) : Snd1 l 198 (b198 rec) d := by
  intro as M r M' h0
  unfold b198 at h0
  obtain ⟨a0, l1, e1, h1⟩ := aR_inv h0
  obtain ⟨ez, h⟩ := aZ_inv h1
  subst ez
  subst e1
  exact xmet (M := M) (as := [va_rf a0]) (lo := [some (va_rf a0)]) 198 xq198 xm198 (by rw [xargs_rf, xargs_nil]; exact ⟨rfl, trivial⟩) (by rw [xargs_rf, xargs_nil]; exact Nat.le_of_ble_eq_true rfl) (fun S G K => x_weak (by exact ⟨rfl, trivial⟩) (k198 hs a0 M)) h hS
set_option maxRecDepth 100000 in
def c199 (rec : Nat → List Value → Mem → XA) (a0 : Option Nat) (a1 : Int64) (M0 : Mem) : XA :=
  gtI (13, 157) M0 a0 41 fun x1 =>
  jn (fun (s2 : Mem) =>
    some (.null, s2)) fun j27 =>
  if x1 = 0 then (
    gtP (13, 157) M0 a0 52 fun x3 =>
    gtI (13, 157) M0 a0 51 fun x4 =>
    asL M0 x3 x4 a1 fun M5 =>
    gtI (13, 157) M5 a0 51 fun x6 =>
    ptI (13, 157) M5 a0 51 (x6 + ((1 : Int32))) fun M7 =>
    j27 M7) else (
    j27 M0)
def b199 (rec : Nat → List Value → Mem → XA) (as : List Value) (M0 : Mem) : XA := aR as fun a0 as => aL as fun a1 as => aZ as (c199 rec a0 a1 M0)
set_option maxRecDepth 100000 in
set_option maxHeartbeats 4000000 in
theorem k199 {S : XS} {G : XG} {K : Nat × Nat} {l : Launch} {d : Nat} {rec : Nat → List Value → Mem → XA} (hs : XSnd l xmt rec d) (a0 : Option Nat) (a1 : Int64) (M0 : Mem) : Xe S G K l (yX12_see, cX12_see, 3, none) d 0 [some (va_rf a0), some (.long a1), none] [] M0 (c199 rec a0 a1 M0) := by
  unfold c199
  refine x_aload_n dX12_see_0 rfl ?_
  refine gfX12_395 rfl dX12_see_1 (fun x1 => ?_)
  refine x_jn (σ := Mem) 27 (fun s2 => [none, none, none]) (fun s2 => []) (fun s2 => s2) (fun s2 => ?_) (fun j27 hj27 => ?_)
  · exact x_vret rfl dX12_see_27
  refine x_if_ne (tgt := 27) dX12_see_4 (by decide) (fun _ => ?_) (fun _ => ?_)
  · refine x_aload_n dX12_see_7 rfl ?_
    refine gfX12_188 rfl dX12_see_8 (fun x3 => ?_)
    refine x_aload_n dX12_see_11 rfl ?_
    refine gfX12_448 rfl dX12_see_12 (fun x4 => ?_)
    refine x_lload_n dX12_see_15 rfl ?_
    refine x_last dX12_see_16 (fun M5 => ?_)
    refine x_aload_n dX12_see_17 rfl ?_
    refine x_dup dX12_see_18 (xc1_r _) ?_
    refine gfX12_448 rfl dX12_see_19 (fun x6 => ?_)
    refine x_iconst (v := 1) dX12_see_22 (by decide) ?_
    refine x_iadd dX12_see_23 ?_
    refine pfX12_448 rfl dX12_see_24 (fun M7 => ?_)
    exact x_weak (by exact trivial) (hj27 M7)
  · exact x_weak (by exact trivial) (hj27 M0)
theorem s199 {l : Launch} {d : Nat} {rec : Nat → List Value → Mem → XA} (hS : Nonempty XS) (hs : XSnd l xmt rec d) : Snd1 l 199 (b199 rec) d := by
  intro as M r M' h0
  unfold b199 at h0
  obtain ⟨a0, l1, e1, h1⟩ := aR_inv h0
  obtain ⟨a1, l2, e2, h2⟩ := aL_inv h1
  obtain ⟨ez, h⟩ := aZ_inv h2
  subst ez
  subst e2
  subst e1
  exact xmet (M := M) (as := [va_rf a0, .long a1]) (lo := [some (va_rf a0), some (.long a1)]) 199 xq199 xm199 (by rw [xargs_rf, xargs_l, xargs_nil]; exact ⟨rfl, ⟨rfl, trivial⟩⟩) (by rw [xargs_rf, xargs_l, xargs_nil]; exact Nat.le_of_ble_eq_true rfl) (fun S G K => x_weak (by exact ⟨rfl, ⟨rfl, trivial⟩⟩) (k199 hs a0 a1 M)) h hS
set_option maxRecDepth 100000 in
def c200 (rec : Nat → List Value → Mem → XA) (a0 : Option Nat) (M0 : Mem) : XA :=
  gtI (13, 157) M0 a0 50 fun x1 =>
  ptI (13, 157) M0 a0 50 (x1 + ((1 : Int32))) fun M2 =>
  gtI (13, 157) M2 a0 50 fun x3 =>
  jn (fun (s4 : Int32) =>
    vC (13, 157) M2 a0 <|
    cI (rec 194 [va_rf a0, .int s4, .int ((6 : Int32))] M2) fun x6 M5 =>
    rtZ x6 M5) fun j25 =>
  if ((20 : Int32)) < x3 then (
    j25 ((0 : Int32))) else (
    j25 ((1 : Int32)))
def b200 (rec : Nat → List Value → Mem → XA) (as : List Value) (M0 : Mem) : XA := aR as fun a0 as => aZ as (c200 rec a0 M0)
set_option maxRecDepth 100000 in
set_option maxHeartbeats 4000000 in
theorem k200 {S : XS} {G : XG} {K : Nat × Nat} {l : Launch} {d : Nat} {rec : Nat → List Value → Mem → XA} (hs : XSnd l xmt rec d) (a0 : Option Nat) (M0 : Mem) : Xe S G K l (yX12_opens, cX12_opens, 1, some .boolean) d 0 [some (va_rf a0)] [] M0 (c200 rec a0 M0) := by
  unfold c200
  refine x_aload_n dX12_opens_0 rfl ?_
  refine x_dup dX12_opens_1 (xc1_r _) ?_
  refine gfX12_459 rfl dX12_opens_2 (fun x1 => ?_)
  refine x_iconst (v := 1) dX12_opens_5 (by decide) ?_
  refine x_iadd dX12_opens_6 ?_
  refine pfX12_459 rfl dX12_opens_7 (fun M2 => ?_)
  refine x_aload_n dX12_opens_10 rfl ?_
  refine x_aload_n dX12_opens_11 rfl ?_
  refine gfX12_459 rfl dX12_opens_12 (fun x3 => ?_)
  refine x_bipush (v := 20) dX12_opens_15 (by decide) ?_
  refine x_jn (σ := Int32) 25 (fun s4 => [none]) (fun s4 => [.int s4, va_rf a0]) (fun s4 => M2) (fun s4 => ?_) (fun j25 hj25 => ?_)
  · refine x_bipush (v := 6) dX12_opens_25 (by decide) ?_
    refine cmX12_455 rfl hs (Nat.le_of_ble_eq_true rfl) dX12_opens_27 (fun x6 M5 => ?_)
    exact x_zret rfl dX12_opens_30
  refine x_icmp_gt (tgt := 24) dX12_opens_17 (by decide) (fun _ => ?_) (fun _ => ?_)
  · refine x_iconst (v := 0) dX12_opens_24 (by decide) ?_
    exact x_weak (by exact trivial) (hj25 ((0 : Int32)))
  · refine x_iconst (v := 1) dX12_opens_20 (by decide) ?_
    refine x_goto (tgt := 25) dX12_opens_21 (by decide) ?_
    exact x_weak (by exact trivial) (hj25 ((1 : Int32)))
theorem s200 {l : Launch} {d : Nat} {rec : Nat → List Value → Mem → XA} (hS : Nonempty XS) (hs : XSnd l xmt rec d) : Snd1 l 200 (b200 rec) d := by
  intro as M r M' h0
  unfold b200 at h0
  obtain ⟨a0, l1, e1, h1⟩ := aR_inv h0
  obtain ⟨ez, h⟩ := aZ_inv h1
  subst ez
  subst e1
  exact xmet (M := M) (as := [va_rf a0]) (lo := [some (va_rf a0)]) 200 xq200 xm200 (by rw [xargs_rf, xargs_nil]; exact ⟨rfl, trivial⟩) (by rw [xargs_rf, xargs_nil]; exact Nat.le_of_ble_eq_true rfl) (fun S G K => x_weak (by exact ⟨rfl, trivial⟩) (k200 hs a0 M)) h hS
set_option maxRecDepth 100000 in
def c201 (rec : Nat → List Value → Mem → XA) (a0 : Option Nat) (M0 : Mem) : XA :=
  gtI (13, 157) M0 a0 53 fun x1 =>
  gtI (13, 157) M0 a0 53 fun x2 =>
  ptI (13, 157) M0 a0 53 (x2 + ((1 : Int32))) fun M3 =>
  gtP (13, 157) M3 a0 56 fun x4 =>
  asL M3 x4 x1 ((0 : Int64)) fun M5 =>
  gtP (13, 157) M5 a0 58 fun x6 =>
  gtL (13, 157) M5 a0 39 fun x7 =>
  asL M5 x6 x1 x7 fun M8 =>
  gtP (13, 157) M8 a0 59 fun x9 =>
  gtI (13, 157) M8 a0 37 fun x10 =>
  asI 100 M8 x9 x1 x10 fun M11 =>
  gtP (13, 157) M11 a0 61 fun x12 =>
  gtI (13, 157) M11 a0 49 fun x13 =>
  asI 100 M11 x12 x1 x13 fun M14 =>
  vC (13, 157) M14 a0 <|
  cV (rec 191 [va_rf a0] M14) fun M15 =>
  gtI (13, 157) M15 a0 41 fun x16 =>
  jn (fun (s17 : Mem) =>
    some (.int x1, s17)) fun j144 =>
  if x16 = 0 then (
    gtI (13, 157) M15 a0 36 fun x18 =>
    if x18 = ((46 : Int32)) then (
      vC (13, 157) M15 a0 <|
      cV (rec 191 [va_rf a0] M15) fun M19 =>
      gtI (13, 157) M19 a0 36 fun x20 =>
      jn (fun (s21 : Int32) =>
        vC (13, 157) M19 a0 <|
        cI (rec 193 [va_rf a0, .int s21] M19) fun x23 M22 =>
        if x23 = 0 then (
          j144 M22) else (
          gtP (13, 157) M22 a0 56 fun x24 =>
          gtP (13, 157) M22 a0 58 fun x25 =>
          alL M22 x25 x1 fun x26 =>
          asL M22 x24 x1 x26 fun M27 =>
          gtP (13, 157) M27 a0 57 fun x28 =>
          gtP (13, 157) M27 a0 59 fun x29 =>
          alI 100 M27 x29 x1 fun x30 =>
          asI 100 M27 x28 x1 x30 fun M31 =>
          gtP (13, 157) M31 a0 58 fun x32 =>
          gtL (13, 157) M31 a0 39 fun x33 =>
          asL M31 x32 x1 x33 fun M34 =>
          gtP (13, 157) M34 a0 59 fun x35 =>
          gtI (13, 157) M34 a0 37 fun x36 =>
          asI 100 M34 x35 x1 x36 fun M37 =>
          vC (13, 157) M37 a0 <|
          cV (rec 191 [va_rf a0] M37) fun M38 =>
          j144 M38)) fun j90 =>
      if x20 = ((1 : Int32)) then (
        j90 ((1 : Int32))) else (
        j90 ((0 : Int32)))) else (
      j144 M15)) else (
    j144 M15)
def b201 (rec : Nat → List Value → Mem → XA) (as : List Value) (M0 : Mem) : XA := aR as fun a0 as => aZ as (c201 rec a0 M0)
set_option maxRecDepth 100000 in
set_option maxHeartbeats 4000000 in
theorem k201 {S : XS} {G : XG} {K : Nat × Nat} {l : Launch} {d : Nat} {rec : Nat → List Value → Mem → XA} (hs : XSnd l xmt rec d) (a0 : Option Nat) (M0 : Mem) : Xe S G K l (yX12_use, cX12_use, 2, some .int) d 0 [some (va_rf a0), none] [] M0 (c201 rec a0 M0) := by
  unfold c201
  refine x_aload_n dX12_use_0 rfl ?_
  refine gfX12_462 rfl dX12_use_1 (fun x1 => ?_)
  refine x_istore_n (lo' := [some (va_rf a0), some (.int x1)]) dX12_use_4 (by decide) (xok_r rfl) rfl ?_
  refine x_aload_n dX12_use_5 rfl ?_
  refine x_dup dX12_use_6 (xc1_r _) ?_
  refine gfX12_462 rfl dX12_use_7 (fun x2 => ?_)
  refine x_iconst (v := 1) dX12_use_10 (by decide) ?_
  refine x_iadd dX12_use_11 ?_
  refine pfX12_462 rfl dX12_use_12 (fun M3 => ?_)
  refine x_aload_n dX12_use_15 rfl ?_
  refine gfX12_197 rfl dX12_use_16 (fun x4 => ?_)
  refine x_iload_n dX12_use_19 rfl ?_
  refine x_lconst (v := 0) dX12_use_20 (by decide) ?_
  refine x_last dX12_use_21 (fun M5 => ?_)
  refine x_aload_n dX12_use_22 rfl ?_
  refine gfX12_203 rfl dX12_use_23 (fun x6 => ?_)
  refine x_iload_n dX12_use_26 rfl ?_
  refine x_aload_n dX12_use_27 rfl ?_
  refine gfX12_415 rfl dX12_use_28 (fun x7 => ?_)
  refine x_last dX12_use_31 (fun M8 => ?_)
  refine x_aload_n dX12_use_32 rfl ?_
  refine gfX12_206 rfl dX12_use_33 (fun x9 => ?_)
  refine x_iload_n dX12_use_36 rfl ?_
  refine x_aload_n dX12_use_37 rfl ?_
  refine gfX12_405 rfl dX12_use_38 (fun x10 => ?_)
  refine x_iast dX12_use_41 (fun M11 => ?_)
  refine x_aload_n dX12_use_42 rfl ?_
  refine gfX12_212 rfl dX12_use_43 (fun x12 => ?_)
  refine x_iload_n dX12_use_46 rfl ?_
  refine x_aload_n dX12_use_47 rfl ?_
  refine gfX12_442 rfl dX12_use_48 (fun x13 => ?_)
  refine x_iast dX12_use_51 (fun M14 => ?_)
  refine x_aload_n dX12_use_52 rfl ?_
  refine cmX12_436 rfl hs (Nat.le_of_ble_eq_true rfl) dX12_use_53 (fun M15 => ?_)
  refine x_aload_n dX12_use_56 rfl ?_
  refine gfX12_395 rfl dX12_use_57 (fun x16 => ?_)
  refine x_jn (σ := Mem) 144 (fun s17 => [none, some (.int x1)]) (fun s17 => []) (fun s17 => s17) (fun s17 => ?_) (fun j144 hj144 => ?_)
  · refine x_iload_n dX12_use_144 rfl ?_
    exact x_iret rfl dX12_use_145
  refine x_if_ne (tgt := 144) dX12_use_60 (by decide) (fun _ => ?_) (fun _ => ?_)
  · refine x_aload_n dX12_use_63 rfl ?_
    refine gfX12_408 rfl dX12_use_64 (fun x18 => ?_)
    refine x_bipush (v := 46) dX12_use_67 (by decide) ?_
    refine x_icmp_ne (tgt := 144) dX12_use_69 (by decide) (fun _ => ?_) (fun _ => ?_)
    · refine x_aload_n dX12_use_72 rfl ?_
      refine cmX12_436 rfl hs (Nat.le_of_ble_eq_true rfl) dX12_use_73 (fun M19 => ?_)
      refine x_aload_n dX12_use_76 rfl ?_
      refine x_aload_n dX12_use_77 rfl ?_
      refine gfX12_408 rfl dX12_use_78 (fun x20 => ?_)
      refine x_iconst (v := 1) dX12_use_81 (by decide) ?_
      refine x_jn (σ := Int32) 90 (fun s21 => [some (va_rf a0), some (.int x1)]) (fun s21 => [.int s21, va_rf a0]) (fun s21 => M19) (fun s21 => ?_) (fun j90 hj90 => ?_)
      · refine cmX12_432 rfl hs (Nat.le_of_ble_eq_true rfl) dX12_use_90 (fun x23 M22 => ?_)
        refine x_if_eq (tgt := 144) dX12_use_93 (by decide) (fun _ => ?_) (fun _ => ?_)
        · exact x_weak (by exact ⟨rfl, trivial⟩) (hj144 M22)
        · refine x_aload_n dX12_use_96 rfl ?_
          refine gfX12_197 rfl dX12_use_97 (fun x24 => ?_)
          refine x_iload_n dX12_use_100 rfl ?_
          refine x_aload_n dX12_use_101 rfl ?_
          refine gfX12_203 rfl dX12_use_102 (fun x25 => ?_)
          refine x_iload_n dX12_use_105 rfl ?_
          refine x_lald dX12_use_106 (fun x26 => ?_)
          refine x_last dX12_use_107 (fun M27 => ?_)
          refine x_aload_n dX12_use_108 rfl ?_
          refine gfX12_200 rfl dX12_use_109 (fun x28 => ?_)
          refine x_iload_n dX12_use_112 rfl ?_
          refine x_aload_n dX12_use_113 rfl ?_
          refine gfX12_206 rfl dX12_use_114 (fun x29 => ?_)
          refine x_iload_n dX12_use_117 rfl ?_
          refine x_iald dX12_use_118 (fun x30 => ?_)
          refine x_iast dX12_use_119 (fun M31 => ?_)
          refine x_aload_n dX12_use_120 rfl ?_
          refine gfX12_203 rfl dX12_use_121 (fun x32 => ?_)
          refine x_iload_n dX12_use_124 rfl ?_
          refine x_aload_n dX12_use_125 rfl ?_
          refine gfX12_415 rfl dX12_use_126 (fun x33 => ?_)
          refine x_last dX12_use_129 (fun M34 => ?_)
          refine x_aload_n dX12_use_130 rfl ?_
          refine gfX12_206 rfl dX12_use_131 (fun x35 => ?_)
          refine x_iload_n dX12_use_134 rfl ?_
          refine x_aload_n dX12_use_135 rfl ?_
          refine gfX12_405 rfl dX12_use_136 (fun x36 => ?_)
          refine x_iast dX12_use_139 (fun M37 => ?_)
          refine x_aload_n dX12_use_140 rfl ?_
          refine cmX12_436 rfl hs (Nat.le_of_ble_eq_true rfl) dX12_use_141 (fun M38 => ?_)
          exact x_weak (by exact ⟨rfl, trivial⟩) (hj144 M38)
      refine x_icmp_ne (tgt := 89) dX12_use_82 (by decide) (fun _ => ?_) (fun _ => ?_)
      · refine x_iconst (v := 1) dX12_use_85 (by decide) ?_
        refine x_goto (tgt := 90) dX12_use_86 (by decide) ?_
        exact x_weak (by exact ⟨rfl, ⟨rfl, trivial⟩⟩) (hj90 ((1 : Int32)))
      · refine x_iconst (v := 0) dX12_use_89 (by decide) ?_
        exact x_weak (by exact ⟨rfl, ⟨rfl, trivial⟩⟩) (hj90 ((0 : Int32)))
    · exact x_weak (by exact ⟨rfl, trivial⟩) (hj144 M15)
  · exact x_weak (by exact ⟨rfl, trivial⟩) (hj144 M15)
theorem s201 {l : Launch} {d : Nat} {rec : Nat → List Value → Mem → XA} (hS : Nonempty XS) (hs : XSnd l xmt rec d) : Snd1 l 201 (b201 rec) d := by
  intro as M r M' h0
  unfold b201 at h0
  obtain ⟨a0, l1, e1, h1⟩ := aR_inv h0
  obtain ⟨ez, h⟩ := aZ_inv h1
  subst ez
  subst e1
  exact xmet (M := M) (as := [va_rf a0]) (lo := [some (va_rf a0)]) 201 xq201 xm201 (by rw [xargs_rf, xargs_nil]; exact ⟨rfl, trivial⟩) (by rw [xargs_rf, xargs_nil]; exact Nat.le_of_ble_eq_true rfl) (fun S G K => x_weak (by exact ⟨rfl, trivial⟩) (k201 hs a0 M)) h hS
