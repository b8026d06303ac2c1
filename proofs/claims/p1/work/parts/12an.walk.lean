set_option maxRecDepth 100000 in
def c209 (rec : Nat → List Value → Mem → XA) (a0 : Option Nat) (M0 : Mem) : XA :=
  gtI (13, 157) M0 a0 41 fun x1 =>
  jn (fun (s2 : Unit) =>
    vC (13, 157) M0 a0 <|
    cV (rec 208 [va_rf a0] M0) fun M3 =>
    gtI (13, 157) M3 a0 36 fun x4 =>
    jn (fun (s5 : Int32) =>
      gtI (13, 157) M3 a0 41 fun x6 =>
      jn (fun (s7 : Mem) =>
        some (.null, s7)) fun j142 =>
      if x6 = 0 then (
        if s5 < 0 then (
          j142 M3) else (
          vC (13, 157) M3 a0 <|
          cV (rec 191 [va_rf a0] M3) fun M8 =>
          vC (13, 157) M8 a0 <|
          cV (rec 208 [va_rf a0] M8) fun M9 =>
          vC (13, 157) M9 a0 <|
          cI (rec 196 [va_rf a0, .int s5, .int ((0 : Int32))] M9) fun x11 M10 =>
          j142 M10)) else (
        j142 M3)) fun j115 =>
    if x4 = ((60 : Int32)) then (
      j115 ((15 : Int32))) else (
      gtI (13, 157) M3 a0 36 fun x12 =>
      if x12 = ((300 : Int32)) then (
        j115 ((16 : Int32))) else (
        gtI (13, 157) M3 a0 36 fun x13 =>
        if x13 = ((301 : Int32)) then (
          j115 ((17 : Int32))) else (
          gtI (13, 157) M3 a0 36 fun x14 =>
          if x14 = ((302 : Int32)) then (
            j115 ((18 : Int32))) else (
            j115 ((-1 : Int32))))))) fun j51 =>
  if x1 = 0 then (
    gtI (13, 157) M0 a0 36 fun x15 =>
    if x15 = ((428 : Int32)) then (
      vC (13, 157) M0 a0 <|
      cI (rec 200 [va_rf a0] M0) fun x17 M16 =>
      jn (fun (s18 : Mem) =>
        some (.null, s18)) fun j50 =>
      if x17 = 0 then (
        j50 M16) else (
        vC (13, 157) M16 a0 <|
        cV (rec 191 [va_rf a0] M16) fun M19 =>
        vC (13, 157) M19 a0 <|
        cV (rec 209 [va_rf a0] M19) fun M20 =>
        gtI (13, 157) M20 a0 50 fun x21 =>
        ptI (13, 157) M20 a0 50 (x21 - ((1 : Int32))) fun M22 =>
        vC (13, 157) M22 a0 <|
        cI (rec 196 [va_rf a0, .int ((21 : Int32)), .int ((0 : Int32))] M22) fun x24 M23 =>
        j50 M23)) else (
      j51 ())) else (
    j51 ())
def b209 (rec : Nat → List Value → Mem → XA) (as : List Value) (M0 : Mem) : XA := aR as fun a0 as => aZ as (c209 rec a0 M0)
set_option maxRecDepth 100000 in
set_option maxHeartbeats 4000000 in
theorem k209 {S : XS} {G : XG} {K : Nat × Nat} {l : Launch} {d : Nat} {rec : Nat → List Value → Mem → XA} (hs : XSnd l xmt rec d) (a0 : Option Nat) (M0 : Mem) : Xe S G K l (yX12_denied, cX12_denied, 2, none) d 0 [some (va_rf a0), none] [] M0 (c209 rec a0 M0) := by
  unfold c209
  refine x_aload_n dX12_denied_0 rfl ?_
  refine gfX12_395 rfl dX12_denied_1 (fun x1 => ?_)
  refine x_jn (σ := Unit) 51 (fun s2 => [some (va_rf a0), none]) (fun s2 => []) (fun s2 => M0) (fun s2 => ?_) (fun j51 hj51 => ?_)
  · refine x_aload_n dX12_denied_51 rfl ?_
    refine cmX12_502 rfl hs (Nat.le_of_ble_eq_true rfl) dX12_denied_52 (fun M3 => ?_)
    refine x_aload_n dX12_denied_55 rfl ?_
    refine gfX12_408 rfl dX12_denied_56 (fun x4 => ?_)
    refine x_bipush (v := 60) dX12_denied_59 (by decide) ?_
    refine x_jn (σ := Int32) 115 (fun s5 => [some (va_rf a0), none]) (fun s5 => [.int s5]) (fun s5 => M3) (fun s5 => ?_) (fun j115 hj115 => ?_)
    · refine x_istore_n (lo' := [some (va_rf a0), some (.int s5)]) dX12_denied_115 (by decide) (xok_r rfl) rfl ?_
      refine x_aload_n dX12_denied_116 rfl ?_
      refine gfX12_395 rfl dX12_denied_117 (fun x6 => ?_)
      refine x_jn (σ := Mem) 142 (fun s7 => [none, none]) (fun s7 => []) (fun s7 => s7) (fun s7 => ?_) (fun j142 hj142 => ?_)
      · exact x_vret rfl dX12_denied_142
      refine x_if_ne (tgt := 142) dX12_denied_120 (by decide) (fun _ => ?_) (fun _ => ?_)
      · refine x_iload_n dX12_denied_123 rfl ?_
        refine x_if_lt (tgt := 142) dX12_denied_124 (by decide) (fun _ => ?_) (fun _ => ?_)
        · exact x_weak (by exact trivial) (hj142 M3)
        · refine x_aload_n dX12_denied_127 rfl ?_
          refine cmX12_436 rfl hs (Nat.le_of_ble_eq_true rfl) dX12_denied_128 (fun M8 => ?_)
          refine x_aload_n dX12_denied_131 rfl ?_
          refine cmX12_502 rfl hs (Nat.le_of_ble_eq_true rfl) dX12_denied_132 (fun M9 => ?_)
          refine x_aload_n dX12_denied_135 rfl ?_
          refine x_iload_n dX12_denied_136 rfl ?_
          refine x_iconst (v := 0) dX12_denied_137 (by decide) ?_
          refine cmX12_465 rfl hs (Nat.le_of_ble_eq_true rfl) dX12_denied_138 (fun x11 M10 => ?_)
          refine x_pop dX12_denied_141 (xc1_i _) ?_
          exact x_weak (by exact trivial) (hj142 M10)
      · exact x_weak (by exact trivial) (hj142 M3)
    refine x_icmp_ne (tgt := 69) dX12_denied_61 (by decide) (fun _ => ?_) (fun _ => ?_)
    · refine x_bipush (v := 15) dX12_denied_64 (by decide) ?_
      refine x_goto (tgt := 115) dX12_denied_66 (by decide) ?_
      exact x_weak (by exact ⟨rfl, trivial⟩) (hj115 ((15 : Int32)))
    · refine x_aload_n dX12_denied_69 rfl ?_
      refine gfX12_408 rfl dX12_denied_70 (fun x12 => ?_)
      refine x_sipush (v := 300) dX12_denied_73 (by decide) ?_
      refine x_icmp_ne (tgt := 84) dX12_denied_76 (by decide) (fun _ => ?_) (fun _ => ?_)
      · refine x_bipush (v := 16) dX12_denied_79 (by decide) ?_
        refine x_goto (tgt := 115) dX12_denied_81 (by decide) ?_
        exact x_weak (by exact ⟨rfl, trivial⟩) (hj115 ((16 : Int32)))
      · refine x_aload_n dX12_denied_84 rfl ?_
        refine gfX12_408 rfl dX12_denied_85 (fun x13 => ?_)
        refine x_sipush (v := 301) dX12_denied_88 (by decide) ?_
        refine x_icmp_ne (tgt := 99) dX12_denied_91 (by decide) (fun _ => ?_) (fun _ => ?_)
        · refine x_bipush (v := 17) dX12_denied_94 (by decide) ?_
          refine x_goto (tgt := 115) dX12_denied_96 (by decide) ?_
          exact x_weak (by exact ⟨rfl, trivial⟩) (hj115 ((17 : Int32)))
        · refine x_aload_n dX12_denied_99 rfl ?_
          refine gfX12_408 rfl dX12_denied_100 (fun x14 => ?_)
          refine x_sipush (v := 302) dX12_denied_103 (by decide) ?_
          refine x_icmp_ne (tgt := 114) dX12_denied_106 (by decide) (fun _ => ?_) (fun _ => ?_)
          · refine x_bipush (v := 18) dX12_denied_109 (by decide) ?_
            refine x_goto (tgt := 115) dX12_denied_111 (by decide) ?_
            exact x_weak (by exact ⟨rfl, trivial⟩) (hj115 ((18 : Int32)))
          · refine x_iconst (v := -1) dX12_denied_114 (by decide) ?_
            exact x_weak (by exact ⟨rfl, trivial⟩) (hj115 ((-1 : Int32)))
  refine x_if_ne (tgt := 51) dX12_denied_4 (by decide) (fun _ => ?_) (fun _ => ?_)
  · refine x_aload_n dX12_denied_7 rfl ?_
    refine gfX12_408 rfl dX12_denied_8 (fun x15 => ?_)
    refine x_sipush (v := 428) dX12_denied_11 (by decide) ?_
    refine x_icmp_ne (tgt := 51) dX12_denied_14 (by decide) (fun _ => ?_) (fun _ => ?_)
    · refine x_aload_n dX12_denied_17 rfl ?_
      refine cmX12_469 rfl hs (Nat.le_of_ble_eq_true rfl) dX12_denied_18 (fun x17 M16 => ?_)
      refine x_jn (σ := Mem) 50 (fun s18 => [none, none]) (fun s18 => []) (fun s18 => s18) (fun s18 => ?_) (fun j50 hj50 => ?_)
      · exact x_vret rfl dX12_denied_50
      refine x_if_eq (tgt := 50) dX12_denied_21 (by decide) (fun _ => ?_) (fun _ => ?_)
      · exact x_weak (by exact trivial) (hj50 M16)
      · refine x_aload_n dX12_denied_24 rfl ?_
        refine cmX12_436 rfl hs (Nat.le_of_ble_eq_true rfl) dX12_denied_25 (fun M19 => ?_)
        refine x_aload_n dX12_denied_28 rfl ?_
        refine cmX12_499 rfl hs (Nat.le_of_ble_eq_true rfl) dX12_denied_29 (fun M20 => ?_)
        refine x_aload_n dX12_denied_32 rfl ?_
        refine x_dup dX12_denied_33 (xc1_r _) ?_
        refine gfX12_459 rfl dX12_denied_34 (fun x21 => ?_)
        refine x_iconst (v := 1) dX12_denied_37 (by decide) ?_
        refine x_isub dX12_denied_38 ?_
        refine pfX12_459 rfl dX12_denied_39 (fun M22 => ?_)
        refine x_aload_n dX12_denied_42 rfl ?_
        refine x_bipush (v := 21) dX12_denied_43 (by decide) ?_
        refine x_iconst (v := 0) dX12_denied_45 (by decide) ?_
        refine cmX12_465 rfl hs (Nat.le_of_ble_eq_true rfl) dX12_denied_46 (fun x24 M23 => ?_)
        refine x_pop dX12_denied_49 (xc1_i _) ?_
        exact x_weak (by exact trivial) (hj50 M23)
    · exact x_weak (by exact ⟨rfl, trivial⟩) (hj51 ())
  · exact x_weak (by exact ⟨rfl, trivial⟩) (hj51 ())
theorem s209 {l : Launch} {d : Nat} {rec : Nat → List Value → Mem → XA} (hS : Nonempty XS) (hs : XSnd l xmt rec d) : Snd1 l 209 (b209 rec) d := by
  intro as M r M' h0
  unfold b209 at h0
  obtain ⟨a0, l1, e1, h1⟩ := aR_inv h0
  obtain ⟨ez, h⟩ := aZ_inv h1
  subst ez
  subst e1
  exact xmet (M := M) (as := [va_rf a0]) (lo := [some (va_rf a0)]) 209 xq209 xm209 (by rw [xargs_rf, xargs_nil]; exact ⟨rfl, trivial⟩) (by rw [xargs_rf, xargs_nil]; exact Nat.le_of_ble_eq_true rfl) (fun S G K => x_weak (by exact ⟨rfl, trivial⟩) (k209 hs a0 M)) h hS
set_option maxRecDepth 100000 in
def c210_4 (rec : Nat → List Value → Mem → XA) (a0 : Option Nat) (j40 : Mem → XA) : (Mem) → ((Mem) → XA) → XA := fun s3 j4 =>
  gtI (13, 157) s3 a0 41 fun x4 =>
  if x4 = 0 then (
    gtI (13, 157) s3 a0 36 fun x5 =>
    if x5 = ((426 : Int32)) then (
      vC (13, 157) s3 a0 <|
      cV (rec 191 [va_rf a0] s3) fun M6 =>
      vC (13, 157) M6 a0 <|
      cV (rec 209 [va_rf a0] M6) fun M7 =>
      vC (13, 157) M7 a0 <|
      cI (rec 196 [va_rf a0, .int ((19 : Int32)), .int ((0 : Int32))] M7) fun x9 M8 =>
      j4 M8) else (
      j40 s3)) else (
    j40 s3)
set_option maxRecDepth 100000 in
def c210 (rec : Nat → List Value → Mem → XA) (a0 : Option Nat) (M0 : Mem) : XA :=
  vC (13, 157) M0 a0 <|
  cV (rec 209 [va_rf a0] M0) fun M1 =>
  jn (fun (s2 : Mem) =>
    some (.null, s2)) fun j40 =>
  lp (c210_4 rec a0 j40) 4294967296 M1
def b210 (rec : Nat → List Value → Mem → XA) (as : List Value) (M0 : Mem) : XA := aR as fun a0 as => aZ as (c210 rec a0 M0)
set_option maxRecDepth 100000 in
set_option maxHeartbeats 4000000 in
theorem k210 {S : XS} {G : XG} {K : Nat × Nat} {l : Launch} {d : Nat} {rec : Nat → List Value → Mem → XA} (hs : XSnd l xmt rec d) (a0 : Option Nat) (M0 : Mem) : Xe S G K l (yX12_both, cX12_both, 1, none) d 0 [some (va_rf a0)] [] M0 (c210 rec a0 M0) := by
  unfold c210
  refine x_aload_n dX12_both_0 rfl ?_
  refine cmX12_499 rfl hs (Nat.le_of_ble_eq_true rfl) dX12_both_1 (fun M1 => ?_)
  refine x_jn (σ := Mem) 40 (fun s2 => [none]) (fun s2 => []) (fun s2 => s2) (fun s2 => ?_) (fun j40 hj40 => ?_)
  · exact x_vret rfl dX12_both_40
  refine x_weak (by exact ⟨rfl, trivial⟩) (x_lp (σ := Mem) 4 (fun s3 => [some (va_rf a0)]) (fun s3 => []) (fun s3 => s3) (fun s3 j4 hj4 => ?_) 4294967296 M1)
  · refine x_aload_n dX12_both_4 rfl ?_
    refine gfX12_395 rfl dX12_both_5 (fun x4 => ?_)
    refine x_if_ne (tgt := 40) dX12_both_8 (by decide) (fun _ => ?_) (fun _ => ?_)
    · refine x_aload_n dX12_both_11 rfl ?_
      refine gfX12_408 rfl dX12_both_12 (fun x5 => ?_)
      refine x_sipush (v := 426) dX12_both_15 (by decide) ?_
      refine x_icmp_ne (tgt := 40) dX12_both_18 (by decide) (fun _ => ?_) (fun _ => ?_)
      · refine x_aload_n dX12_both_21 rfl ?_
        refine cmX12_436 rfl hs (Nat.le_of_ble_eq_true rfl) dX12_both_22 (fun M6 => ?_)
        refine x_aload_n dX12_both_25 rfl ?_
        refine cmX12_499 rfl hs (Nat.le_of_ble_eq_true rfl) dX12_both_26 (fun M7 => ?_)
        refine x_aload_n dX12_both_29 rfl ?_
        refine x_bipush (v := 19) dX12_both_30 (by decide) ?_
        refine x_iconst (v := 0) dX12_both_32 (by decide) ?_
        refine cmX12_465 rfl hs (Nat.le_of_ble_eq_true rfl) dX12_both_33 (fun x9 M8 => ?_)
        refine x_pop dX12_both_36 (xc1_i _) ?_
        refine x_goto (tgt := 4) dX12_both_37 (by decide) ?_
        exact x_weak (by exact ⟨rfl, trivial⟩) (hj4 M8)
      · exact x_weak (by exact trivial) (hj40 s3)
    · exact x_weak (by exact trivial) (hj40 s3)
theorem s210 {l : Launch} {d : Nat} {rec : Nat → List Value → Mem → XA} (hS : Nonempty XS) (hs : XSnd l xmt rec d) : Snd1 l 210 (b210 rec) d := by
  intro as M r M' h0
  unfold b210 at h0
  obtain ⟨a0, l1, e1, h1⟩ := aR_inv h0
  obtain ⟨ez, h⟩ := aZ_inv h1
  subst ez
  subst e1
  exact xmet (M := M) (as := [va_rf a0]) (lo := [some (va_rf a0)]) 210 xq210 xm210 (by rw [xargs_rf, xargs_nil]; exact ⟨rfl, trivial⟩) (by rw [xargs_rf, xargs_nil]; exact Nat.le_of_ble_eq_true rfl) (fun S G K => x_weak (by exact ⟨rfl, trivial⟩) (k210 hs a0 M)) h hS
set_option maxRecDepth 100000 in
def c211_4 (rec : Nat → List Value → Mem → XA) (a0 : Option Nat) (j40 : Mem → XA) : (Mem) → ((Mem) → XA) → XA := fun s3 j4 =>
  gtI (13, 157) s3 a0 41 fun x4 =>
  if x4 = 0 then (
    gtI (13, 157) s3 a0 36 fun x5 =>
    if x5 = ((427 : Int32)) then (
      vC (13, 157) s3 a0 <|
      cV (rec 191 [va_rf a0] s3) fun M6 =>
      vC (13, 157) M6 a0 <|
      cV (rec 210 [va_rf a0] M6) fun M7 =>
      vC (13, 157) M7 a0 <|
      cI (rec 196 [va_rf a0, .int ((20 : Int32)), .int ((0 : Int32))] M7) fun x9 M8 =>
      j4 M8) else (
      j40 s3)) else (
    j40 s3)
set_option maxRecDepth 100000 in
def c211 (rec : Nat → List Value → Mem → XA) (a0 : Option Nat) (M0 : Mem) : XA :=
  vC (13, 157) M0 a0 <|
  cV (rec 210 [va_rf a0] M0) fun M1 =>
  jn (fun (s2 : Mem) =>
    some (.null, s2)) fun j40 =>
  lp (c211_4 rec a0 j40) 4294967296 M1
def b211 (rec : Nat → List Value → Mem → XA) (as : List Value) (M0 : Mem) : XA := aR as fun a0 as => aZ as (c211 rec a0 M0)
set_option maxRecDepth 100000 in
set_option maxHeartbeats 4000000 in
theorem k211 {S : XS} {G : XG} {K : Nat × Nat} {l : Launch} {d : Nat} {rec : Nat → List Value → Mem → XA} (hs : XSnd l xmt rec d) (a0 : Option Nat) (M0 : Mem) : Xe S G K l (yX12_expr, cX12_expr, 1, none) d 0 [some (va_rf a0)] [] M0 (c211 rec a0 M0) := by
  unfold c211
  refine x_aload_n dX12_expr_0 rfl ?_
  refine cmX12_505 rfl hs (Nat.le_of_ble_eq_true rfl) dX12_expr_1 (fun M1 => ?_)
  refine x_jn (σ := Mem) 40 (fun s2 => [none]) (fun s2 => []) (fun s2 => s2) (fun s2 => ?_) (fun j40 hj40 => ?_)
  · exact x_vret rfl dX12_expr_40
  refine x_weak (by exact ⟨rfl, trivial⟩) (x_lp (σ := Mem) 4 (fun s3 => [some (va_rf a0)]) (fun s3 => []) (fun s3 => s3) (fun s3 j4 hj4 => ?_) 4294967296 M1)
  · refine x_aload_n dX12_expr_4 rfl ?_
    refine gfX12_395 rfl dX12_expr_5 (fun x4 => ?_)
    refine x_if_ne (tgt := 40) dX12_expr_8 (by decide) (fun _ => ?_) (fun _ => ?_)
    · refine x_aload_n dX12_expr_11 rfl ?_
      refine gfX12_408 rfl dX12_expr_12 (fun x5 => ?_)
      refine x_sipush (v := 427) dX12_expr_15 (by decide) ?_
      refine x_icmp_ne (tgt := 40) dX12_expr_18 (by decide) (fun _ => ?_) (fun _ => ?_)
      · refine x_aload_n dX12_expr_21 rfl ?_
        refine cmX12_436 rfl hs (Nat.le_of_ble_eq_true rfl) dX12_expr_22 (fun M6 => ?_)
        refine x_aload_n dX12_expr_25 rfl ?_
        refine cmX12_505 rfl hs (Nat.le_of_ble_eq_true rfl) dX12_expr_26 (fun M7 => ?_)
        refine x_aload_n dX12_expr_29 rfl ?_
        refine x_bipush (v := 20) dX12_expr_30 (by decide) ?_
        refine x_iconst (v := 0) dX12_expr_32 (by decide) ?_
        refine cmX12_465 rfl hs (Nat.le_of_ble_eq_true rfl) dX12_expr_33 (fun x9 M8 => ?_)
        refine x_pop dX12_expr_36 (xc1_i _) ?_
        refine x_goto (tgt := 4) dX12_expr_37 (by decide) ?_
        exact x_weak (by exact ⟨rfl, trivial⟩) (hj4 M8)
      · exact x_weak (by exact trivial) (hj40 s3)
    · exact x_weak (by exact trivial) (hj40 s3)
theorem s211 {l : Launch} {d : Nat} {rec : Nat → List Value → Mem → XA} (hS : Nonempty XS) (hs : XSnd l xmt rec d) : Snd1 l 211 (b211 rec) d := by
  intro as M r M' h0
  unfold b211 at h0
  obtain ⟨a0, l1, e1, h1⟩ := aR_inv h0
  obtain ⟨ez, h⟩ := aZ_inv h1
  subst ez
  subst e1
  exact xmet (M := M) (as := [va_rf a0]) (lo := [some (va_rf a0)]) 211 xq211 xm211 (by rw [xargs_rf, xargs_nil]; exact ⟨rfl, trivial⟩) (by rw [xargs_rf, xargs_nil]; exact Nat.le_of_ble_eq_true rfl) (fun S G K => x_weak (by exact ⟨rfl, trivial⟩) (k211 hs a0 M)) h hS
set_option maxRecDepth 100000 in
def c212_45 (rec : Nat → List Value → Mem → XA) (a0 : Option Nat) (j68 : Mem → XA) : (Mem) → ((Mem) → XA) → XA := fun s15 j45 =>
  gtI (13, 157) s15 a0 41 fun x16 =>
  if x16 = 0 then (
    gtI (13, 157) s15 a0 36 fun x17 =>
    if x17 = ((125 : Int32)) then (
      j68 s15) else (
      vC (13, 157) s15 a0 <|
      cV (rec 214 [va_rf a0] s15) fun M18 =>
      j45 M18)) else (
    j68 s15)
set_option maxRecDepth 100000 in
def c212 (rec : Nat → List Value → Mem → XA) (a0 : Option Nat) (M0 : Mem) : XA :=
  gtI (13, 157) M0 a0 41 fun x1 =>
  jn (fun (s2 : Mem) =>
    some (.null, s2)) fun j35 =>
  if x1 = 0 then (
    gtI (13, 157) M0 a0 36 fun x3 =>
    jn (fun (s4 : Int32) =>
      vC (13, 157) M0 a0 <|
      cI (rec 193 [va_rf a0, .int s4] M0) fun x6 M5 =>
      if x6 = 0 then (
        j35 M5) else (
        vC (13, 157) M5 a0 <|
        cI (rec 200 [va_rf a0] M5) fun x8 M7 =>
        if x8 = 0 then (
          j35 M7) else (
          gtI (13, 157) M7 a0 51 fun x9 =>
          vC (13, 157) M7 a0 <|
          cV (rec 191 [va_rf a0] M7) fun M10 =>
          jn (fun (s11 : Mem) =>
            gtI (13, 157) s11 a0 50 fun x12 =>
            ptI (13, 157) s11 a0 50 (x12 - ((1 : Int32))) fun M13 =>
            ptI (13, 157) M13 a0 51 x9 fun M14 =>
            some (.null, M14)) fun j68 =>
          lp (c212_45 rec a0 j68) 4294967296 M10))) fun j22 =>
    if x3 = ((123 : Int32)) then (
      j22 ((1 : Int32))) else (
      j22 ((0 : Int32)))) else (
    j35 M0)
def b212 (rec : Nat → List Value → Mem → XA) (as : List Value) (M0 : Mem) : XA := aR as fun a0 as => aZ as (c212 rec a0 M0)
set_option maxRecDepth 100000 in
set_option maxHeartbeats 4000000 in
theorem k212 {S : XS} {G : XG} {K : Nat × Nat} {l : Launch} {d : Nat} {rec : Nat → List Value → Mem → XA} (hs : XSnd l xmt rec d) (a0 : Option Nat) (M0 : Mem) : Xe S G K l (yX12_block, cX12_block, 2, none) d 0 [some (va_rf a0), none] [] M0 (c212 rec a0 M0) := by
  unfold c212
  refine x_aload_n dX12_block_0 rfl ?_
  refine gfX12_395 rfl dX12_block_1 (fun x1 => ?_)
  refine x_jn (σ := Mem) 35 (fun s2 => [none, none]) (fun s2 => []) (fun s2 => s2) (fun s2 => ?_) (fun j35 hj35 => ?_)
  · exact x_vret rfl dX12_block_35
  refine x_if_ne (tgt := 35) dX12_block_4 (by decide) (fun _ => ?_) (fun _ => ?_)
  · refine x_aload_n dX12_block_7 rfl ?_
    refine x_aload_n dX12_block_8 rfl ?_
    refine gfX12_408 rfl dX12_block_9 (fun x3 => ?_)
    refine x_bipush (v := 123) dX12_block_12 (by decide) ?_
    refine x_jn (σ := Int32) 22 (fun s4 => [some (va_rf a0), none]) (fun s4 => [.int s4, va_rf a0]) (fun s4 => M0) (fun s4 => ?_) (fun j22 hj22 => ?_)
    · refine cmX12_432 rfl hs (Nat.le_of_ble_eq_true rfl) dX12_block_22 (fun x6 M5 => ?_)
      refine x_if_eq (tgt := 35) dX12_block_25 (by decide) (fun _ => ?_) (fun _ => ?_)
      · exact x_weak (by exact trivial) (hj35 M5)
      · refine x_aload_n dX12_block_28 rfl ?_
        refine cmX12_469 rfl hs (Nat.le_of_ble_eq_true rfl) dX12_block_29 (fun x8 M7 => ?_)
        refine x_if_ne (tgt := 36) dX12_block_32 (by decide) (fun _ => ?_) (fun _ => ?_)
        · exact x_weak (by exact trivial) (hj35 M7)
        · refine x_aload_n dX12_block_36 rfl ?_
          refine gfX12_448 rfl dX12_block_37 (fun x9 => ?_)
          refine x_istore_n (lo' := [some (va_rf a0), some (.int x9)]) dX12_block_40 (by decide) (xok_r rfl) rfl ?_
          refine x_aload_n dX12_block_41 rfl ?_
          refine cmX12_436 rfl hs (Nat.le_of_ble_eq_true rfl) dX12_block_42 (fun M10 => ?_)
          refine x_jn (σ := Mem) 68 (fun s11 => [some (va_rf a0), some (.int x9)]) (fun s11 => []) (fun s11 => s11) (fun s11 => ?_) (fun j68 hj68 => ?_)
          · refine x_aload_n dX12_block_68 rfl ?_
            refine x_dup dX12_block_69 (xc1_r _) ?_
            refine gfX12_459 rfl dX12_block_70 (fun x12 => ?_)
            refine x_iconst (v := 1) dX12_block_73 (by decide) ?_
            refine x_isub dX12_block_74 ?_
            refine pfX12_459 rfl dX12_block_75 (fun M13 => ?_)
            refine x_aload_n dX12_block_78 rfl ?_
            refine x_iload_n dX12_block_79 rfl ?_
            refine pfX12_448 rfl dX12_block_80 (fun M14 => ?_)
            exact x_vret rfl dX12_block_83
          refine x_weak (by exact ⟨rfl, ⟨rfl, trivial⟩⟩) (x_lp (σ := Mem) 45 (fun s15 => [some (va_rf a0), some (.int x9)]) (fun s15 => []) (fun s15 => s15) (fun s15 j45 hj45 => ?_) 4294967296 M10)
          · refine x_aload_n dX12_block_45 rfl ?_
            refine gfX12_395 rfl dX12_block_46 (fun x16 => ?_)
            refine x_if_ne (tgt := 68) dX12_block_49 (by decide) (fun _ => ?_) (fun _ => ?_)
            · refine x_aload_n dX12_block_52 rfl ?_
              refine gfX12_408 rfl dX12_block_53 (fun x17 => ?_)
              refine x_bipush (v := 125) dX12_block_56 (by decide) ?_
              refine x_icmp_eq (tgt := 68) dX12_block_58 (by decide) (fun _ => ?_) (fun _ => ?_)
              · exact x_weak (by exact ⟨rfl, ⟨rfl, trivial⟩⟩) (hj68 s15)
              · refine x_aload_n dX12_block_61 rfl ?_
                refine cmX12_508 rfl hs (Nat.le_of_ble_eq_true rfl) dX12_block_62 (fun M18 => ?_)
                refine x_goto (tgt := 45) dX12_block_65 (by decide) ?_
                exact x_weak (by exact ⟨rfl, ⟨rfl, trivial⟩⟩) (hj45 M18)
            · exact x_weak (by exact ⟨rfl, ⟨rfl, trivial⟩⟩) (hj68 s15)
    refine x_icmp_ne (tgt := 21) dX12_block_14 (by decide) (fun _ => ?_) (fun _ => ?_)
    · refine x_iconst (v := 1) dX12_block_17 (by decide) ?_
      refine x_goto (tgt := 22) dX12_block_18 (by decide) ?_
      exact x_weak (by exact ⟨rfl, trivial⟩) (hj22 ((1 : Int32)))
    · refine x_iconst (v := 0) dX12_block_21 (by decide) ?_
      exact x_weak (by exact ⟨rfl, trivial⟩) (hj22 ((0 : Int32)))
  · exact x_weak (by exact trivial) (hj35 M0)
theorem s212 {l : Launch} {d : Nat} {rec : Nat → List Value → Mem → XA} (hS : Nonempty XS) (hs : XSnd l xmt rec d) : Snd1 l 212 (b212 rec) d := by
  intro as M r M' h0
  unfold b212 at h0
  obtain ⟨a0, l1, e1, h1⟩ := aR_inv h0
  obtain ⟨ez, h⟩ := aZ_inv h1
  subst ez
  subst e1
  exact xmet (M := M) (as := [va_rf a0]) (lo := [some (va_rf a0)]) 212 xq212 xm212 (by rw [xargs_rf, xargs_nil]; exact ⟨rfl, trivial⟩) (by rw [xargs_rf, xargs_nil]; exact Nat.le_of_ble_eq_true rfl) (fun S G K => x_weak (by exact ⟨rfl, trivial⟩) (k212 hs a0 M)) h hS
set_option maxRecDepth 100000 in
def c213 (rec : Nat → List Value → Mem → XA) (a0 : Option Nat) (M0 : Mem) : XA :=
  vC (13, 157) M0 a0 <|
  cV (rec 212 [va_rf a0] M0) fun M1 =>
  vC (13, 157) M1 a0 <|
  cV (rec 191 [va_rf a0] M1) fun M2 =>
  some (.null, M2)
def b213 (rec : Nat → List Value → Mem → XA) (as : List Value) (M0 : Mem) : XA := aR as fun a0 as => aZ as (c213 rec a0 M0)
set_option maxRecDepth 100000 in
set_option maxHeartbeats 4000000 in
theorem k213 {S : XS} {G : XG} {K : Nat × Nat} {l : Launch} {d : Nat} {rec : Nat → List Value → Mem → XA} (hs : XSnd l xmt rec d) (a0 : Option Nat) (M0 : Mem) : Xe S G K l (yX12_inner, cX12_inner, 1, none) d 0 [some (va_rf a0)] [] M0 (c213 rec a0 M0) := by
  unfold c213
  refine x_aload_n dX12_inner_0 rfl ?_
  refine cmX12_511 rfl hs (Nat.le_of_ble_eq_true rfl) dX12_inner_1 (fun M1 => ?_)
  refine x_aload_n dX12_inner_4 rfl ?_
  refine cmX12_436 rfl hs (Nat.le_of_ble_eq_true rfl) dX12_inner_5 (fun M2 => ?_)
  exact x_vret rfl dX12_inner_8
theorem s213 {l : Launch} {d : Nat} {rec : Nat → List Value → Mem → XA} (hS : Nonempty XS) (hs : XSnd l xmt rec d) : Snd1 l 213 (b213 rec) d := by
  intro as M r M' h0
  unfold b213 at h0
  obtain ⟨a0, l1, e1, h1⟩ := aR_inv h0
  obtain ⟨ez, h⟩ := aZ_inv h1
  subst ez
  subst e1
  exact xmet (M := M) (as := [va_rf a0]) (lo := [some (va_rf a0)]) 213 xq213 xm213 (by rw [xargs_rf, xargs_nil]; exact ⟨rfl, trivial⟩) (by rw [xargs_rf, xargs_nil]; exact Nat.le_of_ble_eq_true rfl) (fun S G K => x_weak (by exact ⟨rfl, trivial⟩) (k213 hs a0 M)) h hS
set_option maxRecDepth 100000 in
def c214 (rec : Nat → List Value → Mem → XA) (a0 : Option Nat) (M0 : Mem) : XA :=
  gtI (13, 157) M0 a0 36 fun x1 =>
  jn (fun (s2 : Mem) =>
    some (.null, s2)) fun j250 =>
  swI x1 [
   ((416 : Int32), (
      vC (13, 157) M0 a0 <|
      cV (rec 191 [va_rf a0] M0) fun M3 =>
      vC (13, 157) M3 a0 <|
      cI (rec 198 [va_rf a0] M3) fun x5 M4 =>
      if x5 = 0 then (
        j250 M4) else (
        gtL (13, 157) M4 a0 39 fun x6 =>
        vC (13, 157) M4 a0 <|
        cV (rec 191 [va_rf a0] M4) fun M7 =>
        vC (13, 157) M7 a0 <|
        cI (rec 195 [va_rf a0, .int ((61 : Int32))] M7) fun x9 M8 =>
        vC (13, 157) M8 a0 <|
        cV (rec 211 [va_rf a0] M8) fun M10 =>
        gtI (13, 157) M10 a0 51 fun x11 =>
        vC (13, 157) M10 a0 <|
        cI (rec 196 [va_rf a0, .int ((2 : Int32)), .int x11] M10) fun x13 M12 =>
        vC (13, 157) M12 a0 <|
        cI (rec 195 [va_rf a0, .int ((59 : Int32))] M12) fun x15 M14 =>
        vC (13, 157) M14 a0 <|
        cV (rec 199 [va_rf a0, .long x6] M14) fun M16 =>
        j250 M16))),
   ((417 : Int32), (
      vC (13, 157) M0 a0 <|
      cV (rec 215 [va_rf a0] M0) fun M17 =>
      j250 M17)),
   ((418 : Int32), (
      gtI (13, 157) M0 a0 36 fun x18 =>
      jn (fun (s19 : Int32) =>
        vC (13, 157) M0 a0 <|
        cI (rec 193 [va_rf a0, .int s19] M0) fun x21 M20 =>
        if x21 = 0 then (
          j250 M20) else (
          vC (13, 157) M20 a0 <|
          cV (rec 217 [va_rf a0] M20) fun M22 =>
          j250 M22)) fun j240 =>
      if x18 = ((1 : Int32)) then (
        j240 ((1 : Int32))) else (
        j240 ((0 : Int32))))),
   ((419 : Int32), (
      gtI (13, 157) M0 a0 43 fun x23 =>
      vC (13, 157) M0 a0 <|
      cV (rec 191 [va_rf a0] M0) fun M24 =>
      vC (13, 157) M24 a0 <|
      cV (rec 211 [va_rf a0] M24) fun M25 =>
      vC (13, 157) M25 a0 <|
      cI (rec 196 [va_rf a0, .int ((24 : Int32)), .int ((0 : Int32))] M25) fun x27 M26 =>
      vC (13, 157) M26 a0 <|
      cV (rec 213 [va_rf a0] M26) fun M28 =>
      vC (13, 157) M28 a0 <|
      cI (rec 196 [va_rf a0, .int ((25 : Int32)), .int x23] M28) fun x30 M29 =>
      gtP (13, 157) M29 a0 45 fun x31 =>
      gtI (13, 157) M29 a0 43 fun x32 =>
      asI 100 M29 x31 x27 x32 fun M33 =>
      j250 M33)),
   ((420 : Int32), (
      gtI (13, 157) M0 a0 36 fun x34 =>
      jn (fun (s35 : Int32) =>
        vC (13, 157) M0 a0 <|
        cV (rec 191 [va_rf a0] M0) fun M36 =>
        vC (13, 157) M36 a0 <|
        cV (rec 211 [va_rf a0] M36) fun M37 =>
        vC (13, 157) M37 a0 <|
        cI (rec 196 [va_rf a0, .int s35, .int ((0 : Int32))] M37) fun x39 M38 =>
        vC (13, 157) M38 a0 <|
        cI (rec 195 [va_rf a0, .int ((59 : Int32))] M38) fun x41 M40 =>
        j250 M40) fun j193 =>
      if x34 = ((420 : Int32)) then (
        j193 ((8 : Int32))) else (
        gtI (13, 157) M0 a0 36 fun x42 =>
        if x42 = ((421 : Int32)) then (
          j193 ((28 : Int32))) else (
          j193 ((29 : Int32)))))),
   ((421 : Int32), (
      gtI (13, 157) M0 a0 36 fun x43 =>
      jn (fun (s44 : Int32) =>
        vC (13, 157) M0 a0 <|
        cV (rec 191 [va_rf a0] M0) fun M45 =>
        vC (13, 157) M45 a0 <|
        cV (rec 211 [va_rf a0] M45) fun M46 =>
        vC (13, 157) M46 a0 <|
        cI (rec 196 [va_rf a0, .int s44, .int ((0 : Int32))] M46) fun x48 M47 =>
        vC (13, 157) M47 a0 <|
        cI (rec 195 [va_rf a0, .int ((59 : Int32))] M47) fun x50 M49 =>
        j250 M49) fun j193 =>
      if x43 = ((420 : Int32)) then (
        j193 ((8 : Int32))) else (
        gtI (13, 157) M0 a0 36 fun x51 =>
        if x51 = ((421 : Int32)) then (
          j193 ((28 : Int32))) else (
          j193 ((29 : Int32)))))),
   ((422 : Int32), (
      gtI (13, 157) M0 a0 36 fun x52 =>
      jn (fun (s53 : Int32) =>
        vC (13, 157) M0 a0 <|
        cV (rec 191 [va_rf a0] M0) fun M54 =>
        vC (13, 157) M54 a0 <|
        cV (rec 211 [va_rf a0] M54) fun M55 =>
        vC (13, 157) M55 a0 <|
        cI (rec 196 [va_rf a0, .int s53, .int ((0 : Int32))] M55) fun x57 M56 =>
        vC (13, 157) M56 a0 <|
        cI (rec 195 [va_rf a0, .int ((59 : Int32))] M56) fun x59 M58 =>
        j250 M58) fun j193 =>
      if x52 = ((420 : Int32)) then (
        j193 ((8 : Int32))) else (
        gtI (13, 157) M0 a0 36 fun x60 =>
        if x60 = ((421 : Int32)) then (
          j193 ((28 : Int32))) else (
          j193 ((29 : Int32)))))),
   ((423 : Int32), (
      vC (13, 157) M0 a0 <|
      cV (rec 216 [va_rf a0] M0) fun M61 =>
      j250 M61))] (
    gtI (13, 157) M0 a0 36 fun x62 =>
    jn (fun (s63 : Int32) =>
      vC (13, 157) M0 a0 <|
      cI (rec 193 [va_rf a0, .int s63] M0) fun x65 M64 =>
      if x65 = 0 then (
        j250 M64) else (
        vC (13, 157) M64 a0 <|
        cV (rec 217 [va_rf a0] M64) fun M66 =>
        j250 M66)) fun j240 =>
    if x62 = ((1 : Int32)) then (
      j240 ((1 : Int32))) else (
      j240 ((0 : Int32))))
def b214 (rec : Nat → List Value → Mem → XA) (as : List Value) (M0 : Mem) : XA := aR as fun a0 as => aZ as (c214 rec a0 M0)
set_option maxRecDepth 100000 in
set_option maxHeartbeats 4000000 in
theorem k214 {S : XS} {G : XG} {K : Nat × Nat} {l : Launch} {d : Nat} {rec : Nat → List Value → Mem → XA} (hs : XSnd l xmt rec d) (a0 : Option Nat) (M0 : Mem) : Xe S G K l (yX12_statement, cX12_statement, 4, none) d 0 [some (va_rf a0), none, none, none] [] M0 (c214 rec a0 M0) := by
  unfold c214
  refine x_aload_n dX12_statement_0 rfl ?_
  refine gfX12_408 rfl dX12_statement_1 (fun x1 => ?_)
  refine x_jn (σ := Mem) 250 (fun s2 => [none, none, none, none]) (fun s2 => []) (fun s2 => s2) (fun s2 => ?_) (fun j250 hj250 => ?_)
  · exact x_vret rfl dX12_statement_250
  refine x_table (tgt := 226) dX12_statement_4 [(416, 52), (417, 108), (418, 226), (419, 115), (420, 161), (421, 161), (422, 161), (423, 219)] (by decide +kernel) (by decide +kernel) (by decide) ?_ ?_
  · refine swG_d (by decide) ?_ (swG_d (by decide) ?_ (swG_d (by decide) ?_ (swG_d (by decide) ?_ (swG_d (by decide) ?_ (swG_d (by decide) ?_ (swG_d (by decide) ?_ (swG_d (by decide) ?_ (trivial))))))))
    · refine x_aload_n dX12_statement_52 rfl ?_
      refine cmX12_436 rfl hs (Nat.le_of_ble_eq_true rfl) dX12_statement_53 (fun M3 => ?_)
      refine x_aload_n dX12_statement_56 rfl ?_
      refine cmX12_514 rfl hs (Nat.le_of_ble_eq_true rfl) dX12_statement_57 (fun x5 M4 => ?_)
      refine x_if_eq (tgt := 250) dX12_statement_60 (by decide) (fun _ => ?_) (fun _ => ?_)
      · exact x_weak (by exact trivial) (hj250 M4)
      · refine x_aload_n dX12_statement_63 rfl ?_
        refine gfX12_415 rfl dX12_statement_64 (fun x6 => ?_)
        refine x_lstore_n (lo' := [some (va_rf a0), some (.long x6), none, none]) dX12_statement_67 (by decide) (xok_r rfl) rfl ?_
        refine x_aload_n dX12_statement_68 rfl ?_
        refine cmX12_436 rfl hs (Nat.le_of_ble_eq_true rfl) dX12_statement_69 (fun M7 => ?_)
        refine x_aload_n dX12_statement_72 rfl ?_
        refine x_bipush (v := 61) dX12_statement_73 (by decide) ?_
        refine cmX12_517 rfl hs (Nat.le_of_ble_eq_true rfl) dX12_statement_75 (fun x9 M8 => ?_)
        refine x_pop dX12_statement_78 (xc1_i _) ?_
        refine x_aload_n dX12_statement_79 rfl ?_
        refine cmX12_473 rfl hs (Nat.le_of_ble_eq_true rfl) dX12_statement_80 (fun M10 => ?_)
        refine x_aload_n dX12_statement_83 rfl ?_
        refine x_iconst (v := 2) dX12_statement_84 (by decide) ?_
        refine x_aload_n dX12_statement_85 rfl ?_
        refine gfX12_448 rfl dX12_statement_86 (fun x11 => ?_)
        refine cmX12_465 rfl hs (Nat.le_of_ble_eq_true rfl) dX12_statement_89 (fun x13 M12 => ?_)
        refine x_pop dX12_statement_92 (xc1_i _) ?_
        refine x_aload_n dX12_statement_93 rfl ?_
        refine x_bipush (v := 59) dX12_statement_94 (by decide) ?_
        refine cmX12_517 rfl hs (Nat.le_of_ble_eq_true rfl) dX12_statement_96 (fun x15 M14 => ?_)
        refine x_pop dX12_statement_99 (xc1_i _) ?_
        refine x_aload_n dX12_statement_100 rfl ?_
        refine x_lload_n dX12_statement_101 rfl ?_
        refine cmX12_520 rfl hs (Nat.le_of_ble_eq_true rfl) dX12_statement_102 (fun M16 => ?_)
        refine x_goto (tgt := 250) dX12_statement_105 (by decide) ?_
        exact x_weak (by exact trivial) (hj250 M16)
    · refine x_aload_n dX12_statement_108 rfl ?_
      refine cmX12_524 rfl hs (Nat.le_of_ble_eq_true rfl) dX12_statement_109 (fun M17 => ?_)
      refine x_goto (tgt := 250) dX12_statement_112 (by decide) ?_
      exact x_weak (by exact trivial) (hj250 M17)
    · refine x_aload_n dX12_statement_226 rfl ?_
      refine x_aload_n dX12_statement_227 rfl ?_
      refine gfX12_408 rfl dX12_statement_228 (fun x18 => ?_)
      refine x_iconst (v := 1) dX12_statement_231 (by decide) ?_
      refine x_jn (σ := Int32) 240 (fun s19 => [some (va_rf a0), none, none, none]) (fun s19 => [.int s19, va_rf a0]) (fun s19 => M0) (fun s19 => ?_) (fun j240 hj240 => ?_)
      · refine cmX12_432 rfl hs (Nat.le_of_ble_eq_true rfl) dX12_statement_240 (fun x21 M20 => ?_)
        refine x_if_eq (tgt := 250) dX12_statement_243 (by decide) (fun _ => ?_) (fun _ => ?_)
        · exact x_weak (by exact trivial) (hj250 M20)
        · refine x_aload_n dX12_statement_246 rfl ?_
          refine cmX12_533 rfl hs (Nat.le_of_ble_eq_true rfl) dX12_statement_247 (fun M22 => ?_)
          exact x_weak (by exact trivial) (hj250 M22)
      refine x_icmp_ne (tgt := 239) dX12_statement_232 (by decide) (fun _ => ?_) (fun _ => ?_)
      · refine x_iconst (v := 1) dX12_statement_235 (by decide) ?_
        refine x_goto (tgt := 240) dX12_statement_236 (by decide) ?_
        exact x_weak (by exact ⟨rfl, trivial⟩) (hj240 ((1 : Int32)))
      · refine x_iconst (v := 0) dX12_statement_239 (by decide) ?_
        exact x_weak (by exact ⟨rfl, trivial⟩) (hj240 ((0 : Int32)))
    · refine x_aload_n dX12_statement_115 rfl ?_
      refine gfX12_439 rfl dX12_statement_116 (fun x23 => ?_)
      refine x_istore_n (lo' := [some (va_rf a0), some (.int x23), none, none]) dX12_statement_119 (by decide) (xok_r rfl) rfl ?_
      refine x_aload_n dX12_statement_120 rfl ?_
      refine cmX12_436 rfl hs (Nat.le_of_ble_eq_true rfl) dX12_statement_121 (fun M24 => ?_)
      refine x_aload_n dX12_statement_124 rfl ?_
      refine cmX12_473 rfl hs (Nat.le_of_ble_eq_true rfl) dX12_statement_125 (fun M25 => ?_)
      refine x_aload_n dX12_statement_128 rfl ?_
      refine x_bipush (v := 24) dX12_statement_129 (by decide) ?_
      refine x_iconst (v := 0) dX12_statement_131 (by decide) ?_
      refine cmX12_465 rfl hs (Nat.le_of_ble_eq_true rfl) dX12_statement_132 (fun x27 M26 => ?_)
      refine x_istore_n (lo' := [some (va_rf a0), some (.int x23), some (.int x27), none]) dX12_statement_135 (by decide) rfl rfl ?_
      refine x_aload_n dX12_statement_136 rfl ?_
      refine cmX12_527 rfl hs (Nat.le_of_ble_eq_true rfl) dX12_statement_137 (fun M28 => ?_)
      refine x_aload_n dX12_statement_140 rfl ?_
      refine x_bipush (v := 25) dX12_statement_141 (by decide) ?_
      refine x_iload_n dX12_statement_143 rfl ?_
      refine cmX12_465 rfl hs (Nat.le_of_ble_eq_true rfl) dX12_statement_144 (fun x30 M29 => ?_)
      refine x_pop dX12_statement_147 (xc1_i _) ?_
      refine x_aload_n dX12_statement_148 rfl ?_
      refine gfX12_179 rfl dX12_statement_149 (fun x31 => ?_)
      refine x_iload_n dX12_statement_152 rfl ?_
      refine x_aload_n dX12_statement_153 rfl ?_
      refine gfX12_439 rfl dX12_statement_154 (fun x32 => ?_)
      refine x_iast dX12_statement_157 (fun M33 => ?_)
      refine x_goto (tgt := 250) dX12_statement_158 (by decide) ?_
      exact x_weak (by exact trivial) (hj250 M33)
    · refine x_aload_n dX12_statement_161 rfl ?_
      refine gfX12_408 rfl dX12_statement_162 (fun x34 => ?_)
      refine x_sipush (v := 420) dX12_statement_165 (by decide) ?_
      refine x_jn (σ := Int32) 193 (fun s35 => [some (va_rf a0), none, none, none]) (fun s35 => [.int s35]) (fun s35 => M0) (fun s35 => ?_) (fun j193 hj193 => ?_)
      · refine x_istore_n (lo' := [some (va_rf a0), none, none, some (.int s35)]) dX12_statement_193 (by decide) rfl rfl ?_
        refine x_aload_n dX12_statement_194 rfl ?_
        refine cmX12_436 rfl hs (Nat.le_of_ble_eq_true rfl) dX12_statement_195 (fun M36 => ?_)
        refine x_aload_n dX12_statement_198 rfl ?_
        refine cmX12_473 rfl hs (Nat.le_of_ble_eq_true rfl) dX12_statement_199 (fun M37 => ?_)
        refine x_aload_n dX12_statement_202 rfl ?_
        refine x_iload_n dX12_statement_203 rfl ?_
        refine x_iconst (v := 0) dX12_statement_204 (by decide) ?_
        refine cmX12_465 rfl hs (Nat.le_of_ble_eq_true rfl) dX12_statement_205 (fun x39 M38 => ?_)
        refine x_pop dX12_statement_208 (xc1_i _) ?_
        refine x_aload_n dX12_statement_209 rfl ?_
        refine x_bipush (v := 59) dX12_statement_210 (by decide) ?_
        refine cmX12_517 rfl hs (Nat.le_of_ble_eq_true rfl) dX12_statement_212 (fun x41 M40 => ?_)
        refine x_pop dX12_statement_215 (xc1_i _) ?_
        refine x_goto (tgt := 250) dX12_statement_216 (by decide) ?_
        exact x_weak (by exact trivial) (hj250 M40)
      refine x_icmp_ne (tgt := 176) dX12_statement_168 (by decide) (fun _ => ?_) (fun _ => ?_)
      · refine x_bipush (v := 8) dX12_statement_171 (by decide) ?_
        refine x_goto (tgt := 193) dX12_statement_173 (by decide) ?_
        exact x_weak (by exact ⟨rfl, trivial⟩) (hj193 ((8 : Int32)))
      · refine x_aload_n dX12_statement_176 rfl ?_
        refine gfX12_408 rfl dX12_statement_177 (fun x42 => ?_)
        refine x_sipush (v := 421) dX12_statement_180 (by decide) ?_
        refine x_icmp_ne (tgt := 191) dX12_statement_183 (by decide) (fun _ => ?_) (fun _ => ?_)
        · refine x_bipush (v := 28) dX12_statement_186 (by decide) ?_
          refine x_goto (tgt := 193) dX12_statement_188 (by decide) ?_
          exact x_weak (by exact ⟨rfl, trivial⟩) (hj193 ((28 : Int32)))
        · refine x_bipush (v := 29) dX12_statement_191 (by decide) ?_
          exact x_weak (by exact ⟨rfl, trivial⟩) (hj193 ((29 : Int32)))
    · refine x_aload_n dX12_statement_161 rfl ?_
      refine gfX12_408 rfl dX12_statement_162 (fun x43 => ?_)
      refine x_sipush (v := 420) dX12_statement_165 (by decide) ?_
      refine x_jn (σ := Int32) 193 (fun s44 => [some (va_rf a0), none, none, none]) (fun s44 => [.int s44]) (fun s44 => M0) (fun s44 => ?_) (fun j193 hj193 => ?_)
      · refine x_istore_n (lo' := [some (va_rf a0), none, none, some (.int s44)]) dX12_statement_193 (by decide) rfl rfl ?_
        refine x_aload_n dX12_statement_194 rfl ?_
        refine cmX12_436 rfl hs (Nat.le_of_ble_eq_true rfl) dX12_statement_195 (fun M45 => ?_)
        refine x_aload_n dX12_statement_198 rfl ?_
        refine cmX12_473 rfl hs (Nat.le_of_ble_eq_true rfl) dX12_statement_199 (fun M46 => ?_)
        refine x_aload_n dX12_statement_202 rfl ?_
        refine x_iload_n dX12_statement_203 rfl ?_
        refine x_iconst (v := 0) dX12_statement_204 (by decide) ?_
        refine cmX12_465 rfl hs (Nat.le_of_ble_eq_true rfl) dX12_statement_205 (fun x48 M47 => ?_)
        refine x_pop dX12_statement_208 (xc1_i _) ?_
        refine x_aload_n dX12_statement_209 rfl ?_
        refine x_bipush (v := 59) dX12_statement_210 (by decide) ?_
        refine cmX12_517 rfl hs (Nat.le_of_ble_eq_true rfl) dX12_statement_212 (fun x50 M49 => ?_)
        refine x_pop dX12_statement_215 (xc1_i _) ?_
        refine x_goto (tgt := 250) dX12_statement_216 (by decide) ?_
        exact x_weak (by exact trivial) (hj250 M49)
      refine x_icmp_ne (tgt := 176) dX12_statement_168 (by decide) (fun _ => ?_) (fun _ => ?_)
      · refine x_bipush (v := 8) dX12_statement_171 (by decide) ?_
        refine x_goto (tgt := 193) dX12_statement_173 (by decide) ?_
        exact x_weak (by exact ⟨rfl, trivial⟩) (hj193 ((8 : Int32)))
      · refine x_aload_n dX12_statement_176 rfl ?_
        refine gfX12_408 rfl dX12_statement_177 (fun x51 => ?_)
        refine x_sipush (v := 421) dX12_statement_180 (by decide) ?_
        refine x_icmp_ne (tgt := 191) dX12_statement_183 (by decide) (fun _ => ?_) (fun _ => ?_)
        · refine x_bipush (v := 28) dX12_statement_186 (by decide) ?_
          refine x_goto (tgt := 193) dX12_statement_188 (by decide) ?_
          exact x_weak (by exact ⟨rfl, trivial⟩) (hj193 ((28 : Int32)))
        · refine x_bipush (v := 29) dX12_statement_191 (by decide) ?_
          exact x_weak (by exact ⟨rfl, trivial⟩) (hj193 ((29 : Int32)))
    · refine x_aload_n dX12_statement_161 rfl ?_
      refine gfX12_408 rfl dX12_statement_162 (fun x52 => ?_)
      refine x_sipush (v := 420) dX12_statement_165 (by decide) ?_
      refine x_jn (σ := Int32) 193 (fun s53 => [some (va_rf a0), none, none, none]) (fun s53 => [.int s53]) (fun s53 => M0) (fun s53 => ?_) (fun j193 hj193 => ?_)
      · refine x_istore_n (lo' := [some (va_rf a0), none, none, some (.int s53)]) dX12_statement_193 (by decide) rfl rfl ?_
        refine x_aload_n dX12_statement_194 rfl ?_
        refine cmX12_436 rfl hs (Nat.le_of_ble_eq_true rfl) dX12_statement_195 (fun M54 => ?_)
        refine x_aload_n dX12_statement_198 rfl ?_
        refine cmX12_473 rfl hs (Nat.le_of_ble_eq_true rfl) dX12_statement_199 (fun M55 => ?_)
        refine x_aload_n dX12_statement_202 rfl ?_
        refine x_iload_n dX12_statement_203 rfl ?_
        refine x_iconst (v := 0) dX12_statement_204 (by decide) ?_
        refine cmX12_465 rfl hs (Nat.le_of_ble_eq_true rfl) dX12_statement_205 (fun x57 M56 => ?_)
        refine x_pop dX12_statement_208 (xc1_i _) ?_
        refine x_aload_n dX12_statement_209 rfl ?_
        refine x_bipush (v := 59) dX12_statement_210 (by decide) ?_
        refine cmX12_517 rfl hs (Nat.le_of_ble_eq_true rfl) dX12_statement_212 (fun x59 M58 => ?_)
        refine x_pop dX12_statement_215 (xc1_i _) ?_
        refine x_goto (tgt := 250) dX12_statement_216 (by decide) ?_
        exact x_weak (by exact trivial) (hj250 M58)
      refine x_icmp_ne (tgt := 176) dX12_statement_168 (by decide) (fun _ => ?_) (fun _ => ?_)
      · refine x_bipush (v := 8) dX12_statement_171 (by decide) ?_
        refine x_goto (tgt := 193) dX12_statement_173 (by decide) ?_
        exact x_weak (by exact ⟨rfl, trivial⟩) (hj193 ((8 : Int32)))
      · refine x_aload_n dX12_statement_176 rfl ?_
        refine gfX12_408 rfl dX12_statement_177 (fun x60 => ?_)
        refine x_sipush (v := 421) dX12_statement_180 (by decide) ?_
        refine x_icmp_ne (tgt := 191) dX12_statement_183 (by decide) (fun _ => ?_) (fun _ => ?_)
        · refine x_bipush (v := 28) dX12_statement_186 (by decide) ?_
          refine x_goto (tgt := 193) dX12_statement_188 (by decide) ?_
          exact x_weak (by exact ⟨rfl, trivial⟩) (hj193 ((28 : Int32)))
        · refine x_bipush (v := 29) dX12_statement_191 (by decide) ?_
          exact x_weak (by exact ⟨rfl, trivial⟩) (hj193 ((29 : Int32)))
    · refine x_aload_n dX12_statement_219 rfl ?_
      refine cmX12_530 rfl hs (Nat.le_of_ble_eq_true rfl) dX12_statement_220 (fun M61 => ?_)
      refine x_goto (tgt := 250) dX12_statement_223 (by decide) ?_
      exact x_weak (by exact trivial) (hj250 M61)
  · refine x_aload_n dX12_statement_226 rfl ?_
    refine x_aload_n dX12_statement_227 rfl ?_
    refine gfX12_408 rfl dX12_statement_228 (fun x62 => ?_)
    refine x_iconst (v := 1) dX12_statement_231 (by decide) ?_
    refine x_jn (σ := Int32) 240 (fun s63 => [some (va_rf a0), none, none, none]) (fun s63 => [.int s63, va_rf a0]) (fun s63 => M0) (fun s63 => ?_) (fun j240 hj240 => ?_)
    · refine cmX12_432 rfl hs (Nat.le_of_ble_eq_true rfl) dX12_statement_240 (fun x65 M64 => ?_)
      refine x_if_eq (tgt := 250) dX12_statement_243 (by decide) (fun _ => ?_) (fun _ => ?_)
      · exact x_weak (by exact trivial) (hj250 M64)
      · refine x_aload_n dX12_statement_246 rfl ?_
        refine cmX12_533 rfl hs (Nat.le_of_ble_eq_true rfl) dX12_statement_247 (fun M66 => ?_)
        exact x_weak (by exact trivial) (hj250 M66)
    refine x_icmp_ne (tgt := 239) dX12_statement_232 (by decide) (fun _ => ?_) (fun _ => ?_)
    · refine x_iconst (v := 1) dX12_statement_235 (by decide) ?_
      refine x_goto (tgt := 240) dX12_statement_236 (by decide) ?_
      exact x_weak (by exact ⟨rfl, trivial⟩) (hj240 ((1 : Int32)))
    · refine x_iconst (v := 0) dX12_statement_239 (by decide) ?_
      exact x_weak (by exact ⟨rfl, trivial⟩) (hj240 ((0 : Int32)))
theorem s214 {l : Launch} {d : Nat} {rec : Nat → List Value → Mem → XA} (hS : Nonempty XS) (hs : XSnd l xmt rec d) : Snd1 l 214 (b214 rec) d := by
  intro as M r M' h0
  unfold b214 at h0
  obtain ⟨a0, l1, e1, h1⟩ := aR_inv h0
  obtain ⟨ez, h⟩ := aZ_inv h1
  subst ez
  subst e1
  exact xmet (M := M) (as := [va_rf a0]) (lo := [some (va_rf a0)]) 214 xq214 xm214 (by rw [xargs_rf, xargs_nil]; exact ⟨rfl, trivial⟩) (by rw [xargs_rf, xargs_nil]; exact Nat.le_of_ble_eq_true rfl) (fun S G K => x_weak (by exact ⟨rfl, trivial⟩) (k214 hs a0 M)) h hS
set_option maxRecDepth 100000 in
def c215 (rec : Nat → List Value → Mem → XA) (a0 : Option Nat) (M0 : Mem) : XA :=
  vC (13, 157) M0 a0 <|
  cV (rec 191 [va_rf a0] M0) fun M1 =>
  vC (13, 157) M1 a0 <|
  cV (rec 211 [va_rf a0] M1) fun M2 =>
  vC (13, 157) M2 a0 <|
  cI (rec 196 [va_rf a0, .int ((24 : Int32)), .int ((0 : Int32))] M2) fun x4 M3 =>
  vC (13, 157) M3 a0 <|
  cV (rec 213 [va_rf a0] M3) fun M5 =>
  gtI (13, 157) M5 a0 41 fun x6 =>
  jn (fun (s7 : Mem) =>
    some (.null, s7)) fun j86 =>
  jn (fun (s8 : Unit) =>
    gtP (13, 157) M5 a0 45 fun x9 =>
    gtI (13, 157) M5 a0 43 fun x10 =>
    asI 100 M5 x9 x4 x10 fun M11 =>
    j86 M11) fun j76 =>
  if x6 = 0 then (
    gtI (13, 157) M5 a0 36 fun x12 =>
    if x12 = ((418 : Int32)) then (
      vC (13, 157) M5 a0 <|
      cI (rec 196 [va_rf a0, .int ((25 : Int32)), .int ((0 : Int32))] M5) fun x14 M13 =>
      gtP (13, 157) M13 a0 45 fun x15 =>
      gtI (13, 157) M13 a0 43 fun x16 =>
      asI 100 M13 x15 x4 x16 fun M17 =>
      vC (13, 157) M17 a0 <|
      cV (rec 191 [va_rf a0] M17) fun M18 =>
      vC (13, 157) M18 a0 <|
      cV (rec 213 [va_rf a0] M18) fun M19 =>
      gtP (13, 157) M19 a0 45 fun x20 =>
      gtI (13, 157) M19 a0 43 fun x21 =>
      asI 100 M19 x20 x14 x21 fun M22 =>
      j86 M22) else (
      j76 ())) else (
    j76 ())
def b215 (rec : Nat → List Value → Mem → XA) (as : List Value) (M0 : Mem) : XA := aR as fun a0 as => aZ as (c215 rec a0 M0)
set_option maxRecDepth 100000 in
set_option maxHeartbeats 4000000 in
theorem k215 {S : XS} {G : XG} {K : Nat × Nat} {l : Launch} {d : Nat} {rec : Nat → List Value → Mem → XA} (hs : XSnd l xmt rec d) (a0 : Option Nat) (M0 : Mem) : Xe S G K l (yX12_choice, cX12_choice, 3, none) d 0 [some (va_rf a0), none, none] [] M0 (c215 rec a0 M0) := by
  unfold c215
  refine x_aload_n dX12_choice_0 rfl ?_
  refine cmX12_436 rfl hs (Nat.le_of_ble_eq_true rfl) dX12_choice_1 (fun M1 => ?_)
  refine x_aload_n dX12_choice_4 rfl ?_
  refine cmX12_473 rfl hs (Nat.le_of_ble_eq_true rfl) dX12_choice_5 (fun M2 => ?_)
  refine x_aload_n dX12_choice_8 rfl ?_
  refine x_bipush (v := 24) dX12_choice_9 (by decide) ?_
  refine x_iconst (v := 0) dX12_choice_11 (by decide) ?_
  refine cmX12_465 rfl hs (Nat.le_of_ble_eq_true rfl) dX12_choice_12 (fun x4 M3 => ?_)
  refine x_istore_n (lo' := [some (va_rf a0), some (.int x4), none]) dX12_choice_15 (by decide) (xok_r rfl) rfl ?_
  refine x_aload_n dX12_choice_16 rfl ?_
  refine cmX12_527 rfl hs (Nat.le_of_ble_eq_true rfl) dX12_choice_17 (fun M5 => ?_)
  refine x_aload_n dX12_choice_20 rfl ?_
  refine gfX12_395 rfl dX12_choice_21 (fun x6 => ?_)
  refine x_jn (σ := Mem) 86 (fun s7 => [none, none, none]) (fun s7 => []) (fun s7 => s7) (fun s7 => ?_) (fun j86 hj86 => ?_)
  · exact x_vret rfl dX12_choice_86
  refine x_jn (σ := Unit) 76 (fun s8 => [some (va_rf a0), some (.int x4), none]) (fun s8 => []) (fun s8 => M5) (fun s8 => ?_) (fun j76 hj76 => ?_)
  · refine x_aload_n dX12_choice_76 rfl ?_
    refine gfX12_179 rfl dX12_choice_77 (fun x9 => ?_)
    refine x_iload_n dX12_choice_80 rfl ?_
    refine x_aload_n dX12_choice_81 rfl ?_
    refine gfX12_439 rfl dX12_choice_82 (fun x10 => ?_)
    refine x_iast dX12_choice_85 (fun M11 => ?_)
    exact x_weak (by exact trivial) (hj86 M11)
  refine x_if_ne (tgt := 76) dX12_choice_24 (by decide) (fun _ => ?_) (fun _ => ?_)
  · refine x_aload_n dX12_choice_27 rfl ?_
    refine gfX12_408 rfl dX12_choice_28 (fun x12 => ?_)
    refine x_sipush (v := 418) dX12_choice_31 (by decide) ?_
    refine x_icmp_ne (tgt := 76) dX12_choice_34 (by decide) (fun _ => ?_) (fun _ => ?_)
    · refine x_aload_n dX12_choice_37 rfl ?_
      refine x_bipush (v := 25) dX12_choice_38 (by decide) ?_
      refine x_iconst (v := 0) dX12_choice_40 (by decide) ?_
      refine cmX12_465 rfl hs (Nat.le_of_ble_eq_true rfl) dX12_choice_41 (fun x14 M13 => ?_)
      refine x_istore_n (lo' := [some (va_rf a0), some (.int x4), some (.int x14)]) dX12_choice_44 (by decide) rfl rfl ?_
      refine x_aload_n dX12_choice_45 rfl ?_
      refine gfX12_179 rfl dX12_choice_46 (fun x15 => ?_)
      refine x_iload_n dX12_choice_49 rfl ?_
      refine x_aload_n dX12_choice_50 rfl ?_
      refine gfX12_439 rfl dX12_choice_51 (fun x16 => ?_)
      refine x_iast dX12_choice_54 (fun M17 => ?_)
      refine x_aload_n dX12_choice_55 rfl ?_
      refine cmX12_436 rfl hs (Nat.le_of_ble_eq_true rfl) dX12_choice_56 (fun M18 => ?_)
      refine x_aload_n dX12_choice_59 rfl ?_
      refine cmX12_527 rfl hs (Nat.le_of_ble_eq_true rfl) dX12_choice_60 (fun M19 => ?_)
      refine x_aload_n dX12_choice_63 rfl ?_
      refine gfX12_179 rfl dX12_choice_64 (fun x20 => ?_)
      refine x_iload_n dX12_choice_67 rfl ?_
      refine x_aload_n dX12_choice_68 rfl ?_
      refine gfX12_439 rfl dX12_choice_69 (fun x21 => ?_)
      refine x_iast dX12_choice_72 (fun M22 => ?_)
      refine x_goto (tgt := 86) dX12_choice_73 (by decide) ?_
      exact x_weak (by exact trivial) (hj86 M22)
    · exact x_weak (by exact ⟨rfl, ⟨rfl, trivial⟩⟩) (hj76 ())
  · exact x_weak (by exact ⟨rfl, ⟨rfl, trivial⟩⟩) (hj76 ())
theorem s215 {l : Launch} {d : Nat} {rec : Nat → List Value → Mem → XA} (hS : Nonempty XS) (hs : XSnd l xmt rec d) : Snd1 l 215 (b215 rec) d := by
  intro as M r M' h0
  unfold b215 at h0
  obtain ⟨a0, l1, e1, h1⟩ := aR_inv h0
  obtain ⟨ez, h⟩ := aZ_inv h1
  subst ez
  subst e1
  exact xmet (M := M) (as := [va_rf a0]) (lo := [some (va_rf a0)]) 215 xq215 xm215 (by rw [xargs_rf, xargs_nil]; exact ⟨rfl, trivial⟩) (by rw [xargs_rf, xargs_nil]; exact Nat.le_of_ble_eq_true rfl) (fun S G K => x_weak (by exact ⟨rfl, trivial⟩) (k215 hs a0 M)) h hS
set_option maxRecDepth 100000 in
def c216 (rec : Nat → List Value → Mem → XA) (a0 : Option Nat) (M0 : Mem) : XA :=
  vC (13, 157) M0 a0 <|
  cI (rec 196 [va_rf a0, .int ((26 : Int32)), .int ((0 : Int32))] M0) fun x2 M1 =>
  vC (13, 157) M1 a0 <|
  cV (rec 191 [va_rf a0] M1) fun M3 =>
  vC (13, 157) M3 a0 <|
  cV (rec 213 [va_rf a0] M3) fun M4 =>
  vC (13, 157) M4 a0 <|
  cI (rec 196 [va_rf a0, .int ((27 : Int32)), .int ((0 : Int32))] M4) fun x6 M5 =>
  vC (13, 157) M5 a0 <|
  cI (rec 196 [va_rf a0, .int ((25 : Int32)), .int ((0 : Int32))] M5) fun x8 M7 =>
  gtP (13, 157) M7 a0 45 fun x9 =>
  gtI (13, 157) M7 a0 43 fun x10 =>
  asI 100 M7 x9 x2 x10 fun M11 =>
  vC (13, 157) M11 a0 <|
  cI (rec 195 [va_rf a0, .int ((424 : Int32))] M11) fun x13 M12 =>
  vC (13, 157) M12 a0 <|
  cI (rec 198 [va_rf a0] M12) fun x15 M14 =>
  jn (fun (s16 : Mem) =>
    some (.null, s16)) fun j103 =>
  if x15 = 0 then (
    j103 M14) else (
    gtI (13, 157) M14 a0 51 fun x17 =>
    vC (13, 157) M14 a0 <|
    cI (rec 196 [va_rf a0, .int ((2 : Int32)), .int x17] M14) fun x19 M18 =>
    gtL (13, 157) M18 a0 39 fun x20 =>
    vC (13, 157) M18 a0 <|
    cV (rec 199 [va_rf a0, .long x20] M18) fun M21 =>
    vC (13, 157) M21 a0 <|
    cV (rec 191 [va_rf a0] M21) fun M22 =>
    vC (13, 157) M22 a0 <|
    cV (rec 213 [va_rf a0] M22) fun M23 =>
    gtI (13, 157) M23 a0 51 fun x24 =>
    ptI (13, 157) M23 a0 51 (x24 - ((1 : Int32))) fun M25 =>
    gtP (13, 157) M25 a0 45 fun x26 =>
    gtI (13, 157) M25 a0 43 fun x27 =>
    asI 100 M25 x26 x8 x27 fun M28 =>
    j103 M28)
def b216 (rec : Nat → List Value → Mem → XA) (as : List Value) (M0 : Mem) : XA := aR as fun a0 as => aZ as (c216 rec a0 M0)
set_option maxRecDepth 100000 in
set_option maxHeartbeats 4000000 in
theorem k216 {S : XS} {G : XG} {K : Nat × Nat} {l : Launch} {d : Nat} {rec : Nat → List Value → Mem → XA} (hs : XSnd l xmt rec d) (a0 : Option Nat) (M0 : Mem) : Xe S G K l (yX12_tryOne, cX12_tryOne, 3, none) d 0 [some (va_rf a0), none, none] [] M0 (c216 rec a0 M0) := by
  unfold c216
  refine x_aload_n dX12_tryOne_0 rfl ?_
  refine x_bipush (v := 26) dX12_tryOne_1 (by decide) ?_
  refine x_iconst (v := 0) dX12_tryOne_3 (by decide) ?_
  refine cmX12_465 rfl hs (Nat.le_of_ble_eq_true rfl) dX12_tryOne_4 (fun x2 M1 => ?_)
  refine x_istore_n (lo' := [some (va_rf a0), some (.int x2), none]) dX12_tryOne_7 (by decide) (xok_r rfl) rfl ?_
  refine x_aload_n dX12_tryOne_8 rfl ?_
  refine cmX12_436 rfl hs (Nat.le_of_ble_eq_true rfl) dX12_tryOne_9 (fun M3 => ?_)
  refine x_aload_n dX12_tryOne_12 rfl ?_
  refine cmX12_527 rfl hs (Nat.le_of_ble_eq_true rfl) dX12_tryOne_13 (fun M4 => ?_)
  refine x_aload_n dX12_tryOne_16 rfl ?_
  refine x_bipush (v := 27) dX12_tryOne_17 (by decide) ?_
  refine x_iconst (v := 0) dX12_tryOne_19 (by decide) ?_
  refine cmX12_465 rfl hs (Nat.le_of_ble_eq_true rfl) dX12_tryOne_20 (fun x6 M5 => ?_)
  refine x_pop dX12_tryOne_23 (xc1_i _) ?_
  refine x_aload_n dX12_tryOne_24 rfl ?_
  refine x_bipush (v := 25) dX12_tryOne_25 (by decide) ?_
  refine x_iconst (v := 0) dX12_tryOne_27 (by decide) ?_
  refine cmX12_465 rfl hs (Nat.le_of_ble_eq_true rfl) dX12_tryOne_28 (fun x8 M7 => ?_)
  refine x_istore_n (lo' := [some (va_rf a0), some (.int x2), some (.int x8)]) dX12_tryOne_31 (by decide) rfl rfl ?_
  refine x_aload_n dX12_tryOne_32 rfl ?_
  refine gfX12_179 rfl dX12_tryOne_33 (fun x9 => ?_)
  refine x_iload_n dX12_tryOne_36 rfl ?_
  refine x_aload_n dX12_tryOne_37 rfl ?_
  refine gfX12_439 rfl dX12_tryOne_38 (fun x10 => ?_)
  refine x_iast dX12_tryOne_41 (fun M11 => ?_)
  refine x_aload_n dX12_tryOne_42 rfl ?_
  refine x_sipush (v := 424) dX12_tryOne_43 (by decide) ?_
  refine cmX12_517 rfl hs (Nat.le_of_ble_eq_true rfl) dX12_tryOne_46 (fun x13 M12 => ?_)
  refine x_pop dX12_tryOne_49 (xc1_i _) ?_
  refine x_aload_n dX12_tryOne_50 rfl ?_
  refine cmX12_514 rfl hs (Nat.le_of_ble_eq_true rfl) dX12_tryOne_51 (fun x15 M14 => ?_)
  refine x_jn (σ := Mem) 103 (fun s16 => [none, none, none]) (fun s16 => []) (fun s16 => s16) (fun s16 => ?_) (fun j103 hj103 => ?_)
  · exact x_vret rfl dX12_tryOne_103
  refine x_if_eq (tgt := 103) dX12_tryOne_54 (by decide) (fun _ => ?_) (fun _ => ?_)
  · exact x_weak (by exact trivial) (hj103 M14)
  · refine x_aload_n dX12_tryOne_57 rfl ?_
    refine x_iconst (v := 2) dX12_tryOne_58 (by decide) ?_
    refine x_aload_n dX12_tryOne_59 rfl ?_
    refine gfX12_448 rfl dX12_tryOne_60 (fun x17 => ?_)
    refine cmX12_465 rfl hs (Nat.le_of_ble_eq_true rfl) dX12_tryOne_63 (fun x19 M18 => ?_)
    refine x_pop dX12_tryOne_66 (xc1_i _) ?_
    refine x_aload_n dX12_tryOne_67 rfl ?_
    refine x_aload_n dX12_tryOne_68 rfl ?_
    refine gfX12_415 rfl dX12_tryOne_69 (fun x20 => ?_)
    refine cmX12_520 rfl hs (Nat.le_of_ble_eq_true rfl) dX12_tryOne_72 (fun M21 => ?_)
    refine x_aload_n dX12_tryOne_75 rfl ?_
    refine cmX12_436 rfl hs (Nat.le_of_ble_eq_true rfl) dX12_tryOne_76 (fun M22 => ?_)
    refine x_aload_n dX12_tryOne_79 rfl ?_
    refine cmX12_527 rfl hs (Nat.le_of_ble_eq_true rfl) dX12_tryOne_80 (fun M23 => ?_)
    refine x_aload_n dX12_tryOne_83 rfl ?_
    refine x_dup dX12_tryOne_84 (xc1_r _) ?_
    refine gfX12_448 rfl dX12_tryOne_85 (fun x24 => ?_)
    refine x_iconst (v := 1) dX12_tryOne_88 (by decide) ?_
    refine x_isub dX12_tryOne_89 ?_
    refine pfX12_448 rfl dX12_tryOne_90 (fun M25 => ?_)
    refine x_aload_n dX12_tryOne_93 rfl ?_
    refine gfX12_179 rfl dX12_tryOne_94 (fun x26 => ?_)
    refine x_iload_n dX12_tryOne_97 rfl ?_
    refine x_aload_n dX12_tryOne_98 rfl ?_
    refine gfX12_439 rfl dX12_tryOne_99 (fun x27 => ?_)
    refine x_iast dX12_tryOne_102 (fun M28 => ?_)
    exact x_weak (by exact trivial) (hj103 M28)
theorem s216 {l : Launch} {d : Nat} {rec : Nat → List Value → Mem → XA} (hS : Nonempty XS) (hs : XSnd l xmt rec d) : Snd1 l 216 (b216 rec) d := by
  intro as M r M' h0
  unfold b216 at h0
  obtain ⟨a0, l1, e1, h1⟩ := aR_inv h0
  obtain ⟨ez, h⟩ := aZ_inv h1
  subst ez
  subst e1
  exact xmet (M := M) (as := [va_rf a0]) (lo := [some (va_rf a0)]) 216 xq216 xm216 (by rw [xargs_rf, xargs_nil]; exact ⟨rfl, trivial⟩) (by rw [xargs_rf, xargs_nil]; exact Nat.le_of_ble_eq_true rfl) (fun S G K => x_weak (by exact ⟨rfl, trivial⟩) (k216 hs a0 M)) h hS
set_option maxRecDepth 100000 in
def c217 (rec : Nat → List Value → Mem → XA) (a0 : Option Nat) (M0 : Mem) : XA :=
  vC (13, 157) M0 a0 <|
  cI (rec 201 [va_rf a0] M0) fun x2 M1 =>
  gtI (13, 157) M1 a0 41 fun x3 =>
  if x3 = 0 then (
    gtP (13, 157) M1 a0 56 fun x4 =>
    alL M1 x4 x2 fun x5 =>
    jn (fun (s6 : Int32 × Mem) =>
      gtI (13, 157) s6.2 a0 36 fun x7 =>
      jn (fun (s8 : Mem) =>
        some (.null, s8)) fun j168 =>
      if x7 = ((40 : Int32)) then (
        vC (13, 157) s6.2 a0 <|
        cV (rec 204 [va_rf a0, .int x2] s6.2) fun M9 =>
        vC (13, 157) M9 a0 <|
        cI (rec 195 [va_rf a0, .int ((59 : Int32))] M9) fun x11 M10 =>
        vC (13, 157) M10 a0 <|
        cI (rec 196 [va_rf a0, .int ((9 : Int32)), .int ((0 : Int32))] M10) fun x13 M12 =>
        j168 M12) else (
        gtI (13, 157) s6.2 a0 36 fun x14 =>
        if x14 = ((91 : Int32)) then (
          vC (13, 157) s6.2 a0 <|
          cV (rec 203 [va_rf a0] s6.2) fun M15 =>
          vC (13, 157) M15 a0 <|
          cI (rec 195 [va_rf a0, .int ((61 : Int32))] M15) fun x17 M16 =>
          vC (13, 157) M16 a0 <|
          cV (rec 211 [va_rf a0] M16) fun M18 =>
          vC (13, 157) M18 a0 <|
          cV (rec 202 [va_rf a0, .int x2, .int ((3 : Int32)), .int ((6 : Int32))] M18) fun M19 =>
          vC (13, 157) M19 a0 <|
          cI (rec 195 [va_rf a0, .int ((59 : Int32))] M19) fun x21 M20 =>
          j168 M20) else (
          vC (13, 157) s6.2 a0 <|
          cI (rec 195 [va_rf a0, .int ((61 : Int32))] s6.2) fun x23 M22 =>
          if x23 = 0 then (
            j168 M22) else (
            jn (fun (s24 : Mem) =>
              vC (13, 157) s24 a0 <|
              cV (rec 211 [va_rf a0] s24) fun M25 =>
              jn (fun (s26 : Mem) =>
                vC (13, 157) s26 a0 <|
                cI (rec 195 [va_rf a0, .int ((59 : Int32))] s26) fun x28 M27 =>
                j168 M27) fun j161 =>
              if s6.1 < 0 then (
                vC (13, 157) M25 a0 <|
                cV (rec 202 [va_rf a0, .int x2, .int ((1 : Int32)), .int ((4 : Int32))] M25) fun M29 =>
                j161 M29) else (
                vC (13, 157) M25 a0 <|
                cI (rec 196 [va_rf a0, .int ((2 : Int32)), .int s6.1] M25) fun x31 M30 =>
                j161 M30)) fun j136 =>
            if s6.1 < 0 then (
              j136 M22) else (
              gtI (13, 157) M22 a0 53 fun x32 =>
              ptI (13, 157) M22 a0 53 (x32 - ((1 : Int32))) fun M33 =>
              j136 M33))))) fun j38 =>
    if (lg_cmp x5 ((0 : Int64))) = 0 then (
      gtP (13, 157) M1 a0 58 fun x34 =>
      alL M1 x34 x2 fun x35 =>
      vC (13, 157) M1 a0 <|
      cI (rec 197 [va_rf a0, .long x35] M1) fun x37 M36 =>
      j38 (x37, M36)) else (
      j38 ((-1 : Int32), M1))) else (
    some (.null, M1))
def b217 (rec : Nat → List Value → Mem → XA) (as : List Value) (M0 : Mem) : XA := aR as fun a0 as => aZ as (c217 rec a0 M0)
set_option maxRecDepth 100000 in
set_option maxHeartbeats 4000000 in
theorem k217 {S : XS} {G : XG} {K : Nat × Nat} {l : Launch} {d : Nat} {rec : Nat → List Value → Mem → XA} (hs : XSnd l xmt rec d) (a0 : Option Nat) (M0 : Mem) : Xe S G K l (yX12_given, cX12_given, 3, none) d 0 [some (va_rf a0), none, none] [] M0 (c217 rec a0 M0) := by
  unfold c217
  refine x_aload_n dX12_given_0 rfl ?_
  refine cmX12_480 rfl hs (Nat.le_of_ble_eq_true rfl) dX12_given_1 (fun x2 M1 => ?_)
  refine x_istore_n (lo' := [some (va_rf a0), some (.int x2), none]) dX12_given_4 (by decide) (xok_r rfl) rfl ?_
  refine x_aload_n dX12_given_5 rfl ?_
  refine gfX12_395 rfl dX12_given_6 (fun x3 => ?_)
  refine x_if_eq (tgt := 13) dX12_given_9 (by decide) (fun _ => ?_) (fun _ => ?_)
  · refine x_aload_n dX12_given_13 rfl ?_
    refine gfX12_197 rfl dX12_given_14 (fun x4 => ?_)
    refine x_iload_n dX12_given_17 rfl ?_
    refine x_lald dX12_given_18 (fun x5 => ?_)
    refine x_lconst (v := 0) dX12_given_19 (by decide) ?_
    refine x_lcmp dX12_given_20 ?_
    refine x_jn (σ := Int32 × Mem) 38 (fun s6 => [some (va_rf a0), some (.int x2), none]) (fun s6 => [.int s6.1]) (fun s6 => s6.2) (fun s6 => ?_) (fun j38 hj38 => ?_)
    · refine x_istore_n (lo' := [some (va_rf a0), some (.int x2), some (.int s6.1)]) dX12_given_38 (by decide) rfl rfl ?_
      refine x_aload_n dX12_given_39 rfl ?_
      refine gfX12_408 rfl dX12_given_40 (fun x7 => ?_)
      refine x_bipush (v := 40) dX12_given_43 (by decide) ?_
      refine x_jn (σ := Mem) 168 (fun s8 => [none, none, none]) (fun s8 => []) (fun s8 => s8) (fun s8 => ?_) (fun j168 hj168 => ?_)
      · exact x_vret rfl dX12_given_168
      refine x_icmp_ne (tgt := 71) dX12_given_45 (by decide) (fun _ => ?_) (fun _ => ?_)
      · refine x_aload_n dX12_given_48 rfl ?_
        refine x_iload_n dX12_given_49 rfl ?_
        refine cmX12_483 rfl hs (Nat.le_of_ble_eq_true rfl) dX12_given_50 (fun M9 => ?_)
        refine x_aload_n dX12_given_53 rfl ?_
        refine x_bipush (v := 59) dX12_given_54 (by decide) ?_
        refine cmX12_517 rfl hs (Nat.le_of_ble_eq_true rfl) dX12_given_56 (fun x11 M10 => ?_)
        refine x_pop dX12_given_59 (xc1_i _) ?_
        refine x_aload_n dX12_given_60 rfl ?_
        refine x_bipush (v := 9) dX12_given_61 (by decide) ?_
        refine x_iconst (v := 0) dX12_given_63 (by decide) ?_
        refine cmX12_465 rfl hs (Nat.le_of_ble_eq_true rfl) dX12_given_64 (fun x13 M12 => ?_)
        refine x_pop dX12_given_67 (xc1_i _) ?_
        refine x_goto (tgt := 168) dX12_given_68 (by decide) ?_
        exact x_weak (by exact trivial) (hj168 M12)
      · refine x_aload_n dX12_given_71 rfl ?_
        refine gfX12_408 rfl dX12_given_72 (fun x14 => ?_)
        refine x_bipush (v := 91) dX12_given_75 (by decide) ?_
        refine x_icmp_ne (tgt := 113) dX12_given_77 (by decide) (fun _ => ?_) (fun _ => ?_)
        · refine x_aload_n dX12_given_80 rfl ?_
          refine cmX12_487 rfl hs (Nat.le_of_ble_eq_true rfl) dX12_given_81 (fun M15 => ?_)
          refine x_aload_n dX12_given_84 rfl ?_
          refine x_bipush (v := 61) dX12_given_85 (by decide) ?_
          refine cmX12_517 rfl hs (Nat.le_of_ble_eq_true rfl) dX12_given_87 (fun x17 M16 => ?_)
          refine x_pop dX12_given_90 (xc1_i _) ?_
          refine x_aload_n dX12_given_91 rfl ?_
          refine cmX12_473 rfl hs (Nat.le_of_ble_eq_true rfl) dX12_given_92 (fun M18 => ?_)
          refine x_aload_n dX12_given_95 rfl ?_
          refine x_iload_n dX12_given_96 rfl ?_
          refine x_iconst (v := 3) dX12_given_97 (by decide) ?_
          refine x_bipush (v := 6) dX12_given_98 (by decide) ?_
          refine cmX12_476 rfl hs (Nat.le_of_ble_eq_true rfl) dX12_given_100 (fun M19 => ?_)
          refine x_aload_n dX12_given_103 rfl ?_
          refine x_bipush (v := 59) dX12_given_104 (by decide) ?_
          refine cmX12_517 rfl hs (Nat.le_of_ble_eq_true rfl) dX12_given_106 (fun x21 M20 => ?_)
          refine x_pop dX12_given_109 (xc1_i _) ?_
          refine x_goto (tgt := 168) dX12_given_110 (by decide) ?_
          exact x_weak (by exact trivial) (hj168 M20)
        · refine x_aload_n dX12_given_113 rfl ?_
          refine x_bipush (v := 61) dX12_given_114 (by decide) ?_
          refine cmX12_517 rfl hs (Nat.le_of_ble_eq_true rfl) dX12_given_116 (fun x23 M22 => ?_)
          refine x_if_eq (tgt := 168) dX12_given_119 (by decide) (fun _ => ?_) (fun _ => ?_)
          · exact x_weak (by exact trivial) (hj168 M22)
          · refine x_iload_n dX12_given_122 rfl ?_
            refine x_jn (σ := Mem) 136 (fun s24 => [some (va_rf a0), some (.int x2), some (.int s6.1)]) (fun s24 => []) (fun s24 => s24) (fun s24 => ?_) (fun j136 hj136 => ?_)
            · refine x_aload_n dX12_given_136 rfl ?_
              refine cmX12_473 rfl hs (Nat.le_of_ble_eq_true rfl) dX12_given_137 (fun M25 => ?_)
              refine x_iload_n dX12_given_140 rfl ?_
              refine x_jn (σ := Mem) 161 (fun s26 => [some (va_rf a0), none, none]) (fun s26 => []) (fun s26 => s26) (fun s26 => ?_) (fun j161 hj161 => ?_)
              · refine x_aload_n dX12_given_161 rfl ?_
                refine x_bipush (v := 59) dX12_given_162 (by decide) ?_
                refine cmX12_517 rfl hs (Nat.le_of_ble_eq_true rfl) dX12_given_164 (fun x28 M27 => ?_)
                refine x_pop dX12_given_167 (xc1_i _) ?_
                exact x_weak (by exact trivial) (hj168 M27)
              refine x_if_lt (tgt := 154) dX12_given_141 (by decide) (fun _ => ?_) (fun _ => ?_)
              · refine x_aload_n dX12_given_154 rfl ?_
                refine x_iload_n dX12_given_155 rfl ?_
                refine x_iconst (v := 1) dX12_given_156 (by decide) ?_
                refine x_iconst (v := 4) dX12_given_157 (by decide) ?_
                refine cmX12_476 rfl hs (Nat.le_of_ble_eq_true rfl) dX12_given_158 (fun M29 => ?_)
                exact x_weak (by exact ⟨rfl, trivial⟩) (hj161 M29)
              · refine x_aload_n dX12_given_144 rfl ?_
                refine x_iconst (v := 2) dX12_given_145 (by decide) ?_
                refine x_iload_n dX12_given_146 rfl ?_
                refine cmX12_465 rfl hs (Nat.le_of_ble_eq_true rfl) dX12_given_147 (fun x31 M30 => ?_)
                refine x_pop dX12_given_150 (xc1_i _) ?_
                refine x_goto (tgt := 161) dX12_given_151 (by decide) ?_
                exact x_weak (by exact ⟨rfl, trivial⟩) (hj161 M30)
            refine x_if_lt (tgt := 136) dX12_given_123 (by decide) (fun _ => ?_) (fun _ => ?_)
            · exact x_weak (by exact ⟨rfl, ⟨rfl, ⟨rfl, trivial⟩⟩⟩) (hj136 M22)
            · refine x_aload_n dX12_given_126 rfl ?_
              refine x_dup dX12_given_127 (xc1_r _) ?_
              refine gfX12_462 rfl dX12_given_128 (fun x32 => ?_)
              refine x_iconst (v := 1) dX12_given_131 (by decide) ?_
              refine x_isub dX12_given_132 ?_
              refine pfX12_462 rfl dX12_given_133 (fun M33 => ?_)
              exact x_weak (by exact ⟨rfl, ⟨rfl, ⟨rfl, trivial⟩⟩⟩) (hj136 M33)
    refine x_if_ne (tgt := 37) dX12_given_21 (by decide) (fun _ => ?_) (fun _ => ?_)
    · refine x_aload_n dX12_given_24 rfl ?_
      refine x_aload_n dX12_given_25 rfl ?_
      refine gfX12_203 rfl dX12_given_26 (fun x34 => ?_)
      refine x_iload_n dX12_given_29 rfl ?_
      refine x_lald dX12_given_30 (fun x35 => ?_)
      refine cmX12_451 rfl hs (Nat.le_of_ble_eq_true rfl) dX12_given_31 (fun x37 M36 => ?_)
      refine x_goto (tgt := 38) dX12_given_34 (by decide) ?_
      exact x_weak (by exact ⟨rfl, ⟨rfl, trivial⟩⟩) (hj38 (x37, M36))
    · refine x_iconst (v := -1) dX12_given_37 (by decide) ?_
      exact x_weak (by exact ⟨rfl, ⟨rfl, trivial⟩⟩) (hj38 ((-1 : Int32), M1))
  · exact x_vret rfl dX12_given_12
theorem s217 {l : Launch} {d : Nat} {rec : Nat → List Value → Mem → XA} (hS : Nonempty XS) (hs : XSnd l xmt rec d) : Snd1 l 217 (b217 rec) d := by
  intro as M r M' h0
  unfold b217 at h0
  obtain ⟨a0, l1, e1, h1⟩ := aR_inv h0
  obtain ⟨ez, h⟩ := aZ_inv h1
  subst ez
  subst e1
  exact xmet (M := M) (as := [va_rf a0]) (lo := [some (va_rf a0)]) 217 xq217 xm217 (by rw [xargs_rf, xargs_nil]; exact ⟨rfl, trivial⟩) (by rw [xargs_rf, xargs_nil]; exact Nat.le_of_ble_eq_true rfl) (fun S G K => x_weak (by exact ⟨rfl, trivial⟩) (k217 hs a0 M)) h hS
set_option maxRecDepth 100000 in
def c218 (rec : Nat → List Value → Mem → XA) (a0 : Option Nat) (a1 : Int32) (M0 : Mem) : XA :=
  gtI (13, 157) M0 a0 43 fun x1 =>
  ptI (13, 157) M0 a0 50 ((0 : Int32)) fun M2 =>
  ptZ (13, 157) M2 a0 48 a1 fun M3 =>
  vC (13, 157) M3 a0 <|
  cV (rec 212 [va_rf a0] M3) fun M4 =>
  vC (13, 157) M4 a0 <|
  cI (rec 196 [va_rf a0, .int ((0 : Int32)), .int ((0 : Int32))] M4) fun x6 M5 =>
  vC (13, 157) M5 a0 <|
  cI (rec 196 [va_rf a0, .int ((8 : Int32)), .int ((0 : Int32))] M5) fun x8 M7 =>
  gtI (13, 157) M7 a0 41 fun x9 =>
  jn (fun (s10 : Mem) =>
    vC (13, 157) s10 a0 <|
    cV (rec 191 [va_rf a0] s10) fun M11 =>
    some (.int x1, M11)) fun j75 =>
  if x9 = 0 then (
    gtI (13, 157) M7 a0 43 fun x12 =>
    jn (fun (s13 : Int32) =>
      vC (13, 157) M7 a0 <|
      cI (rec 194 [va_rf a0, .int s13, .int ((6 : Int32))] M7) fun x15 M14 =>
      j75 M14) fun j69 =>
    jn (fun (s16 : Unit) =>
      j69 ((0 : Int32))) fun j68 =>
    if ((200 : Int32)) < (x12 - x1) then (
      j68 ()) else (
      gtI (13, 157) M7 a0 43 fun x17 =>
      if ((1000 : Int32)) < x17 then (
        j68 ()) else (
        j69 ((1 : Int32))))) else (
    j75 M7)
def b218 (rec : Nat → List Value → Mem → XA) (as : List Value) (M0 : Mem) : XA := aR as fun a0 as => aI as fun a1 as => aZ as (c218 rec a0 a1 M0)
set_option maxRecDepth 100000 in
set_option maxHeartbeats 4000000 in
theorem k218 {S : XS} {G : XG} {K : Nat × Nat} {l : Launch} {d : Nat} {rec : Nat → List Value → Mem → XA} (hs : XSnd l xmt rec d) (a0 : Option Nat) (a1 : Int32) (M0 : Mem) : Xe S G K l (yX12_code, cX12_code, 3, some .int) d 0 [some (va_rf a0), some (.int a1), none] [] M0 (c218 rec a0 a1 M0) := by
  unfold c218
  refine x_aload_n dX12_code_0 rfl ?_
  refine gfX12_439 rfl dX12_code_1 (fun x1 => ?_)
  refine x_istore_n (lo' := [some (va_rf a0), some (.int a1), some (.int x1)]) dX12_code_4 (by decide) rfl rfl ?_
  refine x_aload_n dX12_code_5 rfl ?_
  refine x_iconst (v := 0) dX12_code_6 (by decide) ?_
  refine pfX12_459 rfl dX12_code_7 (fun M2 => ?_)
  refine x_aload_n dX12_code_10 rfl ?_
  refine x_iload_n dX12_code_11 rfl ?_
  refine pfX12_444 rfl dX12_code_12 (fun M3 => ?_)
  refine x_aload_n dX12_code_15 rfl ?_
  refine cmX12_511 rfl hs (Nat.le_of_ble_eq_true rfl) dX12_code_16 (fun M4 => ?_)
  refine x_aload_n dX12_code_19 rfl ?_
  refine x_iconst (v := 0) dX12_code_20 (by decide) ?_
  refine x_iconst (v := 0) dX12_code_21 (by decide) ?_
  refine cmX12_465 rfl hs (Nat.le_of_ble_eq_true rfl) dX12_code_22 (fun x6 M5 => ?_)
  refine x_pop dX12_code_25 (xc1_i _) ?_
  refine x_aload_n dX12_code_26 rfl ?_
  refine x_bipush (v := 8) dX12_code_27 (by decide) ?_
  refine x_iconst (v := 0) dX12_code_29 (by decide) ?_
  refine cmX12_465 rfl hs (Nat.le_of_ble_eq_true rfl) dX12_code_30 (fun x8 M7 => ?_)
  refine x_pop dX12_code_33 (xc1_i _) ?_
  refine x_aload_n dX12_code_34 rfl ?_
  refine gfX12_395 rfl dX12_code_35 (fun x9 => ?_)
  refine x_jn (σ := Mem) 75 (fun s10 => [some (va_rf a0), none, some (.int x1)]) (fun s10 => []) (fun s10 => s10) (fun s10 => ?_) (fun j75 hj75 => ?_)
  · refine x_aload_n dX12_code_75 rfl ?_
    refine cmX12_436 rfl hs (Nat.le_of_ble_eq_true rfl) dX12_code_76 (fun M11 => ?_)
    refine x_iload_n dX12_code_79 rfl ?_
    exact x_iret rfl dX12_code_80
  refine x_if_ne (tgt := 75) dX12_code_38 (by decide) (fun _ => ?_) (fun _ => ?_)
  · refine x_aload_n dX12_code_41 rfl ?_
    refine x_aload_n dX12_code_42 rfl ?_
    refine gfX12_439 rfl dX12_code_43 (fun x12 => ?_)
    refine x_iload_n dX12_code_46 rfl ?_
    refine x_isub dX12_code_47 ?_
    refine x_sipush (v := 200) dX12_code_48 (by decide) ?_
    refine x_jn (σ := Int32) 69 (fun s13 => [some (va_rf a0), none, some (.int x1)]) (fun s13 => [.int s13, va_rf a0]) (fun s13 => M7) (fun s13 => ?_) (fun j69 hj69 => ?_)
    · refine x_bipush (v := 6) dX12_code_69 (by decide) ?_
      refine cmX12_455 rfl hs (Nat.le_of_ble_eq_true rfl) dX12_code_71 (fun x15 M14 => ?_)
      refine x_pop dX12_code_74 (xc1_i _) ?_
      exact x_weak (by exact ⟨rfl, ⟨rfl, trivial⟩⟩) (hj75 M14)
    refine x_jn (σ := Unit) 68 (fun s16 => [some (va_rf a0), none, some (.int x1)]) (fun s16 => [va_rf a0]) (fun s16 => M7) (fun s16 => ?_) (fun j68 hj68 => ?_)
    · refine x_iconst (v := 0) dX12_code_68 (by decide) ?_
      exact x_weak (by exact ⟨rfl, ⟨rfl, trivial⟩⟩) (hj69 ((0 : Int32)))
    refine x_icmp_gt (tgt := 68) dX12_code_51 (by decide) (fun _ => ?_) (fun _ => ?_)
    · exact x_weak (by exact ⟨rfl, ⟨rfl, trivial⟩⟩) (hj68 ())
    · refine x_aload_n dX12_code_54 rfl ?_
      refine gfX12_439 rfl dX12_code_55 (fun x17 => ?_)
      refine x_sipush (v := 1000) dX12_code_58 (by decide) ?_
      refine x_icmp_gt (tgt := 68) dX12_code_61 (by decide) (fun _ => ?_) (fun _ => ?_)
      · exact x_weak (by exact ⟨rfl, ⟨rfl, trivial⟩⟩) (hj68 ())
      · refine x_iconst (v := 1) dX12_code_64 (by decide) ?_
        refine x_goto (tgt := 69) dX12_code_65 (by decide) ?_
        exact x_weak (by exact ⟨rfl, ⟨rfl, trivial⟩⟩) (hj69 ((1 : Int32)))
  · exact x_weak (by exact ⟨rfl, ⟨rfl, trivial⟩⟩) (hj75 M7)
theorem s218 {l : Launch} {d : Nat} {rec : Nat → List Value → Mem → XA} (hS : Nonempty XS) (hs : XSnd l xmt rec d) : Snd1 l 218 (b218 rec) d := by
  intro as M r M' h0
  unfold b218 at h0
  obtain ⟨a0, l1, e1, h1⟩ := aR_inv h0
  obtain ⟨a1, l2, e2, h2⟩ := aI_inv h1
  obtain ⟨ez, h⟩ := aZ_inv h2
  subst ez
  subst e2
  subst e1
  exact xmet (M := M) (as := [va_rf a0, .int a1]) (lo := [some (va_rf a0), some (.int a1)]) 218 xq218 xm218 (by rw [xargs_rf, xargs_i, xargs_nil]; exact ⟨rfl, ⟨rfl, trivial⟩⟩) (by rw [xargs_rf, xargs_i, xargs_nil]; exact Nat.le_of_ble_eq_true rfl) (fun S G K => x_weak (by exact ⟨rfl, ⟨rfl, trivial⟩⟩) (k218 hs a0 a1 M)) h hS
set_option maxRecDepth 100000 in
def c219 (rec : Nat → List Value → Mem → XA) (a0 : Option Nat) (M0 : Mem) : XA :=
  gtI (13, 157) M0 a0 36 fun x1 =>
  jn (fun (s2 : Int32) =>
    jn (fun (s3 : Mem) =>
      gtI (13, 157) s3 a0 41 fun x4 =>
      jn (fun (s5 : Mem) =>
        some (.null, s5)) fun j74 =>
      if x4 = 0 then (
        gtI (13, 157) s3 a0 36 fun x6 =>
        jn (fun (s7 : Int32) =>
          vC (13, 157) s3 a0 <|
          cI (rec 193 [va_rf a0, .int s7] s3) fun x9 M8 =>
          if x9 = 0 then (
            j74 M8) else (
            jn (fun (s10 : Int32) =>
              ptI (13, 157) M8 a0 62 s10 fun M11 =>
              vC (13, 157) M11 a0 <|
              cV (rec 191 [va_rf a0] M11) fun M12 =>
              j74 M12) fun j67 =>
            if s2 = 0 then (
              gtI (13, 157) M8 a0 40 fun x13 =>
              j67 x13) else (
              gtI (13, 157) M8 a0 40 fun x14 =>
              j67 (-x14)))) fun j44 =>
        if x6 = ((2 : Int32)) then (
          j44 ((1 : Int32))) else (
          j44 ((0 : Int32)))) else (
        j74 s3)) fun j23 =>
    if s2 = 0 then (
      j23 M0) else (
      vC (13, 157) M0 a0 <|
      cV (rec 191 [va_rf a0] M0) fun M15 =>
      j23 M15)) fun j14 =>
  if x1 = ((45 : Int32)) then (
    j14 ((1 : Int32))) else (
    j14 ((0 : Int32)))
def b219 (rec : Nat → List Value → Mem → XA) (as : List Value) (M0 : Mem) : XA := aR as fun a0 as => aZ as (c219 rec a0 M0)
set_option maxRecDepth 100000 in
set_option maxHeartbeats 4000000 in
theorem k219 {S : XS} {G : XG} {K : Nat × Nat} {l : Launch} {d : Nat} {rec : Nat → List Value → Mem → XA} (hs : XSnd l xmt rec d) (a0 : Option Nat) (M0 : Mem) : Xe S G K l (yX12_signed, cX12_signed, 2, none) d 0 [some (va_rf a0), none] [] M0 (c219 rec a0 M0) := by
  unfold c219
  refine x_aload_n dX12_signed_0 rfl ?_
  refine gfX12_408 rfl dX12_signed_1 (fun x1 => ?_)
  refine x_bipush (v := 45) dX12_signed_4 (by decide) ?_
  refine x_jn (σ := Int32) 14 (fun s2 => [some (va_rf a0), none]) (fun s2 => [.int s2]) (fun s2 => M0) (fun s2 => ?_) (fun j14 hj14 => ?_)
  · refine x_istore_n (lo' := [some (va_rf a0), some (.int s2)]) dX12_signed_14 (by decide) (xok_r rfl) rfl ?_
    refine x_iload_n dX12_signed_15 rfl ?_
    refine x_jn (σ := Mem) 23 (fun s3 => [some (va_rf a0), some (.int s2)]) (fun s3 => []) (fun s3 => s3) (fun s3 => ?_) (fun j23 hj23 => ?_)
    · refine x_aload_n dX12_signed_23 rfl ?_
      refine gfX12_395 rfl dX12_signed_24 (fun x4 => ?_)
      refine x_jn (σ := Mem) 74 (fun s5 => [none, none]) (fun s5 => []) (fun s5 => s5) (fun s5 => ?_) (fun j74 hj74 => ?_)
      · exact x_vret rfl dX12_signed_74
      refine x_if_ne (tgt := 74) dX12_signed_27 (by decide) (fun _ => ?_) (fun _ => ?_)
      · refine x_aload_n dX12_signed_30 rfl ?_
        refine x_aload_n dX12_signed_31 rfl ?_
        refine gfX12_408 rfl dX12_signed_32 (fun x6 => ?_)
        refine x_iconst (v := 2) dX12_signed_35 (by decide) ?_
        refine x_jn (σ := Int32) 44 (fun s7 => [some (va_rf a0), some (.int s2)]) (fun s7 => [.int s7, va_rf a0]) (fun s7 => s3) (fun s7 => ?_) (fun j44 hj44 => ?_)
        · refine cmX12_432 rfl hs (Nat.le_of_ble_eq_true rfl) dX12_signed_44 (fun x9 M8 => ?_)
          refine x_if_eq (tgt := 74) dX12_signed_47 (by decide) (fun _ => ?_) (fun _ => ?_)
          · exact x_weak (by exact trivial) (hj74 M8)
          · refine x_aload_n dX12_signed_50 rfl ?_
            refine x_iload_n dX12_signed_51 rfl ?_
            refine x_jn (σ := Int32) 67 (fun s10 => [some (va_rf a0), none]) (fun s10 => [.int s10, va_rf a0]) (fun s10 => M8) (fun s10 => ?_) (fun j67 hj67 => ?_)
            · refine pfX12_536 rfl dX12_signed_67 (fun M11 => ?_)
              refine x_aload_n dX12_signed_70 rfl ?_
              refine cmX12_436 rfl hs (Nat.le_of_ble_eq_true rfl) dX12_signed_71 (fun M12 => ?_)
              exact x_weak (by exact trivial) (hj74 M12)
            refine x_if_eq (tgt := 63) dX12_signed_52 (by decide) (fun _ => ?_) (fun _ => ?_)
            · refine x_aload_n dX12_signed_63 rfl ?_
              refine gfX12_422 rfl dX12_signed_64 (fun x13 => ?_)
              exact x_weak (by exact ⟨rfl, trivial⟩) (hj67 x13)
            · refine x_aload_n dX12_signed_55 rfl ?_
              refine gfX12_422 rfl dX12_signed_56 (fun x14 => ?_)
              refine x_ineg dX12_signed_59 ?_
              refine x_goto (tgt := 67) dX12_signed_60 (by decide) ?_
              exact x_weak (by exact ⟨rfl, trivial⟩) (hj67 (-x14))
        refine x_icmp_ne (tgt := 43) dX12_signed_36 (by decide) (fun _ => ?_) (fun _ => ?_)
        · refine x_iconst (v := 1) dX12_signed_39 (by decide) ?_
          refine x_goto (tgt := 44) dX12_signed_40 (by decide) ?_
          exact x_weak (by exact ⟨rfl, ⟨rfl, trivial⟩⟩) (hj44 ((1 : Int32)))
        · refine x_iconst (v := 0) dX12_signed_43 (by decide) ?_
          exact x_weak (by exact ⟨rfl, ⟨rfl, trivial⟩⟩) (hj44 ((0 : Int32)))
      · exact x_weak (by exact trivial) (hj74 s3)
    refine x_if_eq (tgt := 23) dX12_signed_16 (by decide) (fun _ => ?_) (fun _ => ?_)
    · exact x_weak (by exact ⟨rfl, ⟨rfl, trivial⟩⟩) (hj23 M0)
    · refine x_aload_n dX12_signed_19 rfl ?_
      refine cmX12_436 rfl hs (Nat.le_of_ble_eq_true rfl) dX12_signed_20 (fun M15 => ?_)
      exact x_weak (by exact ⟨rfl, ⟨rfl, trivial⟩⟩) (hj23 M15)
  refine x_icmp_ne (tgt := 13) dX12_signed_6 (by decide) (fun _ => ?_) (fun _ => ?_)
  · refine x_iconst (v := 1) dX12_signed_9 (by decide) ?_
    refine x_goto (tgt := 14) dX12_signed_10 (by decide) ?_
    exact x_weak (by exact ⟨rfl, trivial⟩) (hj14 ((1 : Int32)))
  · refine x_iconst (v := 0) dX12_signed_13 (by decide) ?_
    exact x_weak (by exact ⟨rfl, trivial⟩) (hj14 ((0 : Int32)))
theorem s219 {l : Launch} {d : Nat} {rec : Nat → List Value → Mem → XA} (hS : Nonempty XS) (hs : XSnd l xmt rec d) : Snd1 l 219 (b219 rec) d := by
  intro as M r M' h0
  unfold b219 at h0
  obtain ⟨a0, l1, e1, h1⟩ := aR_inv h0
  obtain ⟨ez, h⟩ := aZ_inv h1
  subst ez
  subst e1
  exact xmet (M := M) (as := [va_rf a0]) (lo := [some (va_rf a0)]) 219 xq219 xm219 (by rw [xargs_rf, xargs_nil]; exact ⟨rfl, trivial⟩) (by rw [xargs_rf, xargs_nil]; exact Nat.le_of_ble_eq_true rfl) (fun S G K => x_weak (by exact ⟨rfl, trivial⟩) (k219 hs a0 M)) h hS
set_option maxRecDepth 100000 in
def c220_118 (rec : Nat → List Value → Mem → XA) (a0 : Option Nat) (a1 : Int32) (a2 : Int64) (M0 : Mem) (j160 : Unit → XA) (j168 : Unit → XA) : (Int32) → ((Int32) → XA) → XA := fun s10 j118 =>
  gtP (13, 157) M0 a0 25 fun x11 =>
  alI 100 M0 x11 a1 fun x12 =>
  if ((((6 : Int32)) * a1) + x12) ≤ s10 then (
    j168 ()) else (
    gtP (13, 157) M0 a0 63 fun x13 =>
    alI 100 M0 x13 s10 fun x14 =>
    gtI (13, 157) M0 a0 49 fun x15 =>
    jn (fun (s16 : Unit) =>
      lt (s10 + (1 : Int32)) fun (x17 : Int32) =>
      j118 x17) fun j162 =>
    if x14 = x15 then (
      gtP (13, 157) M0 a0 26 fun x18 =>
      alL M0 x18 s10 fun x19 =>
      if (lg_cmp x19 a2) = 0 then (
        j160 ()) else (
        j162 ())) else (
      j162 ()))
set_option maxRecDepth 100000 in
def c220_62 (rec : Nat → List Value → Mem → XA) (a0 : Option Nat) (a1 : Int32) (a2 : Int64) (M0 : Mem) (j104 : Unit → XA) (j112 : Unit → XA) : (Int32) → ((Int32) → XA) → XA := fun s20 j62 =>
  gtP (13, 157) M0 a0 17 fun x21 =>
  alI 100 M0 x21 a1 fun x22 =>
  if ((((16 : Int32)) * a1) + x22) ≤ s20 then (
    j112 ()) else (
    gtP (13, 157) M0 a0 19 fun x23 =>
    alI 100 M0 x23 s20 fun x24 =>
    gtI (13, 157) M0 a0 49 fun x25 =>
    jn (fun (s26 : Unit) =>
      lt (s20 + (1 : Int32)) fun (x27 : Int32) =>
      j62 x27) fun j106 =>
    if x24 = x25 then (
      gtP (13, 157) M0 a0 18 fun x28 =>
      alL M0 x28 s20 fun x29 =>
      if (lg_cmp x29 a2) = 0 then (
        j104 ()) else (
        j106 ())) else (
      j106 ()))
set_option maxRecDepth 100000 in
def c220_6 (rec : Nat → List Value → Mem → XA) (a0 : Option Nat) (a1 : Int32) (a2 : Int64) (M0 : Mem) (j48 : Unit → XA) (j56 : Unit → XA) : (Int32) → ((Int32) → XA) → XA := fun s30 j6 =>
  gtP (13, 157) M0 a0 10 fun x31 =>
  alI 100 M0 x31 a1 fun x32 =>
  if ((((96 : Int32)) * a1) + x32) ≤ s30 then (
    j56 ()) else (
    gtP (13, 157) M0 a0 12 fun x33 =>
    alI 100 M0 x33 s30 fun x34 =>
    gtI (13, 157) M0 a0 49 fun x35 =>
    jn (fun (s36 : Unit) =>
      lt (s30 + (1 : Int32)) fun (x37 : Int32) =>
      j6 x37) fun j50 =>
    if x34 = x35 then (
      gtP (13, 157) M0 a0 11 fun x38 =>
      alL M0 x38 s30 fun x39 =>
      if (lg_cmp x39 a2) = 0 then (
        j48 ()) else (
        j50 ())) else (
      j50 ()))
set_option maxRecDepth 100000 in
def c220 (rec : Nat → List Value → Mem → XA) (a0 : Option Nat) (a1 : Int32) (a2 : Int64) (M0 : Mem) : XA :=
  lt (((96 : Int32)) * a1) fun (x1 : Int32) =>
  jn (fun (s2 : Unit) =>
    rtZ ((1 : Int32)) M0) fun j48 =>
  jn (fun (s3 : Unit) =>
    lt (((16 : Int32)) * a1) fun (x4 : Int32) =>
    jn (fun (s5 : Unit) =>
      rtZ ((1 : Int32)) M0) fun j104 =>
    jn (fun (s6 : Unit) =>
      lt (((6 : Int32)) * a1) fun (x7 : Int32) =>
      jn (fun (s8 : Unit) =>
        rtZ ((1 : Int32)) M0) fun j160 =>
      jn (fun (s9 : Unit) =>
        rtZ ((0 : Int32)) M0) fun j168 =>
      lp (c220_118 rec a0 a1 a2 M0 j160 j168) 4294967296 x7) fun j112 =>
    lp (c220_62 rec a0 a1 a2 M0 j104 j112) 4294967296 x4) fun j56 =>
  lp (c220_6 rec a0 a1 a2 M0 j48 j56) 4294967296 x1
def b220 (rec : Nat → List Value → Mem → XA) (as : List Value) (M0 : Mem) : XA := aR as fun a0 as => aI as fun a1 as => aL as fun a2 as => aZ as (c220 rec a0 a1 a2 M0)
set_option maxRecDepth 100000 in
set_option maxHeartbeats 4000000 in
theorem k220 {S : XS} {G : XG} {K : Nat × Nat} {l : Launch} {d : Nat} {rec : Nat → List Value → Mem → XA} (hs : XSnd l xmt rec d) (a0 : Option Nat) (a1 : Int32) (a2 : Int64) (M0 : Mem) : Xe S G K l (yX12_isTold, cX12_isTold, 5, some .boolean) d 0 [some (va_rf a0), some (.int a1), some (.long a2), none, none] [] M0 (c220 rec a0 a1 a2 M0) := by
  unfold c220
  refine x_bipush (v := 96) dX12_isTold_0 (by decide) ?_
  refine x_iload_n dX12_isTold_2 rfl ?_
  refine x_imul dX12_isTold_3 ?_
  refine x_ltI (fun x1 => ?_)
  refine x_istore (lo' := [some (va_rf a0), some (.int a1), some (.long a2), none, some (.int x1)]) dX12_isTold_4 (by decide) rfl rfl ?_
  refine x_jn (σ := Unit) 48 (fun s2 => [none, none, none, none, none]) (fun s2 => []) (fun s2 => M0) (fun s2 => ?_) (fun j48 hj48 => ?_)
  · refine x_iconst (v := 1) dX12_isTold_48 (by decide) ?_
    exact x_zret rfl dX12_isTold_49
  refine x_jn (σ := Unit) 56 (fun s3 => [some (va_rf a0), some (.int a1), some (.long a2), none, none]) (fun s3 => []) (fun s3 => M0) (fun s3 => ?_) (fun j56 hj56 => ?_)
  · refine x_bipush (v := 16) dX12_isTold_56 (by decide) ?_
    refine x_iload_n dX12_isTold_58 rfl ?_
    refine x_imul dX12_isTold_59 ?_
    refine x_ltI (fun x4 => ?_)
    refine x_istore (lo' := [some (va_rf a0), some (.int a1), some (.long a2), none, some (.int x4)]) dX12_isTold_60 (by decide) rfl rfl ?_
    refine x_jn (σ := Unit) 104 (fun s5 => [none, none, none, none, none]) (fun s5 => []) (fun s5 => M0) (fun s5 => ?_) (fun j104 hj104 => ?_)
    · refine x_iconst (v := 1) dX12_isTold_104 (by decide) ?_
      exact x_zret rfl dX12_isTold_105
    refine x_jn (σ := Unit) 112 (fun s6 => [some (va_rf a0), some (.int a1), some (.long a2), none, none]) (fun s6 => []) (fun s6 => M0) (fun s6 => ?_) (fun j112 hj112 => ?_)
    · refine x_bipush (v := 6) dX12_isTold_112 (by decide) ?_
      refine x_iload_n dX12_isTold_114 rfl ?_
      refine x_imul dX12_isTold_115 ?_
      refine x_ltI (fun x7 => ?_)
      refine x_istore (lo' := [some (va_rf a0), some (.int a1), some (.long a2), none, some (.int x7)]) dX12_isTold_116 (by decide) rfl rfl ?_
      refine x_jn (σ := Unit) 160 (fun s8 => [none, none, none, none, none]) (fun s8 => []) (fun s8 => M0) (fun s8 => ?_) (fun j160 hj160 => ?_)
      · refine x_iconst (v := 1) dX12_isTold_160 (by decide) ?_
        exact x_zret rfl dX12_isTold_161
      refine x_jn (σ := Unit) 168 (fun s9 => [none, none, none, none, none]) (fun s9 => []) (fun s9 => M0) (fun s9 => ?_) (fun j168 hj168 => ?_)
      · refine x_iconst (v := 0) dX12_isTold_168 (by decide) ?_
        exact x_zret rfl dX12_isTold_169
      refine x_weak (by exact ⟨rfl, ⟨rfl, ⟨rfl, ⟨rfl, trivial⟩⟩⟩⟩) (x_lp (σ := Int32) 118 (fun s10 => [some (va_rf a0), some (.int a1), some (.long a2), none, some (.int s10)]) (fun s10 => []) (fun s10 => M0) (fun s10 j118 hj118 => ?_) 4294967296 x7)
      · refine x_iload dX12_isTold_118 rfl ?_
        refine x_bipush (v := 6) dX12_isTold_120 (by decide) ?_
        refine x_iload_n dX12_isTold_122 rfl ?_
        refine x_imul dX12_isTold_123 ?_
        refine x_aload_n dX12_isTold_124 rfl ?_
        refine gfX12_82 rfl dX12_isTold_125 (fun x11 => ?_)
        refine x_iload_n dX12_isTold_128 rfl ?_
        refine x_iald dX12_isTold_129 (fun x12 => ?_)
        refine x_iadd dX12_isTold_130 ?_
        refine x_icmp_ge (tgt := 168) dX12_isTold_131 (by decide) (fun _ => ?_) (fun _ => ?_)
        · exact x_weak (by exact trivial) (hj168 ())
        · refine x_aload_n dX12_isTold_134 rfl ?_
          refine gfX12_215 rfl dX12_isTold_135 (fun x13 => ?_)
          refine x_iload dX12_isTold_138 rfl ?_
          refine x_iald dX12_isTold_140 (fun x14 => ?_)
          refine x_aload_n dX12_isTold_141 rfl ?_
          refine gfX12_442 rfl dX12_isTold_142 (fun x15 => ?_)
          refine x_jn (σ := Unit) 162 (fun s16 => [some (va_rf a0), some (.int a1), some (.long a2), none, some (.int s10)]) (fun s16 => []) (fun s16 => M0) (fun s16 => ?_) (fun j162 hj162 => ?_)
          · refine x_iincN (v := 1) (lo' := fun x17 => [some (va_rf a0), some (.int a1), some (.long a2), none, some (.int x17)]) (by decide) dX12_isTold_162 rfl (by decide) rfl (fun _ => rfl) (fun x17 => ?_)
            refine x_goto (tgt := 118) dX12_isTold_165 (by decide) ?_
            exact x_weak (by exact ⟨rfl, ⟨rfl, ⟨rfl, ⟨rfl, trivial⟩⟩⟩⟩) (hj118 x17)
          refine x_icmp_ne (tgt := 162) dX12_isTold_145 (by decide) (fun _ => ?_) (fun _ => ?_)
          · refine x_aload_n dX12_isTold_148 rfl ?_
            refine gfX12_85 rfl dX12_isTold_149 (fun x18 => ?_)
            refine x_iload dX12_isTold_152 rfl ?_
            refine x_lald dX12_isTold_154 (fun x19 => ?_)
            refine x_lload_n dX12_isTold_155 rfl ?_
            refine x_lcmp dX12_isTold_156 ?_
            refine x_if_ne (tgt := 162) dX12_isTold_157 (by decide) (fun _ => ?_) (fun _ => ?_)
            · exact x_weak (by exact trivial) (hj160 ())
            · exact x_weak (by exact ⟨rfl, ⟨rfl, ⟨rfl, ⟨rfl, trivial⟩⟩⟩⟩) (hj162 ())
          · exact x_weak (by exact ⟨rfl, ⟨rfl, ⟨rfl, ⟨rfl, trivial⟩⟩⟩⟩) (hj162 ())
    refine x_weak (by exact ⟨rfl, ⟨rfl, ⟨rfl, ⟨rfl, trivial⟩⟩⟩⟩) (x_lp (σ := Int32) 62 (fun s20 => [some (va_rf a0), some (.int a1), some (.long a2), none, some (.int s20)]) (fun s20 => []) (fun s20 => M0) (fun s20 j62 hj62 => ?_) 4294967296 x4)
    · refine x_iload dX12_isTold_62 rfl ?_
      refine x_bipush (v := 16) dX12_isTold_64 (by decide) ?_
      refine x_iload_n dX12_isTold_66 rfl ?_
      refine x_imul dX12_isTold_67 ?_
      refine x_aload_n dX12_isTold_68 rfl ?_
      refine gfX12_58 rfl dX12_isTold_69 (fun x21 => ?_)
      refine x_iload_n dX12_isTold_72 rfl ?_
      refine x_iald dX12_isTold_73 (fun x22 => ?_)
      refine x_iadd dX12_isTold_74 ?_
      refine x_icmp_ge (tgt := 112) dX12_isTold_75 (by decide) (fun _ => ?_) (fun _ => ?_)
      · exact x_weak (by exact ⟨rfl, ⟨rfl, ⟨rfl, trivial⟩⟩⟩) (hj112 ())
      · refine x_aload_n dX12_isTold_78 rfl ?_
        refine gfX12_64 rfl dX12_isTold_79 (fun x23 => ?_)
        refine x_iload dX12_isTold_82 rfl ?_
        refine x_iald dX12_isTold_84 (fun x24 => ?_)
        refine x_aload_n dX12_isTold_85 rfl ?_
        refine gfX12_442 rfl dX12_isTold_86 (fun x25 => ?_)
        refine x_jn (σ := Unit) 106 (fun s26 => [some (va_rf a0), some (.int a1), some (.long a2), none, some (.int s20)]) (fun s26 => []) (fun s26 => M0) (fun s26 => ?_) (fun j106 hj106 => ?_)
        · refine x_iincN (v := 1) (lo' := fun x27 => [some (va_rf a0), some (.int a1), some (.long a2), none, some (.int x27)]) (by decide) dX12_isTold_106 rfl (by decide) rfl (fun _ => rfl) (fun x27 => ?_)
          refine x_goto (tgt := 62) dX12_isTold_109 (by decide) ?_
          exact x_weak (by exact ⟨rfl, ⟨rfl, ⟨rfl, ⟨rfl, trivial⟩⟩⟩⟩) (hj62 x27)
        refine x_icmp_ne (tgt := 106) dX12_isTold_89 (by decide) (fun _ => ?_) (fun _ => ?_)
        · refine x_aload_n dX12_isTold_92 rfl ?_
          refine gfX12_61 rfl dX12_isTold_93 (fun x28 => ?_)
          refine x_iload dX12_isTold_96 rfl ?_
          refine x_lald dX12_isTold_98 (fun x29 => ?_)
          refine x_lload_n dX12_isTold_99 rfl ?_
          refine x_lcmp dX12_isTold_100 ?_
          refine x_if_ne (tgt := 106) dX12_isTold_101 (by decide) (fun _ => ?_) (fun _ => ?_)
          · exact x_weak (by exact trivial) (hj104 ())
          · exact x_weak (by exact ⟨rfl, ⟨rfl, ⟨rfl, ⟨rfl, trivial⟩⟩⟩⟩) (hj106 ())
        · exact x_weak (by exact ⟨rfl, ⟨rfl, ⟨rfl, ⟨rfl, trivial⟩⟩⟩⟩) (hj106 ())
  refine x_weak (by exact ⟨rfl, ⟨rfl, ⟨rfl, ⟨rfl, trivial⟩⟩⟩⟩) (x_lp (σ := Int32) 6 (fun s30 => [some (va_rf a0), some (.int a1), some (.long a2), none, some (.int s30)]) (fun s30 => []) (fun s30 => M0) (fun s30 j6 hj6 => ?_) 4294967296 x1)
  · refine x_iload dX12_isTold_6 rfl ?_
    refine x_bipush (v := 96) dX12_isTold_8 (by decide) ?_
    refine x_iload_n dX12_isTold_10 rfl ?_
    refine x_imul dX12_isTold_11 ?_
    refine x_aload_n dX12_isTold_12 rfl ?_
    refine gfX12_36 rfl dX12_isTold_13 (fun x31 => ?_)
    refine x_iload_n dX12_isTold_16 rfl ?_
    refine x_iald dX12_isTold_17 (fun x32 => ?_)
    refine x_iadd dX12_isTold_18 ?_
    refine x_icmp_ge (tgt := 56) dX12_isTold_19 (by decide) (fun _ => ?_) (fun _ => ?_)
    · exact x_weak (by exact ⟨rfl, ⟨rfl, ⟨rfl, trivial⟩⟩⟩) (hj56 ())
    · refine x_aload_n dX12_isTold_22 rfl ?_
      refine gfX12_42 rfl dX12_isTold_23 (fun x33 => ?_)
      refine x_iload dX12_isTold_26 rfl ?_
      refine x_iald dX12_isTold_28 (fun x34 => ?_)
      refine x_aload_n dX12_isTold_29 rfl ?_
      refine gfX12_442 rfl dX12_isTold_30 (fun x35 => ?_)
      refine x_jn (σ := Unit) 50 (fun s36 => [some (va_rf a0), some (.int a1), some (.long a2), none, some (.int s30)]) (fun s36 => []) (fun s36 => M0) (fun s36 => ?_) (fun j50 hj50 => ?_)
      · refine x_iincN (v := 1) (lo' := fun x37 => [some (va_rf a0), some (.int a1), some (.long a2), none, some (.int x37)]) (by decide) dX12_isTold_50 rfl (by decide) rfl (fun _ => rfl) (fun x37 => ?_)
        refine x_goto (tgt := 6) dX12_isTold_53 (by decide) ?_
        exact x_weak (by exact ⟨rfl, ⟨rfl, ⟨rfl, ⟨rfl, trivial⟩⟩⟩⟩) (hj6 x37)
      refine x_icmp_ne (tgt := 50) dX12_isTold_33 (by decide) (fun _ => ?_) (fun _ => ?_)
      · refine x_aload_n dX12_isTold_36 rfl ?_
        refine gfX12_39 rfl dX12_isTold_37 (fun x38 => ?_)
        refine x_iload dX12_isTold_40 rfl ?_
        refine x_lald dX12_isTold_42 (fun x39 => ?_)
        refine x_lload_n dX12_isTold_43 rfl ?_
        refine x_lcmp dX12_isTold_44 ?_
        refine x_if_ne (tgt := 50) dX12_isTold_45 (by decide) (fun _ => ?_) (fun _ => ?_)
        · exact x_weak (by exact trivial) (hj48 ())
        · exact x_weak (by exact ⟨rfl, ⟨rfl, ⟨rfl, ⟨rfl, trivial⟩⟩⟩⟩) (hj50 ())
      · exact x_weak (by exact ⟨rfl, ⟨rfl, ⟨rfl, ⟨rfl, trivial⟩⟩⟩⟩) (hj50 ())
theorem s220 {l : Launch} {d : Nat} {rec : Nat → List Value → Mem → XA} (hS : Nonempty XS) (hs : XSnd l xmt rec d) : Snd1 l 220 (b220 rec) d := by
  intro as M r M' h0
  unfold b220 at h0
  obtain ⟨a0, l1, e1, h1⟩ := aR_inv h0
  obtain ⟨a1, l2, e2, h2⟩ := aI_inv h1
  obtain ⟨a2, l3, e3, h3⟩ := aL_inv h2
  obtain ⟨ez, h⟩ := aZ_inv h3
  subst ez
  subst e3
  subst e2
  subst e1
  exact xmet (M := M) (as := [va_rf a0, .int a1, .long a2]) (lo := [some (va_rf a0), some (.int a1), some (.long a2)]) 220 xq220 xm220 (by rw [xargs_rf, xargs_i, xargs_l, xargs_nil]; exact ⟨rfl, ⟨rfl, ⟨rfl, trivial⟩⟩⟩) (by rw [xargs_rf, xargs_i, xargs_l, xargs_nil]; exact Nat.le_of_ble_eq_true rfl) (fun S G K => x_weak (by exact ⟨rfl, ⟨rfl, ⟨rfl, trivial⟩⟩⟩) (k220 hs a0 a1 a2 M)) h hS
