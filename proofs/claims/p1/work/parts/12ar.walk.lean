set_option maxRecDepth 100000 in
def c244 (rec : Nat → List Value → Mem → XA) (a0 : Option Nat) (a1 : Int32) (a2 : Int32) (a3 : Int32) (M0 : Mem) : XA :=
  jn (fun (s1 : Mem) =>
    some (.null, s1)) fun j76 =>
  if a1 = 0 then (
    vC (13, 157) M0 a0 <|
    cV (rec 241 [va_rf a0, .int a2] M0) fun M2 =>
    j76 M2) else (
    jn (fun (s3 : Unit) =>
      jn (fun (s4 : Unit) =>
        vC (13, 157) M0 a0 <|
        cV (rec 247 [va_rf a0, .int a1, .int a2, .int a3] M0) fun M5 =>
        j76 M5) fun j69 =>
      if a1 < ((3 : Int32)) then (
        j69 ()) else (
        if ((7 : Int32)) < a1 then (
          j69 ()) else (
          vC (13, 157) M0 a0 <|
          cV (rec 249 [va_rf a0, .int a1, .int a3] M0) fun M6 =>
          j76 M6))) fun j49 =>
    if a1 < ((10 : Int32)) then (
      j49 ()) else (
      if ((20 : Int32)) < a1 then (
        j49 ()) else (
        vC (13, 157) M0 a0 <|
        cI (rec 242 [va_rf a0] M0) fun x8 M7 =>
        vC (13, 157) M7 a0 <|
        cI (rec 242 [va_rf a0] M7) fun x10 M9 =>
        vC (13, 157) M9 a0 <|
        cV (rec 246 [va_rf a0, .int a1, .int x10, .int x8, .int a3] M9) fun M11 =>
        j76 M11)))
def b244 (rec : Nat → List Value → Mem → XA) (as : List Value) (M0 : Mem) : XA := aR as fun a0 as => aI as fun a1 as => aI as fun a2 as => aI as fun a3 as => aZ as (c244 rec a0 a1 a2 a3 M0)
set_option maxRecDepth 100000 in
set_option maxHeartbeats 4000000 in
theorem k244 {S : XS} {G : XG} {K : Nat × Nat} {l : Launch} {d : Nat} {rec : Nat → List Value → Mem → XA} (hs : XSnd l xmt rec d) (a0 : Option Nat) (a1 : Int32) (a2 : Int32) (a3 : Int32) (M0 : Mem) : Xe S G K l (yX12_act, cX12_act, 6, none) d 0 [some (va_rf a0), some (.int a1), some (.int a2), some (.int a3), none, none] [] M0 (c244 rec a0 a1 a2 a3 M0) := by
  unfold c244
  refine x_iload_n dX12_act_0 rfl ?_
  refine x_jn (σ := Mem) 76 (fun s1 => [none, none, none, none, none, none]) (fun s1 => []) (fun s1 => s1) (fun s1 => ?_) (fun j76 hj76 => ?_)
  · exact x_vret rfl dX12_act_76
  refine x_if_ne (tgt := 12) dX12_act_1 (by decide) (fun _ => ?_) (fun _ => ?_)
  · refine x_aload_n dX12_act_4 rfl ?_
    refine x_iload_n dX12_act_5 rfl ?_
    refine cmX12_659 rfl hs (Nat.le_of_ble_eq_true rfl) dX12_act_6 (fun M2 => ?_)
    refine x_goto (tgt := 76) dX12_act_9 (by decide) ?_
    exact x_weak (by exact trivial) (hj76 M2)
  · refine x_iload_n dX12_act_12 rfl ?_
    refine x_bipush (v := 10) dX12_act_13 (by decide) ?_
    refine x_jn (σ := Unit) 49 (fun s3 => [some (va_rf a0), some (.int a1), some (.int a2), some (.int a3), none, none]) (fun s3 => []) (fun s3 => M0) (fun s3 => ?_) (fun j49 hj49 => ?_)
    · refine x_iload_n dX12_act_49 rfl ?_
      refine x_iconst (v := 3) dX12_act_50 (by decide) ?_
      refine x_jn (σ := Unit) 69 (fun s4 => [some (va_rf a0), some (.int a1), some (.int a2), some (.int a3), none, none]) (fun s4 => []) (fun s4 => M0) (fun s4 => ?_) (fun j69 hj69 => ?_)
      · refine x_aload_n dX12_act_69 rfl ?_
        refine x_iload_n dX12_act_70 rfl ?_
        refine x_iload_n dX12_act_71 rfl ?_
        refine x_iload_n dX12_act_72 rfl ?_
        refine cmX12_674 rfl hs (Nat.le_of_ble_eq_true rfl) dX12_act_73 (fun M5 => ?_)
        exact x_weak (by exact trivial) (hj76 M5)
      refine x_icmp_lt (tgt := 69) dX12_act_51 (by decide) (fun _ => ?_) (fun _ => ?_)
      · exact x_weak (by exact ⟨rfl, ⟨rfl, ⟨rfl, ⟨rfl, trivial⟩⟩⟩⟩) (hj69 ())
      · refine x_iload_n dX12_act_54 rfl ?_
        refine x_bipush (v := 7) dX12_act_55 (by decide) ?_
        refine x_icmp_gt (tgt := 69) dX12_act_57 (by decide) (fun _ => ?_) (fun _ => ?_)
        · exact x_weak (by exact ⟨rfl, ⟨rfl, ⟨rfl, ⟨rfl, trivial⟩⟩⟩⟩) (hj69 ())
        · refine x_aload_n dX12_act_60 rfl ?_
          refine x_iload_n dX12_act_61 rfl ?_
          refine x_iload_n dX12_act_62 rfl ?_
          refine cmX12_672 rfl hs (Nat.le_of_ble_eq_true rfl) dX12_act_63 (fun M6 => ?_)
          refine x_goto (tgt := 76) dX12_act_66 (by decide) ?_
          exact x_weak (by exact trivial) (hj76 M6)
    refine x_icmp_lt (tgt := 49) dX12_act_15 (by decide) (fun _ => ?_) (fun _ => ?_)
    · exact x_weak (by exact ⟨rfl, ⟨rfl, ⟨rfl, ⟨rfl, trivial⟩⟩⟩⟩) (hj49 ())
    · refine x_iload_n dX12_act_18 rfl ?_
      refine x_bipush (v := 20) dX12_act_19 (by decide) ?_
      refine x_icmp_gt (tgt := 49) dX12_act_21 (by decide) (fun _ => ?_) (fun _ => ?_)
      · exact x_weak (by exact ⟨rfl, ⟨rfl, ⟨rfl, ⟨rfl, trivial⟩⟩⟩⟩) (hj49 ())
      · refine x_aload_n dX12_act_24 rfl ?_
        refine cmX12_662 rfl hs (Nat.le_of_ble_eq_true rfl) dX12_act_25 (fun x8 M7 => ?_)
        refine x_istore (lo' := [some (va_rf a0), some (.int a1), some (.int a2), some (.int a3), some (.int x8), none]) dX12_act_28 (by decide) rfl rfl ?_
        refine x_aload_n dX12_act_30 rfl ?_
        refine cmX12_662 rfl hs (Nat.le_of_ble_eq_true rfl) dX12_act_31 (fun x10 M9 => ?_)
        refine x_istore (lo' := [some (va_rf a0), some (.int a1), some (.int a2), some (.int a3), some (.int x8), some (.int x10)]) dX12_act_34 (by decide) rfl rfl ?_
        refine x_aload_n dX12_act_36 rfl ?_
        refine x_iload_n dX12_act_37 rfl ?_
        refine x_iload dX12_act_38 rfl ?_
        refine x_iload dX12_act_40 rfl ?_
        refine x_iload_n dX12_act_42 rfl ?_
        refine cmX12_668 rfl hs (Nat.le_of_ble_eq_true rfl) dX12_act_43 (fun M11 => ?_)
        refine x_goto (tgt := 76) dX12_act_46 (by decide) ?_
        exact x_weak (by exact trivial) (hj76 M11)
theorem s244 {l : Launch} {d : Nat} {rec : Nat → List Value → Mem → XA} (hS : Nonempty XS) (hs : XSnd l xmt rec d) : Snd1 l 244 (b244 rec) d := by
  intro as M r M' h0
  unfold b244 at h0
  obtain ⟨a0, l1, e1, h1⟩ := aR_inv h0
  obtain ⟨a1, l2, e2, h2⟩ := aI_inv h1
  obtain ⟨a2, l3, e3, h3⟩ := aI_inv h2
  obtain ⟨a3, l4, e4, h4⟩ := aI_inv h3
  obtain ⟨ez, h⟩ := aZ_inv h4
  subst ez
  subst e4
  subst e3
  subst e2
  subst e1
  exact xmet (M := M) (as := [va_rf a0, .int a1, .int a2, .int a3]) (lo := [some (va_rf a0), some (.int a1), some (.int a2), some (.int a3)]) 244 xq244 xm244 (by rw [xargs_rf, xargs_i, xargs_i, xargs_i, xargs_nil]; exact ⟨rfl, ⟨rfl, ⟨rfl, ⟨rfl, trivial⟩⟩⟩⟩) (by rw [xargs_rf, xargs_i, xargs_i, xargs_i, xargs_nil]; exact Nat.le_of_ble_eq_true rfl) (fun S G K => x_weak (by exact ⟨rfl, ⟨rfl, ⟨rfl, ⟨rfl, trivial⟩⟩⟩⟩) (k244 hs a0 a1 a2 a3 M)) h hS
set_option maxRecDepth 100000 in
def c245 (rec : Nat → List Value → Mem → XA) (a0 : Int32) (M0 : Mem) : XA :=
  jn (fun (s1 : Int32) =>
    some (.int s1, M0)) fun j9 =>
  if a0 = 0 then (
    j9 ((0 : Int32))) else (
    j9 ((1 : Int32)))
def b245 (rec : Nat → List Value → Mem → XA) (as : List Value) (M0 : Mem) : XA := aI as fun a0 as => aZ as (c245 rec a0 M0)
set_option maxRecDepth 100000 in
set_option maxHeartbeats 4000000 in
theorem k245 {S : XS} {G : XG} {K : Nat × Nat} {l : Launch} {d : Nat} {rec : Nat → List Value → Mem → XA} (hs : XSnd l xmt rec d) (a0 : Int32) (M0 : Mem) : Xe S G K l (yX12_truth, cX12_truth, 1, some .int) d 0 [some (.int a0)] [] M0 (c245 rec a0 M0) := by
  unfold c245
  refine x_iload_n dX12_truth_0 rfl ?_
  refine x_jn (σ := Int32) 9 (fun s1 => [none]) (fun s1 => [.int s1]) (fun s1 => M0) (fun s1 => ?_) (fun j9 hj9 => ?_)
  · exact x_iret rfl dX12_truth_9
  refine x_if_eq (tgt := 8) dX12_truth_1 (by decide) (fun _ => ?_) (fun _ => ?_)
  · refine x_iconst (v := 0) dX12_truth_8 (by decide) ?_
    exact x_weak (by exact trivial) (hj9 ((0 : Int32)))
  · refine x_iconst (v := 1) dX12_truth_4 (by decide) ?_
    refine x_goto (tgt := 9) dX12_truth_5 (by decide) ?_
    exact x_weak (by exact trivial) (hj9 ((1 : Int32)))
theorem s245 {l : Launch} {d : Nat} {rec : Nat → List Value → Mem → XA} (hS : Nonempty XS) (hs : XSnd l xmt rec d) : Snd1 l 245 (b245 rec) d := by
  intro as M r M' h0
  unfold b245 at h0
  obtain ⟨a0, l1, e1, h1⟩ := aI_inv h0
  obtain ⟨ez, h⟩ := aZ_inv h1
  subst ez
  subst e1
  exact xmet (M := M) (as := [.int a0]) (lo := [some (.int a0)]) 245 xq245 xm245 (by rw [xargs_i, xargs_nil]; exact ⟨rfl, trivial⟩) (by rw [xargs_i, xargs_nil]; exact Nat.le_of_ble_eq_true rfl) (fun S G K => x_weak (by exact ⟨rfl, trivial⟩) (k245 hs a0 M)) h hS
set_option maxRecDepth 100000 in
def c246 (rec : Nat → List Value → Mem → XA) (a0 : Option Nat) (a1 : Int32) (a2 : Int32) (a3 : Int32) (a4 : Int32) (M0 : Mem) : XA :=
  jn (fun (s1 : Mem) =>
    some (.null, s1)) fun j246 =>
  swI a1 [
   ((10 : Int32), (
      vC (13, 157) M0 a0 <|
      cV (rec 241 [va_rf a0, .int (a2 + a3)] M0) fun M2 =>
      j246 M2)),
   ((11 : Int32), (
      vC (13, 157) M0 a0 <|
      cV (rec 241 [va_rf a0, .int (a2 - a3)] M0) fun M3 =>
      j246 M3)),
   ((12 : Int32), (
      vC (13, 157) M0 a0 <|
      cV (rec 241 [va_rf a0, .int (a2 * a3)] M0) fun M4 =>
      j246 M4)),
   ((13 : Int32), (
      if a3 = 0 then (
        vC (13, 157) M0 a0 <|
        cV (rec 239 [va_rf a0, .int ((1 : Int32)), .int a4, .int ((0 : Int32))] M0) fun M5 =>
        j246 M5) else (
        jn (fun (s6 : Int32) =>
          vC (13, 157) M0 a0 <|
          cV (rec 241 [va_rf a0, .int s6] M0) fun M7 =>
          j246 M7) fun j117 =>
        if a1 = ((13 : Int32)) then (
          if a3 = 0 then none else
          j117 (a2 / a3)) else (
          if a3 = 0 then none else
          j117 (xrem a2 a3))))),
   ((14 : Int32), (
      if a3 = 0 then (
        vC (13, 157) M0 a0 <|
        cV (rec 239 [va_rf a0, .int ((1 : Int32)), .int a4, .int ((0 : Int32))] M0) fun M8 =>
        j246 M8) else (
        jn (fun (s9 : Int32) =>
          vC (13, 157) M0 a0 <|
          cV (rec 241 [va_rf a0, .int s9] M0) fun M10 =>
          j246 M10) fun j117 =>
        if a1 = ((13 : Int32)) then (
          if a3 = 0 then none else
          j117 (a2 / a3)) else (
          if a3 = 0 then none else
          j117 (xrem a2 a3))))),
   ((15 : Int32), (
      jn (fun (s11 : Int32) =>
        cI (rec 245 [.int s11] M0) fun x13 M12 =>
        vC (13, 157) M12 a0 <|
        cV (rec 241 [va_rf a0, .int x13] M12) fun M14 =>
        j246 M14) fun j134 =>
      if a3 ≤ a2 then (
        j134 ((0 : Int32))) else (
        j134 ((1 : Int32))))),
   ((16 : Int32), (
      jn (fun (s15 : Int32) =>
        cI (rec 245 [.int s15] M0) fun x17 M16 =>
        vC (13, 157) M16 a0 <|
        cV (rec 241 [va_rf a0, .int x17] M16) fun M18 =>
        j246 M18) fun j154 =>
      if a3 < a2 then (
        j154 ((0 : Int32))) else (
        j154 ((1 : Int32))))),
   ((17 : Int32), (
      jn (fun (s19 : Int32) =>
        cI (rec 245 [.int s19] M0) fun x21 M20 =>
        vC (13, 157) M20 a0 <|
        cV (rec 241 [va_rf a0, .int x21] M20) fun M22 =>
        j246 M22) fun j174 =>
      if a2 = a3 then (
        j174 ((1 : Int32))) else (
        j174 ((0 : Int32))))),
   ((18 : Int32), (
      jn (fun (s23 : Int32) =>
        cI (rec 245 [.int s23] M0) fun x25 M24 =>
        vC (13, 157) M24 a0 <|
        cV (rec 241 [va_rf a0, .int x25] M24) fun M26 =>
        j246 M26) fun j194 =>
      if a2 = a3 then (
        j194 ((0 : Int32))) else (
        j194 ((1 : Int32))))),
   ((19 : Int32), (
      jn (fun (s27 : Int32) =>
        cI (rec 245 [.int s27] M0) fun x29 M28 =>
        vC (13, 157) M28 a0 <|
        cV (rec 241 [va_rf a0, .int x29] M28) fun M30 =>
        j246 M30) fun j217 =>
      jn (fun (s31 : Unit) =>
        j217 ((0 : Int32))) fun j216 =>
      if a2 = 0 then (
        j216 ()) else (
        if a3 = 0 then (
          j216 ()) else (
          j217 ((1 : Int32))))))] (
    jn (fun (s32 : Int32) =>
      cI (rec 245 [.int s32] M0) fun x34 M33 =>
      vC (13, 157) M33 a0 <|
      cV (rec 241 [va_rf a0, .int x34] M33) fun M35 =>
      j246 M35) fun j240 =>
    jn (fun (s36 : Unit) =>
      j240 ((1 : Int32))) fun j235 =>
    if a2 = 0 then (
      if a3 = 0 then (
        j240 ((0 : Int32))) else (
        j235 ())) else (
      j235 ()))
def b246 (rec : Nat → List Value → Mem → XA) (as : List Value) (M0 : Mem) : XA := aR as fun a0 as => aI as fun a1 as => aI as fun a2 as => aI as fun a3 as => aI as fun a4 as => aZ as (c246 rec a0 a1 a2 a3 a4 M0)
set_option maxRecDepth 100000 in
set_option maxHeartbeats 4000000 in
theorem k246 {S : XS} {G : XG} {K : Nat × Nat} {l : Launch} {d : Nat} {rec : Nat → List Value → Mem → XA} (hs : XSnd l xmt rec d) (a0 : Option Nat) (a1 : Int32) (a2 : Int32) (a3 : Int32) (a4 : Int32) (M0 : Mem) : Xe S G K l (yX12_two, cX12_two, 5, none) d 0 [some (va_rf a0), some (.int a1), some (.int a2), some (.int a3), some (.int a4)] [] M0 (c246 rec a0 a1 a2 a3 a4 M0) := by
  unfold c246
  refine x_iload_n dX12_two_0 rfl ?_
  refine x_jn (σ := Mem) 246 (fun s1 => [none, none, none, none, none]) (fun s1 => []) (fun s1 => s1) (fun s1 => ?_) (fun j246 hj246 => ?_)
  · exact x_vret rfl dX12_two_246
  refine x_table (tgt := 226) dX12_two_1 [(10, 56), (11, 66), (12, 76), (13, 86), (14, 86), (15, 123), (16, 143), (17, 163), (18, 183), (19, 203)] (by decide +kernel) (by decide +kernel) (by decide) ?_ ?_
  · refine swG_d (by decide) ?_ (swG_d (by decide) ?_ (swG_d (by decide) ?_ (swG_d (by decide) ?_ (swG_d (by decide) ?_ (swG_d (by decide) ?_ (swG_d (by decide) ?_ (swG_d (by decide) ?_ (swG_d (by decide) ?_ (swG_d (by decide) ?_ (trivial))))))))))
    · refine x_aload_n dX12_two_56 rfl ?_
      refine x_iload_n dX12_two_57 rfl ?_
      refine x_iload_n dX12_two_58 rfl ?_
      refine x_iadd dX12_two_59 ?_
      refine cmX12_659 rfl hs (Nat.le_of_ble_eq_true rfl) dX12_two_60 (fun M2 => ?_)
      refine x_goto (tgt := 246) dX12_two_63 (by decide) ?_
      exact x_weak (by exact trivial) (hj246 M2)
    · refine x_aload_n dX12_two_66 rfl ?_
      refine x_iload_n dX12_two_67 rfl ?_
      refine x_iload_n dX12_two_68 rfl ?_
      refine x_isub dX12_two_69 ?_
      refine cmX12_659 rfl hs (Nat.le_of_ble_eq_true rfl) dX12_two_70 (fun M3 => ?_)
      refine x_goto (tgt := 246) dX12_two_73 (by decide) ?_
      exact x_weak (by exact trivial) (hj246 M3)
    · refine x_aload_n dX12_two_76 rfl ?_
      refine x_iload_n dX12_two_77 rfl ?_
      refine x_iload_n dX12_two_78 rfl ?_
      refine x_imul dX12_two_79 ?_
      refine cmX12_659 rfl hs (Nat.le_of_ble_eq_true rfl) dX12_two_80 (fun M4 => ?_)
      refine x_goto (tgt := 246) dX12_two_83 (by decide) ?_
      exact x_weak (by exact trivial) (hj246 M4)
    · refine x_iload_n dX12_two_86 rfl ?_
      refine x_if_ne (tgt := 101) dX12_two_87 (by decide) (fun _ => ?_) (fun _ => ?_)
      · refine x_aload_n dX12_two_90 rfl ?_
        refine x_iconst (v := 1) dX12_two_91 (by decide) ?_
        refine x_iload dX12_two_92 rfl ?_
        refine x_iconst (v := 0) dX12_two_94 (by decide) ?_
        refine cmX12_625 rfl hs (Nat.le_of_ble_eq_true rfl) dX12_two_95 (fun M5 => ?_)
        refine x_goto (tgt := 246) dX12_two_98 (by decide) ?_
        exact x_weak (by exact trivial) (hj246 M5)
      · refine x_aload_n dX12_two_101 rfl ?_
        refine x_iload_n dX12_two_102 rfl ?_
        refine x_bipush (v := 13) dX12_two_103 (by decide) ?_
        refine x_jn (σ := Int32) 117 (fun s6 => [none, none, none, none, none]) (fun s6 => [.int s6, va_rf a0]) (fun s6 => M0) (fun s6 => ?_) (fun j117 hj117 => ?_)
        · refine cmX12_659 rfl hs (Nat.le_of_ble_eq_true rfl) dX12_two_117 (fun M7 => ?_)
          refine x_goto (tgt := 246) dX12_two_120 (by decide) ?_
          exact x_weak (by exact trivial) (hj246 M7)
        refine x_icmp_ne (tgt := 114) dX12_two_105 (by decide) (fun _ => ?_) (fun _ => ?_)
        · refine x_iload_n dX12_two_108 rfl ?_
          refine x_iload_n dX12_two_109 rfl ?_
          refine x_idiv dX12_two_110 (fun _ => ?_)
          refine x_goto (tgt := 117) dX12_two_111 (by decide) ?_
          exact x_weak (by exact trivial) (hj117 (a2 / a3))
        · refine x_iload_n dX12_two_114 rfl ?_
          refine x_iload_n dX12_two_115 rfl ?_
          refine x_irem dX12_two_116 (fun _ => ?_)
          exact x_weak (by exact trivial) (hj117 (xrem a2 a3))
    · refine x_iload_n dX12_two_86 rfl ?_
      refine x_if_ne (tgt := 101) dX12_two_87 (by decide) (fun _ => ?_) (fun _ => ?_)
      · refine x_aload_n dX12_two_90 rfl ?_
        refine x_iconst (v := 1) dX12_two_91 (by decide) ?_
        refine x_iload dX12_two_92 rfl ?_
        refine x_iconst (v := 0) dX12_two_94 (by decide) ?_
        refine cmX12_625 rfl hs (Nat.le_of_ble_eq_true rfl) dX12_two_95 (fun M8 => ?_)
        refine x_goto (tgt := 246) dX12_two_98 (by decide) ?_
        exact x_weak (by exact trivial) (hj246 M8)
      · refine x_aload_n dX12_two_101 rfl ?_
        refine x_iload_n dX12_two_102 rfl ?_
        refine x_bipush (v := 13) dX12_two_103 (by decide) ?_
        refine x_jn (σ := Int32) 117 (fun s9 => [none, none, none, none, none]) (fun s9 => [.int s9, va_rf a0]) (fun s9 => M0) (fun s9 => ?_) (fun j117 hj117 => ?_)
        · refine cmX12_659 rfl hs (Nat.le_of_ble_eq_true rfl) dX12_two_117 (fun M10 => ?_)
          refine x_goto (tgt := 246) dX12_two_120 (by decide) ?_
          exact x_weak (by exact trivial) (hj246 M10)
        refine x_icmp_ne (tgt := 114) dX12_two_105 (by decide) (fun _ => ?_) (fun _ => ?_)
        · refine x_iload_n dX12_two_108 rfl ?_
          refine x_iload_n dX12_two_109 rfl ?_
          refine x_idiv dX12_two_110 (fun _ => ?_)
          refine x_goto (tgt := 117) dX12_two_111 (by decide) ?_
          exact x_weak (by exact trivial) (hj117 (a2 / a3))
        · refine x_iload_n dX12_two_114 rfl ?_
          refine x_iload_n dX12_two_115 rfl ?_
          refine x_irem dX12_two_116 (fun _ => ?_)
          exact x_weak (by exact trivial) (hj117 (xrem a2 a3))
    · refine x_aload_n dX12_two_123 rfl ?_
      refine x_iload_n dX12_two_124 rfl ?_
      refine x_iload_n dX12_two_125 rfl ?_
      refine x_jn (σ := Int32) 134 (fun s11 => [none, none, none, none, none]) (fun s11 => [.int s11, va_rf a0]) (fun s11 => M0) (fun s11 => ?_) (fun j134 hj134 => ?_)
      · refine cmX12_677 rfl hs (Nat.le_of_ble_eq_true rfl) dX12_two_134 (fun x13 M12 => ?_)
        refine cmX12_659 rfl hs (Nat.le_of_ble_eq_true rfl) dX12_two_137 (fun M14 => ?_)
        refine x_goto (tgt := 246) dX12_two_140 (by decide) ?_
        exact x_weak (by exact trivial) (hj246 M14)
      refine x_icmp_ge (tgt := 133) dX12_two_126 (by decide) (fun _ => ?_) (fun _ => ?_)
      · refine x_iconst (v := 0) dX12_two_133 (by decide) ?_
        exact x_weak (by exact trivial) (hj134 ((0 : Int32)))
      · refine x_iconst (v := 1) dX12_two_129 (by decide) ?_
        refine x_goto (tgt := 134) dX12_two_130 (by decide) ?_
        exact x_weak (by exact trivial) (hj134 ((1 : Int32)))
    · refine x_aload_n dX12_two_143 rfl ?_
      refine x_iload_n dX12_two_144 rfl ?_
      refine x_iload_n dX12_two_145 rfl ?_
      refine x_jn (σ := Int32) 154 (fun s15 => [none, none, none, none, none]) (fun s15 => [.int s15, va_rf a0]) (fun s15 => M0) (fun s15 => ?_) (fun j154 hj154 => ?_)
      · refine cmX12_677 rfl hs (Nat.le_of_ble_eq_true rfl) dX12_two_154 (fun x17 M16 => ?_)
        refine cmX12_659 rfl hs (Nat.le_of_ble_eq_true rfl) dX12_two_157 (fun M18 => ?_)
        refine x_goto (tgt := 246) dX12_two_160 (by decide) ?_
        exact x_weak (by exact trivial) (hj246 M18)
      refine x_icmp_gt (tgt := 153) dX12_two_146 (by decide) (fun _ => ?_) (fun _ => ?_)
      · refine x_iconst (v := 0) dX12_two_153 (by decide) ?_
        exact x_weak (by exact trivial) (hj154 ((0 : Int32)))
      · refine x_iconst (v := 1) dX12_two_149 (by decide) ?_
        refine x_goto (tgt := 154) dX12_two_150 (by decide) ?_
        exact x_weak (by exact trivial) (hj154 ((1 : Int32)))
    · refine x_aload_n dX12_two_163 rfl ?_
      refine x_iload_n dX12_two_164 rfl ?_
      refine x_iload_n dX12_two_165 rfl ?_
      refine x_jn (σ := Int32) 174 (fun s19 => [none, none, none, none, none]) (fun s19 => [.int s19, va_rf a0]) (fun s19 => M0) (fun s19 => ?_) (fun j174 hj174 => ?_)
      · refine cmX12_677 rfl hs (Nat.le_of_ble_eq_true rfl) dX12_two_174 (fun x21 M20 => ?_)
        refine cmX12_659 rfl hs (Nat.le_of_ble_eq_true rfl) dX12_two_177 (fun M22 => ?_)
        refine x_goto (tgt := 246) dX12_two_180 (by decide) ?_
        exact x_weak (by exact trivial) (hj246 M22)
      refine x_icmp_ne (tgt := 173) dX12_two_166 (by decide) (fun _ => ?_) (fun _ => ?_)
      · refine x_iconst (v := 1) dX12_two_169 (by decide) ?_
        refine x_goto (tgt := 174) dX12_two_170 (by decide) ?_
        exact x_weak (by exact trivial) (hj174 ((1 : Int32)))
      · refine x_iconst (v := 0) dX12_two_173 (by decide) ?_
        exact x_weak (by exact trivial) (hj174 ((0 : Int32)))
    · refine x_aload_n dX12_two_183 rfl ?_
      refine x_iload_n dX12_two_184 rfl ?_
      refine x_iload_n dX12_two_185 rfl ?_
      refine x_jn (σ := Int32) 194 (fun s23 => [none, none, none, none, none]) (fun s23 => [.int s23, va_rf a0]) (fun s23 => M0) (fun s23 => ?_) (fun j194 hj194 => ?_)
      · refine cmX12_677 rfl hs (Nat.le_of_ble_eq_true rfl) dX12_two_194 (fun x25 M24 => ?_)
        refine cmX12_659 rfl hs (Nat.le_of_ble_eq_true rfl) dX12_two_197 (fun M26 => ?_)
        refine x_goto (tgt := 246) dX12_two_200 (by decide) ?_
        exact x_weak (by exact trivial) (hj246 M26)
      refine x_icmp_eq (tgt := 193) dX12_two_186 (by decide) (fun _ => ?_) (fun _ => ?_)
      · refine x_iconst (v := 0) dX12_two_193 (by decide) ?_
        exact x_weak (by exact trivial) (hj194 ((0 : Int32)))
      · refine x_iconst (v := 1) dX12_two_189 (by decide) ?_
        refine x_goto (tgt := 194) dX12_two_190 (by decide) ?_
        exact x_weak (by exact trivial) (hj194 ((1 : Int32)))
    · refine x_aload_n dX12_two_203 rfl ?_
      refine x_iload_n dX12_two_204 rfl ?_
      refine x_jn (σ := Int32) 217 (fun s27 => [none, none, none, none, none]) (fun s27 => [.int s27, va_rf a0]) (fun s27 => M0) (fun s27 => ?_) (fun j217 hj217 => ?_)
      · refine cmX12_677 rfl hs (Nat.le_of_ble_eq_true rfl) dX12_two_217 (fun x29 M28 => ?_)
        refine cmX12_659 rfl hs (Nat.le_of_ble_eq_true rfl) dX12_two_220 (fun M30 => ?_)
        refine x_goto (tgt := 246) dX12_two_223 (by decide) ?_
        exact x_weak (by exact trivial) (hj246 M30)
      refine x_jn (σ := Unit) 216 (fun s31 => [none, none, none, none, none]) (fun s31 => [va_rf a0]) (fun s31 => M0) (fun s31 => ?_) (fun j216 hj216 => ?_)
      · refine x_iconst (v := 0) dX12_two_216 (by decide) ?_
        exact x_weak (by exact trivial) (hj217 ((0 : Int32)))
      refine x_if_eq (tgt := 216) dX12_two_205 (by decide) (fun _ => ?_) (fun _ => ?_)
      · exact x_weak (by exact trivial) (hj216 ())
      · refine x_iload_n dX12_two_208 rfl ?_
        refine x_if_eq (tgt := 216) dX12_two_209 (by decide) (fun _ => ?_) (fun _ => ?_)
        · exact x_weak (by exact trivial) (hj216 ())
        · refine x_iconst (v := 1) dX12_two_212 (by decide) ?_
          refine x_goto (tgt := 217) dX12_two_213 (by decide) ?_
          exact x_weak (by exact trivial) (hj217 ((1 : Int32)))
  · refine x_aload_n dX12_two_226 rfl ?_
    refine x_iload_n dX12_two_227 rfl ?_
    refine x_jn (σ := Int32) 240 (fun s32 => [none, none, none, none, none]) (fun s32 => [.int s32, va_rf a0]) (fun s32 => M0) (fun s32 => ?_) (fun j240 hj240 => ?_)
    · refine cmX12_677 rfl hs (Nat.le_of_ble_eq_true rfl) dX12_two_240 (fun x34 M33 => ?_)
      refine cmX12_659 rfl hs (Nat.le_of_ble_eq_true rfl) dX12_two_243 (fun M35 => ?_)
      exact x_weak (by exact trivial) (hj246 M35)
    refine x_jn (σ := Unit) 235 (fun s36 => [none, none, none, none, none]) (fun s36 => [va_rf a0]) (fun s36 => M0) (fun s36 => ?_) (fun j235 hj235 => ?_)
    · refine x_iconst (v := 1) dX12_two_235 (by decide) ?_
      refine x_goto (tgt := 240) dX12_two_236 (by decide) ?_
      exact x_weak (by exact trivial) (hj240 ((1 : Int32)))
    refine x_if_ne (tgt := 235) dX12_two_228 (by decide) (fun _ => ?_) (fun _ => ?_)
    · refine x_iload_n dX12_two_231 rfl ?_
      refine x_if_eq (tgt := 239) dX12_two_232 (by decide) (fun _ => ?_) (fun _ => ?_)
      · refine x_iconst (v := 0) dX12_two_239 (by decide) ?_
        exact x_weak (by exact trivial) (hj240 ((0 : Int32)))
      · exact x_weak (by exact trivial) (hj235 ())
    · exact x_weak (by exact trivial) (hj235 ())
theorem s246 {l : Launch} {d : Nat} {rec : Nat → List Value → Mem → XA} (hS : Nonempty XS) (hs : XSnd l xmt rec d) : Snd1 l 246 (b246 rec) d := by
  intro as M r M' h0
  unfold b246 at h0
  obtain ⟨a0, l1, e1, h1⟩ := aR_inv h0
  obtain ⟨a1, l2, e2, h2⟩ := aI_inv h1
  obtain ⟨a2, l3, e3, h3⟩ := aI_inv h2
  obtain ⟨a3, l4, e4, h4⟩ := aI_inv h3
  obtain ⟨a4, l5, e5, h5⟩ := aI_inv h4
  obtain ⟨ez, h⟩ := aZ_inv h5
  subst ez
  subst e5
  subst e4
  subst e3
  subst e2
  subst e1
  exact xmet (M := M) (as := [va_rf a0, .int a1, .int a2, .int a3, .int a4]) (lo := [some (va_rf a0), some (.int a1), some (.int a2), some (.int a3), some (.int a4)]) 246 xq246 xm246 (by rw [xargs_rf, xargs_i, xargs_i, xargs_i, xargs_i, xargs_nil]; exact ⟨rfl, ⟨rfl, ⟨rfl, ⟨rfl, ⟨rfl, trivial⟩⟩⟩⟩⟩) (by rw [xargs_rf, xargs_i, xargs_i, xargs_i, xargs_i, xargs_nil]; exact Nat.le_of_ble_eq_true rfl) (fun S G K => x_weak (by exact ⟨rfl, ⟨rfl, ⟨rfl, ⟨rfl, ⟨rfl, trivial⟩⟩⟩⟩⟩) (k246 hs a0 a1 a2 a3 a4 M)) h hS
set_option maxRecDepth 100000 in
def c247 (rec : Nat → List Value → Mem → XA) (a0 : Option Nat) (a1 : Int32) (a2 : Int32) (a3 : Int32) (M0 : Mem) : XA :=
  jn (fun (s1 : Mem) =>
    some (.null, s1)) fun j249 =>
  swI a1 [
   ((9 : Int32), (
      gtI (13, 157) M0 a0 73 fun x2 =>
      ptI (13, 157) M0 a0 73 (x2 - ((1 : Int32))) fun M3 =>
      j249 M3)),
   ((10 : Int32), (
      j249 M0)),
   ((11 : Int32), (
      j249 M0)),
   ((12 : Int32), (
      j249 M0)),
   ((13 : Int32), (
      j249 M0)),
   ((14 : Int32), (
      j249 M0)),
   ((15 : Int32), (
      j249 M0)),
   ((16 : Int32), (
      j249 M0)),
   ((17 : Int32), (
      j249 M0)),
   ((18 : Int32), (
      j249 M0)),
   ((19 : Int32), (
      j249 M0)),
   ((20 : Int32), (
      j249 M0)),
   ((21 : Int32), (
      vC (13, 157) M0 a0 <|
      cI (rec 242 [va_rf a0] M0) fun x5 M4 =>
      jn (fun (s6 : Int32) =>
        cI (rec 245 [.int s6] M4) fun x8 M7 =>
        vC (13, 157) M7 a0 <|
        cV (rec 241 [va_rf a0, .int x8] M7) fun M9 =>
        j249 M9) fun j155 =>
      if x5 = 0 then (
        j155 ((1 : Int32))) else (
        j155 ((0 : Int32))))),
   ((22 : Int32), (
      vC (13, 157) M0 a0 <|
      cI (rec 242 [va_rf a0] M0) fun x11 M10 =>
      vC (13, 157) M10 a0 <|
      cV (rec 241 [va_rf a0, .int (-x11)] M10) fun M12 =>
      j249 M12)),
   ((23 : Int32), (
      vC (13, 157) M0 a0 <|
      cI (rec 242 [va_rf a0] M0) fun x14 M13 =>
      vC (13, 157) M13 a0 <|
      cV (rec 248 [va_rf a0, .int x14, .int a3] M13) fun M15 =>
      j249 M15)),
   ((24 : Int32), (
      j249 M0)),
   ((25 : Int32), (
      j249 M0)),
   ((26 : Int32), (
      j249 M0)),
   ((27 : Int32), (
      j249 M0)),
   ((28 : Int32), (
      vC (13, 157) M0 a0 <|
      cI (rec 242 [va_rf a0] M0) fun x17 M16 =>
      if x17 = 0 then (
        vC (13, 157) M16 a0 <|
        cV (rec 239 [va_rf a0, .int ((5 : Int32)), .int a3, .int ((0 : Int32))] M16) fun M18 =>
        j249 M18) else (
        j249 M16))),
   ((29 : Int32), (
      vC (13, 157) M0 a0 <|
      cI (rec 242 [va_rf a0] M0) fun x20 M19 =>
      vC (13, 157) M19 a0 <|
      cV (rec 239 [va_rf a0, .int x20, .int a3, .int ((0 : Int32))] M19) fun M21 =>
      j249 M21)),
   ((30 : Int32), (
      j249 M0)),
   ((31 : Int32), (
      j249 M0)),
   ((32 : Int32), (
      gtI (13, 157) M0 a0 73 fun x22 =>
      gtP (13, 157) M0 a0 15 fun x23 =>
      gtI (13, 157) M0 a0 66 fun x24 =>
      alI 100 M0 x23 ((((96 : Int32)) * x24) + a2) fun x25 =>
      ptI (13, 157) M0 a0 73 (x22 - x25) fun M26 =>
      vC (13, 157) M26 a0 <|
      cV (rec 241 [va_rf a0, .int ((0 : Int32))] M26) fun M27 =>
      j249 M27)),
   ((33 : Int32), (
      gtI (13, 157) M0 a0 73 fun x28 =>
      ptI (13, 157) M0 a0 73 (x28 - ((2 : Int32))) fun M29 =>
      j249 M29))] (
    j249 M0)
def b247 (rec : Nat → List Value → Mem → XA) (as : List Value) (M0 : Mem) : XA := aR as fun a0 as => aI as fun a1 as => aI as fun a2 as => aI as fun a3 as => aZ as (c247 rec a0 a1 a2 a3 M0)
set_option maxRecDepth 100000 in
set_option maxHeartbeats 4000000 in
theorem k247 {S : XS} {G : XG} {K : Nat × Nat} {l : Launch} {d : Nat} {rec : Nat → List Value → Mem → XA} (hs : XSnd l xmt rec d) (a0 : Option Nat) (a1 : Int32) (a2 : Int32) (a3 : Int32) (M0 : Mem) : Xe S G K l (yX12_one, cX12_one, 4, none) d 0 [some (va_rf a0), some (.int a1), some (.int a2), some (.int a3)] [] M0 (c247 rec a0 a1 a2 a3 M0) := by
  unfold c247
  refine x_iload_n dX12_one_0 rfl ?_
  refine x_jn (σ := Mem) 249 (fun s1 => [none, none, none, none]) (fun s1 => []) (fun s1 => s1) (fun s1 => ?_) (fun j249 hj249 => ?_)
  · exact x_vret rfl dX12_one_249
  refine x_table (tgt := 249) dX12_one_1 [(9, 116), (10, 249), (11, 249), (12, 249), (13, 249), (14, 249), (15, 249), (16, 249), (17, 249), (18, 249), (19, 249), (20, 249), (21, 142), (22, 164), (23, 237), (24, 249), (25, 249), (26, 249), (27, 249), (28, 207), (29, 224), (30, 249), (31, 249), (32, 176), (33, 129)] (by decide +kernel) (by decide +kernel) (by decide) ?_ ?_
  · refine swG_d (by decide) ?_ (swG_d (by decide) ?_ (swG_d (by decide) ?_ (swG_d (by decide) ?_ (swG_d (by decide) ?_ (swG_d (by decide) ?_ (swG_d (by decide) ?_ (swG_d (by decide) ?_ (swG_d (by decide) ?_ (swG_d (by decide) ?_ (swG_d (by decide) ?_ (swG_d (by decide) ?_ (swG_d (by decide) ?_ (swG_d (by decide) ?_ (swG_d (by decide) ?_ (swG_d (by decide) ?_ (swG_d (by decide) ?_ (swG_d (by decide) ?_ (swG_d (by decide) ?_ (swG_d (by decide) ?_ (swG_d (by decide) ?_ (swG_d (by decide) ?_ (swG_d (by decide) ?_ (swG_d (by decide) ?_ (swG_d (by decide) ?_ (trivial)))))))))))))))))))))))))
    · refine x_aload_n dX12_one_116 rfl ?_
      refine x_dup dX12_one_117 (xc1_r _) ?_
      refine gfX12_638 rfl dX12_one_118 (fun x2 => ?_)
      refine x_iconst (v := 1) dX12_one_121 (by decide) ?_
      refine x_isub dX12_one_122 ?_
      refine pfX12_638 rfl dX12_one_123 (fun M3 => ?_)
      refine x_goto (tgt := 249) dX12_one_126 (by decide) ?_
      exact x_weak (by exact trivial) (hj249 M3)
    · exact x_weak (by exact trivial) (hj249 M0)
    · exact x_weak (by exact trivial) (hj249 M0)
    · exact x_weak (by exact trivial) (hj249 M0)
    · exact x_weak (by exact trivial) (hj249 M0)
    · exact x_weak (by exact trivial) (hj249 M0)
    · exact x_weak (by exact trivial) (hj249 M0)
    · exact x_weak (by exact trivial) (hj249 M0)
    · exact x_weak (by exact trivial) (hj249 M0)
    · exact x_weak (by exact trivial) (hj249 M0)
    · exact x_weak (by exact trivial) (hj249 M0)
    · exact x_weak (by exact trivial) (hj249 M0)
    · refine x_aload_n dX12_one_142 rfl ?_
      refine x_aload_n dX12_one_143 rfl ?_
      refine cmX12_662 rfl hs (Nat.le_of_ble_eq_true rfl) dX12_one_144 (fun x5 M4 => ?_)
      refine x_jn (σ := Int32) 155 (fun s6 => [none, none, none, none]) (fun s6 => [.int s6, va_rf a0]) (fun s6 => M4) (fun s6 => ?_) (fun j155 hj155 => ?_)
      · refine cmX12_677 rfl hs (Nat.le_of_ble_eq_true rfl) dX12_one_155 (fun x8 M7 => ?_)
        refine cmX12_659 rfl hs (Nat.le_of_ble_eq_true rfl) dX12_one_158 (fun M9 => ?_)
        refine x_goto (tgt := 249) dX12_one_161 (by decide) ?_
        exact x_weak (by exact trivial) (hj249 M9)
      refine x_if_ne (tgt := 154) dX12_one_147 (by decide) (fun _ => ?_) (fun _ => ?_)
      · refine x_iconst (v := 1) dX12_one_150 (by decide) ?_
        refine x_goto (tgt := 155) dX12_one_151 (by decide) ?_
        exact x_weak (by exact trivial) (hj155 ((1 : Int32)))
      · refine x_iconst (v := 0) dX12_one_154 (by decide) ?_
        exact x_weak (by exact trivial) (hj155 ((0 : Int32)))
    · refine x_aload_n dX12_one_164 rfl ?_
      refine x_aload_n dX12_one_165 rfl ?_
      refine cmX12_662 rfl hs (Nat.le_of_ble_eq_true rfl) dX12_one_166 (fun x11 M10 => ?_)
      refine x_ineg dX12_one_169 ?_
      refine cmX12_659 rfl hs (Nat.le_of_ble_eq_true rfl) dX12_one_170 (fun M12 => ?_)
      refine x_goto (tgt := 249) dX12_one_173 (by decide) ?_
      exact x_weak (by exact trivial) (hj249 M12)
    · refine x_aload_n dX12_one_237 rfl ?_
      refine x_aload_n dX12_one_238 rfl ?_
      refine cmX12_662 rfl hs (Nat.le_of_ble_eq_true rfl) dX12_one_239 (fun x14 M13 => ?_)
      refine x_iload_n dX12_one_242 rfl ?_
      refine cmX12_680 rfl hs (Nat.le_of_ble_eq_true rfl) dX12_one_243 (fun M15 => ?_)
      refine x_goto (tgt := 249) dX12_one_246 (by decide) ?_
      exact x_weak (by exact trivial) (hj249 M15)
    · exact x_weak (by exact trivial) (hj249 M0)
    · exact x_weak (by exact trivial) (hj249 M0)
    · exact x_weak (by exact trivial) (hj249 M0)
    · exact x_weak (by exact trivial) (hj249 M0)
    · refine x_aload_n dX12_one_207 rfl ?_
      refine cmX12_662 rfl hs (Nat.le_of_ble_eq_true rfl) dX12_one_208 (fun x17 M16 => ?_)
      refine x_if_ne (tgt := 249) dX12_one_211 (by decide) (fun _ => ?_) (fun _ => ?_)
      · refine x_aload_n dX12_one_214 rfl ?_
        refine x_iconst (v := 5) dX12_one_215 (by decide) ?_
        refine x_iload_n dX12_one_216 rfl ?_
        refine x_iconst (v := 0) dX12_one_217 (by decide) ?_
        refine cmX12_625 rfl hs (Nat.le_of_ble_eq_true rfl) dX12_one_218 (fun M18 => ?_)
        refine x_goto (tgt := 249) dX12_one_221 (by decide) ?_
        exact x_weak (by exact trivial) (hj249 M18)
      · exact x_weak (by exact trivial) (hj249 M16)
    · refine x_aload_n dX12_one_224 rfl ?_
      refine x_aload_n dX12_one_225 rfl ?_
      refine cmX12_662 rfl hs (Nat.le_of_ble_eq_true rfl) dX12_one_226 (fun x20 M19 => ?_)
      refine x_iload_n dX12_one_229 rfl ?_
      refine x_iconst (v := 0) dX12_one_230 (by decide) ?_
      refine cmX12_625 rfl hs (Nat.le_of_ble_eq_true rfl) dX12_one_231 (fun M21 => ?_)
      refine x_goto (tgt := 249) dX12_one_234 (by decide) ?_
      exact x_weak (by exact trivial) (hj249 M21)
    · exact x_weak (by exact trivial) (hj249 M0)
    · exact x_weak (by exact trivial) (hj249 M0)
    · refine x_aload_n dX12_one_176 rfl ?_
      refine x_dup dX12_one_177 (xc1_r _) ?_
      refine gfX12_638 rfl dX12_one_178 (fun x22 => ?_)
      refine x_aload_n dX12_one_181 rfl ?_
      refine gfX12_52 rfl dX12_one_182 (fun x23 => ?_)
      refine x_bipush (v := 96) dX12_one_185 (by decide) ?_
      refine x_aload_n dX12_one_187 rfl ?_
      refine gfX12_600 rfl dX12_one_188 (fun x24 => ?_)
      refine x_imul dX12_one_191 ?_
      refine x_iload_n dX12_one_192 rfl ?_
      refine x_iadd dX12_one_193 ?_
      refine x_iald dX12_one_194 (fun x25 => ?_)
      refine x_isub dX12_one_195 ?_
      refine pfX12_638 rfl dX12_one_196 (fun M26 => ?_)
      refine x_aload_n dX12_one_199 rfl ?_
      refine x_iconst (v := 0) dX12_one_200 (by decide) ?_
      refine cmX12_659 rfl hs (Nat.le_of_ble_eq_true rfl) dX12_one_201 (fun M27 => ?_)
      refine x_goto (tgt := 249) dX12_one_204 (by decide) ?_
      exact x_weak (by exact trivial) (hj249 M27)
    · refine x_aload_n dX12_one_129 rfl ?_
      refine x_dup dX12_one_130 (xc1_r _) ?_
      refine gfX12_638 rfl dX12_one_131 (fun x28 => ?_)
      refine x_iconst (v := 2) dX12_one_134 (by decide) ?_
      refine x_isub dX12_one_135 ?_
      refine pfX12_638 rfl dX12_one_136 (fun M29 => ?_)
      refine x_goto (tgt := 249) dX12_one_139 (by decide) ?_
      exact x_weak (by exact trivial) (hj249 M29)
  · exact x_weak (by exact trivial) (hj249 M0)
theorem s247 {l : Launch} {d : Nat} {rec : Nat → List Value → Mem → XA} (hS : Nonempty XS) (hs : XSnd l xmt rec d) : Snd1 l 247 (b247 rec) d := by
  intro as M r M' h0
  unfold b247 at h0
  obtain ⟨a0, l1, e1, h1⟩ := aR_inv h0
  obtain ⟨a1, l2, e2, h2⟩ := aI_inv h1
  obtain ⟨a2, l3, e3, h3⟩ := aI_inv h2
  obtain ⟨a3, l4, e4, h4⟩ := aI_inv h3
  obtain ⟨ez, h⟩ := aZ_inv h4
  subst ez
  subst e4
  subst e3
  subst e2
  subst e1
  exact xmet (M := M) (as := [va_rf a0, .int a1, .int a2, .int a3]) (lo := [some (va_rf a0), some (.int a1), some (.int a2), some (.int a3)]) 247 xq247 xm247 (by rw [xargs_rf, xargs_i, xargs_i, xargs_i, xargs_nil]; exact ⟨rfl, ⟨rfl, ⟨rfl, ⟨rfl, trivial⟩⟩⟩⟩) (by rw [xargs_rf, xargs_i, xargs_i, xargs_i, xargs_nil]; exact Nat.le_of_ble_eq_true rfl) (fun S G K => x_weak (by exact ⟨rfl, ⟨rfl, ⟨rfl, ⟨rfl, trivial⟩⟩⟩⟩) (k247 hs a0 a1 a2 a3 M)) h hS
set_option maxRecDepth 100000 in
def c248 (rec : Nat → List Value → Mem → XA) (a0 : Option Nat) (a1 : Int32) (a2 : Int32) (M0 : Mem) : XA :=
  if ((1 : Int32)) ≤ a1 then (
    gtI (13, 157) M0 a0 97 fun x1 =>
    jn (fun (s2 : Mem) =>
      gtI (13, 157) s2 a0 82 fun x3 =>
      ptI (13, 157) s2 a0 82 (x3 + ((1 : Int32))) fun M4 =>
      some (.null, M4)) fun j106 =>
    if x1 = 0 then (
      gtI (13, 157) M0 a0 79 fun x5 =>
      ptI (13, 157) M0 a0 79 ((x5 * ((1103515245 : Int32))) + ((12345 : Int32))) fun M6 =>
      gtI (13, 157) M6 a0 79 fun x7 =>
      if a1 = 0 then none else
      vC (13, 157) M6 a0 <|
      cV (rec 241 [va_rf a0, .int (xrem ((Int32.toUInt32 x7 >>> (Int32.toUInt32 ((16 : Int32)) &&& Int32.toUInt32 31)).toInt32) a1)] M6) fun M8 =>
      j106 M8) else (
      gtI (13, 157) M0 a0 82 fun x9 =>
      gtI (13, 157) M0 a0 98 fun x10 =>
      jn (fun (s11 : Mem) =>
        gtP (13, 157) s11 a0 99 fun x12 =>
        gtI (13, 157) s11 a0 82 fun x13 =>
        alI 100 s11 x12 x13 fun x14 =>
        vC (13, 157) s11 a0 <|
        cV (rec 241 [va_rf a0, .int x14] s11) fun M15 =>
        j106 M15) fun j61 =>
      if x9 = x10 then (
        gtP (13, 157) M0 a0 99 fun x16 =>
        gtI (13, 157) M0 a0 98 fun x17 =>
        asI 100 M0 x16 x17 (((0 : Int32))) fun M18 =>
        gtP (13, 157) M18 a0 100 fun x19 =>
        gtI (13, 157) M18 a0 98 fun x20 =>
        asI 100 M18 x19 x20 a1 fun M21 =>
        gtI (13, 157) M21 a0 98 fun x22 =>
        ptI (13, 157) M21 a0 98 (x22 + ((1 : Int32))) fun M23 =>
        j61 M23) else (
        j61 M0))) else (
    vC (13, 157) M0 a0 <|
    cV (rec 239 [va_rf a0, .int ((3 : Int32)), .int a2, .int ((0 : Int32))] M0) fun M24 =>
    some (.null, M24))
def b248 (rec : Nat → List Value → Mem → XA) (as : List Value) (M0 : Mem) : XA := aR as fun a0 as => aI as fun a1 as => aI as fun a2 as => aZ as (c248 rec a0 a1 a2 M0)
set_option maxRecDepth 100000 in
set_option maxHeartbeats 4000000 in
theorem k248 {S : XS} {G : XG} {K : Nat × Nat} {l : Launch} {d : Nat} {rec : Nat → List Value → Mem → XA} (hs : XSnd l xmt rec d) (a0 : Option Nat) (a1 : Int32) (a2 : Int32) (M0 : Mem) : Xe S G K l (yX12_draw, cX12_draw, 3, none) d 0 [some (va_rf a0), some (.int a1), some (.int a2)] [] M0 (c248 rec a0 a1 a2 M0) := by
  unfold c248
  refine x_iload_n dX12_draw_0 rfl ?_
  refine x_iconst (v := 1) dX12_draw_1 (by decide) ?_
  refine x_icmp_ge (tgt := 13) dX12_draw_2 (by decide) (fun _ => ?_) (fun _ => ?_)
  · refine x_aload_n dX12_draw_13 rfl ?_
    refine gfX12_682 rfl dX12_draw_14 (fun x1 => ?_)
    refine x_jn (σ := Mem) 106 (fun s2 => [some (va_rf a0), none, none]) (fun s2 => []) (fun s2 => s2) (fun s2 => ?_) (fun j106 hj106 => ?_)
    · refine x_aload_n dX12_draw_106 rfl ?_
      refine x_dup dX12_draw_107 (xc1_r _) ?_
      refine gfX12_685 rfl dX12_draw_108 (fun x3 => ?_)
      refine x_iconst (v := 1) dX12_draw_111 (by decide) ?_
      refine x_iadd dX12_draw_112 ?_
      refine pfX12_685 rfl dX12_draw_113 (fun M4 => ?_)
      exact x_vret rfl dX12_draw_116
    refine x_if_eq (tgt := 77) dX12_draw_17 (by decide) (fun _ => ?_) (fun _ => ?_)
    · refine x_aload_n dX12_draw_77 rfl ?_
      refine x_aload_n dX12_draw_78 rfl ?_
      refine gfX12_691 rfl dX12_draw_79 (fun x5 => ?_)
      refine x_ldcw (v := 1103515245) dX12_draw_82 lk_constant_X12_694 ?_
      refine x_imul dX12_draw_85 ?_
      refine x_sipush (v := 12345) dX12_draw_86 (by decide) ?_
      refine x_iadd dX12_draw_89 ?_
      refine pfX12_691 rfl dX12_draw_90 (fun M6 => ?_)
      refine x_aload_n dX12_draw_93 rfl ?_
      refine x_aload_n dX12_draw_94 rfl ?_
      refine gfX12_691 rfl dX12_draw_95 (fun x7 => ?_)
      refine x_bipush (v := 16) dX12_draw_98 (by decide) ?_
      refine x_iushr dX12_draw_100 ?_
      refine x_iload_n dX12_draw_101 rfl ?_
      refine x_irem dX12_draw_102 (fun _ => ?_)
      refine cmX12_659 rfl hs (Nat.le_of_ble_eq_true rfl) dX12_draw_103 (fun M8 => ?_)
      exact x_weak (by exact ⟨rfl, trivial⟩) (hj106 M8)
    · refine x_aload_n dX12_draw_20 rfl ?_
      refine gfX12_685 rfl dX12_draw_21 (fun x9 => ?_)
      refine x_aload_n dX12_draw_24 rfl ?_
      refine gfX12_688 rfl dX12_draw_25 (fun x10 => ?_)
      refine x_jn (σ := Mem) 61 (fun s11 => [some (va_rf a0), none, none]) (fun s11 => []) (fun s11 => s11) (fun s11 => ?_) (fun j61 hj61 => ?_)
      · refine x_aload_n dX12_draw_61 rfl ?_
        refine x_aload_n dX12_draw_62 rfl ?_
        refine gfX12_258 rfl dX12_draw_63 (fun x12 => ?_)
        refine x_aload_n dX12_draw_66 rfl ?_
        refine gfX12_685 rfl dX12_draw_67 (fun x13 => ?_)
        refine x_iald dX12_draw_70 (fun x14 => ?_)
        refine cmX12_659 rfl hs (Nat.le_of_ble_eq_true rfl) dX12_draw_71 (fun M15 => ?_)
        refine x_goto (tgt := 106) dX12_draw_74 (by decide) ?_
        exact x_weak (by exact ⟨rfl, trivial⟩) (hj106 M15)
      refine x_icmp_ne (tgt := 61) dX12_draw_28 (by decide) (fun _ => ?_) (fun _ => ?_)
      · refine x_aload_n dX12_draw_31 rfl ?_
        refine gfX12_258 rfl dX12_draw_32 (fun x16 => ?_)
        refine x_aload_n dX12_draw_35 rfl ?_
        refine gfX12_688 rfl dX12_draw_36 (fun x17 => ?_)
        refine x_iconst (v := 0) dX12_draw_39 (by decide) ?_
        refine x_iast dX12_draw_40 (fun M18 => ?_)
        refine x_aload_n dX12_draw_41 rfl ?_
        refine gfX12_261 rfl dX12_draw_42 (fun x19 => ?_)
        refine x_aload_n dX12_draw_45 rfl ?_
        refine gfX12_688 rfl dX12_draw_46 (fun x20 => ?_)
        refine x_iload_n dX12_draw_49 rfl ?_
        refine x_iast dX12_draw_50 (fun M21 => ?_)
        refine x_aload_n dX12_draw_51 rfl ?_
        refine x_dup dX12_draw_52 (xc1_r _) ?_
        refine gfX12_688 rfl dX12_draw_53 (fun x22 => ?_)
        refine x_iconst (v := 1) dX12_draw_56 (by decide) ?_
        refine x_iadd dX12_draw_57 ?_
        refine pfX12_688 rfl dX12_draw_58 (fun M23 => ?_)
        exact x_weak (by exact ⟨rfl, trivial⟩) (hj61 M23)
      · exact x_weak (by exact ⟨rfl, trivial⟩) (hj61 M0)
  · refine x_aload_n dX12_draw_5 rfl ?_
    refine x_iconst (v := 3) dX12_draw_6 (by decide) ?_
    refine x_iload_n dX12_draw_7 rfl ?_
    refine x_iconst (v := 0) dX12_draw_8 (by decide) ?_
    refine cmX12_625 rfl hs (Nat.le_of_ble_eq_true rfl) dX12_draw_9 (fun M24 => ?_)
    exact x_vret rfl dX12_draw_12
theorem s248 {l : Launch} {d : Nat} {rec : Nat → List Value → Mem → XA} (hS : Nonempty XS) (hs : XSnd l xmt rec d) : Snd1 l 248 (b248 rec) d := by
  intro as M r M' h0
  unfold b248 at h0
  obtain ⟨a0, l1, e1, h1⟩ := aR_inv h0
  obtain ⟨a1, l2, e2, h2⟩ := aI_inv h1
  obtain ⟨a2, l3, e3, h3⟩ := aI_inv h2
  obtain ⟨ez, h⟩ := aZ_inv h3
  subst ez
  subst e3
  subst e2
  subst e1
  exact xmet (M := M) (as := [va_rf a0, .int a1, .int a2]) (lo := [some (va_rf a0), some (.int a1), some (.int a2)]) 248 xq248 xm248 (by rw [xargs_rf, xargs_i, xargs_i, xargs_nil]; exact ⟨rfl, ⟨rfl, ⟨rfl, trivial⟩⟩⟩) (by rw [xargs_rf, xargs_i, xargs_i, xargs_nil]; exact Nat.le_of_ble_eq_true rfl) (fun S G K => x_weak (by exact ⟨rfl, ⟨rfl, ⟨rfl, trivial⟩⟩⟩) (k248 hs a0 a1 a2 M)) h hS
set_option maxRecDepth 100000 in
def c249 (rec : Nat → List Value → Mem → XA) (a0 : Option Nat) (a1 : Int32) (a2 : Int32) (M0 : Mem) : XA :=
  vC (13, 157) M0 a0 <|
  cI (rec 238 [va_rf a0, .int a2] M0) fun x2 M1 =>
  if 0 ≤ x2 then (
    vC (13, 157) M1 a0 <|
    cI (rec 240 [va_rf a0, .int x2, .int a2] M1) fun x4 M3 =>
    if x4 = 0 then (
      some (.null, M3)) else (
      gtP (13, 157) M3 a0 15 fun x5 =>
      vC (13, 157) M3 a0 <|
      cI (rec 236 [va_rf a0, .int x2] M3) fun x7 M6 =>
      alI 100 M6 x5 x7 fun x8 =>
      jn (fun (s9 : Mem) =>
        some (.null, s9)) fun j204 =>
      swI a1 [
       ((3 : Int32), (
          gtP (13, 157) M6 a0 70 fun x10 =>
          alI 100 M6 x10 x2 fun x11 =>
          vC (13, 157) M6 a0 <|
          cV (rec 241 [va_rf a0, .int x11] M6) fun M12 =>
          j204 M12)),
       ((4 : Int32), (
          gtP (13, 157) M6 a0 70 fun x13 =>
          vC (13, 157) M6 a0 <|
          cI (rec 242 [va_rf a0] M6) fun x15 M14 =>
          asI 100 M14 x13 x2 x15 fun M16 =>
          j204 M16)),
       ((5 : Int32), (
          vC (13, 157) M6 a0 <|
          cI (rec 242 [va_rf a0] M6) fun x18 M17 =>
          jn (fun (s19 : Unit) =>
            vC (13, 157) M17 a0 <|
            cV (rec 239 [va_rf a0, .int ((2 : Int32)), .int a2, .int ((0 : Int32))] M17) fun M20 =>
            j204 M20) fun j116 =>
          if x18 < 0 then (
            j116 ()) else (
            if x18 < x8 then (
              gtP (13, 157) M17 a0 71 fun x21 =>
              alI 100 M17 x21 ((((50 : Int32)) * x2) + x18) fun x22 =>
              vC (13, 157) M17 a0 <|
              cV (rec 241 [va_rf a0, .int x22] M17) fun M23 =>
              j204 M23) else (
              j116 ())))),
       ((6 : Int32), (
          vC (13, 157) M6 a0 <|
          cI (rec 242 [va_rf a0] M6) fun x25 M24 =>
          vC (13, 157) M24 a0 <|
          cI (rec 242 [va_rf a0] M24) fun x27 M26 =>
          jn (fun (s28 : Unit) =>
            vC (13, 157) M26 a0 <|
            cV (rec 239 [va_rf a0, .int ((2 : Int32)), .int a2, .int ((0 : Int32))] M26) fun M29 =>
            j204 M29) fun j169 =>
          if x27 < 0 then (
            j169 ()) else (
            if x27 < x8 then (
              gtP (13, 157) M26 a0 71 fun x30 =>
              asI 100 M26 x30 ((((50 : Int32)) * x2) + x27) x25 fun M31 =>
              j204 M31) else (
              j169 ()))))] (
        vC (13, 157) M6 a0 <|
        cV (rec 250 [va_rf a0, .int x2, .int a2, .int x8] M6) fun M32 =>
        j204 M32))) else (
    vC (13, 157) M1 a0 <|
    cV (rec 239 [va_rf a0, .int (-x2), .int a2, .int ((0 : Int32))] M1) fun M33 =>
    some (.null, M33))
def b249 (rec : Nat → List Value → Mem → XA) (as : List Value) (M0 : Mem) : XA := aR as fun a0 as => aI as fun a1 as => aI as fun a2 as => aZ as (c249 rec a0 a1 a2 M0)
set_option maxRecDepth 100000 in
set_option maxHeartbeats 4000000 in
theorem k249 {S : XS} {G : XG} {K : Nat × Nat} {l : Launch} {d : Nat} {rec : Nat → List Value → Mem → XA} (hs : XSnd l xmt rec d) (a0 : Option Nat) (a1 : Int32) (a2 : Int32) (M0 : Mem) : Xe S G K l (yX12_uses, cX12_uses, 7, none) d 0 [some (va_rf a0), some (.int a1), some (.int a2), none, none, none, none] [] M0 (c249 rec a0 a1 a2 M0) := by
  unfold c249
  refine x_aload_n dX12_uses_0 rfl ?_
  refine x_iload_n dX12_uses_1 rfl ?_
  refine cmX12_695 rfl hs (Nat.le_of_ble_eq_true rfl) dX12_uses_2 (fun x2 M1 => ?_)
  refine x_istore_n (lo' := [some (va_rf a0), some (.int a1), some (.int a2), some (.int x2), none, none, none]) dX12_uses_5 (by decide) rfl rfl ?_
  refine x_iload_n dX12_uses_6 rfl ?_
  refine x_if_ge (tgt := 19) dX12_uses_7 (by decide) (fun _ => ?_) (fun _ => ?_)
  · refine x_aload_n dX12_uses_19 rfl ?_
    refine x_iload_n dX12_uses_20 rfl ?_
    refine x_iload_n dX12_uses_21 rfl ?_
    refine cmX12_698 rfl hs (Nat.le_of_ble_eq_true rfl) dX12_uses_22 (fun x4 M3 => ?_)
    refine x_if_ne (tgt := 29) dX12_uses_25 (by decide) (fun _ => ?_) (fun _ => ?_)
    · exact x_vret rfl dX12_uses_28
    · refine x_aload_n dX12_uses_29 rfl ?_
      refine gfX12_52 rfl dX12_uses_30 (fun x5 => ?_)
      refine x_aload_n dX12_uses_33 rfl ?_
      refine x_iload_n dX12_uses_34 rfl ?_
      refine cmX12_622 rfl hs (Nat.le_of_ble_eq_true rfl) dX12_uses_35 (fun x7 M6 => ?_)
      refine x_iald dX12_uses_38 (fun x8 => ?_)
      refine x_istore (lo' := [some (va_rf a0), some (.int a1), some (.int a2), some (.int x2), some (.int x8), none, none]) dX12_uses_39 (by decide) rfl rfl ?_
      refine x_iload_n dX12_uses_41 rfl ?_
      refine x_jn (σ := Mem) 204 (fun s9 => [none, none, none, none, none, none, none]) (fun s9 => []) (fun s9 => s9) (fun s9 => ?_) (fun j204 hj204 => ?_)
      · exact x_vret rfl dX12_uses_204
      refine x_table (tgt := 196) dX12_uses_42 [(3, 72), (4, 85), (5, 98), (6, 145)] (by decide +kernel) (by decide +kernel) (by decide) ?_ ?_
      · refine swG_d (by decide) ?_ (swG_d (by decide) ?_ (swG_d (by decide) ?_ (swG_d (by decide) ?_ (trivial))))
        · refine x_aload_n dX12_uses_72 rfl ?_
          refine x_aload_n dX12_uses_73 rfl ?_
          refine gfX12_224 rfl dX12_uses_74 (fun x10 => ?_)
          refine x_iload_n dX12_uses_77 rfl ?_
          refine x_iald dX12_uses_78 (fun x11 => ?_)
          refine cmX12_659 rfl hs (Nat.le_of_ble_eq_true rfl) dX12_uses_79 (fun M12 => ?_)
          refine x_goto (tgt := 204) dX12_uses_82 (by decide) ?_
          exact x_weak (by exact trivial) (hj204 M12)
        · refine x_aload_n dX12_uses_85 rfl ?_
          refine gfX12_224 rfl dX12_uses_86 (fun x13 => ?_)
          refine x_iload_n dX12_uses_89 rfl ?_
          refine x_aload_n dX12_uses_90 rfl ?_
          refine cmX12_662 rfl hs (Nat.le_of_ble_eq_true rfl) dX12_uses_91 (fun x15 M14 => ?_)
          refine x_iast dX12_uses_94 (fun M16 => ?_)
          refine x_goto (tgt := 204) dX12_uses_95 (by decide) ?_
          exact x_weak (by exact trivial) (hj204 M16)
        · refine x_aload_n dX12_uses_98 rfl ?_
          refine cmX12_662 rfl hs (Nat.le_of_ble_eq_true rfl) dX12_uses_99 (fun x18 M17 => ?_)
          refine x_istore (lo' := [some (va_rf a0), some (.int a1), some (.int a2), some (.int x2), some (.int x8), none, some (.int x18)]) dX12_uses_102 (by decide) rfl rfl ?_
          refine x_iload dX12_uses_104 rfl ?_
          refine x_jn (σ := Unit) 116 (fun s19 => [some (va_rf a0), none, some (.int a2), none, none, none, none]) (fun s19 => []) (fun s19 => M17) (fun s19 => ?_) (fun j116 hj116 => ?_)
          · refine x_aload_n dX12_uses_116 rfl ?_
            refine x_iconst (v := 2) dX12_uses_117 (by decide) ?_
            refine x_iload_n dX12_uses_118 rfl ?_
            refine x_iconst (v := 0) dX12_uses_119 (by decide) ?_
            refine cmX12_625 rfl hs (Nat.le_of_ble_eq_true rfl) dX12_uses_120 (fun M20 => ?_)
            refine x_goto (tgt := 204) dX12_uses_123 (by decide) ?_
            exact x_weak (by exact trivial) (hj204 M20)
          refine x_if_lt (tgt := 116) dX12_uses_106 (by decide) (fun _ => ?_) (fun _ => ?_)
          · exact x_weak (by exact ⟨rfl, ⟨rfl, trivial⟩⟩) (hj116 ())
          · refine x_iload dX12_uses_109 rfl ?_
            refine x_iload dX12_uses_111 rfl ?_
            refine x_icmp_lt (tgt := 126) dX12_uses_113 (by decide) (fun _ => ?_) (fun _ => ?_)
            · refine x_aload_n dX12_uses_126 rfl ?_
              refine x_aload_n dX12_uses_127 rfl ?_
              refine gfX12_227 rfl dX12_uses_128 (fun x21 => ?_)
              refine x_bipush (v := 50) dX12_uses_131 (by decide) ?_
              refine x_iload_n dX12_uses_133 rfl ?_
              refine x_imul dX12_uses_134 ?_
              refine x_iload dX12_uses_135 rfl ?_
              refine x_iadd dX12_uses_137 ?_
              refine x_iald dX12_uses_138 (fun x22 => ?_)
              refine cmX12_659 rfl hs (Nat.le_of_ble_eq_true rfl) dX12_uses_139 (fun M23 => ?_)
              refine x_goto (tgt := 204) dX12_uses_142 (by decide) ?_
              exact x_weak (by exact trivial) (hj204 M23)
            · exact x_weak (by exact ⟨rfl, ⟨rfl, trivial⟩⟩) (hj116 ())
        · refine x_aload_n dX12_uses_145 rfl ?_
          refine cmX12_662 rfl hs (Nat.le_of_ble_eq_true rfl) dX12_uses_146 (fun x25 M24 => ?_)
          refine x_istore (lo' := [some (va_rf a0), some (.int a1), some (.int a2), some (.int x2), some (.int x8), some (.int x25), none]) dX12_uses_149 (by decide) rfl rfl ?_
          refine x_aload_n dX12_uses_151 rfl ?_
          refine cmX12_662 rfl hs (Nat.le_of_ble_eq_true rfl) dX12_uses_152 (fun x27 M26 => ?_)
          refine x_istore (lo' := [some (va_rf a0), some (.int a1), some (.int a2), some (.int x2), some (.int x8), some (.int x25), some (.int x27)]) dX12_uses_155 (by decide) rfl rfl ?_
          refine x_iload dX12_uses_157 rfl ?_
          refine x_jn (σ := Unit) 169 (fun s28 => [some (va_rf a0), none, some (.int a2), none, none, none, none]) (fun s28 => []) (fun s28 => M26) (fun s28 => ?_) (fun j169 hj169 => ?_)
          · refine x_aload_n dX12_uses_169 rfl ?_
            refine x_iconst (v := 2) dX12_uses_170 (by decide) ?_
            refine x_iload_n dX12_uses_171 rfl ?_
            refine x_iconst (v := 0) dX12_uses_172 (by decide) ?_
            refine cmX12_625 rfl hs (Nat.le_of_ble_eq_true rfl) dX12_uses_173 (fun M29 => ?_)
            refine x_goto (tgt := 204) dX12_uses_176 (by decide) ?_
            exact x_weak (by exact trivial) (hj204 M29)
          refine x_if_lt (tgt := 169) dX12_uses_159 (by decide) (fun _ => ?_) (fun _ => ?_)
          · exact x_weak (by exact ⟨rfl, ⟨rfl, trivial⟩⟩) (hj169 ())
          · refine x_iload dX12_uses_162 rfl ?_
            refine x_iload dX12_uses_164 rfl ?_
            refine x_icmp_lt (tgt := 179) dX12_uses_166 (by decide) (fun _ => ?_) (fun _ => ?_)
            · refine x_aload_n dX12_uses_179 rfl ?_
              refine gfX12_227 rfl dX12_uses_180 (fun x30 => ?_)
              refine x_bipush (v := 50) dX12_uses_183 (by decide) ?_
              refine x_iload_n dX12_uses_185 rfl ?_
              refine x_imul dX12_uses_186 ?_
              refine x_iload dX12_uses_187 rfl ?_
              refine x_iadd dX12_uses_189 ?_
              refine x_iload dX12_uses_190 rfl ?_
              refine x_iast dX12_uses_192 (fun M31 => ?_)
              refine x_goto (tgt := 204) dX12_uses_193 (by decide) ?_
              exact x_weak (by exact trivial) (hj204 M31)
            · exact x_weak (by exact ⟨rfl, ⟨rfl, trivial⟩⟩) (hj169 ())
      · refine x_aload_n dX12_uses_196 rfl ?_
        refine x_iload_n dX12_uses_197 rfl ?_
        refine x_iload_n dX12_uses_198 rfl ?_
        refine x_iload dX12_uses_199 rfl ?_
        refine cmX12_702 rfl hs (Nat.le_of_ble_eq_true rfl) dX12_uses_201 (fun M32 => ?_)
        exact x_weak (by exact trivial) (hj204 M32)
  · refine x_aload_n dX12_uses_10 rfl ?_
    refine x_iload_n dX12_uses_11 rfl ?_
    refine x_ineg dX12_uses_12 ?_
    refine x_iload_n dX12_uses_13 rfl ?_
    refine x_iconst (v := 0) dX12_uses_14 (by decide) ?_
    refine cmX12_625 rfl hs (Nat.le_of_ble_eq_true rfl) dX12_uses_15 (fun M33 => ?_)
    exact x_vret rfl dX12_uses_18
theorem s249 {l : Launch} {d : Nat} {rec : Nat → List Value → Mem → XA} (hS : Nonempty XS) (hs : XSnd l xmt rec d) : Snd1 l 249 (b249 rec) d := by
  intro as M r M' h0
  unfold b249 at h0
  obtain ⟨a0, l1, e1, h1⟩ := aR_inv h0
  obtain ⟨a1, l2, e2, h2⟩ := aI_inv h1
  obtain ⟨a2, l3, e3, h3⟩ := aI_inv h2
  obtain ⟨ez, h⟩ := aZ_inv h3
  subst ez
  subst e3
  subst e2
  subst e1
  exact xmet (M := M) (as := [va_rf a0, .int a1, .int a2]) (lo := [some (va_rf a0), some (.int a1), some (.int a2)]) 249 xq249 xm249 (by rw [xargs_rf, xargs_i, xargs_i, xargs_nil]; exact ⟨rfl, ⟨rfl, ⟨rfl, trivial⟩⟩⟩) (by rw [xargs_rf, xargs_i, xargs_i, xargs_nil]; exact Nat.le_of_ble_eq_true rfl) (fun S G K => x_weak (by exact ⟨rfl, ⟨rfl, ⟨rfl, trivial⟩⟩⟩) (k249 hs a0 a1 a2 M)) h hS
set_option maxRecDepth 100000 in
def c250 (rec : Nat → List Value → Mem → XA) (a0 : Option Nat) (a1 : Int32) (a2 : Int32) (a3 : Int32) (M0 : Mem) : XA :=
  jn (fun (s1 : Int32) =>
    jn (fun (s2 : Int32) =>
      vC (13, 157) M0 a0 <|
      cI (rec 272 [va_rf a0, .int s1, .int s2] M0) fun x4 M3 =>
      jn (fun (s5 : Int32 × Mem) =>
        jn (fun (s6 : Mem) =>
          jn (fun (s7 : Mem) =>
            some (.null, s7)) fun j226 =>
          jn (fun (s8 : Unit) =>
            if s5.1 < 0 then (
              gtI (13, 157) s6 a0 76 fun x9 =>
              if x9 = ((12 : Int32)) then (
                vC (13, 157) s6 a0 <|
                cV (rec 239 [va_rf a0, .int ((7 : Int32)), .int a2, .int ((1 : Int32))] s6) fun M10 =>
                j226 M10) else (
                gtP (13, 157) s6 a0 16 fun x11 =>
                vC (13, 157) s6 a0 <|
                cI (rec 236 [va_rf a0, .int a1] s6) fun x13 M12 =>
                alI 100 M12 x11 x13 fun x14 =>
                jn (fun (s15 : Int32) =>
                  vC (13, 157) M12 a0 <|
                  cI (rec 243 [va_rf a0, .int (x14 + s15), .int a3] M12) fun x17 M16 =>
                  gtI (13, 157) M16 a0 86 fun x18 =>
                  if x18 = 0 then (
                    gtI (13, 157) M16 a0 85 fun x19 =>
                    if x19 = 0 then (
                      vC (13, 157) M16 a0 <|
                      cV (rec 241 [va_rf a0, .int x17] M16) fun M20 =>
                      j226 M20) else (
                      j226 M16)) else (
                    j226 M16)) fun j199 =>
                if ((96 : Int32)) ≤ a1 then (
                  j199 ((1000 : Int32))) else (
                  j199 ((0 : Int32))))) else (
              gtI (13, 157) s6 a0 73 fun x21 =>
              ptI (13, 157) s6 a0 73 (x21 - a3) fun M22 =>
              gtP (13, 157) M22 a0 119 fun x23 =>
              alI 100 M22 x23 ((((8 : Int32)) * x4) + s5.1) fun x24 =>
              vC (13, 157) M22 a0 <|
              cV (rec 241 [va_rf a0, .int x24] M22) fun M25 =>
              j226 M25)) fun j120 =>
          if s5.1 < 0 then (
            j120 ()) else (
            gtP (13, 157) s6 a0 118 fun x26 =>
            alX 102 s6 x26 ((((8 : Int32)) * x4) + s5.1) fun x27 =>
            if x27 = 0 then (
              j120 ()) else (
              gtP (13, 157) s6 a0 119 fun x28 =>
              alI 100 s6 x28 ((((8 : Int32)) * x4) + s5.1) fun x29 =>
              vC (13, 157) s6 a0 <|
              cV (rec 239 [va_rf a0, .int x29, .int a2, .int ((0 : Int32))] s6) fun M30 =>
              j226 M30))) fun j77 =>
        if x4 < 0 then (
          j77 s5.2) else (
          gtI (13, 157) s5.2 a0 92 fun x31 =>
          if x31 = 0 then (
            j77 s5.2) else (
            vC (13, 157) s5.2 a0 <|
            cV (rec 279 [va_rf a0, .int x4, .int a3, .int s5.1] s5.2) fun M32 =>
            j77 M32))) fun j54 =>
      if 0 ≤ x4 then (
        vC (13, 157) M3 a0 <|
        cI (rec 277 [va_rf a0, .int x4, .int a3] M3) fun x34 M33 =>
        j54 (x34, M33)) else (
        j54 ((-2 : Int32), M3))) fun j32 =>
    if ((96 : Int32)) ≤ a1 then (
      j32 (a1 - ((96 : Int32)))) else (
      j32 a1)) fun j18 =>
  if ((96 : Int32)) ≤ a1 then (
    gtI (13, 157) M0 a0 67 fun x35 =>
    j18 x35) else (
    gtI (13, 157) M0 a0 66 fun x36 =>
    j18 x36)
def b250 (rec : Nat → List Value → Mem → XA) (as : List Value) (M0 : Mem) : XA := aR as fun a0 as => aI as fun a1 as => aI as fun a2 as => aI as fun a3 as => aZ as (c250 rec a0 a1 a2 a3 M0)
set_option maxRecDepth 100000 in
set_option maxHeartbeats 4000000 in
theorem k250 {S : XS} {G : XG} {K : Nat × Nat} {l : Launch} {d : Nat} {rec : Nat → List Value → Mem → XA} (hs : XSnd l xmt rec d) (a0 : Option Nat) (a1 : Int32) (a2 : Int32) (a3 : Int32) (M0 : Mem) : Xe S G K l (yX12_called, cX12_called, 7, none) d 0 [some (va_rf a0), some (.int a1), some (.int a2), some (.int a3), none, none, none] [] M0 (c250 rec a0 a1 a2 a3 M0) := by
  unfold c250
  refine x_aload_n dX12_called_0 rfl ?_
  refine x_iload_n dX12_called_1 rfl ?_
  refine x_bipush (v := 96) dX12_called_2 (by decide) ?_
  refine x_jn (σ := Int32) 18 (fun s1 => [some (va_rf a0), some (.int a1), some (.int a2), some (.int a3), none, none, none]) (fun s1 => [.int s1, va_rf a0]) (fun s1 => M0) (fun s1 => ?_) (fun j18 hj18 => ?_)
  · refine x_iload_n dX12_called_18 rfl ?_
    refine x_bipush (v := 96) dX12_called_19 (by decide) ?_
    refine x_jn (σ := Int32) 32 (fun s2 => [some (va_rf a0), some (.int a1), some (.int a2), some (.int a3), none, none, none]) (fun s2 => [.int s2, .int s1, va_rf a0]) (fun s2 => M0) (fun s2 => ?_) (fun j32 hj32 => ?_)
    · refine cmX12_705 rfl hs (Nat.le_of_ble_eq_true rfl) dX12_called_32 (fun x4 M3 => ?_)
      refine x_istore (lo' := [some (va_rf a0), some (.int a1), some (.int a2), some (.int a3), some (.int x4), none, none]) dX12_called_35 (by decide) rfl rfl ?_
      refine x_iload dX12_called_37 rfl ?_
      refine x_jn (σ := Int32 × Mem) 54 (fun s5 => [some (va_rf a0), some (.int a1), some (.int a2), some (.int a3), some (.int x4), none, none]) (fun s5 => [.int s5.1]) (fun s5 => s5.2) (fun s5 => ?_) (fun j54 hj54 => ?_)
      · refine x_istore (lo' := [some (va_rf a0), some (.int a1), some (.int a2), some (.int a3), some (.int x4), some (.int s5.1), none]) dX12_called_54 (by decide) rfl rfl ?_
        refine x_iload dX12_called_56 rfl ?_
        refine x_jn (σ := Mem) 77 (fun s6 => [some (va_rf a0), some (.int a1), some (.int a2), some (.int a3), some (.int x4), some (.int s5.1), none]) (fun s6 => []) (fun s6 => s6) (fun s6 => ?_) (fun j77 hj77 => ?_)
        · refine x_iload dX12_called_77 rfl ?_
          refine x_jn (σ := Mem) 226 (fun s7 => [none, none, none, none, none, none, none]) (fun s7 => []) (fun s7 => s7) (fun s7 => ?_) (fun j226 hj226 => ?_)
          · exact x_vret rfl dX12_called_226
          refine x_jn (σ := Unit) 120 (fun s8 => [some (va_rf a0), some (.int a1), some (.int a2), some (.int a3), some (.int x4), some (.int s5.1), none]) (fun s8 => []) (fun s8 => s6) (fun s8 => ?_) (fun j120 hj120 => ?_)
          · refine x_iload dX12_called_120 rfl ?_
            refine x_if_lt (tgt := 155) dX12_called_122 (by decide) (fun _ => ?_) (fun _ => ?_)
            · refine x_aload_n dX12_called_155 rfl ?_
              refine gfX12_629 rfl dX12_called_156 (fun x9 => ?_)
              refine x_bipush (v := 12) dX12_called_159 (by decide) ?_
              refine x_icmp_ne (tgt := 175) dX12_called_161 (by decide) (fun _ => ?_) (fun _ => ?_)
              · refine x_aload_n dX12_called_164 rfl ?_
                refine x_bipush (v := 7) dX12_called_165 (by decide) ?_
                refine x_iload_n dX12_called_167 rfl ?_
                refine x_iconst (v := 1) dX12_called_168 (by decide) ?_
                refine cmX12_625 rfl hs (Nat.le_of_ble_eq_true rfl) dX12_called_169 (fun M10 => ?_)
                refine x_goto (tgt := 226) dX12_called_172 (by decide) ?_
                exact x_weak (by exact trivial) (hj226 M10)
              · refine x_aload_n dX12_called_175 rfl ?_
                refine x_aload_n dX12_called_176 rfl ?_
                refine gfX12_55 rfl dX12_called_177 (fun x11 => ?_)
                refine x_aload_n dX12_called_180 rfl ?_
                refine x_iload_n dX12_called_181 rfl ?_
                refine cmX12_622 rfl hs (Nat.le_of_ble_eq_true rfl) dX12_called_182 (fun x13 M12 => ?_)
                refine x_iald dX12_called_185 (fun x14 => ?_)
                refine x_iload_n dX12_called_186 rfl ?_
                refine x_bipush (v := 96) dX12_called_187 (by decide) ?_
                refine x_jn (σ := Int32) 199 (fun s15 => [some (va_rf a0), none, none, some (.int a3), none, none, none]) (fun s15 => [.int s15, .int x14, va_rf a0]) (fun s15 => M12) (fun s15 => ?_) (fun j199 hj199 => ?_)
                · refine x_iadd dX12_called_199 ?_
                  refine x_iload_n dX12_called_200 rfl ?_
                  refine cmX12_632 rfl hs (Nat.le_of_ble_eq_true rfl) dX12_called_201 (fun x17 M16 => ?_)
                  refine x_istore (lo' := [some (va_rf a0), none, none, some (.int a3), none, none, some (.int x17)]) dX12_called_204 (by decide) rfl rfl ?_
                  refine x_aload_n dX12_called_206 rfl ?_
                  refine gfX12_610 rfl dX12_called_207 (fun x18 => ?_)
                  refine x_if_ne (tgt := 226) dX12_called_210 (by decide) (fun _ => ?_) (fun _ => ?_)
                  · refine x_aload_n dX12_called_213 rfl ?_
                    refine gfX12_635 rfl dX12_called_214 (fun x19 => ?_)
                    refine x_if_ne (tgt := 226) dX12_called_217 (by decide) (fun _ => ?_) (fun _ => ?_)
                    · refine x_aload_n dX12_called_220 rfl ?_
                      refine x_iload dX12_called_221 rfl ?_
                      refine cmX12_659 rfl hs (Nat.le_of_ble_eq_true rfl) dX12_called_223 (fun M20 => ?_)
                      exact x_weak (by exact trivial) (hj226 M20)
                    · exact x_weak (by exact trivial) (hj226 M16)
                  · exact x_weak (by exact trivial) (hj226 M16)
                refine x_icmp_ge (tgt := 196) dX12_called_189 (by decide) (fun _ => ?_) (fun _ => ?_)
                · refine x_sipush (v := 1000) dX12_called_196 (by decide) ?_
                  exact x_weak (by exact ⟨rfl, ⟨rfl, trivial⟩⟩) (hj199 ((1000 : Int32)))
                · refine x_iconst (v := 0) dX12_called_192 (by decide) ?_
                  refine x_goto (tgt := 199) dX12_called_193 (by decide) ?_
                  exact x_weak (by exact ⟨rfl, ⟨rfl, trivial⟩⟩) (hj199 ((0 : Int32)))
            · refine x_aload_n dX12_called_125 rfl ?_
              refine x_dup dX12_called_126 (xc1_r _) ?_
              refine gfX12_638 rfl dX12_called_127 (fun x21 => ?_)
              refine x_iload_n dX12_called_130 rfl ?_
              refine x_isub dX12_called_131 ?_
              refine pfX12_638 rfl dX12_called_132 (fun M22 => ?_)
              refine x_aload_n dX12_called_135 rfl ?_
              refine x_aload_n dX12_called_136 rfl ?_
              refine gfX12_303 rfl dX12_called_137 (fun x23 => ?_)
              refine x_bipush (v := 8) dX12_called_140 (by decide) ?_
              refine x_iload dX12_called_142 rfl ?_
              refine x_imul dX12_called_144 ?_
              refine x_iload dX12_called_145 rfl ?_
              refine x_iadd dX12_called_147 ?_
              refine x_iald dX12_called_148 (fun x24 => ?_)
              refine cmX12_659 rfl hs (Nat.le_of_ble_eq_true rfl) dX12_called_149 (fun M25 => ?_)
              refine x_goto (tgt := 226) dX12_called_152 (by decide) ?_
              exact x_weak (by exact trivial) (hj226 M25)
          refine x_if_lt (tgt := 120) dX12_called_79 (by decide) (fun _ => ?_) (fun _ => ?_)
          · exact x_weak (by exact ⟨rfl, ⟨rfl, ⟨rfl, ⟨rfl, ⟨rfl, ⟨rfl, trivial⟩⟩⟩⟩⟩⟩) (hj120 ())
          · refine x_aload_n dX12_called_82 rfl ?_
            refine gfX12_300 rfl dX12_called_83 (fun x26 => ?_)
            refine x_bipush (v := 8) dX12_called_86 (by decide) ?_
            refine x_iload dX12_called_88 rfl ?_
            refine x_imul dX12_called_90 ?_
            refine x_iload dX12_called_91 rfl ?_
            refine x_iadd dX12_called_93 ?_
            refine x_zald dX12_called_94 (fun x27 => ?_)
            refine x_if_eq (tgt := 120) dX12_called_95 (by decide) (fun _ => ?_) (fun _ => ?_)
            · exact x_weak (by exact ⟨rfl, ⟨rfl, ⟨rfl, ⟨rfl, ⟨rfl, ⟨rfl, trivial⟩⟩⟩⟩⟩⟩) (hj120 ())
            · refine x_aload_n dX12_called_98 rfl ?_
              refine x_aload_n dX12_called_99 rfl ?_
              refine gfX12_303 rfl dX12_called_100 (fun x28 => ?_)
              refine x_bipush (v := 8) dX12_called_103 (by decide) ?_
              refine x_iload dX12_called_105 rfl ?_
              refine x_imul dX12_called_107 ?_
              refine x_iload dX12_called_108 rfl ?_
              refine x_iadd dX12_called_110 ?_
              refine x_iald dX12_called_111 (fun x29 => ?_)
              refine x_iload_n dX12_called_112 rfl ?_
              refine x_iconst (v := 0) dX12_called_113 (by decide) ?_
              refine cmX12_625 rfl hs (Nat.le_of_ble_eq_true rfl) dX12_called_114 (fun M30 => ?_)
              refine x_goto (tgt := 226) dX12_called_117 (by decide) ?_
              exact x_weak (by exact trivial) (hj226 M30)
        refine x_if_lt (tgt := 77) dX12_called_58 (by decide) (fun _ => ?_) (fun _ => ?_)
        · exact x_weak (by exact ⟨rfl, ⟨rfl, ⟨rfl, ⟨rfl, ⟨rfl, ⟨rfl, trivial⟩⟩⟩⟩⟩⟩) (hj77 s5.2)
        · refine x_aload_n dX12_called_61 rfl ?_
          refine gfX12_711 rfl dX12_called_62 (fun x31 => ?_)
          refine x_if_eq (tgt := 77) dX12_called_65 (by decide) (fun _ => ?_) (fun _ => ?_)
          · exact x_weak (by exact ⟨rfl, ⟨rfl, ⟨rfl, ⟨rfl, ⟨rfl, ⟨rfl, trivial⟩⟩⟩⟩⟩⟩) (hj77 s5.2)
          · refine x_aload_n dX12_called_68 rfl ?_
            refine x_iload dX12_called_69 rfl ?_
            refine x_iload_n dX12_called_71 rfl ?_
            refine x_iload dX12_called_72 rfl ?_
            refine cmX12_714 rfl hs (Nat.le_of_ble_eq_true rfl) dX12_called_74 (fun M32 => ?_)
            exact x_weak (by exact ⟨rfl, ⟨rfl, ⟨rfl, ⟨rfl, ⟨rfl, ⟨rfl, trivial⟩⟩⟩⟩⟩⟩) (hj77 M32)
      refine x_if_ge (tgt := 47) dX12_called_39 (by decide) (fun _ => ?_) (fun _ => ?_)
      · refine x_aload_n dX12_called_47 rfl ?_
        refine x_iload dX12_called_48 rfl ?_
        refine x_iload_n dX12_called_50 rfl ?_
        refine cmX12_708 rfl hs (Nat.le_of_ble_eq_true rfl) dX12_called_51 (fun x34 M33 => ?_)
        exact x_weak (by exact ⟨rfl, ⟨rfl, ⟨rfl, ⟨rfl, ⟨rfl, trivial⟩⟩⟩⟩⟩) (hj54 (x34, M33))
      · refine x_bipush (v := -2) dX12_called_42 (by decide) ?_
        refine x_goto (tgt := 54) dX12_called_44 (by decide) ?_
        exact x_weak (by exact ⟨rfl, ⟨rfl, ⟨rfl, ⟨rfl, ⟨rfl, trivial⟩⟩⟩⟩⟩) (hj54 ((-2 : Int32), M3))
    refine x_icmp_ge (tgt := 28) dX12_called_21 (by decide) (fun _ => ?_) (fun _ => ?_)
    · refine x_iload_n dX12_called_28 rfl ?_
      refine x_bipush (v := 96) dX12_called_29 (by decide) ?_
      refine x_isub dX12_called_31 ?_
      exact x_weak (by exact ⟨rfl, ⟨rfl, ⟨rfl, ⟨rfl, trivial⟩⟩⟩⟩) (hj32 (a1 - ((96 : Int32))))
    · refine x_iload_n dX12_called_24 rfl ?_
      refine x_goto (tgt := 32) dX12_called_25 (by decide) ?_
      exact x_weak (by exact ⟨rfl, ⟨rfl, ⟨rfl, ⟨rfl, trivial⟩⟩⟩⟩) (hj32 a1)
  refine x_icmp_ge (tgt := 14) dX12_called_4 (by decide) (fun _ => ?_) (fun _ => ?_)
  · refine x_aload_n dX12_called_14 rfl ?_
    refine gfX12_603 rfl dX12_called_15 (fun x35 => ?_)
    exact x_weak (by exact ⟨rfl, ⟨rfl, ⟨rfl, ⟨rfl, trivial⟩⟩⟩⟩) (hj18 x35)
  · refine x_aload_n dX12_called_7 rfl ?_
    refine gfX12_600 rfl dX12_called_8 (fun x36 => ?_)
    refine x_goto (tgt := 18) dX12_called_11 (by decide) ?_
    exact x_weak (by exact ⟨rfl, ⟨rfl, ⟨rfl, ⟨rfl, trivial⟩⟩⟩⟩) (hj18 x36)
theorem s250 {l : Launch} {d : Nat} {rec : Nat → List Value → Mem → XA} (hS : Nonempty XS) (hs : XSnd l xmt rec d) : Snd1 l 250 (b250 rec) d := by
  intro as M r M' h0
  unfold b250 at h0
  obtain ⟨a0, l1, e1, h1⟩ := aR_inv h0
  obtain ⟨a1, l2, e2, h2⟩ := aI_inv h1
  obtain ⟨a2, l3, e3, h3⟩ := aI_inv h2
  obtain ⟨a3, l4, e4, h4⟩ := aI_inv h3
  obtain ⟨ez, h⟩ := aZ_inv h4
  subst ez
  subst e4
  subst e3
  subst e2
  subst e1
  exact xmet (M := M) (as := [va_rf a0, .int a1, .int a2, .int a3]) (lo := [some (va_rf a0), some (.int a1), some (.int a2), some (.int a3)]) 250 xq250 xm250 (by rw [xargs_rf, xargs_i, xargs_i, xargs_i, xargs_nil]; exact ⟨rfl, ⟨rfl, ⟨rfl, ⟨rfl, trivial⟩⟩⟩⟩) (by rw [xargs_rf, xargs_i, xargs_i, xargs_i, xargs_nil]; exact Nat.le_of_ble_eq_true rfl) (fun S G K => x_weak (by exact ⟨rfl, ⟨rfl, ⟨rfl, ⟨rfl, trivial⟩⟩⟩⟩) (k250 hs a0 a1 a2 a3 M)) h hS
set_option maxRecDepth 100000 in
def c251_2 (rec : Nat → List Value → Mem → XA) (a0 : Option Nat) (j21 : Mem → XA) : (Int32 × Mem) → ((Int32 × Mem) → XA) → XA := fun s9 j2 =>
  if ((16 : Int32)) ≤ s9.1 then (
    j21 s9.2) else (
    gtP (13, 157) s9.2 a0 69 fun x10 =>
    asI 100 s9.2 x10 s9.1 (((0 : Int32))) fun M11 =>
    lt (s9.1 + (1 : Int32)) fun (x12 : Int32) =>
    j2 (x12, M11))
set_option maxRecDepth 100000 in
def c251 (rec : Nat → List Value → Mem → XA) (a0 : Option Nat) (M0 : Mem) : XA :=
  jn (fun (s1 : Mem) =>
    gtI (13, 157) s1 a0 78 fun x2 =>
    ptI (13, 157) s1 a0 79 x2 fun M3 =>
    gtI (13, 157) M3 a0 77 fun x4 =>
    ptI (13, 157) M3 a0 80 x4 fun M5 =>
    ptI (13, 157) M5 a0 81 ((0 : Int32)) fun M6 =>
    ptI (13, 157) M6 a0 82 ((0 : Int32)) fun M7 =>
    ptZ (13, 157) M7 a0 85 ((0 : Int32)) fun M8 =>
    some (.null, M8)) fun j21 =>
  lp (c251_2 rec a0 j21) 4294967296 ((0 : Int32), M0)
def b251 (rec : Nat → List Value → Mem → XA) (as : List Value) (M0 : Mem) : XA := aR as fun a0 as => aZ as (c251 rec a0 M0)
set_option maxRecDepth 100000 in
set_option maxHeartbeats 4000000 in
theorem k251 {S : XS} {G : XG} {K : Nat × Nat} {l : Launch} {d : Nat} {rec : Nat → List Value → Mem → XA} (hs : XSnd l xmt rec d) (a0 : Option Nat) (M0 : Mem) : Xe S G K l (yX12_clear, cX12_clear, 2, none) d 0 [some (va_rf a0), none] [] M0 (c251 rec a0 M0) := by
  unfold c251
  refine x_iconst (v := 0) dX12_clear_0 (by decide) ?_
  refine x_istore_n (lo' := [some (va_rf a0), some (.int ((0 : Int32)))]) dX12_clear_1 (by decide) (xok_r rfl) rfl ?_
  refine x_jn (σ := Mem) 21 (fun s1 => [some (va_rf a0), none]) (fun s1 => []) (fun s1 => s1) (fun s1 => ?_) (fun j21 hj21 => ?_)
  · refine x_aload_n dX12_clear_21 rfl ?_
    refine x_aload_n dX12_clear_22 rfl ?_
    refine gfX12_243 rfl dX12_clear_23 (fun x2 => ?_)
    refine pfX12_691 rfl dX12_clear_26 (fun M3 => ?_)
    refine x_aload_n dX12_clear_29 rfl ?_
    refine x_aload_n dX12_clear_30 rfl ?_
    refine gfX12_239 rfl dX12_clear_31 (fun x4 => ?_)
    refine pfX12_641 rfl dX12_clear_34 (fun M5 => ?_)
    refine x_aload_n dX12_clear_37 rfl ?_
    refine x_iconst (v := 0) dX12_clear_38 (by decide) ?_
    refine pfX12_650 rfl dX12_clear_39 (fun M6 => ?_)
    refine x_aload_n dX12_clear_42 rfl ?_
    refine x_iconst (v := 0) dX12_clear_43 (by decide) ?_
    refine pfX12_685 rfl dX12_clear_44 (fun M7 => ?_)
    refine x_aload_n dX12_clear_47 rfl ?_
    refine x_iconst (v := 0) dX12_clear_48 (by decide) ?_
    refine pfX12_635 rfl dX12_clear_49 (fun M8 => ?_)
    exact x_vret rfl dX12_clear_52
  refine x_weak (by exact ⟨rfl, ⟨rfl, trivial⟩⟩) (x_lp (σ := Int32 × Mem) 2 (fun s9 => [some (va_rf a0), some (.int s9.1)]) (fun s9 => []) (fun s9 => s9.2) (fun s9 j2 hj2 => ?_) 4294967296 ((0 : Int32), M0))
  · refine x_iload_n dX12_clear_2 rfl ?_
    refine x_bipush (v := 16) dX12_clear_3 (by decide) ?_
    refine x_icmp_ge (tgt := 21) dX12_clear_5 (by decide) (fun _ => ?_) (fun _ => ?_)
    · exact x_weak (by exact ⟨rfl, trivial⟩) (hj21 s9.2)
    · refine x_aload_n dX12_clear_8 rfl ?_
      refine gfX12_221 rfl dX12_clear_9 (fun x10 => ?_)
      refine x_iload_n dX12_clear_12 rfl ?_
      refine x_iconst (v := 0) dX12_clear_13 (by decide) ?_
      refine x_iast dX12_clear_14 (fun M11 => ?_)
      refine x_iincN (v := 1) (lo' := fun x12 => [some (va_rf a0), some (.int x12)]) (by decide) dX12_clear_15 rfl (by decide) (xok_r rfl) (fun _ => rfl) (fun x12 => ?_)
      refine x_goto (tgt := 2) dX12_clear_18 (by decide) ?_
      exact x_weak (by exact ⟨rfl, ⟨rfl, trivial⟩⟩) (hj2 (x12, M11))
theorem s251 {l : Launch} {d : Nat} {rec : Nat → List Value → Mem → XA} (hS : Nonempty XS) (hs : XSnd l xmt rec d) : Snd1 l 251 (b251 rec) d := by
  intro as M r M' h0
  unfold b251 at h0
  obtain ⟨a0, l1, e1, h1⟩ := aR_inv h0
  obtain ⟨ez, h⟩ := aZ_inv h1
  subst ez
  subst e1
  exact xmet (M := M) (as := [va_rf a0]) (lo := [some (va_rf a0)]) 251 xq251 xm251 (by rw [xargs_rf, xargs_nil]; exact ⟨rfl, trivial⟩) (by rw [xargs_rf, xargs_nil]; exact Nat.le_of_ble_eq_true rfl) (fun S G K => x_weak (by exact ⟨rfl, trivial⟩) (k251 hs a0 M)) h hS
set_option maxRecDepth 100000 in
def c252 (rec : Nat → List Value → Mem → XA) (a0 : Option Nat) (a1 : Int32) (a2 : Int32) (M0 : Mem) : XA :=
  ptZ (13, 157) M0 a0 86 ((0 : Int32)) fun M1 =>
  ptZ (13, 157) M1 a0 87 ((0 : Int32)) fun M2 =>
  ptI (13, 157) M2 a0 76 ((0 : Int32)) fun M3 =>
  vC (13, 157) M3 a0 <|
  cI (rec 243 [va_rf a0, .int a1, .int a2] M3) fun x5 M4 =>
  gtI (13, 157) M4 a0 86 fun x6 =>
  rtZ x6 M4
def b252 (rec : Nat → List Value → Mem → XA) (as : List Value) (M0 : Mem) : XA := aR as fun a0 as => aI as fun a1 as => aI as fun a2 as => aZ as (c252 rec a0 a1 a2 M0)
set_option maxRecDepth 100000 in
set_option maxHeartbeats 4000000 in
theorem k252 {S : XS} {G : XG} {K : Nat × Nat} {l : Launch} {d : Nat} {rec : Nat → List Value → Mem → XA} (hs : XSnd l xmt rec d) (a0 : Option Nat) (a1 : Int32) (a2 : Int32) (M0 : Mem) : Xe S G K l (yX12_doesFail, cX12_doesFail, 4, some .boolean) d 0 [some (va_rf a0), some (.int a1), some (.int a2), none] [] M0 (c252 rec a0 a1 a2 M0) := by
  unfold c252
  refine x_aload_n dX12_doesFail_0 rfl ?_
  refine x_iconst (v := 0) dX12_doesFail_1 (by decide) ?_
  refine pfX12_610 rfl dX12_doesFail_2 (fun M1 => ?_)
  refine x_aload_n dX12_doesFail_5 rfl ?_
  refine x_iconst (v := 0) dX12_doesFail_6 (by decide) ?_
  refine pfX12_619 rfl dX12_doesFail_7 (fun M2 => ?_)
  refine x_aload_n dX12_doesFail_10 rfl ?_
  refine x_iconst (v := 0) dX12_doesFail_11 (by decide) ?_
  refine pfX12_629 rfl dX12_doesFail_12 (fun M3 => ?_)
  refine x_aload_n dX12_doesFail_15 rfl ?_
  refine x_iload_n dX12_doesFail_16 rfl ?_
  refine x_iload_n dX12_doesFail_17 rfl ?_
  refine cmX12_632 rfl hs (Nat.le_of_ble_eq_true rfl) dX12_doesFail_18 (fun x5 M4 => ?_)
  refine x_istore_n (lo' := [some (va_rf a0), some (.int a1), some (.int a2), some (.int x5)]) dX12_doesFail_21 (by decide) rfl rfl ?_
  refine x_aload_n dX12_doesFail_22 rfl ?_
  refine gfX12_610 rfl dX12_doesFail_23 (fun x6 => ?_)
  exact x_zret rfl dX12_doesFail_26
theorem s252 {l : Launch} {d : Nat} {rec : Nat → List Value → Mem → XA} (hS : Nonempty XS) (hs : XSnd l xmt rec d) : Snd1 l 252 (b252 rec) d := by
  intro as M r M' h0
  unfold b252 at h0
  obtain ⟨a0, l1, e1, h1⟩ := aR_inv h0
  obtain ⟨a1, l2, e2, h2⟩ := aI_inv h1
  obtain ⟨a2, l3, e3, h3⟩ := aI_inv h2
  obtain ⟨ez, h⟩ := aZ_inv h3
  subst ez
  subst e3
  subst e2
  subst e1
  exact xmet (M := M) (as := [va_rf a0, .int a1, .int a2]) (lo := [some (va_rf a0), some (.int a1), some (.int a2)]) 252 xq252 xm252 (by rw [xargs_rf, xargs_i, xargs_i, xargs_nil]; exact ⟨rfl, ⟨rfl, ⟨rfl, trivial⟩⟩⟩) (by rw [xargs_rf, xargs_i, xargs_i, xargs_nil]; exact Nat.le_of_ble_eq_true rfl) (fun S G K => x_weak (by exact ⟨rfl, ⟨rfl, ⟨rfl, trivial⟩⟩⟩) (k252 hs a0 a1 a2 M)) h hS
set_option maxRecDepth 100000 in
def c253 (rec : Nat → List Value → Mem → XA) (a0 : Option Nat) (a1 : Int32) (M0 : Mem) : XA :=
  ptI (13, 157) M0 a0 101 a1 fun M1 =>
  gtI (13, 157) M1 a0 88 fun x2 =>
  ptI (13, 157) M1 a0 102 x2 fun M3 =>
  gtI (13, 157) M3 a0 89 fun x4 =>
  ptI (13, 157) M3 a0 103 x4 fun M5 =>
  some (.null, M5)
def b253 (rec : Nat → List Value → Mem → XA) (as : List Value) (M0 : Mem) : XA := aR as fun a0 as => aI as fun a1 as => aZ as (c253 rec a0 a1 M0)
set_option maxRecDepth 100000 in
set_option maxHeartbeats 4000000 in
theorem k253 {S : XS} {G : XG} {K : Nat × Nat} {l : Launch} {d : Nat} {rec : Nat → List Value → Mem → XA} (hs : XSnd l xmt rec d) (a0 : Option Nat) (a1 : Int32) (M0 : Mem) : Xe S G K l (yX12_tells, cX12_tells, 2, none) d 0 [some (va_rf a0), some (.int a1)] [] M0 (c253 rec a0 a1 M0) := by
  unfold c253
  refine x_aload_n dX12_tells_0 rfl ?_
  refine x_iload_n dX12_tells_1 rfl ?_
  refine pfX12_717 rfl dX12_tells_2 (fun M1 => ?_)
  refine x_aload_n dX12_tells_5 rfl ?_
  refine x_aload_n dX12_tells_6 rfl ?_
  refine gfX12_613 rfl dX12_tells_7 (fun x2 => ?_)
  refine pfX12_720 rfl dX12_tells_10 (fun M3 => ?_)
  refine x_aload_n dX12_tells_13 rfl ?_
  refine x_aload_n dX12_tells_14 rfl ?_
  refine gfX12_616 rfl dX12_tells_15 (fun x4 => ?_)
  refine pfX12_723 rfl dX12_tells_18 (fun M5 => ?_)
  exact x_vret rfl dX12_tells_21
theorem s253 {l : Launch} {d : Nat} {rec : Nat → List Value → Mem → XA} (hS : Nonempty XS) (hs : XSnd l xmt rec d) : Snd1 l 253 (b253 rec) d := by
  intro as M r M' h0
  unfold b253 at h0
  obtain ⟨a0, l1, e1, h1⟩ := aR_inv h0
  obtain ⟨a1, l2, e2, h2⟩ := aI_inv h1
  obtain ⟨ez, h⟩ := aZ_inv h2
  subst ez
  subst e2
  subst e1
  exact xmet (M := M) (as := [va_rf a0, .int a1]) (lo := [some (va_rf a0), some (.int a1)]) 253 xq253 xm253 (by rw [xargs_rf, xargs_i, xargs_nil]; exact ⟨rfl, ⟨rfl, trivial⟩⟩) (by rw [xargs_rf, xargs_i, xargs_nil]; exact Nat.le_of_ble_eq_true rfl) (fun S G K => x_weak (by exact ⟨rfl, ⟨rfl, trivial⟩⟩) (k253 hs a0 a1 M)) h hS
set_option maxRecDepth 100000 in
def c254_222 (rec : Nat → List Value → Mem → XA) (a0 : Option Nat) (j277 : Mem → XA) (x6 : Int32) : (Int32 × Mem) → ((Int32 × Mem) → XA) → XA := fun s20 j222 =>
  if s20.1 < 0 then (
    j277 s20.2) else (
    gtI (13, 157) s20.2 a0 85 fun x21 =>
    if x21 = 0 then (
      ptI (13, 157) s20.2 a0 73 ((0 : Int32)) fun M22 =>
      gtP (13, 157) M22 a0 9 fun x23 =>
      alI 100 M22 x23 ((((3 : Int32)) * x6) + s20.1) fun x24 =>
      vC (13, 157) M22 a0 <|
      cI (rec 252 [va_rf a0, .int x24, .int ((0 : Int32))] M22) fun x26 M25 =>
      jn (fun (s27 : Mem) =>
        lt (s20.1 + (-1 : Int32)) fun (x28 : Int32) =>
        j222 (x28, s27)) fun j271 =>
      if x26 = 0 then (
        j271 M25) else (
        gtI (13, 157) M25 a0 101 fun x29 =>
        if x29 = ((1 : Int32)) then (
          vC (13, 157) M25 a0 <|
          cV (rec 253 [va_rf a0, .int ((4 : Int32))] M25) fun M30 =>
          j271 M30) else (
          j271 M25))) else (
      j277 s20.2))
set_option maxRecDepth 100000 in
def c254_63 (rec : Nat → List Value → Mem → XA) (a0 : Option Nat) (j117 : Mem → XA) (x6 : Int32) : (Int32 × Mem) → ((Int32 × Mem) → XA) → XA := fun s51 j63 =>
  gtP (13, 157) s51.2 a0 6 fun x52 =>
  alI 100 s51.2 x52 x6 fun x53 =>
  if x53 ≤ s51.1 then (
    j117 s51.2) else (
    gtI (13, 157) s51.2 a0 101 fun x54 =>
    if x54 = ((1 : Int32)) then (
      ptI (13, 157) s51.2 a0 73 ((0 : Int32)) fun M55 =>
      gtP (13, 157) M55 a0 7 fun x56 =>
      alI 100 M55 x56 ((((3 : Int32)) * x6) + s51.1) fun x57 =>
      vC (13, 157) M55 a0 <|
      cI (rec 252 [va_rf a0, .int x57, .int ((0 : Int32))] M55) fun x59 M58 =>
      jn (fun (s60 : Mem) =>
        lt (s51.1 + (1 : Int32)) fun (x61 : Int32) =>
        j63 (x61, s60)) fun j111 =>
      if x59 = 0 then (
        j111 M58) else (
        vC (13, 157) M58 a0 <|
        cV (rec 253 [va_rf a0, .int ((3 : Int32))] M58) fun M62 =>
        j111 M62)) else (
      j117 s51.2))
set_option maxRecDepth 100000 in
def c254 (rec : Nat → List Value → Mem → XA) (a0 : Option Nat) (a1 : Int32) (M0 : Mem) : XA :=
  gtI (13, 157) M0 a0 66 fun x1 =>
  lt ((((16 : Int32)) * x1) + a1) fun (x2 : Int32) =>
  gtI (13, 157) M0 a0 66 fun x3 =>
  gtP (13, 157) M0 a0 19 fun x4 =>
  alI 100 M0 x4 x2 fun x5 =>
  lt ((((8 : Int32)) * x3) + x5) fun (x6 : Int32) =>
  ptI (13, 157) M0 a0 101 ((1 : Int32)) fun M7 =>
  ptI (13, 157) M7 a0 102 ((0 : Int32)) fun M8 =>
  ptI (13, 157) M8 a0 103 ((-2 : Int32)) fun M9 =>
  vC (13, 157) M9 a0 <|
  cV (rec 251 [va_rf a0] M9) fun M10 =>
  gtP (13, 157) M10 a0 22 fun x11 =>
  alX 102 M10 x11 x2 fun x12 =>
  if x12 = 0 then (
    jn (fun (s13 : Mem) =>
      gtI (13, 157) s13 a0 101 fun x14 =>
      jn (fun (s15 : Mem) =>
        gtP (13, 157) s15 a0 8 fun x16 =>
        alI 100 s15 x16 x6 fun x17 =>
        lt (x17 - ((1 : Int32))) fun (x18 : Int32) =>
        jn (fun (s19 : Mem) =>
          some (.null, s19)) fun j277 =>
        lp (c254_222 rec a0 j277 x6) 4294967296 (x18, s15)) fun j212 =>
      if x14 = ((1 : Int32)) then (
        ptI (13, 157) s13 a0 73 ((0 : Int32)) fun M31 =>
        gtP (13, 157) M31 a0 20 fun x32 =>
        alI 100 M31 x32 x2 fun x33 =>
        vC (13, 157) M31 a0 <|
        cV (rec 241 [va_rf a0, .int x33] M31) fun M34 =>
        gtP (13, 157) M34 a0 23 fun x35 =>
        alI 100 M34 x35 x2 fun x36 =>
        vC (13, 157) M34 a0 <|
        cI (rec 252 [va_rf a0, .int x36, .int ((1 : Int32))] M34) fun x38 M37 =>
        jn (fun (s39 : Unit) =>
          if x38 = 0 then (
            gtP (13, 157) M37 a0 21 fun x40 =>
            alI 100 M37 x40 x2 fun x41 =>
            if x41 ≤ 0 then (
              j212 M37) else (
              ptI (13, 157) M37 a0 101 ((2 : Int32)) fun M42 =>
              ptI (13, 157) M42 a0 102 ((4 : Int32)) fun M43 =>
              j212 M43)) else (
            j212 M37)) fun j188 =>
        if x38 = 0 then (
          j188 ()) else (
          gtP (13, 157) M37 a0 21 fun x44 =>
          alI 100 M37 x44 x2 fun x45 =>
          jn (fun (s46 : Unit) =>
            vC (13, 157) M37 a0 <|
            cV (rec 253 [va_rf a0, .int ((2 : Int32))] M37) fun M47 =>
            j212 M47) fun j180 =>
          if x45 = 0 then (
            j180 ()) else (
            gtP (13, 157) M37 a0 21 fun x48 =>
            alI 100 M37 x48 x2 fun x49 =>
            gtI (13, 157) M37 a0 88 fun x50 =>
            if x49 = x50 then (
              j188 ()) else (
              j180 ())))) else (
        j212 s13)) fun j117 =>
    lp (c254_63 rec a0 j117 x6) 4294967296 ((0 : Int32), M10)) else (
    ptI (13, 157) M10 a0 101 ((5 : Int32)) fun M63 =>
    some (.null, M63))
def b254 (rec : Nat → List Value → Mem → XA) (as : List Value) (M0 : Mem) : XA := aR as fun a0 as => aI as fun a1 as => aZ as (c254 rec a0 a1 M0)
set_option maxRecDepth 100000 in
set_option maxHeartbeats 4000000 in
theorem k254 {S : XS} {G : XG} {K : Nat × Nat} {l : Launch} {d : Nat} {rec : Nat → List Value → Mem → XA} (hs : XSnd l xmt rec d) (a0 : Option Nat) (a1 : Int32) (M0 : Mem) : Xe S G K l (yX12_life, cX12_life, 5, none) d 0 [some (va_rf a0), some (.int a1), none, none, none] [] M0 (c254 rec a0 a1 M0) := by
  unfold c254
  refine x_bipush (v := 16) dX12_life_0 (by decide) ?_
  refine x_aload_n dX12_life_2 rfl ?_
  refine gfX12_600 rfl dX12_life_3 (fun x1 => ?_)
  refine x_imul dX12_life_6 ?_
  refine x_iload_n dX12_life_7 rfl ?_
  refine x_iadd dX12_life_8 ?_
  refine x_ltI (fun x2 => ?_)
  refine x_istore_n (lo' := [some (va_rf a0), some (.int a1), some (.int x2), none, none]) dX12_life_9 (by decide) rfl rfl ?_
  refine x_bipush (v := 8) dX12_life_10 (by decide) ?_
  refine x_aload_n dX12_life_12 rfl ?_
  refine gfX12_600 rfl dX12_life_13 (fun x3 => ?_)
  refine x_imul dX12_life_16 ?_
  refine x_aload_n dX12_life_17 rfl ?_
  refine gfX12_64 rfl dX12_life_18 (fun x4 => ?_)
  refine x_iload_n dX12_life_21 rfl ?_
  refine x_iald dX12_life_22 (fun x5 => ?_)
  refine x_iadd dX12_life_23 ?_
  refine x_ltI (fun x6 => ?_)
  refine x_istore_n (lo' := [some (va_rf a0), some (.int a1), some (.int x2), some (.int x6), none]) dX12_life_24 (by decide) rfl rfl ?_
  refine x_aload_n dX12_life_25 rfl ?_
  refine x_iconst (v := 1) dX12_life_26 (by decide) ?_
  refine pfX12_717 rfl dX12_life_27 (fun M7 => ?_)
  refine x_aload_n dX12_life_30 rfl ?_
  refine x_iconst (v := 0) dX12_life_31 (by decide) ?_
  refine pfX12_720 rfl dX12_life_32 (fun M8 => ?_)
  refine x_aload_n dX12_life_35 rfl ?_
  refine x_bipush (v := -2) dX12_life_36 (by decide) ?_
  refine pfX12_723 rfl dX12_life_38 (fun M9 => ?_)
  refine x_aload_n dX12_life_41 rfl ?_
  refine cmX12_726 rfl hs (Nat.le_of_ble_eq_true rfl) dX12_life_42 (fun M10 => ?_)
  refine x_aload_n dX12_life_45 rfl ?_
  refine gfX12_73 rfl dX12_life_46 (fun x11 => ?_)
  refine x_iload_n dX12_life_49 rfl ?_
  refine x_zald dX12_life_50 (fun x12 => ?_)
  refine x_if_eq (tgt := 60) dX12_life_51 (by decide) (fun _ => ?_) (fun _ => ?_)
  · refine x_iconst (v := 0) dX12_life_60 (by decide) ?_
    refine x_istore (lo' := [some (va_rf a0), some (.int a1), some (.int x2), some (.int x6), some (.int ((0 : Int32)))]) dX12_life_61 (by decide) rfl rfl ?_
    refine x_jn (σ := Mem) 117 (fun s13 => [some (va_rf a0), none, some (.int x2), some (.int x6), none]) (fun s13 => []) (fun s13 => s13) (fun s13 => ?_) (fun j117 hj117 => ?_)
    · refine x_aload_n dX12_life_117 rfl ?_
      refine gfX12_717 rfl dX12_life_118 (fun x14 => ?_)
      refine x_iconst (v := 1) dX12_life_121 (by decide) ?_
      refine x_jn (σ := Mem) 212 (fun s15 => [some (va_rf a0), none, none, some (.int x6), none]) (fun s15 => []) (fun s15 => s15) (fun s15 => ?_) (fun j212 hj212 => ?_)
      · refine x_aload_n dX12_life_212 rfl ?_
        refine gfX12_30 rfl dX12_life_213 (fun x16 => ?_)
        refine x_iload_n dX12_life_216 rfl ?_
        refine x_iald dX12_life_217 (fun x17 => ?_)
        refine x_iconst (v := 1) dX12_life_218 (by decide) ?_
        refine x_isub dX12_life_219 ?_
        refine x_ltI (fun x18 => ?_)
        refine x_istore (lo' := [some (va_rf a0), none, none, some (.int x6), some (.int x18)]) dX12_life_220 (by decide) rfl rfl ?_
        refine x_jn (σ := Mem) 277 (fun s19 => [none, none, none, none, none]) (fun s19 => []) (fun s19 => s19) (fun s19 => ?_) (fun j277 hj277 => ?_)
        · exact x_vret rfl dX12_life_277
        refine x_weak (by exact ⟨rfl, ⟨rfl, ⟨rfl, trivial⟩⟩⟩) (x_lp (σ := Int32 × Mem) 222 (fun s20 => [some (va_rf a0), none, none, some (.int x6), some (.int s20.1)]) (fun s20 => []) (fun s20 => s20.2) (fun s20 j222 hj222 => ?_) 4294967296 (x18, s15))
        · refine x_iload dX12_life_222 rfl ?_
          refine x_if_lt (tgt := 277) dX12_life_224 (by decide) (fun _ => ?_) (fun _ => ?_)
          · exact x_weak (by exact trivial) (hj277 s20.2)
          · refine x_aload_n dX12_life_227 rfl ?_
            refine gfX12_635 rfl dX12_life_228 (fun x21 => ?_)
            refine x_if_ne (tgt := 277) dX12_life_231 (by decide) (fun _ => ?_) (fun _ => ?_)
            · refine x_aload_n dX12_life_234 rfl ?_
              refine x_iconst (v := 0) dX12_life_235 (by decide) ?_
              refine pfX12_638 rfl dX12_life_236 (fun M22 => ?_)
              refine x_aload_n dX12_life_239 rfl ?_
              refine x_aload_n dX12_life_240 rfl ?_
              refine gfX12_33 rfl dX12_life_241 (fun x23 => ?_)
              refine x_iconst (v := 3) dX12_life_244 (by decide) ?_
              refine x_iload_n dX12_life_245 rfl ?_
              refine x_imul dX12_life_246 ?_
              refine x_iload dX12_life_247 rfl ?_
              refine x_iadd dX12_life_249 ?_
              refine x_iald dX12_life_250 (fun x24 => ?_)
              refine x_iconst (v := 0) dX12_life_251 (by decide) ?_
              refine cmX12_729 rfl hs (Nat.le_of_ble_eq_true rfl) dX12_life_252 (fun x26 M25 => ?_)
              refine x_jn (σ := Mem) 271 (fun s27 => [some (va_rf a0), none, none, some (.int x6), some (.int s20.1)]) (fun s27 => []) (fun s27 => s27) (fun s27 => ?_) (fun j271 hj271 => ?_)
              · refine x_iincN (v := -1) (lo' := fun x28 => [some (va_rf a0), none, none, some (.int x6), some (.int x28)]) (by decide) dX12_life_271 rfl (by decide) rfl (fun _ => rfl) (fun x28 => ?_)
                refine x_goto (tgt := 222) dX12_life_274 (by decide) ?_
                exact x_weak (by exact ⟨rfl, ⟨rfl, ⟨rfl, trivial⟩⟩⟩) (hj222 (x28, s27))
              refine x_if_eq (tgt := 271) dX12_life_255 (by decide) (fun _ => ?_) (fun _ => ?_)
              · exact x_weak (by exact ⟨rfl, ⟨rfl, ⟨rfl, trivial⟩⟩⟩) (hj271 M25)
              · refine x_aload_n dX12_life_258 rfl ?_
                refine gfX12_717 rfl dX12_life_259 (fun x29 => ?_)
                refine x_iconst (v := 1) dX12_life_262 (by decide) ?_
                refine x_icmp_ne (tgt := 271) dX12_life_263 (by decide) (fun _ => ?_) (fun _ => ?_)
                · refine x_aload_n dX12_life_266 rfl ?_
                  refine x_iconst (v := 4) dX12_life_267 (by decide) ?_
                  refine cmX12_732 rfl hs (Nat.le_of_ble_eq_true rfl) dX12_life_268 (fun M30 => ?_)
                  exact x_weak (by exact ⟨rfl, ⟨rfl, ⟨rfl, trivial⟩⟩⟩) (hj271 M30)
                · exact x_weak (by exact ⟨rfl, ⟨rfl, ⟨rfl, trivial⟩⟩⟩) (hj271 M25)
            · exact x_weak (by exact trivial) (hj277 s20.2)
      refine x_icmp_ne (tgt := 212) dX12_life_122 (by decide) (fun _ => ?_) (fun _ => ?_)
      · refine x_aload_n dX12_life_125 rfl ?_
        refine x_iconst (v := 0) dX12_life_126 (by decide) ?_
        refine pfX12_638 rfl dX12_life_127 (fun M31 => ?_)
        refine x_aload_n dX12_life_130 rfl ?_
        refine x_aload_n dX12_life_131 rfl ?_
        refine gfX12_67 rfl dX12_life_132 (fun x32 => ?_)
        refine x_iload_n dX12_life_135 rfl ?_
        refine x_iald dX12_life_136 (fun x33 => ?_)
        refine cmX12_659 rfl hs (Nat.le_of_ble_eq_true rfl) dX12_life_137 (fun M34 => ?_)
        refine x_aload_n dX12_life_140 rfl ?_
        refine x_aload_n dX12_life_141 rfl ?_
        refine gfX12_76 rfl dX12_life_142 (fun x35 => ?_)
        refine x_iload_n dX12_life_145 rfl ?_
        refine x_iald dX12_life_146 (fun x36 => ?_)
        refine x_iconst (v := 1) dX12_life_147 (by decide) ?_
        refine cmX12_729 rfl hs (Nat.le_of_ble_eq_true rfl) dX12_life_148 (fun x38 M37 => ?_)
        refine x_istore (lo' := [some (va_rf a0), none, some (.int x2), some (.int x6), some (.int x38)]) dX12_life_151 (by decide) rfl rfl ?_
        refine x_iload dX12_life_153 rfl ?_
        refine x_jn (σ := Unit) 188 (fun s39 => [some (va_rf a0), none, some (.int x2), some (.int x6), some (.int x38)]) (fun s39 => []) (fun s39 => M37) (fun s39 => ?_) (fun j188 hj188 => ?_)
        · refine x_iload dX12_life_188 rfl ?_
          refine x_if_ne (tgt := 212) dX12_life_190 (by decide) (fun _ => ?_) (fun _ => ?_)
          · refine x_aload_n dX12_life_193 rfl ?_
            refine gfX12_70 rfl dX12_life_194 (fun x40 => ?_)
            refine x_iload_n dX12_life_197 rfl ?_
            refine x_iald dX12_life_198 (fun x41 => ?_)
            refine x_if_le (tgt := 212) dX12_life_199 (by decide) (fun _ => ?_) (fun _ => ?_)
            · exact x_weak (by exact ⟨rfl, ⟨rfl, trivial⟩⟩) (hj212 M37)
            · refine x_aload_n dX12_life_202 rfl ?_
              refine x_iconst (v := 2) dX12_life_203 (by decide) ?_
              refine pfX12_717 rfl dX12_life_204 (fun M42 => ?_)
              refine x_aload_n dX12_life_207 rfl ?_
              refine x_iconst (v := 4) dX12_life_208 (by decide) ?_
              refine pfX12_720 rfl dX12_life_209 (fun M43 => ?_)
              exact x_weak (by exact ⟨rfl, ⟨rfl, trivial⟩⟩) (hj212 M43)
          · exact x_weak (by exact ⟨rfl, ⟨rfl, trivial⟩⟩) (hj212 M37)
        refine x_if_eq (tgt := 188) dX12_life_155 (by decide) (fun _ => ?_) (fun _ => ?_)
        · exact x_weak (by exact ⟨rfl, ⟨rfl, ⟨rfl, ⟨rfl, trivial⟩⟩⟩⟩) (hj188 ())
        · refine x_aload_n dX12_life_158 rfl ?_
          refine gfX12_70 rfl dX12_life_159 (fun x44 => ?_)
          refine x_iload_n dX12_life_162 rfl ?_
          refine x_iald dX12_life_163 (fun x45 => ?_)
          refine x_jn (σ := Unit) 180 (fun s46 => [some (va_rf a0), none, none, some (.int x6), none]) (fun s46 => []) (fun s46 => M37) (fun s46 => ?_) (fun j180 hj180 => ?_)
          · refine x_aload_n dX12_life_180 rfl ?_
            refine x_iconst (v := 2) dX12_life_181 (by decide) ?_
            refine cmX12_732 rfl hs (Nat.le_of_ble_eq_true rfl) dX12_life_182 (fun M47 => ?_)
            refine x_goto (tgt := 212) dX12_life_185 (by decide) ?_
            exact x_weak (by exact ⟨rfl, ⟨rfl, trivial⟩⟩) (hj212 M47)
          refine x_if_eq (tgt := 180) dX12_life_164 (by decide) (fun _ => ?_) (fun _ => ?_)
          · exact x_weak (by exact ⟨rfl, ⟨rfl, trivial⟩⟩) (hj180 ())
          · refine x_aload_n dX12_life_167 rfl ?_
            refine gfX12_70 rfl dX12_life_168 (fun x48 => ?_)
            refine x_iload_n dX12_life_171 rfl ?_
            refine x_iald dX12_life_172 (fun x49 => ?_)
            refine x_aload_n dX12_life_173 rfl ?_
            refine gfX12_613 rfl dX12_life_174 (fun x50 => ?_)
            refine x_icmp_eq (tgt := 188) dX12_life_177 (by decide) (fun _ => ?_) (fun _ => ?_)
            · exact x_weak (by exact ⟨rfl, ⟨rfl, ⟨rfl, ⟨rfl, trivial⟩⟩⟩⟩) (hj188 ())
            · exact x_weak (by exact ⟨rfl, ⟨rfl, trivial⟩⟩) (hj180 ())
      · exact x_weak (by exact ⟨rfl, ⟨rfl, trivial⟩⟩) (hj212 s13)
    refine x_weak (by exact ⟨rfl, ⟨rfl, ⟨rfl, ⟨rfl, trivial⟩⟩⟩⟩) (x_lp (σ := Int32 × Mem) 63 (fun s51 => [some (va_rf a0), none, some (.int x2), some (.int x6), some (.int s51.1)]) (fun s51 => []) (fun s51 => s51.2) (fun s51 j63 hj63 => ?_) 4294967296 ((0 : Int32), M10))
    · refine x_iload dX12_life_63 rfl ?_
      refine x_aload_n dX12_life_65 rfl ?_
      refine gfX12_24 rfl dX12_life_66 (fun x52 => ?_)
      refine x_iload_n dX12_life_69 rfl ?_
      refine x_iald dX12_life_70 (fun x53 => ?_)
      refine x_icmp_ge (tgt := 117) dX12_life_71 (by decide) (fun _ => ?_) (fun _ => ?_)
      · exact x_weak (by exact ⟨rfl, ⟨rfl, ⟨rfl, trivial⟩⟩⟩) (hj117 s51.2)
      · refine x_aload_n dX12_life_74 rfl ?_
        refine gfX12_717 rfl dX12_life_75 (fun x54 => ?_)
        refine x_iconst (v := 1) dX12_life_78 (by decide) ?_
        refine x_icmp_ne (tgt := 117) dX12_life_79 (by decide) (fun _ => ?_) (fun _ => ?_)
        · refine x_aload_n dX12_life_82 rfl ?_
          refine x_iconst (v := 0) dX12_life_83 (by decide) ?_
          refine pfX12_638 rfl dX12_life_84 (fun M55 => ?_)
          refine x_aload_n dX12_life_87 rfl ?_
          refine x_aload_n dX12_life_88 rfl ?_
          refine gfX12_27 rfl dX12_life_89 (fun x56 => ?_)
          refine x_iconst (v := 3) dX12_life_92 (by decide) ?_
          refine x_iload_n dX12_life_93 rfl ?_
          refine x_imul dX12_life_94 ?_
          refine x_iload dX12_life_95 rfl ?_
          refine x_iadd dX12_life_97 ?_
          refine x_iald dX12_life_98 (fun x57 => ?_)
          refine x_iconst (v := 0) dX12_life_99 (by decide) ?_
          refine cmX12_729 rfl hs (Nat.le_of_ble_eq_true rfl) dX12_life_100 (fun x59 M58 => ?_)
          refine x_jn (σ := Mem) 111 (fun s60 => [some (va_rf a0), none, some (.int x2), some (.int x6), some (.int s51.1)]) (fun s60 => []) (fun s60 => s60) (fun s60 => ?_) (fun j111 hj111 => ?_)
          · refine x_iincN (v := 1) (lo' := fun x61 => [some (va_rf a0), none, some (.int x2), some (.int x6), some (.int x61)]) (by decide) dX12_life_111 rfl (by decide) rfl (fun _ => rfl) (fun x61 => ?_)
            refine x_goto (tgt := 63) dX12_life_114 (by decide) ?_
            exact x_weak (by exact ⟨rfl, ⟨rfl, ⟨rfl, ⟨rfl, trivial⟩⟩⟩⟩) (hj63 (x61, s60))
          refine x_if_eq (tgt := 111) dX12_life_103 (by decide) (fun _ => ?_) (fun _ => ?_)
          · exact x_weak (by exact ⟨rfl, ⟨rfl, ⟨rfl, ⟨rfl, trivial⟩⟩⟩⟩) (hj111 M58)
          · refine x_aload_n dX12_life_106 rfl ?_
            refine x_iconst (v := 3) dX12_life_107 (by decide) ?_
            refine cmX12_732 rfl hs (Nat.le_of_ble_eq_true rfl) dX12_life_108 (fun M62 => ?_)
            exact x_weak (by exact ⟨rfl, ⟨rfl, ⟨rfl, ⟨rfl, trivial⟩⟩⟩⟩) (hj111 M62)
        · exact x_weak (by exact ⟨rfl, ⟨rfl, ⟨rfl, trivial⟩⟩⟩) (hj117 s51.2)
  · refine x_aload_n dX12_life_54 rfl ?_
    refine x_iconst (v := 5) dX12_life_55 (by decide) ?_
    refine pfX12_717 rfl dX12_life_56 (fun M63 => ?_)
    exact x_vret rfl dX12_life_59
theorem s254 {l : Launch} {d : Nat} {rec : Nat → List Value → Mem → XA} (hS : Nonempty XS) (hs : XSnd l xmt rec d) : Snd1 l 254 (b254 rec) d := by
  intro as M r M' h0
  unfold b254 at h0
  obtain ⟨a0, l1, e1, h1⟩ := aR_inv h0
  obtain ⟨a1, l2, e2, h2⟩ := aI_inv h1
  obtain ⟨ez, h⟩ := aZ_inv h2
  subst ez
  subst e2
  subst e1
  exact xmet (M := M) (as := [va_rf a0, .int a1]) (lo := [some (va_rf a0), some (.int a1)]) 254 xq254 xm254 (by rw [xargs_rf, xargs_i, xargs_nil]; exact ⟨rfl, ⟨rfl, trivial⟩⟩) (by rw [xargs_rf, xargs_i, xargs_nil]; exact Nat.le_of_ble_eq_true rfl) (fun S G K => x_weak (by exact ⟨rfl, ⟨rfl, trivial⟩⟩) (k254 hs a0 a1 M)) h hS
