section XR11
variable {S : XS} {G : XG} {K : Nat × Nat} {l : Launch} {mt : XMt} {d : Nat} {pc : Nat} {lo : List (Option Value)} {st : List Value} {M : Mem} {c : Option (Value × Mem)} {rec : Nat → List Value → Mem → XA}
theorem lmL_28 : Cond.methodLink RL 28 yX11_fault ∈ xbig := xbt5 124 (by decide +kernel) (by decide +kernel)
theorem mi131 : Cond.instanceMethod yX11_fault ∈ xbig := xbt5 125 (by decide +kernel) (by decide +kernel)
theorem mse131 : Cond.selects RX11 yX11_fault yX11_fault ∈ xbig := xbt5 126 (by decide +kernel) (by decide +kernel)
theorem cmL_28 {r : Option Nat} {f : Int32 → Mem → XA} (hm : mt.1.cls = RL) (hs : XSnd l xmt rec d) (h8 : st.length ≤ 4) (hd : decode mt.2.1 pc = .ok (.invokevirtual 28, 3)) (k : ∀ x M1, Xe S G K l mt d (pc + 3) lo (.int x :: st) M1 (f x M1)) : Xe S G K l mt d pc lo (va_rf r :: st) M (vC (12, 19) M r (cI (rec 131 ([va_rf r]) M) f)) := x_callV_I hs xq131 xm131 xci12 rfl (by rw [hm]; exact lmL_28) mi131 mse131 rfl rfl h8 hd k
theorem xm234 : XMi (yX12_fault, cX12_fault, 1, some .int) 0 := ⟨xbt10 176 rfl (by decide +kernel), xbt1 15 (by decide +kernel) (by decide +kernel), by decide +kernel, by decide +kernel, by decide, by decide +kernel⟩
theorem xq234 : xmt 234 = (yX12_fault, cX12_fault, 1, some .int) := rfl
theorem lmL_31 : Cond.methodLink RL 31 yX12_fault ∈ xbig := xbt10 173 (by decide +kernel) (by decide +kernel)
theorem mi234 : Cond.instanceMethod yX12_fault ∈ xbig := xbt10 174 (by decide +kernel) (by decide +kernel)
theorem mse234 : Cond.selects RX12 yX12_fault yX12_fault ∈ xbig := xbt10 175 (by decide +kernel) (by decide +kernel)
theorem cmL_31 {r : Option Nat} {f : Int32 → Mem → XA} (hm : mt.1.cls = RL) (hs : XSnd l xmt rec d) (h8 : st.length ≤ 4) (hd : decode mt.2.1 pc = .ok (.invokevirtual 31, 3)) (k : ∀ x M1, Xe S G K l mt d (pc + 3) lo (.int x :: st) M1 (f x M1)) : Xe S G K l mt d pc lo (va_rf r :: st) M (vC (13, 157) M r (cI (rec 234 ([va_rf r]) M) f)) := x_callV_I hs xq234 xm234 xci13 rfl (by rw [hm]; exact lmL_31) mi234 mse234 rfl rfl h8 hd k
theorem xm132 : XMi (yX11_count, cX11_count, 4, some .int) 2 := ⟨xbt5 131 rfl (by decide +kernel), xbt1 1 (by decide +kernel) (by decide +kernel), by decide +kernel, by decide +kernel, by decide, by decide +kernel⟩
theorem xq132 : xmt 132 = (yX11_count, cX11_count, 4, some .int) := rfl
theorem lmL_32 : Cond.methodLink RL 32 yX11_count ∈ xbig := xbt5 128 (by decide +kernel) (by decide +kernel)
theorem mi132 : Cond.instanceMethod yX11_count ∈ xbig := xbt5 129 (by decide +kernel) (by decide +kernel)
theorem mse132 : Cond.selects RX11 yX11_count yX11_count ∈ xbig := xbt5 130 (by decide +kernel) (by decide +kernel)
theorem cmL_32 {r : Option Nat} {v0 : Int32} {v1 : Int32} {f : Int32 → Mem → XA} (hm : mt.1.cls = RL) (hs : XSnd l xmt rec d) (h8 : st.length ≤ 4) (hd : decode mt.2.1 pc = .ok (.invokevirtual 32, 3)) (k : ∀ x M1, Xe S G K l mt d (pc + 3) lo (.int x :: st) M1 (f x M1)) : Xe S G K l mt d pc lo (.int v1 :: .int v0 :: va_rf r :: st) M (vC (12, 19) M r (cI (rec 132 ([va_rf r, .int v0, .int v1]) M) f)) := x_callV_I hs xq132 xm132 xci12 rfl (by rw [hm]; exact lmL_32) mi132 mse132 rfl rfl h8 hd k
theorem xm263 : XMi (yX12_count, cX12_count, 3, some .int) 2 := ⟨xbt11 68 rfl (by decide +kernel), xbt1 15 (by decide +kernel) (by decide +kernel), by decide +kernel, by decide +kernel, by decide, by decide +kernel⟩
theorem xq263 : xmt 263 = (yX12_count, cX12_count, 3, some .int) := rfl
theorem lmL_36 : Cond.methodLink RL 36 yX12_count ∈ xbig := xbt11 65 (by decide +kernel) (by decide +kernel)
theorem mi263 : Cond.instanceMethod yX12_count ∈ xbig := xbt11 66 (by decide +kernel) (by decide +kernel)
theorem mse263 : Cond.selects RX12 yX12_count yX12_count ∈ xbig := xbt11 67 (by decide +kernel) (by decide +kernel)
theorem cmL_36 {r : Option Nat} {v0 : Int32} {v1 : Int32} {f : Int32 → Mem → XA} (hm : mt.1.cls = RL) (hs : XSnd l xmt rec d) (h8 : st.length ≤ 4) (hd : decode mt.2.1 pc = .ok (.invokevirtual 36, 3)) (k : ∀ x M1, Xe S G K l mt d (pc + 3) lo (.int x :: st) M1 (f x M1)) : Xe S G K l mt d pc lo (.int v1 :: .int v0 :: va_rf r :: st) M (vC (13, 157) M r (cI (rec 263 ([va_rf r, .int v0, .int v1]) M) f)) := x_callV_I hs xq263 xm263 xci13 rfl (by rw [hm]; exact lmL_36) mi263 mse263 rfl rfl h8 hd k
theorem xm133 : XMi (yX11_member, cX11_member, 6, some .int) 3 := ⟨xbt5 140 rfl (by decide +kernel), xbt1 1 (by decide +kernel) (by decide +kernel), by decide +kernel, by decide +kernel, by decide, by decide +kernel⟩
theorem xq133 : xmt 133 = (yX11_member, cX11_member, 6, some .int) := rfl
theorem lmL_37 : Cond.methodLink RL 37 yX11_member ∈ xbig := xbt5 137 (by decide +kernel) (by decide +kernel)
theorem mi133 : Cond.instanceMethod yX11_member ∈ xbig := xbt5 138 (by decide +kernel) (by decide +kernel)
theorem mse133 : Cond.selects RX11 yX11_member yX11_member ∈ xbig := xbt5 139 (by decide +kernel) (by decide +kernel)
theorem cmL_37 {r : Option Nat} {v0 : Int32} {v1 : Int32} {v2 : Int32} {f : Int32 → Mem → XA} (hm : mt.1.cls = RL) (hs : XSnd l xmt rec d) (h8 : st.length ≤ 4) (hd : decode mt.2.1 pc = .ok (.invokevirtual 37, 3)) (k : ∀ x M1, Xe S G K l mt d (pc + 3) lo (.int x :: st) M1 (f x M1)) : Xe S G K l mt d pc lo (.int v2 :: .int v1 :: .int v0 :: va_rf r :: st) M (vC (12, 19) M r (cI (rec 133 ([va_rf r, .int v0, .int v1, .int v2]) M) f)) := x_callV_I hs xq133 xm133 xci12 rfl (by rw [hm]; exact lmL_37) mi133 mse133 rfl rfl h8 hd k
theorem xm264 : XMi (yX12_member_, cX12_member_, 5, some .int) 3 := ⟨xbt11 72 rfl (by decide +kernel), xbt1 15 (by decide +kernel) (by decide +kernel), by decide +kernel, by decide +kernel, by decide, by decide +kernel⟩
theorem xq264 : xmt 264 = (yX12_member_, cX12_member_, 5, some .int) := rfl
theorem lmL_41 : Cond.methodLink RL 41 yX12_member_ ∈ xbig := xbt11 69 (by decide +kernel) (by decide +kernel)
theorem mi264 : Cond.instanceMethod yX12_member_ ∈ xbig := xbt11 70 (by decide +kernel) (by decide +kernel)
theorem mse264 : Cond.selects RX12 yX12_member_ yX12_member_ ∈ xbig := xbt11 71 (by decide +kernel) (by decide +kernel)
theorem cmL_41 {r : Option Nat} {v0 : Int32} {v1 : Int32} {v2 : Int32} {f : Int32 → Mem → XA} (hm : mt.1.cls = RL) (hs : XSnd l xmt rec d) (h8 : st.length ≤ 4) (hd : decode mt.2.1 pc = .ok (.invokevirtual 41, 3)) (k : ∀ x M1, Xe S G K l mt d (pc + 3) lo (.int x :: st) M1 (f x M1)) : Xe S G K l mt d pc lo (.int v2 :: .int v1 :: .int v0 :: va_rf r :: st) M (vC (13, 157) M r (cI (rec 264 ([va_rf r, .int v0, .int v1, .int v2]) M) f)) := x_callV_I hs xq264 xm264 xci13 rfl (by rw [hm]; exact lmL_41) mi264 mse264 rfl rfl h8 hd k
theorem xm134 : XMi (yX11_about, cX11_about, 5, some .int) 3 := ⟨xbt5 148 rfl (by decide +kernel), xbt1 1 (by decide +kernel) (by decide +kernel), by decide +kernel, by decide +kernel, by decide, by decide +kernel⟩
theorem xq134 : xmt 134 = (yX11_about, cX11_about, 5, some .int) := rfl
theorem lmL_42 : Cond.methodLink RL 42 yX11_about ∈ xbig := xbt5 145 (by decide +kernel) (by decide +kernel)
theorem mi134 : Cond.instanceMethod yX11_about ∈ xbig := xbt5 146 (by decide +kernel) (by decide +kernel)
theorem mse134 : Cond.selects RX11 yX11_about yX11_about ∈ xbig := xbt5 147 (by decide +kernel) (by decide +kernel)
theorem cmL_42 {r : Option Nat} {v0 : Int32} {v1 : Int32} {v2 : Int32} {f : Int32 → Mem → XA} (hm : mt.1.cls = RL) (hs : XSnd l xmt rec d) (h8 : st.length ≤ 4) (hd : decode mt.2.1 pc = .ok (.invokevirtual 42, 3)) (k : ∀ x M1, Xe S G K l mt d (pc + 3) lo (.int x :: st) M1 (f x M1)) : Xe S G K l mt d pc lo (.int v2 :: .int v1 :: .int v0 :: va_rf r :: st) M (vC (12, 19) M r (cI (rec 134 ([va_rf r, .int v0, .int v1, .int v2]) M) f)) := x_callV_I hs xq134 xm134 xci12 rfl (by rw [hm]; exact lmL_42) mi134 mse134 rfl rfl h8 hd k
theorem xm265 : XMi (yX12_about, cX12_about, 5, some .int) 3 := ⟨xbt11 76 rfl (by decide +kernel), xbt1 15 (by decide +kernel) (by decide +kernel), by decide +kernel, by decide +kernel, by decide, by decide +kernel⟩
theorem xq265 : xmt 265 = (yX12_about, cX12_about, 5, some .int) := rfl
theorem lmL_45 : Cond.methodLink RL 45 yX12_about ∈ xbig := xbt11 73 (by decide +kernel) (by decide +kernel)
theorem mi265 : Cond.instanceMethod yX12_about ∈ xbig := xbt11 74 (by decide +kernel) (by decide +kernel)
theorem mse265 : Cond.selects RX12 yX12_about yX12_about ∈ xbig := xbt11 75 (by decide +kernel) (by decide +kernel)
theorem cmL_45 {r : Option Nat} {v0 : Int32} {v1 : Int32} {v2 : Int32} {f : Int32 → Mem → XA} (hm : mt.1.cls = RL) (hs : XSnd l xmt rec d) (h8 : st.length ≤ 4) (hd : decode mt.2.1 pc = .ok (.invokevirtual 45, 3)) (k : ∀ x M1, Xe S G K l mt d (pc + 3) lo (.int x :: st) M1 (f x M1)) : Xe S G K l mt d pc lo (.int v2 :: .int v1 :: .int v0 :: va_rf r :: st) M (vC (13, 157) M r (cI (rec 265 ([va_rf r, .int v0, .int v1, .int v2]) M) f)) := x_callV_I hs xq265 xm265 xci13 rfl (by rw [hm]; exact lmL_45) mi265 mse265 rfl rfl h8 hd k
theorem xm135 : XMi (yX11_name, cX11_name, 7, some .int) 4 := ⟨xbt5 155 rfl (by decide +kernel), xbt1 1 (by decide +kernel) (by decide +kernel), by decide +kernel, by decide +kernel, by decide, by decide +kernel⟩
theorem xq135 : xmt 135 = (yX11_name, cX11_name, 7, some .int) := rfl
theorem lmL_46 : Cond.methodLink RL 46 yX11_name ∈ xbig := xbt5 152 (by decide +kernel) (by decide +kernel)
theorem mi135 : Cond.instanceMethod yX11_name ∈ xbig := xbt5 153 (by decide +kernel) (by decide +kernel)
theorem mse135 : Cond.selects RX11 yX11_name yX11_name ∈ xbig := xbt5 154 (by decide +kernel) (by decide +kernel)
theorem cmL_46 {r : Option Nat} {v0 : Int32} {v1 : Int32} {v2 : Int32} {v3 : Int32} {f : Int32 → Mem → XA} (hm : mt.1.cls = RL) (hs : XSnd l xmt rec d) (h8 : st.length ≤ 4) (hd : decode mt.2.1 pc = .ok (.invokevirtual 46, 3)) (k : ∀ x M1, Xe S G K l mt d (pc + 3) lo (.int x :: st) M1 (f x M1)) : Xe S G K l mt d pc lo (.int v3 :: .int v2 :: .int v1 :: .int v0 :: va_rf r :: st) M (vC (12, 19) M r (cI (rec 135 ([va_rf r, .int v0, .int v1, .int v2, .int v3]) M) f)) := x_callV_I hs xq135 xm135 xci12 rfl (by rw [hm]; exact lmL_46) mi135 mse135 rfl rfl h8 hd k
theorem xm266 : XMi (yX12_name, cX12_name, 8, some .int) 4 := ⟨xbt11 80 rfl (by decide +kernel), xbt1 15 (by decide +kernel) (by decide +kernel), by decide +kernel, by decide +kernel, by decide, by decide +kernel⟩
theorem xq266 : xmt 266 = (yX12_name, cX12_name, 8, some .int) := rfl
theorem lmL_50 : Cond.methodLink RL 50 yX12_name ∈ xbig := xbt11 77 (by decide +kernel) (by decide +kernel)
theorem mi266 : Cond.instanceMethod yX12_name ∈ xbig := xbt11 78 (by decide +kernel) (by decide +kernel)
theorem mse266 : Cond.selects RX12 yX12_name yX12_name ∈ xbig := xbt11 79 (by decide +kernel) (by decide +kernel)
theorem cmL_50 {r : Option Nat} {v0 : Int32} {v1 : Int32} {v2 : Int32} {v3 : Int32} {f : Int32 → Mem → XA} (hm : mt.1.cls = RL) (hs : XSnd l xmt rec d) (h8 : st.length ≤ 4) (hd : decode mt.2.1 pc = .ok (.invokevirtual 50, 3)) (k : ∀ x M1, Xe S G K l mt d (pc + 3) lo (.int x :: st) M1 (f x M1)) : Xe S G K l mt d pc lo (.int v3 :: .int v2 :: .int v1 :: .int v0 :: va_rf r :: st) M (vC (13, 157) M r (cI (rec 266 ([va_rf r, .int v0, .int v1, .int v2, .int v3]) M) f)) := x_callV_I hs xq266 xm266 xci13 rfl (by rw [hm]; exact lmL_50) mi266 mse266 rfl rfl h8 hd k
theorem xm136 : XMi (yX11_code, cX11_code, 5, some .int) 3 := ⟨xbt5 170 rfl (by decide +kernel), xbt1 1 (by decide +kernel) (by decide +kernel), by decide +kernel, by decide +kernel, by decide, by decide +kernel⟩
theorem xq136 : xmt 136 = (yX11_code, cX11_code, 5, some .int) := rfl
theorem lmL_51 : Cond.methodLink RL 51 yX11_code ∈ xbig := xbt5 167 (by decide +kernel) (by decide +kernel)
theorem mi136 : Cond.instanceMethod yX11_code ∈ xbig := xbt5 168 (by decide +kernel) (by decide +kernel)
theorem mse136 : Cond.selects RX11 yX11_code yX11_code ∈ xbig := xbt5 169 (by decide +kernel) (by decide +kernel)
theorem cmL_51 {r : Option Nat} {v0 : Int32} {v1 : Int32} {v2 : Int32} {f : Int32 → Mem → XA} (hm : mt.1.cls = RL) (hs : XSnd l xmt rec d) (h8 : st.length ≤ 4) (hd : decode mt.2.1 pc = .ok (.invokevirtual 51, 3)) (k : ∀ x M1, Xe S G K l mt d (pc + 3) lo (.int x :: st) M1 (f x M1)) : Xe S G K l mt d pc lo (.int v2 :: .int v1 :: .int v0 :: va_rf r :: st) M (vC (12, 19) M r (cI (rec 136 ([va_rf r, .int v0, .int v1, .int v2]) M) f)) := x_callV_I hs xq136 xm136 xci12 rfl (by rw [hm]; exact lmL_51) mi136 mse136 rfl rfl h8 hd k
theorem xm267 : XMi (yX12_code_, cX12_code_, 6, some .int) 3 := ⟨xbt11 85 rfl (by decide +kernel), xbt1 15 (by decide +kernel) (by decide +kernel), by decide +kernel, by decide +kernel, by decide, by decide +kernel⟩
theorem xq267 : xmt 267 = (yX12_code_, cX12_code_, 6, some .int) := rfl
theorem lmL_54 : Cond.methodLink RL 54 yX12_code_ ∈ xbig := xbt11 82 (by decide +kernel) (by decide +kernel)
theorem mi267 : Cond.instanceMethod yX12_code_ ∈ xbig := xbt11 83 (by decide +kernel) (by decide +kernel)
theorem mse267 : Cond.selects RX12 yX12_code_ yX12_code_ ∈ xbig := xbt11 84 (by decide +kernel) (by decide +kernel)
theorem cmL_54 {r : Option Nat} {v0 : Int32} {v1 : Int32} {v2 : Int32} {f : Int32 → Mem → XA} (hm : mt.1.cls = RL) (hs : XSnd l xmt rec d) (h8 : st.length ≤ 4) (hd : decode mt.2.1 pc = .ok (.invokevirtual 54, 3)) (k : ∀ x M1, Xe S G K l mt d (pc + 3) lo (.int x :: st) M1 (f x M1)) : Xe S G K l mt d pc lo (.int v2 :: .int v1 :: .int v0 :: va_rf r :: st) M (vC (13, 157) M r (cI (rec 267 ([va_rf r, .int v0, .int v1, .int v2]) M) f)) := x_callV_I hs xq267 xm267 xci13 rfl (by rw [hm]; exact lmL_54) mi267 mse267 rfl rfl h8 hd k
theorem xm137 : XMi (yX11_steps, cX11_steps, 3, some .int) 1 := ⟨xbt5 174 rfl (by decide +kernel), xbt1 1 (by decide +kernel) (by decide +kernel), by decide +kernel, by decide +kernel, by decide, by decide +kernel⟩
theorem xq137 : xmt 137 = (yX11_steps, cX11_steps, 3, some .int) := rfl
theorem lmL_55 : Cond.methodLink RL 55 yX11_steps ∈ xbig := xbt5 171 (by decide +kernel) (by decide +kernel)
theorem mi137 : Cond.instanceMethod yX11_steps ∈ xbig := xbt5 172 (by decide +kernel) (by decide +kernel)
theorem mse137 : Cond.selects RX11 yX11_steps yX11_steps ∈ xbig := xbt5 173 (by decide +kernel) (by decide +kernel)
theorem cmL_55 {r : Option Nat} {v0 : Int32} {f : Int32 → Mem → XA} (hm : mt.1.cls = RL) (hs : XSnd l xmt rec d) (h8 : st.length ≤ 4) (hd : decode mt.2.1 pc = .ok (.invokevirtual 55, 3)) (k : ∀ x M1, Xe S G K l mt d (pc + 3) lo (.int x :: st) M1 (f x M1)) : Xe S G K l mt d pc lo (.int v0 :: va_rf r :: st) M (vC (12, 19) M r (cI (rec 137 ([va_rf r, .int v0]) M) f)) := x_callV_I hs xq137 xm137 xci12 rfl (by rw [hm]; exact lmL_55) mi137 mse137 rfl rfl h8 hd k
theorem xm268 : XMi (yX12_steps, cX12_steps, 3, some .int) 1 := ⟨xbt11 89 rfl (by decide +kernel), xbt1 15 (by decide +kernel) (by decide +kernel), by decide +kernel, by decide +kernel, by decide, by decide +kernel⟩
theorem xq268 : xmt 268 = (yX12_steps, cX12_steps, 3, some .int) := rfl
theorem lmL_58 : Cond.methodLink RL 58 yX12_steps ∈ xbig := xbt11 86 (by decide +kernel) (by decide +kernel)
theorem mi268 : Cond.instanceMethod yX12_steps ∈ xbig := xbt11 87 (by decide +kernel) (by decide +kernel)
theorem mse268 : Cond.selects RX12 yX12_steps yX12_steps ∈ xbig := xbt11 88 (by decide +kernel) (by decide +kernel)
theorem cmL_58 {r : Option Nat} {v0 : Int32} {f : Int32 → Mem → XA} (hm : mt.1.cls = RL) (hs : XSnd l xmt rec d) (h8 : st.length ≤ 4) (hd : decode mt.2.1 pc = .ok (.invokevirtual 58, 3)) (k : ∀ x M1, Xe S G K l mt d (pc + 3) lo (.int x :: st) M1 (f x M1)) : Xe S G K l mt d pc lo (.int v0 :: va_rf r :: st) M (vC (13, 157) M r (cI (rec 268 ([va_rf r, .int v0]) M) f)) := x_callV_I hs xq268 xm268 xci13 rfl (by rw [hm]; exact lmL_58) mi268 mse268 rfl rfl h8 hd k
theorem xm138 : XMi (yX11_seed, cX11_seed, 3, some .int) 1 := ⟨xbt5 178 rfl (by decide +kernel), xbt1 1 (by decide +kernel) (by decide +kernel), by decide +kernel, by decide +kernel, by decide, by decide +kernel⟩
theorem xq138 : xmt 138 = (yX11_seed, cX11_seed, 3, some .int) := rfl
theorem lmL_59 : Cond.methodLink RL 59 yX11_seed ∈ xbig := xbt5 175 (by decide +kernel) (by decide +kernel)
theorem mi138 : Cond.instanceMethod yX11_seed ∈ xbig := xbt5 176 (by decide +kernel) (by decide +kernel)
theorem mse138 : Cond.selects RX11 yX11_seed yX11_seed ∈ xbig := xbt5 177 (by decide +kernel) (by decide +kernel)
theorem cmL_59 {r : Option Nat} {v0 : Int32} {f : Int32 → Mem → XA} (hm : mt.1.cls = RL) (hs : XSnd l xmt rec d) (h8 : st.length ≤ 4) (hd : decode mt.2.1 pc = .ok (.invokevirtual 59, 3)) (k : ∀ x M1, Xe S G K l mt d (pc + 3) lo (.int x :: st) M1 (f x M1)) : Xe S G K l mt d pc lo (.int v0 :: va_rf r :: st) M (vC (12, 19) M r (cI (rec 138 ([va_rf r, .int v0]) M) f)) := x_callV_I hs xq138 xm138 xci12 rfl (by rw [hm]; exact lmL_59) mi138 mse138 rfl rfl h8 hd k
theorem xm269 : XMi (yX12_seed, cX12_seed, 3, some .int) 1 := ⟨xbt11 93 rfl (by decide +kernel), xbt1 15 (by decide +kernel) (by decide +kernel), by decide +kernel, by decide +kernel, by decide, by decide +kernel⟩
theorem xq269 : xmt 269 = (yX12_seed, cX12_seed, 3, some .int) := rfl
theorem lmL_62 : Cond.methodLink RL 62 yX12_seed ∈ xbig := xbt11 90 (by decide +kernel) (by decide +kernel)
theorem mi269 : Cond.instanceMethod yX12_seed ∈ xbig := xbt11 91 (by decide +kernel) (by decide +kernel)
theorem mse269 : Cond.selects RX12 yX12_seed yX12_seed ∈ xbig := xbt11 92 (by decide +kernel) (by decide +kernel)
theorem cmL_62 {r : Option Nat} {v0 : Int32} {f : Int32 → Mem → XA} (hm : mt.1.cls = RL) (hs : XSnd l xmt rec d) (h8 : st.length ≤ 4) (hd : decode mt.2.1 pc = .ok (.invokevirtual 62, 3)) (k : ∀ x M1, Xe S G K l mt d (pc + 3) lo (.int x :: st) M1 (f x M1)) : Xe S G K l mt d pc lo (.int v0 :: va_rf r :: st) M (vC (13, 157) M r (cI (rec 269 ([va_rf r, .int v0]) M) f)) := x_callV_I hs xq269 xm269 xci13 rfl (by rw [hm]; exact lmL_62) mi269 mse269 rfl rfl h8 hd k
theorem xm139 : XMi (yX11_swap, cX11_swap, 6, some .int) 3 := ⟨xbt5 182 rfl (by decide +kernel), xbt1 1 (by decide +kernel) (by decide +kernel), by decide +kernel, by decide +kernel, by decide, by decide +kernel⟩
theorem xq139 : xmt 139 = (yX11_swap, cX11_swap, 6, some .int) := rfl
theorem lmL_63 : Cond.methodLink RL 63 yX11_swap ∈ xbig := xbt5 179 (by decide +kernel) (by decide +kernel)
theorem mi139 : Cond.instanceMethod yX11_swap ∈ xbig := xbt5 180 (by decide +kernel) (by decide +kernel)
theorem mse139 : Cond.selects RX11 yX11_swap yX11_swap ∈ xbig := xbt5 181 (by decide +kernel) (by decide +kernel)
theorem cmL_63 {r : Option Nat} {v0 : Int32} {v1 : Int32} {v2 : Int32} {f : Int32 → Mem → XA} (hm : mt.1.cls = RL) (hs : XSnd l xmt rec d) (h8 : st.length ≤ 4) (hd : decode mt.2.1 pc = .ok (.invokevirtual 63, 3)) (k : ∀ x M1, Xe S G K l mt d (pc + 3) lo (.int x :: st) M1 (f x M1)) : Xe S G K l mt d pc lo (.int v2 :: .int v1 :: .int v0 :: va_rf r :: st) M (vC (12, 19) M r (cI (rec 139 ([va_rf r, .int v0, .int v1, .int v2]) M) f)) := x_callV_I hs xq139 xm139 xci12 rfl (by rw [hm]; exact lmL_63) mi139 mse139 rfl rfl h8 hd k
theorem xm270 : XMi (yX12_swap, cX12_swap, 5, some .int) 3 := ⟨xbt11 97 rfl (by decide +kernel), xbt1 15 (by decide +kernel) (by decide +kernel), by decide +kernel, by decide +kernel, by decide, by decide +kernel⟩
theorem xq270 : xmt 270 = (yX12_swap, cX12_swap, 5, some .int) := rfl
theorem lmL_66 : Cond.methodLink RL 66 yX12_swap ∈ xbig := xbt11 94 (by decide +kernel) (by decide +kernel)
theorem mi270 : Cond.instanceMethod yX12_swap ∈ xbig := xbt11 95 (by decide +kernel) (by decide +kernel)
theorem mse270 : Cond.selects RX12 yX12_swap yX12_swap ∈ xbig := xbt11 96 (by decide +kernel) (by decide +kernel)
theorem cmL_66 {r : Option Nat} {v0 : Int32} {v1 : Int32} {v2 : Int32} {f : Int32 → Mem → XA} (hm : mt.1.cls = RL) (hs : XSnd l xmt rec d) (h8 : st.length ≤ 4) (hd : decode mt.2.1 pc = .ok (.invokevirtual 66, 3)) (k : ∀ x M1, Xe S G K l mt d (pc + 3) lo (.int x :: st) M1 (f x M1)) : Xe S G K l mt d pc lo (.int v2 :: .int v1 :: .int v0 :: va_rf r :: st) M (vC (13, 157) M r (cI (rec 270 ([va_rf r, .int v0, .int v1, .int v2]) M) f)) := x_callV_I hs xq270 xm270 xci13 rfl (by rw [hm]; exact lmL_66) mi270 mse270 rfl rfl h8 hd k
theorem xm140 : XMi (yX11_run, cX11_run, 5, some .int) 1 := ⟨xbt5 186 rfl (by decide +kernel), xbt1 1 (by decide +kernel) (by decide +kernel), by decide +kernel, by decide +kernel, by decide, by decide +kernel⟩
theorem xq140 : xmt 140 = (yX11_run, cX11_run, 5, some .int) := rfl
theorem lmL_67 : Cond.methodLink RL 67 yX11_run ∈ xbig := xbt5 183 (by decide +kernel) (by decide +kernel)
theorem mi140 : Cond.instanceMethod yX11_run ∈ xbig := xbt5 184 (by decide +kernel) (by decide +kernel)
theorem mse140 : Cond.selects RX11 yX11_run yX11_run ∈ xbig := xbt5 185 (by decide +kernel) (by decide +kernel)
theorem cmL_67 {r : Option Nat} {v0 : Int32} {f : Int32 → Mem → XA} (hm : mt.1.cls = RL) (hs : XSnd l xmt rec d) (h8 : st.length ≤ 4) (hd : decode mt.2.1 pc = .ok (.invokevirtual 67, 3)) (k : ∀ x M1, Xe S G K l mt d (pc + 3) lo (.int x :: st) M1 (f x M1)) : Xe S G K l mt d pc lo (.int v0 :: va_rf r :: st) M (vC (12, 19) M r (cI (rec 140 ([va_rf r, .int v0]) M) f)) := x_callV_I hs xq140 xm140 xci12 rfl (by rw [hm]; exact lmL_67) mi140 mse140 rfl rfl h8 hd k
theorem xm257 : XMi (yX12_run, cX12_run, 5, some .int) 1 := ⟨xbt10 180 rfl (by decide +kernel), xbt1 15 (by decide +kernel) (by decide +kernel), by decide +kernel, by decide +kernel, by decide, by decide +kernel⟩
theorem xq257 : xmt 257 = (yX12_run, cX12_run, 5, some .int) := rfl
theorem lmL_70 : Cond.methodLink RL 70 yX12_run ∈ xbig := xbt10 177 (by decide +kernel) (by decide +kernel)
theorem mi257 : Cond.instanceMethod yX12_run ∈ xbig := xbt10 178 (by decide +kernel) (by decide +kernel)
theorem mse257 : Cond.selects RX12 yX12_run yX12_run ∈ xbig := xbt10 179 (by decide +kernel) (by decide +kernel)
theorem cmL_70 {r : Option Nat} {v0 : Int32} {f : Int32 → Mem → XA} (hm : mt.1.cls = RL) (hs : XSnd l xmt rec d) (h8 : st.length ≤ 4) (hd : decode mt.2.1 pc = .ok (.invokevirtual 70, 3)) (k : ∀ x M1, Xe S G K l mt d (pc + 3) lo (.int x :: st) M1 (f x M1)) : Xe S G K l mt d pc lo (.int v0 :: va_rf r :: st) M (vC (13, 157) M r (cI (rec 257 ([va_rf r, .int v0]) M) f)) := x_callV_I hs xq257 xm257 xci13 rfl (by rw [hm]; exact lmL_70) mi257 mse257 rfl rfl h8 hd k
theorem xm141 : XMi (yX11_verdict, cX11_verdict, 5, some .int) 3 := ⟨xbt6 109 rfl (by decide +kernel), xbt1 1 (by decide +kernel) (by decide +kernel), by decide +kernel, by decide +kernel, by decide, by decide +kernel⟩
theorem xq141 : xmt 141 = (yX11_verdict, cX11_verdict, 5, some .int) := rfl
theorem lmL_71 : Cond.methodLink RL 71 yX11_verdict ∈ xbig := xbt6 106 (by decide +kernel) (by decide +kernel)
theorem mi141 : Cond.instanceMethod yX11_verdict ∈ xbig := xbt6 107 (by decide +kernel) (by decide +kernel)
theorem mse141 : Cond.selects RX11 yX11_verdict yX11_verdict ∈ xbig := xbt6 108 (by decide +kernel) (by decide +kernel)
theorem cmL_71 {r : Option Nat} {v0 : Int32} {v1 : Int32} {v2 : Int32} {f : Int32 → Mem → XA} (hm : mt.1.cls = RL) (hs : XSnd l xmt rec d) (h8 : st.length ≤ 4) (hd : decode mt.2.1 pc = .ok (.invokevirtual 71, 3)) (k : ∀ x M1, Xe S G K l mt d (pc + 3) lo (.int x :: st) M1 (f x M1)) : Xe S G K l mt d pc lo (.int v2 :: .int v1 :: .int v0 :: va_rf r :: st) M (vC (12, 19) M r (cI (rec 141 ([va_rf r, .int v0, .int v1, .int v2]) M) f)) := x_callV_I hs xq141 xm141 xci12 rfl (by rw [hm]; exact lmL_71) mi141 mse141 rfl rfl h8 hd k
theorem xm258 : XMi (yX12_verdict, cX12_verdict, 5, some .int) 3 := ⟨xbt11 44 rfl (by decide +kernel), xbt1 15 (by decide +kernel) (by decide +kernel), by decide +kernel, by decide +kernel, by decide, by decide +kernel⟩
theorem xq258 : xmt 258 = (yX12_verdict, cX12_verdict, 5, some .int) := rfl
theorem lmL_74 : Cond.methodLink RL 74 yX12_verdict ∈ xbig := xbt11 41 (by decide +kernel) (by decide +kernel)
theorem mi258 : Cond.instanceMethod yX12_verdict ∈ xbig := xbt11 42 (by decide +kernel) (by decide +kernel)
theorem mse258 : Cond.selects RX12 yX12_verdict yX12_verdict ∈ xbig := xbt11 43 (by decide +kernel) (by decide +kernel)
theorem cmL_74 {r : Option Nat} {v0 : Int32} {v1 : Int32} {v2 : Int32} {f : Int32 → Mem → XA} (hm : mt.1.cls = RL) (hs : XSnd l xmt rec d) (h8 : st.length ≤ 4) (hd : decode mt.2.1 pc = .ok (.invokevirtual 74, 3)) (k : ∀ x M1, Xe S G K l mt d (pc + 3) lo (.int x :: st) M1 (f x M1)) : Xe S G K l mt d pc lo (.int v2 :: .int v1 :: .int v0 :: va_rf r :: st) M (vC (13, 157) M r (cI (rec 258 ([va_rf r, .int v0, .int v1, .int v2]) M) f)) := x_callV_I hs xq258 xm258 xci13 rfl (by rw [hm]; exact lmL_74) mi258 mse258 rfl rfl h8 hd k
theorem xm142 : XMi (yX11_cover, cX11_cover, 5, some .int) 3 := ⟨xbt6 113 rfl (by decide +kernel), xbt1 1 (by decide +kernel) (by decide +kernel), by decide +kernel, by decide +kernel, by decide, by decide +kernel⟩
theorem xq142 : xmt 142 = (yX11_cover, cX11_cover, 5, some .int) := rfl
theorem lmL_75 : Cond.methodLink RL 75 yX11_cover ∈ xbig := xbt6 110 (by decide +kernel) (by decide +kernel)
theorem mi142 : Cond.instanceMethod yX11_cover ∈ xbig := xbt6 111 (by decide +kernel) (by decide +kernel)
theorem mse142 : Cond.selects RX11 yX11_cover yX11_cover ∈ xbig := xbt6 112 (by decide +kernel) (by decide +kernel)
theorem cmL_75 {r : Option Nat} {v0 : Int32} {v1 : Int32} {v2 : Int32} {f : Int32 → Mem → XA} (hm : mt.1.cls = RL) (hs : XSnd l xmt rec d) (h8 : st.length ≤ 4) (hd : decode mt.2.1 pc = .ok (.invokevirtual 75, 3)) (k : ∀ x M1, Xe S G K l mt d (pc + 3) lo (.int x :: st) M1 (f x M1)) : Xe S G K l mt d pc lo (.int v2 :: .int v1 :: .int v0 :: va_rf r :: st) M (vC (12, 19) M r (cI (rec 142 ([va_rf r, .int v0, .int v1, .int v2]) M) f)) := x_callV_I hs xq142 xm142 xci12 rfl (by rw [hm]; exact lmL_75) mi142 mse142 rfl rfl h8 hd k
theorem xm259 : XMi (yX12_cover, cX12_cover, 4, some .int) 3 := ⟨xbt11 52 rfl (by decide +kernel), xbt1 15 (by decide +kernel) (by decide +kernel), by decide +kernel, by decide +kernel, by decide, by decide +kernel⟩
theorem xq259 : xmt 259 = (yX12_cover, cX12_cover, 4, some .int) := rfl
theorem lmL_78 : Cond.methodLink RL 78 yX12_cover ∈ xbig := xbt11 49 (by decide +kernel) (by decide +kernel)
theorem mi259 : Cond.instanceMethod yX12_cover ∈ xbig := xbt11 50 (by decide +kernel) (by decide +kernel)
theorem mse259 : Cond.selects RX12 yX12_cover yX12_cover ∈ xbig := xbt11 51 (by decide +kernel) (by decide +kernel)
theorem cmL_78 {r : Option Nat} {v0 : Int32} {v1 : Int32} {v2 : Int32} {f : Int32 → Mem → XA} (hm : mt.1.cls = RL) (hs : XSnd l xmt rec d) (h8 : st.length ≤ 4) (hd : decode mt.2.1 pc = .ok (.invokevirtual 78, 3)) (k : ∀ x M1, Xe S G K l mt d (pc + 3) lo (.int x :: st) M1 (f x M1)) : Xe S G K l mt d pc lo (.int v2 :: .int v1 :: .int v0 :: va_rf r :: st) M (vC (13, 157) M r (cI (rec 259 ([va_rf r, .int v0, .int v1, .int v2]) M) f)) := x_callV_I hs xq259 xm259 xci13 rfl (by rw [hm]; exact lmL_78) mi259 mse259 rfl rfl h8 hd k
theorem xm143 : XMi (yX11_alone, cX11_alone, 5, some .int) 2 := ⟨xbt6 117 rfl (by decide +kernel), xbt1 1 (by decide +kernel) (by decide +kernel), by decide +kernel, by decide +kernel, by decide, by decide +kernel⟩
theorem xq143 : xmt 143 = (yX11_alone, cX11_alone, 5, some .int) := rfl
theorem lmL_79 : Cond.methodLink RL 79 yX11_alone ∈ xbig := xbt6 114 (by decide +kernel) (by decide +kernel)
theorem mi143 : Cond.instanceMethod yX11_alone ∈ xbig := xbt6 115 (by decide +kernel) (by decide +kernel)
theorem mse143 : Cond.selects RX11 yX11_alone yX11_alone ∈ xbig := xbt6 116 (by decide +kernel) (by decide +kernel)
theorem cmL_79 {r : Option Nat} {v0 : Int32} {v1 : Int32} {f : Int32 → Mem → XA} (hm : mt.1.cls = RL) (hs : XSnd l xmt rec d) (h8 : st.length ≤ 4) (hd : decode mt.2.1 pc = .ok (.invokevirtual 79, 3)) (k : ∀ x M1, Xe S G K l mt d (pc + 3) lo (.int x :: st) M1 (f x M1)) : Xe S G K l mt d pc lo (.int v1 :: .int v0 :: va_rf r :: st) M (vC (12, 19) M r (cI (rec 143 ([va_rf r, .int v0, .int v1]) M) f)) := x_callV_I hs xq143 xm143 xci12 rfl (by rw [hm]; exact lmL_79) mi143 mse143 rfl rfl h8 hd k
theorem xm261 : XMi (yX12_alone, cX12_alone, 3, some .int) 2 := ⟨xbt11 56 rfl (by decide +kernel), xbt1 15 (by decide +kernel) (by decide +kernel), by decide +kernel, by decide +kernel, by decide, by decide +kernel⟩
theorem xq261 : xmt 261 = (yX12_alone, cX12_alone, 3, some .int) := rfl
theorem lmL_82 : Cond.methodLink RL 82 yX12_alone ∈ xbig := xbt11 53 (by decide +kernel) (by decide +kernel)
theorem mi261 : Cond.instanceMethod yX12_alone ∈ xbig := xbt11 54 (by decide +kernel) (by decide +kernel)
theorem mse261 : Cond.selects RX12 yX12_alone yX12_alone ∈ xbig := xbt11 55 (by decide +kernel) (by decide +kernel)
theorem cmL_82 {r : Option Nat} {v0 : Int32} {v1 : Int32} {f : Int32 → Mem → XA} (hm : mt.1.cls = RL) (hs : XSnd l xmt rec d) (h8 : st.length ≤ 4) (hd : decode mt.2.1 pc = .ok (.invokevirtual 82, 3)) (k : ∀ x M1, Xe S G K l mt d (pc + 3) lo (.int x :: st) M1 (f x M1)) : Xe S G K l mt d pc lo (.int v1 :: .int v0 :: va_rf r :: st) M (vC (13, 157) M r (cI (rec 261 ([va_rf r, .int v0, .int v1]) M) f)) := x_callV_I hs xq261 xm261 xci13 rfl (by rw [hm]; exact lmL_82) mi261 mse261 rfl rfl h8 hd k
theorem xm144 : XMi (yX11_told, cX11_told, 2, some .int) 1 := ⟨xbt6 130 rfl (by decide +kernel), xbt1 1 (by decide +kernel) (by decide +kernel), by decide +kernel, by decide +kernel, by decide, by decide +kernel⟩
theorem xq144 : xmt 144 = (yX11_told, cX11_told, 2, some .int) := rfl
theorem lmL_83 : Cond.methodLink RL 83 yX11_told ∈ xbig := xbt6 127 (by decide +kernel) (by decide +kernel)
theorem mi144 : Cond.instanceMethod yX11_told ∈ xbig := xbt6 128 (by decide +kernel) (by decide +kernel)
theorem mse144 : Cond.selects RX11 yX11_told yX11_told ∈ xbig := xbt6 129 (by decide +kernel) (by decide +kernel)
theorem cmL_83 {r : Option Nat} {v0 : Int32} {f : Int32 → Mem → XA} (hm : mt.1.cls = RL) (hs : XSnd l xmt rec d) (h8 : st.length ≤ 4) (hd : decode mt.2.1 pc = .ok (.invokevirtual 83, 3)) (k : ∀ x M1, Xe S G K l mt d (pc + 3) lo (.int x :: st) M1 (f x M1)) : Xe S G K l mt d pc lo (.int v0 :: va_rf r :: st) M (vC (12, 19) M r (cI (rec 144 ([va_rf r, .int v0]) M) f)) := x_callV_I hs xq144 xm144 xci12 rfl (by rw [hm]; exact lmL_83) mi144 mse144 rfl rfl h8 hd k
theorem xm262 : XMi (yX12_told, cX12_told, 2, some .int) 1 := ⟨xbt11 64 rfl (by decide +kernel), xbt1 15 (by decide +kernel) (by decide +kernel), by decide +kernel, by decide +kernel, by decide, by decide +kernel⟩
theorem xq262 : xmt 262 = (yX12_told, cX12_told, 2, some .int) := rfl
theorem lmL_86 : Cond.methodLink RL 86 yX12_told ∈ xbig := xbt11 61 (by decide +kernel) (by decide +kernel)
theorem mi262 : Cond.instanceMethod yX12_told ∈ xbig := xbt11 62 (by decide +kernel) (by decide +kernel)
theorem mse262 : Cond.selects RX12 yX12_told yX12_told ∈ xbig := xbt11 63 (by decide +kernel) (by decide +kernel)
theorem cmL_86 {r : Option Nat} {v0 : Int32} {f : Int32 → Mem → XA} (hm : mt.1.cls = RL) (hs : XSnd l xmt rec d) (h8 : st.length ≤ 4) (hd : decode mt.2.1 pc = .ok (.invokevirtual 86, 3)) (k : ∀ x M1, Xe S G K l mt d (pc + 3) lo (.int x :: st) M1 (f x M1)) : Xe S G K l mt d pc lo (.int v0 :: va_rf r :: st) M (vC (13, 157) M r (cI (rec 262 ([va_rf r, .int v0]) M) f)) := x_callV_I hs xq262 xm262 xci13 rfl (by rw [hm]; exact lmL_86) mi262 mse262 rfl rfl h8 hd k
theorem xm145 : XMi (yX11_twin, cX11_twin, 7, some .int) 2 := ⟨xbt6 134 rfl (by decide +kernel), xbt1 1 (by decide +kernel) (by decide +kernel), by decide +kernel, by decide +kernel, by decide, by decide +kernel⟩
theorem xq145 : xmt 145 = (yX11_twin, cX11_twin, 7, some .int) := rfl
theorem lmL_87 : Cond.methodLink RL 87 yX11_twin ∈ xbig := xbt6 131 (by decide +kernel) (by decide +kernel)
theorem mi145 : Cond.instanceMethod yX11_twin ∈ xbig := xbt6 132 (by decide +kernel) (by decide +kernel)
theorem mse145 : Cond.selects RX11 yX11_twin yX11_twin ∈ xbig := xbt6 133 (by decide +kernel) (by decide +kernel)
theorem cmL_87 {r : Option Nat} {v0 : Int32} {v1 : Int32} {f : Int32 → Mem → XA} (hm : mt.1.cls = RL) (hs : XSnd l xmt rec d) (h8 : st.length ≤ 4) (hd : decode mt.2.1 pc = .ok (.invokevirtual 87, 3)) (k : ∀ x M1, Xe S G K l mt d (pc + 3) lo (.int x :: st) M1 (f x M1)) : Xe S G K l mt d pc lo (.int v1 :: .int v0 :: va_rf r :: st) M (vC (12, 19) M r (cI (rec 145 ([va_rf r, .int v0, .int v1]) M) f)) := x_callV_I hs xq145 xm145 xci12 rfl (by rw [hm]; exact lmL_87) mi145 mse145 rfl rfl h8 hd k
theorem xm273 : XMi (yX12_twin, cX12_twin, 4, some .int) 2 := ⟨xbt11 101 rfl (by decide +kernel), xbt1 15 (by decide +kernel) (by decide +kernel), by decide +kernel, by decide +kernel, by decide, by decide +kernel⟩
theorem xq273 : xmt 273 = (yX12_twin, cX12_twin, 4, some .int) := rfl
theorem lmL_90 : Cond.methodLink RL 90 yX12_twin ∈ xbig := xbt11 98 (by decide +kernel) (by decide +kernel)
theorem mi273 : Cond.instanceMethod yX12_twin ∈ xbig := xbt11 99 (by decide +kernel) (by decide +kernel)
theorem mse273 : Cond.selects RX12 yX12_twin yX12_twin ∈ xbig := xbt11 100 (by decide +kernel) (by decide +kernel)
theorem cmL_90 {r : Option Nat} {v0 : Int32} {v1 : Int32} {f : Int32 → Mem → XA} (hm : mt.1.cls = RL) (hs : XSnd l xmt rec d) (h8 : st.length ≤ 4) (hd : decode mt.2.1 pc = .ok (.invokevirtual 90, 3)) (k : ∀ x M1, Xe S G K l mt d (pc + 3) lo (.int x :: st) M1 (f x M1)) : Xe S G K l mt d pc lo (.int v1 :: .int v0 :: va_rf r :: st) M (vC (13, 157) M r (cI (rec 273 ([va_rf r, .int v0, .int v1]) M) f)) := x_callV_I hs xq273 xm273 xci13 rfl (by rw [hm]; exact lmL_90) mi273 mse273 rfl rfl h8 hd k
theorem xm146 : XMi (yX11_rule, cX11_rule, 7, some .int) 5 := ⟨xbt6 143 rfl (by decide +kernel), xbt1 1 (by decide +kernel) (by decide +kernel), by decide +kernel, by decide +kernel, by decide, by decide +kernel⟩
theorem xq146 : xmt 146 = (yX11_rule, cX11_rule, 7, some .int) := rfl
theorem lmL_91 : Cond.methodLink RL 91 yX11_rule ∈ xbig := xbt6 140 (by decide +kernel) (by decide +kernel)
theorem mi146 : Cond.instanceMethod yX11_rule ∈ xbig := xbt6 141 (by decide +kernel) (by decide +kernel)
theorem mse146 : Cond.selects RX11 yX11_rule yX11_rule ∈ xbig := xbt6 142 (by decide +kernel) (by decide +kernel)
theorem cmL_91 {r : Option Nat} {v0 : Int32} {v1 : Int32} {v2 : Int32} {v3 : Int32} {v4 : Int32} {f : Int32 → Mem → XA} (hm : mt.1.cls = RL) (hs : XSnd l xmt rec d) (h8 : st.length ≤ 4) (hd : decode mt.2.1 pc = .ok (.invokevirtual 91, 3)) (k : ∀ x M1, Xe S G K l mt d (pc + 3) lo (.int x :: st) M1 (f x M1)) : Xe S G K l mt d pc lo (.int v4 :: .int v3 :: .int v2 :: .int v1 :: .int v0 :: va_rf r :: st) M (vC (12, 19) M r (cI (rec 146 ([va_rf r, .int v0, .int v1, .int v2, .int v3, .int v4]) M) f)) := x_callV_I hs xq146 xm146 xci12 rfl (by rw [hm]; exact lmL_91) mi146 mse146 rfl rfl h8 hd k
theorem xm275 : XMi (yX12_rule, cX12_rule, 8, some .int) 5 := ⟨xbt11 105 rfl (by decide +kernel), xbt1 15 (by decide +kernel) (by decide +kernel), by decide +kernel, by decide +kernel, by decide, by decide +kernel⟩
theorem xq275 : xmt 275 = (yX12_rule, cX12_rule, 8, some .int) := rfl
theorem lmL_95 : Cond.methodLink RL 95 yX12_rule ∈ xbig := xbt11 102 (by decide +kernel) (by decide +kernel)
theorem mi275 : Cond.instanceMethod yX12_rule ∈ xbig := xbt11 103 (by decide +kernel) (by decide +kernel)
theorem mse275 : Cond.selects RX12 yX12_rule yX12_rule ∈ xbig := xbt11 104 (by decide +kernel) (by decide +kernel)
theorem cmL_95 {r : Option Nat} {v0 : Int32} {v1 : Int32} {v2 : Int32} {v3 : Int32} {v4 : Int32} {f : Int32 → Mem → XA} (hm : mt.1.cls = RL) (hs : XSnd l xmt rec d) (h8 : st.length ≤ 4) (hd : decode mt.2.1 pc = .ok (.invokevirtual 95, 3)) (k : ∀ x M1, Xe S G K l mt d (pc + 3) lo (.int x :: st) M1 (f x M1)) : Xe S G K l mt d pc lo (.int v4 :: .int v3 :: .int v2 :: .int v1 :: .int v0 :: va_rf r :: st) M (vC (13, 157) M r (cI (rec 275 ([va_rf r, .int v0, .int v1, .int v2, .int v3, .int v4]) M) f)) := x_callV_I hs xq275 xm275 xci13 rfl (by rw [hm]; exact lmL_95) mi275 mse275 rfl rfl h8 hd k
theorem xm147 : XMi (yX11_drop, cX11_drop, 3, some .int) 1 := ⟨xbt6 155 rfl (by decide +kernel), xbt1 1 (by decide +kernel) (by decide +kernel), by decide +kernel, by decide +kernel, by decide, by decide +kernel⟩
theorem xq147 : xmt 147 = (yX11_drop, cX11_drop, 3, some .int) := rfl
theorem lmL_96 : Cond.methodLink RL 96 yX11_drop ∈ xbig := xbt6 152 (by decide +kernel) (by decide +kernel)
theorem mi147 : Cond.instanceMethod yX11_drop ∈ xbig := xbt6 153 (by decide +kernel) (by decide +kernel)
theorem mse147 : Cond.selects RX11 yX11_drop yX11_drop ∈ xbig := xbt6 154 (by decide +kernel) (by decide +kernel)
theorem cmL_96 {r : Option Nat} {v0 : Int32} {f : Int32 → Mem → XA} (hm : mt.1.cls = RL) (hs : XSnd l xmt rec d) (h8 : st.length ≤ 4) (hd : decode mt.2.1 pc = .ok (.invokevirtual 96, 3)) (k : ∀ x M1, Xe S G K l mt d (pc + 3) lo (.int x :: st) M1 (f x M1)) : Xe S G K l mt d pc lo (.int v0 :: va_rf r :: st) M (vC (12, 19) M r (cI (rec 147 ([va_rf r, .int v0]) M) f)) := x_callV_I hs xq147 xm147 xci12 rfl (by rw [hm]; exact lmL_96) mi147 mse147 rfl rfl h8 hd k
theorem xm276 : XMi (yX12_drop, cX12_drop, 3, some .int) 1 := ⟨xbt11 117 rfl (by decide +kernel), xbt1 15 (by decide +kernel) (by decide +kernel), by decide +kernel, by decide +kernel, by decide, by decide +kernel⟩
theorem xq276 : xmt 276 = (yX12_drop, cX12_drop, 3, some .int) := rfl
theorem lmL_99 : Cond.methodLink RL 99 yX12_drop ∈ xbig := xbt11 114 (by decide +kernel) (by decide +kernel)
theorem mi276 : Cond.instanceMethod yX12_drop ∈ xbig := xbt11 115 (by decide +kernel) (by decide +kernel)
theorem mse276 : Cond.selects RX12 yX12_drop yX12_drop ∈ xbig := xbt11 116 (by decide +kernel) (by decide +kernel)
theorem cmL_99 {r : Option Nat} {v0 : Int32} {f : Int32 → Mem → XA} (hm : mt.1.cls = RL) (hs : XSnd l xmt rec d) (h8 : st.length ≤ 4) (hd : decode mt.2.1 pc = .ok (.invokevirtual 99, 3)) (k : ∀ x M1, Xe S G K l mt d (pc + 3) lo (.int x :: st) M1 (f x M1)) : Xe S G K l mt d pc lo (.int v0 :: va_rf r :: st) M (vC (13, 157) M r (cI (rec 276 ([va_rf r, .int v0]) M) f)) := x_callV_I hs xq276 xm276 xci13 rfl (by rw [hm]; exact lmL_99) mi276 mse276 rfl rfl h8 hd k
theorem xm148 : XMi (yX11_calls, cX11_calls, 5, some .int) 3 := ⟨xbt6 159 rfl (by decide +kernel), xbt1 1 (by decide +kernel) (by decide +kernel), by decide +kernel, by decide +kernel, by decide, by decide +kernel⟩
theorem xq148 : xmt 148 = (yX11_calls, cX11_calls, 5, some .int) := rfl
theorem lmL_100 : Cond.methodLink RL 100 yX11_calls ∈ xbig := xbt6 156 (by decide +kernel) (by decide +kernel)
theorem mi148 : Cond.instanceMethod yX11_calls ∈ xbig := xbt6 157 (by decide +kernel) (by decide +kernel)
theorem mse148 : Cond.selects RX11 yX11_calls yX11_calls ∈ xbig := xbt6 158 (by decide +kernel) (by decide +kernel)
theorem cmL_100 {r : Option Nat} {v0 : Int32} {v1 : Int32} {v2 : Int32} {f : Int32 → Mem → XA} (hm : mt.1.cls = RL) (hs : XSnd l xmt rec d) (h8 : st.length ≤ 4) (hd : decode mt.2.1 pc = .ok (.invokevirtual 100, 3)) (k : ∀ x M1, Xe S G K l mt d (pc + 3) lo (.int x :: st) M1 (f x M1)) : Xe S G K l mt d pc lo (.int v2 :: .int v1 :: .int v0 :: va_rf r :: st) M (vC (12, 19) M r (cI (rec 148 ([va_rf r, .int v0, .int v1, .int v2]) M) f)) := x_callV_I hs xq148 xm148 xci12 rfl (by rw [hm]; exact lmL_100) mi148 mse148 rfl rfl h8 hd k
theorem xm280 : XMi (yX12_calls, cX12_calls, 5, some .int) 3 := ⟨xbt11 121 rfl (by decide +kernel), xbt1 15 (by decide +kernel) (by decide +kernel), by decide +kernel, by decide +kernel, by decide, by decide +kernel⟩
theorem xq280 : xmt 280 = (yX12_calls, cX12_calls, 5, some .int) := rfl
theorem lmL_103 : Cond.methodLink RL 103 yX12_calls ∈ xbig := xbt11 118 (by decide +kernel) (by decide +kernel)
theorem mi280 : Cond.instanceMethod yX12_calls ∈ xbig := xbt11 119 (by decide +kernel) (by decide +kernel)
theorem mse280 : Cond.selects RX12 yX12_calls yX12_calls ∈ xbig := xbt11 120 (by decide +kernel) (by decide +kernel)
theorem cmL_103 {r : Option Nat} {v0 : Int32} {v1 : Int32} {v2 : Int32} {f : Int32 → Mem → XA} (hm : mt.1.cls = RL) (hs : XSnd l xmt rec d) (h8 : st.length ≤ 4) (hd : decode mt.2.1 pc = .ok (.invokevirtual 103, 3)) (k : ∀ x M1, Xe S G K l mt d (pc + 3) lo (.int x :: st) M1 (f x M1)) : Xe S G K l mt d pc lo (.int v2 :: .int v1 :: .int v0 :: va_rf r :: st) M (vC (13, 157) M r (cI (rec 280 ([va_rf r, .int v0, .int v1, .int v2]) M) f)) := x_callV_I hs xq280 xm280 xci13 rfl (by rw [hm]; exact lmL_103) mi280 mse280 rfl rfl h8 hd k
theorem xm149 : XMi (yX11_mutant, cX11_mutant, 6, some .int) 3 := ⟨xbt6 163 rfl (by decide +kernel), xbt1 1 (by decide +kernel) (by decide +kernel), by decide +kernel, by decide +kernel, by decide, by decide +kernel⟩
theorem xq149 : xmt 149 = (yX11_mutant, cX11_mutant, 6, some .int) := rfl
theorem lmL_104 : Cond.methodLink RL 104 yX11_mutant ∈ xbig := xbt6 160 (by decide +kernel) (by decide +kernel)
theorem mi149 : Cond.instanceMethod yX11_mutant ∈ xbig := xbt6 161 (by decide +kernel) (by decide +kernel)
theorem mse149 : Cond.selects RX11 yX11_mutant yX11_mutant ∈ xbig := xbt6 162 (by decide +kernel) (by decide +kernel)
theorem cmL_104 {r : Option Nat} {v0 : Int32} {v1 : Int32} {v2 : Int32} {f : Int32 → Mem → XA} (hm : mt.1.cls = RL) (hs : XSnd l xmt rec d) (h8 : st.length ≤ 4) (hd : decode mt.2.1 pc = .ok (.invokevirtual 104, 3)) (k : ∀ x M1, Xe S G K l mt d (pc + 3) lo (.int x :: st) M1 (f x M1)) : Xe S G K l mt d pc lo (.int v2 :: .int v1 :: .int v0 :: va_rf r :: st) M (vC (12, 19) M r (cI (rec 149 ([va_rf r, .int v0, .int v1, .int v2]) M) f)) := x_callV_I hs xq149 xm149 xci12 rfl (by rw [hm]; exact lmL_104) mi149 mse149 rfl rfl h8 hd k
theorem xm281 : XMi (yX12_mutant, cX12_mutant, 5, some .int) 3 := ⟨xbt11 125 rfl (by decide +kernel), xbt1 15 (by decide +kernel) (by decide +kernel), by decide +kernel, by decide +kernel, by decide, by decide +kernel⟩
theorem xq281 : xmt 281 = (yX12_mutant, cX12_mutant, 5, some .int) := rfl
theorem lmL_107 : Cond.methodLink RL 107 yX12_mutant ∈ xbig := xbt11 122 (by decide +kernel) (by decide +kernel)
theorem mi281 : Cond.instanceMethod yX12_mutant ∈ xbig := xbt11 123 (by decide +kernel) (by decide +kernel)
theorem mse281 : Cond.selects RX12 yX12_mutant yX12_mutant ∈ xbig := xbt11 124 (by decide +kernel) (by decide +kernel)
theorem cmL_107 {r : Option Nat} {v0 : Int32} {v1 : Int32} {v2 : Int32} {f : Int32 → Mem → XA} (hm : mt.1.cls = RL) (hs : XSnd l xmt rec d) (h8 : st.length ≤ 4) (hd : decode mt.2.1 pc = .ok (.invokevirtual 107, 3)) (k : ∀ x M1, Xe S G K l mt d (pc + 3) lo (.int x :: st) M1 (f x M1)) : Xe S G K l mt d pc lo (.int v2 :: .int v1 :: .int v0 :: va_rf r :: st) M (vC (13, 157) M r (cI (rec 281 ([va_rf r, .int v0, .int v1, .int v2]) M) f)) := x_callV_I hs xq281 xm281 xci13 rfl (by rw [hm]; exact lmL_107) mi281 mse281 rfl rfl h8 hd k
theorem xm150 : XMi (yX11_kill, cX11_kill, 4, some .int) 1 := ⟨xbt6 174 rfl (by decide +kernel), xbt1 1 (by decide +kernel) (by decide +kernel), by decide +kernel, by decide +kernel, by decide, by decide +kernel⟩
theorem xq150 : xmt 150 = (yX11_kill, cX11_kill, 4, some .int) := rfl
theorem lmL_108 : Cond.methodLink RL 108 yX11_kill ∈ xbig := xbt6 171 (by decide +kernel) (by decide +kernel)
theorem mi150 : Cond.instanceMethod yX11_kill ∈ xbig := xbt6 172 (by decide +kernel) (by decide +kernel)
theorem mse150 : Cond.selects RX11 yX11_kill yX11_kill ∈ xbig := xbt6 173 (by decide +kernel) (by decide +kernel)
theorem cmL_108 {r : Option Nat} {v0 : Int32} {f : Int32 → Mem → XA} (hm : mt.1.cls = RL) (hs : XSnd l xmt rec d) (h8 : st.length ≤ 4) (hd : decode mt.2.1 pc = .ok (.invokevirtual 108, 3)) (k : ∀ x M1, Xe S G K l mt d (pc + 3) lo (.int x :: st) M1 (f x M1)) : Xe S G K l mt d pc lo (.int v0 :: va_rf r :: st) M (vC (12, 19) M r (cI (rec 150 ([va_rf r, .int v0]) M) f)) := x_callV_I hs xq150 xm150 xci12 rfl (by rw [hm]; exact lmL_108) mi150 mse150 rfl rfl h8 hd k
theorem xm283 : XMi (yX12_kill, cX12_kill, 5, some .int) 1 := ⟨xbt11 130 rfl (by decide +kernel), xbt1 15 (by decide +kernel) (by decide +kernel), by decide +kernel, by decide +kernel, by decide, by decide +kernel⟩
theorem xq283 : xmt 283 = (yX12_kill, cX12_kill, 5, some .int) := rfl
theorem lmL_111 : Cond.methodLink RL 111 yX12_kill ∈ xbig := xbt11 127 (by decide +kernel) (by decide +kernel)
theorem mi283 : Cond.instanceMethod yX12_kill ∈ xbig := xbt11 128 (by decide +kernel) (by decide +kernel)
theorem mse283 : Cond.selects RX12 yX12_kill yX12_kill ∈ xbig := xbt11 129 (by decide +kernel) (by decide +kernel)
theorem cmL_111 {r : Option Nat} {v0 : Int32} {f : Int32 → Mem → XA} (hm : mt.1.cls = RL) (hs : XSnd l xmt rec d) (h8 : st.length ≤ 4) (hd : decode mt.2.1 pc = .ok (.invokevirtual 111, 3)) (k : ∀ x M1, Xe S G K l mt d (pc + 3) lo (.int x :: st) M1 (f x M1)) : Xe S G K l mt d pc lo (.int v0 :: va_rf r :: st) M (vC (13, 157) M r (cI (rec 283 ([va_rf r, .int v0]) M) f)) := x_callV_I hs xq283 xm283 xci13 rfl (by rw [hm]; exact lmL_111) mi283 mse283 rfl rfl h8 hd k
theorem xm151 : XMi (yX11_killed, cX11_killed, 5, some .int) 3 := ⟨xbt6 187 rfl (by decide +kernel), xbt1 1 (by decide +kernel) (by decide +kernel), by decide +kernel, by decide +kernel, by decide, by decide +kernel⟩
theorem xq151 : xmt 151 = (yX11_killed, cX11_killed, 5, some .int) := rfl
theorem lmL_112 : Cond.methodLink RL 112 yX11_killed ∈ xbig := xbt6 184 (by decide +kernel) (by decide +kernel)
theorem mi151 : Cond.instanceMethod yX11_killed ∈ xbig := xbt6 185 (by decide +kernel) (by decide +kernel)
theorem mse151 : Cond.selects RX11 yX11_killed yX11_killed ∈ xbig := xbt6 186 (by decide +kernel) (by decide +kernel)
theorem cmL_112 {r : Option Nat} {v0 : Int32} {v1 : Int32} {v2 : Int32} {f : Int32 → Mem → XA} (hm : mt.1.cls = RL) (hs : XSnd l xmt rec d) (h8 : st.length ≤ 4) (hd : decode mt.2.1 pc = .ok (.invokevirtual 112, 3)) (k : ∀ x M1, Xe S G K l mt d (pc + 3) lo (.int x :: st) M1 (f x M1)) : Xe S G K l mt d pc lo (.int v2 :: .int v1 :: .int v0 :: va_rf r :: st) M (vC (12, 19) M r (cI (rec 151 ([va_rf r, .int v0, .int v1, .int v2]) M) f)) := x_callV_I hs xq151 xm151 xci12 rfl (by rw [hm]; exact lmL_112) mi151 mse151 rfl rfl h8 hd k
theorem xm286 : XMi (yX12_killed, cX12_killed, 4, some .int) 3 := ⟨xbt11 149 rfl (by decide +kernel), xbt1 15 (by decide +kernel) (by decide +kernel), by decide +kernel, by decide +kernel, by decide, by decide +kernel⟩
theorem xq286 : xmt 286 = (yX12_killed, cX12_killed, 4, some .int) := rfl
theorem lmL_115 : Cond.methodLink RL 115 yX12_killed ∈ xbig := xbt11 146 (by decide +kernel) (by decide +kernel)
theorem mi286 : Cond.instanceMethod yX12_killed ∈ xbig := xbt11 147 (by decide +kernel) (by decide +kernel)
theorem mse286 : Cond.selects RX12 yX12_killed yX12_killed ∈ xbig := xbt11 148 (by decide +kernel) (by decide +kernel)
theorem cmL_115 {r : Option Nat} {v0 : Int32} {v1 : Int32} {v2 : Int32} {f : Int32 → Mem → XA} (hm : mt.1.cls = RL) (hs : XSnd l xmt rec d) (h8 : st.length ≤ 4) (hd : decode mt.2.1 pc = .ok (.invokevirtual 115, 3)) (k : ∀ x M1, Xe S G K l mt d (pc + 3) lo (.int x :: st) M1 (f x M1)) : Xe S G K l mt d pc lo (.int v2 :: .int v1 :: .int v0 :: va_rf r :: st) M (vC (13, 157) M r (cI (rec 286 ([va_rf r, .int v0, .int v1, .int v2]) M) f)) := x_callV_I hs xq286 xm286 xci13 rfl (by rw [hm]; exact lmL_115) mi286 mse286 rfl rfl h8 hd k
theorem xm152 : XMi (yX11_least, cX11_least, 5, some .int) 2 := ⟨xbt6 191 rfl (by decide +kernel), xbt1 1 (by decide +kernel) (by decide +kernel), by decide +kernel, by decide +kernel, by decide, by decide +kernel⟩
theorem xq152 : xmt 152 = (yX11_least, cX11_least, 5, some .int) := rfl
theorem lmL_116 : Cond.methodLink RL 116 yX11_least ∈ xbig := xbt6 188 (by decide +kernel) (by decide +kernel)
theorem mi152 : Cond.instanceMethod yX11_least ∈ xbig := xbt6 189 (by decide +kernel) (by decide +kernel)
theorem mse152 : Cond.selects RX11 yX11_least yX11_least ∈ xbig := xbt6 190 (by decide +kernel) (by decide +kernel)
theorem cmL_116 {r : Option Nat} {v0 : Int32} {v1 : Int32} {f : Int32 → Mem → XA} (hm : mt.1.cls = RL) (hs : XSnd l xmt rec d) (h8 : st.length ≤ 4) (hd : decode mt.2.1 pc = .ok (.invokevirtual 116, 3)) (k : ∀ x M1, Xe S G K l mt d (pc + 3) lo (.int x :: st) M1 (f x M1)) : Xe S G K l mt d pc lo (.int v1 :: .int v0 :: va_rf r :: st) M (vC (12, 19) M r (cI (rec 152 ([va_rf r, .int v0, .int v1]) M) f)) := x_callV_I hs xq152 xm152 xci12 rfl (by rw [hm]; exact lmL_116) mi152 mse152 rfl rfl h8 hd k
theorem xm287 : XMi (yX12_least, cX12_least, 6, some .int) 2 := ⟨xbt11 153 rfl (by decide +kernel), xbt1 15 (by decide +kernel) (by decide +kernel), by decide +kernel, by decide +kernel, by decide, by decide +kernel⟩
theorem xq287 : xmt 287 = (yX12_least, cX12_least, 6, some .int) := rfl
theorem lmL_119 : Cond.methodLink RL 119 yX12_least ∈ xbig := xbt11 150 (by decide +kernel) (by decide +kernel)
theorem mi287 : Cond.instanceMethod yX12_least ∈ xbig := xbt11 151 (by decide +kernel) (by decide +kernel)
theorem mse287 : Cond.selects RX12 yX12_least yX12_least ∈ xbig := xbt11 152 (by decide +kernel) (by decide +kernel)
theorem cmL_119 {r : Option Nat} {v0 : Int32} {v1 : Int32} {f : Int32 → Mem → XA} (hm : mt.1.cls = RL) (hs : XSnd l xmt rec d) (h8 : st.length ≤ 4) (hd : decode mt.2.1 pc = .ok (.invokevirtual 119, 3)) (k : ∀ x M1, Xe S G K l mt d (pc + 3) lo (.int x :: st) M1 (f x M1)) : Xe S G K l mt d pc lo (.int v1 :: .int v0 :: va_rf r :: st) M (vC (13, 157) M r (cI (rec 287 ([va_rf r, .int v0, .int v1]) M) f)) := x_callV_I hs xq287 xm287 xci13 rfl (by rw [hm]; exact lmL_119) mi287 mse287 rfl rfl h8 hd k
theorem xm153 : XMi (yX11_property, cX11_property, 9, some .int) 3 := ⟨xbt6 211 rfl (by decide +kernel), xbt1 1 (by decide +kernel) (by decide +kernel), by decide +kernel, by decide +kernel, by decide, by decide +kernel⟩
theorem xq153 : xmt 153 = (yX11_property, cX11_property, 9, some .int) := rfl
theorem lmL_120 : Cond.methodLink RL 120 yX11_property ∈ xbig := xbt6 208 (by decide +kernel) (by decide +kernel)
theorem mi153 : Cond.instanceMethod yX11_property ∈ xbig := xbt6 209 (by decide +kernel) (by decide +kernel)
theorem mse153 : Cond.selects RX11 yX11_property yX11_property ∈ xbig := xbt6 210 (by decide +kernel) (by decide +kernel)
theorem cmL_120 {r : Option Nat} {v0 : Int32} {v1 : Int32} {v2 : Int32} {f : Int32 → Mem → XA} (hm : mt.1.cls = RL) (hs : XSnd l xmt rec d) (h8 : st.length ≤ 4) (hd : decode mt.2.1 pc = .ok (.invokevirtual 120, 3)) (k : ∀ x M1, Xe S G K l mt d (pc + 3) lo (.int x :: st) M1 (f x M1)) : Xe S G K l mt d pc lo (.int v2 :: .int v1 :: .int v0 :: va_rf r :: st) M (vC (12, 19) M r (cI (rec 153 ([va_rf r, .int v0, .int v1, .int v2]) M) f)) := x_callV_I hs xq153 xm153 xci12 rfl (by rw [hm]; exact lmL_120) mi153 mse153 rfl rfl h8 hd k
theorem xm289 : XMi (yX12_property, cX12_property, 13, some .int) 3 := ⟨xbt11 157 rfl (by decide +kernel), xbt1 15 (by decide +kernel) (by decide +kernel), by decide +kernel, by decide +kernel, by decide, by decide +kernel⟩
theorem xq289 : xmt 289 = (yX12_property, cX12_property, 13, some .int) := rfl
theorem lmL_123 : Cond.methodLink RL 123 yX12_property ∈ xbig := xbt11 154 (by decide +kernel) (by decide +kernel)
theorem mi289 : Cond.instanceMethod yX12_property ∈ xbig := xbt11 155 (by decide +kernel) (by decide +kernel)
theorem mse289 : Cond.selects RX12 yX12_property yX12_property ∈ xbig := xbt11 156 (by decide +kernel) (by decide +kernel)
theorem cmL_123 {r : Option Nat} {v0 : Int32} {v1 : Int32} {v2 : Int32} {f : Int32 → Mem → XA} (hm : mt.1.cls = RL) (hs : XSnd l xmt rec d) (h8 : st.length ≤ 4) (hd : decode mt.2.1 pc = .ok (.invokevirtual 123, 3)) (k : ∀ x M1, Xe S G K l mt d (pc + 3) lo (.int x :: st) M1 (f x M1)) : Xe S G K l mt d pc lo (.int v2 :: .int v1 :: .int v0 :: va_rf r :: st) M (vC (13, 157) M r (cI (rec 289 ([va_rf r, .int v0, .int v1, .int v2]) M) f)) := x_callV_I hs xq289 xm289 xci13 rfl (by rw [hm]; exact lmL_123) mi289 mse289 rfl rfl h8 hd k
theorem xm154 : XMi (yX11_small, cX11_small, 2, some .int) 1 := ⟨xbt7 2 rfl (by decide +kernel), xbt1 1 (by decide +kernel) (by decide +kernel), by decide +kernel, by decide +kernel, by decide, by decide +kernel⟩
theorem xq154 : xmt 154 = (yX11_small, cX11_small, 2, some .int) := rfl
theorem lmL_124 : Cond.methodLink RL 124 yX11_small ∈ xbig := xbt6 239 (by decide +kernel) (by decide +kernel)
theorem mi154 : Cond.instanceMethod yX11_small ∈ xbig := xbt7 0 (by decide +kernel) (by decide +kernel)
theorem mse154 : Cond.selects RX11 yX11_small yX11_small ∈ xbig := xbt7 1 (by decide +kernel) (by decide +kernel)
theorem cmL_124 {r : Option Nat} {v0 : Int32} {f : Int32 → Mem → XA} (hm : mt.1.cls = RL) (hs : XSnd l xmt rec d) (h8 : st.length ≤ 4) (hd : decode mt.2.1 pc = .ok (.invokevirtual 124, 3)) (k : ∀ x M1, Xe S G K l mt d (pc + 3) lo (.int x :: st) M1 (f x M1)) : Xe S G K l mt d pc lo (.int v0 :: va_rf r :: st) M (vC (12, 19) M r (cI (rec 154 ([va_rf r, .int v0]) M) f)) := x_callV_I hs xq154 xm154 xci12 rfl (by rw [hm]; exact lmL_124) mi154 mse154 rfl rfl h8 hd k
theorem xm290 : XMi (yX12_small, cX12_small, 2, some .int) 1 := ⟨xbt11 170 rfl (by decide +kernel), xbt1 15 (by decide +kernel) (by decide +kernel), by decide +kernel, by decide +kernel, by decide, by decide +kernel⟩
theorem xq290 : xmt 290 = (yX12_small, cX12_small, 2, some .int) := rfl
theorem lmL_127 : Cond.methodLink RL 127 yX12_small ∈ xbig := xbt11 167 (by decide +kernel) (by decide +kernel)
theorem mi290 : Cond.instanceMethod yX12_small ∈ xbig := xbt11 168 (by decide +kernel) (by decide +kernel)
theorem mse290 : Cond.selects RX12 yX12_small yX12_small ∈ xbig := xbt11 169 (by decide +kernel) (by decide +kernel)
theorem cmL_127 {r : Option Nat} {v0 : Int32} {f : Int32 → Mem → XA} (hm : mt.1.cls = RL) (hs : XSnd l xmt rec d) (h8 : st.length ≤ 4) (hd : decode mt.2.1 pc = .ok (.invokevirtual 127, 3)) (k : ∀ x M1, Xe S G K l mt d (pc + 3) lo (.int x :: st) M1 (f x M1)) : Xe S G K l mt d pc lo (.int v0 :: va_rf r :: st) M (vC (13, 157) M r (cI (rec 290 ([va_rf r, .int v0]) M) f)) := x_callV_I hs xq290 xm290 xci13 rfl (by rw [hm]; exact lmL_127) mi290 mse290 rfl rfl h8 hd k
theorem xm155 : XMi (yX11_smaller, cX11_smaller, 3, some .int) 2 := ⟨xbt7 6 rfl (by decide +kernel), xbt1 1 (by decide +kernel) (by decide +kernel), by decide +kernel, by decide +kernel, by decide, by decide +kernel⟩
theorem xq155 : xmt 155 = (yX11_smaller, cX11_smaller, 3, some .int) := rfl
theorem lmL_128 : Cond.methodLink RL 128 yX11_smaller ∈ xbig := xbt7 3 (by decide +kernel) (by decide +kernel)
theorem mi155 : Cond.instanceMethod yX11_smaller ∈ xbig := xbt7 4 (by decide +kernel) (by decide +kernel)
theorem mse155 : Cond.selects RX11 yX11_smaller yX11_smaller ∈ xbig := xbt7 5 (by decide +kernel) (by decide +kernel)
theorem cmL_128 {r : Option Nat} {v0 : Int32} {v1 : Int32} {f : Int32 → Mem → XA} (hm : mt.1.cls = RL) (hs : XSnd l xmt rec d) (h8 : st.length ≤ 4) (hd : decode mt.2.1 pc = .ok (.invokevirtual 128, 3)) (k : ∀ x M1, Xe S G K l mt d (pc + 3) lo (.int x :: st) M1 (f x M1)) : Xe S G K l mt d pc lo (.int v1 :: .int v0 :: va_rf r :: st) M (vC (12, 19) M r (cI (rec 155 ([va_rf r, .int v0, .int v1]) M) f)) := x_callV_I hs xq155 xm155 xci12 rfl (by rw [hm]; exact lmL_128) mi155 mse155 rfl rfl h8 hd k
theorem xm292 : XMi (yX12_smaller, cX12_smaller, 3, some .int) 2 := ⟨xbt11 174 rfl (by decide +kernel), xbt1 15 (by decide +kernel) (by decide +kernel), by decide +kernel, by decide +kernel, by decide, by decide +kernel⟩
theorem xq292 : xmt 292 = (yX12_smaller, cX12_smaller, 3, some .int) := rfl
theorem lmL_131 : Cond.methodLink RL 131 yX12_smaller ∈ xbig := xbt11 171 (by decide +kernel) (by decide +kernel)
theorem mi292 : Cond.instanceMethod yX12_smaller ∈ xbig := xbt11 172 (by decide +kernel) (by decide +kernel)
theorem mse292 : Cond.selects RX12 yX12_smaller yX12_smaller ∈ xbig := xbt11 173 (by decide +kernel) (by decide +kernel)
theorem cmL_131 {r : Option Nat} {v0 : Int32} {v1 : Int32} {f : Int32 → Mem → XA} (hm : mt.1.cls = RL) (hs : XSnd l xmt rec d) (h8 : st.length ≤ 4) (hd : decode mt.2.1 pc = .ok (.invokevirtual 131, 3)) (k : ∀ x M1, Xe S G K l mt d (pc + 3) lo (.int x :: st) M1 (f x M1)) : Xe S G K l mt d pc lo (.int v1 :: .int v0 :: va_rf r :: st) M (vC (13, 157) M r (cI (rec 292 ([va_rf r, .int v0, .int v1]) M) f)) := x_callV_I hs xq292 xm292 xci13 rfl (by rw [hm]; exact lmL_131) mi292 mse292 rfl rfl h8 hd k
theorem xm156 : XMi (yX11_history, cX11_history, 2, some .int) 1 := ⟨xbt7 10 rfl (by decide +kernel), xbt1 1 (by decide +kernel) (by decide +kernel), by decide +kernel, by decide +kernel, by decide, by decide +kernel⟩
theorem xq156 : xmt 156 = (yX11_history, cX11_history, 2, some .int) := rfl
theorem lmL_132 : Cond.methodLink RL 132 yX11_history ∈ xbig := xbt7 7 (by decide +kernel) (by decide +kernel)
theorem mi156 : Cond.instanceMethod yX11_history ∈ xbig := xbt7 8 (by decide +kernel) (by decide +kernel)
theorem mse156 : Cond.selects RX11 yX11_history yX11_history ∈ xbig := xbt7 9 (by decide +kernel) (by decide +kernel)
theorem cmL_132 {r : Option Nat} {v0 : Int32} {f : Int32 → Mem → XA} (hm : mt.1.cls = RL) (hs : XSnd l xmt rec d) (h8 : st.length ≤ 4) (hd : decode mt.2.1 pc = .ok (.invokevirtual 132, 3)) (k : ∀ x M1, Xe S G K l mt d (pc + 3) lo (.int x :: st) M1 (f x M1)) : Xe S G K l mt d pc lo (.int v0 :: va_rf r :: st) M (vC (12, 19) M r (cI (rec 156 ([va_rf r, .int v0]) M) f)) := x_callV_I hs xq156 xm156 xci12 rfl (by rw [hm]; exact lmL_132) mi156 mse156 rfl rfl h8 hd k
theorem xm293 : XMi (yX12_history, cX12_history, 2, some .int) 1 := ⟨xbt11 178 rfl (by decide +kernel), xbt1 15 (by decide +kernel) (by decide +kernel), by decide +kernel, by decide +kernel, by decide, by decide +kernel⟩
theorem xq293 : xmt 293 = (yX12_history, cX12_history, 2, some .int) := rfl
theorem lmL_135 : Cond.methodLink RL 135 yX12_history ∈ xbig := xbt11 175 (by decide +kernel) (by decide +kernel)
theorem mi293 : Cond.instanceMethod yX12_history ∈ xbig := xbt11 176 (by decide +kernel) (by decide +kernel)
theorem mse293 : Cond.selects RX12 yX12_history yX12_history ∈ xbig := xbt11 177 (by decide +kernel) (by decide +kernel)
theorem cmL_135 {r : Option Nat} {v0 : Int32} {f : Int32 → Mem → XA} (hm : mt.1.cls = RL) (hs : XSnd l xmt rec d) (h8 : st.length ≤ 4) (hd : decode mt.2.1 pc = .ok (.invokevirtual 135, 3)) (k : ∀ x M1, Xe S G K l mt d (pc + 3) lo (.int x :: st) M1 (f x M1)) : Xe S G K l mt d pc lo (.int v0 :: va_rf r :: st) M (vC (13, 157) M r (cI (rec 293 ([va_rf r, .int v0]) M) f)) := x_callV_I hs xq293 xm293 xci13 rfl (by rw [hm]; exact lmL_135) mi293 mse293 rfl rfl h8 hd k
theorem xm157 : XMi (yX11_op, cX11_op, 8, some .int) 6 := ⟨xbt7 45 rfl (by decide +kernel), xbt1 1 (by decide +kernel) (by decide +kernel), by decide +kernel, by decide +kernel, by decide, by decide +kernel⟩
theorem xq157 : xmt 157 = (yX11_op, cX11_op, 8, some .int) := rfl
theorem lmL_136 : Cond.methodLink RL 136 yX11_op ∈ xbig := xbt7 42 (by decide +kernel) (by decide +kernel)
theorem mi157 : Cond.instanceMethod yX11_op ∈ xbig := xbt7 43 (by decide +kernel) (by decide +kernel)
theorem mse157 : Cond.selects RX11 yX11_op yX11_op ∈ xbig := xbt7 44 (by decide +kernel) (by decide +kernel)
theorem cmL_136 {r : Option Nat} {v0 : Int32} {v1 : Int32} {v2 : Int32} {v3 : Int32} {v4 : Int32} {v5 : Int32} {f : Int32 → Mem → XA} (hm : mt.1.cls = RL) (hs : XSnd l xmt rec d) (h8 : st.length ≤ 4) (hd : decode mt.2.1 pc = .ok (.invokevirtual 136, 3)) (k : ∀ x M1, Xe S G K l mt d (pc + 3) lo (.int x :: st) M1 (f x M1)) : Xe S G K l mt d pc lo (.int v5 :: .int v4 :: .int v3 :: .int v2 :: .int v1 :: .int v0 :: va_rf r :: st) M (vC (12, 19) M r (cI (rec 157 ([va_rf r, .int v0, .int v1, .int v2, .int v3, .int v4, .int v5]) M) f)) := x_callV_I hs xq157 xm157 xci12 rfl (by rw [hm]; exact lmL_136) mi157 mse157 rfl rfl h8 hd k
theorem xm294 : XMi (yX12_op, cX12_op, 8, some .int) 6 := ⟨xbt11 182 rfl (by decide +kernel), xbt1 15 (by decide +kernel) (by decide +kernel), by decide +kernel, by decide +kernel, by decide, by decide +kernel⟩
theorem xq294 : xmt 294 = (yX12_op, cX12_op, 8, some .int) := rfl
theorem lmL_140 : Cond.methodLink RL 140 yX12_op ∈ xbig := xbt11 179 (by decide +kernel) (by decide +kernel)
theorem mi294 : Cond.instanceMethod yX12_op ∈ xbig := xbt11 180 (by decide +kernel) (by decide +kernel)
theorem mse294 : Cond.selects RX12 yX12_op yX12_op ∈ xbig := xbt11 181 (by decide +kernel) (by decide +kernel)
theorem cmL_140 {r : Option Nat} {v0 : Int32} {v1 : Int32} {v2 : Int32} {v3 : Int32} {v4 : Int32} {v5 : Int32} {f : Int32 → Mem → XA} (hm : mt.1.cls = RL) (hs : XSnd l xmt rec d) (h8 : st.length ≤ 4) (hd : decode mt.2.1 pc = .ok (.invokevirtual 140, 3)) (k : ∀ x M1, Xe S G K l mt d (pc + 3) lo (.int x :: st) M1 (f x M1)) : Xe S G K l mt d pc lo (.int v5 :: .int v4 :: .int v3 :: .int v2 :: .int v1 :: .int v0 :: va_rf r :: st) M (vC (13, 157) M r (cI (rec 294 ([va_rf r, .int v0, .int v1, .int v2, .int v3, .int v4, .int v5]) M) f)) := x_callV_I hs xq294 xm294 xci13 rfl (by rw [hm]; exact lmL_140) mi294 mse294 rfl rfl h8 hd k
theorem xm158 : XMi (yX11_linear, cX11_linear, 3, some .int) 1 := ⟨xbt7 57 rfl (by decide +kernel), xbt1 1 (by decide +kernel) (by decide +kernel), by decide +kernel, by decide +kernel, by decide, by decide +kernel⟩
theorem xq158 : xmt 158 = (yX11_linear, cX11_linear, 3, some .int) := rfl
theorem lmL_141 : Cond.methodLink RL 141 yX11_linear ∈ xbig := xbt7 54 (by decide +kernel) (by decide +kernel)
theorem mi158 : Cond.instanceMethod yX11_linear ∈ xbig := xbt7 55 (by decide +kernel) (by decide +kernel)
theorem mse158 : Cond.selects RX11 yX11_linear yX11_linear ∈ xbig := xbt7 56 (by decide +kernel) (by decide +kernel)
theorem cmL_141 {r : Option Nat} {v0 : Int32} {f : Int32 → Mem → XA} (hm : mt.1.cls = RL) (hs : XSnd l xmt rec d) (h8 : st.length ≤ 4) (hd : decode mt.2.1 pc = .ok (.invokevirtual 141, 3)) (k : ∀ x M1, Xe S G K l mt d (pc + 3) lo (.int x :: st) M1 (f x M1)) : Xe S G K l mt d pc lo (.int v0 :: va_rf r :: st) M (vC (12, 19) M r (cI (rec 158 ([va_rf r, .int v0]) M) f)) := x_callV_I hs xq158 xm158 xci12 rfl (by rw [hm]; exact lmL_141) mi158 mse158 rfl rfl h8 hd k
theorem xm298 : XMi (yX12_linear, cX12_linear, 2, some .int) 1 := ⟨xbt11 186 rfl (by decide +kernel), xbt1 15 (by decide +kernel) (by decide +kernel), by decide +kernel, by decide +kernel, by decide, by decide +kernel⟩
theorem xq298 : xmt 298 = (yX12_linear, cX12_linear, 2, some .int) := rfl
theorem lmL_144 : Cond.methodLink RL 144 yX12_linear ∈ xbig := xbt11 183 (by decide +kernel) (by decide +kernel)
theorem mi298 : Cond.instanceMethod yX12_linear ∈ xbig := xbt11 184 (by decide +kernel) (by decide +kernel)
theorem mse298 : Cond.selects RX12 yX12_linear yX12_linear ∈ xbig := xbt11 185 (by decide +kernel) (by decide +kernel)
theorem cmL_144 {r : Option Nat} {v0 : Int32} {f : Int32 → Mem → XA} (hm : mt.1.cls = RL) (hs : XSnd l xmt rec d) (h8 : st.length ≤ 4) (hd : decode mt.2.1 pc = .ok (.invokevirtual 144, 3)) (k : ∀ x M1, Xe S G K l mt d (pc + 3) lo (.int x :: st) M1 (f x M1)) : Xe S G K l mt d pc lo (.int v0 :: va_rf r :: st) M (vC (13, 157) M r (cI (rec 298 ([va_rf r, .int v0]) M) f)) := x_callV_I hs xq298 xm298 xci13 rfl (by rw [hm]; exact lmL_144) mi298 mse298 rfl rfl h8 hd k
theorem xm159 : XMi (yX11_place, cX11_place, 4, some .int) 2 := ⟨xbt7 78 rfl (by decide +kernel), xbt1 1 (by decide +kernel) (by decide +kernel), by decide +kernel, by decide +kernel, by decide, by decide +kernel⟩
theorem xq159 : xmt 159 = (yX11_place, cX11_place, 4, some .int) := rfl
theorem lmL_145 : Cond.methodLink RL 145 yX11_place ∈ xbig := xbt7 75 (by decide +kernel) (by decide +kernel)
theorem mi159 : Cond.instanceMethod yX11_place ∈ xbig := xbt7 76 (by decide +kernel) (by decide +kernel)
theorem mse159 : Cond.selects RX11 yX11_place yX11_place ∈ xbig := xbt7 77 (by decide +kernel) (by decide +kernel)
theorem cmL_145 {r : Option Nat} {v0 : Int32} {v1 : Int32} {f : Int32 → Mem → XA} (hm : mt.1.cls = RL) (hs : XSnd l xmt rec d) (h8 : st.length ≤ 4) (hd : decode mt.2.1 pc = .ok (.invokevirtual 145, 3)) (k : ∀ x M1, Xe S G K l mt d (pc + 3) lo (.int x :: st) M1 (f x M1)) : Xe S G K l mt d pc lo (.int v1 :: .int v0 :: va_rf r :: st) M (vC (12, 19) M r (cI (rec 159 ([va_rf r, .int v0, .int v1]) M) f)) := x_callV_I hs xq159 xm159 xci12 rfl (by rw [hm]; exact lmL_145) mi159 mse159 rfl rfl h8 hd k
theorem xm299 : XMi (yX12_place, cX12_place, 3, some .int) 2 := ⟨xbt11 202 rfl (by decide +kernel), xbt1 15 (by decide +kernel) (by decide +kernel), by decide +kernel, by decide +kernel, by decide, by decide +kernel⟩
theorem xq299 : xmt 299 = (yX12_place, cX12_place, 3, some .int) := rfl
theorem lmL_148 : Cond.methodLink RL 148 yX12_place ∈ xbig := xbt11 199 (by decide +kernel) (by decide +kernel)
theorem mi299 : Cond.instanceMethod yX12_place ∈ xbig := xbt11 200 (by decide +kernel) (by decide +kernel)
theorem mse299 : Cond.selects RX12 yX12_place yX12_place ∈ xbig := xbt11 201 (by decide +kernel) (by decide +kernel)
theorem cmL_148 {r : Option Nat} {v0 : Int32} {v1 : Int32} {f : Int32 → Mem → XA} (hm : mt.1.cls = RL) (hs : XSnd l xmt rec d) (h8 : st.length ≤ 4) (hd : decode mt.2.1 pc = .ok (.invokevirtual 148, 3)) (k : ∀ x M1, Xe S G K l mt d (pc + 3) lo (.int x :: st) M1 (f x M1)) : Xe S G K l mt d pc lo (.int v1 :: .int v0 :: va_rf r :: st) M (vC (13, 157) M r (cI (rec 299 ([va_rf r, .int v0, .int v1]) M) f)) := x_callV_I hs xq299 xm299 xci13 rfl (by rw [hm]; exact lmL_148) mi299 mse299 rfl rfl h8 hd k
theorem xm160 : XMi (yX11_luck, cX11_luck, 6, some .int) 2 := ⟨xbt7 82 rfl (by decide +kernel), xbt1 1 (by decide +kernel) (by decide +kernel), by decide +kernel, by decide +kernel, by decide, by decide +kernel⟩
theorem xq160 : xmt 160 = (yX11_luck, cX11_luck, 6, some .int) := rfl
theorem lmL_149 : Cond.methodLink RL 149 yX11_luck ∈ xbig := xbt7 79 (by decide +kernel) (by decide +kernel)
theorem mi160 : Cond.instanceMethod yX11_luck ∈ xbig := xbt7 80 (by decide +kernel) (by decide +kernel)
theorem mse160 : Cond.selects RX11 yX11_luck yX11_luck ∈ xbig := xbt7 81 (by decide +kernel) (by decide +kernel)
theorem cmL_149 {r : Option Nat} {v0 : Int32} {v1 : Int32} {f : Int32 → Mem → XA} (hm : mt.1.cls = RL) (hs : XSnd l xmt rec d) (h8 : st.length ≤ 4) (hd : decode mt.2.1 pc = .ok (.invokevirtual 149, 3)) (k : ∀ x M1, Xe S G K l mt d (pc + 3) lo (.int x :: st) M1 (f x M1)) : Xe S G K l mt d pc lo (.int v1 :: .int v0 :: va_rf r :: st) M (vC (12, 19) M r (cI (rec 160 ([va_rf r, .int v0, .int v1]) M) f)) := x_callV_I hs xq160 xm160 xci12 rfl (by rw [hm]; exact lmL_149) mi160 mse160 rfl rfl h8 hd k
theorem xm301 : XMi (yX12_luck, cX12_luck, 18, some .int) 2 := ⟨xbt11 206 rfl (by decide +kernel), xbt1 15 (by decide +kernel) (by decide +kernel), by decide +kernel, by decide +kernel, by decide, by decide +kernel⟩
theorem xq301 : xmt 301 = (yX12_luck, cX12_luck, 18, some .int) := rfl
theorem lmL_152 : Cond.methodLink RL 152 yX12_luck ∈ xbig := xbt11 203 (by decide +kernel) (by decide +kernel)
theorem mi301 : Cond.instanceMethod yX12_luck ∈ xbig := xbt11 204 (by decide +kernel) (by decide +kernel)
theorem mse301 : Cond.selects RX12 yX12_luck yX12_luck ∈ xbig := xbt11 205 (by decide +kernel) (by decide +kernel)
theorem cmL_152 {r : Option Nat} {v0 : Int32} {v1 : Int32} {f : Int32 → Mem → XA} (hm : mt.1.cls = RL) (hs : XSnd l xmt rec d) (h8 : st.length ≤ 4) (hd : decode mt.2.1 pc = .ok (.invokevirtual 152, 3)) (k : ∀ x M1, Xe S G K l mt d (pc + 3) lo (.int x :: st) M1 (f x M1)) : Xe S G K l mt d pc lo (.int v1 :: .int v0 :: va_rf r :: st) M (vC (13, 157) M r (cI (rec 301 ([va_rf r, .int v0, .int v1]) M) f)) := x_callV_I hs xq301 xm301 xci13 rfl (by rw [hm]; exact lmL_152) mi301 mse301 rfl rfl h8 hd k
theorem xm161 : XMi (yX11_share, cX11_share, 2, some .int) 1 := ⟨xbt7 110 rfl (by decide +kernel), xbt1 1 (by decide +kernel) (by decide +kernel), by decide +kernel, by decide +kernel, by decide, by decide +kernel⟩
theorem xq161 : xmt 161 = (yX11_share, cX11_share, 2, some .int) := rfl
theorem lmL_153 : Cond.methodLink RL 153 yX11_share ∈ xbig := xbt7 107 (by decide +kernel) (by decide +kernel)
theorem mi161 : Cond.instanceMethod yX11_share ∈ xbig := xbt7 108 (by decide +kernel) (by decide +kernel)
theorem mse161 : Cond.selects RX11 yX11_share yX11_share ∈ xbig := xbt7 109 (by decide +kernel) (by decide +kernel)
theorem cmL_153 {r : Option Nat} {v0 : Int32} {f : Int32 → Mem → XA} (hm : mt.1.cls = RL) (hs : XSnd l xmt rec d) (h8 : st.length ≤ 4) (hd : decode mt.2.1 pc = .ok (.invokevirtual 153, 3)) (k : ∀ x M1, Xe S G K l mt d (pc + 3) lo (.int x :: st) M1 (f x M1)) : Xe S G K l mt d pc lo (.int v0 :: va_rf r :: st) M (vC (12, 19) M r (cI (rec 161 ([va_rf r, .int v0]) M) f)) := x_callV_I hs xq161 xm161 xci12 rfl (by rw [hm]; exact lmL_153) mi161 mse161 rfl rfl h8 hd k
theorem xm302 : XMi (yX12_share, cX12_share, 2, some .int) 1 := ⟨xbt11 214 rfl (by decide +kernel), xbt1 15 (by decide +kernel) (by decide +kernel), by decide +kernel, by decide +kernel, by decide, by decide +kernel⟩
theorem xq302 : xmt 302 = (yX12_share, cX12_share, 2, some .int) := rfl
theorem lmL_156 : Cond.methodLink RL 156 yX12_share ∈ xbig := xbt11 211 (by decide +kernel) (by decide +kernel)
theorem mi302 : Cond.instanceMethod yX12_share ∈ xbig := xbt11 212 (by decide +kernel) (by decide +kernel)
theorem mse302 : Cond.selects RX12 yX12_share yX12_share ∈ xbig := xbt11 213 (by decide +kernel) (by decide +kernel)
theorem cmL_156 {r : Option Nat} {v0 : Int32} {f : Int32 → Mem → XA} (hm : mt.1.cls = RL) (hs : XSnd l xmt rec d) (h8 : st.length ≤ 4) (hd : decode mt.2.1 pc = .ok (.invokevirtual 156, 3)) (k : ∀ x M1, Xe S G K l mt d (pc + 3) lo (.int x :: st) M1 (f x M1)) : Xe S G K l mt d pc lo (.int v0 :: va_rf r :: st) M (vC (13, 157) M r (cI (rec 302 ([va_rf r, .int v0]) M) f)) := x_callV_I hs xq302 xm302 xci13 rfl (by rw [hm]; exact lmL_156) mi302 mse302 rfl rfl h8 hd k
theorem xm162 : XMi (yX11_blame, cX11_blame, 13, some .int) 2 := ⟨xbt7 114 rfl (by decide +kernel), xbt1 1 (by decide +kernel) (by decide +kernel), by decide +kernel, by decide +kernel, by decide, by decide +kernel⟩
theorem xq162 : xmt 162 = (yX11_blame, cX11_blame, 13, some .int) := rfl
theorem lmL_157 : Cond.methodLink RL 157 yX11_blame ∈ xbig := xbt7 111 (by decide +kernel) (by decide +kernel)
theorem mi162 : Cond.instanceMethod yX11_blame ∈ xbig := xbt7 112 (by decide +kernel) (by decide +kernel)
theorem mse162 : Cond.selects RX11 yX11_blame yX11_blame ∈ xbig := xbt7 113 (by decide +kernel) (by decide +kernel)
theorem cmL_157 {r : Option Nat} {v0 : Int32} {v1 : Int32} {f : Int32 → Mem → XA} (hm : mt.1.cls = RL) (hs : XSnd l xmt rec d) (h8 : st.length ≤ 4) (hd : decode mt.2.1 pc = .ok (.invokevirtual 157, 3)) (k : ∀ x M1, Xe S G K l mt d (pc + 3) lo (.int x :: st) M1 (f x M1)) : Xe S G K l mt d pc lo (.int v1 :: .int v0 :: va_rf r :: st) M (vC (12, 19) M r (cI (rec 162 ([va_rf r, .int v0, .int v1]) M) f)) := x_callV_I hs xq162 xm162 xci12 rfl (by rw [hm]; exact lmL_157) mi162 mse162 rfl rfl h8 hd k
theorem xm304 : XMi (yX12_blame, cX12_blame, 8, some .int) 2 := ⟨xbt11 218 rfl (by decide +kernel), xbt1 15 (by decide +kernel) (by decide +kernel), by decide +kernel, by decide +kernel, by decide, by decide +kernel⟩
theorem xq304 : xmt 304 = (yX12_blame, cX12_blame, 8, some .int) := rfl
theorem lmL_160 : Cond.methodLink RL 160 yX12_blame ∈ xbig := xbt11 215 (by decide +kernel) (by decide +kernel)
theorem mi304 : Cond.instanceMethod yX12_blame ∈ xbig := xbt11 216 (by decide +kernel) (by decide +kernel)
theorem mse304 : Cond.selects RX12 yX12_blame yX12_blame ∈ xbig := xbt11 217 (by decide +kernel) (by decide +kernel)
theorem cmL_160 {r : Option Nat} {v0 : Int32} {v1 : Int32} {f : Int32 → Mem → XA} (hm : mt.1.cls = RL) (hs : XSnd l xmt rec d) (h8 : st.length ≤ 4) (hd : decode mt.2.1 pc = .ok (.invokevirtual 160, 3)) (k : ∀ x M1, Xe S G K l mt d (pc + 3) lo (.int x :: st) M1 (f x M1)) : Xe S G K l mt d pc lo (.int v1 :: .int v0 :: va_rf r :: st) M (vC (13, 157) M r (cI (rec 304 ([va_rf r, .int v0, .int v1]) M) f)) := x_callV_I hs xq304 xm304 xci13 rfl (by rw [hm]; exact lmL_160) mi304 mse304 rfl rfl h8 hd k
theorem xm163 : XMi (yX11_blamed, cX11_blamed, 2, some .int) 1 := ⟨xbt7 125 rfl (by decide +kernel), xbt1 1 (by decide +kernel) (by decide +kernel), by decide +kernel, by decide +kernel, by decide, by decide +kernel⟩
theorem xq163 : xmt 163 = (yX11_blamed, cX11_blamed, 2, some .int) := rfl
theorem lmL_161 : Cond.methodLink RL 161 yX11_blamed ∈ xbig := xbt7 122 (by decide +kernel) (by decide +kernel)
theorem mi163 : Cond.instanceMethod yX11_blamed ∈ xbig := xbt7 123 (by decide +kernel) (by decide +kernel)
theorem mse163 : Cond.selects RX11 yX11_blamed yX11_blamed ∈ xbig := xbt7 124 (by decide +kernel) (by decide +kernel)
theorem cmL_161 {r : Option Nat} {v0 : Int32} {f : Int32 → Mem → XA} (hm : mt.1.cls = RL) (hs : XSnd l xmt rec d) (h8 : st.length ≤ 4) (hd : decode mt.2.1 pc = .ok (.invokevirtual 161, 3)) (k : ∀ x M1, Xe S G K l mt d (pc + 3) lo (.int x :: st) M1 (f x M1)) : Xe S G K l mt d pc lo (.int v0 :: va_rf r :: st) M (vC (12, 19) M r (cI (rec 163 ([va_rf r, .int v0]) M) f)) := x_callV_I hs xq163 xm163 xci12 rfl (by rw [hm]; exact lmL_161) mi163 mse163 rfl rfl h8 hd k
theorem xm305 : XMi (yX12_blamed, cX12_blamed, 2, some .int) 1 := ⟨xbt11 226 rfl (by decide +kernel), xbt1 15 (by decide +kernel) (by decide +kernel), by decide +kernel, by decide +kernel, by decide, by decide +kernel⟩
theorem xq305 : xmt 305 = (yX12_blamed, cX12_blamed, 2, some .int) := rfl
theorem lmL_164 : Cond.methodLink RL 164 yX12_blamed ∈ xbig := xbt11 223 (by decide +kernel) (by decide +kernel)
theorem mi305 : Cond.instanceMethod yX12_blamed ∈ xbig := xbt11 224 (by decide +kernel) (by decide +kernel)
theorem mse305 : Cond.selects RX12 yX12_blamed yX12_blamed ∈ xbig := xbt11 225 (by decide +kernel) (by decide +kernel)
theorem cmL_164 {r : Option Nat} {v0 : Int32} {f : Int32 → Mem → XA} (hm : mt.1.cls = RL) (hs : XSnd l xmt rec d) (h8 : st.length ≤ 4) (hd : decode mt.2.1 pc = .ok (.invokevirtual 164, 3)) (k : ∀ x M1, Xe S G K l mt d (pc + 3) lo (.int x :: st) M1 (f x M1)) : Xe S G K l mt d pc lo (.int v0 :: va_rf r :: st) M (vC (13, 157) M r (cI (rec 305 ([va_rf r, .int v0]) M) f)) := x_callV_I hs xq305 xm305 xci13 rfl (by rw [hm]; exact lmL_164) mi305 mse305 rfl rfl h8 hd k
theorem xm164 : XMi (yX11_build, cX11_build, 5, some .int) 2 := ⟨xbt7 129 rfl (by decide +kernel), xbt1 1 (by decide +kernel) (by decide +kernel), by decide +kernel, by decide +kernel, by decide, by decide +kernel⟩
theorem xq164 : xmt 164 = (yX11_build, cX11_build, 5, some .int) := rfl
theorem lmL_165 : Cond.methodLink RL 165 yX11_build ∈ xbig := xbt7 126 (by decide +kernel) (by decide +kernel)
theorem mi164 : Cond.instanceMethod yX11_build ∈ xbig := xbt7 127 (by decide +kernel) (by decide +kernel)
theorem mse164 : Cond.selects RX11 yX11_build yX11_build ∈ xbig := xbt7 128 (by decide +kernel) (by decide +kernel)
theorem cmL_165 {r : Option Nat} {v0 : Int32} {v1 : Int32} {f : Int32 → Mem → XA} (hm : mt.1.cls = RL) (hs : XSnd l xmt rec d) (h8 : st.length ≤ 4) (hd : decode mt.2.1 pc = .ok (.invokevirtual 165, 3)) (k : ∀ x M1, Xe S G K l mt d (pc + 3) lo (.int x :: st) M1 (f x M1)) : Xe S G K l mt d pc lo (.int v1 :: .int v0 :: va_rf r :: st) M (vC (12, 19) M r (cI (rec 164 ([va_rf r, .int v0, .int v1]) M) f)) := x_callV_I hs xq164 xm164 xci12 rfl (by rw [hm]; exact lmL_165) mi164 mse164 rfl rfl h8 hd k
theorem xm306 : XMi (yX12_build, cX12_build, 3, some .int) 2 := ⟨xbt11 230 rfl (by decide +kernel), xbt1 15 (by decide +kernel) (by decide +kernel), by decide +kernel, by decide +kernel, by decide, by decide +kernel⟩
theorem xq306 : xmt 306 = (yX12_build, cX12_build, 3, some .int) := rfl
theorem lmL_168 : Cond.methodLink RL 168 yX12_build ∈ xbig := xbt11 227 (by decide +kernel) (by decide +kernel)
theorem mi306 : Cond.instanceMethod yX12_build ∈ xbig := xbt11 228 (by decide +kernel) (by decide +kernel)
theorem mse306 : Cond.selects RX12 yX12_build yX12_build ∈ xbig := xbt11 229 (by decide +kernel) (by decide +kernel)
theorem cmL_168 {r : Option Nat} {v0 : Int32} {v1 : Int32} {f : Int32 → Mem → XA} (hm : mt.1.cls = RL) (hs : XSnd l xmt rec d) (h8 : st.length ≤ 4) (hd : decode mt.2.1 pc = .ok (.invokevirtual 168, 3)) (k : ∀ x M1, Xe S G K l mt d (pc + 3) lo (.int x :: st) M1 (f x M1)) : Xe S G K l mt d pc lo (.int v1 :: .int v0 :: va_rf r :: st) M (vC (13, 157) M r (cI (rec 306 ([va_rf r, .int v0, .int v1]) M) f)) := x_callV_I hs xq306 xm306 xci13 rfl (by rw [hm]; exact lmL_168) mi306 mse306 rfl rfl h8 hd k
theorem xm165 : XMi (yX11_foretold, cX11_foretold, 5, some .int) 2 := ⟨xbt7 164 rfl (by decide +kernel), xbt1 1 (by decide +kernel) (by decide +kernel), by decide +kernel, by decide +kernel, by decide, by decide +kernel⟩
theorem xq165 : xmt 165 = (yX11_foretold, cX11_foretold, 5, some .int) := rfl
theorem lmL_169 : Cond.methodLink RL 169 yX11_foretold ∈ xbig := xbt7 161 (by decide +kernel) (by decide +kernel)
theorem mi165 : Cond.instanceMethod yX11_foretold ∈ xbig := xbt7 162 (by decide +kernel) (by decide +kernel)
theorem mse165 : Cond.selects RX11 yX11_foretold yX11_foretold ∈ xbig := xbt7 163 (by decide +kernel) (by decide +kernel)
theorem cmL_169 {r : Option Nat} {v0 : Int32} {v1 : Int32} {f : Int32 → Mem → XA} (hm : mt.1.cls = RL) (hs : XSnd l xmt rec d) (h8 : st.length ≤ 4) (hd : decode mt.2.1 pc = .ok (.invokevirtual 169, 3)) (k : ∀ x M1, Xe S G K l mt d (pc + 3) lo (.int x :: st) M1 (f x M1)) : Xe S G K l mt d pc lo (.int v1 :: .int v0 :: va_rf r :: st) M (vC (12, 19) M r (cI (rec 165 ([va_rf r, .int v0, .int v1]) M) f)) := x_callV_I hs xq165 xm165 xci12 rfl (by rw [hm]; exact lmL_169) mi165 mse165 rfl rfl h8 hd k
theorem xm308 : XMi (yX12_foretold, cX12_foretold, 7, some .int) 2 := ⟨xbt11 234 rfl (by decide +kernel), xbt1 15 (by decide +kernel) (by decide +kernel), by decide +kernel, by decide +kernel, by decide, by decide +kernel⟩
theorem xq308 : xmt 308 = (yX12_foretold, cX12_foretold, 7, some .int) := rfl
theorem lmL_172 : Cond.methodLink RL 172 yX12_foretold ∈ xbig := xbt11 231 (by decide +kernel) (by decide +kernel)
theorem mi308 : Cond.instanceMethod yX12_foretold ∈ xbig := xbt11 232 (by decide +kernel) (by decide +kernel)
theorem mse308 : Cond.selects RX12 yX12_foretold yX12_foretold ∈ xbig := xbt11 233 (by decide +kernel) (by decide +kernel)
theorem cmL_172 {r : Option Nat} {v0 : Int32} {v1 : Int32} {f : Int32 → Mem → XA} (hm : mt.1.cls = RL) (hs : XSnd l xmt rec d) (h8 : st.length ≤ 4) (hd : decode mt.2.1 pc = .ok (.invokevirtual 172, 3)) (k : ∀ x M1, Xe S G K l mt d (pc + 3) lo (.int x :: st) M1 (f x M1)) : Xe S G K l mt d pc lo (.int v1 :: .int v0 :: va_rf r :: st) M (vC (13, 157) M r (cI (rec 308 ([va_rf r, .int v0, .int v1]) M) f)) := x_callV_I hs xq308 xm308 xci13 rfl (by rw [hm]; exact lmL_172) mi308 mse308 rfl rfl h8 hd k
theorem xm166 : XMi (yX11_touch, cX11_touch, 5, some .int) 2 := ⟨xbt7 182 rfl (by decide +kernel), xbt1 1 (by decide +kernel) (by decide +kernel), by decide +kernel, by decide +kernel, by decide, by decide +kernel⟩
theorem xq166 : xmt 166 = (yX11_touch, cX11_touch, 5, some .int) := rfl
theorem lmL_173 : Cond.methodLink RL 173 yX11_touch ∈ xbig := xbt7 179 (by decide +kernel) (by decide +kernel)
theorem mi166 : Cond.instanceMethod yX11_touch ∈ xbig := xbt7 180 (by decide +kernel) (by decide +kernel)
theorem mse166 : Cond.selects RX11 yX11_touch yX11_touch ∈ xbig := xbt7 181 (by decide +kernel) (by decide +kernel)
theorem cmL_173 {r : Option Nat} {v0 : Int32} {v1 : Int32} {f : Int32 → Mem → XA} (hm : mt.1.cls = RL) (hs : XSnd l xmt rec d) (h8 : st.length ≤ 4) (hd : decode mt.2.1 pc = .ok (.invokevirtual 173, 3)) (k : ∀ x M1, Xe S G K l mt d (pc + 3) lo (.int x :: st) M1 (f x M1)) : Xe S G K l mt d pc lo (.int v1 :: .int v0 :: va_rf r :: st) M (vC (12, 19) M r (cI (rec 166 ([va_rf r, .int v0, .int v1]) M) f)) := x_callV_I hs xq166 xm166 xci12 rfl (by rw [hm]; exact lmL_173) mi166 mse166 rfl rfl h8 hd k
theorem xm309 : XMi (yX12_touch, cX12_touch, 3, some .int) 2 := ⟨xbt12 3 rfl (by decide +kernel), xbt1 15 (by decide +kernel) (by decide +kernel), by decide +kernel, by decide +kernel, by decide, by decide +kernel⟩
theorem xq309 : xmt 309 = (yX12_touch, cX12_touch, 3, some .int) := rfl
theorem lmL_176 : Cond.methodLink RL 176 yX12_touch ∈ xbig := xbt12 0 (by decide +kernel) (by decide +kernel)
theorem mi309 : Cond.instanceMethod yX12_touch ∈ xbig := xbt12 1 (by decide +kernel) (by decide +kernel)
theorem mse309 : Cond.selects RX12 yX12_touch yX12_touch ∈ xbig := xbt12 2 (by decide +kernel) (by decide +kernel)
theorem cmL_176 {r : Option Nat} {v0 : Int32} {v1 : Int32} {f : Int32 → Mem → XA} (hm : mt.1.cls = RL) (hs : XSnd l xmt rec d) (h8 : st.length ≤ 4) (hd : decode mt.2.1 pc = .ok (.invokevirtual 176, 3)) (k : ∀ x M1, Xe S G K l mt d (pc + 3) lo (.int x :: st) M1 (f x M1)) : Xe S G K l mt d pc lo (.int v1 :: .int v0 :: va_rf r :: st) M (vC (13, 157) M r (cI (rec 309 ([va_rf r, .int v0, .int v1]) M) f)) := x_callV_I hs xq309 xm309 xci13 rfl (by rw [hm]; exact lmL_176) mi309 mse309 rfl rfl h8 hd k
theorem xm187 : XMi (yX12_packed, cX12_packed, 4, some .long) 1 := ⟨xbt7 196 rfl (by decide +kernel), xbt1 15 (by decide +kernel) (by decide +kernel), by decide +kernel, by decide +kernel, by decide, by decide +kernel⟩
theorem xq187 : xmt 187 = (yX12_packed, cX12_packed, 4, some .long) := rfl
theorem lmX12_115 : Cond.methodLink RX12 115 yX12_packed ∈ xbig := xbt7 194 (by decide +kernel) (by decide +kernel)
theorem ms187 : Cond.static yX12_packed ∈ xbig := xbt7 195 (by decide +kernel) (by decide +kernel)
theorem cmX12_115 {v0 : Option Nat} {f : Int64 → Mem → XA} (hm : mt.1.cls = RX12) (hs : XSnd l xmt rec d) (h8 : st.length ≤ 4) (hd : decode mt.2.1 pc = .ok (.invokestatic 115, 3)) (k : ∀ x M1, Xe S G K l mt d (pc + 3) lo (.long x :: st) M1 (f x M1)) : Xe S G K l mt d pc lo (va_rf v0 :: st) M (cL (rec 187 [va_rf v0] M) f) := x_callS_L hs xq187 xm187 rfl (by rw [hm]; exact lmX12_115) ms187 rfl rfl h8 hd k
theorem xm184 : XMi (yX12_in, cX12_in, 3, some .boolean) 3 := ⟨xbt9 229 rfl (by decide +kernel), xbt1 15 (by decide +kernel) (by decide +kernel), by decide +kernel, by decide +kernel, by decide, by decide +kernel⟩
theorem xq184 : xmt 184 = (yX12_in, cX12_in, 3, some .boolean) := rfl
theorem lmX12_381 : Cond.methodLink RX12 381 yX12_in ∈ xbig := xbt9 227 (by decide +kernel) (by decide +kernel)
theorem ms184 : Cond.static yX12_in ∈ xbig := xbt9 228 (by decide +kernel) (by decide +kernel)
theorem cmX12_381 {v0 : Int32} {v1 : Int32} {v2 : Int32} {f : Int32 → Mem → XA} (hm : mt.1.cls = RX12) (hs : XSnd l xmt rec d) (h8 : st.length ≤ 4) (hd : decode mt.2.1 pc = .ok (.invokestatic 381, 3)) (k : ∀ x M1, Xe S G K l mt d (pc + 3) lo (.int x :: st) M1 (f x M1)) : Xe S G K l mt d pc lo (.int v2 :: .int v1 :: .int v0 :: st) M (cI (rec 184 [.int v0, .int v1, .int v2] M) f) := x_callS_I hs xq184 xm184 rfl (by rw [hm]; exact lmX12_381) ms184 rfl rfl h8 hd k
theorem lmX12_385 : Cond.methodLink RX12 385 yJ0_length_8abf5 ∈ xbig := xbt7 197 (by decide +kernel) (by decide +kernel)
theorem cmX12_385 {r : Option Nat} {f : Int32 → Mem → XA} (hm : mt.1.cls = RX12) (hs : XSnd l xmt rec d) (h8 : st.length ≤ 4) (hd : decode mt.2.1 pc = .ok (.invokevirtual 385, 3)) (k : ∀ x M1, Xe S G K l mt d (pc + 3) lo (.int x :: st) M1 (f x M1)) : Xe S G K l mt d pc lo (va_rf r :: st) M (vS r (cI (rec 320 ([va_rf r]) M) f)) := x_callVs_I hs xq320 xm320 rfl rfl (by rw [hm]; exact lmX12_385) mi320 mse320 rfl rfl h8 hd k
theorem lmX12_391 : Cond.methodLink RX12 391 yJ0_charAt_5068e ∈ xbig := xbt7 198 (by decide +kernel) (by decide +kernel)
theorem cmX12_391 {r : Option Nat} {v0 : Int32} {f : Int32 → Mem → XA} (hm : mt.1.cls = RX12) (hs : XSnd l xmt rec d) (h8 : st.length ≤ 4) (hd : decode mt.2.1 pc = .ok (.invokevirtual 391, 3)) (k : ∀ x M1, Xe S G K l mt d (pc + 3) lo (.int x :: st) M1 (f x M1)) : Xe S G K l mt d pc lo (.int v0 :: va_rf r :: st) M (vS r (cI (rec 321 ([va_rf r, .int v0]) M) f)) := x_callVs_I hs xq321 xm321 rfl rfl (by rw [hm]; exact lmX12_391) mi321 mse321 rfl rfl h8 hd k
theorem xm190 : XMi (yX12_at, cX12_at, 2, some .int) 1 := ⟨xbt10 1 rfl (by decide +kernel), xbt1 15 (by decide +kernel) (by decide +kernel), by decide +kernel, by decide +kernel, by decide, by decide +kernel⟩
theorem xq190 : xmt 190 = (yX12_at, cX12_at, 2, some .int) := rfl
theorem lmX12_401 : Cond.methodLink RX12 401 yX12_at ∈ xbig := xbt9 238 (by decide +kernel) (by decide +kernel)
theorem mi190 : Cond.instanceMethod yX12_at ∈ xbig := xbt10 0 (by decide +kernel) (by decide +kernel)
theorem mse190 : Cond.selects RX12 yX12_at yX12_at ∈ xbig := xb_mem 91 (by decide +kernel) (by decide +kernel)
theorem cmX12_401 {r : Option Nat} {v0 : Int32} {f : Int32 → Mem → XA} (hm : mt.1.cls = RX12) (hs : XSnd l xmt rec d) (h8 : st.length ≤ 4) (hd : decode mt.2.1 pc = .ok (.invokevirtual 401, 3)) (k : ∀ x M1, Xe S G K l mt d (pc + 3) lo (.int x :: st) M1 (f x M1)) : Xe S G K l mt d pc lo (.int v0 :: va_rf r :: st) M (vC (13, 157) M r (cI (rec 190 ([va_rf r, .int v0]) M) f)) := x_callV_I hs xq190 xm190 xci13 rfl (by rw [hm]; exact lmX12_401) mi190 mse190 rfl rfl h8 hd k
theorem xm188 : XMi (yX12_isLetter, cX12_isLetter, 1, some .boolean) 1 := ⟨xbt10 4 rfl (by decide +kernel), xbt1 15 (by decide +kernel) (by decide +kernel), by decide +kernel, by decide +kernel, by decide, by decide +kernel⟩
theorem xq188 : xmt 188 = (yX12_isLetter, cX12_isLetter, 1, some .boolean) := rfl
theorem lmX12_411 : Cond.methodLink RX12 411 yX12_isLetter ∈ xbig := xbt10 2 (by decide +kernel) (by decide +kernel)
theorem ms188 : Cond.static yX12_isLetter ∈ xbig := xbt10 3 (by decide +kernel) (by decide +kernel)
theorem cmX12_411 {v0 : Int32} {f : Int32 → Mem → XA} (hm : mt.1.cls = RX12) (hs : XSnd l xmt rec d) (h8 : st.length ≤ 4) (hd : decode mt.2.1 pc = .ok (.invokestatic 411, 3)) (k : ∀ x M1, Xe S G K l mt d (pc + 3) lo (.int x :: st) M1 (f x M1)) : Xe S G K l mt d pc lo (.int v0 :: st) M (cI (rec 188 [.int v0] M) f) := x_callS_I hs xq188 xm188 rfl (by rw [hm]; exact lmX12_411) ms188 rfl rfl h8 hd k
theorem xm189 : XMi (yX12_isDigit, cX12_isDigit, 1, some .boolean) 1 := ⟨xbt10 7 rfl (by decide +kernel), xbt1 15 (by decide +kernel) (by decide +kernel), by decide +kernel, by decide +kernel, by decide, by decide +kernel⟩
theorem xq189 : xmt 189 = (yX12_isDigit, cX12_isDigit, 1, some .boolean) := rfl
theorem lmX12_419 : Cond.methodLink RX12 419 yX12_isDigit ∈ xbig := xbt10 5 (by decide +kernel) (by decide +kernel)
theorem ms189 : Cond.static yX12_isDigit ∈ xbig := xbt10 6 (by decide +kernel) (by decide +kernel)
theorem cmX12_419 {v0 : Int32} {f : Int32 → Mem → XA} (hm : mt.1.cls = RX12) (hs : XSnd l xmt rec d) (h8 : st.length ≤ 4) (hd : decode mt.2.1 pc = .ok (.invokestatic 419, 3)) (k : ∀ x M1, Xe S G K l mt d (pc + 3) lo (.int x :: st) M1 (f x M1)) : Xe S G K l mt d pc lo (.int v0 :: st) M (cI (rec 189 [.int v0] M) f) := x_callS_I hs xq189 xm189 rfl (by rw [hm]; exact lmX12_419) ms189 rfl rfl h8 hd k
theorem xm192 : XMi (yX12_fail, cX12_fail, 3, none) 2 := ⟨xbt10 15 rfl (by decide +kernel), xbt1 15 (by decide +kernel) (by decide +kernel), by decide +kernel, by decide +kernel, by decide, by decide +kernel⟩
theorem xq192 : xmt 192 = (yX12_fail, cX12_fail, 3, none) := rfl
theorem lmX12_428 : Cond.methodLink RX12 428 yX12_fail ∈ xbig := xbt10 12 (by decide +kernel) (by decide +kernel)
theorem mi192 : Cond.instanceMethod yX12_fail ∈ xbig := xbt10 14 (by decide +kernel) (by decide +kernel)
theorem mse192 : Cond.selects RX12 yX12_fail yX12_fail ∈ xbig := xb_mem 93 (by decide +kernel) (by decide +kernel)
theorem cmX12_428 {r : Option Nat} {v0 : Int32} {v1 : Int32} {f : Mem → XA} (hm : mt.1.cls = RX12) (hs : XSnd l xmt rec d) (h8 : st.length ≤ 4) (hd : decode mt.2.1 pc = .ok (.invokevirtual 428, 3)) (k : ∀ M1, Xe S G K l mt d (pc + 3) lo st M1 (f M1)) : Xe S G K l mt d pc lo (.int v1 :: .int v0 :: va_rf r :: st) M (vC (13, 157) M r (cV (rec 192 ([va_rf r, .int v0, .int v1]) M) f)) := x_callV_V hs xq192 xm192 xci13 rfl (by rw [hm]; exact lmX12_428) mi192 mse192 rfl rfl h8 hd k
theorem xm193 : XMi (yX12_must, cX12_must, 2, some .boolean) 1 := ⟨xbt10 11 rfl (by decide +kernel), xbt1 15 (by decide +kernel) (by decide +kernel), by decide +kernel, by decide +kernel, by decide, by decide +kernel⟩
theorem xq193 : xmt 193 = (yX12_must, cX12_must, 2, some .boolean) := rfl
theorem lmX12_432 : Cond.methodLink RX12 432 yX12_must ∈ xbig := xbt10 8 (by decide +kernel) (by decide +kernel)
theorem mi193 : Cond.instanceMethod yX12_must ∈ xbig := xbt10 10 (by decide +kernel) (by decide +kernel)
theorem mse193 : Cond.selects RX12 yX12_must yX12_must ∈ xbig := xb_mem 92 (by decide +kernel) (by decide +kernel)
theorem cmX12_432 {r : Option Nat} {v0 : Int32} {f : Int32 → Mem → XA} (hm : mt.1.cls = RX12) (hs : XSnd l xmt rec d) (h8 : st.length ≤ 4) (hd : decode mt.2.1 pc = .ok (.invokevirtual 432, 3)) (k : ∀ x M1, Xe S G K l mt d (pc + 3) lo (.int x :: st) M1 (f x M1)) : Xe S G K l mt d pc lo (.int v0 :: va_rf r :: st) M (vC (13, 157) M r (cI (rec 193 ([va_rf r, .int v0]) M) f)) := x_callV_I hs xq193 xm193 xci13 rfl (by rw [hm]; exact lmX12_432) mi193 mse193 rfl rfl h8 hd k
theorem xm191 : XMi (yX12_next, cX12_next, 3, none) 0 := ⟨xbt9 237 rfl (by decide +kernel), xbt1 15 (by decide +kernel) (by decide +kernel), by decide +kernel, by decide +kernel, by decide, by decide +kernel⟩
theorem xq191 : xmt 191 = (yX12_next, cX12_next, 3, none) := rfl
theorem lmX12_436 : Cond.methodLink RX12 436 yX12_next ∈ xbig := xbt9 234 (by decide +kernel) (by decide +kernel)
theorem mi191 : Cond.instanceMethod yX12_next ∈ xbig := xbt9 236 (by decide +kernel) (by decide +kernel)
theorem mse191 : Cond.selects RX12 yX12_next yX12_next ∈ xbig := xb_mem 90 (by decide +kernel) (by decide +kernel)
theorem cmX12_436 {r : Option Nat} {f : Mem → XA} (hm : mt.1.cls = RX12) (hs : XSnd l xmt rec d) (h8 : st.length ≤ 4) (hd : decode mt.2.1 pc = .ok (.invokevirtual 436, 3)) (k : ∀ M1, Xe S G K l mt d (pc + 3) lo st M1 (f M1)) : Xe S G K l mt d pc lo (va_rf r :: st) M (vC (13, 157) M r (cV (rec 191 ([va_rf r]) M) f)) := x_callV_V hs xq191 xm191 xci13 rfl (by rw [hm]; exact lmX12_436) mi191 mse191 rfl rfl h8 hd k
theorem xm197 : XMi (yX12_seenAs, cX12_seenAs, 4, some .int) 1 := ⟨xbt10 55 rfl (by decide +kernel), xbt1 15 (by decide +kernel) (by decide +kernel), by decide +kernel, by decide +kernel, by decide, by decide +kernel⟩
theorem xq197 : xmt 197 = (yX12_seenAs, cX12_seenAs, 4, some .int) := rfl
theorem lmX12_451 : Cond.methodLink RX12 451 yX12_seenAs ∈ xbig := xbt10 52 (by decide +kernel) (by decide +kernel)
theorem mi197 : Cond.instanceMethod yX12_seenAs ∈ xbig := xbt10 54 (by decide +kernel) (by decide +kernel)
theorem mse197 : Cond.selects RX12 yX12_seenAs yX12_seenAs ∈ xbig := xb_mem 103 (by decide +kernel) (by decide +kernel)
theorem cmX12_451 {r : Option Nat} {v0 : Int64} {f : Int32 → Mem → XA} (hm : mt.1.cls = RX12) (hs : XSnd l xmt rec d) (h8 : st.length ≤ 4) (hd : decode mt.2.1 pc = .ok (.invokevirtual 451, 3)) (k : ∀ x M1, Xe S G K l mt d (pc + 3) lo (.int x :: st) M1 (f x M1)) : Xe S G K l mt d pc lo (.long v0 :: va_rf r :: st) M (vC (13, 157) M r (cI (rec 197 ([va_rf r, .long v0]) M) f)) := x_callV_I hs xq197 xm197 xci13 rfl (by rw [hm]; exact lmX12_451) mi197 mse197 rfl rfl h8 hd k
theorem xm194 : XMi (yX12_want, cX12_want, 3, some .boolean) 2 := ⟨xbt10 27 rfl (by decide +kernel), xbt1 15 (by decide +kernel) (by decide +kernel), by decide +kernel, by decide +kernel, by decide, by decide +kernel⟩
theorem xq194 : xmt 194 = (yX12_want, cX12_want, 3, some .boolean) := rfl
theorem lmX12_455 : Cond.methodLink RX12 455 yX12_want ∈ xbig := xbt10 24 (by decide +kernel) (by decide +kernel)
theorem mi194 : Cond.instanceMethod yX12_want ∈ xbig := xbt10 26 (by decide +kernel) (by decide +kernel)
theorem mse194 : Cond.selects RX12 yX12_want yX12_want ∈ xbig := xb_mem 96 (by decide +kernel) (by decide +kernel)
theorem cmX12_455 {r : Option Nat} {v0 : Int32} {v1 : Int32} {f : Int32 → Mem → XA} (hm : mt.1.cls = RX12) (hs : XSnd l xmt rec d) (h8 : st.length ≤ 4) (hd : decode mt.2.1 pc = .ok (.invokevirtual 455, 3)) (k : ∀ x M1, Xe S G K l mt d (pc + 3) lo (.int x :: st) M1 (f x M1)) : Xe S G K l mt d pc lo (.int v1 :: .int v0 :: va_rf r :: st) M (vC (13, 157) M r (cI (rec 194 ([va_rf r, .int v0, .int v1]) M) f)) := x_callV_I hs xq194 xm194 xci13 rfl (by rw [hm]; exact lmX12_455) mi194 mse194 rfl rfl h8 hd k
theorem xm196 : XMi (yX12_emit, cX12_emit, 3, some .int) 2 := ⟨xbt10 95 rfl (by decide +kernel), xbt1 15 (by decide +kernel) (by decide +kernel), by decide +kernel, by decide +kernel, by decide, by decide +kernel⟩
theorem xq196 : xmt 196 = (yX12_emit, cX12_emit, 3, some .int) := rfl
theorem lmX12_465 : Cond.methodLink RX12 465 yX12_emit ∈ xbig := xbt10 92 (by decide +kernel) (by decide +kernel)
theorem mi196 : Cond.instanceMethod yX12_emit ∈ xbig := xbt10 94 (by decide +kernel) (by decide +kernel)
theorem mse196 : Cond.selects RX12 yX12_emit yX12_emit ∈ xbig := xb_mem 113 (by decide +kernel) (by decide +kernel)
theorem cmX12_465 {r : Option Nat} {v0 : Int32} {v1 : Int32} {f : Int32 → Mem → XA} (hm : mt.1.cls = RX12) (hs : XSnd l xmt rec d) (h8 : st.length ≤ 4) (hd : decode mt.2.1 pc = .ok (.invokevirtual 465, 3)) (k : ∀ x M1, Xe S G K l mt d (pc + 3) lo (.int x :: st) M1 (f x M1)) : Xe S G K l mt d pc lo (.int v1 :: .int v0 :: va_rf r :: st) M (vC (13, 157) M r (cI (rec 196 ([va_rf r, .int v0, .int v1]) M) f)) := x_callV_I hs xq196 xm196 xci13 rfl (by rw [hm]; exact lmX12_465) mi196 mse196 rfl rfl h8 hd k
theorem xm200 : XMi (yX12_opens, cX12_opens, 1, some .boolean) 0 := ⟨xbt10 71 rfl (by decide +kernel), xbt1 15 (by decide +kernel) (by decide +kernel), by decide +kernel, by decide +kernel, by decide, by decide +kernel⟩
theorem xq200 : xmt 200 = (yX12_opens, cX12_opens, 1, some .boolean) := rfl
theorem lmX12_469 : Cond.methodLink RX12 469 yX12_opens ∈ xbig := xbt10 68 (by decide +kernel) (by decide +kernel)
theorem mi200 : Cond.instanceMethod yX12_opens ∈ xbig := xbt10 70 (by decide +kernel) (by decide +kernel)
theorem mse200 : Cond.selects RX12 yX12_opens yX12_opens ∈ xbig := xb_mem 107 (by decide +kernel) (by decide +kernel)
theorem cmX12_469 {r : Option Nat} {f : Int32 → Mem → XA} (hm : mt.1.cls = RX12) (hs : XSnd l xmt rec d) (h8 : st.length ≤ 4) (hd : decode mt.2.1 pc = .ok (.invokevirtual 469, 3)) (k : ∀ x M1, Xe S G K l mt d (pc + 3) lo (.int x :: st) M1 (f x M1)) : Xe S G K l mt d pc lo (va_rf r :: st) M (vC (13, 157) M r (cI (rec 200 ([va_rf r]) M) f)) := x_callV_I hs xq200 xm200 xci13 rfl (by rw [hm]; exact lmX12_469) mi200 mse200 rfl rfl h8 hd k
theorem xm211 : XMi (yX12_expr, cX12_expr, 1, none) 0 := ⟨xbt10 83 rfl (by decide +kernel), xbt1 15 (by decide +kernel) (by decide +kernel), by decide +kernel, by decide +kernel, by decide, by decide +kernel⟩
theorem xq211 : xmt 211 = (yX12_expr, cX12_expr, 1, none) := rfl
theorem lmX12_473 : Cond.methodLink RX12 473 yX12_expr ∈ xbig := xbt10 80 (by decide +kernel) (by decide +kernel)
theorem mi211 : Cond.instanceMethod yX12_expr ∈ xbig := xbt10 82 (by decide +kernel) (by decide +kernel)
theorem mse211 : Cond.selects RX12 yX12_expr yX12_expr ∈ xbig := xb_mem 110 (by decide +kernel) (by decide +kernel)
theorem cmX12_473 {r : Option Nat} {f : Mem → XA} (hm : mt.1.cls = RX12) (hs : XSnd l xmt rec d) (h8 : st.length ≤ 4) (hd : decode mt.2.1 pc = .ok (.invokevirtual 473, 3)) (k : ∀ M1, Xe S G K l mt d (pc + 3) lo st M1 (f M1)) : Xe S G K l mt d pc lo (va_rf r :: st) M (vC (13, 157) M r (cV (rec 211 ([va_rf r]) M) f)) := x_callV_V hs xq211 xm211 xci13 rfl (by rw [hm]; exact lmX12_473) mi211 mse211 rfl rfl h8 hd k
theorem xm202 : XMi (yX12_used, cX12_used, 4, none) 3 := ⟨xbt10 123 rfl (by decide +kernel), xbt1 15 (by decide +kernel) (by decide +kernel), by decide +kernel, by decide +kernel, by decide, by decide +kernel⟩
theorem xq202 : xmt 202 = (yX12_used, cX12_used, 4, none) := rfl
theorem lmX12_476 : Cond.methodLink RX12 476 yX12_used ∈ xbig := xbt10 120 (by decide +kernel) (by decide +kernel)
theorem mi202 : Cond.instanceMethod yX12_used ∈ xbig := xbt10 122 (by decide +kernel) (by decide +kernel)
theorem mse202 : Cond.selects RX12 yX12_used yX12_used ∈ xbig := xb_mem 120 (by decide +kernel) (by decide +kernel)
theorem cmX12_476 {r : Option Nat} {v0 : Int32} {v1 : Int32} {v2 : Int32} {f : Mem → XA} (hm : mt.1.cls = RX12) (hs : XSnd l xmt rec d) (h8 : st.length ≤ 4) (hd : decode mt.2.1 pc = .ok (.invokevirtual 476, 3)) (k : ∀ M1, Xe S G K l mt d (pc + 3) lo st M1 (f M1)) : Xe S G K l mt d pc lo (.int v2 :: .int v1 :: .int v0 :: va_rf r :: st) M (vC (13, 157) M r (cV (rec 202 ([va_rf r, .int v0, .int v1, .int v2]) M) f)) := x_callV_V hs xq202 xm202 xci13 rfl (by rw [hm]; exact lmX12_476) mi202 mse202 rfl rfl h8 hd k
theorem xm201 : XMi (yX12_use, cX12_use, 2, some .int) 0 := ⟨xbt10 115 rfl (by decide +kernel), xbt1 15 (by decide +kernel) (by decide +kernel), by decide +kernel, by decide +kernel, by decide, by decide +kernel⟩
theorem xq201 : xmt 201 = (yX12_use, cX12_use, 2, some .int) := rfl
theorem lmX12_480 : Cond.methodLink RX12 480 yX12_use ∈ xbig := xbt10 112 (by decide +kernel) (by decide +kernel)
theorem mi201 : Cond.instanceMethod yX12_use ∈ xbig := xbt10 114 (by decide +kernel) (by decide +kernel)
theorem mse201 : Cond.selects RX12 yX12_use yX12_use ∈ xbig := xb_mem 118 (by decide +kernel) (by decide +kernel)
theorem cmX12_480 {r : Option Nat} {f : Int32 → Mem → XA} (hm : mt.1.cls = RX12) (hs : XSnd l xmt rec d) (h8 : st.length ≤ 4) (hd : decode mt.2.1 pc = .ok (.invokevirtual 480, 3)) (k : ∀ x M1, Xe S G K l mt d (pc + 3) lo (.int x :: st) M1 (f x M1)) : Xe S G K l mt d pc lo (va_rf r :: st) M (vC (13, 157) M r (cI (rec 201 ([va_rf r]) M) f)) := x_callV_I hs xq201 xm201 xci13 rfl (by rw [hm]; exact lmX12_480) mi201 mse201 rfl rfl h8 hd k
theorem xm204 : XMi (yX12_call, cX12_call, 4, none) 1 := ⟨xbt10 119 rfl (by decide +kernel), xbt1 15 (by decide +kernel) (by decide +kernel), by decide +kernel, by decide +kernel, by decide, by decide +kernel⟩
theorem xq204 : xmt 204 = (yX12_call, cX12_call, 4, none) := rfl
theorem lmX12_483 : Cond.methodLink RX12 483 yX12_call ∈ xbig := xbt10 116 (by decide +kernel) (by decide +kernel)
theorem mi204 : Cond.instanceMethod yX12_call ∈ xbig := xbt10 118 (by decide +kernel) (by decide +kernel)
theorem mse204 : Cond.selects RX12 yX12_call yX12_call ∈ xbig := xb_mem 119 (by decide +kernel) (by decide +kernel)
theorem cmX12_483 {r : Option Nat} {v0 : Int32} {f : Mem → XA} (hm : mt.1.cls = RX12) (hs : XSnd l xmt rec d) (h8 : st.length ≤ 4) (hd : decode mt.2.1 pc = .ok (.invokevirtual 483, 3)) (k : ∀ M1, Xe S G K l mt d (pc + 3) lo st M1 (f M1)) : Xe S G K l mt d pc lo (.int v0 :: va_rf r :: st) M (vC (13, 157) M r (cV (rec 204 ([va_rf r, .int v0]) M) f)) := x_callV_V hs xq204 xm204 xci13 rfl (by rw [hm]; exact lmX12_483) mi204 mse204 rfl rfl h8 hd k
theorem xm203 : XMi (yX12_index, cX12_index, 1, none) 0 := ⟨xbt10 127 rfl (by decide +kernel), xbt1 15 (by decide +kernel) (by decide +kernel), by decide +kernel, by decide +kernel, by decide, by decide +kernel⟩
theorem xq203 : xmt 203 = (yX12_index, cX12_index, 1, none) := rfl
theorem lmX12_487 : Cond.methodLink RX12 487 yX12_index ∈ xbig := xbt10 124 (by decide +kernel) (by decide +kernel)
theorem mi203 : Cond.instanceMethod yX12_index ∈ xbig := xbt10 126 (by decide +kernel) (by decide +kernel)
theorem mse203 : Cond.selects RX12 yX12_index yX12_index ∈ xbig := xb_mem 121 (by decide +kernel) (by decide +kernel)
theorem cmX12_487 {r : Option Nat} {f : Mem → XA} (hm : mt.1.cls = RX12) (hs : XSnd l xmt rec d) (h8 : st.length ≤ 4) (hd : decode mt.2.1 pc = .ok (.invokevirtual 487, 3)) (k : ∀ M1, Xe S G K l mt d (pc + 3) lo st M1 (f M1)) : Xe S G K l mt d pc lo (va_rf r :: st) M (vC (13, 157) M r (cV (rec 203 ([va_rf r]) M) f)) := x_callV_V hs xq203 xm203 xci13 rfl (by rw [hm]; exact lmX12_487) mi203 mse203 rfl rfl h8 hd k
theorem xm205 : XMi (yX12_value, cX12_value, 3, none) 0 := ⟨xbt10 111 rfl (by decide +kernel), xbt1 15 (by decide +kernel) (by decide +kernel), by decide +kernel, by decide +kernel, by decide, by decide +kernel⟩
theorem xq205 : xmt 205 = (yX12_value, cX12_value, 3, none) := rfl
theorem lmX12_490 : Cond.methodLink RX12 490 yX12_value ∈ xbig := xbt10 108 (by decide +kernel) (by decide +kernel)
theorem mi205 : Cond.instanceMethod yX12_value ∈ xbig := xbt10 110 (by decide +kernel) (by decide +kernel)
theorem mse205 : Cond.selects RX12 yX12_value yX12_value ∈ xbig := xb_mem 117 (by decide +kernel) (by decide +kernel)
theorem cmX12_490 {r : Option Nat} {f : Mem → XA} (hm : mt.1.cls = RX12) (hs : XSnd l xmt rec d) (h8 : st.length ≤ 4) (hd : decode mt.2.1 pc = .ok (.invokevirtual 490, 3)) (k : ∀ M1, Xe S G K l mt d (pc + 3) lo st M1 (f M1)) : Xe S G K l mt d pc lo (va_rf r :: st) M (vC (13, 157) M r (cV (rec 205 ([va_rf r]) M) f)) := x_callV_V hs xq205 xm205 xci13 rfl (by rw [hm]; exact lmX12_490) mi205 mse205 rfl rfl h8 hd k
theorem xm206 : XMi (yX12_factor, cX12_factor, 2, none) 0 := ⟨xbt10 107 rfl (by decide +kernel), xbt1 15 (by decide +kernel) (by decide +kernel), by decide +kernel, by decide +kernel, by decide, by decide +kernel⟩
theorem xq206 : xmt 206 = (yX12_factor, cX12_factor, 2, none) := rfl
theorem lmX12_493 : Cond.methodLink RX12 493 yX12_factor ∈ xbig := xbt10 104 (by decide +kernel) (by decide +kernel)
theorem mi206 : Cond.instanceMethod yX12_factor ∈ xbig := xbt10 106 (by decide +kernel) (by decide +kernel)
theorem mse206 : Cond.selects RX12 yX12_factor yX12_factor ∈ xbig := xb_mem 116 (by decide +kernel) (by decide +kernel)
theorem cmX12_493 {r : Option Nat} {f : Mem → XA} (hm : mt.1.cls = RX12) (hs : XSnd l xmt rec d) (h8 : st.length ≤ 4) (hd : decode mt.2.1 pc = .ok (.invokevirtual 493, 3)) (k : ∀ M1, Xe S G K l mt d (pc + 3) lo st M1 (f M1)) : Xe S G K l mt d pc lo (va_rf r :: st) M (vC (13, 157) M r (cV (rec 206 ([va_rf r]) M) f)) := x_callV_V hs xq206 xm206 xci13 rfl (by rw [hm]; exact lmX12_493) mi206 mse206 rfl rfl h8 hd k
theorem xm207 : XMi (yX12_product, cX12_product, 2, none) 0 := ⟨xbt10 103 rfl (by decide +kernel), xbt1 15 (by decide +kernel) (by decide +kernel), by decide +kernel, by decide +kernel, by decide, by decide +kernel⟩
theorem xq207 : xmt 207 = (yX12_product, cX12_product, 2, none) := rfl
theorem lmX12_496 : Cond.methodLink RX12 496 yX12_product ∈ xbig := xbt10 100 (by decide +kernel) (by decide +kernel)
theorem mi207 : Cond.instanceMethod yX12_product ∈ xbig := xbt10 102 (by decide +kernel) (by decide +kernel)
theorem mse207 : Cond.selects RX12 yX12_product yX12_product ∈ xbig := xb_mem 115 (by decide +kernel) (by decide +kernel)
theorem cmX12_496 {r : Option Nat} {f : Mem → XA} (hm : mt.1.cls = RX12) (hs : XSnd l xmt rec d) (h8 : st.length ≤ 4) (hd : decode mt.2.1 pc = .ok (.invokevirtual 496, 3)) (k : ∀ M1, Xe S G K l mt d (pc + 3) lo st M1 (f M1)) : Xe S G K l mt d pc lo (va_rf r :: st) M (vC (13, 157) M r (cV (rec 207 ([va_rf r]) M) f)) := x_callV_V hs xq207 xm207 xci13 rfl (by rw [hm]; exact lmX12_496) mi207 mse207 rfl rfl h8 hd k
theorem xm209 : XMi (yX12_denied, cX12_denied, 2, none) 0 := ⟨xbt10 91 rfl (by decide +kernel), xbt1 15 (by decide +kernel) (by decide +kernel), by decide +kernel, by decide +kernel, by decide, by decide +kernel⟩
theorem xq209 : xmt 209 = (yX12_denied, cX12_denied, 2, none) := rfl
theorem lmX12_499 : Cond.methodLink RX12 499 yX12_denied ∈ xbig := xbt10 88 (by decide +kernel) (by decide +kernel)
theorem mi209 : Cond.instanceMethod yX12_denied ∈ xbig := xbt10 90 (by decide +kernel) (by decide +kernel)
theorem mse209 : Cond.selects RX12 yX12_denied yX12_denied ∈ xbig := xb_mem 112 (by decide +kernel) (by decide +kernel)
theorem cmX12_499 {r : Option Nat} {f : Mem → XA} (hm : mt.1.cls = RX12) (hs : XSnd l xmt rec d) (h8 : st.length ≤ 4) (hd : decode mt.2.1 pc = .ok (.invokevirtual 499, 3)) (k : ∀ M1, Xe S G K l mt d (pc + 3) lo st M1 (f M1)) : Xe S G K l mt d pc lo (va_rf r :: st) M (vC (13, 157) M r (cV (rec 209 ([va_rf r]) M) f)) := x_callV_V hs xq209 xm209 xci13 rfl (by rw [hm]; exact lmX12_499) mi209 mse209 rfl rfl h8 hd k
theorem xm208 : XMi (yX12_sum, cX12_sum, 2, none) 0 := ⟨xbt10 99 rfl (by decide +kernel), xbt1 15 (by decide +kernel) (by decide +kernel), by decide +kernel, by decide +kernel, by decide, by decide +kernel⟩
theorem xq208 : xmt 208 = (yX12_sum, cX12_sum, 2, none) := rfl
theorem lmX12_502 : Cond.methodLink RX12 502 yX12_sum ∈ xbig := xbt10 96 (by decide +kernel) (by decide +kernel)
theorem mi208 : Cond.instanceMethod yX12_sum ∈ xbig := xbt10 98 (by decide +kernel) (by decide +kernel)
theorem mse208 : Cond.selects RX12 yX12_sum yX12_sum ∈ xbig := xb_mem 114 (by decide +kernel) (by decide +kernel)
theorem cmX12_502 {r : Option Nat} {f : Mem → XA} (hm : mt.1.cls = RX12) (hs : XSnd l xmt rec d) (h8 : st.length ≤ 4) (hd : decode mt.2.1 pc = .ok (.invokevirtual 502, 3)) (k : ∀ M1, Xe S G K l mt d (pc + 3) lo st M1 (f M1)) : Xe S G K l mt d pc lo (va_rf r :: st) M (vC (13, 157) M r (cV (rec 208 ([va_rf r]) M) f)) := x_callV_V hs xq208 xm208 xci13 rfl (by rw [hm]; exact lmX12_502) mi208 mse208 rfl rfl h8 hd k
theorem xm210 : XMi (yX12_both, cX12_both, 1, none) 0 := ⟨xbt10 87 rfl (by decide +kernel), xbt1 15 (by decide +kernel) (by decide +kernel), by decide +kernel, by decide +kernel, by decide, by decide +kernel⟩
theorem xq210 : xmt 210 = (yX12_both, cX12_both, 1, none) := rfl
theorem lmX12_505 : Cond.methodLink RX12 505 yX12_both ∈ xbig := xbt10 84 (by decide +kernel) (by decide +kernel)
theorem mi210 : Cond.instanceMethod yX12_both ∈ xbig := xbt10 86 (by decide +kernel) (by decide +kernel)
theorem mse210 : Cond.selects RX12 yX12_both yX12_both ∈ xbig := xb_mem 111 (by decide +kernel) (by decide +kernel)
theorem cmX12_505 {r : Option Nat} {f : Mem → XA} (hm : mt.1.cls = RX12) (hs : XSnd l xmt rec d) (h8 : st.length ≤ 4) (hd : decode mt.2.1 pc = .ok (.invokevirtual 505, 3)) (k : ∀ M1, Xe S G K l mt d (pc + 3) lo st M1 (f M1)) : Xe S G K l mt d pc lo (va_rf r :: st) M (vC (13, 157) M r (cV (rec 210 ([va_rf r]) M) f)) := x_callV_V hs xq210 xm210 xci13 rfl (by rw [hm]; exact lmX12_505) mi210 mse210 rfl rfl h8 hd k
theorem xm214 : XMi (yX12_statement, cX12_statement, 4, none) 0 := ⟨xbt10 75 rfl (by decide +kernel), xbt1 15 (by decide +kernel) (by decide +kernel), by decide +kernel, by decide +kernel, by decide, by decide +kernel⟩
theorem xq214 : xmt 214 = (yX12_statement, cX12_statement, 4, none) := rfl
theorem lmX12_508 : Cond.methodLink RX12 508 yX12_statement ∈ xbig := xbt10 72 (by decide +kernel) (by decide +kernel)
theorem mi214 : Cond.instanceMethod yX12_statement ∈ xbig := xbt10 74 (by decide +kernel) (by decide +kernel)
theorem mse214 : Cond.selects RX12 yX12_statement yX12_statement ∈ xbig := xb_mem 108 (by decide +kernel) (by decide +kernel)
theorem cmX12_508 {r : Option Nat} {f : Mem → XA} (hm : mt.1.cls = RX12) (hs : XSnd l xmt rec d) (h8 : st.length ≤ 4) (hd : decode mt.2.1 pc = .ok (.invokevirtual 508, 3)) (k : ∀ M1, Xe S G K l mt d (pc + 3) lo st M1 (f M1)) : Xe S G K l mt d pc lo (va_rf r :: st) M (vC (13, 157) M r (cV (rec 214 ([va_rf r]) M) f)) := x_callV_V hs xq214 xm214 xci13 rfl (by rw [hm]; exact lmX12_508) mi214 mse214 rfl rfl h8 hd k
theorem xm212 : XMi (yX12_block, cX12_block, 2, none) 0 := ⟨xbt10 67 rfl (by decide +kernel), xbt1 15 (by decide +kernel) (by decide +kernel), by decide +kernel, by decide +kernel, by decide, by decide +kernel⟩
theorem xq212 : xmt 212 = (yX12_block, cX12_block, 2, none) := rfl
theorem lmX12_511 : Cond.methodLink RX12 511 yX12_block ∈ xbig := xbt10 64 (by decide +kernel) (by decide +kernel)
theorem mi212 : Cond.instanceMethod yX12_block ∈ xbig := xbt10 66 (by decide +kernel) (by decide +kernel)
theorem mse212 : Cond.selects RX12 yX12_block yX12_block ∈ xbig := xb_mem 106 (by decide +kernel) (by decide +kernel)
theorem cmX12_511 {r : Option Nat} {f : Mem → XA} (hm : mt.1.cls = RX12) (hs : XSnd l xmt rec d) (h8 : st.length ≤ 4) (hd : decode mt.2.1 pc = .ok (.invokevirtual 511, 3)) (k : ∀ M1, Xe S G K l mt d (pc + 3) lo st M1 (f M1)) : Xe S G K l mt d pc lo (va_rf r :: st) M (vC (13, 157) M r (cV (rec 212 ([va_rf r]) M) f)) := x_callV_V hs xq212 xm212 xci13 rfl (by rw [hm]; exact lmX12_511) mi212 mse212 rfl rfl h8 hd k
theorem xm198 : XMi (yX12_mayBeSeen, cX12_mayBeSeen, 1, some .boolean) 0 := ⟨xbt10 79 rfl (by decide +kernel), xbt1 15 (by decide +kernel) (by decide +kernel), by decide +kernel, by decide +kernel, by decide, by decide +kernel⟩
theorem xq198 : xmt 198 = (yX12_mayBeSeen, cX12_mayBeSeen, 1, some .boolean) := rfl
theorem lmX12_514 : Cond.methodLink RX12 514 yX12_mayBeSeen ∈ xbig := xbt10 76 (by decide +kernel) (by decide +kernel)
theorem mi198 : Cond.instanceMethod yX12_mayBeSeen ∈ xbig := xbt10 78 (by decide +kernel) (by decide +kernel)
theorem mse198 : Cond.selects RX12 yX12_mayBeSeen yX12_mayBeSeen ∈ xbig := xb_mem 109 (by decide +kernel) (by decide +kernel)
theorem cmX12_514 {r : Option Nat} {f : Int32 → Mem → XA} (hm : mt.1.cls = RX12) (hs : XSnd l xmt rec d) (h8 : st.length ≤ 4) (hd : decode mt.2.1 pc = .ok (.invokevirtual 514, 3)) (k : ∀ x M1, Xe S G K l mt d (pc + 3) lo (.int x :: st) M1 (f x M1)) : Xe S G K l mt d pc lo (va_rf r :: st) M (vC (13, 157) M r (cI (rec 198 ([va_rf r]) M) f)) := x_callV_I hs xq198 xm198 xci13 rfl (by rw [hm]; exact lmX12_514) mi198 mse198 rfl rfl h8 hd k
theorem xm195 : XMi (yX12_need, cX12_need, 2, some .boolean) 1 := ⟨xbt10 31 rfl (by decide +kernel), xbt1 15 (by decide +kernel) (by decide +kernel), by decide +kernel, by decide +kernel, by decide, by decide +kernel⟩
theorem xq195 : xmt 195 = (yX12_need, cX12_need, 2, some .boolean) := rfl
theorem lmX12_517 : Cond.methodLink RX12 517 yX12_need ∈ xbig := xbt10 28 (by decide +kernel) (by decide +kernel)
theorem mi195 : Cond.instanceMethod yX12_need ∈ xbig := xbt10 30 (by decide +kernel) (by decide +kernel)
theorem mse195 : Cond.selects RX12 yX12_need yX12_need ∈ xbig := xb_mem 97 (by decide +kernel) (by decide +kernel)
theorem cmX12_517 {r : Option Nat} {v0 : Int32} {f : Int32 → Mem → XA} (hm : mt.1.cls = RX12) (hs : XSnd l xmt rec d) (h8 : st.length ≤ 4) (hd : decode mt.2.1 pc = .ok (.invokevirtual 517, 3)) (k : ∀ x M1, Xe S G K l mt d (pc + 3) lo (.int x :: st) M1 (f x M1)) : Xe S G K l mt d pc lo (.int v0 :: va_rf r :: st) M (vC (13, 157) M r (cI (rec 195 ([va_rf r, .int v0]) M) f)) := x_callV_I hs xq195 xm195 xci13 rfl (by rw [hm]; exact lmX12_517) mi195 mse195 rfl rfl h8 hd k
theorem xm199 : XMi (yX12_see, cX12_see, 3, none) 1 := ⟨xbt10 59 rfl (by decide +kernel), xbt1 15 (by decide +kernel) (by decide +kernel), by decide +kernel, by decide +kernel, by decide, by decide +kernel⟩
theorem xq199 : xmt 199 = (yX12_see, cX12_see, 3, none) := rfl
theorem lmX12_520 : Cond.methodLink RX12 520 yX12_see ∈ xbig := xbt10 56 (by decide +kernel) (by decide +kernel)
theorem mi199 : Cond.instanceMethod yX12_see ∈ xbig := xbt10 58 (by decide +kernel) (by decide +kernel)
theorem mse199 : Cond.selects RX12 yX12_see yX12_see ∈ xbig := xb_mem 104 (by decide +kernel) (by decide +kernel)
theorem cmX12_520 {r : Option Nat} {v0 : Int64} {f : Mem → XA} (hm : mt.1.cls = RX12) (hs : XSnd l xmt rec d) (h8 : st.length ≤ 4) (hd : decode mt.2.1 pc = .ok (.invokevirtual 520, 3)) (k : ∀ M1, Xe S G K l mt d (pc + 3) lo st M1 (f M1)) : Xe S G K l mt d pc lo (.long v0 :: va_rf r :: st) M (vC (13, 157) M r (cV (rec 199 ([va_rf r, .long v0]) M) f)) := x_callV_V hs xq199 xm199 xci13 rfl (by rw [hm]; exact lmX12_520) mi199 mse199 rfl rfl h8 hd k
theorem xm215 : XMi (yX12_choice, cX12_choice, 3, none) 0 := ⟨xbt10 131 rfl (by decide +kernel), xbt1 15 (by decide +kernel) (by decide +kernel), by decide +kernel, by decide +kernel, by decide, by decide +kernel⟩
theorem xq215 : xmt 215 = (yX12_choice, cX12_choice, 3, none) := rfl
theorem lmX12_524 : Cond.methodLink RX12 524 yX12_choice ∈ xbig := xbt10 128 (by decide +kernel) (by decide +kernel)
theorem mi215 : Cond.instanceMethod yX12_choice ∈ xbig := xbt10 130 (by decide +kernel) (by decide +kernel)
theorem mse215 : Cond.selects RX12 yX12_choice yX12_choice ∈ xbig := xb_mem 122 (by decide +kernel) (by decide +kernel)
theorem cmX12_524 {r : Option Nat} {f : Mem → XA} (hm : mt.1.cls = RX12) (hs : XSnd l xmt rec d) (h8 : st.length ≤ 4) (hd : decode mt.2.1 pc = .ok (.invokevirtual 524, 3)) (k : ∀ M1, Xe S G K l mt d (pc + 3) lo st M1 (f M1)) : Xe S G K l mt d pc lo (va_rf r :: st) M (vC (13, 157) M r (cV (rec 215 ([va_rf r]) M) f)) := x_callV_V hs xq215 xm215 xci13 rfl (by rw [hm]; exact lmX12_524) mi215 mse215 rfl rfl h8 hd k
theorem xm213 : XMi (yX12_inner, cX12_inner, 1, none) 0 := ⟨xbt10 135 rfl (by decide +kernel), xbt1 15 (by decide +kernel) (by decide +kernel), by decide +kernel, by decide +kernel, by decide, by decide +kernel⟩
theorem xq213 : xmt 213 = (yX12_inner, cX12_inner, 1, none) := rfl
theorem lmX12_527 : Cond.methodLink RX12 527 yX12_inner ∈ xbig := xbt10 132 (by decide +kernel) (by decide +kernel)
theorem mi213 : Cond.instanceMethod yX12_inner ∈ xbig := xbt10 134 (by decide +kernel) (by decide +kernel)
theorem mse213 : Cond.selects RX12 yX12_inner yX12_inner ∈ xbig := xb_mem 123 (by decide +kernel) (by decide +kernel)
theorem cmX12_527 {r : Option Nat} {f : Mem → XA} (hm : mt.1.cls = RX12) (hs : XSnd l xmt rec d) (h8 : st.length ≤ 4) (hd : decode mt.2.1 pc = .ok (.invokevirtual 527, 3)) (k : ∀ M1, Xe S G K l mt d (pc + 3) lo st M1 (f M1)) : Xe S G K l mt d pc lo (va_rf r :: st) M (vC (13, 157) M r (cV (rec 213 ([va_rf r]) M) f)) := x_callV_V hs xq213 xm213 xci13 rfl (by rw [hm]; exact lmX12_527) mi213 mse213 rfl rfl h8 hd k
theorem xm216 : XMi (yX12_tryOne, cX12_tryOne, 3, none) 0 := ⟨xbt10 139 rfl (by decide +kernel), xbt1 15 (by decide +kernel) (by decide +kernel), by decide +kernel, by decide +kernel, by decide, by decide +kernel⟩
theorem xq216 : xmt 216 = (yX12_tryOne, cX12_tryOne, 3, none) := rfl
theorem lmX12_530 : Cond.methodLink RX12 530 yX12_tryOne ∈ xbig := xbt10 136 (by decide +kernel) (by decide +kernel)
theorem mi216 : Cond.instanceMethod yX12_tryOne ∈ xbig := xbt10 138 (by decide +kernel) (by decide +kernel)
theorem mse216 : Cond.selects RX12 yX12_tryOne yX12_tryOne ∈ xbig := xb_mem 124 (by decide +kernel) (by decide +kernel)
theorem cmX12_530 {r : Option Nat} {f : Mem → XA} (hm : mt.1.cls = RX12) (hs : XSnd l xmt rec d) (h8 : st.length ≤ 4) (hd : decode mt.2.1 pc = .ok (.invokevirtual 530, 3)) (k : ∀ M1, Xe S G K l mt d (pc + 3) lo st M1 (f M1)) : Xe S G K l mt d pc lo (va_rf r :: st) M (vC (13, 157) M r (cV (rec 216 ([va_rf r]) M) f)) := x_callV_V hs xq216 xm216 xci13 rfl (by rw [hm]; exact lmX12_530) mi216 mse216 rfl rfl h8 hd k
theorem xm217 : XMi (yX12_given, cX12_given, 3, none) 0 := ⟨xbt10 143 rfl (by decide +kernel), xbt1 15 (by decide +kernel) (by decide +kernel), by decide +kernel, by decide +kernel, by decide, by decide +kernel⟩
theorem xq217 : xmt 217 = (yX12_given, cX12_given, 3, none) := rfl
theorem lmX12_533 : Cond.methodLink RX12 533 yX12_given ∈ xbig := xbt10 140 (by decide +kernel) (by decide +kernel)
theorem mi217 : Cond.instanceMethod yX12_given ∈ xbig := xbt10 142 (by decide +kernel) (by decide +kernel)
theorem mse217 : Cond.selects RX12 yX12_given yX12_given ∈ xbig := xb_mem 125 (by decide +kernel) (by decide +kernel)
theorem cmX12_533 {r : Option Nat} {f : Mem → XA} (hm : mt.1.cls = RX12) (hs : XSnd l xmt rec d) (h8 : st.length ≤ 4) (hd : decode mt.2.1 pc = .ok (.invokevirtual 533, 3)) (k : ∀ M1, Xe S G K l mt d (pc + 3) lo st M1 (f M1)) : Xe S G K l mt d pc lo (va_rf r :: st) M (vC (13, 157) M r (cV (rec 217 ([va_rf r]) M) f)) := x_callV_V hs xq217 xm217 xci13 rfl (by rw [hm]; exact lmX12_533) mi217 mse217 rfl rfl h8 hd k
theorem xm222 : XMi (yX12_thing, cX12_thing, 5, none) 2 := ⟨xbt10 39 rfl (by decide +kernel), xbt1 15 (by decide +kernel) (by decide +kernel), by decide +kernel, by decide +kernel, by decide, by decide +kernel⟩
theorem xq222 : xmt 222 = (yX12_thing, cX12_thing, 5, none) := rfl
theorem lmX12_539 : Cond.methodLink RX12 539 yX12_thing ∈ xbig := xbt10 36 (by decide +kernel) (by decide +kernel)
theorem mi222 : Cond.instanceMethod yX12_thing ∈ xbig := xbt10 38 (by decide +kernel) (by decide +kernel)
theorem mse222 : Cond.selects RX12 yX12_thing yX12_thing ∈ xbig := xb_mem 99 (by decide +kernel) (by decide +kernel)
theorem cmX12_539 {r : Option Nat} {v0 : Int32} {v1 : Int32} {f : Mem → XA} (hm : mt.1.cls = RX12) (hs : XSnd l xmt rec d) (h8 : st.length ≤ 4) (hd : decode mt.2.1 pc = .ok (.invokevirtual 539, 3)) (k : ∀ M1, Xe S G K l mt d (pc + 3) lo st M1 (f M1)) : Xe S G K l mt d pc lo (.int v1 :: .int v0 :: va_rf r :: st) M (vC (13, 157) M r (cV (rec 222 ([va_rf r, .int v0, .int v1]) M) f)) := x_callV_V hs xq222 xm222 xci13 rfl (by rw [hm]; exact lmX12_539) mi222 mse222 rfl rfl h8 hd k
theorem xm218 : XMi (yX12_code, cX12_code, 3, some .int) 1 := ⟨xbt10 63 rfl (by decide +kernel), xbt1 15 (by decide +kernel) (by decide +kernel), by decide +kernel, by decide +kernel, by decide, by decide +kernel⟩
theorem xq218 : xmt 218 = (yX12_code, cX12_code, 3, some .int) := rfl
theorem lmX12_543 : Cond.methodLink RX12 543 yX12_code ∈ xbig := xbt10 60 (by decide +kernel) (by decide +kernel)
theorem mi218 : Cond.instanceMethod yX12_code ∈ xbig := xbt10 62 (by decide +kernel) (by decide +kernel)
theorem mse218 : Cond.selects RX12 yX12_code yX12_code ∈ xbig := xb_mem 105 (by decide +kernel) (by decide +kernel)
theorem cmX12_543 {r : Option Nat} {v0 : Int32} {f : Int32 → Mem → XA} (hm : mt.1.cls = RX12) (hs : XSnd l xmt rec d) (h8 : st.length ≤ 4) (hd : decode mt.2.1 pc = .ok (.invokevirtual 543, 3)) (k : ∀ x M1, Xe S G K l mt d (pc + 3) lo (.int x :: st) M1 (f x M1)) : Xe S G K l mt d pc lo (.int v0 :: va_rf r :: st) M (vC (13, 157) M r (cI (rec 218 ([va_rf r, .int v0]) M) f)) := x_callV_I hs xq218 xm218 xci13 rfl (by rw [hm]; exact lmX12_543) mi218 mse218 rfl rfl h8 hd k
theorem xm225 : XMi (yX12_test, cX12_test, 9, none) 1 := ⟨xbt10 147 rfl (by decide +kernel), xbt1 15 (by decide +kernel) (by decide +kernel), by decide +kernel, by decide +kernel, by decide, by decide +kernel⟩
theorem xq225 : xmt 225 = (yX12_test, cX12_test, 9, none) := rfl
theorem lmX12_547 : Cond.methodLink RX12 547 yX12_test ∈ xbig := xbt10 144 (by decide +kernel) (by decide +kernel)
theorem mi225 : Cond.instanceMethod yX12_test ∈ xbig := xbt10 146 (by decide +kernel) (by decide +kernel)
theorem mse225 : Cond.selects RX12 yX12_test yX12_test ∈ xbig := xb_mem 126 (by decide +kernel) (by decide +kernel)
theorem cmX12_547 {r : Option Nat} {v0 : Int32} {f : Mem → XA} (hm : mt.1.cls = RX12) (hs : XSnd l xmt rec d) (h8 : st.length ≤ 4) (hd : decode mt.2.1 pc = .ok (.invokevirtual 547, 3)) (k : ∀ M1, Xe S G K l mt d (pc + 3) lo st M1 (f M1)) : Xe S G K l mt d pc lo (.int v0 :: va_rf r :: st) M (vC (13, 157) M r (cV (rec 225 ([va_rf r, .int v0]) M) f)) := x_callV_V hs xq225 xm225 xci13 rfl (by rw [hm]; exact lmX12_547) mi225 mse225 rfl rfl h8 hd k
theorem xm226 : XMi (yX12_prop, cX12_prop, 3, none) 1 := ⟨xbt10 157 rfl (by decide +kernel), xbt1 15 (by decide +kernel) (by decide +kernel), by decide +kernel, by decide +kernel, by decide, by decide +kernel⟩
theorem xq226 : xmt 226 = (yX12_prop, cX12_prop, 3, none) := rfl
theorem lmX12_549 : Cond.methodLink RX12 549 yX12_prop ∈ xbig := xbt10 154 (by decide +kernel) (by decide +kernel)
theorem mi226 : Cond.instanceMethod yX12_prop ∈ xbig := xbt10 156 (by decide +kernel) (by decide +kernel)
theorem mse226 : Cond.selects RX12 yX12_prop yX12_prop ∈ xbig := xb_mem 128 (by decide +kernel) (by decide +kernel)
theorem cmX12_549 {r : Option Nat} {v0 : Int32} {f : Mem → XA} (hm : mt.1.cls = RX12) (hs : XSnd l xmt rec d) (h8 : st.length ≤ 4) (hd : decode mt.2.1 pc = .ok (.invokevirtual 549, 3)) (k : ∀ M1, Xe S G K l mt d (pc + 3) lo st M1 (f M1)) : Xe S G K l mt d pc lo (.int v0 :: va_rf r :: st) M (vC (13, 157) M r (cV (rec 226 ([va_rf r, .int v0]) M) f)) := x_callV_V hs xq226 xm226 xci13 rfl (by rw [hm]; exact lmX12_549) mi226 mse226 rfl rfl h8 hd k
theorem xm220 : XMi (yX12_isTold, cX12_isTold, 5, some .boolean) 2 := ⟨xbt10 43 rfl (by decide +kernel), xbt1 15 (by decide +kernel) (by decide +kernel), by decide +kernel, by decide +kernel, by decide, by decide +kernel⟩
theorem xq220 : xmt 220 = (yX12_isTold, cX12_isTold, 5, some .boolean) := rfl
theorem lmX12_551 : Cond.methodLink RX12 551 yX12_isTold ∈ xbig := xbt10 40 (by decide +kernel) (by decide +kernel)
theorem mi220 : Cond.instanceMethod yX12_isTold ∈ xbig := xbt10 42 (by decide +kernel) (by decide +kernel)
theorem mse220 : Cond.selects RX12 yX12_isTold yX12_isTold ∈ xbig := xb_mem 100 (by decide +kernel) (by decide +kernel)
theorem cmX12_551 {r : Option Nat} {v0 : Int32} {v1 : Int64} {f : Int32 → Mem → XA} (hm : mt.1.cls = RX12) (hs : XSnd l xmt rec d) (h8 : st.length ≤ 4) (hd : decode mt.2.1 pc = .ok (.invokevirtual 551, 3)) (k : ∀ x M1, Xe S G K l mt d (pc + 3) lo (.int x :: st) M1 (f x M1)) : Xe S G K l mt d pc lo (.long v1 :: .int v0 :: va_rf r :: st) M (vC (13, 157) M r (cI (rec 220 ([va_rf r, .int v0, .long v1]) M) f)) := x_callV_I hs xq220 xm220 xci13 rfl (by rw [hm]; exact lmX12_551) mi220 mse220 rfl rfl h8 hd k
theorem xm219 : XMi (yX12_signed, cX12_signed, 2, none) 0 := ⟨xbt10 47 rfl (by decide +kernel), xbt1 15 (by decide +kernel) (by decide +kernel), by decide +kernel, by decide +kernel, by decide, by decide +kernel⟩
theorem xq219 : xmt 219 = (yX12_signed, cX12_signed, 2, none) := rfl
theorem lmX12_558 : Cond.methodLink RX12 558 yX12_signed ∈ xbig := xbt10 44 (by decide +kernel) (by decide +kernel)
theorem mi219 : Cond.instanceMethod yX12_signed ∈ xbig := xbt10 46 (by decide +kernel) (by decide +kernel)
theorem mse219 : Cond.selects RX12 yX12_signed yX12_signed ∈ xbig := xb_mem 101 (by decide +kernel) (by decide +kernel)
theorem cmX12_558 {r : Option Nat} {f : Mem → XA} (hm : mt.1.cls = RX12) (hs : XSnd l xmt rec d) (h8 : st.length ≤ 4) (hd : decode mt.2.1 pc = .ok (.invokevirtual 558, 3)) (k : ∀ M1, Xe S G K l mt d (pc + 3) lo st M1 (f M1)) : Xe S G K l mt d pc lo (va_rf r :: st) M (vC (13, 157) M r (cV (rec 219 ([va_rf r]) M) f)) := x_callV_V hs xq219 xm219 xci13 rfl (by rw [hm]; exact lmX12_558) mi219 mse219 rfl rfl h8 hd k
theorem xm223 : XMi (yX12_parameters, cX12_parameters, 2, none) 0 := ⟨xbt10 51 rfl (by decide +kernel), xbt1 15 (by decide +kernel) (by decide +kernel), by decide +kernel, by decide +kernel, by decide, by decide +kernel⟩
theorem xq223 : xmt 223 = (yX12_parameters, cX12_parameters, 2, none) := rfl
theorem lmX12_561 : Cond.methodLink RX12 561 yX12_parameters ∈ xbig := xbt10 48 (by decide +kernel) (by decide +kernel)
theorem mi223 : Cond.instanceMethod yX12_parameters ∈ xbig := xbt10 50 (by decide +kernel) (by decide +kernel)
theorem mse223 : Cond.selects RX12 yX12_parameters yX12_parameters ∈ xbig := xb_mem 102 (by decide +kernel) (by decide +kernel)
theorem cmX12_561 {r : Option Nat} {f : Mem → XA} (hm : mt.1.cls = RX12) (hs : XSnd l xmt rec d) (h8 : st.length ≤ 4) (hd : decode mt.2.1 pc = .ok (.invokevirtual 561, 3)) (k : ∀ M1, Xe S G K l mt d (pc + 3) lo st M1 (f M1)) : Xe S G K l mt d pc lo (va_rf r :: st) M (vC (13, 157) M r (cV (rec 223 ([va_rf r]) M) f)) := x_callV_V hs xq223 xm223 xci13 rfl (by rw [hm]; exact lmX12_561) mi223 mse223 rfl rfl h8 hd k
theorem xm224 : XMi (yX12_newCase, cX12_newCase, 8, none) 5 := ⟨xbt10 151 rfl (by decide +kernel), xbt1 15 (by decide +kernel) (by decide +kernel), by decide +kernel, by decide +kernel, by decide, by decide +kernel⟩
theorem xq224 : xmt 224 = (yX12_newCase, cX12_newCase, 8, none) := rfl
theorem lmX12_564 : Cond.methodLink RX12 564 yX12_newCase ∈ xbig := xbt10 148 (by decide +kernel) (by decide +kernel)
theorem mi224 : Cond.instanceMethod yX12_newCase ∈ xbig := xbt10 150 (by decide +kernel) (by decide +kernel)
theorem mse224 : Cond.selects RX12 yX12_newCase yX12_newCase ∈ xbig := xb_mem 127 (by decide +kernel) (by decide +kernel)
theorem cmX12_564 {r : Option Nat} {v0 : Int32} {v1 : Int64} {v2 : Int32} {v3 : Int32} {v4 : Int32} {f : Mem → XA} (hm : mt.1.cls = RX12) (hs : XSnd l xmt rec d) (h8 : st.length ≤ 4) (hd : decode mt.2.1 pc = .ok (.invokevirtual 564, 3)) (k : ∀ M1, Xe S G K l mt d (pc + 3) lo st M1 (f M1)) : Xe S G K l mt d pc lo (.int v4 :: .int v3 :: .int v2 :: .long v1 :: .int v0 :: va_rf r :: st) M (vC (13, 157) M r (cV (rec 224 ([va_rf r, .int v0, .long v1, .int v2, .int v3, .int v4]) M) f)) := x_callV_V hs xq224 xm224 xci13 rfl (by rw [hm]; exact lmX12_564) mi224 mse224 rfl rfl h8 hd k
theorem xm227 : XMi (yX12_unitOf, cX12_unitOf, 5, some .int) 2 := ⟨xbt10 23 rfl (by decide +kernel), xbt1 15 (by decide +kernel) (by decide +kernel), by decide +kernel, by decide +kernel, by decide, by decide +kernel⟩
theorem xq227 : xmt 227 = (yX12_unitOf, cX12_unitOf, 5, some .int) := rfl
theorem lmX12_571 : Cond.methodLink RX12 571 yX12_unitOf ∈ xbig := xbt10 20 (by decide +kernel) (by decide +kernel)
theorem mi227 : Cond.instanceMethod yX12_unitOf ∈ xbig := xbt10 22 (by decide +kernel) (by decide +kernel)
theorem mse227 : Cond.selects RX12 yX12_unitOf yX12_unitOf ∈ xbig := xb_mem 95 (by decide +kernel) (by decide +kernel)
theorem cmX12_571 {r : Option Nat} {v0 : Int32} {v1 : Int64} {f : Int32 → Mem → XA} (hm : mt.1.cls = RX12) (hs : XSnd l xmt rec d) (h8 : st.length ≤ 4) (hd : decode mt.2.1 pc = .ok (.invokevirtual 571, 3)) (k : ∀ x M1, Xe S G K l mt d (pc + 3) lo (.int x :: st) M1 (f x M1)) : Xe S G K l mt d pc lo (.long v1 :: .int v0 :: va_rf r :: st) M (vC (13, 157) M r (cI (rec 227 ([va_rf r, .int v0, .long v1]) M) f)) := x_callV_I hs xq227 xm227 xci13 rfl (by rw [hm]; exact lmX12_571) mi227 mse227 rfl rfl h8 hd k
theorem xm221 : XMi (yX12_member, cX12_member, 6, none) 1 := ⟨xbt10 35 rfl (by decide +kernel), xbt1 15 (by decide +kernel) (by decide +kernel), by decide +kernel, by decide +kernel, by decide, by decide +kernel⟩
theorem xq221 : xmt 221 = (yX12_member, cX12_member, 6, none) := rfl
theorem lmX12_575 : Cond.methodLink RX12 575 yX12_member ∈ xbig := xbt10 32 (by decide +kernel) (by decide +kernel)
theorem mi221 : Cond.instanceMethod yX12_member ∈ xbig := xbt10 34 (by decide +kernel) (by decide +kernel)
theorem mse221 : Cond.selects RX12 yX12_member yX12_member ∈ xbig := xb_mem 98 (by decide +kernel) (by decide +kernel)
theorem cmX12_575 {r : Option Nat} {v0 : Int32} {f : Mem → XA} (hm : mt.1.cls = RX12) (hs : XSnd l xmt rec d) (h8 : st.length ≤ 4) (hd : decode mt.2.1 pc = .ok (.invokevirtual 575, 3)) (k : ∀ M1, Xe S G K l mt d (pc + 3) lo st M1 (f M1)) : Xe S G K l mt d pc lo (.int v0 :: va_rf r :: st) M (vC (13, 157) M r (cV (rec 221 ([va_rf r, .int v0]) M) f)) := x_callV_V hs xq221 xm221 xci13 rfl (by rw [hm]; exact lmX12_575) mi221 mse221 rfl rfl h8 hd k
theorem xm228 : XMi (yX12_memberOf, cX12_memberOf, 6, some .int) 3 := ⟨xbt10 165 rfl (by decide +kernel), xbt1 15 (by decide +kernel) (by decide +kernel), by decide +kernel, by decide +kernel, by decide, by decide +kernel⟩
theorem xq228 : xmt 228 = (yX12_memberOf, cX12_memberOf, 6, some .int) := rfl
theorem lmX12_578 : Cond.methodLink RX12 578 yX12_memberOf ∈ xbig := xbt10 162 (by decide +kernel) (by decide +kernel)
theorem mi228 : Cond.instanceMethod yX12_memberOf ∈ xbig := xbt10 164 (by decide +kernel) (by decide +kernel)
theorem mse228 : Cond.selects RX12 yX12_memberOf yX12_memberOf ∈ xbig := xb_mem 130 (by decide +kernel) (by decide +kernel)
theorem cmX12_578 {r : Option Nat} {v0 : Int32} {v1 : Int32} {v2 : Int64} {f : Int32 → Mem → XA} (hm : mt.1.cls = RX12) (hs : XSnd l xmt rec d) (h8 : st.length ≤ 4) (hd : decode mt.2.1 pc = .ok (.invokevirtual 578, 3)) (k : ∀ x M1, Xe S G K l mt d (pc + 3) lo (.int x :: st) M1 (f x M1)) : Xe S G K l mt d pc lo (.long v2 :: .int v1 :: .int v0 :: va_rf r :: st) M (vC (13, 157) M r (cI (rec 228 ([va_rf r, .int v0, .int v1, .long v2]) M) f)) := x_callV_I hs xq228 xm228 xci13 rfl (by rw [hm]; exact lmX12_578) mi228 mse228 rfl rfl h8 hd k
theorem xm229 : XMi (yX12_readUnit, cX12_readUnit, 3, none) 1 := ⟨xbt10 19 rfl (by decide +kernel), xbt1 15 (by decide +kernel) (by decide +kernel), by decide +kernel, by decide +kernel, by decide, by decide +kernel⟩
theorem xq229 : xmt 229 = (yX12_readUnit, cX12_readUnit, 3, none) := rfl
theorem lmX12_585 : Cond.methodLink RX12 585 yX12_readUnit ∈ xbig := xbt10 16 (by decide +kernel) (by decide +kernel)
theorem mi229 : Cond.instanceMethod yX12_readUnit ∈ xbig := xbt10 18 (by decide +kernel) (by decide +kernel)
theorem mse229 : Cond.selects RX12 yX12_readUnit yX12_readUnit ∈ xbig := xb_mem 94 (by decide +kernel) (by decide +kernel)
theorem cmX12_585 {r : Option Nat} {v0 : Int32} {f : Mem → XA} (hm : mt.1.cls = RX12) (hs : XSnd l xmt rec d) (h8 : st.length ≤ 4) (hd : decode mt.2.1 pc = .ok (.invokevirtual 585, 3)) (k : ∀ M1, Xe S G K l mt d (pc + 3) lo st M1 (f M1)) : Xe S G K l mt d pc lo (.int v0 :: va_rf r :: st) M (vC (13, 157) M r (cV (rec 229 ([va_rf r, .int v0]) M) f)) := x_callV_V hs xq229 xm229 xci13 rfl (by rw [hm]; exact lmX12_585) mi229 mse229 rfl rfl h8 hd k
theorem xm230 : XMi (yX12_lookUp, cX12_lookUp, 10, none) 1 := ⟨xbt10 161 rfl (by decide +kernel), xbt1 15 (by decide +kernel) (by decide +kernel), by decide +kernel, by decide +kernel, by decide, by decide +kernel⟩
theorem xq230 : xmt 230 = (yX12_lookUp, cX12_lookUp, 10, none) := rfl
theorem lmX12_588 : Cond.methodLink RX12 588 yX12_lookUp ∈ xbig := xbt10 158 (by decide +kernel) (by decide +kernel)
theorem mi230 : Cond.instanceMethod yX12_lookUp ∈ xbig := xbt10 160 (by decide +kernel) (by decide +kernel)
theorem mse230 : Cond.selects RX12 yX12_lookUp yX12_lookUp ∈ xbig := xb_mem 129 (by decide +kernel) (by decide +kernel)
theorem cmX12_588 {r : Option Nat} {v0 : Int32} {f : Mem → XA} (hm : mt.1.cls = RX12) (hs : XSnd l xmt rec d) (h8 : st.length ≤ 4) (hd : decode mt.2.1 pc = .ok (.invokevirtual 588, 3)) (k : ∀ M1, Xe S G K l mt d (pc + 3) lo st M1 (f M1)) : Xe S G K l mt d pc lo (.int v0 :: va_rf r :: st) M (vC (13, 157) M r (cV (rec 230 ([va_rf r, .int v0]) M) f)) := x_callV_V hs xq230 xm230 xci13 rfl (by rw [hm]; exact lmX12_588) mi230 mse230 rfl rfl h8 hd k
theorem xm232 : XMi (yX12_keep, cX12_keep, 3, none) 1 := ⟨xbt10 169 rfl (by decide +kernel), xbt1 15 (by decide +kernel) (by decide +kernel), by decide +kernel, by decide +kernel, by decide, by decide +kernel⟩
theorem xq232 : xmt 232 = (yX12_keep, cX12_keep, 3, none) := rfl
theorem lmX12_594 : Cond.methodLink RX12 594 yX12_keep ∈ xbig := xbt10 166 (by decide +kernel) (by decide +kernel)
theorem mi232 : Cond.instanceMethod yX12_keep ∈ xbig := xbt10 168 (by decide +kernel) (by decide +kernel)
theorem mse232 : Cond.selects RX12 yX12_keep yX12_keep ∈ xbig := xb_mem 131 (by decide +kernel) (by decide +kernel)
theorem cmX12_594 {r : Option Nat} {v0 : Int32} {f : Mem → XA} (hm : mt.1.cls = RX12) (hs : XSnd l xmt rec d) (h8 : st.length ≤ 4) (hd : decode mt.2.1 pc = .ok (.invokevirtual 594, 3)) (k : ∀ M1, Xe S G K l mt d (pc + 3) lo st M1 (f M1)) : Xe S G K l mt d pc lo (.int v0 :: va_rf r :: st) M (vC (13, 157) M r (cV (rec 232 ([va_rf r, .int v0]) M) f)) := x_callV_V hs xq232 xm232 xci13 rfl (by rw [hm]; exact lmX12_594) mi232 mse232 rfl rfl h8 hd k
theorem xm233 : XMi (yX12_changed, cX12_changed, 1, some .int) 1 := ⟨xbt10 172 rfl (by decide +kernel), xbt1 15 (by decide +kernel) (by decide +kernel), by decide +kernel, by decide +kernel, by decide, by decide +kernel⟩
theorem xq233 : xmt 233 = (yX12_changed, cX12_changed, 1, some .int) := rfl
theorem lmX12_597 : Cond.methodLink RX12 597 yX12_changed ∈ xbig := xbt10 170 (by decide +kernel) (by decide +kernel)
theorem ms233 : Cond.static yX12_changed ∈ xbig := xbt10 171 (by decide +kernel) (by decide +kernel)
theorem cmX12_597 {v0 : Int32} {f : Int32 → Mem → XA} (hm : mt.1.cls = RX12) (hs : XSnd l xmt rec d) (h8 : st.length ≤ 4) (hd : decode mt.2.1 pc = .ok (.invokestatic 597, 3)) (k : ∀ x M1, Xe S G K l mt d (pc + 3) lo (.int x :: st) M1 (f x M1)) : Xe S G K l mt d pc lo (.int v0 :: st) M (cI (rec 233 [.int v0] M) f) := x_callS_I hs xq233 xm233 rfl (by rw [hm]; exact lmX12_597) ms233 rfl rfl h8 hd k
theorem xm237 : XMi (yX12_lookedUp, cX12_lookedUp, 8, some .int) 4 := ⟨xbt11 3 rfl (by decide +kernel), xbt1 15 (by decide +kernel) (by decide +kernel), by decide +kernel, by decide +kernel, by decide, by decide +kernel⟩
theorem xq237 : xmt 237 = (yX12_lookedUp, cX12_lookedUp, 8, some .int) := rfl
theorem lmX12_606 : Cond.methodLink RX12 606 yX12_lookedUp ∈ xbig := xbt11 0 (by decide +kernel) (by decide +kernel)
theorem mi237 : Cond.instanceMethod yX12_lookedUp ∈ xbig := xbt11 2 (by decide +kernel) (by decide +kernel)
theorem mse237 : Cond.selects RX12 yX12_lookedUp yX12_lookedUp ∈ xbig := xb_mem 146 (by decide +kernel) (by decide +kernel)
theorem cmX12_606 {r : Option Nat} {v0 : Int32} {v1 : Int32} {v2 : Int32} {v3 : Int32} {f : Int32 → Mem → XA} (hm : mt.1.cls = RX12) (hs : XSnd l xmt rec d) (h8 : st.length ≤ 4) (hd : decode mt.2.1 pc = .ok (.invokevirtual 606, 3)) (k : ∀ x M1, Xe S G K l mt d (pc + 3) lo (.int x :: st) M1 (f x M1)) : Xe S G K l mt d pc lo (.int v3 :: .int v2 :: .int v1 :: .int v0 :: va_rf r :: st) M (vC (13, 157) M r (cI (rec 237 ([va_rf r, .int v0, .int v1, .int v2, .int v3]) M) f)) := x_callV_I hs xq237 xm237 xci13 rfl (by rw [hm]; exact lmX12_606) mi237 mse237 rfl rfl h8 hd k
theorem xm236 : XMi (yX12_rowOf, cX12_rowOf, 2, some .int) 1 := ⟨xbt11 11 rfl (by decide +kernel), xbt1 15 (by decide +kernel) (by decide +kernel), by decide +kernel, by decide +kernel, by decide, by decide +kernel⟩
theorem xq236 : xmt 236 = (yX12_rowOf, cX12_rowOf, 2, some .int) := rfl
theorem lmX12_622 : Cond.methodLink RX12 622 yX12_rowOf ∈ xbig := xbt11 8 (by decide +kernel) (by decide +kernel)
theorem mi236 : Cond.instanceMethod yX12_rowOf ∈ xbig := xbt11 10 (by decide +kernel) (by decide +kernel)
theorem mse236 : Cond.selects RX12 yX12_rowOf yX12_rowOf ∈ xbig := xb_mem 148 (by decide +kernel) (by decide +kernel)
theorem cmX12_622 {r : Option Nat} {v0 : Int32} {f : Int32 → Mem → XA} (hm : mt.1.cls = RX12) (hs : XSnd l xmt rec d) (h8 : st.length ≤ 4) (hd : decode mt.2.1 pc = .ok (.invokevirtual 622, 3)) (k : ∀ x M1, Xe S G K l mt d (pc + 3) lo (.int x :: st) M1 (f x M1)) : Xe S G K l mt d pc lo (.int v0 :: va_rf r :: st) M (vC (13, 157) M r (cI (rec 236 ([va_rf r, .int v0]) M) f)) := x_callV_I hs xq236 xm236 xci13 rfl (by rw [hm]; exact lmX12_622) mi236 mse236 rfl rfl h8 hd k
theorem xm239 : XMi (yX12_fails, cX12_fails, 4, none) 3 := ⟨xbt10 212 rfl (by decide +kernel), xbt1 15 (by decide +kernel) (by decide +kernel), by decide +kernel, by decide +kernel, by decide, by decide +kernel⟩
theorem xq239 : xmt 239 = (yX12_fails, cX12_fails, 4, none) := rfl
theorem lmX12_625 : Cond.methodLink RX12 625 yX12_fails ∈ xbig := xbt10 209 (by decide +kernel) (by decide +kernel)
theorem mi239 : Cond.instanceMethod yX12_fails ∈ xbig := xbt10 211 (by decide +kernel) (by decide +kernel)
theorem mse239 : Cond.selects RX12 yX12_fails yX12_fails ∈ xbig := xb_mem 139 (by decide +kernel) (by decide +kernel)
theorem cmX12_625 {r : Option Nat} {v0 : Int32} {v1 : Int32} {v2 : Int32} {f : Mem → XA} (hm : mt.1.cls = RX12) (hs : XSnd l xmt rec d) (h8 : st.length ≤ 4) (hd : decode mt.2.1 pc = .ok (.invokevirtual 625, 3)) (k : ∀ M1, Xe S G K l mt d (pc + 3) lo st M1 (f M1)) : Xe S G K l mt d pc lo (.int v2 :: .int v1 :: .int v0 :: va_rf r :: st) M (vC (13, 157) M r (cV (rec 239 ([va_rf r, .int v0, .int v1, .int v2]) M) f)) := x_callV_V hs xq239 xm239 xci13 rfl (by rw [hm]; exact lmX12_625) mi239 mse239 rfl rfl h8 hd k
theorem xm243 : XMi (yX12_done, cX12_done, 13, some .int) 2 := ⟨xbt10 208 rfl (by decide +kernel), xbt1 15 (by decide +kernel) (by decide +kernel), by decide +kernel, by decide +kernel, by decide, by decide +kernel⟩
theorem xq243 : xmt 243 = (yX12_done, cX12_done, 13, some .int) := rfl
theorem lmX12_632 : Cond.methodLink RX12 632 yX12_done ∈ xbig := xbt10 205 (by decide +kernel) (by decide +kernel)
theorem mi243 : Cond.instanceMethod yX12_done ∈ xbig := xbt10 207 (by decide +kernel) (by decide +kernel)
theorem mse243 : Cond.selects RX12 yX12_done yX12_done ∈ xbig := xb_mem 138 (by decide +kernel) (by decide +kernel)
theorem cmX12_632 {r : Option Nat} {v0 : Int32} {v1 : Int32} {f : Int32 → Mem → XA} (hm : mt.1.cls = RX12) (hs : XSnd l xmt rec d) (h8 : st.length ≤ 4) (hd : decode mt.2.1 pc = .ok (.invokevirtual 632, 3)) (k : ∀ x M1, Xe S G K l mt d (pc + 3) lo (.int x :: st) M1 (f x M1)) : Xe S G K l mt d pc lo (.int v1 :: .int v0 :: va_rf r :: st) M (vC (13, 157) M r (cI (rec 243 ([va_rf r, .int v0, .int v1]) M) f)) := x_callV_I hs xq243 xm243 xci13 rfl (by rw [hm]; exact lmX12_632) mi243 mse243 rfl rfl h8 hd k
theorem xm241 : XMi (yX12_push, cX12_push, 2, none) 1 := ⟨xbt10 216 rfl (by decide +kernel), xbt1 15 (by decide +kernel) (by decide +kernel), by decide +kernel, by decide +kernel, by decide, by decide +kernel⟩
theorem xq241 : xmt 241 = (yX12_push, cX12_push, 2, none) := rfl
theorem lmX12_659 : Cond.methodLink RX12 659 yX12_push ∈ xbig := xbt10 213 (by decide +kernel) (by decide +kernel)
theorem mi241 : Cond.instanceMethod yX12_push ∈ xbig := xbt10 215 (by decide +kernel) (by decide +kernel)
theorem mse241 : Cond.selects RX12 yX12_push yX12_push ∈ xbig := xb_mem 140 (by decide +kernel) (by decide +kernel)
theorem cmX12_659 {r : Option Nat} {v0 : Int32} {f : Mem → XA} (hm : mt.1.cls = RX12) (hs : XSnd l xmt rec d) (h8 : st.length ≤ 4) (hd : decode mt.2.1 pc = .ok (.invokevirtual 659, 3)) (k : ∀ M1, Xe S G K l mt d (pc + 3) lo st M1 (f M1)) : Xe S G K l mt d pc lo (.int v0 :: va_rf r :: st) M (vC (13, 157) M r (cV (rec 241 ([va_rf r, .int v0]) M) f)) := x_callV_V hs xq241 xm241 xci13 rfl (by rw [hm]; exact lmX12_659) mi241 mse241 rfl rfl h8 hd k
theorem xm242 : XMi (yX12_pop, cX12_pop, 1, some .int) 0 := ⟨xbt10 220 rfl (by decide +kernel), xbt1 15 (by decide +kernel) (by decide +kernel), by decide +kernel, by decide +kernel, by decide, by decide +kernel⟩
theorem xq242 : xmt 242 = (yX12_pop, cX12_pop, 1, some .int) := rfl
theorem lmX12_662 : Cond.methodLink RX12 662 yX12_pop ∈ xbig := xbt10 217 (by decide +kernel) (by decide +kernel)
theorem mi242 : Cond.instanceMethod yX12_pop ∈ xbig := xbt10 219 (by decide +kernel) (by decide +kernel)
theorem mse242 : Cond.selects RX12 yX12_pop yX12_pop ∈ xbig := xb_mem 141 (by decide +kernel) (by decide +kernel)
theorem cmX12_662 {r : Option Nat} {f : Int32 → Mem → XA} (hm : mt.1.cls = RX12) (hs : XSnd l xmt rec d) (h8 : st.length ≤ 4) (hd : decode mt.2.1 pc = .ok (.invokevirtual 662, 3)) (k : ∀ x M1, Xe S G K l mt d (pc + 3) lo (.int x :: st) M1 (f x M1)) : Xe S G K l mt d pc lo (va_rf r :: st) M (vC (13, 157) M r (cI (rec 242 ([va_rf r]) M) f)) := x_callV_I hs xq242 xm242 xci13 rfl (by rw [hm]; exact lmX12_662) mi242 mse242 rfl rfl h8 hd k
theorem xm244 : XMi (yX12_act, cX12_act, 6, none) 3 := ⟨xbt10 224 rfl (by decide +kernel), xbt1 15 (by decide +kernel) (by decide +kernel), by decide +kernel, by decide +kernel, by decide, by decide +kernel⟩
theorem xq244 : xmt 244 = (yX12_act, cX12_act, 6, none) := rfl
theorem lmX12_665 : Cond.methodLink RX12 665 yX12_act ∈ xbig := xbt10 221 (by decide +kernel) (by decide +kernel)
theorem mi244 : Cond.instanceMethod yX12_act ∈ xbig := xbt10 223 (by decide +kernel) (by decide +kernel)
theorem mse244 : Cond.selects RX12 yX12_act yX12_act ∈ xbig := xb_mem 142 (by decide +kernel) (by decide +kernel)
theorem cmX12_665 {r : Option Nat} {v0 : Int32} {v1 : Int32} {v2 : Int32} {f : Mem → XA} (hm : mt.1.cls = RX12) (hs : XSnd l xmt rec d) (h8 : st.length ≤ 4) (hd : decode mt.2.1 pc = .ok (.invokevirtual 665, 3)) (k : ∀ M1, Xe S G K l mt d (pc + 3) lo st M1 (f M1)) : Xe S G K l mt d pc lo (.int v2 :: .int v1 :: .int v0 :: va_rf r :: st) M (vC (13, 157) M r (cV (rec 244 ([va_rf r, .int v0, .int v1, .int v2]) M) f)) := x_callV_V hs xq244 xm244 xci13 rfl (by rw [hm]; exact lmX12_665) mi244 mse244 rfl rfl h8 hd k
theorem xm246 : XMi (yX12_two, cX12_two, 5, none) 4 := ⟨xbt10 228 rfl (by decide +kernel), xbt1 15 (by decide +kernel) (by decide +kernel), by decide +kernel, by decide +kernel, by decide, by decide +kernel⟩
theorem xq246 : xmt 246 = (yX12_two, cX12_two, 5, none) := rfl
theorem lmX12_668 : Cond.methodLink RX12 668 yX12_two ∈ xbig := xbt10 225 (by decide +kernel) (by decide +kernel)
theorem mi246 : Cond.instanceMethod yX12_two ∈ xbig := xbt10 227 (by decide +kernel) (by decide +kernel)
theorem mse246 : Cond.selects RX12 yX12_two yX12_two ∈ xbig := xb_mem 143 (by decide +kernel) (by decide +kernel)
theorem cmX12_668 {r : Option Nat} {v0 : Int32} {v1 : Int32} {v2 : Int32} {v3 : Int32} {f : Mem → XA} (hm : mt.1.cls = RX12) (hs : XSnd l xmt rec d) (h8 : st.length ≤ 4) (hd : decode mt.2.1 pc = .ok (.invokevirtual 668, 3)) (k : ∀ M1, Xe S G K l mt d (pc + 3) lo st M1 (f M1)) : Xe S G K l mt d pc lo (.int v3 :: .int v2 :: .int v1 :: .int v0 :: va_rf r :: st) M (vC (13, 157) M r (cV (rec 246 ([va_rf r, .int v0, .int v1, .int v2, .int v3]) M) f)) := x_callV_V hs xq246 xm246 xci13 rfl (by rw [hm]; exact lmX12_668) mi246 mse246 rfl rfl h8 hd k
theorem xm249 : XMi (yX12_uses, cX12_uses, 7, none) 2 := ⟨xbt10 235 rfl (by decide +kernel), xbt1 15 (by decide +kernel) (by decide +kernel), by decide +kernel, by decide +kernel, by decide, by decide +kernel⟩
theorem xq249 : xmt 249 = (yX12_uses, cX12_uses, 7, none) := rfl
theorem lmX12_672 : Cond.methodLink RX12 672 yX12_uses ∈ xbig := xbt10 232 (by decide +kernel) (by decide +kernel)
theorem mi249 : Cond.instanceMethod yX12_uses ∈ xbig := xbt10 234 (by decide +kernel) (by decide +kernel)
theorem mse249 : Cond.selects RX12 yX12_uses yX12_uses ∈ xbig := xb_mem 144 (by decide +kernel) (by decide +kernel)
theorem cmX12_672 {r : Option Nat} {v0 : Int32} {v1 : Int32} {f : Mem → XA} (hm : mt.1.cls = RX12) (hs : XSnd l xmt rec d) (h8 : st.length ≤ 4) (hd : decode mt.2.1 pc = .ok (.invokevirtual 672, 3)) (k : ∀ M1, Xe S G K l mt d (pc + 3) lo st M1 (f M1)) : Xe S G K l mt d pc lo (.int v1 :: .int v0 :: va_rf r :: st) M (vC (13, 157) M r (cV (rec 249 ([va_rf r, .int v0, .int v1]) M) f)) := x_callV_V hs xq249 xm249 xci13 rfl (by rw [hm]; exact lmX12_672) mi249 mse249 rfl rfl h8 hd k
theorem xm247 : XMi (yX12_one, cX12_one, 4, none) 3 := ⟨xbt11 31 rfl (by decide +kernel), xbt1 15 (by decide +kernel) (by decide +kernel), by decide +kernel, by decide +kernel, by decide, by decide +kernel⟩
theorem xq247 : xmt 247 = (yX12_one, cX12_one, 4, none) := rfl
theorem lmX12_674 : Cond.methodLink RX12 674 yX12_one ∈ xbig := xbt11 28 (by decide +kernel) (by decide +kernel)
theorem mi247 : Cond.instanceMethod yX12_one ∈ xbig := xbt11 30 (by decide +kernel) (by decide +kernel)
theorem mse247 : Cond.selects RX12 yX12_one yX12_one ∈ xbig := xb_mem 153 (by decide +kernel) (by decide +kernel)
theorem cmX12_674 {r : Option Nat} {v0 : Int32} {v1 : Int32} {v2 : Int32} {f : Mem → XA} (hm : mt.1.cls = RX12) (hs : XSnd l xmt rec d) (h8 : st.length ≤ 4) (hd : decode mt.2.1 pc = .ok (.invokevirtual 674, 3)) (k : ∀ M1, Xe S G K l mt d (pc + 3) lo st M1 (f M1)) : Xe S G K l mt d pc lo (.int v2 :: .int v1 :: .int v0 :: va_rf r :: st) M (vC (13, 157) M r (cV (rec 247 ([va_rf r, .int v0, .int v1, .int v2]) M) f)) := x_callV_V hs xq247 xm247 xci13 rfl (by rw [hm]; exact lmX12_674) mi247 mse247 rfl rfl h8 hd k
theorem xm245 : XMi (yX12_truth, cX12_truth, 1, some .int) 1 := ⟨xbt10 231 rfl (by decide +kernel), xbt1 15 (by decide +kernel) (by decide +kernel), by decide +kernel, by decide +kernel, by decide, by decide +kernel⟩
theorem xq245 : xmt 245 = (yX12_truth, cX12_truth, 1, some .int) := rfl
theorem lmX12_677 : Cond.methodLink RX12 677 yX12_truth ∈ xbig := xbt10 229 (by decide +kernel) (by decide +kernel)
theorem ms245 : Cond.static yX12_truth ∈ xbig := xbt10 230 (by decide +kernel) (by decide +kernel)
theorem cmX12_677 {v0 : Int32} {f : Int32 → Mem → XA} (hm : mt.1.cls = RX12) (hs : XSnd l xmt rec d) (h8 : st.length ≤ 4) (hd : decode mt.2.1 pc = .ok (.invokestatic 677, 3)) (k : ∀ x M1, Xe S G K l mt d (pc + 3) lo (.int x :: st) M1 (f x M1)) : Xe S G K l mt d pc lo (.int v0 :: st) M (cI (rec 245 [.int v0] M) f) := x_callS_I hs xq245 xm245 rfl (by rw [hm]; exact lmX12_677) ms245 rfl rfl h8 hd k
theorem xm248 : XMi (yX12_draw, cX12_draw, 3, none) 2 := ⟨xbt11 35 rfl (by decide +kernel), xbt1 15 (by decide +kernel) (by decide +kernel), by decide +kernel, by decide +kernel, by decide, by decide +kernel⟩
theorem xq248 : xmt 248 = (yX12_draw, cX12_draw, 3, none) := rfl
theorem lmX12_680 : Cond.methodLink RX12 680 yX12_draw ∈ xbig := xbt11 32 (by decide +kernel) (by decide +kernel)
theorem mi248 : Cond.instanceMethod yX12_draw ∈ xbig := xbt11 34 (by decide +kernel) (by decide +kernel)
theorem mse248 : Cond.selects RX12 yX12_draw yX12_draw ∈ xbig := xb_mem 154 (by decide +kernel) (by decide +kernel)
theorem cmX12_680 {r : Option Nat} {v0 : Int32} {v1 : Int32} {f : Mem → XA} (hm : mt.1.cls = RX12) (hs : XSnd l xmt rec d) (h8 : st.length ≤ 4) (hd : decode mt.2.1 pc = .ok (.invokevirtual 680, 3)) (k : ∀ M1, Xe S G K l mt d (pc + 3) lo st M1 (f M1)) : Xe S G K l mt d pc lo (.int v1 :: .int v0 :: va_rf r :: st) M (vC (13, 157) M r (cV (rec 248 ([va_rf r, .int v0, .int v1]) M) f)) := x_callV_V hs xq248 xm248 xci13 rfl (by rw [hm]; exact lmX12_680) mi248 mse248 rfl rfl h8 hd k
theorem xm238 : XMi (yX12_memberAt, cX12_memberAt, 4, some .int) 1 := ⟨xbt10 239 rfl (by decide +kernel), xbt1 15 (by decide +kernel) (by decide +kernel), by decide +kernel, by decide +kernel, by decide, by decide +kernel⟩
theorem xq238 : xmt 238 = (yX12_memberAt, cX12_memberAt, 4, some .int) := rfl
theorem lmX12_695 : Cond.methodLink RX12 695 yX12_memberAt ∈ xbig := xbt10 236 (by decide +kernel) (by decide +kernel)
theorem mi238 : Cond.instanceMethod yX12_memberAt ∈ xbig := xbt10 238 (by decide +kernel) (by decide +kernel)
theorem mse238 : Cond.selects RX12 yX12_memberAt yX12_memberAt ∈ xbig := xb_mem 145 (by decide +kernel) (by decide +kernel)
theorem cmX12_695 {r : Option Nat} {v0 : Int32} {f : Int32 → Mem → XA} (hm : mt.1.cls = RX12) (hs : XSnd l xmt rec d) (h8 : st.length ≤ 4) (hd : decode mt.2.1 pc = .ok (.invokevirtual 695, 3)) (k : ∀ x M1, Xe S G K l mt d (pc + 3) lo (.int x :: st) M1 (f x M1)) : Xe S G K l mt d pc lo (.int v0 :: va_rf r :: st) M (vC (13, 157) M r (cI (rec 238 ([va_rf r, .int v0]) M) f)) := x_callV_I hs xq238 xm238 xci13 rfl (by rw [hm]; exact lmX12_695) mi238 mse238 rfl rfl h8 hd k
theorem xm240 : XMi (yX12_begins, cX12_begins, 10, some .boolean) 2 := ⟨xbt11 7 rfl (by decide +kernel), xbt1 15 (by decide +kernel) (by decide +kernel), by decide +kernel, by decide +kernel, by decide, by decide +kernel⟩
theorem xq240 : xmt 240 = (yX12_begins, cX12_begins, 10, some .boolean) := rfl
theorem lmX12_698 : Cond.methodLink RX12 698 yX12_begins ∈ xbig := xbt11 4 (by decide +kernel) (by decide +kernel)
theorem mi240 : Cond.instanceMethod yX12_begins ∈ xbig := xbt11 6 (by decide +kernel) (by decide +kernel)
theorem mse240 : Cond.selects RX12 yX12_begins yX12_begins ∈ xbig := xb_mem 147 (by decide +kernel) (by decide +kernel)
theorem cmX12_698 {r : Option Nat} {v0 : Int32} {v1 : Int32} {f : Int32 → Mem → XA} (hm : mt.1.cls = RX12) (hs : XSnd l xmt rec d) (h8 : st.length ≤ 4) (hd : decode mt.2.1 pc = .ok (.invokevirtual 698, 3)) (k : ∀ x M1, Xe S G K l mt d (pc + 3) lo (.int x :: st) M1 (f x M1)) : Xe S G K l mt d pc lo (.int v1 :: .int v0 :: va_rf r :: st) M (vC (13, 157) M r (cI (rec 240 ([va_rf r, .int v0, .int v1]) M) f)) := x_callV_I hs xq240 xm240 xci13 rfl (by rw [hm]; exact lmX12_698) mi240 mse240 rfl rfl h8 hd k
theorem xm250 : XMi (yX12_called, cX12_called, 7, none) 3 := ⟨xbt11 15 rfl (by decide +kernel), xbt1 15 (by decide +kernel) (by decide +kernel), by decide +kernel, by decide +kernel, by decide, by decide +kernel⟩
theorem xq250 : xmt 250 = (yX12_called, cX12_called, 7, none) := rfl
theorem lmX12_702 : Cond.methodLink RX12 702 yX12_called ∈ xbig := xbt11 12 (by decide +kernel) (by decide +kernel)
theorem mi250 : Cond.instanceMethod yX12_called ∈ xbig := xbt11 14 (by decide +kernel) (by decide +kernel)
theorem mse250 : Cond.selects RX12 yX12_called yX12_called ∈ xbig := xb_mem 149 (by decide +kernel) (by decide +kernel)
theorem cmX12_702 {r : Option Nat} {v0 : Int32} {v1 : Int32} {v2 : Int32} {f : Mem → XA} (hm : mt.1.cls = RX12) (hs : XSnd l xmt rec d) (h8 : st.length ≤ 4) (hd : decode mt.2.1 pc = .ok (.invokevirtual 702, 3)) (k : ∀ M1, Xe S G K l mt d (pc + 3) lo st M1 (f M1)) : Xe S G K l mt d pc lo (.int v2 :: .int v1 :: .int v0 :: va_rf r :: st) M (vC (13, 157) M r (cV (rec 250 ([va_rf r, .int v0, .int v1, .int v2]) M) f)) := x_callV_V hs xq250 xm250 xci13 rfl (by rw [hm]; exact lmX12_702) mi250 mse250 rfl rfl h8 hd k
theorem xm272 : XMi (yX12_doubleOf, cX12_doubleOf, 5, some .int) 2 := ⟨xbt11 19 rfl (by decide +kernel), xbt1 15 (by decide +kernel) (by decide +kernel), by decide +kernel, by decide +kernel, by decide, by decide +kernel⟩
theorem xq272 : xmt 272 = (yX12_doubleOf, cX12_doubleOf, 5, some .int) := rfl
theorem lmX12_705 : Cond.methodLink RX12 705 yX12_doubleOf ∈ xbig := xbt11 16 (by decide +kernel) (by decide +kernel)
theorem mi272 : Cond.instanceMethod yX12_doubleOf ∈ xbig := xbt11 18 (by decide +kernel) (by decide +kernel)
theorem mse272 : Cond.selects RX12 yX12_doubleOf yX12_doubleOf ∈ xbig := xb_mem 150 (by decide +kernel) (by decide +kernel)
theorem cmX12_705 {r : Option Nat} {v0 : Int32} {v1 : Int32} {f : Int32 → Mem → XA} (hm : mt.1.cls = RX12) (hs : XSnd l xmt rec d) (h8 : st.length ≤ 4) (hd : decode mt.2.1 pc = .ok (.invokevirtual 705, 3)) (k : ∀ x M1, Xe S G K l mt d (pc + 3) lo (.int x :: st) M1 (f x M1)) : Xe S G K l mt d pc lo (.int v1 :: .int v0 :: va_rf r :: st) M (vC (13, 157) M r (cI (rec 272 ([va_rf r, .int v0, .int v1]) M) f)) := x_callV_I hs xq272 xm272 xci13 rfl (by rw [hm]; exact lmX12_705) mi272 mse272 rfl rfl h8 hd k
theorem xm277 : XMi (yX12_ruleFor, cX12_ruleFor, 6, some .int) 2 := ⟨xbt11 23 rfl (by decide +kernel), xbt1 15 (by decide +kernel) (by decide +kernel), by decide +kernel, by decide +kernel, by decide, by decide +kernel⟩
theorem xq277 : xmt 277 = (yX12_ruleFor, cX12_ruleFor, 6, some .int) := rfl
theorem lmX12_708 : Cond.methodLink RX12 708 yX12_ruleFor ∈ xbig := xbt11 20 (by decide +kernel) (by decide +kernel)
theorem mi277 : Cond.instanceMethod yX12_ruleFor ∈ xbig := xbt11 22 (by decide +kernel) (by decide +kernel)
theorem mse277 : Cond.selects RX12 yX12_ruleFor yX12_ruleFor ∈ xbig := xb_mem 151 (by decide +kernel) (by decide +kernel)
theorem cmX12_708 {r : Option Nat} {v0 : Int32} {v1 : Int32} {f : Int32 → Mem → XA} (hm : mt.1.cls = RX12) (hs : XSnd l xmt rec d) (h8 : st.length ≤ 4) (hd : decode mt.2.1 pc = .ok (.invokevirtual 708, 3)) (k : ∀ x M1, Xe S G K l mt d (pc + 3) lo (.int x :: st) M1 (f x M1)) : Xe S G K l mt d pc lo (.int v1 :: .int v0 :: va_rf r :: st) M (vC (13, 157) M r (cI (rec 277 ([va_rf r, .int v0, .int v1]) M) f)) := x_callV_I hs xq277 xm277 xci13 rfl (by rw [hm]; exact lmX12_708) mi277 mse277 rfl rfl h8 hd k
theorem xm279 : XMi (yX12_hear, cX12_hear, 6, none) 3 := ⟨xbt11 27 rfl (by decide +kernel), xbt1 15 (by decide +kernel) (by decide +kernel), by decide +kernel, by decide +kernel, by decide, by decide +kernel⟩
theorem xq279 : xmt 279 = (yX12_hear, cX12_hear, 6, none) := rfl
theorem lmX12_714 : Cond.methodLink RX12 714 yX12_hear ∈ xbig := xbt11 24 (by decide +kernel) (by decide +kernel)
theorem mi279 : Cond.instanceMethod yX12_hear ∈ xbig := xbt11 26 (by decide +kernel) (by decide +kernel)
theorem mse279 : Cond.selects RX12 yX12_hear yX12_hear ∈ xbig := xb_mem 152 (by decide +kernel) (by decide +kernel)
theorem cmX12_714 {r : Option Nat} {v0 : Int32} {v1 : Int32} {v2 : Int32} {f : Mem → XA} (hm : mt.1.cls = RX12) (hs : XSnd l xmt rec d) (h8 : st.length ≤ 4) (hd : decode mt.2.1 pc = .ok (.invokevirtual 714, 3)) (k : ∀ M1, Xe S G K l mt d (pc + 3) lo st M1 (f M1)) : Xe S G K l mt d pc lo (.int v2 :: .int v1 :: .int v0 :: va_rf r :: st) M (vC (13, 157) M r (cV (rec 279 ([va_rf r, .int v0, .int v1, .int v2]) M) f)) := x_callV_V hs xq279 xm279 xci13 rfl (by rw [hm]; exact lmX12_714) mi279 mse279 rfl rfl h8 hd k
theorem xm251 : XMi (yX12_clear, cX12_clear, 2, none) 0 := ⟨xbt10 200 rfl (by decide +kernel), xbt1 15 (by decide +kernel) (by decide +kernel), by decide +kernel, by decide +kernel, by decide, by decide +kernel⟩
theorem xq251 : xmt 251 = (yX12_clear, cX12_clear, 2, none) := rfl
theorem lmX12_726 : Cond.methodLink RX12 726 yX12_clear ∈ xbig := xbt10 197 (by decide +kernel) (by decide +kernel)
theorem mi251 : Cond.instanceMethod yX12_clear ∈ xbig := xbt10 199 (by decide +kernel) (by decide +kernel)
theorem mse251 : Cond.selects RX12 yX12_clear yX12_clear ∈ xbig := xb_mem 136 (by decide +kernel) (by decide +kernel)
theorem cmX12_726 {r : Option Nat} {f : Mem → XA} (hm : mt.1.cls = RX12) (hs : XSnd l xmt rec d) (h8 : st.length ≤ 4) (hd : decode mt.2.1 pc = .ok (.invokevirtual 726, 3)) (k : ∀ M1, Xe S G K l mt d (pc + 3) lo st M1 (f M1)) : Xe S G K l mt d pc lo (va_rf r :: st) M (vC (13, 157) M r (cV (rec 251 ([va_rf r]) M) f)) := x_callV_V hs xq251 xm251 xci13 rfl (by rw [hm]; exact lmX12_726) mi251 mse251 rfl rfl h8 hd k
theorem xm252 : XMi (yX12_doesFail, cX12_doesFail, 4, some .boolean) 2 := ⟨xbt10 204 rfl (by decide +kernel), xbt1 15 (by decide +kernel) (by decide +kernel), by decide +kernel, by decide +kernel, by decide, by decide +kernel⟩
theorem xq252 : xmt 252 = (yX12_doesFail, cX12_doesFail, 4, some .boolean) := rfl
theorem lmX12_729 : Cond.methodLink RX12 729 yX12_doesFail ∈ xbig := xbt10 201 (by decide +kernel) (by decide +kernel)
theorem mi252 : Cond.instanceMethod yX12_doesFail ∈ xbig := xbt10 203 (by decide +kernel) (by decide +kernel)
theorem mse252 : Cond.selects RX12 yX12_doesFail yX12_doesFail ∈ xbig := xb_mem 137 (by decide +kernel) (by decide +kernel)
theorem cmX12_729 {r : Option Nat} {v0 : Int32} {v1 : Int32} {f : Int32 → Mem → XA} (hm : mt.1.cls = RX12) (hs : XSnd l xmt rec d) (h8 : st.length ≤ 4) (hd : decode mt.2.1 pc = .ok (.invokevirtual 729, 3)) (k : ∀ x M1, Xe S G K l mt d (pc + 3) lo (.int x :: st) M1 (f x M1)) : Xe S G K l mt d pc lo (.int v1 :: .int v0 :: va_rf r :: st) M (vC (13, 157) M r (cI (rec 252 ([va_rf r, .int v0, .int v1]) M) f)) := x_callV_I hs xq252 xm252 xci13 rfl (by rw [hm]; exact lmX12_729) mi252 mse252 rfl rfl h8 hd k
theorem xm253 : XMi (yX12_tells, cX12_tells, 2, none) 1 := ⟨xbt11 40 rfl (by decide +kernel), xbt1 15 (by decide +kernel) (by decide +kernel), by decide +kernel, by decide +kernel, by decide, by decide +kernel⟩
theorem xq253 : xmt 253 = (yX12_tells, cX12_tells, 2, none) := rfl
theorem lmX12_732 : Cond.methodLink RX12 732 yX12_tells ∈ xbig := xbt11 37 (by decide +kernel) (by decide +kernel)
theorem mi253 : Cond.instanceMethod yX12_tells ∈ xbig := xbt11 39 (by decide +kernel) (by decide +kernel)
theorem mse253 : Cond.selects RX12 yX12_tells yX12_tells ∈ xbig := xb_mem 155 (by decide +kernel) (by decide +kernel)
theorem cmX12_732 {r : Option Nat} {v0 : Int32} {f : Mem → XA} (hm : mt.1.cls = RX12) (hs : XSnd l xmt rec d) (h8 : st.length ≤ 4) (hd : decode mt.2.1 pc = .ok (.invokevirtual 732, 3)) (k : ∀ M1, Xe S G K l mt d (pc + 3) lo st M1 (f M1)) : Xe S G K l mt d pc lo (.int v0 :: va_rf r :: st) M (vC (13, 157) M r (cV (rec 253 ([va_rf r, .int v0]) M) f)) := x_callV_V hs xq253 xm253 xci13 rfl (by rw [hm]; exact lmX12_732) mi253 mse253 rfl rfl h8 hd k
theorem xm255 : XMi (yX12_isParcel, cX12_isParcel, 2, some .boolean) 1 := ⟨xbt10 184 rfl (by decide +kernel), xbt1 15 (by decide +kernel) (by decide +kernel), by decide +kernel, by decide +kernel, by decide, by decide +kernel⟩
theorem xq255 : xmt 255 = (yX12_isParcel, cX12_isParcel, 2, some .boolean) := rfl
theorem lmX12_735 : Cond.methodLink RX12 735 yX12_isParcel ∈ xbig := xbt10 181 (by decide +kernel) (by decide +kernel)
theorem mi255 : Cond.instanceMethod yX12_isParcel ∈ xbig := xbt10 183 (by decide +kernel) (by decide +kernel)
theorem mse255 : Cond.selects RX12 yX12_isParcel yX12_isParcel ∈ xbig := xb_mem 132 (by decide +kernel) (by decide +kernel)
theorem cmX12_735 {r : Option Nat} {v0 : Int32} {f : Int32 → Mem → XA} (hm : mt.1.cls = RX12) (hs : XSnd l xmt rec d) (h8 : st.length ≤ 4) (hd : decode mt.2.1 pc = .ok (.invokevirtual 735, 3)) (k : ∀ x M1, Xe S G K l mt d (pc + 3) lo (.int x :: st) M1 (f x M1)) : Xe S G K l mt d pc lo (.int v0 :: va_rf r :: st) M (vC (13, 157) M r (cI (rec 255 ([va_rf r, .int v0]) M) f)) := x_callV_I hs xq255 xm255 xci13 rfl (by rw [hm]; exact lmX12_735) mi255 mse255 rfl rfl h8 hd k
theorem xm235 : XMi (yX12_machine, cX12_machine, 4, none) 2 := ⟨xbt10 188 rfl (by decide +kernel), xbt1 15 (by decide +kernel) (by decide +kernel), by decide +kernel, by decide +kernel, by decide, by decide +kernel⟩
theorem xq235 : xmt 235 = (yX12_machine, cX12_machine, 4, none) := rfl
theorem lmX12_738 : Cond.methodLink RX12 738 yX12_machine ∈ xbig := xbt10 185 (by decide +kernel) (by decide +kernel)
theorem mi235 : Cond.instanceMethod yX12_machine ∈ xbig := xbt10 187 (by decide +kernel) (by decide +kernel)
theorem mse235 : Cond.selects RX12 yX12_machine yX12_machine ∈ xbig := xb_mem 133 (by decide +kernel) (by decide +kernel)
theorem cmX12_738 {r : Option Nat} {v0 : Int32} {v1 : Int32} {f : Mem → XA} (hm : mt.1.cls = RX12) (hs : XSnd l xmt rec d) (h8 : st.length ≤ 4) (hd : decode mt.2.1 pc = .ok (.invokevirtual 738, 3)) (k : ∀ M1, Xe S G K l mt d (pc + 3) lo st M1 (f M1)) : Xe S G K l mt d pc lo (.int v1 :: .int v0 :: va_rf r :: st) M (vC (13, 157) M r (cV (rec 235 ([va_rf r, .int v0, .int v1]) M) f)) := x_callV_V hs xq235 xm235 xci13 rfl (by rw [hm]; exact lmX12_738) mi235 mse235 rfl rfl h8 hd k
theorem xm278 : XMi (yX12_listen, cX12_listen, 2, none) 0 := ⟨xbt10 192 rfl (by decide +kernel), xbt1 15 (by decide +kernel) (by decide +kernel), by decide +kernel, by decide +kernel, by decide, by decide +kernel⟩
theorem xq278 : xmt 278 = (yX12_listen, cX12_listen, 2, none) := rfl
theorem lmX12_741 : Cond.methodLink RX12 741 yX12_listen ∈ xbig := xbt10 189 (by decide +kernel) (by decide +kernel)
theorem mi278 : Cond.instanceMethod yX12_listen ∈ xbig := xbt10 191 (by decide +kernel) (by decide +kernel)
theorem mse278 : Cond.selects RX12 yX12_listen yX12_listen ∈ xbig := xb_mem 134 (by decide +kernel) (by decide +kernel)
theorem cmX12_741 {r : Option Nat} {f : Mem → XA} (hm : mt.1.cls = RX12) (hs : XSnd l xmt rec d) (h8 : st.length ≤ 4) (hd : decode mt.2.1 pc = .ok (.invokevirtual 741, 3)) (k : ∀ M1, Xe S G K l mt d (pc + 3) lo st M1 (f M1)) : Xe S G K l mt d pc lo (va_rf r :: st) M (vC (13, 157) M r (cV (rec 278 ([va_rf r]) M) f)) := x_callV_V hs xq278 xm278 xci13 rfl (by rw [hm]; exact lmX12_741) mi278 mse278 rfl rfl h8 hd k
theorem xm254 : XMi (yX12_life, cX12_life, 5, none) 1 := ⟨xbt10 196 rfl (by decide +kernel), xbt1 15 (by decide +kernel) (by decide +kernel), by decide +kernel, by decide +kernel, by decide, by decide +kernel⟩
theorem xq254 : xmt 254 = (yX12_life, cX12_life, 5, none) := rfl
theorem lmX12_744 : Cond.methodLink RX12 744 yX12_life ∈ xbig := xbt10 193 (by decide +kernel) (by decide +kernel)
theorem mi254 : Cond.instanceMethod yX12_life ∈ xbig := xbt10 195 (by decide +kernel) (by decide +kernel)
theorem mse254 : Cond.selects RX12 yX12_life yX12_life ∈ xbig := xb_mem 135 (by decide +kernel) (by decide +kernel)
theorem cmX12_744 {r : Option Nat} {v0 : Int32} {f : Mem → XA} (hm : mt.1.cls = RX12) (hs : XSnd l xmt rec d) (h8 : st.length ≤ 4) (hd : decode mt.2.1 pc = .ok (.invokevirtual 744, 3)) (k : ∀ M1, Xe S G K l mt d (pc + 3) lo st M1 (f M1)) : Xe S G K l mt d pc lo (.int v0 :: va_rf r :: st) M (vC (13, 157) M r (cV (rec 254 ([va_rf r, .int v0]) M) f)) := x_callV_V hs xq254 xm254 xci13 rfl (by rw [hm]; exact lmX12_744) mi254 mse254 rfl rfl h8 hd k
theorem xm256 : XMi (yX12_isCase, cX12_isCase, 3, some .boolean) 2 := ⟨xbt11 48 rfl (by decide +kernel), xbt1 15 (by decide +kernel) (by decide +kernel), by decide +kernel, by decide +kernel, by decide, by decide +kernel⟩
theorem xq256 : xmt 256 = (yX12_isCase, cX12_isCase, 3, some .boolean) := rfl
theorem lmX12_747 : Cond.methodLink RX12 747 yX12_isCase ∈ xbig := xbt11 45 (by decide +kernel) (by decide +kernel)
theorem mi256 : Cond.instanceMethod yX12_isCase ∈ xbig := xbt11 47 (by decide +kernel) (by decide +kernel)
theorem mse256 : Cond.selects RX12 yX12_isCase yX12_isCase ∈ xbig := xb_mem 156 (by decide +kernel) (by decide +kernel)
theorem cmX12_747 {r : Option Nat} {v0 : Int32} {v1 : Int32} {f : Int32 → Mem → XA} (hm : mt.1.cls = RX12) (hs : XSnd l xmt rec d) (h8 : st.length ≤ 4) (hd : decode mt.2.1 pc = .ok (.invokevirtual 747, 3)) (k : ∀ x M1, Xe S G K l mt d (pc + 3) lo (.int x :: st) M1 (f x M1)) : Xe S G K l mt d pc lo (.int v1 :: .int v0 :: va_rf r :: st) M (vC (13, 157) M r (cI (rec 256 ([va_rf r, .int v0, .int v1]) M) f)) := x_callV_I hs xq256 xm256 xci13 rfl (by rw [hm]; exact lmX12_747) mi256 mse256 rfl rfl h8 hd k
theorem xm260 : XMi (yX12_aloneIn, cX12_aloneIn, 2, some .int) 1 := ⟨xbt11 60 rfl (by decide +kernel), xbt1 15 (by decide +kernel) (by decide +kernel), by decide +kernel, by decide +kernel, by decide, by decide +kernel⟩
theorem xq260 : xmt 260 = (yX12_aloneIn, cX12_aloneIn, 2, some .int) := rfl
theorem lmX12_752 : Cond.methodLink RX12 752 yX12_aloneIn ∈ xbig := xbt11 57 (by decide +kernel) (by decide +kernel)
theorem mi260 : Cond.instanceMethod yX12_aloneIn ∈ xbig := xbt11 59 (by decide +kernel) (by decide +kernel)
theorem mse260 : Cond.selects RX12 yX12_aloneIn yX12_aloneIn ∈ xbig := xb_mem 157 (by decide +kernel) (by decide +kernel)
theorem cmX12_752 {r : Option Nat} {v0 : Int32} {f : Int32 → Mem → XA} (hm : mt.1.cls = RX12) (hs : XSnd l xmt rec d) (h8 : st.length ≤ 4) (hd : decode mt.2.1 pc = .ok (.invokevirtual 752, 3)) (k : ∀ x M1, Xe S G K l mt d (pc + 3) lo (.int x :: st) M1 (f x M1)) : Xe S G K l mt d pc lo (.int v0 :: va_rf r :: st) M (vC (13, 157) M r (cI (rec 260 ([va_rf r, .int v0]) M) f)) := x_callV_I hs xq260 xm260 xci13 rfl (by rw [hm]; exact lmX12_752) mi260 mse260 rfl rfl h8 hd k
theorem xm271 : XMi (yX12_seatOf, cX12_seatOf, 4, some .int) 1 := ⟨xbt11 109 rfl (by decide +kernel), xbt1 15 (by decide +kernel) (by decide +kernel), by decide +kernel, by decide +kernel, by decide, by decide +kernel⟩
theorem xq271 : xmt 271 = (yX12_seatOf, cX12_seatOf, 4, some .int) := rfl
theorem lmX12_760 : Cond.methodLink RX12 760 yX12_seatOf ∈ xbig := xbt11 106 (by decide +kernel) (by decide +kernel)
theorem mi271 : Cond.instanceMethod yX12_seatOf ∈ xbig := xbt11 108 (by decide +kernel) (by decide +kernel)
theorem mse271 : Cond.selects RX12 yX12_seatOf yX12_seatOf ∈ xbig := xb_mem 158 (by decide +kernel) (by decide +kernel)
theorem cmX12_760 {r : Option Nat} {v0 : Int32} {f : Int32 → Mem → XA} (hm : mt.1.cls = RX12) (hs : XSnd l xmt rec d) (h8 : st.length ≤ 4) (hd : decode mt.2.1 pc = .ok (.invokevirtual 760, 3)) (k : ∀ x M1, Xe S G K l mt d (pc + 3) lo (.int x :: st) M1 (f x M1)) : Xe S G K l mt d pc lo (.int v0 :: va_rf r :: st) M (vC (13, 157) M r (cI (rec 271 ([va_rf r, .int v0]) M) f)) := x_callV_I hs xq271 xm271 xci13 rfl (by rw [hm]; exact lmX12_760) mi271 mse271 rfl rfl h8 hd k
theorem xm274 : XMi (yX12_parametersOf, cX12_parametersOf, 2, some .int) 1 := ⟨xbt11 113 rfl (by decide +kernel), xbt1 15 (by decide +kernel) (by decide +kernel), by decide +kernel, by decide +kernel, by decide, by decide +kernel⟩
theorem xq274 : xmt 274 = (yX12_parametersOf, cX12_parametersOf, 2, some .int) := rfl
theorem lmX12_763 : Cond.methodLink RX12 763 yX12_parametersOf ∈ xbig := xbt11 110 (by decide +kernel) (by decide +kernel)
theorem mi274 : Cond.instanceMethod yX12_parametersOf ∈ xbig := xbt11 112 (by decide +kernel) (by decide +kernel)
theorem mse274 : Cond.selects RX12 yX12_parametersOf yX12_parametersOf ∈ xbig := xb_mem 159 (by decide +kernel) (by decide +kernel)
theorem cmX12_763 {r : Option Nat} {v0 : Int32} {f : Int32 → Mem → XA} (hm : mt.1.cls = RX12) (hs : XSnd l xmt rec d) (h8 : st.length ≤ 4) (hd : decode mt.2.1 pc = .ok (.invokevirtual 763, 3)) (k : ∀ x M1, Xe S G K l mt d (pc + 3) lo (.int x :: st) M1 (f x M1)) : Xe S G K l mt d pc lo (.int v0 :: va_rf r :: st) M (vC (13, 157) M r (cI (rec 274 ([va_rf r, .int v0]) M) f)) := x_callV_I hs xq274 xm274 xci13 rfl (by rw [hm]; exact lmX12_763) mi274 mse274 rfl rfl h8 hd k
theorem lmX12_766 : Cond.methodLink RX12 766 yJ6_bitCount_0f7a4 ∈ xbig := xbt11 126 (by decide +kernel) (by decide +kernel)
theorem cmX12_766 {v0 : Int32} {f : Int32 → Mem → XA} (hm : mt.1.cls = RX12) (hs : XSnd l xmt rec d) (h8 : st.length ≤ 4) (hd : decode mt.2.1 pc = .ok (.invokestatic 766, 3)) (k : ∀ x M1, Xe S G K l mt d (pc + 3) lo (.int x :: st) M1 (f x M1)) : Xe S G K l mt d pc lo (.int v0 :: st) M (cI (rec 315 [.int v0] M) f) := x_callS_I hs xq315 xm315 rfl (by rw [hm]; exact lmX12_766) ms315 rfl rfl h8 hd k
theorem xm282 : XMi (yX12_runWith, cX12_runWith, 6, some .int) 2 := ⟨xbt11 135 rfl (by decide +kernel), xbt1 15 (by decide +kernel) (by decide +kernel), by decide +kernel, by decide +kernel, by decide, by decide +kernel⟩
theorem xq282 : xmt 282 = (yX12_runWith, cX12_runWith, 6, some .int) := rfl
theorem lmX12_772 : Cond.methodLink RX12 772 yX12_runWith ∈ xbig := xbt11 132 (by decide +kernel) (by decide +kernel)
theorem mi282 : Cond.instanceMethod yX12_runWith ∈ xbig := xbt11 134 (by decide +kernel) (by decide +kernel)
theorem mse282 : Cond.selects RX12 yX12_runWith yX12_runWith ∈ xbig := xb_mem 160 (by decide +kernel) (by decide +kernel)
theorem cmX12_772 {r : Option Nat} {v0 : Int32} {v1 : Int32} {f : Int32 → Mem → XA} (hm : mt.1.cls = RX12) (hs : XSnd l xmt rec d) (h8 : st.length ≤ 4) (hd : decode mt.2.1 pc = .ok (.invokevirtual 772, 3)) (k : ∀ x M1, Xe S G K l mt d (pc + 3) lo (.int x :: st) M1 (f x M1)) : Xe S G K l mt d pc lo (.int v1 :: .int v0 :: va_rf r :: st) M (vC (13, 157) M r (cI (rec 282 ([va_rf r, .int v0, .int v1]) M) f)) := x_callV_I hs xq282 xm282 xci13 rfl (by rw [hm]; exact lmX12_772) mi282 mse282 rfl rfl h8 hd k
theorem xm284 : XMi (yX12_leastSuite, cX12_leastSuite, 7, some .int) 1 := ⟨xbt11 139 rfl (by decide +kernel), xbt1 15 (by decide +kernel) (by decide +kernel), by decide +kernel, by decide +kernel, by decide, by decide +kernel⟩
theorem xq284 : xmt 284 = (yX12_leastSuite, cX12_leastSuite, 7, some .int) := rfl
theorem lmX12_775 : Cond.methodLink RX12 775 yX12_leastSuite ∈ xbig := xbt11 136 (by decide +kernel) (by decide +kernel)
theorem mi284 : Cond.instanceMethod yX12_leastSuite ∈ xbig := xbt11 138 (by decide +kernel) (by decide +kernel)
theorem mse284 : Cond.selects RX12 yX12_leastSuite yX12_leastSuite ∈ xbig := xb_mem 161 (by decide +kernel) (by decide +kernel)
theorem cmX12_775 {r : Option Nat} {v0 : Int32} {f : Int32 → Mem → XA} (hm : mt.1.cls = RX12) (hs : XSnd l xmt rec d) (h8 : st.length ≤ 4) (hd : decode mt.2.1 pc = .ok (.invokevirtual 775, 3)) (k : ∀ x M1, Xe S G K l mt d (pc + 3) lo (.int x :: st) M1 (f x M1)) : Xe S G K l mt d pc lo (.int v0 :: va_rf r :: st) M (vC (13, 157) M r (cI (rec 284 ([va_rf r, .int v0]) M) f)) := x_callV_I hs xq284 xm284 xci13 rfl (by rw [hm]; exact lmX12_775) mi284 mse284 rfl rfl h8 hd k
theorem xm285 : XMi (yX12_isAhead, cX12_isAhead, 3, some .boolean) 2 := ⟨xbt11 142 rfl (by decide +kernel), xbt1 15 (by decide +kernel) (by decide +kernel), by decide +kernel, by decide +kernel, by decide, by decide +kernel⟩
theorem xq285 : xmt 285 = (yX12_isAhead, cX12_isAhead, 3, some .boolean) := rfl
theorem lmX12_778 : Cond.methodLink RX12 778 yX12_isAhead ∈ xbig := xbt11 140 (by decide +kernel) (by decide +kernel)
theorem ms285 : Cond.static yX12_isAhead ∈ xbig := xbt11 141 (by decide +kernel) (by decide +kernel)
theorem cmX12_778 {v0 : Int32} {v1 : Int32} {f : Int32 → Mem → XA} (hm : mt.1.cls = RX12) (hs : XSnd l xmt rec d) (h8 : st.length ≤ 4) (hd : decode mt.2.1 pc = .ok (.invokestatic 778, 3)) (k : ∀ x M1, Xe S G K l mt d (pc + 3) lo (.int x :: st) M1 (f x M1)) : Xe S G K l mt d pc lo (.int v1 :: .int v0 :: st) M (cI (rec 285 [.int v0, .int v1] M) f) := x_callS_I hs xq285 xm285 rfl (by rw [hm]; exact lmX12_778) ms285 rfl rfl h8 hd k
theorem xm313 : XMi (yJ6_lowestOneBit_0f7a4, cJ6_lowestOneBit_0f7a4, 1, some .int) 1 := ⟨xbt11 145 rfl (by decide +kernel), xbt1 26 (by decide +kernel) (by decide +kernel), by decide +kernel, by decide +kernel, by decide, by decide +kernel⟩
theorem xq313 : xmt 313 = (yJ6_lowestOneBit_0f7a4, cJ6_lowestOneBit_0f7a4, 1, some .int) := rfl
theorem lmX12_781 : Cond.methodLink RX12 781 yJ6_lowestOneBit_0f7a4 ∈ xbig := xbt11 143 (by decide +kernel) (by decide +kernel)
theorem ms313 : Cond.static yJ6_lowestOneBit_0f7a4 ∈ xbig := xbt11 144 (by decide +kernel) (by decide +kernel)
theorem cmX12_781 {v0 : Int32} {f : Int32 → Mem → XA} (hm : mt.1.cls = RX12) (hs : XSnd l xmt rec d) (h8 : st.length ≤ 4) (hd : decode mt.2.1 pc = .ok (.invokestatic 781, 3)) (k : ∀ x M1, Xe S G K l mt d (pc + 3) lo (.int x :: st) M1 (f x M1)) : Xe S G K l mt d pc lo (.int v0 :: st) M (cI (rec 313 [.int v0] M) f) := x_callS_I hs xq313 xm313 rfl (by rw [hm]; exact lmX12_781) ms313 rfl rfl h8 hd k
theorem xm288 : XMi (yX12_breaks, cX12_breaks, 4, some .boolean) 2 := ⟨xbt11 162 rfl (by decide +kernel), xbt1 15 (by decide +kernel) (by decide +kernel), by decide +kernel, by decide +kernel, by decide, by decide +kernel⟩
theorem xq288 : xmt 288 = (yX12_breaks, cX12_breaks, 4, some .boolean) := rfl
theorem lmX12_792 : Cond.methodLink RX12 792 yX12_breaks ∈ xbig := xbt11 159 (by decide +kernel) (by decide +kernel)
theorem mi288 : Cond.instanceMethod yX12_breaks ∈ xbig := xbt11 161 (by decide +kernel) (by decide +kernel)
theorem mse288 : Cond.selects RX12 yX12_breaks yX12_breaks ∈ xbig := xb_mem 162 (by decide +kernel) (by decide +kernel)
theorem cmX12_792 {r : Option Nat} {v0 : Int32} {v1 : Int32} {f : Int32 → Mem → XA} (hm : mt.1.cls = RX12) (hs : XSnd l xmt rec d) (h8 : st.length ≤ 4) (hd : decode mt.2.1 pc = .ok (.invokevirtual 792, 3)) (k : ∀ x M1, Xe S G K l mt d (pc + 3) lo (.int x :: st) M1 (f x M1)) : Xe S G K l mt d pc lo (.int v1 :: .int v0 :: va_rf r :: st) M (vC (13, 157) M r (cI (rec 288 ([va_rf r, .int v0, .int v1]) M) f)) := x_callV_I hs xq288 xm288 xci13 rfl (by rw [hm]; exact lmX12_792) mi288 mse288 rfl rfl h8 hd k
theorem xm291 : XMi (yX12_isSmaller, cX12_isSmaller, 6, some .boolean) 2 := ⟨xbt11 166 rfl (by decide +kernel), xbt1 15 (by decide +kernel) (by decide +kernel), by decide +kernel, by decide +kernel, by decide, by decide +kernel⟩
theorem xq291 : xmt 291 = (yX12_isSmaller, cX12_isSmaller, 6, some .boolean) := rfl
theorem lmX12_795 : Cond.methodLink RX12 795 yX12_isSmaller ∈ xbig := xbt11 163 (by decide +kernel) (by decide +kernel)
theorem mi291 : Cond.instanceMethod yX12_isSmaller ∈ xbig := xbt11 165 (by decide +kernel) (by decide +kernel)
theorem mse291 : Cond.selects RX12 yX12_isSmaller yX12_isSmaller ∈ xbig := xb_mem 163 (by decide +kernel) (by decide +kernel)
theorem cmX12_795 {r : Option Nat} {v0 : Int32} {v1 : Int32} {f : Int32 → Mem → XA} (hm : mt.1.cls = RX12) (hs : XSnd l xmt rec d) (h8 : st.length ≤ 4) (hd : decode mt.2.1 pc = .ok (.invokevirtual 795, 3)) (k : ∀ x M1, Xe S G K l mt d (pc + 3) lo (.int x :: st) M1 (f x M1)) : Xe S G K l mt d pc lo (.int v1 :: .int v0 :: va_rf r :: st) M (vC (13, 157) M r (cI (rec 291 ([va_rf r, .int v0, .int v1]) M) f)) := x_callV_I hs xq291 xm291 xci13 rfl (by rw [hm]; exact lmX12_795) mi291 mse291 rfl rfl h8 hd k
theorem xm296 : XMi (yX12_mayStand, cX12_mayStand, 8, some .boolean) 3 := ⟨xbt11 194 rfl (by decide +kernel), xbt1 15 (by decide +kernel) (by decide +kernel), by decide +kernel, by decide +kernel, by decide, by decide +kernel⟩
theorem xq296 : xmt 296 = (yX12_mayStand, cX12_mayStand, 8, some .boolean) := rfl
theorem lmX12_819 : Cond.methodLink RX12 819 yX12_mayStand ∈ xbig := xbt11 191 (by decide +kernel) (by decide +kernel)
theorem mi296 : Cond.instanceMethod yX12_mayStand ∈ xbig := xbt11 193 (by decide +kernel) (by decide +kernel)
theorem mse296 : Cond.selects RX12 yX12_mayStand yX12_mayStand ∈ xbig := xb_mem 165 (by decide +kernel) (by decide +kernel)
theorem cmX12_819 {r : Option Nat} {v0 : Int32} {v1 : Int32} {v2 : Int32} {f : Int32 → Mem → XA} (hm : mt.1.cls = RX12) (hs : XSnd l xmt rec d) (h8 : st.length ≤ 4) (hd : decode mt.2.1 pc = .ok (.invokevirtual 819, 3)) (k : ∀ x M1, Xe S G K l mt d (pc + 3) lo (.int x :: st) M1 (f x M1)) : Xe S G K l mt d pc lo (.int v2 :: .int v1 :: .int v0 :: va_rf r :: st) M (vC (13, 157) M r (cI (rec 296 ([va_rf r, .int v0, .int v1, .int v2]) M) f)) := x_callV_I hs xq296 xm296 xci13 rfl (by rw [hm]; exact lmX12_819) mi296 mse296 rfl rfl h8 hd k
theorem xm295 : XMi (yX12_answers, cX12_answers, 10, some .boolean) 2 := ⟨xbt11 198 rfl (by decide +kernel), xbt1 15 (by decide +kernel) (by decide +kernel), by decide +kernel, by decide +kernel, by decide, by decide +kernel⟩
theorem xq295 : xmt 295 = (yX12_answers, cX12_answers, 10, some .boolean) := rfl
theorem lmX12_822 : Cond.methodLink RX12 822 yX12_answers ∈ xbig := xbt11 195 (by decide +kernel) (by decide +kernel)
theorem mi295 : Cond.instanceMethod yX12_answers ∈ xbig := xbt11 197 (by decide +kernel) (by decide +kernel)
theorem mse295 : Cond.selects RX12 yX12_answers yX12_answers ∈ xbig := xb_mem 166 (by decide +kernel) (by decide +kernel)
theorem cmX12_822 {r : Option Nat} {v0 : Int32} {v1 : Int32} {f : Int32 → Mem → XA} (hm : mt.1.cls = RX12) (hs : XSnd l xmt rec d) (h8 : st.length ≤ 4) (hd : decode mt.2.1 pc = .ok (.invokevirtual 822, 3)) (k : ∀ x M1, Xe S G K l mt d (pc + 3) lo (.int x :: st) M1 (f x M1)) : Xe S G K l mt d pc lo (.int v1 :: .int v0 :: va_rf r :: st) M (vC (13, 157) M r (cI (rec 295 ([va_rf r, .int v0, .int v1]) M) f)) := x_callV_I hs xq295 xm295 xci13 rfl (by rw [hm]; exact lmX12_822) mi295 mse295 rfl rfl h8 hd k
theorem xm297 : XMi (yX12_rows, cX12_rows, 4, some .boolean) 2 := ⟨xbt11 190 rfl (by decide +kernel), xbt1 15 (by decide +kernel) (by decide +kernel), by decide +kernel, by decide +kernel, by decide, by decide +kernel⟩
theorem xq297 : xmt 297 = (yX12_rows, cX12_rows, 4, some .boolean) := rfl
theorem lmX12_825 : Cond.methodLink RX12 825 yX12_rows ∈ xbig := xbt11 187 (by decide +kernel) (by decide +kernel)
theorem mi297 : Cond.instanceMethod yX12_rows ∈ xbig := xbt11 189 (by decide +kernel) (by decide +kernel)
theorem mse297 : Cond.selects RX12 yX12_rows yX12_rows ∈ xbig := xb_mem 164 (by decide +kernel) (by decide +kernel)
theorem cmX12_825 {r : Option Nat} {v0 : Int32} {v1 : Int32} {f : Int32 → Mem → XA} (hm : mt.1.cls = RX12) (hs : XSnd l xmt rec d) (h8 : st.length ≤ 4) (hd : decode mt.2.1 pc = .ok (.invokevirtual 825, 3)) (k : ∀ x M1, Xe S G K l mt d (pc + 3) lo (.int x :: st) M1 (f x M1)) : Xe S G K l mt d pc lo (.int v1 :: .int v0 :: va_rf r :: st) M (vC (13, 157) M r (cI (rec 297 ([va_rf r, .int v0, .int v1]) M) f)) := x_callV_I hs xq297 xm297 xci13 rfl (by rw [hm]; exact lmX12_825) mi297 mse297 rfl rfl h8 hd k
theorem xm300 : XMi (yX12_common, cX12_common, 10, some .long) 2 := ⟨xbt11 210 rfl (by decide +kernel), xbt1 15 (by decide +kernel) (by decide +kernel), by decide +kernel, by decide +kernel, by decide, by decide +kernel⟩
theorem xq300 : xmt 300 = (yX12_common, cX12_common, 10, some .long) := rfl
theorem lmX12_830 : Cond.methodLink RX12 830 yX12_common ∈ xbig := xbt11 208 (by decide +kernel) (by decide +kernel)
theorem ms300 : Cond.static yX12_common ∈ xbig := xbt11 209 (by decide +kernel) (by decide +kernel)
theorem cmX12_830 {v0 : Int64} {v1 : Int64} {f : Int64 → Mem → XA} (hm : mt.1.cls = RX12) (hs : XSnd l xmt rec d) (h8 : st.length ≤ 4) (hd : decode mt.2.1 pc = .ok (.invokestatic 830, 3)) (k : ∀ x M1, Xe S G K l mt d (pc + 3) lo (.long x :: st) M1 (f x M1)) : Xe S G K l mt d pc lo (.long v1 :: .long v0 :: st) M (cL (rec 300 [.long v0, .long v1] M) f) := x_callS_L hs xq300 xm300 rfl (by rw [hm]; exact lmX12_830) ms300 rfl rfl h8 hd k
theorem xm303 : XMi (yX12_passesBehind, cX12_passesBehind, 6, some .boolean) 4 := ⟨xbt11 222 rfl (by decide +kernel), xbt1 15 (by decide +kernel) (by decide +kernel), by decide +kernel, by decide +kernel, by decide, by decide +kernel⟩
theorem xq303 : xmt 303 = (yX12_passesBehind, cX12_passesBehind, 6, some .boolean) := rfl
theorem lmX12_843 : Cond.methodLink RX12 843 yX12_passesBehind ∈ xbig := xbt11 219 (by decide +kernel) (by decide +kernel)
theorem mi303 : Cond.instanceMethod yX12_passesBehind ∈ xbig := xbt11 221 (by decide +kernel) (by decide +kernel)
theorem mse303 : Cond.selects RX12 yX12_passesBehind yX12_passesBehind ∈ xbig := xb_mem 167 (by decide +kernel) (by decide +kernel)
theorem cmX12_843 {r : Option Nat} {v0 : Int32} {v1 : Int32} {v2 : Int32} {v3 : Int32} {f : Int32 → Mem → XA} (hm : mt.1.cls = RX12) (hs : XSnd l xmt rec d) (h8 : st.length ≤ 4) (hd : decode mt.2.1 pc = .ok (.invokevirtual 843, 3)) (k : ∀ x M1, Xe S G K l mt d (pc + 3) lo (.int x :: st) M1 (f x M1)) : Xe S G K l mt d pc lo (.int v3 :: .int v2 :: .int v1 :: .int v0 :: va_rf r :: st) M (vC (13, 157) M r (cI (rec 303 ([va_rf r, .int v0, .int v1, .int v2, .int v3]) M) f)) := x_callV_I hs xq303 xm303 xci13 rfl (by rw [hm]; exact lmX12_843) mi303 mse303 rfl rfl h8 hd k
theorem xm307 : XMi (yX12_newUnitFor, cX12_newUnitFor, 3, some .int) 2 := ⟨xbt11 238 rfl (by decide +kernel), xbt1 15 (by decide +kernel) (by decide +kernel), by decide +kernel, by decide +kernel, by decide, by decide +kernel⟩
theorem xq307 : xmt 307 = (yX12_newUnitFor, cX12_newUnitFor, 3, some .int) := rfl
theorem lmX12_853 : Cond.methodLink RX12 853 yX12_newUnitFor ∈ xbig := xbt11 235 (by decide +kernel) (by decide +kernel)
theorem mi307 : Cond.instanceMethod yX12_newUnitFor ∈ xbig := xbt11 237 (by decide +kernel) (by decide +kernel)
theorem mse307 : Cond.selects RX12 yX12_newUnitFor yX12_newUnitFor ∈ xbig := xb_mem 168 (by decide +kernel) (by decide +kernel)
theorem cmX12_853 {r : Option Nat} {v0 : Int32} {v1 : Int32} {f : Int32 → Mem → XA} (hm : mt.1.cls = RX12) (hs : XSnd l xmt rec d) (h8 : st.length ≤ 4) (hd : decode mt.2.1 pc = .ok (.invokevirtual 853, 3)) (k : ∀ x M1, Xe S G K l mt d (pc + 3) lo (.int x :: st) M1 (f x M1)) : Xe S G K l mt d pc lo (.int v1 :: .int v0 :: va_rf r :: st) M (vC (13, 157) M r (cI (rec 307 ([va_rf r, .int v0, .int v1]) M) f)) := x_callV_I hs xq307 xm307 xci13 rfl (by rw [hm]; exact lmX12_853) mi307 mse307 rfl rfl h8 hd k
theorem xm314 : XMi (yJ6_numberOfLeadingZeros_0f7a4, cJ6_numberOfLeadingZeros_0f7a4, 2, some .int) 1 := ⟨xbt5 165 rfl (by decide +kernel), xbt1 26 (by decide +kernel) (by decide +kernel), by decide +kernel, by decide +kernel, by decide, by decide +kernel⟩
theorem xq314 : xmt 314 = (yJ6_numberOfLeadingZeros_0f7a4, cJ6_numberOfLeadingZeros_0f7a4, 2, some .int) := rfl
theorem lmJ13_308 : Cond.methodLink RJ13 308 yJ6_numberOfLeadingZeros_0f7a4 ∈ xbig := xbt5 163 (by decide +kernel) (by decide +kernel)
theorem ms314 : Cond.static yJ6_numberOfLeadingZeros_0f7a4 ∈ xbig := xbt5 164 (by decide +kernel) (by decide +kernel)
theorem cmJ13_308 {v0 : Int32} {f : Int32 → Mem → XA} (hm : mt.1.cls = RJ13) (hs : XSnd l xmt rec d) (h8 : st.length ≤ 4) (hd : decode mt.2.1 pc = .ok (.invokestatic 308, 3)) (k : ∀ x M1, Xe S G K l mt d (pc + 3) lo (.int x :: st) M1 (f x M1)) : Xe S G K l mt d pc lo (.int v0 :: st) M (cI (rec 314 [.int v0] M) f) := x_callS_I hs xq314 xm314 rfl (by rw [hm]; exact lmJ13_308) ms314 rfl rfl h8 hd k
theorem xm324 : XMi (yJ0_coder_7d493, cJ0_coder_7d493, 1, some .byte) 0 := ⟨xbt1 57 rfl (by decide +kernel), xbt1 4 (by decide +kernel) (by decide +kernel), by decide +kernel, by decide +kernel, by decide, by decide +kernel⟩
theorem xq324 : xmt 324 = (yJ0_coder_7d493, cJ0_coder_7d493, 1, some .byte) := rfl
theorem lmJ0_335 : Cond.methodLink RJ0 335 yJ0_coder_7d493 ∈ xbig := xbt1 54 (by decide +kernel) (by decide +kernel)
theorem mi324 : Cond.instanceMethod yJ0_coder_7d493 ∈ xbig := xbt1 55 (by decide +kernel) (by decide +kernel)
theorem mse324 : Cond.selects RJ0 yJ0_coder_7d493 yJ0_coder_7d493 ∈ xbig := xbt1 56 (by decide +kernel) (by decide +kernel)
theorem cmJ0_335 {r : Option Nat} {f : Int32 → Mem → XA} (hm : mt.1.cls = RJ0) (hs : XSnd l xmt rec d) (h8 : st.length ≤ 4) (hd : decode mt.2.1 pc = .ok (.invokevirtual 335, 3)) (k : ∀ x M1, Xe S G K l mt d (pc + 3) lo (.int x :: st) M1 (f x M1)) : Xe S G K l mt d pc lo (va_rf r :: st) M (vS r (cI (rec 324 ([va_rf r]) M) f)) := x_callVs_I hs xq324 xm324 rfl rfl (by rw [hm]; exact lmJ0_335) mi324 mse324 rfl rfl h8 hd k
theorem xm325 : XMi (yJ0_isLatin1_aae02, cJ0_isLatin1_aae02, 1, some .boolean) 0 := ⟨xbt1 67 rfl (by decide +kernel), xbt1 4 (by decide +kernel) (by decide +kernel), by decide +kernel, by decide +kernel, by decide, by decide +kernel⟩
theorem xq325 : xmt 325 = (yJ0_isLatin1_aae02, cJ0_isLatin1_aae02, 1, some .boolean) := rfl
theorem lmJ0_492 : Cond.methodLink RJ0 492 yJ0_isLatin1_aae02 ∈ xbig := xbt1 64 (by decide +kernel) (by decide +kernel)
theorem mi325 : Cond.instanceMethod yJ0_isLatin1_aae02 ∈ xbig := xbt1 65 (by decide +kernel) (by decide +kernel)
theorem mse325 : Cond.selects RJ0 yJ0_isLatin1_aae02 yJ0_isLatin1_aae02 ∈ xbig := xbt1 66 (by decide +kernel) (by decide +kernel)
theorem cmJ0_492 {r : Option Nat} {f : Int32 → Mem → XA} (hm : mt.1.cls = RJ0) (hs : XSnd l xmt rec d) (h8 : st.length ≤ 4) (hd : decode mt.2.1 pc = .ok (.invokevirtual 492, 3)) (k : ∀ x M1, Xe S G K l mt d (pc + 3) lo (.int x :: st) M1 (f x M1)) : Xe S G K l mt d pc lo (va_rf r :: st) M (vS r (cI (rec 325 ([va_rf r]) M) f)) := x_callVs_I hs xq325 xm325 rfl rfl (by rw [hm]; exact lmJ0_492) mi325 mse325 rfl rfl h8 hd k
theorem xm328 : XMi (yJ1_charAt_3b067, cJ1_charAt_3b067, 2, some .char) 2 := ⟨xbt1 70 rfl (by decide +kernel), xbt1 5 (by decide +kernel) (by decide +kernel), by decide +kernel, by decide +kernel, by decide, by decide +kernel⟩
theorem xq328 : xmt 328 = (yJ1_charAt_3b067, cJ1_charAt_3b067, 2, some .char) := rfl
theorem lmJ0_495 : Cond.methodLink RJ0 495 yJ1_charAt_3b067 ∈ xbig := xbt1 68 (by decide +kernel) (by decide +kernel)
theorem ms328 : Cond.static yJ1_charAt_3b067 ∈ xbig := xbt1 69 (by decide +kernel) (by decide +kernel)
theorem cmJ0_495 {v0 : Option Nat} {v1 : Int32} {f : Int32 → Mem → XA} (hm : mt.1.cls = RJ0) (hs : XSnd l xmt rec d) (h8 : st.length ≤ 4) (hd : decode mt.2.1 pc = .ok (.invokestatic 495, 3)) (k : ∀ x M1, Xe S G K l mt d (pc + 3) lo (.int x :: st) M1 (f x M1)) : Xe S G K l mt d pc lo (.int v1 :: va_rf v0 :: st) M (cI (rec 328 [va_rf v0, .int v1] M) f) := x_callS_I hs xq328 xm328 rfl (by rw [hm]; exact lmJ0_495) ms328 rfl rfl h8 hd k
theorem xm338 : XMi (yJ2_charAt_3b067, cJ2_charAt_3b067, 2, some .char) 2 := ⟨xbt1 81 rfl (by decide +kernel), xbt1 7 (by decide +kernel) (by decide +kernel), by decide +kernel, by decide +kernel, by decide, by decide +kernel⟩
theorem xq338 : xmt 338 = (yJ2_charAt_3b067, cJ2_charAt_3b067, 2, some .char) := rfl
theorem lmJ0_498 : Cond.methodLink RJ0 498 yJ2_charAt_3b067 ∈ xbig := xbt1 79 (by decide +kernel) (by decide +kernel)
theorem ms338 : Cond.static yJ2_charAt_3b067 ∈ xbig := xbt1 80 (by decide +kernel) (by decide +kernel)
theorem cmJ0_498 {v0 : Option Nat} {v1 : Int32} {f : Int32 → Mem → XA} (hm : mt.1.cls = RJ0) (hs : XSnd l xmt rec d) (h8 : st.length ≤ 4) (hd : decode mt.2.1 pc = .ok (.invokestatic 498, 3)) (k : ∀ x M1, Xe S G K l mt d (pc + 3) lo (.int x :: st) M1 (f x M1)) : Xe S G K l mt d pc lo (.int v1 :: va_rf v0 :: st) M (cI (rec 338 [va_rf v0, .int v1] M) f) := x_callS_I hs xq338 xm338 rfl (by rw [hm]; exact lmJ0_498) ms338 rfl rfl h8 hd k
theorem lmJ0_505 : Cond.methodLink RJ0 505 yJ0_length_8abf5 ∈ xbig := xbt3 66 (by decide +kernel) (by decide +kernel)
theorem cmJ0_505 {r : Option Nat} {f : Int32 → Mem → XA} (hm : mt.1.cls = RJ0) (hs : XSnd l xmt rec d) (h8 : st.length ≤ 4) (hd : decode mt.2.1 pc = .ok (.invokevirtual 505, 3)) (k : ∀ x M1, Xe S G K l mt d (pc + 3) lo (.int x :: st) M1 (f x M1)) : Xe S G K l mt d pc lo (va_rf r :: st) M (vS r (cI (rec 320 ([va_rf r]) M) f)) := x_callVs_I hs xq320 xm320 rfl rfl (by rw [hm]; exact lmJ0_505) mi320 mse320 rfl rfl h8 hd k
theorem xm323 : XMi (yJ0_indexOf_7cf53, cJ0_indexOf_7cf53, 3, some .int) 2 := ⟨xbt3 65 rfl (by decide +kernel), xbt1 4 (by decide +kernel) (by decide +kernel), by decide +kernel, by decide +kernel, by decide, by decide +kernel⟩
theorem xq323 : xmt 323 = (yJ0_indexOf_7cf53, cJ0_indexOf_7cf53, 3, some .int) := rfl
theorem lmJ0_633 : Cond.methodLink RJ0 633 yJ0_indexOf_7cf53 ∈ xbig := xbt3 62 (by decide +kernel) (by decide +kernel)
theorem mi323 : Cond.instanceMethod yJ0_indexOf_7cf53 ∈ xbig := xbt3 63 (by decide +kernel) (by decide +kernel)
theorem mse323 : Cond.selects RJ0 yJ0_indexOf_7cf53 yJ0_indexOf_7cf53 ∈ xbig := xbt3 64 (by decide +kernel) (by decide +kernel)
theorem cmJ0_633 {r : Option Nat} {v0 : Int32} {v1 : Int32} {f : Int32 → Mem → XA} (hm : mt.1.cls = RJ0) (hs : XSnd l xmt rec d) (h8 : st.length ≤ 4) (hd : decode mt.2.1 pc = .ok (.invokevirtual 633, 3)) (k : ∀ x M1, Xe S G K l mt d (pc + 3) lo (.int x :: st) M1 (f x M1)) : Xe S G K l mt d pc lo (.int v1 :: .int v0 :: va_rf r :: st) M (vS r (cI (rec 323 ([va_rf r, .int v0, .int v1]) M) f)) := x_callVs_I hs xq323 xm323 rfl rfl (by rw [hm]; exact lmJ0_633) mi323 mse323 rfl rfl h8 hd k
theorem xm330 : XMi (yJ1_indexOf_4cfef, cJ1_indexOf_4cfef, 4, some .int) 4 := ⟨xbt3 69 rfl (by decide +kernel), xbt1 5 (by decide +kernel) (by decide +kernel), by decide +kernel, by decide +kernel, by decide, by decide +kernel⟩
theorem xq330 : xmt 330 = (yJ1_indexOf_4cfef, cJ1_indexOf_4cfef, 4, some .int) := rfl
theorem lmJ0_637 : Cond.methodLink RJ0 637 yJ1_indexOf_4cfef ∈ xbig := xbt3 67 (by decide +kernel) (by decide +kernel)
theorem ms330 : Cond.static yJ1_indexOf_4cfef ∈ xbig := xbt3 68 (by decide +kernel) (by decide +kernel)
theorem cmJ0_637 {v0 : Option Nat} {v1 : Int32} {v2 : Int32} {v3 : Int32} {f : Int32 → Mem → XA} (hm : mt.1.cls = RJ0) (hs : XSnd l xmt rec d) (h8 : st.length ≤ 4) (hd : decode mt.2.1 pc = .ok (.invokestatic 637, 3)) (k : ∀ x M1, Xe S G K l mt d (pc + 3) lo (.int x :: st) M1 (f x M1)) : Xe S G K l mt d pc lo (.int v3 :: .int v2 :: .int v1 :: va_rf v0 :: st) M (cI (rec 330 [va_rf v0, .int v1, .int v2, .int v3] M) f) := x_callS_I hs xq330 xm330 rfl (by rw [hm]; exact lmJ0_637) ms330 rfl rfl h8 hd k
theorem xm334 : XMi (yJ2_indexOf_4cfef, cJ2_indexOf_4cfef, 4, some .int) 4 := ⟨xbt3 84 rfl (by decide +kernel), xbt1 7 (by decide +kernel) (by decide +kernel), by decide +kernel, by decide +kernel, by decide, by decide +kernel⟩
theorem xq334 : xmt 334 = (yJ2_indexOf_4cfef, cJ2_indexOf_4cfef, 4, some .int) := rfl
theorem lmJ0_640 : Cond.methodLink RJ0 640 yJ2_indexOf_4cfef ∈ xbig := xbt3 82 (by decide +kernel) (by decide +kernel)
theorem ms334 : Cond.static yJ2_indexOf_4cfef ∈ xbig := xbt3 83 (by decide +kernel) (by decide +kernel)
theorem cmJ0_640 {v0 : Option Nat} {v1 : Int32} {v2 : Int32} {v3 : Int32} {f : Int32 → Mem → XA} (hm : mt.1.cls = RJ0) (hs : XSnd l xmt rec d) (h8 : st.length ≤ 4) (hd : decode mt.2.1 pc = .ok (.invokestatic 640, 3)) (k : ∀ x M1, Xe S G K l mt d (pc + 3) lo (.int x :: st) M1 (f x M1)) : Xe S G K l mt d pc lo (.int v3 :: .int v2 :: .int v1 :: va_rf v0 :: st) M (cI (rec 334 [va_rf v0, .int v1, .int v2, .int v3] M) f) := x_callS_I hs xq334 xm334 rfl (by rw [hm]; exact lmJ0_640) ms334 rfl rfl h8 hd k
theorem xm326 : XMi (yJ0_checkIndex_df160, cJ0_checkIndex_df160, 2, none) 2 := ⟨xbt1 73 rfl (by decide +kernel), xbt1 4 (by decide +kernel) (by decide +kernel), by decide +kernel, by decide +kernel, by decide, by decide +kernel⟩
theorem xq326 : xmt 326 = (yJ0_checkIndex_df160, cJ0_checkIndex_df160, 2, none) := rfl
theorem lmJ1_9 : Cond.methodLink RJ1 9 yJ0_checkIndex_df160 ∈ xbig := xbt1 71 (by decide +kernel) (by decide +kernel)
theorem ms326 : Cond.static yJ0_checkIndex_df160 ∈ xbig := xbt1 72 (by decide +kernel) (by decide +kernel)
theorem cmJ1_9 {v0 : Int32} {v1 : Int32} {f : Mem → XA} (hm : mt.1.cls = RJ1) (hs : XSnd l xmt rec d) (h8 : st.length ≤ 4) (hd : decode mt.2.1 pc = .ok (.invokestatic 9, 3)) (k : ∀ M1, Xe S G K l mt d (pc + 3) lo st M1 (f M1)) : Xe S G K l mt d pc lo (.int v1 :: .int v0 :: st) M (cV (rec 326 [.int v0, .int v1] M) f) := x_callS_V hs xq326 xm326 rfl (by rw [hm]; exact lmJ1_9) ms326 rfl rfl h8 hd k
theorem xm329 : XMi (yJ1_canEncode_9a6ad, cJ1_canEncode_9a6ad, 1, some .boolean) 1 := ⟨xbt3 72 rfl (by decide +kernel), xbt1 5 (by decide +kernel) (by decide +kernel), by decide +kernel, by decide +kernel, by decide, by decide +kernel⟩
theorem xq329 : xmt 329 = (yJ1_canEncode_9a6ad, cJ1_canEncode_9a6ad, 1, some .boolean) := rfl
theorem lmJ1_88 : Cond.methodLink RJ1 88 yJ1_canEncode_9a6ad ∈ xbig := xbt3 70 (by decide +kernel) (by decide +kernel)
theorem ms329 : Cond.static yJ1_canEncode_9a6ad ∈ xbig := xbt3 71 (by decide +kernel) (by decide +kernel)
theorem cmJ1_88 {v0 : Int32} {f : Int32 → Mem → XA} (hm : mt.1.cls = RJ1) (hs : XSnd l xmt rec d) (h8 : st.length ≤ 4) (hd : decode mt.2.1 pc = .ok (.invokestatic 88, 3)) (k : ∀ x M1, Xe S G K l mt d (pc + 3) lo (.int x :: st) M1 (f x M1)) : Xe S G K l mt d pc lo (.int v0 :: st) M (cI (rec 329 [.int v0] M) f) := x_callS_I hs xq329 xm329 rfl (by rw [hm]; exact lmJ1_88) ms329 rfl rfl h8 hd k
theorem xm331 : XMi (yJ1_indexOfChar_4cfef, cJ1_indexOfChar_4cfef, 6, some .int) 4 := ⟨xbt3 81 rfl (by decide +kernel), xbt1 5 (by decide +kernel) (by decide +kernel), by decide +kernel, by decide +kernel, by decide, by decide +kernel⟩
theorem xq331 : xmt 331 = (yJ1_indexOfChar_4cfef, cJ1_indexOfChar_4cfef, 6, some .int) := rfl
theorem lmJ1_95 : Cond.methodLink RJ1 95 yJ1_indexOfChar_4cfef ∈ xbig := xbt3 79 (by decide +kernel) (by decide +kernel)
theorem ms331 : Cond.static yJ1_indexOfChar_4cfef ∈ xbig := xbt3 80 (by decide +kernel) (by decide +kernel)
theorem cmJ1_95 {v0 : Option Nat} {v1 : Int32} {v2 : Int32} {v3 : Int32} {f : Int32 → Mem → XA} (hm : mt.1.cls = RJ1) (hs : XSnd l xmt rec d) (h8 : st.length ≤ 4) (hd : decode mt.2.1 pc = .ok (.invokestatic 95, 3)) (k : ∀ x M1, Xe S G K l mt d (pc + 3) lo (.int x :: st) M1 (f x M1)) : Xe S G K l mt d pc lo (.int v3 :: .int v2 :: .int v1 :: va_rf v0 :: st) M (cI (rec 331 [va_rf v0, .int v1, .int v2, .int v3] M) f) := x_callS_I hs xq331 xm331 rfl (by rw [hm]; exact lmJ1_95) ms331 rfl rfl h8 hd k
theorem xm333 : XMi (yJ2_length_9d52b, cJ2_length_9d52b, 1, some .int) 1 := ⟨xbt1 87 rfl (by decide +kernel), xbt1 7 (by decide +kernel) (by decide +kernel), by decide +kernel, by decide +kernel, by decide, by decide +kernel⟩
theorem xq333 : xmt 333 = (yJ2_length_9d52b, cJ2_length_9d52b, 1, some .int) := rfl
theorem lmJ2_48 : Cond.methodLink RJ2 48 yJ2_length_9d52b ∈ xbig := xbt1 85 (by decide +kernel) (by decide +kernel)
theorem ms333 : Cond.static yJ2_length_9d52b ∈ xbig := xbt1 86 (by decide +kernel) (by decide +kernel)
theorem cmJ2_48 {v0 : Option Nat} {f : Int32 → Mem → XA} (hm : mt.1.cls = RJ2) (hs : XSnd l xmt rec d) (h8 : st.length ≤ 4) (hd : decode mt.2.1 pc = .ok (.invokestatic 48, 3)) (k : ∀ x M1, Xe S G K l mt d (pc + 3) lo (.int x :: st) M1 (f x M1)) : Xe S G K l mt d pc lo (va_rf v0 :: st) M (cI (rec 333 [va_rf v0] M) f) := x_callS_I hs xq333 xm333 rfl (by rw [hm]; exact lmJ2_48) ms333 rfl rfl h8 hd k
theorem xm339 : XMi (yJ2_checkIndex_2214a, cJ2_checkIndex_2214a, 2, none) 2 := ⟨xbt1 84 rfl (by decide +kernel), xbt1 7 (by decide +kernel) (by decide +kernel), by decide +kernel, by decide +kernel, by decide, by decide +kernel⟩
theorem xq339 : xmt 339 = (yJ2_checkIndex_2214a, cJ2_checkIndex_2214a, 2, none) := rfl
theorem lmJ2_67 : Cond.methodLink RJ2 67 yJ2_checkIndex_2214a ∈ xbig := xbt1 82 (by decide +kernel) (by decide +kernel)
theorem ms339 : Cond.static yJ2_checkIndex_2214a ∈ xbig := xbt1 83 (by decide +kernel) (by decide +kernel)
theorem cmJ2_67 {v0 : Int32} {v1 : Option Nat} {f : Mem → XA} (hm : mt.1.cls = RJ2) (hs : XSnd l xmt rec d) (h8 : st.length ≤ 4) (hd : decode mt.2.1 pc = .ok (.invokestatic 67, 3)) (k : ∀ M1, Xe S G K l mt d (pc + 3) lo st M1 (f M1)) : Xe S G K l mt d pc lo (va_rf v1 :: .int v0 :: st) M (cV (rec 339 [.int v0, va_rf v1] M) f) := x_callS_V hs xq339 xm339 rfl (by rw [hm]; exact lmJ2_67) ms339 rfl rfl h8 hd k
theorem xm332 : XMi (yJ2_getChar_3b067, cJ2_getChar_3b067, 2, some .char) 2 := ⟨xbt1 91 rfl (by decide +kernel), xbt1 7 (by decide +kernel) (by decide +kernel), by decide +kernel, by decide +kernel, by decide, by decide +kernel⟩
theorem xq332 : xmt 332 = (yJ2_getChar_3b067, cJ2_getChar_3b067, 2, some .char) := rfl
theorem lmJ2_71 : Cond.methodLink RJ2 71 yJ2_getChar_3b067 ∈ xbig := xbt1 89 (by decide +kernel) (by decide +kernel)
theorem ms332 : Cond.static yJ2_getChar_3b067 ∈ xbig := xbt1 90 (by decide +kernel) (by decide +kernel)
theorem cmJ2_71 {v0 : Option Nat} {v1 : Int32} {f : Int32 → Mem → XA} (hm : mt.1.cls = RJ2) (hs : XSnd l xmt rec d) (h8 : st.length ≤ 4) (hd : decode mt.2.1 pc = .ok (.invokestatic 71, 3)) (k : ∀ x M1, Xe S G K l mt d (pc + 3) lo (.int x :: st) M1 (f x M1)) : Xe S G K l mt d pc lo (.int v1 :: va_rf v0 :: st) M (cI (rec 332 [va_rf v0, .int v1] M) f) := x_callS_I hs xq332 xm332 rfl (by rw [hm]; exact lmJ2_71) ms332 rfl rfl h8 hd k
theorem xm340 : XMi (yJ2_checkBoundsBeginEnd_d044e, cJ2_checkBoundsBeginEnd_d044e, 3, none) 3 := ⟨xbt3 93 rfl (by decide +kernel), xbt1 7 (by decide +kernel) (by decide +kernel), by decide +kernel, by decide +kernel, by decide, by decide +kernel⟩
theorem xq340 : xmt 340 = (yJ2_checkBoundsBeginEnd_d044e, cJ2_checkBoundsBeginEnd_d044e, 3, none) := rfl
theorem lmJ2_96 : Cond.methodLink RJ2 96 yJ2_checkBoundsBeginEnd_d044e ∈ xbig := xbt3 91 (by decide +kernel) (by decide +kernel)
theorem ms340 : Cond.static yJ2_checkBoundsBeginEnd_d044e ∈ xbig := xbt3 92 (by decide +kernel) (by decide +kernel)
theorem cmJ2_96 {v0 : Int32} {v1 : Int32} {v2 : Option Nat} {f : Mem → XA} (hm : mt.1.cls = RJ2) (hs : XSnd l xmt rec d) (h8 : st.length ≤ 4) (hd : decode mt.2.1 pc = .ok (.invokestatic 96, 3)) (k : ∀ M1, Xe S G K l mt d (pc + 3) lo st M1 (f M1)) : Xe S G K l mt d pc lo (va_rf v2 :: .int v1 :: .int v0 :: st) M (cV (rec 340 [.int v0, .int v1, va_rf v2] M) f) := x_callS_V hs xq340 xm340 rfl (by rw [hm]; exact lmJ2_96) ms340 rfl rfl h8 hd k
theorem xm311 : XMi (yJ11_highSurrogate_5068e, cJ11_highSurrogate_5068e, 1, some .char) 1 := ⟨xbt3 111 rfl (by decide +kernel), xbt1 17 (by decide +kernel) (by decide +kernel), by decide +kernel, by decide +kernel, by decide, by decide +kernel⟩
theorem xq311 : xmt 311 = (yJ11_highSurrogate_5068e, cJ11_highSurrogate_5068e, 1, some .char) := rfl
theorem lmJ2_157 : Cond.methodLink RJ2 157 yJ11_highSurrogate_5068e ∈ xbig := xbt3 109 (by decide +kernel) (by decide +kernel)
theorem ms311 : Cond.static yJ11_highSurrogate_5068e ∈ xbig := xbt3 110 (by decide +kernel) (by decide +kernel)
theorem cmJ2_157 {v0 : Int32} {f : Int32 → Mem → XA} (hm : mt.1.cls = RJ2) (hs : XSnd l xmt rec d) (h8 : st.length ≤ 4) (hd : decode mt.2.1 pc = .ok (.invokestatic 157, 3)) (k : ∀ x M1, Xe S G K l mt d (pc + 3) lo (.int x :: st) M1 (f x M1)) : Xe S G K l mt d pc lo (.int v0 :: st) M (cI (rec 311 [.int v0] M) f) := x_callS_I hs xq311 xm311 rfl (by rw [hm]; exact lmJ2_157) ms311 rfl rfl h8 hd k
theorem xm312 : XMi (yJ11_lowSurrogate_5068e, cJ11_lowSurrogate_5068e, 1, some .char) 1 := ⟨xbt3 115 rfl (by decide +kernel), xbt1 17 (by decide +kernel) (by decide +kernel), by decide +kernel, by decide +kernel, by decide, by decide +kernel⟩
theorem xq312 : xmt 312 = (yJ11_lowSurrogate_5068e, cJ11_lowSurrogate_5068e, 1, some .char) := rfl
theorem lmJ2_161 : Cond.methodLink RJ2 161 yJ11_lowSurrogate_5068e ∈ xbig := xbt3 113 (by decide +kernel) (by decide +kernel)
theorem ms312 : Cond.static yJ11_lowSurrogate_5068e ∈ xbig := xbt3 114 (by decide +kernel) (by decide +kernel)
theorem cmJ2_161 {v0 : Int32} {f : Int32 → Mem → XA} (hm : mt.1.cls = RJ2) (hs : XSnd l xmt rec d) (h8 : st.length ≤ 4) (hd : decode mt.2.1 pc = .ok (.invokestatic 161, 3)) (k : ∀ x M1, Xe S G K l mt d (pc + 3) lo (.int x :: st) M1 (f x M1)) : Xe S G K l mt d pc lo (.int v0 :: st) M (cI (rec 312 [.int v0] M) f) := x_callS_I hs xq312 xm312 rfl (by rw [hm]; exact lmJ2_161) ms312 rfl rfl h8 hd k
theorem xm310 : XMi (yJ11_isValidCodePoint_9a6ad, cJ11_isValidCodePoint_9a6ad, 2, some .boolean) 1 := ⟨xbt3 108 rfl (by decide +kernel), xbt1 17 (by decide +kernel) (by decide +kernel), by decide +kernel, by decide +kernel, by decide, by decide +kernel⟩
theorem xq310 : xmt 310 = (yJ11_isValidCodePoint_9a6ad, cJ11_isValidCodePoint_9a6ad, 2, some .boolean) := rfl
theorem lmJ2_164 : Cond.methodLink RJ2 164 yJ11_isValidCodePoint_9a6ad ∈ xbig := xbt3 106 (by decide +kernel) (by decide +kernel)
theorem ms310 : Cond.static yJ11_isValidCodePoint_9a6ad ∈ xbig := xbt3 107 (by decide +kernel) (by decide +kernel)
theorem cmJ2_164 {v0 : Int32} {f : Int32 → Mem → XA} (hm : mt.1.cls = RJ2) (hs : XSnd l xmt rec d) (h8 : st.length ≤ 4) (hd : decode mt.2.1 pc = .ok (.invokestatic 164, 3)) (k : ∀ x M1, Xe S G K l mt d (pc + 3) lo (.int x :: st) M1 (f x M1)) : Xe S G K l mt d pc lo (.int v0 :: st) M (cI (rec 310 [.int v0] M) f) := x_callS_I hs xq310 xm310 rfl (by rw [hm]; exact lmJ2_164) ms310 rfl rfl h8 hd k
theorem xm335 : XMi (yJ2_indexOfChar_4cfef, cJ2_indexOfChar_4cfef, 4, some .int) 4 := ⟨xbt3 90 rfl (by decide +kernel), xbt1 7 (by decide +kernel) (by decide +kernel), by decide +kernel, by decide +kernel, by decide, by decide +kernel⟩
theorem xq335 : xmt 335 = (yJ2_indexOfChar_4cfef, cJ2_indexOfChar_4cfef, 4, some .int) := rfl
theorem lmJ2_228 : Cond.methodLink RJ2 228 yJ2_indexOfChar_4cfef ∈ xbig := xbt3 88 (by decide +kernel) (by decide +kernel)
theorem ms335 : Cond.static yJ2_indexOfChar_4cfef ∈ xbig := xbt3 89 (by decide +kernel) (by decide +kernel)
theorem cmJ2_228 {v0 : Option Nat} {v1 : Int32} {v2 : Int32} {v3 : Int32} {f : Int32 → Mem → XA} (hm : mt.1.cls = RJ2) (hs : XSnd l xmt rec d) (h8 : st.length ≤ 4) (hd : decode mt.2.1 pc = .ok (.invokestatic 228, 3)) (k : ∀ x M1, Xe S G K l mt d (pc + 3) lo (.int x :: st) M1 (f x M1)) : Xe S G K l mt d pc lo (.int v3 :: .int v2 :: .int v1 :: va_rf v0 :: st) M (cI (rec 335 [va_rf v0, .int v1, .int v2, .int v3] M) f) := x_callS_I hs xq335 xm335 rfl (by rw [hm]; exact lmJ2_228) ms335 rfl rfl h8 hd k
theorem xm337 : XMi (yJ2_indexOfSupplementary_4cfef, cJ2_indexOfSupplementary_4cfef, 7, some .int) 4 := ⟨xbt3 105 rfl (by decide +kernel), xbt1 7 (by decide +kernel) (by decide +kernel), by decide +kernel, by decide +kernel, by decide, by decide +kernel⟩
theorem xq337 : xmt 337 = (yJ2_indexOfSupplementary_4cfef, cJ2_indexOfSupplementary_4cfef, 7, some .int) := rfl
theorem lmJ2_232 : Cond.methodLink RJ2 232 yJ2_indexOfSupplementary_4cfef ∈ xbig := xbt3 103 (by decide +kernel) (by decide +kernel)
theorem ms337 : Cond.static yJ2_indexOfSupplementary_4cfef ∈ xbig := xbt3 104 (by decide +kernel) (by decide +kernel)
theorem cmJ2_232 {v0 : Option Nat} {v1 : Int32} {v2 : Int32} {v3 : Int32} {f : Int32 → Mem → XA} (hm : mt.1.cls = RJ2) (hs : XSnd l xmt rec d) (h8 : st.length ≤ 4) (hd : decode mt.2.1 pc = .ok (.invokestatic 232, 3)) (k : ∀ x M1, Xe S G K l mt d (pc + 3) lo (.int x :: st) M1 (f x M1)) : Xe S G K l mt d pc lo (.int v3 :: .int v2 :: .int v1 :: va_rf v0 :: st) M (cI (rec 337 [va_rf v0, .int v1, .int v2, .int v3] M) f) := x_callS_I hs xq337 xm337 rfl (by rw [hm]; exact lmJ2_232) ms337 rfl rfl h8 hd k
theorem xm327 : XMi (yJ0_checkBoundsBeginEnd_23922, cJ0_checkBoundsBeginEnd_23922, 3, none) 3 := ⟨xbt3 96 rfl (by decide +kernel), xbt1 4 (by decide +kernel) (by decide +kernel), by decide +kernel, by decide +kernel, by decide, by decide +kernel⟩
theorem xq327 : xmt 327 = (yJ0_checkBoundsBeginEnd_23922, cJ0_checkBoundsBeginEnd_23922, 3, none) := rfl
theorem lmJ2_241 : Cond.methodLink RJ2 241 yJ0_checkBoundsBeginEnd_23922 ∈ xbig := xbt3 94 (by decide +kernel) (by decide +kernel)
theorem ms327 : Cond.static yJ0_checkBoundsBeginEnd_23922 ∈ xbig := xbt3 95 (by decide +kernel) (by decide +kernel)
theorem cmJ2_241 {v0 : Int32} {v1 : Int32} {v2 : Int32} {f : Mem → XA} (hm : mt.1.cls = RJ2) (hs : XSnd l xmt rec d) (h8 : st.length ≤ 4) (hd : decode mt.2.1 pc = .ok (.invokestatic 241, 3)) (k : ∀ M1, Xe S G K l mt d (pc + 3) lo st M1 (f M1)) : Xe S G K l mt d pc lo (.int v2 :: .int v1 :: .int v0 :: st) M (cV (rec 327 [.int v0, .int v1, .int v2] M) f) := x_callS_V hs xq327 xm327 rfl (by rw [hm]; exact lmJ2_241) ms327 rfl rfl h8 hd k
theorem xm336 : XMi (yJ2_indexOfCharUnsafe_4cfef, cJ2_indexOfCharUnsafe_4cfef, 5, some .int) 4 := ⟨xbt3 102 rfl (by decide +kernel), xbt1 7 (by decide +kernel) (by decide +kernel), by decide +kernel, by decide +kernel, by decide, by decide +kernel⟩
theorem xq336 : xmt 336 = (yJ2_indexOfCharUnsafe_4cfef, cJ2_indexOfCharUnsafe_4cfef, 5, some .int) := rfl
theorem lmJ2_244 : Cond.methodLink RJ2 244 yJ2_indexOfCharUnsafe_4cfef ∈ xbig := xbt3 100 (by decide +kernel) (by decide +kernel)
theorem ms336 : Cond.static yJ2_indexOfCharUnsafe_4cfef ∈ xbig := xbt3 101 (by decide +kernel) (by decide +kernel)
theorem cmJ2_244 {v0 : Option Nat} {v1 : Int32} {v2 : Int32} {v3 : Int32} {f : Int32 → Mem → XA} (hm : mt.1.cls = RJ2) (hs : XSnd l xmt rec d) (h8 : st.length ≤ 4) (hd : decode mt.2.1 pc = .ok (.invokestatic 244, 3)) (k : ∀ x M1, Xe S G K l mt d (pc + 3) lo (.int x :: st) M1 (f x M1)) : Xe S G K l mt d pc lo (.int v3 :: .int v2 :: .int v1 :: va_rf v0 :: st) M (cI (rec 336 [va_rf v0, .int v1, .int v2, .int v3] M) f) := x_callS_I hs xq336 xm336 rfl (by rw [hm]; exact lmJ2_244) ms336 rfl rfl h8 hd k
theorem lmJ2_414 : Cond.methodLink RJ2 414 yJ0_checkIndex_df160 ∈ xbig := xbt1 88 (by decide +kernel) (by decide +kernel)
theorem cmJ2_414 {v0 : Int32} {v1 : Int32} {f : Mem → XA} (hm : mt.1.cls = RJ2) (hs : XSnd l xmt rec d) (h8 : st.length ≤ 4) (hd : decode mt.2.1 pc = .ok (.invokestatic 414, 3)) (k : ∀ M1, Xe S G K l mt d (pc + 3) lo st M1 (f M1)) : Xe S G K l mt d pc lo (.int v1 :: .int v0 :: st) M (cV (rec 326 [.int v0, .int v1] M) f) := x_callS_V hs xq326 xm326 rfl (by rw [hm]; exact lmJ2_414) ms326 rfl rfl h8 hd k
theorem xm341 : XMi (yJxa1e45_init_da8c8, cJxa1e45_init_da8c8, 1, none) 0 := ⟨xbt1 218 rfl (by decide +kernel), xbt1 8 (by decide +kernel) (by decide +kernel), by decide +kernel, by decide +kernel, by decide, by decide +kernel⟩
theorem xq341 : xmt 341 = (yJxa1e45_init_da8c8, cJxa1e45_init_da8c8, 1, none) := rfl
theorem lmJxc12de_1 : Cond.methodLink RJxc12de 1 yJxa1e45_init_da8c8 ∈ xbig := xbt1 216 (by decide +kernel) (by decide +kernel)
theorem mi341 : Cond.instanceMethod yJxa1e45_init_da8c8 ∈ xbig := xbt1 217 (by decide +kernel) (by decide +kernel)
theorem cmJxc12de_1 {r : Option Nat} {f : Mem → XA} (hm : mt.1.cls = RJxc12de) (hs : XSnd l xmt rec d) (h8 : st.length ≤ 4) (hd : decode mt.2.1 pc = .ok (.invokespecial 1, 3)) (k : ∀ M1, Xe S G K l mt d (pc + 3) lo st M1 (f M1)) : Xe S G K l mt d pc lo (va_rf r :: st) M (vC (0, 3) M r (cV (rec 341 ([va_rf r]) M) f)) := x_callI_V hs xq341 xm341 rfl rfl (by rw [hm]; exact lmJxc12de_1) mi341 rfl rfl h8 hd k
theorem xm342 : XMi (yJxc12de_init_da8c8, cJxc12de_init_da8c8, 1, none) 0 := ⟨xbt1 215 rfl (by decide +kernel), xbt1 9 (by decide +kernel) (by decide +kernel), by decide +kernel, by decide +kernel, by decide, by decide +kernel⟩
theorem xq342 : xmt 342 = (yJxc12de_init_da8c8, cJxc12de_init_da8c8, 1, none) := rfl
theorem lmJx4a65c_1 : Cond.methodLink RJx4a65c 1 yJxc12de_init_da8c8 ∈ xbig := xbt1 213 (by decide +kernel) (by decide +kernel)
theorem mi342 : Cond.instanceMethod yJxc12de_init_da8c8 ∈ xbig := xbt1 214 (by decide +kernel) (by decide +kernel)
theorem cmJx4a65c_1 {r : Option Nat} {f : Mem → XA} (hm : mt.1.cls = RJx4a65c) (hs : XSnd l xmt rec d) (h8 : st.length ≤ 4) (hd : decode mt.2.1 pc = .ok (.invokespecial 1, 3)) (k : ∀ M1, Xe S G K l mt d (pc + 3) lo st M1 (f M1)) : Xe S G K l mt d pc lo (va_rf r :: st) M (vC (0, 3) M r (cV (rec 342 ([va_rf r]) M) f)) := x_callI_V hs xq342 xm342 rfl rfl (by rw [hm]; exact lmJx4a65c_1) mi342 rfl rfl h8 hd k
theorem xm354 : XMi (yJ7_copyOf_1904c, cJ7_copyOf_1904c, 2, some (.array (.object "java/lang/Object"))) 2 := ⟨xbt4 1 rfl (by decide +kernel), xbt1 21 (by decide +kernel) (by decide +kernel), by decide +kernel, by decide +kernel, by decide, by decide +kernel⟩
theorem xq354 : xmt 354 = (yJ7_copyOf_1904c, cJ7_copyOf_1904c, 2, some (.array (.object "java/lang/Object"))) := rfl
theorem lmJx4a65c_66 : Cond.methodLink RJx4a65c 66 yJ7_copyOf_1904c ∈ xbig := xbt3 239 (by decide +kernel) (by decide +kernel)
theorem ms354 : Cond.static yJ7_copyOf_1904c ∈ xbig := xbt4 0 (by decide +kernel) (by decide +kernel)
theorem cmJx4a65c_66 {v0 : Option Nat} {v1 : Int32} {f : Option Nat → Mem → XA} (hm : mt.1.cls = RJx4a65c) (hs : XSnd l xmt rec d) (h8 : st.length ≤ 4) (hd : decode mt.2.1 pc = .ok (.invokestatic 66, 3)) (k : ∀ x M1, Xe S G K l mt d (pc + 3) lo (va_rf x :: st) M1 (f x M1)) : Xe S G K l mt d pc lo (.int v1 :: va_rf v0 :: st) M (cP (rec 354 [va_rf v0, .int v1] M) f) := x_callS_P hs xq354 xm354 rfl (by rw [hm]; exact lmJx4a65c_66) ms354 rfl rfl h8 hd k
theorem xm344 : XMi (yJx4a65c_grow_92f84, cJx4a65c_grow_92f84, 4, some (.array (.object "java/lang/Object"))) 1 := ⟨xbt3 230 rfl (by decide +kernel), xbt1 10 (by decide +kernel) (by decide +kernel), by decide +kernel, by decide +kernel, by decide, by decide +kernel⟩
theorem xq344 : xmt 344 = (yJx4a65c_grow_92f84, cJx4a65c_grow_92f84, 4, some (.array (.object "java/lang/Object"))) := rfl
theorem lmJx4a65c_69 : Cond.methodLink RJx4a65c 69 yJx4a65c_grow_92f84 ∈ xbig := xbt3 227 (by decide +kernel) (by decide +kernel)
theorem mi344 : Cond.instanceMethod yJx4a65c_grow_92f84 ∈ xbig := xbt3 229 (by decide +kernel) (by decide +kernel)
theorem mse344 : Cond.selects RJx4a65c yJx4a65c_grow_92f84 yJx4a65c_grow_92f84 ∈ xbig := xb_mem 15 (by decide +kernel) (by decide +kernel)
theorem cmJx4a65c_69 {r : Option Nat} {v0 : Int32} {f : Option Nat → Mem → XA} (hm : mt.1.cls = RJx4a65c) (hs : XSnd l xmt rec d) (h8 : st.length ≤ 4) (hd : decode mt.2.1 pc = .ok (.invokevirtual 69, 3)) (k : ∀ x M1, Xe S G K l mt d (pc + 3) lo (va_rf x :: st) M1 (f x M1)) : Xe S G K l mt d pc lo (.int v0 :: va_rf r :: st) M (vC (0, 3) M r (cP (rec 344 ([va_rf r, .int v0]) M) f)) := x_callV_P hs xq344 xm344 xci0 rfl (by rw [hm]; exact lmJx4a65c_69) mi344 mse344 rfl rfl h8 hd k
theorem xm358 : XMi (yJ8_newLength_cabcc, cJ8_newLength_cabcc, 4, some .int) 3 := ⟨xbt3 233 rfl (by decide +kernel), xbt1 20 (by decide +kernel) (by decide +kernel), by decide +kernel, by decide +kernel, by decide, by decide +kernel⟩
theorem xq358 : xmt 358 = (yJ8_newLength_cabcc, cJ8_newLength_cabcc, 4, some .int) := rfl
theorem lmJx4a65c_73 : Cond.methodLink RJx4a65c 73 yJ8_newLength_cabcc ∈ xbig := xbt3 231 (by decide +kernel) (by decide +kernel)
theorem ms358 : Cond.static yJ8_newLength_cabcc ∈ xbig := xbt3 232 (by decide +kernel) (by decide +kernel)
theorem cmJx4a65c_73 {v0 : Int32} {v1 : Int32} {v2 : Int32} {f : Int32 → Mem → XA} (hm : mt.1.cls = RJx4a65c) (hs : XSnd l xmt rec d) (h8 : st.length ≤ 4) (hd : decode mt.2.1 pc = .ok (.invokestatic 73, 3)) (k : ∀ x M1, Xe S G K l mt d (pc + 3) lo (.int x :: st) M1 (f x M1)) : Xe S G K l mt d pc lo (.int v2 :: .int v1 :: .int v0 :: st) M (cI (rec 358 [.int v0, .int v1, .int v2] M) f) := x_callS_I hs xq358 xm358 rfl (by rw [hm]; exact lmJx4a65c_73) ms358 rfl rfl h8 hd k
theorem xm357 : XMi (yJ15_checkIndex_7cf53, cJ15_checkIndex_7cf53, 2, some .int) 2 := ⟨xbt3 148 rfl (by decide +kernel), xbt1 18 (by decide +kernel) (by decide +kernel), by decide +kernel, by decide +kernel, by decide, by decide +kernel⟩
theorem xq357 : xmt 357 = (yJ15_checkIndex_7cf53, cJ15_checkIndex_7cf53, 2, some .int) := rfl
theorem lmJx4a65c_118 : Cond.methodLink RJx4a65c 118 yJ15_checkIndex_7cf53 ∈ xbig := xbt3 146 (by decide +kernel) (by decide +kernel)
theorem ms357 : Cond.static yJ15_checkIndex_7cf53 ∈ xbig := xbt3 147 (by decide +kernel) (by decide +kernel)
theorem cmJx4a65c_118 {v0 : Int32} {v1 : Int32} {f : Int32 → Mem → XA} (hm : mt.1.cls = RJx4a65c) (hs : XSnd l xmt rec d) (h8 : st.length ≤ 4) (hd : decode mt.2.1 pc = .ok (.invokestatic 118, 3)) (k : ∀ x M1, Xe S G K l mt d (pc + 3) lo (.int x :: st) M1 (f x M1)) : Xe S G K l mt d pc lo (.int v1 :: .int v0 :: st) M (cI (rec 357 [.int v0, .int v1] M) f) := x_callS_I hs xq357 xm357 rfl (by rw [hm]; exact lmJx4a65c_118) ms357 rfl rfl h8 hd k
theorem xm347 : XMi (yJx4a65c_elementData_915e3, cJx4a65c_elementData_915e3, 2, some (.object "java/lang/Object")) 1 := ⟨xbt3 153 rfl (by decide +kernel), xbt1 10 (by decide +kernel) (by decide +kernel), by decide +kernel, by decide +kernel, by decide, by decide +kernel⟩
theorem xq347 : xmt 347 = (yJx4a65c_elementData_915e3, cJx4a65c_elementData_915e3, 2, some (.object "java/lang/Object")) := rfl
theorem lmJx4a65c_123 : Cond.methodLink RJx4a65c 123 yJx4a65c_elementData_915e3 ∈ xbig := xbt3 150 (by decide +kernel) (by decide +kernel)
theorem mi347 : Cond.instanceMethod yJx4a65c_elementData_915e3 ∈ xbig := xbt3 151 (by decide +kernel) (by decide +kernel)
theorem mse347 : Cond.selects RJx4a65c yJx4a65c_elementData_915e3 yJx4a65c_elementData_915e3 ∈ xbig := xbt3 152 (by decide +kernel) (by decide +kernel)
theorem cmJx4a65c_123 {r : Option Nat} {v0 : Int32} {f : Option Nat → Mem → XA} (hm : mt.1.cls = RJx4a65c) (hs : XSnd l xmt rec d) (h8 : st.length ≤ 4) (hd : decode mt.2.1 pc = .ok (.invokevirtual 123, 3)) (k : ∀ x M1, Xe S G K l mt d (pc + 3) lo (va_rf x :: st) M1 (f x M1)) : Xe S G K l mt d pc lo (.int v0 :: va_rf r :: st) M (vC (0, 3) M r (cP (rec 347 ([va_rf r, .int v0]) M) f)) := x_callV_P hs xq347 xm347 xci0 rfl (by rw [hm]; exact lmJx4a65c_123) mi347 mse347 rfl rfl h8 hd k
theorem xm345 : XMi (yJx4a65c_grow_d5877, cJx4a65c_grow_d5877, 1, some (.array (.object "java/lang/Object"))) 0 := ⟨xbt3 226 rfl (by decide +kernel), xbt1 10 (by decide +kernel) (by decide +kernel), by decide +kernel, by decide +kernel, by decide, by decide +kernel⟩
theorem xq345 : xmt 345 = (yJx4a65c_grow_d5877, cJx4a65c_grow_d5877, 1, some (.array (.object "java/lang/Object"))) := rfl
theorem lmJx4a65c_129 : Cond.methodLink RJx4a65c 129 yJx4a65c_grow_d5877 ∈ xbig := xbt3 223 (by decide +kernel) (by decide +kernel)
theorem mi345 : Cond.instanceMethod yJx4a65c_grow_d5877 ∈ xbig := xbt3 225 (by decide +kernel) (by decide +kernel)
theorem mse345 : Cond.selects RJx4a65c yJx4a65c_grow_d5877 yJx4a65c_grow_d5877 ∈ xbig := xb_mem 14 (by decide +kernel) (by decide +kernel)
theorem cmJx4a65c_129 {r : Option Nat} {f : Option Nat → Mem → XA} (hm : mt.1.cls = RJx4a65c) (hs : XSnd l xmt rec d) (h8 : st.length ≤ 4) (hd : decode mt.2.1 pc = .ok (.invokevirtual 129, 3)) (k : ∀ x M1, Xe S G K l mt d (pc + 3) lo (va_rf x :: st) M1 (f x M1)) : Xe S G K l mt d pc lo (va_rf r :: st) M (vC (0, 3) M r (cP (rec 345 ([va_rf r]) M) f)) := x_callV_P hs xq345 xm345 xci0 rfl (by rw [hm]; exact lmJx4a65c_129) mi345 mse345 rfl rfl h8 hd k
theorem xm349 : XMi (yJx4a65c_add_72be8, cJx4a65c_add_72be8, 4, none) 3 := ⟨xbt3 222 rfl (by decide +kernel), xbt1 10 (by decide +kernel) (by decide +kernel), by decide +kernel, by decide +kernel, by decide, by decide +kernel⟩
theorem xq349 : xmt 349 = (yJx4a65c_add_72be8, cJx4a65c_add_72be8, 4, none) := rfl
theorem lmJx4a65c_131 : Cond.methodLink RJx4a65c 131 yJx4a65c_add_72be8 ∈ xbig := xbt3 219 (by decide +kernel) (by decide +kernel)
theorem mi349 : Cond.instanceMethod yJx4a65c_add_72be8 ∈ xbig := xbt3 221 (by decide +kernel) (by decide +kernel)
theorem mse349 : Cond.selects RJx4a65c yJx4a65c_add_72be8 yJx4a65c_add_72be8 ∈ xbig := xb_mem 13 (by decide +kernel) (by decide +kernel)
theorem cmJx4a65c_131 {r : Option Nat} {v0 : Option Nat} {v1 : Option Nat} {v2 : Int32} {f : Mem → XA} (hm : mt.1.cls = RJx4a65c) (hs : XSnd l xmt rec d) (h8 : st.length ≤ 4) (hd : decode mt.2.1 pc = .ok (.invokevirtual 131, 3)) (k : ∀ M1, Xe S G K l mt d (pc + 3) lo st M1 (f M1)) : Xe S G K l mt d pc lo (.int v2 :: va_rf v1 :: va_rf v0 :: va_rf r :: st) M (vC (0, 3) M r (cV (rec 349 ([va_rf r, va_rf v0, va_rf v1, .int v2]) M) f)) := x_callV_V hs xq349 xm349 xci0 rfl (by rw [hm]; exact lmJx4a65c_131) mi349 mse349 rfl rfl h8 hd k
theorem xm351 : XMi (yJ7_rangeCheck_23922, cJ7_rangeCheck_23922, 3, none) 3 := ⟨xbt6 40 rfl (by decide +kernel), xbt1 21 (by decide +kernel) (by decide +kernel), by decide +kernel, by decide +kernel, by decide, by decide +kernel⟩
theorem xq351 : xmt 351 = (yJ7_rangeCheck_23922, cJ7_rangeCheck_23922, 3, none) := rfl
theorem lmJ7_13 : Cond.methodLink RJ7 13 yJ7_rangeCheck_23922 ∈ xbig := xbt6 38 (by decide +kernel) (by decide +kernel)
theorem ms351 : Cond.static yJ7_rangeCheck_23922 ∈ xbig := xbt6 39 (by decide +kernel) (by decide +kernel)
theorem cmJ7_13 {v0 : Int32} {v1 : Int32} {v2 : Int32} {f : Mem → XA} (hm : mt.1.cls = RJ7) (hs : XSnd l xmt rec d) (h8 : st.length ≤ 4) (hd : decode mt.2.1 pc = .ok (.invokestatic 13, 3)) (k : ∀ M1, Xe S G K l mt d (pc + 3) lo st M1 (f M1)) : Xe S G K l mt d pc lo (.int v2 :: .int v1 :: .int v0 :: st) M (cV (rec 351 [.int v0, .int v1, .int v2] M) f) := x_callS_V hs xq351 xm351 rfl (by rw [hm]; exact lmJ7_13) ms351 rfl rfl h8 hd k
theorem xm355 : XMi (yJ7_copyOf_6403c, cJ7_copyOf_6403c, 4, some (.array (.object "java/lang/Object"))) 3 := ⟨xbt4 22 rfl (by decide +kernel), xbt1 21 (by decide +kernel) (by decide +kernel), by decide +kernel, by decide +kernel, by decide, by decide +kernel⟩
theorem xq355 : xmt 355 = (yJ7_copyOf_6403c, cJ7_copyOf_6403c, 4, some (.array (.object "java/lang/Object"))) := rfl
theorem lmJ7_300 : Cond.methodLink RJ7 300 yJ7_copyOf_6403c ∈ xbig := xbt4 20 (by decide +kernel) (by decide +kernel)
theorem ms355 : Cond.static yJ7_copyOf_6403c ∈ xbig := xbt4 21 (by decide +kernel) (by decide +kernel)
theorem cmJ7_300 {v0 : Option Nat} {v1 : Int32} {v2 : Option Nat} {f : Option Nat → Mem → XA} (hm : mt.1.cls = RJ7) (hs : XSnd l xmt rec d) (h8 : st.length ≤ 4) (hd : decode mt.2.1 pc = .ok (.invokestatic 300, 3)) (k : ∀ x M1, Xe S G K l mt d (pc + 3) lo (va_rf x :: st) M1 (f x M1)) : Xe S G K l mt d pc lo (va_rf v2 :: .int v1 :: va_rf v0 :: st) M (cP (rec 355 [va_rf v0, .int v1, va_rf v2] M) f) := x_callS_P hs xq355 xm355 rfl (by rw [hm]; exact lmJ7_300) ms355 rfl rfl h8 hd k
theorem xm360 : XMi (yJ3_checkIndex_8e157, cJ3_checkIndex_8e157, 3, some .int) 3 := ⟨xbt1 78 rfl (by decide +kernel), xbt1 6 (by decide +kernel) (by decide +kernel), by decide +kernel, by decide +kernel, by decide, by decide +kernel⟩
theorem xq360 : xmt 360 = (yJ3_checkIndex_8e157, cJ3_checkIndex_8e157, 3, some .int) := rfl
theorem lmJ15_105 : Cond.methodLink RJ15 105 yJ3_checkIndex_8e157 ∈ xbig := xbt3 149 (by decide +kernel) (by decide +kernel)
theorem ms360 : Cond.static yJ3_checkIndex_8e157 ∈ xbig := xbt1 77 (by decide +kernel) (by decide +kernel)
theorem cmJ15_105 {v0 : Int32} {v1 : Int32} {v2 : Option Nat} {f : Int32 → Mem → XA} (hm : mt.1.cls = RJ15) (hs : XSnd l xmt rec d) (h8 : st.length ≤ 4) (hd : decode mt.2.1 pc = .ok (.invokestatic 105, 3)) (k : ∀ x M1, Xe S G K l mt d (pc + 3) lo (.int x :: st) M1 (f x M1)) : Xe S G K l mt d pc lo (va_rf v2 :: .int v1 :: .int v0 :: st) M (cI (rec 360 [.int v0, .int v1, va_rf v2] M) f) := x_callS_I hs xq360 xm360 rfl (by rw [hm]; exact lmJ15_105) ms360 rfl rfl h8 hd k
theorem xm359 : XMi (yJ8_hugeLength_7cf53, cJ8_hugeLength_7cf53, 3, some .int) 2 := ⟨xbt3 238 rfl (by decide +kernel), xbt1 20 (by decide +kernel) (by decide +kernel), by decide +kernel, by decide +kernel, by decide, by decide +kernel⟩
theorem xq359 : xmt 359 = (yJ8_hugeLength_7cf53, cJ8_hugeLength_7cf53, 3, some .int) := rfl
theorem lmJ8_201 : Cond.methodLink RJ8 201 yJ8_hugeLength_7cf53 ∈ xbig := xbt3 236 (by decide +kernel) (by decide +kernel)
theorem ms359 : Cond.static yJ8_hugeLength_7cf53 ∈ xbig := xbt3 237 (by decide +kernel) (by decide +kernel)
theorem cmJ8_201 {v0 : Int32} {v1 : Int32} {f : Int32 → Mem → XA} (hm : mt.1.cls = RJ8) (hs : XSnd l xmt rec d) (h8 : st.length ≤ 4) (hd : decode mt.2.1 pc = .ok (.invokestatic 201, 3)) (k : ∀ x M1, Xe S G K l mt d (pc + 3) lo (.int x :: st) M1 (f x M1)) : Xe S G K l mt d pc lo (.int v1 :: .int v0 :: st) M (cI (rec 359 [.int v0, .int v1] M) f) := x_callS_I hs xq359 xm359 rfl (by rw [hm]; exact lmJ8_201) ms359 rfl rfl h8 hd k
end XR11
