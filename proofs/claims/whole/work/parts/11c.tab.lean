section XR11
variable {S : XS} {G : XG} {K : Nat × Nat} {l : Launch} {mt : XMt} {d : Nat} {pc : Nat} {lo : List (Option Value)} {st : List Value} {M : Mem} {c : Option (Value × Mem)} {rec : Nat → List Value → Mem → XA}
theorem lfX12_807 : Cond.fieldLink RX12 807 "TestHouseModel" "smallMany" "I" ∈ xbig := xbt8 117 (by decide +kernel) (by decide +kernel)
theorem gfX12_807 {r : Option Nat} {f : Int32 → XA} (hm : mt.1.cls = RX12) (hd : decode mt.2.1 pc = .ok (.getfield 807, 3)) (k : ∀ x, Xe S G K l mt d (pc + 3) lo (.int x :: st) M (f x)) : Xe S G K l mt d pc lo (va_rf r :: st) M (gtI (13, 157) M r 131 f) := x_gtI xci13 (j := 131) (by decide) (ref := "TestHouseModel") (by rw [hm]; exact lfX12_807) (Or.inl rfl) rfl hd k
theorem pfX12_807 {r : Option Nat} {v : Int32} {f : Mem → XA} (hm : mt.1.cls = RX12) (hd : decode mt.2.1 pc = .ok (.putfield 807, 3)) (k : ∀ M', Xe S G K l mt d (pc + 3) lo st M' (f M')) : Xe S G K l mt d pc lo (.int v :: va_rf r :: st) M (ptI (13, 157) M r 131 v f) := x_ptI xci13 (j := 131) (by decide) (ref := "TestHouseModel") (by rw [hm]; exact lfX12_807) (Or.inl rfl) (Or.inl rfl) rfl rfl hd k
theorem lfX12_810 : Cond.fieldLink RX12 810 "TestHouseModel" "smallTries" "I" ∈ xbig := xbt8 118 (by decide +kernel) (by decide +kernel)
theorem gfX12_810 {r : Option Nat} {f : Int32 → XA} (hm : mt.1.cls = RX12) (hd : decode mt.2.1 pc = .ok (.getfield 810, 3)) (k : ∀ x, Xe S G K l mt d (pc + 3) lo (.int x :: st) M (f x)) : Xe S G K l mt d pc lo (va_rf r :: st) M (gtI (13, 157) M r 132 f) := x_gtI xci13 (j := 132) (by decide) (ref := "TestHouseModel") (by rw [hm]; exact lfX12_810) (Or.inl rfl) rfl hd k
theorem pfX12_810 {r : Option Nat} {v : Int32} {f : Mem → XA} (hm : mt.1.cls = RX12) (hd : decode mt.2.1 pc = .ok (.putfield 810, 3)) (k : ∀ M', Xe S G K l mt d (pc + 3) lo st M' (f M')) : Xe S G K l mt d pc lo (.int v :: va_rf r :: st) M (ptI (13, 157) M r 132 v f) := x_ptI xci13 (j := 132) (by decide) (ref := "TestHouseModel") (by rw [hm]; exact lfX12_810) (Or.inl rfl) (Or.inl rfl) rfl rfl hd k
theorem lfX12_813 : Cond.fieldLink RX12 813 "TestHouseModel" "smallFailure" "I" ∈ xbig := xbt8 119 (by decide +kernel) (by decide +kernel)
theorem gfX12_813 {r : Option Nat} {f : Int32 → XA} (hm : mt.1.cls = RX12) (hd : decode mt.2.1 pc = .ok (.getfield 813, 3)) (k : ∀ x, Xe S G K l mt d (pc + 3) lo (.int x :: st) M (f x)) : Xe S G K l mt d pc lo (va_rf r :: st) M (gtI (13, 157) M r 133 f) := x_gtI xci13 (j := 133) (by decide) (ref := "TestHouseModel") (by rw [hm]; exact lfX12_813) (Or.inl rfl) rfl hd k
theorem pfX12_813 {r : Option Nat} {v : Int32} {f : Mem → XA} (hm : mt.1.cls = RX12) (hd : decode mt.2.1 pc = .ok (.putfield 813, 3)) (k : ∀ M', Xe S G K l mt d (pc + 3) lo st M' (f M')) : Xe S G K l mt d pc lo (.int v :: va_rf r :: st) M (ptI (13, 157) M r 133 v f) := x_ptI xci13 (j := 133) (by decide) (ref := "TestHouseModel") (by rw [hm]; exact lfX12_813) (Or.inl rfl) (Or.inl rfl) rfl rfl hd k
theorem lfX12_816 : Cond.fieldLink RX12 816 "TestHouseModel" "histories" "I" ∈ xbig := xbt8 124 (by decide +kernel) (by decide +kernel)
theorem gfX12_816 {r : Option Nat} {f : Int32 → XA} (hm : mt.1.cls = RX12) (hd : decode mt.2.1 pc = .ok (.getfield 816, 3)) (k : ∀ x, Xe S G K l mt d (pc + 3) lo (.int x :: st) M (f x)) : Xe S G K l mt d pc lo (va_rf r :: st) M (gtI (13, 157) M r 138 f) := x_gtI xci13 (j := 138) (by decide) (ref := "TestHouseModel") (by rw [hm]; exact lfX12_816) (Or.inl rfl) rfl hd k
theorem pfX12_816 {r : Option Nat} {v : Int32} {f : Mem → XA} (hm : mt.1.cls = RX12) (hd : decode mt.2.1 pc = .ok (.putfield 816, 3)) (k : ∀ M', Xe S G K l mt d (pc + 3) lo st M' (f M')) : Xe S G K l mt d pc lo (.int v :: va_rf r :: st) M (ptI (13, 157) M r 138 v f) := x_ptI xci13 (j := 138) (by decide) (ref := "TestHouseModel") (by rw [hm]; exact lfX12_816) (Or.inl rfl) (Or.inl rfl) rfl rfl hd k
theorem lfX12_834 : Cond.fieldLink RX12 834 "TestHouseModel" "isShareTold" "Z" ∈ xbig := xbt8 134 (by decide +kernel) (by decide +kernel)
theorem gfX12_834 {r : Option Nat} {f : Int32 → XA} (hm : mt.1.cls = RX12) (hd : decode mt.2.1 pc = .ok (.getfield 834, 3)) (k : ∀ x, Xe S G K l mt d (pc + 3) lo (.int x :: st) M (f x)) : Xe S G K l mt d pc lo (va_rf r :: st) M (gtI (13, 157) M r 148 f) := x_gtI xci13 (j := 148) (by decide) (ref := "TestHouseModel") (by rw [hm]; exact lfX12_834) (Or.inl rfl) rfl hd k
theorem pfX12_834 {r : Option Nat} {v : Int32} {f : Mem → XA} (hm : mt.1.cls = RX12) (hd : decode mt.2.1 pc = .ok (.putfield 834, 3)) (k : ∀ M', Xe S G K l mt d (pc + 3) lo st M' (f M')) : Xe S G K l mt d pc lo (.int v :: va_rf r :: st) M (ptZ (13, 157) M r 148 v f) := x_ptZ xci13 (j := 148) (by decide) (ref := "TestHouseModel") (by rw [hm]; exact lfX12_834) (Or.inl rfl) (Or.inl rfl) rfl rfl hd k
theorem lfX12_837 : Cond.fieldLink RX12 837 "TestHouseModel" "shareAbove" "J" ∈ xbig := xbt8 135 (by decide +kernel) (by decide +kernel)
theorem gfX12_837 {r : Option Nat} {f : Int64 → XA} (hm : mt.1.cls = RX12) (hd : decode mt.2.1 pc = .ok (.getfield 837, 3)) (k : ∀ x, Xe S G K l mt d (pc + 3) lo (.long x :: st) M (f x)) : Xe S G K l mt d pc lo (va_rf r :: st) M (gtL (13, 157) M r 149 f) := x_gtL xci13 (j := 149) (by decide) (ref := "TestHouseModel") (by rw [hm]; exact lfX12_837) (Or.inl rfl) rfl hd k
theorem pfX12_837 {r : Option Nat} {v : Int64} {f : Mem → XA} (hm : mt.1.cls = RX12) (hd : decode mt.2.1 pc = .ok (.putfield 837, 3)) (k : ∀ M', Xe S G K l mt d (pc + 3) lo st M' (f M')) : Xe S G K l mt d pc lo (.long v :: va_rf r :: st) M (ptL (13, 157) M r 149 v f) := x_ptL xci13 (j := 149) (by decide) (ref := "TestHouseModel") (by rw [hm]; exact lfX12_837) (Or.inl rfl) (Or.inl rfl) rfl rfl hd k
theorem lfX12_840 : Cond.fieldLink RX12 840 "TestHouseModel" "shareBelow" "J" ∈ xbig := xbt8 136 (by decide +kernel) (by decide +kernel)
theorem gfX12_840 {r : Option Nat} {f : Int64 → XA} (hm : mt.1.cls = RX12) (hd : decode mt.2.1 pc = .ok (.getfield 840, 3)) (k : ∀ x, Xe S G K l mt d (pc + 3) lo (.long x :: st) M (f x)) : Xe S G K l mt d pc lo (va_rf r :: st) M (gtL (13, 157) M r 150 f) := x_gtL xci13 (j := 150) (by decide) (ref := "TestHouseModel") (by rw [hm]; exact lfX12_840) (Or.inl rfl) rfl hd k
theorem pfX12_840 {r : Option Nat} {v : Int64} {f : Mem → XA} (hm : mt.1.cls = RX12) (hd : decode mt.2.1 pc = .ok (.putfield 840, 3)) (k : ∀ M', Xe S G K l mt d (pc + 3) lo st M' (f M')) : Xe S G K l mt d pc lo (.long v :: va_rf r :: st) M (ptL (13, 157) M r 150 v f) := x_ptL xci13 (j := 150) (by decide) (ref := "TestHouseModel") (by rw [hm]; exact lfX12_840) (Or.inl rfl) (Or.inl rfl) rfl rfl hd k
theorem lfX12_847 : Cond.fieldLink RX12 847 "TestHouseModel" "blames" "I" ∈ xbig := xbt8 137 (by decide +kernel) (by decide +kernel)
theorem gfX12_847 {r : Option Nat} {f : Int32 → XA} (hm : mt.1.cls = RX12) (hd : decode mt.2.1 pc = .ok (.getfield 847, 3)) (k : ∀ x, Xe S G K l mt d (pc + 3) lo (.int x :: st) M (f x)) : Xe S G K l mt d pc lo (va_rf r :: st) M (gtI (13, 157) M r 151 f) := x_gtI xci13 (j := 151) (by decide) (ref := "TestHouseModel") (by rw [hm]; exact lfX12_847) (Or.inl rfl) rfl hd k
theorem pfX12_847 {r : Option Nat} {v : Int32} {f : Mem → XA} (hm : mt.1.cls = RX12) (hd : decode mt.2.1 pc = .ok (.putfield 847, 3)) (k : ∀ M', Xe S G K l mt d (pc + 3) lo st M' (f M')) : Xe S G K l mt d pc lo (.int v :: va_rf r :: st) M (ptI (13, 157) M r 151 v f) := x_ptI xci13 (j := 151) (by decide) (ref := "TestHouseModel") (by rw [hm]; exact lfX12_847) (Or.inl rfl) (Or.inl rfl) rfl rfl hd k
theorem lfX12_850 : Cond.fieldLink RX12 850 "TestHouseModel" "builds" "I" ∈ xbig := xbt8 140 (by decide +kernel) (by decide +kernel)
theorem gfX12_850 {r : Option Nat} {f : Int32 → XA} (hm : mt.1.cls = RX12) (hd : decode mt.2.1 pc = .ok (.getfield 850, 3)) (k : ∀ x, Xe S G K l mt d (pc + 3) lo (.int x :: st) M (f x)) : Xe S G K l mt d pc lo (va_rf r :: st) M (gtI (13, 157) M r 154 f) := x_gtI xci13 (j := 154) (by decide) (ref := "TestHouseModel") (by rw [hm]; exact lfX12_850) (Or.inl rfl) rfl hd k
theorem pfX12_850 {r : Option Nat} {v : Int32} {f : Mem → XA} (hm : mt.1.cls = RX12) (hd : decode mt.2.1 pc = .ok (.putfield 850, 3)) (k : ∀ M', Xe S G K l mt d (pc + 3) lo st M' (f M')) : Xe S G K l mt d pc lo (.int v :: va_rf r :: st) M (ptI (13, 157) M r 154 v f) := x_ptI xci13 (j := 154) (by decide) (ref := "TestHouseModel") (by rw [hm]; exact lfX12_850) (Or.inl rfl) (Or.inl rfl) rfl rfl hd k
theorem lfJxc12de_7 : Cond.fieldLink RJxc12de 7 "java/util/AbstractList" "modCount" "I" ∈ xbig := xbt1 224 (by decide +kernel) (by decide +kernel)
theorem pfJxc12de_7 {r : Option Nat} {v : Int32} {f : Mem → XA} (hm : mt.1.cls = RJxc12de) (hd : decode mt.2.1 pc = .ok (.putfield 7, 3)) (k : ∀ M', Xe S G K l mt d (pc + 3) lo st M' (f M')) : Xe S G K l mt d pc lo (.int v :: va_rf r :: st) M (ptI (0, 3) M r 0 v f) := x_ptI xci0 (j := 0) (by decide) (ref := "java/util/AbstractList") (by rw [hm]; exact lfJxc12de_7) (Or.inl rfl) (Or.inl rfl) rfl rfl hd k
theorem lfJx4a65c_9 : Cond.fieldLink RJx4a65c 9 "java/util/ArrayList" "elementData" "[Ljava/lang/Object;" ∈ xbig := xbt1 222 (by decide +kernel) (by decide +kernel)
theorem gfJx4a65c_9 {r : Option Nat} {f : Option Nat → XA} (hm : mt.1.cls = RJx4a65c) (hd : decode mt.2.1 pc = .ok (.getfield 9, 3)) (k : ∀ x, Xe S G K l mt d (pc + 3) lo (va_rf x :: st) M (f x)) : Xe S G K l mt d pc lo (va_rf r :: st) M (gtP (0, 3) M r 1 f) := x_gtP xci0 (j := 1) (by decide) (ref := "java/util/ArrayList") (by rw [hm]; exact lfJx4a65c_9) (Or.inl rfl) rfl hd k
theorem pfJx4a65c_9 {r : Option Nat} {v : Option Nat} {f : Mem → XA} (hm : mt.1.cls = RJx4a65c) (hd : decode mt.2.1 pc = .ok (.putfield 9, 3)) (k : ∀ M', Xe S G K l mt d (pc + 3) lo st M' (f M')) : Xe S G K l mt d pc lo (va_rf v :: va_rf r :: st) M (ptP (0, 3) M r 1 v f) := x_ptP xci0 (j := 1) (by decide) (ref := "java/util/ArrayList") (by rw [hm]; exact lfJx4a65c_9) (Or.inl rfl) (Or.inl rfl) rfl rfl hd k
theorem lfJx4a65c_48 : Cond.fieldLink RJx4a65c 48 "java/util/ArrayList" "size" "I" ∈ xbig := xbt1 223 (by decide +kernel) (by decide +kernel)
theorem gfJx4a65c_48 {r : Option Nat} {f : Int32 → XA} (hm : mt.1.cls = RJx4a65c) (hd : decode mt.2.1 pc = .ok (.getfield 48, 3)) (k : ∀ x, Xe S G K l mt d (pc + 3) lo (.int x :: st) M (f x)) : Xe S G K l mt d pc lo (va_rf r :: st) M (gtI (0, 3) M r 2 f) := x_gtI xci0 (j := 2) (by decide) (ref := "java/util/ArrayList") (by rw [hm]; exact lfJx4a65c_48) (Or.inl rfl) rfl hd k
theorem pfJx4a65c_48 {r : Option Nat} {v : Int32} {f : Mem → XA} (hm : mt.1.cls = RJx4a65c) (hd : decode mt.2.1 pc = .ok (.putfield 48, 3)) (k : ∀ M', Xe S G K l mt d (pc + 3) lo st M' (f M')) : Xe S G K l mt d pc lo (.int v :: va_rf r :: st) M (ptI (0, 3) M r 2 v f) := x_ptI xci0 (j := 2) (by decide) (ref := "java/util/ArrayList") (by rw [hm]; exact lfJx4a65c_48) (Or.inl rfl) (Or.inl rfl) rfl rfl hd k
theorem lfJx4a65c_63 : Cond.fieldLink RJx4a65c 63 "java/util/ArrayList" "modCount" "I" ∈ xbig := xbt1 225 (by decide +kernel) (by decide +kernel)
theorem gfJx4a65c_63 {r : Option Nat} {f : Int32 → XA} (hm : mt.1.cls = RJx4a65c) (hd : decode mt.2.1 pc = .ok (.getfield 63, 3)) (k : ∀ x, Xe S G K l mt d (pc + 3) lo (.int x :: st) M (f x)) : Xe S G K l mt d pc lo (va_rf r :: st) M (gtI (0, 3) M r 0 f) := x_gtI xci0 (j := 0) (by decide) (ref := "java/util/ArrayList") (by rw [hm]; exact lfJx4a65c_63) (Or.inr (xbt1 226 (by decide +kernel) (by decide +kernel))) rfl hd k
theorem pfJx4a65c_63 {r : Option Nat} {v : Int32} {f : Mem → XA} (hm : mt.1.cls = RJx4a65c) (hd : decode mt.2.1 pc = .ok (.putfield 63, 3)) (k : ∀ M', Xe S G K l mt d (pc + 3) lo st M' (f M')) : Xe S G K l mt d pc lo (.int v :: va_rf r :: st) M (ptI (0, 3) M r 0 v f) := x_ptI xci0 (j := 0) (by decide) (ref := "java/util/ArrayList") (by rw [hm]; exact lfJx4a65c_63) (Or.inr (xbt1 226 (by decide +kernel) (by decide +kernel))) (Or.inl rfl) rfl rfl hd k
theorem inst0 : Cond.instantiable RJx4a65c 3 ∈ xbig := xbt1 209 (by decide +kernel) (by decide +kernel)
theorem inst1 : Cond.instantiable RX0 4 ∈ xbig := xbt7 131 (by decide +kernel) (by decide +kernel)
theorem inst2 : Cond.instantiable RX1 7 ∈ xbig := xbt7 12 (by decide +kernel) (by decide +kernel)
theorem inst3 : Cond.instantiable RX2 7 ∈ xbig := xbt2 153 (by decide +kernel) (by decide +kernel)
theorem inst4 : Cond.instantiable RX3 22 ∈ xbig := xbt1 235 (by decide +kernel) (by decide +kernel)
theorem inst5 : Cond.instantiable RX4 5 ∈ xbig := xbt2 1 (by decide +kernel) (by decide +kernel)
theorem inst6 : Cond.instantiable RX5 18 ∈ xbig := xbt5 18 (by decide +kernel) (by decide +kernel)
theorem inst7 : Cond.instantiable RX6 20 ∈ xbig := xbt1 38 (by decide +kernel) (by decide +kernel)
theorem inst8 : Cond.instantiable RX7 9 ∈ xbig := xbt4 45 (by decide +kernel) (by decide +kernel)
theorem inst9 : Cond.instantiable RX8 8 ∈ xbig := xbt1 44 (by decide +kernel) (by decide +kernel)
theorem inst10 : Cond.instantiable RX9 9 ∈ xbig := xbt2 35 (by decide +kernel) (by decide +kernel)
theorem inst11 : Cond.instantiable RX10 10 ∈ xbig := xbt3 159 (by decide +kernel) (by decide +kernel)
theorem inst12 : Cond.instantiable RX11 19 ∈ xbig := xbt1 30 (by decide +kernel) (by decide +kernel)
theorem inst13 : Cond.instantiable RX12 157 ∈ xbig := xbt7 188 (by decide +kernel) (by decide +kernel)
theorem lcX11_9 : Cond.classLink RX11 9 RX6 ∈ xbig := xbt1 37 (by decide +kernel) (by decide +kernel)
theorem in_X6 : Cond.initialized RX6 ∈ xbig := xbt1 2 (by decide +kernel) (by decide +kernel)
theorem nwX11_9 {f : Option Nat → Mem → XA} (hm : mt.1.cls = RX11) (hd : decode mt.2.1 pc = .ok (.new 9, 3)) (k : ∀ r M', Xe S G K l mt d (pc + 3) lo (va_rf r :: st) M' (f r M')) : Xe S G K l mt d pc lo st M (nO (7, 20) M f) := x_nO xci7 xdf7 (by rw [hm]; exact lcX11_9) inst7 in_X6 hd k
theorem lcX11_16 : Cond.classLink RX11 16 RJx4a65c ∈ xbig := xbt1 208 (by decide +kernel) (by decide +kernel)
theorem in_Jx4a65c : Cond.initialized RJx4a65c ∈ xbig := xbt1 10 (by decide +kernel) (by decide +kernel)
theorem nwX11_16 {f : Option Nat → Mem → XA} (hm : mt.1.cls = RX11) (hd : decode mt.2.1 pc = .ok (.new 16, 3)) (k : ∀ r M', Xe S G K l mt d (pc + 3) lo (va_rf r :: st) M' (f r M')) : Xe S G K l mt d pc lo st M (nO (0, 3) M f) := x_nO xci0 xdf0 (by rw [hm]; exact lcX11_16) inst0 in_Jx4a65c hd k
theorem lcX11_23 : Cond.classLink RX11 23 RX3 ∈ xbig := xbt1 234 (by decide +kernel) (by decide +kernel)
theorem in_X3 : Cond.initialized RX3 ∈ xbig := xbt1 11 (by decide +kernel) (by decide +kernel)
theorem nwX11_23 {f : Option Nat → Mem → XA} (hm : mt.1.cls = RX11) (hd : decode mt.2.1 pc = .ok (.new 23, 3)) (k : ∀ r M', Xe S G K l mt d (pc + 3) lo (va_rf r :: st) M' (f r M')) : Xe S G K l mt d pc lo st M (nO (4, 22) M f) := x_nO xci4 xdf4 (by rw [hm]; exact lcX11_23) inst4 in_X3 hd k
theorem lcX11_36 : Cond.classLink RX11 36 RX4 ∈ xbig := xbt2 150 (by decide +kernel) (by decide +kernel)
theorem in_X4 : Cond.initialized RX4 ∈ xbig := xbt1 12 (by decide +kernel) (by decide +kernel)
theorem nwX11_36 {f : Option Nat → Mem → XA} (hm : mt.1.cls = RX11) (hd : decode mt.2.1 pc = .ok (.new 36, 3)) (k : ∀ r M', Xe S G K l mt d (pc + 3) lo (va_rf r :: st) M' (f r M')) : Xe S G K l mt d pc lo st M (nO (5, 5) M f) := x_nO xci5 xdf5 (by rw [hm]; exact lcX11_36) inst5 in_X4 hd k
theorem lcX11_43 : Cond.classLink RX11 43 RX2 ∈ xbig := xbt2 152 (by decide +kernel) (by decide +kernel)
theorem in_X2 : Cond.initialized RX2 ∈ xbig := xbt1 14 (by decide +kernel) (by decide +kernel)
theorem nwX11_43 {f : Option Nat → Mem → XA} (hm : mt.1.cls = RX11) (hd : decode mt.2.1 pc = .ok (.new 43, 3)) (k : ∀ r M', Xe S G K l mt d (pc + 3) lo (va_rf r :: st) M' (f r M')) : Xe S G K l mt d pc lo st M (nO (3, 7) M f) := x_nO xci3 xdf3 (by rw [hm]; exact lcX11_43) inst3 in_X2 hd k
theorem lcX11_101 : Cond.classLink RX11 101 RX5 ∈ xbig := xbt5 17 (by decide +kernel) (by decide +kernel)
theorem in_X5 : Cond.initialized RX5 ∈ xbig := xbt1 24 (by decide +kernel) (by decide +kernel)
theorem nwX11_101 {f : Option Nat → Mem → XA} (hm : mt.1.cls = RX11) (hd : decode mt.2.1 pc = .ok (.new 101, 3)) (k : ∀ r M', Xe S G K l mt d (pc + 3) lo (va_rf r :: st) M' (f r M')) : Xe S G K l mt d pc lo st M (nO (6, 18) M f) := x_nO xci6 xdf6 (by rw [hm]; exact lcX11_101) inst6 in_X5 hd k
theorem lcX11_338 : Cond.classLink RX11 338 RX1 ∈ xbig := xbt7 11 (by decide +kernel) (by decide +kernel)
theorem in_X1 : Cond.initialized RX1 ∈ xbig := xbt1 27 (by decide +kernel) (by decide +kernel)
theorem nwX11_338 {f : Option Nat → Mem → XA} (hm : mt.1.cls = RX11) (hd : decode mt.2.1 pc = .ok (.new 338, 3)) (k : ∀ r M', Xe S G K l mt d (pc + 3) lo (va_rf r :: st) M' (f r M')) : Xe S G K l mt d pc lo st M (nO (2, 7) M f) := x_nO xci2 xdf2 (by rw [hm]; exact lcX11_338) inst2 in_X1 hd k
theorem lcX11_393 : Cond.classLink RX11 393 RX0 ∈ xbig := xbt7 130 (by decide +kernel) (by decide +kernel)
theorem in_X0 : Cond.initialized RX0 ∈ xbig := xbt1 28 (by decide +kernel) (by decide +kernel)
theorem nwX11_393 {f : Option Nat → Mem → XA} (hm : mt.1.cls = RX11) (hd : decode mt.2.1 pc = .ok (.new 393, 3)) (k : ∀ r M', Xe S G K l mt d (pc + 3) lo (va_rf r :: st) M' (f r M')) : Xe S G K l mt d pc lo st M (nO (1, 4) M f) := x_nO xci1 xdf1 (by rw [hm]; exact lcX11_393) inst1 in_X0 hd k
theorem lcX3_9 : Cond.classLink RX3 9 RX4 ∈ xbig := xbt2 0 (by decide +kernel) (by decide +kernel)
theorem nwX3_9 {f : Option Nat → Mem → XA} (hm : mt.1.cls = RX3) (hd : decode mt.2.1 pc = .ok (.new 9, 3)) (k : ∀ r M', Xe S G K l mt d (pc + 3) lo (va_rf r :: st) M' (f r M')) : Xe S G K l mt d pc lo st M (nO (5, 5) M f) := x_nO xci5 xdf5 (by rw [hm]; exact lcX3_9) inst5 in_X4 hd k
theorem lcX3_25 : Cond.classLink RX3 25 RX9 ∈ xbig := xbt2 30 (by decide +kernel) (by decide +kernel)
theorem in_X9 : Cond.initialized RX9 ∈ xbig := xbt1 13 (by decide +kernel) (by decide +kernel)
theorem nwX3_25 {f : Option Nat → Mem → XA} (hm : mt.1.cls = RX3) (hd : decode mt.2.1 pc = .ok (.new 25, 3)) (k : ∀ r M', Xe S G K l mt d (pc + 3) lo (va_rf r :: st) M' (f r M')) : Xe S G K l mt d pc lo st M (nO (10, 9) M f) := x_nO xci10 xdf10 (by rw [hm]; exact lcX3_25) inst10 in_X9 hd k
theorem lcX6_9 : Cond.classLink RX6 9 RX8 ∈ xbig := xbt1 43 (by decide +kernel) (by decide +kernel)
theorem in_X8 : Cond.initialized RX8 ∈ xbig := xbt1 3 (by decide +kernel) (by decide +kernel)
theorem nwX6_9 {f : Option Nat → Mem → XA} (hm : mt.1.cls = RX6) (hd : decode mt.2.1 pc = .ok (.new 9, 3)) (k : ∀ r M', Xe S G K l mt d (pc + 3) lo (va_rf r :: st) M' (f r M')) : Xe S G K l mt d pc lo st M (nO (9, 8) M f) := x_nO xci9 xdf9 (by rw [hm]; exact lcX6_9) inst9 in_X8 hd k
theorem lcX6_46 : Cond.classLink RX6 46 RJx4a65c ∈ xbig := xbt3 26 (by decide +kernel) (by decide +kernel)
theorem nwX6_46 {f : Option Nat → Mem → XA} (hm : mt.1.cls = RX6) (hd : decode mt.2.1 pc = .ok (.new 46, 3)) (k : ∀ r M', Xe S G K l mt d (pc + 3) lo (va_rf r :: st) M' (f r M')) : Xe S G K l mt d pc lo st M (nO (0, 3) M f) := x_nO xci0 xdf0 (by rw [hm]; exact lcX6_46) inst0 in_Jx4a65c hd k
theorem lcX6_101 : Cond.classLink RX6 101 RX10 ∈ xbig := xbt3 154 (by decide +kernel) (by decide +kernel)
theorem in_X10 : Cond.initialized RX10 ∈ xbig := xbt1 19 (by decide +kernel) (by decide +kernel)
theorem nwX6_101 {f : Option Nat → Mem → XA} (hm : mt.1.cls = RX6) (hd : decode mt.2.1 pc = .ok (.new 101, 3)) (k : ∀ r M', Xe S G K l mt d (pc + 3) lo (va_rf r :: st) M' (f r M')) : Xe S G K l mt d pc lo st M (nO (11, 10) M f) := x_nO xci11 xdf11 (by rw [hm]; exact lcX6_101) inst11 in_X10 hd k
theorem lcX6_135 : Cond.classLink RX6 135 RX7 ∈ xbig := xbt4 44 (by decide +kernel) (by decide +kernel)
theorem in_X7 : Cond.initialized RX7 ∈ xbig := xbt1 23 (by decide +kernel) (by decide +kernel)
theorem nwX6_135 {f : Option Nat → Mem → XA} (hm : mt.1.cls = RX6) (hd : decode mt.2.1 pc = .ok (.new 135, 3)) (k : ∀ r M', Xe S G K l mt d (pc + 3) lo (va_rf r :: st) M' (f r M')) : Xe S G K l mt d pc lo st M (nO (8, 9) M f) := x_nO xci8 xdf8 (by rw [hm]; exact lcX6_135) inst8 in_X7 hd k
theorem lcL_7 : Cond.classLink RL 7 RX11 ∈ xbig := xbt1 29 (by decide +kernel) (by decide +kernel)
theorem in_X11 : Cond.initialized RX11 ∈ xbig := xbt1 1 (by decide +kernel) (by decide +kernel)
theorem nwL_7 {f : Option Nat → Mem → XA} (hm : mt.1.cls = RL) (hd : decode mt.2.1 pc = .ok (.new 7, 3)) (k : ∀ r M', Xe S G K l mt d (pc + 3) lo (va_rf r :: st) M' (f r M')) : Xe S G K l mt d pc lo st M (nO (12, 19) M f) := x_nO xci12 xdf12 (by rw [hm]; exact lcL_7) inst12 in_X11 hd k
theorem lcL_10 : Cond.classLink RL 10 RX12 ∈ xbig := xbt7 187 (by decide +kernel) (by decide +kernel)
theorem in_X12 : Cond.initialized RX12 ∈ xbig := xbt1 15 (by decide +kernel) (by decide +kernel)
theorem nwL_10 {f : Option Nat → Mem → XA} (hm : mt.1.cls = RL) (hd : decode mt.2.1 pc = .ok (.new 10, 3)) (k : ∀ r M', Xe S G K l mt d (pc + 3) lo (va_rf r :: st) M' (f r M')) : Xe S G K l mt d pc lo st M (nO (13, 157) M f) := x_nO xci13 xdf13 (by rw [hm]; exact lcL_10) inst13 in_X12 hd k
theorem ccX11_101 {r : Option Nat} (hm : mt.1.cls = RX11) (hd : decode mt.2.1 pc = .ok (.checkcast 101, 3)) (k : Xe S G K l mt d (pc + 3) lo (va_rf r :: st) M c) : Xe S G K l mt d pc lo (va_rf r :: st) M (cst (6, 18) M r c) := x_cast xci6 (by rw [hm]; exact lcX11_101) hd k
theorem lcX11_135 : Cond.classLink RX11 135 RX7 ∈ xbig := xbt5 144 (by decide +kernel) (by decide +kernel)
theorem ccX11_135 {r : Option Nat} (hm : mt.1.cls = RX11) (hd : decode mt.2.1 pc = .ok (.checkcast 135, 3)) (k : Xe S G K l mt d (pc + 3) lo (va_rf r :: st) M c) : Xe S G K l mt d pc lo (va_rf r :: st) M (cst (8, 9) M r c) := x_cast xci8 (by rw [hm]; exact lcX11_135) hd k
theorem lcX11_166 : Cond.classLink RX11 166 RX10 ∈ xbig := xbt5 156 (by decide +kernel) (by decide +kernel)
theorem ccX11_166 {r : Option Nat} (hm : mt.1.cls = RX11) (hd : decode mt.2.1 pc = .ok (.checkcast 166, 3)) (k : Xe S G K l mt d (pc + 3) lo (va_rf r :: st) M c) : Xe S G K l mt d pc lo (va_rf r :: st) M (cst (11, 10) M r c) := x_cast xci11 (by rw [hm]; exact lcX11_166) hd k
theorem ccX11_338 {r : Option Nat} (hm : mt.1.cls = RX11) (hd : decode mt.2.1 pc = .ok (.checkcast 338, 3)) (k : Xe S G K l mt d (pc + 3) lo (va_rf r :: st) M c) : Xe S G K l mt d pc lo (va_rf r :: st) M (cst (2, 7) M r c) := x_cast xci2 (by rw [hm]; exact lcX11_338) hd k
theorem ccX11_393 {r : Option Nat} (hm : mt.1.cls = RX11) (hd : decode mt.2.1 pc = .ok (.checkcast 393, 3)) (k : Xe S G K l mt d (pc + 3) lo (va_rf r :: st) M c) : Xe S G K l mt d pc lo (va_rf r :: st) M (cst (1, 4) M r c) := x_cast xci1 (by rw [hm]; exact lcX11_393) hd k
theorem lcX0_38 : Cond.classLink RX0 38 RX10 ∈ xbig := xbt7 138 (by decide +kernel) (by decide +kernel)
theorem ccX0_38 {r : Option Nat} (hm : mt.1.cls = RX0) (hd : decode mt.2.1 pc = .ok (.checkcast 38, 3)) (k : Xe S G K l mt d (pc + 3) lo (va_rf r :: st) M c) : Xe S G K l mt d pc lo (va_rf r :: st) M (cst (11, 10) M r c) := x_cast xci11 (by rw [hm]; exact lcX0_38) hd k
theorem lcX0_54 : Cond.classLink RX0 54 RX7 ∈ xbig := xbt7 142 (by decide +kernel) (by decide +kernel)
theorem ccX0_54 {r : Option Nat} (hm : mt.1.cls = RX0) (hd : decode mt.2.1 pc = .ok (.checkcast 54, 3)) (k : Xe S G K l mt d (pc + 3) lo (va_rf r :: st) M c) : Xe S G K l mt d pc lo (va_rf r :: st) M (cst (8, 9) M r c) := x_cast xci8 (by rw [hm]; exact lcX0_54) hd k
theorem lcX3_93 : Cond.classLink RX3 93 RX7 ∈ xbig := xbt5 213 (by decide +kernel) (by decide +kernel)
theorem ccX3_93 {r : Option Nat} (hm : mt.1.cls = RX3) (hd : decode mt.2.1 pc = .ok (.checkcast 93, 3)) (k : Xe S G K l mt d (pc + 3) lo (va_rf r :: st) M c) : Xe S G K l mt d pc lo (va_rf r :: st) M (cst (8, 9) M r c) := x_cast xci8 (by rw [hm]; exact lcX3_93) hd k
theorem lcX3_136 : Cond.classLink RX3 136 RX10 ∈ xbig := xbt5 231 (by decide +kernel) (by decide +kernel)
theorem ccX3_136 {r : Option Nat} (hm : mt.1.cls = RX3) (hd : decode mt.2.1 pc = .ok (.checkcast 136, 3)) (k : Xe S G K l mt d (pc + 3) lo (va_rf r :: st) M c) : Xe S G K l mt d pc lo (va_rf r :: st) M (cst (11, 10) M r c) := x_cast xci11 (by rw [hm]; exact lcX3_136) hd k
theorem lcX5_104 : Cond.classLink RX5 104 RX7 ∈ xbig := xbt5 44 (by decide +kernel) (by decide +kernel)
theorem ccX5_104 {r : Option Nat} (hm : mt.1.cls = RX5) (hd : decode mt.2.1 pc = .ok (.checkcast 104, 3)) (k : Xe S G K l mt d (pc + 3) lo (va_rf r :: st) M c) : Xe S G K l mt d pc lo (va_rf r :: st) M (cst (8, 9) M r c) := x_cast xci8 (by rw [hm]; exact lcX5_104) hd k
theorem lcX5_115 : Cond.classLink RX5 115 RX10 ∈ xbig := xbt7 173 (by decide +kernel) (by decide +kernel)
theorem ccX5_115 {r : Option Nat} (hm : mt.1.cls = RX5) (hd : decode mt.2.1 pc = .ok (.checkcast 115, 3)) (k : Xe S G K l mt d (pc + 3) lo (va_rf r :: st) M c) : Xe S G K l mt d pc lo (va_rf r :: st) M (cst (11, 10) M r c) := x_cast xci11 (by rw [hm]; exact lcX5_115) hd k
theorem ccX6_101 {r : Option Nat} (hm : mt.1.cls = RX6) (hd : decode mt.2.1 pc = .ok (.checkcast 101, 3)) (k : Xe S G K l mt d (pc + 3) lo (va_rf r :: st) M c) : Xe S G K l mt d pc lo (va_rf r :: st) M (cst (11, 10) M r c) := x_cast xci11 (by rw [hm]; exact lcX6_101) hd k
theorem ccX6_135 {r : Option Nat} (hm : mt.1.cls = RX6) (hd : decode mt.2.1 pc = .ok (.checkcast 135, 3)) (k : Xe S G K l mt d (pc + 3) lo (va_rf r :: st) M c) : Xe S G K l mt d pc lo (va_rf r :: st) M (cst (8, 9) M r c) := x_cast xci8 (by rw [hm]; exact lcX6_135) hd k
theorem loX11_3 : Cond.methodLink RX11 3 objectInit ∈ xbig := xbt1 34 (by decide +kernel) (by decide +kernel)
theorem xoiX11 {r : Option Nat} (hm : mt.1.cls = RX11) (h8 : st.length ≤ 4) (hd : decode mt.2.1 pc = .ok (.invokespecial 3, 3)) (k : Xe S G K l mt d (pc + 3) lo st M c) : Xe S G K l mt d pc lo (va_rf r :: st) M (nn r c) := x_oi (by rw [hm]; exact loX11_3) oiM oiC h8 hd k
theorem loX0_3 : Cond.methodLink RX0 3 objectInit ∈ xbig := xbt7 135 (by decide +kernel) (by decide +kernel)
theorem xoiX0 {r : Option Nat} (hm : mt.1.cls = RX0) (h8 : st.length ≤ 4) (hd : decode mt.2.1 pc = .ok (.invokespecial 3, 3)) (k : Xe S G K l mt d (pc + 3) lo st M c) : Xe S G K l mt d pc lo (va_rf r :: st) M (nn r c) := x_oi (by rw [hm]; exact loX0_3) oiM oiC h8 hd k
theorem loX1_3 : Cond.methodLink RX1 3 objectInit ∈ xbig := xbt7 16 (by decide +kernel) (by decide +kernel)
theorem xoiX1 {r : Option Nat} (hm : mt.1.cls = RX1) (h8 : st.length ≤ 4) (hd : decode mt.2.1 pc = .ok (.invokespecial 3, 3)) (k : Xe S G K l mt d (pc + 3) lo st M c) : Xe S G K l mt d pc lo (va_rf r :: st) M (nn r c) := x_oi (by rw [hm]; exact loX1_3) oiM oiC h8 hd k
theorem loX2_3 : Cond.methodLink RX2 3 objectInit ∈ xbig := xbt2 157 (by decide +kernel) (by decide +kernel)
theorem xoiX2 {r : Option Nat} (hm : mt.1.cls = RX2) (h8 : st.length ≤ 4) (hd : decode mt.2.1 pc = .ok (.invokespecial 3, 3)) (k : Xe S G K l mt d (pc + 3) lo st M c) : Xe S G K l mt d pc lo (va_rf r :: st) M (nn r c) := x_oi (by rw [hm]; exact loX2_3) oiM oiC h8 hd k
theorem loX3_3 : Cond.methodLink RX3 3 objectInit ∈ xbig := xbt1 239 (by decide +kernel) (by decide +kernel)
theorem xoiX3 {r : Option Nat} (hm : mt.1.cls = RX3) (h8 : st.length ≤ 4) (hd : decode mt.2.1 pc = .ok (.invokespecial 3, 3)) (k : Xe S G K l mt d (pc + 3) lo st M c) : Xe S G K l mt d pc lo (va_rf r :: st) M (nn r c) := x_oi (by rw [hm]; exact loX3_3) oiM oiC h8 hd k
theorem loX4_1 : Cond.methodLink RX4 1 objectInit ∈ xbig := xbt2 5 (by decide +kernel) (by decide +kernel)
theorem xoiX4 {r : Option Nat} (hm : mt.1.cls = RX4) (h8 : st.length ≤ 4) (hd : decode mt.2.1 pc = .ok (.invokespecial 1, 3)) (k : Xe S G K l mt d (pc + 3) lo st M c) : Xe S G K l mt d pc lo (va_rf r :: st) M (nn r c) := x_oi (by rw [hm]; exact loX4_1) oiM oiC h8 hd k
theorem loX5_3 : Cond.methodLink RX5 3 objectInit ∈ xbig := xbt5 22 (by decide +kernel) (by decide +kernel)
theorem xoiX5 {r : Option Nat} (hm : mt.1.cls = RX5) (h8 : st.length ≤ 4) (hd : decode mt.2.1 pc = .ok (.invokespecial 3, 3)) (k : Xe S G K l mt d (pc + 3) lo st M c) : Xe S G K l mt d pc lo (va_rf r :: st) M (nn r c) := x_oi (by rw [hm]; exact loX5_3) oiM oiC h8 hd k
theorem loX6_3 : Cond.methodLink RX6 3 objectInit ∈ xbig := xbt1 42 (by decide +kernel) (by decide +kernel)
theorem xoiX6 {r : Option Nat} (hm : mt.1.cls = RX6) (h8 : st.length ≤ 4) (hd : decode mt.2.1 pc = .ok (.invokespecial 3, 3)) (k : Xe S G K l mt d (pc + 3) lo st M c) : Xe S G K l mt d pc lo (va_rf r :: st) M (nn r c) := x_oi (by rw [hm]; exact loX6_3) oiM oiC h8 hd k
theorem loX7_3 : Cond.methodLink RX7 3 objectInit ∈ xbig := xbt4 57 (by decide +kernel) (by decide +kernel)
theorem xoiX7 {r : Option Nat} (hm : mt.1.cls = RX7) (h8 : st.length ≤ 4) (hd : decode mt.2.1 pc = .ok (.invokespecial 3, 3)) (k : Xe S G K l mt d (pc + 3) lo st M c) : Xe S G K l mt d pc lo (va_rf r :: st) M (nn r c) := x_oi (by rw [hm]; exact loX7_3) oiM oiC h8 hd k
theorem loX8_3 : Cond.methodLink RX8 3 objectInit ∈ xbig := xbt1 48 (by decide +kernel) (by decide +kernel)
theorem xoiX8 {r : Option Nat} (hm : mt.1.cls = RX8) (h8 : st.length ≤ 4) (hd : decode mt.2.1 pc = .ok (.invokespecial 3, 3)) (k : Xe S G K l mt d (pc + 3) lo st M c) : Xe S G K l mt d pc lo (va_rf r :: st) M (nn r c) := x_oi (by rw [hm]; exact loX8_3) oiM oiC h8 hd k
theorem loX9_3 : Cond.methodLink RX9 3 objectInit ∈ xbig := xbt2 39 (by decide +kernel) (by decide +kernel)
theorem xoiX9 {r : Option Nat} (hm : mt.1.cls = RX9) (h8 : st.length ≤ 4) (hd : decode mt.2.1 pc = .ok (.invokespecial 3, 3)) (k : Xe S G K l mt d (pc + 3) lo st M c) : Xe S G K l mt d pc lo (va_rf r :: st) M (nn r c) := x_oi (by rw [hm]; exact loX9_3) oiM oiC h8 hd k
theorem loX10_3 : Cond.methodLink RX10 3 objectInit ∈ xbig := xbt3 163 (by decide +kernel) (by decide +kernel)
theorem xoiX10 {r : Option Nat} (hm : mt.1.cls = RX10) (h8 : st.length ≤ 4) (hd : decode mt.2.1 pc = .ok (.invokespecial 3, 3)) (k : Xe S G K l mt d (pc + 3) lo st M c) : Xe S G K l mt d pc lo (va_rf r :: st) M (nn r c) := x_oi (by rw [hm]; exact loX10_3) oiM oiC h8 hd k
theorem loX12_1 : Cond.methodLink RX12 1 objectInit ∈ xbig := xbt7 192 (by decide +kernel) (by decide +kernel)
theorem xoiX12 {r : Option Nat} (hm : mt.1.cls = RX12) (h8 : st.length ≤ 4) (hd : decode mt.2.1 pc = .ok (.invokespecial 1, 3)) (k : Xe S G K l mt d (pc + 3) lo st M c) : Xe S G K l mt d pc lo (va_rf r :: st) M (nn r c) := x_oi (by rw [hm]; exact loX12_1) oiM oiC h8 hd k
theorem loJxa1e45_1 : Cond.methodLink RJxa1e45 1 objectInit ∈ xbig := xbt1 219 (by decide +kernel) (by decide +kernel)
theorem xoiJxa1e45 {r : Option Nat} (hm : mt.1.cls = RJxa1e45) (h8 : st.length ≤ 4) (hd : decode mt.2.1 pc = .ok (.invokespecial 1, 3)) (k : Xe S G K l mt d (pc + 3) lo st M c) : Xe S G K l mt d pc lo (va_rf r :: st) M (nn r c) := x_oi (by rw [hm]; exact loJxa1e45_1) oiM oiC h8 hd k
theorem xm60 : XMi (yX6_init, cX6_init, 1, none) 0 := ⟨xbt1 41 rfl (by decide +kernel), xbt1 2 (by decide +kernel) (by decide +kernel), by decide +kernel, by decide +kernel, by decide, by decide +kernel⟩
theorem xq60 : xmt 60 = (yX6_init, cX6_init, 1, none) := rfl
theorem lmX11_11 {G : XG} (U : State) (h : XE G U) : va_Nw (.methodLinkNest RX11 11 yX6_init "TestHouse") U := h.2.2.2.2.2.1.2.2.2.2.2 _ (List.mem_of_getElem? (i := 0) rfl)
theorem mi60 : Cond.instanceMethod yX6_init ∈ xbig := xbt1 40 (by decide +kernel) (by decide +kernel)
theorem cmX11_11 {r : Option Nat} {f : Mem → XA} (hm : mt.1.cls = RX11) (hs : XSnd l xmt rec d) (h8 : st.length ≤ 4) (hd : decode mt.2.1 pc = .ok (.invokespecial 11, 3)) (k : ∀ M1, Xe S G K l mt d (pc + 3) lo st M1 (f M1)) : Xe S G K l mt d pc lo (va_rf r :: st) M (vC (7, 20) M r (cV (rec 60 ([va_rf r]) M) f)) := x_callIN_V hs xq60 xm60 rfl rfl (by rw [hm]; exact lmX11_11) mi60 rfl rfl h8 hd k
theorem xm343 : XMi (yJx4a65c_init_da8c8, cJx4a65c_init_da8c8, 1, none) 0 := ⟨xbt1 212 rfl (by decide +kernel), xbt1 10 (by decide +kernel) (by decide +kernel), by decide +kernel, by decide +kernel, by decide, by decide +kernel⟩
theorem xq343 : xmt 343 = (yJx4a65c_init_da8c8, cJx4a65c_init_da8c8, 1, none) := rfl
theorem lmX11_18 : Cond.methodLink RX11 18 yJx4a65c_init_da8c8 ∈ xbig := xbt1 210 (by decide +kernel) (by decide +kernel)
theorem mi343 : Cond.instanceMethod yJx4a65c_init_da8c8 ∈ xbig := xbt1 211 (by decide +kernel) (by decide +kernel)
theorem cmX11_18 {r : Option Nat} {f : Mem → XA} (hm : mt.1.cls = RX11) (hs : XSnd l xmt rec d) (h8 : st.length ≤ 4) (hd : decode mt.2.1 pc = .ok (.invokespecial 18, 3)) (k : ∀ M1, Xe S G K l mt d (pc + 3) lo st M1 (f M1)) : Xe S G K l mt d pc lo (va_rf r :: st) M (vC (0, 3) M r (cV (rec 343 ([va_rf r]) M) f)) := x_callI_V hs xq343 xm343 rfl rfl (by rw [hm]; exact lmX11_18) mi343 rfl rfl h8 hd k
theorem xm18 : XMi (yX3_init, cX3_init, 2, none) 0 := ⟨xbt1 238 rfl (by decide +kernel), xbt1 11 (by decide +kernel) (by decide +kernel), by decide +kernel, by decide +kernel, by decide, by decide +kernel⟩
theorem xq18 : xmt 18 = (yX3_init, cX3_init, 2, none) := rfl
theorem lmX11_25 : Cond.methodLink RX11 25 yX3_init ∈ xbig := xbt1 236 (by decide +kernel) (by decide +kernel)
theorem mi18 : Cond.instanceMethod yX3_init ∈ xbig := xbt1 237 (by decide +kernel) (by decide +kernel)
theorem cmX11_25 {r : Option Nat} {f : Mem → XA} (hm : mt.1.cls = RX11) (hs : XSnd l xmt rec d) (h8 : st.length ≤ 4) (hd : decode mt.2.1 pc = .ok (.invokespecial 25, 3)) (k : ∀ M1, Xe S G K l mt d (pc + 3) lo st M1 (f M1)) : Xe S G K l mt d pc lo (va_rf r :: st) M (vC (4, 22) M r (cV (rec 18 ([va_rf r]) M) f)) := x_callI_V hs xq18 xm18 rfl rfl (by rw [hm]; exact lmX11_25) mi18 rfl rfl h8 hd k
theorem xm47 : XMi (yX4_init, cX4_init, 1, none) 0 := ⟨xbt2 4 rfl (by decide +kernel), xbt1 12 (by decide +kernel) (by decide +kernel), by decide +kernel, by decide +kernel, by decide, by decide +kernel⟩
theorem xq47 : xmt 47 = (yX4_init, cX4_init, 1, none) := rfl
theorem lmX11_38 {G : XG} (U : State) (h : XE G U) : va_Nw (.methodLinkNest RX11 38 yX4_init "TestHouse") U := h.2.2.2.2.2.1.2.2.2.2.2 _ (List.mem_of_getElem? (i := 1) rfl)
theorem mi47 : Cond.instanceMethod yX4_init ∈ xbig := xbt2 3 (by decide +kernel) (by decide +kernel)
theorem cmX11_38 {r : Option Nat} {f : Mem → XA} (hm : mt.1.cls = RX11) (hs : XSnd l xmt rec d) (h8 : st.length ≤ 4) (hd : decode mt.2.1 pc = .ok (.invokespecial 38, 3)) (k : ∀ M1, Xe S G K l mt d (pc + 3) lo st M1 (f M1)) : Xe S G K l mt d pc lo (va_rf r :: st) M (vC (5, 5) M r (cV (rec 47 ([va_rf r]) M) f)) := x_callIN_V hs xq47 xm47 rfl rfl (by rw [hm]; exact lmX11_38) mi47 rfl rfl h8 hd k
theorem xm11 : XMi (yX2_init, cX2_init, 1, none) 0 := ⟨xbt2 156 rfl (by decide +kernel), xbt1 14 (by decide +kernel) (by decide +kernel), by decide +kernel, by decide +kernel, by decide, by decide +kernel⟩
theorem xq11 : xmt 11 = (yX2_init, cX2_init, 1, none) := rfl
theorem lmX11_45 {G : XG} (U : State) (h : XE G U) : va_Nw (.methodLinkNest RX11 45 yX2_init "TestHouse") U := h.2.2.2.2.2.1.2.2.2.2.2 _ (List.mem_of_getElem? (i := 2) rfl)
theorem mi11 : Cond.instanceMethod yX2_init ∈ xbig := xbt2 155 (by decide +kernel) (by decide +kernel)
theorem cmX11_45 {r : Option Nat} {f : Mem → XA} (hm : mt.1.cls = RX11) (hs : XSnd l xmt rec d) (h8 : st.length ≤ 4) (hd : decode mt.2.1 pc = .ok (.invokespecial 45, 3)) (k : ∀ M1, Xe S G K l mt d (pc + 3) lo st M1 (f M1)) : Xe S G K l mt d pc lo (va_rf r :: st) M (vC (3, 7) M r (cV (rec 11 ([va_rf r]) M) f)) := x_callIN_V hs xq11 xm11 rfl rfl (by rw [hm]; exact lmX11_45) mi11 rfl rfl h8 hd k
theorem xm112 : XMi (yX8_add, cX8_add, 3, none) 1 := ⟨xbt3 9 rfl (by decide +kernel), xbt1 3 (by decide +kernel) (by decide +kernel), by decide +kernel, by decide +kernel, by decide, by decide +kernel⟩
theorem xq112 : xmt 112 = (yX8_add, cX8_add, 3, none) := rfl
theorem lmX11_84 : Cond.methodLink RX11 84 yX8_add ∈ xbig := xbt3 6 (by decide +kernel) (by decide +kernel)
theorem mi112 : Cond.instanceMethod yX8_add ∈ xbig := xbt3 7 (by decide +kernel) (by decide +kernel)
theorem mse112 : Cond.selects RX8 yX8_add yX8_add ∈ xbig := xbt3 8 (by decide +kernel) (by decide +kernel)
theorem cmX11_84 {r : Option Nat} {v0 : Int32} {f : Mem → XA} (hm : mt.1.cls = RX11) (hs : XSnd l xmt rec d) (h8 : st.length ≤ 4) (hd : decode mt.2.1 pc = .ok (.invokevirtual 84, 3)) (k : ∀ M1, Xe S G K l mt d (pc + 3) lo st M1 (f M1)) : Xe S G K l mt d pc lo (.int v0 :: va_rf r :: st) M (vC (9, 8) M r (cV (rec 112 ([va_rf r, .int v0]) M) f)) := x_callV_V hs xq112 xm112 xci9 rfl (by rw [hm]; exact lmX11_84) mi112 mse112 rfl rfl h8 hd k
theorem xm346 : XMi (yJx4a65c_size_8abf5, cJx4a65c_size_8abf5, 1, some .int) 0 := ⟨xbt3 21 rfl (by decide +kernel), xbt1 10 (by decide +kernel) (by decide +kernel), by decide +kernel, by decide +kernel, by decide, by decide +kernel⟩
theorem xq346 : xmt 346 = (yJx4a65c_size_8abf5, cJx4a65c_size_8abf5, 1, some .int) := rfl
theorem lmX11_88 : Cond.methodLink RX11 88 yJx4a65c_size_8abf5 ∈ xbig := xbt3 18 (by decide +kernel) (by decide +kernel)
theorem mi346 : Cond.instanceMethod yJx4a65c_size_8abf5 ∈ xbig := xbt3 19 (by decide +kernel) (by decide +kernel)
theorem mse346 : Cond.selects RJx4a65c yJx4a65c_size_8abf5 yJx4a65c_size_8abf5 ∈ xbig := xbt3 20 (by decide +kernel) (by decide +kernel)
theorem cmX11_88 {r : Option Nat} {f : Int32 → Mem → XA} (hm : mt.1.cls = RX11) (hs : XSnd l xmt rec d) (h8 : st.length ≤ 4) (hd : decode mt.2.1 pc = .ok (.invokevirtual 88, 3)) (k : ∀ x M1, Xe S G K l mt d (pc + 3) lo (.int x :: st) M1 (f x M1)) : Xe S G K l mt d pc lo (va_rf r :: st) M (vC (0, 3) M r (cI (rec 346 ([va_rf r]) M) f)) := x_callV_I hs xq346 xm346 xci0 rfl (by rw [hm]; exact lmX11_88) mi346 mse346 rfl rfl h8 hd k
theorem xm61 : XMi (yX6_read, cX6_read, 3, none) 0 := ⟨xbt3 25 rfl (by decide +kernel), xbt1 2 (by decide +kernel) (by decide +kernel), by decide +kernel, by decide +kernel, by decide, by decide +kernel⟩
theorem xq61 : xmt 61 = (yX6_read, cX6_read, 3, none) := rfl
theorem lmX11_92 : Cond.methodLink RX11 92 yX6_read ∈ xbig := xbt3 22 (by decide +kernel) (by decide +kernel)
theorem mi61 : Cond.instanceMethod yX6_read ∈ xbig := xbt3 23 (by decide +kernel) (by decide +kernel)
theorem mse61 : Cond.selects RX6 yX6_read yX6_read ∈ xbig := xbt3 24 (by decide +kernel) (by decide +kernel)
theorem cmX11_92 {r : Option Nat} {f : Mem → XA} (hm : mt.1.cls = RX11) (hs : XSnd l xmt rec d) (h8 : st.length ≤ 4) (hd : decode mt.2.1 pc = .ok (.invokevirtual 92, 3)) (k : ∀ M1, Xe S G K l mt d (pc + 3) lo st M1 (f M1)) : Xe S G K l mt d pc lo (va_rf r :: st) M (vC (7, 20) M r (cV (rec 61 ([va_rf r]) M) f)) := x_callV_V hs xq61 xm61 xci7 rfl (by rw [hm]; exact lmX11_92) mi61 mse61 rfl rfl h8 hd k
theorem xm50 : XMi (yX5_init, cX5_init, 4, none) 2 := ⟨xbt5 21 rfl (by decide +kernel), xbt1 24 (by decide +kernel) (by decide +kernel), by decide +kernel, by decide +kernel, by decide, by decide +kernel⟩
theorem xq50 : xmt 50 = (yX5_init, cX5_init, 4, none) := rfl
theorem lmX11_103 : Cond.methodLink RX11 103 yX5_init ∈ xbig := xbt5 19 (by decide +kernel) (by decide +kernel)
theorem mi50 : Cond.instanceMethod yX5_init ∈ xbig := xbt5 20 (by decide +kernel) (by decide +kernel)
theorem cmX11_103 {r : Option Nat} {v0 : Option Nat} {v1 : Int32} {f : Mem → XA} (hm : mt.1.cls = RX11) (hs : XSnd l xmt rec d) (h8 : st.length ≤ 4) (hd : decode mt.2.1 pc = .ok (.invokespecial 103, 3)) (k : ∀ M1, Xe S G K l mt d (pc + 3) lo st M1 (f M1)) : Xe S G K l mt d pc lo (.int v1 :: va_rf v0 :: va_rf r :: st) M (vC (6, 18) M r (cV (rec 50 ([va_rf r, va_rf v0, .int v1]) M) f)) := x_callI_V hs xq50 xm50 rfl rfl (by rw [hm]; exact lmX11_103) mi50 rfl rfl h8 hd k
theorem xm350 : XMi (yJx4a65c_add_9ea2d, cJx4a65c_add_9ea2d, 2, some .boolean) 1 := ⟨xbt3 218 rfl (by decide +kernel), xbt1 10 (by decide +kernel) (by decide +kernel), by decide +kernel, by decide +kernel, by decide, by decide +kernel⟩
theorem xq350 : xmt 350 = (yJx4a65c_add_9ea2d, cJx4a65c_add_9ea2d, 2, some .boolean) := rfl
theorem lmX11_106 : Cond.methodLink RX11 106 yJx4a65c_add_9ea2d ∈ xbig := xbt5 123 (by decide +kernel) (by decide +kernel)
theorem mi350 : Cond.instanceMethod yJx4a65c_add_9ea2d ∈ xbig := xbt3 216 (by decide +kernel) (by decide +kernel)
theorem mse350 : Cond.selects RJx4a65c yJx4a65c_add_9ea2d yJx4a65c_add_9ea2d ∈ xbig := xbt3 217 (by decide +kernel) (by decide +kernel)
theorem cmX11_106 {r : Option Nat} {v0 : Option Nat} {f : Int32 → Mem → XA} (hm : mt.1.cls = RX11) (hs : XSnd l xmt rec d) (h8 : st.length ≤ 4) (hd : decode mt.2.1 pc = .ok (.invokevirtual 106, 3)) (k : ∀ x M1, Xe S G K l mt d (pc + 3) lo (.int x :: st) M1 (f x M1)) : Xe S G K l mt d pc lo (va_rf v0 :: va_rf r :: st) M (vC (0, 3) M r (cI (rec 350 ([va_rf r, va_rf v0]) M) f)) := x_callV_I hs xq350 xm350 xci0 rfl (by rw [hm]; exact lmX11_106) mi350 mse350 rfl rfl h8 hd k
theorem xm167 : XMi (yX11_parcelAt, cX11_parcelAt, 2, some (.object "TestHouse$Parcel")) 1 := ⟨xbt5 135 rfl (by decide +kernel), xbt1 1 (by decide +kernel) (by decide +kernel), by decide +kernel, by decide +kernel, by decide, by decide +kernel⟩
theorem xq167 : xmt 167 = (yX11_parcelAt, cX11_parcelAt, 2, some (.object "TestHouse$Parcel")) := rfl
theorem lmX11_109 : Cond.methodLink RX11 109 yX11_parcelAt ∈ xbig := xbt5 132 (by decide +kernel) (by decide +kernel)
theorem mi167 : Cond.instanceMethod yX11_parcelAt ∈ xbig := xbt5 134 (by decide +kernel) (by decide +kernel)
theorem mse167 : Cond.selects RX11 yX11_parcelAt yX11_parcelAt ∈ xbig := xb_mem 55 (by decide +kernel) (by decide +kernel)
theorem cmX11_109 {r : Option Nat} {v0 : Int32} {f : Option Nat → Mem → XA} (hm : mt.1.cls = RX11) (hs : XSnd l xmt rec d) (h8 : st.length ≤ 4) (hd : decode mt.2.1 pc = .ok (.invokevirtual 109, 3)) (k : ∀ x M1, Xe S G K l mt d (pc + 3) lo (va_rf x :: st) M1 (f x M1)) : Xe S G K l mt d pc lo (.int v0 :: va_rf r :: st) M (vC (12, 19) M r (cP (rec 167 ([va_rf r, .int v0]) M) f)) := x_callV_P hs xq167 xm167 xci12 rfl (by rw [hm]; exact lmX11_109) mi167 mse167 rfl rfl h8 hd k
theorem xm168 : XMi (yX11_partAt, cX11_partAt, 2, some (.object "TestHouse$Part")) 2 := ⟨xbt5 143 rfl (by decide +kernel), xbt1 1 (by decide +kernel) (by decide +kernel), by decide +kernel, by decide +kernel, by decide, by decide +kernel⟩
theorem xq168 : xmt 168 = (yX11_partAt, cX11_partAt, 2, some (.object "TestHouse$Part")) := rfl
theorem lmX11_130 : Cond.methodLink RX11 130 yX11_partAt ∈ xbig := xbt5 141 (by decide +kernel) (by decide +kernel)
theorem ms168 : Cond.static yX11_partAt ∈ xbig := xbt5 142 (by decide +kernel) (by decide +kernel)
theorem cmX11_130 {v0 : Option Nat} {v1 : Int32} {f : Option Nat → Mem → XA} (hm : mt.1.cls = RX11) (hs : XSnd l xmt rec d) (h8 : st.length ≤ 4) (hd : decode mt.2.1 pc = .ok (.invokestatic 130, 3)) (k : ∀ x M1, Xe S G K l mt d (pc + 3) lo (va_rf x :: st) M1 (f x M1)) : Xe S G K l mt d pc lo (.int v1 :: va_rf v0 :: st) M (cP (rec 168 [va_rf v0, .int v1] M) f) := x_callS_P hs xq168 xm168 rfl (by rw [hm]; exact lmX11_130) ms168 rfl rfl h8 hd k
theorem xm169 : XMi (yX11_caseAt, cX11_caseAt, 2, some (.object "TestHouse$Part")) 2 := ⟨xbt5 151 rfl (by decide +kernel), xbt1 1 (by decide +kernel) (by decide +kernel), by decide +kernel, by decide +kernel, by decide, by decide +kernel⟩
theorem xq169 : xmt 169 = (yX11_caseAt, cX11_caseAt, 2, some (.object "TestHouse$Part")) := rfl
theorem lmX11_152 : Cond.methodLink RX11 152 yX11_caseAt ∈ xbig := xbt5 149 (by decide +kernel) (by decide +kernel)
theorem ms169 : Cond.static yX11_caseAt ∈ xbig := xbt5 150 (by decide +kernel) (by decide +kernel)
theorem cmX11_152 {v0 : Option Nat} {v1 : Int32} {f : Option Nat → Mem → XA} (hm : mt.1.cls = RX11) (hs : XSnd l xmt rec d) (h8 : st.length ≤ 4) (hd : decode mt.2.1 pc = .ok (.invokestatic 152, 3)) (k : ∀ x M1, Xe S G K l mt d (pc + 3) lo (va_rf x :: st) M1 (f x M1)) : Xe S G K l mt d pc lo (.int v1 :: va_rf v0 :: st) M (cP (rec 169 [va_rf v0, .int v1] M) f) := x_callS_P hs xq169 xm169 rfl (by rw [hm]; exact lmX11_152) ms169 rfl rfl h8 hd k
theorem xm348 : XMi (yJx4a65c_get_915e3, cJx4a65c_get_915e3, 2, some (.object "java/lang/Object")) 1 := ⟨xbt3 145 rfl (by decide +kernel), xbt1 10 (by decide +kernel) (by decide +kernel), by decide +kernel, by decide +kernel, by decide, by decide +kernel⟩
theorem xq348 : xmt 348 = (yJx4a65c_get_915e3, cJx4a65c_get_915e3, 2, some (.object "java/lang/Object")) := rfl
theorem lmX11_162 : Cond.methodLink RX11 162 yJx4a65c_get_915e3 ∈ xbig := xbt5 136 (by decide +kernel) (by decide +kernel)
theorem mi348 : Cond.instanceMethod yJx4a65c_get_915e3 ∈ xbig := xbt3 143 (by decide +kernel) (by decide +kernel)
theorem mse348 : Cond.selects RJx4a65c yJx4a65c_get_915e3 yJx4a65c_get_915e3 ∈ xbig := xbt3 144 (by decide +kernel) (by decide +kernel)
theorem cmX11_162 {r : Option Nat} {v0 : Int32} {f : Option Nat → Mem → XA} (hm : mt.1.cls = RX11) (hs : XSnd l xmt rec d) (h8 : st.length ≤ 4) (hd : decode mt.2.1 pc = .ok (.invokevirtual 162, 3)) (k : ∀ x M1, Xe S G K l mt d (pc + 3) lo (va_rf x :: st) M1 (f x M1)) : Xe S G K l mt d pc lo (.int v0 :: va_rf r :: st) M (vC (0, 3) M r (cP (rec 348 ([va_rf r, .int v0]) M) f)) := x_callV_P hs xq348 xm348 xci0 rfl (by rw [hm]; exact lmX11_162) mi348 mse348 rfl rfl h8 hd k
theorem xm173 : XMi (yX11_byteOf, cX11_byteOf, 4, some .int) 2 := ⟨xbt5 159 rfl (by decide +kernel), xbt1 1 (by decide +kernel) (by decide +kernel), by decide +kernel, by decide +kernel, by decide, by decide +kernel⟩
theorem xq173 : xmt 173 = (yX11_byteOf, cX11_byteOf, 4, some .int) := rfl
theorem lmX11_172 : Cond.methodLink RX11 172 yX11_byteOf ∈ xbig := xbt5 157 (by decide +kernel) (by decide +kernel)
theorem ms173 : Cond.static yX11_byteOf ∈ xbig := xbt5 158 (by decide +kernel) (by decide +kernel)
theorem cmX11_172 {v0 : Int64} {v1 : Int32} {f : Int32 → Mem → XA} (hm : mt.1.cls = RX11) (hs : XSnd l xmt rec d) (h8 : st.length ≤ 4) (hd : decode mt.2.1 pc = .ok (.invokestatic 172, 3)) (k : ∀ x M1, Xe S G K l mt d (pc + 3) lo (.int x :: st) M1 (f x M1)) : Xe S G K l mt d pc lo (.int v1 :: .long v0 :: st) M (cI (rec 173 [.long v0, .int v1] M) f) := x_callS_I hs xq173 xm173 rfl (by rw [hm]; exact lmX11_172) ms173 rfl rfl h8 hd k
theorem xm19 : XMi (yX3_prepare, cX3_prepare, 3, none) 2 := ⟨xbt5 191 rfl (by decide +kernel), xbt1 11 (by decide +kernel) (by decide +kernel), by decide +kernel, by decide +kernel, by decide, by decide +kernel⟩
theorem xq19 : xmt 19 = (yX3_prepare, cX3_prepare, 3, none) := rfl
theorem lmX11_193 : Cond.methodLink RX11 193 yX3_prepare ∈ xbig := xbt5 188 (by decide +kernel) (by decide +kernel)
theorem mi19 : Cond.instanceMethod yX3_prepare ∈ xbig := xbt5 189 (by decide +kernel) (by decide +kernel)
theorem mse19 : Cond.selects RX3 yX3_prepare yX3_prepare ∈ xbig := xbt5 190 (by decide +kernel) (by decide +kernel)
theorem cmX11_193 {r : Option Nat} {v0 : Option Nat} {v1 : Int32} {f : Mem → XA} (hm : mt.1.cls = RX11) (hs : XSnd l xmt rec d) (h8 : st.length ≤ 4) (hd : decode mt.2.1 pc = .ok (.invokevirtual 193, 3)) (k : ∀ M1, Xe S G K l mt d (pc + 3) lo st M1 (f M1)) : Xe S G K l mt d pc lo (.int v1 :: va_rf v0 :: va_rf r :: st) M (vC (4, 22) M r (cV (rec 19 ([va_rf r, va_rf v0, .int v1]) M) f)) := x_callV_V hs xq19 xm19 xci4 rfl (by rw [hm]; exact lmX11_193) mi19 mse19 rfl rfl h8 hd k
theorem xm21 : XMi (yX3_watch, cX3_watch, 3, none) 1 := ⟨xbt5 195 rfl (by decide +kernel), xbt1 11 (by decide +kernel) (by decide +kernel), by decide +kernel, by decide +kernel, by decide, by decide +kernel⟩
theorem xq21 : xmt 21 = (yX3_watch, cX3_watch, 3, none) := rfl
theorem lmX11_197 : Cond.methodLink RX11 197 yX3_watch ∈ xbig := xbt5 192 (by decide +kernel) (by decide +kernel)
theorem mi21 : Cond.instanceMethod yX3_watch ∈ xbig := xbt5 193 (by decide +kernel) (by decide +kernel)
theorem mse21 : Cond.selects RX3 yX3_watch yX3_watch ∈ xbig := xbt5 194 (by decide +kernel) (by decide +kernel)
theorem cmX11_197 {r : Option Nat} {v0 : Int32} {f : Mem → XA} (hm : mt.1.cls = RX11) (hs : XSnd l xmt rec d) (h8 : st.length ≤ 4) (hd : decode mt.2.1 pc = .ok (.invokevirtual 197, 3)) (k : ∀ M1, Xe S G K l mt d (pc + 3) lo st M1 (f M1)) : Xe S G K l mt d pc lo (.int v0 :: va_rf r :: st) M (vC (4, 22) M r (cV (rec 21 ([va_rf r, .int v0]) M) f)) := x_callV_V hs xq21 xm21 xci4 rfl (by rw [hm]; exact lmX11_197) mi21 mse21 rfl rfl h8 hd k
theorem xm54 : XMi (yX5_clearCover, cX5_clearCover, 2, none) 0 := ⟨xbt5 199 rfl (by decide +kernel), xbt1 24 (by decide +kernel) (by decide +kernel), by decide +kernel, by decide +kernel, by decide, by decide +kernel⟩
theorem xq54 : xmt 54 = (yX5_clearCover, cX5_clearCover, 2, none) := rfl
theorem lmX11_200 : Cond.methodLink RX11 200 yX5_clearCover ∈ xbig := xbt5 196 (by decide +kernel) (by decide +kernel)
theorem mi54 : Cond.instanceMethod yX5_clearCover ∈ xbig := xbt5 197 (by decide +kernel) (by decide +kernel)
theorem mse54 : Cond.selects RX5 yX5_clearCover yX5_clearCover ∈ xbig := xbt5 198 (by decide +kernel) (by decide +kernel)
theorem cmX11_200 {r : Option Nat} {f : Mem → XA} (hm : mt.1.cls = RX11) (hs : XSnd l xmt rec d) (h8 : st.length ≤ 4) (hd : decode mt.2.1 pc = .ok (.invokevirtual 200, 3)) (k : ∀ M1, Xe S G K l mt d (pc + 3) lo st M1 (f M1)) : Xe S G K l mt d pc lo (va_rf r :: st) M (vC (6, 18) M r (cV (rec 54 ([va_rf r]) M) f)) := x_callV_V hs xq54 xm54 xci6 rfl (by rw [hm]; exact lmX11_200) mi54 mse54 rfl rfl h8 hd k
theorem xm174 : XMi (yX11_runCases, cX11_runCases, 10, none) 5 := ⟨xbt5 206 rfl (by decide +kernel), xbt1 1 (by decide +kernel) (by decide +kernel), by decide +kernel, by decide +kernel, by decide, by decide +kernel⟩
theorem xq174 : xmt 174 = (yX11_runCases, cX11_runCases, 10, none) := rfl
theorem lmX11_206 : Cond.methodLink RX11 206 yX11_runCases ∈ xbig := xbt5 203 (by decide +kernel) (by decide +kernel)
theorem mi174 : Cond.instanceMethod yX11_runCases ∈ xbig := xbt5 205 (by decide +kernel) (by decide +kernel)
theorem mse174 : Cond.selects RX11 yX11_runCases yX11_runCases ∈ xbig := xb_mem 56 (by decide +kernel) (by decide +kernel)
theorem cmX11_206 {r : Option Nat} {v0 : Option Nat} {v1 : Option Nat} {v2 : Int32} {v3 : Int32} {v4 : Option Nat} {f : Mem → XA} (hm : mt.1.cls = RX11) (hs : XSnd l xmt rec d) (h8 : st.length ≤ 4) (hd : decode mt.2.1 pc = .ok (.invokevirtual 206, 3)) (k : ∀ M1, Xe S G K l mt d (pc + 3) lo st M1 (f M1)) : Xe S G K l mt d pc lo (va_rf v4 :: .int v3 :: .int v2 :: va_rf v1 :: va_rf v0 :: va_rf r :: st) M (vC (12, 19) M r (cV (rec 174 ([va_rf r, va_rf v0, va_rf v1, .int v2, .int v3, va_rf v4]) M) f)) := x_callV_V hs xq174 xm174 xci12 rfl (by rw [hm]; exact lmX11_206) mi174 mse174 rfl rfl h8 hd k
theorem xm175 : XMi (yX11_liveWatched, cX11_liveWatched, 2, some .int) 1 := ⟨xbt6 121 rfl (by decide +kernel), xbt1 1 (by decide +kernel) (by decide +kernel), by decide +kernel, by decide +kernel, by decide, by decide +kernel⟩
theorem xq175 : xmt 175 = (yX11_liveWatched, cX11_liveWatched, 2, some .int) := rfl
theorem lmX11_216 : Cond.methodLink RX11 216 yX11_liveWatched ∈ xbig := xbt6 118 (by decide +kernel) (by decide +kernel)
theorem mi175 : Cond.instanceMethod yX11_liveWatched ∈ xbig := xbt6 120 (by decide +kernel) (by decide +kernel)
theorem mse175 : Cond.selects RX11 yX11_liveWatched yX11_liveWatched ∈ xbig := xb_mem 77 (by decide +kernel) (by decide +kernel)
theorem cmX11_216 {r : Option Nat} {v0 : Option Nat} {f : Int32 → Mem → XA} (hm : mt.1.cls = RX11) (hs : XSnd l xmt rec d) (h8 : st.length ≤ 4) (hd : decode mt.2.1 pc = .ok (.invokevirtual 216, 3)) (k : ∀ x M1, Xe S G K l mt d (pc + 3) lo (.int x :: st) M1 (f x M1)) : Xe S G K l mt d pc lo (va_rf v0 :: va_rf r :: st) M (vC (12, 19) M r (cI (rec 175 ([va_rf r, va_rf v0]) M) f)) := x_callV_I hs xq175 xm175 xci12 rfl (by rw [hm]; exact lmX11_216) mi175 mse175 rfl rfl h8 hd k
theorem xm122 : XMi (yX9_standsFor, cX9_standsFor, 3, some .boolean) 2 := ⟨xbt6 49 rfl (by decide +kernel), xbt1 13 (by decide +kernel) (by decide +kernel), by decide +kernel, by decide +kernel, by decide, by decide +kernel⟩
theorem xq122 : xmt 122 = (yX9_standsFor, cX9_standsFor, 3, some .boolean) := rfl
theorem lmX11_239 : Cond.methodLink RX11 239 yX9_standsFor ∈ xbig := xbt6 135 (by decide +kernel) (by decide +kernel)
theorem mi122 : Cond.instanceMethod yX9_standsFor ∈ xbig := xbt6 47 (by decide +kernel) (by decide +kernel)
theorem mse122 : Cond.selects RX9 yX9_standsFor yX9_standsFor ∈ xbig := xbt6 48 (by decide +kernel) (by decide +kernel)
theorem cmX11_239 {r : Option Nat} {v0 : Int32} {v1 : Int32} {f : Int32 → Mem → XA} (hm : mt.1.cls = RX11) (hs : XSnd l xmt rec d) (h8 : st.length ≤ 4) (hd : decode mt.2.1 pc = .ok (.invokevirtual 239, 3)) (k : ∀ x M1, Xe S G K l mt d (pc + 3) lo (.int x :: st) M1 (f x M1)) : Xe S G K l mt d pc lo (.int v1 :: .int v0 :: va_rf r :: st) M (vC (10, 9) M r (cI (rec 122 ([va_rf r, .int v0, .int v1]) M) f)) := x_callV_I hs xq122 xm122 xci10 rfl (by rw [hm]; exact lmX11_239) mi122 mse122 rfl rfl h8 hd k
theorem xm121 : XMi (yX9_begin, cX9_begin, 5, none) 4 := ⟨xbt6 139 rfl (by decide +kernel), xbt1 13 (by decide +kernel) (by decide +kernel), by decide +kernel, by decide +kernel, by decide, by decide +kernel⟩
theorem xq121 : xmt 121 = (yX9_begin, cX9_begin, 5, none) := rfl
theorem lmX11_251 : Cond.methodLink RX11 251 yX9_begin ∈ xbig := xbt6 136 (by decide +kernel) (by decide +kernel)
theorem mi121 : Cond.instanceMethod yX9_begin ∈ xbig := xbt6 137 (by decide +kernel) (by decide +kernel)
theorem mse121 : Cond.selects RX9 yX9_begin yX9_begin ∈ xbig := xbt6 138 (by decide +kernel) (by decide +kernel)
theorem cmX11_251 {r : Option Nat} {v0 : Int32} {v1 : Int32} {v2 : Int32} {v3 : Int32} {f : Mem → XA} (hm : mt.1.cls = RX11) (hs : XSnd l xmt rec d) (h8 : st.length ≤ 4) (hd : decode mt.2.1 pc = .ok (.invokevirtual 251, 3)) (k : ∀ M1, Xe S G K l mt d (pc + 3) lo st M1 (f M1)) : Xe S G K l mt d pc lo (.int v3 :: .int v2 :: .int v1 :: .int v0 :: va_rf r :: st) M (vC (10, 9) M r (cV (rec 121 ([va_rf r, .int v0, .int v1, .int v2, .int v3]) M) f)) := x_callV_V hs xq121 xm121 xci10 rfl (by rw [hm]; exact lmX11_251) mi121 mse121 rfl rfl h8 hd k
theorem xm170 : XMi (yX11_twinAt, cX11_twinAt, 3, some (.object "TestHouse$Twin")) 1 := ⟨xbt6 147 rfl (by decide +kernel), xbt1 1 (by decide +kernel) (by decide +kernel), by decide +kernel, by decide +kernel, by decide, by decide +kernel⟩
theorem xq170 : xmt 170 = (yX11_twinAt, cX11_twinAt, 3, some (.object "TestHouse$Twin")) := rfl
theorem lmX11_255 : Cond.methodLink RX11 255 yX11_twinAt ∈ xbig := xbt6 144 (by decide +kernel) (by decide +kernel)
theorem mi170 : Cond.instanceMethod yX11_twinAt ∈ xbig := xbt6 146 (by decide +kernel) (by decide +kernel)
theorem mse170 : Cond.selects RX11 yX11_twinAt yX11_twinAt ∈ xbig := xb_mem 78 (by decide +kernel) (by decide +kernel)
theorem cmX11_255 {r : Option Nat} {v0 : Int32} {f : Option Nat → Mem → XA} (hm : mt.1.cls = RX11) (hs : XSnd l xmt rec d) (h8 : st.length ≤ 4) (hd : decode mt.2.1 pc = .ok (.invokevirtual 255, 3)) (k : ∀ x M1, Xe S G K l mt d (pc + 3) lo (va_rf x :: st) M1 (f x M1)) : Xe S G K l mt d pc lo (.int v0 :: va_rf r :: st) M (vC (12, 19) M r (cP (rec 170 ([va_rf r, .int v0]) M) f)) := x_callV_P hs xq170 xm170 xci12 rfl (by rw [hm]; exact lmX11_255) mi170 mse170 rfl rfl h8 hd k
theorem xm123 : XMi (yX9_addRule, cX9_addRule, 6, some .int) 4 := ⟨xbt6 151 rfl (by decide +kernel), xbt1 13 (by decide +kernel) (by decide +kernel), by decide +kernel, by decide +kernel, by decide, by decide +kernel⟩
theorem xq123 : xmt 123 = (yX9_addRule, cX9_addRule, 6, some .int) := rfl
theorem lmX11_265 : Cond.methodLink RX11 265 yX9_addRule ∈ xbig := xbt6 148 (by decide +kernel) (by decide +kernel)
theorem mi123 : Cond.instanceMethod yX9_addRule ∈ xbig := xbt6 149 (by decide +kernel) (by decide +kernel)
theorem mse123 : Cond.selects RX9 yX9_addRule yX9_addRule ∈ xbig := xbt6 150 (by decide +kernel) (by decide +kernel)
theorem cmX11_265 {r : Option Nat} {v0 : Int32} {v1 : Int32} {v2 : Int32} {v3 : Int32} {f : Int32 → Mem → XA} (hm : mt.1.cls = RX11) (hs : XSnd l xmt rec d) (h8 : st.length ≤ 4) (hd : decode mt.2.1 pc = .ok (.invokevirtual 265, 3)) (k : ∀ x M1, Xe S G K l mt d (pc + 3) lo (.int x :: st) M1 (f x M1)) : Xe S G K l mt d pc lo (.int v3 :: .int v2 :: .int v1 :: .int v0 :: va_rf r :: st) M (vC (10, 9) M r (cI (rec 123 ([va_rf r, .int v0, .int v1, .int v2, .int v3]) M) f)) := x_callV_I hs xq123 xm123 xci10 rfl (by rw [hm]; exact lmX11_265) mi123 mse123 rfl rfl h8 hd k
theorem xm315 : XMi (yJ6_bitCount_0f7a4, cJ6_bitCount_0f7a4, 1, some .int) 1 := ⟨xbt6 166 rfl (by decide +kernel), xbt1 26 (by decide +kernel) (by decide +kernel), by decide +kernel, by decide +kernel, by decide, by decide +kernel⟩
theorem xq315 : xmt 315 = (yJ6_bitCount_0f7a4, cJ6_bitCount_0f7a4, 1, some .int) := rfl
theorem lmX11_284 : Cond.methodLink RX11 284 yJ6_bitCount_0f7a4 ∈ xbig := xbt6 164 (by decide +kernel) (by decide +kernel)
theorem ms315 : Cond.static yJ6_bitCount_0f7a4 ∈ xbig := xbt6 165 (by decide +kernel) (by decide +kernel)
theorem cmX11_284 {v0 : Int32} {f : Int32 → Mem → XA} (hm : mt.1.cls = RX11) (hs : XSnd l xmt rec d) (h8 : st.length ≤ 4) (hd : decode mt.2.1 pc = .ok (.invokestatic 284, 3)) (k : ∀ x M1, Xe S G K l mt d (pc + 3) lo (.int x :: st) M1 (f x M1)) : Xe S G K l mt d pc lo (.int v0 :: st) M (cI (rec 315 [.int v0] M) f) := x_callS_I hs xq315 xm315 rfl (by rw [hm]; exact lmX11_284) ms315 rfl rfl h8 hd k
theorem xm22 : XMi (yX3_isSpent, cX3_isSpent, 1, some .boolean) 0 := ⟨xbt5 217 rfl (by decide +kernel), xbt1 11 (by decide +kernel) (by decide +kernel), by decide +kernel, by decide +kernel, by decide, by decide +kernel⟩
theorem xq22 : xmt 22 = (yX3_isSpent, cX3_isSpent, 1, some .boolean) := rfl
theorem lmX11_294 : Cond.methodLink RX11 294 yX3_isSpent ∈ xbig := xbt5 214 (by decide +kernel) (by decide +kernel)
theorem mi22 : Cond.instanceMethod yX3_isSpent ∈ xbig := xbt5 215 (by decide +kernel) (by decide +kernel)
theorem mse22 : Cond.selects RX3 yX3_isSpent yX3_isSpent ∈ xbig := xbt5 216 (by decide +kernel) (by decide +kernel)
theorem cmX11_294 {r : Option Nat} {f : Int32 → Mem → XA} (hm : mt.1.cls = RX11) (hs : XSnd l xmt rec d) (h8 : st.length ≤ 4) (hd : decode mt.2.1 pc = .ok (.invokevirtual 294, 3)) (k : ∀ x M1, Xe S G K l mt d (pc + 3) lo (.int x :: st) M1 (f x M1)) : Xe S G K l mt d pc lo (va_rf r :: st) M (vC (4, 22) M r (cI (rec 22 ([va_rf r]) M) f)) := x_callV_I hs xq22 xm22 xci4 rfl (by rw [hm]; exact lmX11_294) mi22 mse22 rfl rfl h8 hd k
theorem xm176 : XMi (yX11_casesThatDiffer, cX11_casesThatDiffer, 4, some .int) 1 := ⟨xbt6 179 rfl (by decide +kernel), xbt1 1 (by decide +kernel) (by decide +kernel), by decide +kernel, by decide +kernel, by decide, by decide +kernel⟩
theorem xq176 : xmt 176 = (yX11_casesThatDiffer, cX11_casesThatDiffer, 4, some .int) := rfl
theorem lmX11_304 : Cond.methodLink RX11 304 yX11_casesThatDiffer ∈ xbig := xbt6 176 (by decide +kernel) (by decide +kernel)
theorem mi176 : Cond.instanceMethod yX11_casesThatDiffer ∈ xbig := xbt6 178 (by decide +kernel) (by decide +kernel)
theorem mse176 : Cond.selects RX11 yX11_casesThatDiffer yX11_casesThatDiffer ∈ xbig := xb_mem 79 (by decide +kernel) (by decide +kernel)
theorem cmX11_304 {r : Option Nat} {v0 : Int32} {f : Int32 → Mem → XA} (hm : mt.1.cls = RX11) (hs : XSnd l xmt rec d) (h8 : st.length ≤ 4) (hd : decode mt.2.1 pc = .ok (.invokevirtual 304, 3)) (k : ∀ x M1, Xe S G K l mt d (pc + 3) lo (.int x :: st) M1 (f x M1)) : Xe S G K l mt d pc lo (.int v0 :: va_rf r :: st) M (vC (12, 19) M r (cI (rec 176 ([va_rf r, .int v0]) M) f)) := x_callV_I hs xq176 xm176 xci12 rfl (by rw [hm]; exact lmX11_304) mi176 mse176 rfl rfl h8 hd k
theorem xm56 : XMi (yX5_takeKills, cX5_takeKills, 4, some .int) 0 := ⟨xbt6 183 rfl (by decide +kernel), xbt1 24 (by decide +kernel) (by decide +kernel), by decide +kernel, by decide +kernel, by decide, by decide +kernel⟩
theorem xq56 : xmt 56 = (yX5_takeKills, cX5_takeKills, 4, some .int) := rfl
theorem lmX11_307 : Cond.methodLink RX11 307 yX5_takeKills ∈ xbig := xbt6 180 (by decide +kernel) (by decide +kernel)
theorem mi56 : Cond.instanceMethod yX5_takeKills ∈ xbig := xbt6 181 (by decide +kernel) (by decide +kernel)
theorem mse56 : Cond.selects RX5 yX5_takeKills yX5_takeKills ∈ xbig := xbt6 182 (by decide +kernel) (by decide +kernel)
theorem cmX11_307 {r : Option Nat} {f : Int32 → Mem → XA} (hm : mt.1.cls = RX11) (hs : XSnd l xmt rec d) (h8 : st.length ≤ 4) (hd : decode mt.2.1 pc = .ok (.invokevirtual 307, 3)) (k : ∀ x M1, Xe S G K l mt d (pc + 3) lo (.int x :: st) M1 (f x M1)) : Xe S G K l mt d pc lo (va_rf r :: st) M (vC (6, 18) M r (cI (rec 56 ([va_rf r]) M) f)) := x_callV_I hs xq56 xm56 xci6 rfl (by rw [hm]; exact lmX11_307) mi56 mse56 rfl rfl h8 hd k
theorem xm57 : XMi (yX5_leastSuite, cX5_leastSuite, 5, some .int) 0 := ⟨xbt6 195 rfl (by decide +kernel), xbt1 24 (by decide +kernel) (by decide +kernel), by decide +kernel, by decide +kernel, by decide, by decide +kernel⟩
theorem xq57 : xmt 57 = (yX5_leastSuite, cX5_leastSuite, 5, some .int) := rfl
theorem lmX11_310 : Cond.methodLink RX11 310 yX5_leastSuite ∈ xbig := xbt6 192 (by decide +kernel) (by decide +kernel)
theorem mi57 : Cond.instanceMethod yX5_leastSuite ∈ xbig := xbt6 193 (by decide +kernel) (by decide +kernel)
theorem mse57 : Cond.selects RX5 yX5_leastSuite yX5_leastSuite ∈ xbig := xbt6 194 (by decide +kernel) (by decide +kernel)
theorem cmX11_310 {r : Option Nat} {f : Int32 → Mem → XA} (hm : mt.1.cls = RX11) (hs : XSnd l xmt rec d) (h8 : st.length ≤ 4) (hd : decode mt.2.1 pc = .ok (.invokevirtual 310, 3)) (k : ∀ x M1, Xe S G K l mt d (pc + 3) lo (.int x :: st) M1 (f x M1)) : Xe S G K l mt d pc lo (va_rf r :: st) M (vC (6, 18) M r (cI (rec 57 ([va_rf r]) M) f)) := x_callV_I hs xq57 xm57 xci6 rfl (by rw [hm]; exact lmX11_310) mi57 mse57 rfl rfl h8 hd k
theorem xm177 : XMi (yX11_caseOfSuite, cX11_caseOfSuite, 4, some .int) 2 := ⟨xbt6 207 rfl (by decide +kernel), xbt1 1 (by decide +kernel) (by decide +kernel), by decide +kernel, by decide +kernel, by decide, by decide +kernel⟩
theorem xq177 : xmt 177 = (yX11_caseOfSuite, cX11_caseOfSuite, 4, some .int) := rfl
theorem lmX11_313 : Cond.methodLink RX11 313 yX11_caseOfSuite ∈ xbig := xbt6 205 (by decide +kernel) (by decide +kernel)
theorem ms177 : Cond.static yX11_caseOfSuite ∈ xbig := xbt6 206 (by decide +kernel) (by decide +kernel)
theorem cmX11_313 {v0 : Int32} {v1 : Int32} {f : Int32 → Mem → XA} (hm : mt.1.cls = RX11) (hs : XSnd l xmt rec d) (h8 : st.length ≤ 4) (hd : decode mt.2.1 pc = .ok (.invokestatic 313, 3)) (k : ∀ x M1, Xe S G K l mt d (pc + 3) lo (.int x :: st) M1 (f x M1)) : Xe S G K l mt d pc lo (.int v1 :: .int v0 :: st) M (cI (rec 177 [.int v0, .int v1] M) f) := x_callS_I hs xq177 xm177 rfl (by rw [hm]; exact lmX11_313) ms177 rfl rfl h8 hd k
theorem xm178 : XMi (yX11_holdsOften, cX11_holdsOften, 8, some .boolean) 2 := ⟨xbt6 215 rfl (by decide +kernel), xbt1 1 (by decide +kernel) (by decide +kernel), by decide +kernel, by decide +kernel, by decide, by decide +kernel⟩
theorem xq178 : xmt 178 = (yX11_holdsOften, cX11_holdsOften, 8, some .boolean) := rfl
theorem lmX11_317 : Cond.methodLink RX11 317 yX11_holdsOften ∈ xbig := xbt6 212 (by decide +kernel) (by decide +kernel)
theorem mi178 : Cond.instanceMethod yX11_holdsOften ∈ xbig := xbt6 214 (by decide +kernel) (by decide +kernel)
theorem mse178 : Cond.selects RX11 yX11_holdsOften yX11_holdsOften ∈ xbig := xb_mem 81 (by decide +kernel) (by decide +kernel)
theorem cmX11_317 {r : Option Nat} {v0 : Option Nat} {v1 : Int32} {f : Int32 → Mem → XA} (hm : mt.1.cls = RX11) (hs : XSnd l xmt rec d) (h8 : st.length ≤ 4) (hd : decode mt.2.1 pc = .ok (.invokevirtual 317, 3)) (k : ∀ x M1, Xe S G K l mt d (pc + 3) lo (.int x :: st) M1 (f x M1)) : Xe S G K l mt d pc lo (.int v1 :: va_rf v0 :: va_rf r :: st) M (vC (12, 19) M r (cI (rec 178 ([va_rf r, va_rf v0, .int v1]) M) f)) := x_callV_I hs xq178 xm178 xci12 rfl (by rw [hm]; exact lmX11_317) mi178 mse178 rfl rfl h8 hd k
theorem xm179 : XMi (yX11_takesSmaller, cX11_takesSmaller, 6, some .boolean) 1 := ⟨xbt6 228 rfl (by decide +kernel), xbt1 1 (by decide +kernel) (by decide +kernel), by decide +kernel, by decide +kernel, by decide, by decide +kernel⟩
theorem xq179 : xmt 179 = (yX11_takesSmaller, cX11_takesSmaller, 6, some .boolean) := rfl
theorem lmX11_322 : Cond.methodLink RX11 322 yX11_takesSmaller ∈ xbig := xbt6 225 (by decide +kernel) (by decide +kernel)
theorem mi179 : Cond.instanceMethod yX11_takesSmaller ∈ xbig := xbt6 227 (by decide +kernel) (by decide +kernel)
theorem mse179 : Cond.selects RX11 yX11_takesSmaller yX11_takesSmaller ∈ xbig := xb_mem 82 (by decide +kernel) (by decide +kernel)
theorem cmX11_322 {r : Option Nat} {v0 : Option Nat} {f : Int32 → Mem → XA} (hm : mt.1.cls = RX11) (hs : XSnd l xmt rec d) (h8 : st.length ≤ 4) (hd : decode mt.2.1 pc = .ok (.invokevirtual 322, 3)) (k : ∀ x M1, Xe S G K l mt d (pc + 3) lo (.int x :: st) M1 (f x M1)) : Xe S G K l mt d pc lo (va_rf v0 :: va_rf r :: st) M (vC (12, 19) M r (cI (rec 179 ([va_rf r, va_rf v0]) M) f)) := x_callV_I hs xq179 xm179 xci12 rfl (by rw [hm]; exact lmX11_322) mi179 mse179 rfl rfl h8 hd k
theorem xm180 : XMi (yX11_smallerCount, cX11_smallerCount, 2, some .int) 1 := ⟨xbt6 231 rfl (by decide +kernel), xbt1 1 (by decide +kernel) (by decide +kernel), by decide +kernel, by decide +kernel, by decide, by decide +kernel⟩
theorem xq180 : xmt 180 = (yX11_smallerCount, cX11_smallerCount, 2, some .int) := rfl
theorem lmX11_332 : Cond.methodLink RX11 332 yX11_smallerCount ∈ xbig := xbt6 229 (by decide +kernel) (by decide +kernel)
theorem ms180 : Cond.static yX11_smallerCount ∈ xbig := xbt6 230 (by decide +kernel) (by decide +kernel)
theorem cmX11_332 {v0 : Int32} {f : Int32 → Mem → XA} (hm : mt.1.cls = RX11) (hs : XSnd l xmt rec d) (h8 : st.length ≤ 4) (hd : decode mt.2.1 pc = .ok (.invokestatic 332, 3)) (k : ∀ x M1, Xe S G K l mt d (pc + 3) lo (.int x :: st) M1 (f x M1)) : Xe S G K l mt d pc lo (.int v0 :: st) M (cI (rec 180 [.int v0] M) f) := x_callS_I hs xq180 xm180 rfl (by rw [hm]; exact lmX11_332) ms180 rfl rfl h8 hd k
theorem xm181 : XMi (yX11_smallerNumber, cX11_smallerNumber, 3, some .int) 2 := ⟨xbt6 237 rfl (by decide +kernel), xbt1 1 (by decide +kernel) (by decide +kernel), by decide +kernel, by decide +kernel, by decide, by decide +kernel⟩
theorem xq181 : xmt 181 = (yX11_smallerNumber, cX11_smallerNumber, 3, some .int) := rfl
theorem lmX11_335 : Cond.methodLink RX11 335 yX11_smallerNumber ∈ xbig := xbt6 235 (by decide +kernel) (by decide +kernel)
theorem ms181 : Cond.static yX11_smallerNumber ∈ xbig := xbt6 236 (by decide +kernel) (by decide +kernel)
theorem cmX11_335 {v0 : Int32} {v1 : Int32} {f : Int32 → Mem → XA} (hm : mt.1.cls = RX11) (hs : XSnd l xmt rec d) (h8 : st.length ≤ 4) (hd : decode mt.2.1 pc = .ok (.invokestatic 335, 3)) (k : ∀ x M1, Xe S G K l mt d (pc + 3) lo (.int x :: st) M1 (f x M1)) : Xe S G K l mt d pc lo (.int v1 :: .int v0 :: st) M (cI (rec 181 [.int v0, .int v1] M) f) := x_callS_I hs xq181 xm181 rfl (by rw [hm]; exact lmX11_335) ms181 rfl rfl h8 hd k
theorem xm5 : XMi (yX1_init, cX1_init, 2, none) 1 := ⟨xbt7 15 rfl (by decide +kernel), xbt1 27 (by decide +kernel) (by decide +kernel), by decide +kernel, by decide +kernel, by decide, by decide +kernel⟩
theorem xq5 : xmt 5 = (yX1_init, cX1_init, 2, none) := rfl
theorem lmX11_340 : Cond.methodLink RX11 340 yX1_init ∈ xbig := xbt7 13 (by decide +kernel) (by decide +kernel)
theorem mi5 : Cond.instanceMethod yX1_init ∈ xbig := xbt7 14 (by decide +kernel) (by decide +kernel)
theorem cmX11_340 {r : Option Nat} {v0 : Int32} {f : Mem → XA} (hm : mt.1.cls = RX11) (hs : XSnd l xmt rec d) (h8 : st.length ≤ 4) (hd : decode mt.2.1 pc = .ok (.invokespecial 340, 3)) (k : ∀ M1, Xe S G K l mt d (pc + 3) lo st M1 (f M1)) : Xe S G K l mt d pc lo (.int v0 :: va_rf r :: st) M (vC (2, 7) M r (cV (rec 5 ([va_rf r, .int v0]) M) f)) := x_callI_V hs xq5 xm5 rfl rfl (by rw [hm]; exact lmX11_340) mi5 rfl rfl h8 hd k
theorem xm171 : XMi (yX11_historyAt, cX11_historyAt, 2, some (.object "TestHouse$History")) 1 := ⟨xbt7 49 rfl (by decide +kernel), xbt1 1 (by decide +kernel) (by decide +kernel), by decide +kernel, by decide +kernel, by decide, by decide +kernel⟩
theorem xq171 : xmt 171 = (yX11_historyAt, cX11_historyAt, 2, some (.object "TestHouse$History")) := rfl
theorem lmX11_342 : Cond.methodLink RX11 342 yX11_historyAt ∈ xbig := xbt7 46 (by decide +kernel) (by decide +kernel)
theorem mi171 : Cond.instanceMethod yX11_historyAt ∈ xbig := xbt7 48 (by decide +kernel) (by decide +kernel)
theorem mse171 : Cond.selects RX11 yX11_historyAt yX11_historyAt ∈ xbig := xb_mem 83 (by decide +kernel) (by decide +kernel)
theorem cmX11_342 {r : Option Nat} {v0 : Int32} {f : Option Nat → Mem → XA} (hm : mt.1.cls = RX11) (hs : XSnd l xmt rec d) (h8 : st.length ≤ 4) (hd : decode mt.2.1 pc = .ok (.invokevirtual 342, 3)) (k : ∀ x M1, Xe S G K l mt d (pc + 3) lo (va_rf x :: st) M1 (f x M1)) : Xe S G K l mt d pc lo (.int v0 :: va_rf r :: st) M (vC (12, 19) M r (cP (rec 171 ([va_rf r, .int v0]) M) f)) := x_callV_P hs xq171 xm171 xci12 rfl (by rw [hm]; exact lmX11_342) mi171 mse171 rfl rfl h8 hd k
theorem xm6 : XMi (yX1_add, cX1_add, 6, some .int) 5 := ⟨xbt7 53 rfl (by decide +kernel), xbt1 27 (by decide +kernel) (by decide +kernel), by decide +kernel, by decide +kernel, by decide, by decide +kernel⟩
theorem xq6 : xmt 6 = (yX1_add, cX1_add, 6, some .int) := rfl
theorem lmX11_347 : Cond.methodLink RX11 347 yX1_add ∈ xbig := xbt7 50 (by decide +kernel) (by decide +kernel)
theorem mi6 : Cond.instanceMethod yX1_add ∈ xbig := xbt7 51 (by decide +kernel) (by decide +kernel)
theorem mse6 : Cond.selects RX1 yX1_add yX1_add ∈ xbig := xbt7 52 (by decide +kernel) (by decide +kernel)
theorem cmX11_347 {r : Option Nat} {v0 : Int32} {v1 : Int32} {v2 : Int32} {v3 : Int32} {v4 : Int32} {f : Int32 → Mem → XA} (hm : mt.1.cls = RX11) (hs : XSnd l xmt rec d) (h8 : st.length ≤ 4) (hd : decode mt.2.1 pc = .ok (.invokevirtual 347, 3)) (k : ∀ x M1, Xe S G K l mt d (pc + 3) lo (.int x :: st) M1 (f x M1)) : Xe S G K l mt d pc lo (.int v4 :: .int v3 :: .int v2 :: .int v1 :: .int v0 :: va_rf r :: st) M (vC (2, 7) M r (cI (rec 6 ([va_rf r, .int v0, .int v1, .int v2, .int v3, .int v4]) M) f)) := x_callV_I hs xq6 xm6 xci2 rfl (by rw [hm]; exact lmX11_347) mi6 mse6 rfl rfl h8 hd k
theorem xm7 : XMi (yX1_isLinear, cX1_isLinear, 1, some .boolean) 0 := ⟨xbt7 61 rfl (by decide +kernel), xbt1 27 (by decide +kernel) (by decide +kernel), by decide +kernel, by decide +kernel, by decide, by decide +kernel⟩
theorem xq7 : xmt 7 = (yX1_isLinear, cX1_isLinear, 1, some .boolean) := rfl
theorem lmX11_350 : Cond.methodLink RX11 350 yX1_isLinear ∈ xbig := xbt7 58 (by decide +kernel) (by decide +kernel)
theorem mi7 : Cond.instanceMethod yX1_isLinear ∈ xbig := xbt7 59 (by decide +kernel) (by decide +kernel)
theorem mse7 : Cond.selects RX1 yX1_isLinear yX1_isLinear ∈ xbig := xbt7 60 (by decide +kernel) (by decide +kernel)
theorem cmX11_350 {r : Option Nat} {f : Int32 → Mem → XA} (hm : mt.1.cls = RX11) (hs : XSnd l xmt rec d) (h8 : st.length ≤ 4) (hd : decode mt.2.1 pc = .ok (.invokevirtual 350, 3)) (k : ∀ x M1, Xe S G K l mt d (pc + 3) lo (.int x :: st) M1 (f x M1)) : Xe S G K l mt d pc lo (va_rf r :: st) M (vC (2, 7) M r (cI (rec 7 ([va_rf r]) M) f)) := x_callV_I hs xq7 xm7 xci2 rfl (by rw [hm]; exact lmX11_350) mi7 mse7 rfl rfl h8 hd k
theorem xm362 : XMi (yX11_lookAtRows, cX11_lookAtRows, 3, some .int) 1 := ⟨xbt7 86 rfl (by decide +kernel), xbt1 1 (by decide +kernel) (by decide +kernel), by decide +kernel, by decide +kernel, by decide, by decide +kernel⟩
theorem xq362 : xmt 362 = (yX11_lookAtRows, cX11_lookAtRows, 3, some .int) := rfl
theorem lmX11_359 : Cond.methodLink RX11 359 yX11_lookAtRows ∈ xbig := xbt7 83 (by decide +kernel) (by decide +kernel)
theorem mi362 : Cond.instanceMethod yX11_lookAtRows ∈ xbig := xbt7 85 (by decide +kernel) (by decide +kernel)
theorem mse362 : Cond.selects RX11 yX11_lookAtRows yX11_lookAtRows ∈ xbig := xb_mem 87 (by decide +kernel) (by decide +kernel)
theorem cmX11_359 {r : Option Nat} {v0 : Option Nat} {f : Int32 → Mem → XA} (hm : mt.1.cls = RX11) (hs : XSnd l xmt rec d) (h8 : st.length ≤ 4) (hd : decode mt.2.1 pc = .ok (.invokevirtual 359, 3)) (k : ∀ x M1, Xe S G K l mt d (pc + 3) lo (.int x :: st) M1 (f x M1)) : Xe S G K l mt d pc lo (va_rf v0 :: va_rf r :: st) M (vC (12, 19) M r (cI (rec 362 ([va_rf r, va_rf v0]) M) f)) := x_callV_I hs xq362 xm362 xci12 rfl (by rw [hm]; exact lmX11_359) mi362 mse362 rfl rfl h8 hd k
theorem xm182 : XMi (yX11_placeInOrder, cX11_placeInOrder, 4, some .int) 2 := ⟨xbt7 117 rfl (by decide +kernel), xbt1 1 (by decide +kernel) (by decide +kernel), by decide +kernel, by decide +kernel, by decide, by decide +kernel⟩
theorem xq182 : xmt 182 = (yX11_placeInOrder, cX11_placeInOrder, 4, some .int) := rfl
theorem lmX11_377 : Cond.methodLink RX11 377 yX11_placeInOrder ∈ xbig := xbt7 115 (by decide +kernel) (by decide +kernel)
theorem ms182 : Cond.static yX11_placeInOrder ∈ xbig := xbt7 116 (by decide +kernel) (by decide +kernel)
theorem cmX11_377 {v0 : Option Nat} {v1 : Int32} {f : Int32 → Mem → XA} (hm : mt.1.cls = RX11) (hs : XSnd l xmt rec d) (h8 : st.length ≤ 4) (hd : decode mt.2.1 pc = .ok (.invokestatic 377, 3)) (k : ∀ x M1, Xe S G K l mt d (pc + 3) lo (.int x :: st) M1 (f x M1)) : Xe S G K l mt d pc lo (.int v1 :: va_rf v0 :: st) M (cI (rec 182 [va_rf v0, .int v1] M) f) := x_callS_I hs xq182 xm182 rfl (by rw [hm]; exact lmX11_377) ms182 rfl rfl h8 hd k
theorem xm363 : XMi (yX11_passesAlone, cX11_passesAlone, 2, some .boolean) 1 := ⟨xbt7 121 rfl (by decide +kernel), xbt1 1 (by decide +kernel) (by decide +kernel), by decide +kernel, by decide +kernel, by decide, by decide +kernel⟩
theorem xq363 : xmt 363 = (yX11_passesAlone, cX11_passesAlone, 2, some .boolean) := rfl
theorem lmX11_387 : Cond.methodLink RX11 387 yX11_passesAlone ∈ xbig := xbt7 118 (by decide +kernel) (by decide +kernel)
theorem mi363 : Cond.instanceMethod yX11_passesAlone ∈ xbig := xbt7 120 (by decide +kernel) (by decide +kernel)
theorem mse363 : Cond.selects RX11 yX11_passesAlone yX11_passesAlone ∈ xbig := xb_mem 88 (by decide +kernel) (by decide +kernel)
theorem cmX11_387 {r : Option Nat} {v0 : Option Nat} {f : Int32 → Mem → XA} (hm : mt.1.cls = RX11) (hs : XSnd l xmt rec d) (h8 : st.length ≤ 4) (hd : decode mt.2.1 pc = .ok (.invokevirtual 387, 3)) (k : ∀ x M1, Xe S G K l mt d (pc + 3) lo (.int x :: st) M1 (f x M1)) : Xe S G K l mt d pc lo (va_rf v0 :: va_rf r :: st) M (vC (12, 19) M r (cI (rec 363 ([va_rf r, va_rf v0]) M) f)) := x_callV_I hs xq363 xm363 xci12 rfl (by rw [hm]; exact lmX11_387) mi363 mse363 rfl rfl h8 hd k
theorem xm0 : XMi (yX0_init, cX0_init, 6, none) 2 := ⟨xbt7 134 rfl (by decide +kernel), xbt1 28 (by decide +kernel) (by decide +kernel), by decide +kernel, by decide +kernel, by decide, by decide +kernel⟩
theorem xq0 : xmt 0 = (yX0_init, cX0_init, 6, none) := rfl
theorem lmX11_395 : Cond.methodLink RX11 395 yX0_init ∈ xbig := xbt7 132 (by decide +kernel) (by decide +kernel)
theorem mi0 : Cond.instanceMethod yX0_init ∈ xbig := xbt7 133 (by decide +kernel) (by decide +kernel)
theorem cmX11_395 {r : Option Nat} {v0 : Option Nat} {v1 : Option Nat} {f : Mem → XA} (hm : mt.1.cls = RX11) (hs : XSnd l xmt rec d) (h8 : st.length ≤ 4) (hd : decode mt.2.1 pc = .ok (.invokespecial 395, 3)) (k : ∀ M1, Xe S G K l mt d (pc + 3) lo st M1 (f M1)) : Xe S G K l mt d pc lo (va_rf v1 :: va_rf v0 :: va_rf r :: st) M (vC (1, 4) M r (cV (rec 0 ([va_rf r, va_rf v0, va_rf v1]) M) f)) := x_callI_V hs xq0 xm0 rfl rfl (by rw [hm]; exact lmX11_395) mi0 rfl rfl h8 hd k
theorem xm172 : XMi (yX11_buildAt, cX11_buildAt, 2, some (.object "TestHouse$Build")) 1 := ⟨xbt7 168 rfl (by decide +kernel), xbt1 1 (by decide +kernel) (by decide +kernel), by decide +kernel, by decide +kernel, by decide, by decide +kernel⟩
theorem xq172 : xmt 172 = (yX11_buildAt, cX11_buildAt, 2, some (.object "TestHouse$Build")) := rfl
theorem lmX11_398 : Cond.methodLink RX11 398 yX11_buildAt ∈ xbig := xbt7 165 (by decide +kernel) (by decide +kernel)
theorem mi172 : Cond.instanceMethod yX11_buildAt ∈ xbig := xbt7 167 (by decide +kernel) (by decide +kernel)
theorem mse172 : Cond.selects RX11 yX11_buildAt yX11_buildAt ∈ xbig := xb_mem 89 (by decide +kernel) (by decide +kernel)
theorem cmX11_398 {r : Option Nat} {v0 : Int32} {f : Option Nat → Mem → XA} (hm : mt.1.cls = RX11) (hs : XSnd l xmt rec d) (h8 : st.length ≤ 4) (hd : decode mt.2.1 pc = .ok (.invokevirtual 398, 3)) (k : ∀ x M1, Xe S G K l mt d (pc + 3) lo (va_rf x :: st) M1 (f x M1)) : Xe S G K l mt d pc lo (.int v0 :: va_rf r :: st) M (vC (12, 19) M r (cP (rec 172 ([va_rf r, .int v0]) M) f)) := x_callV_P hs xq172 xm172 xci12 rfl (by rw [hm]; exact lmX11_398) mi172 mse172 rfl rfl h8 hd k
theorem xm53 : XMi (yX5_unitOfCode, cX5_unitOfCode, 3, some .int) 1 := ⟨xbt7 172 rfl (by decide +kernel), xbt1 24 (by decide +kernel) (by decide +kernel), by decide +kernel, by decide +kernel, by decide, by decide +kernel⟩
theorem xq53 : xmt 53 = (yX5_unitOfCode, cX5_unitOfCode, 3, some .int) := rfl
theorem lmX11_406 : Cond.methodLink RX11 406 yX5_unitOfCode ∈ xbig := xbt7 169 (by decide +kernel) (by decide +kernel)
theorem mi53 : Cond.instanceMethod yX5_unitOfCode ∈ xbig := xbt7 170 (by decide +kernel) (by decide +kernel)
theorem mse53 : Cond.selects RX5 yX5_unitOfCode yX5_unitOfCode ∈ xbig := xbt7 171 (by decide +kernel) (by decide +kernel)
theorem cmX11_406 {r : Option Nat} {v0 : Int32} {f : Int32 → Mem → XA} (hm : mt.1.cls = RX11) (hs : XSnd l xmt rec d) (h8 : st.length ≤ 4) (hd : decode mt.2.1 pc = .ok (.invokevirtual 406, 3)) (k : ∀ x M1, Xe S G K l mt d (pc + 3) lo (.int x :: st) M1 (f x M1)) : Xe S G K l mt d pc lo (.int v0 :: va_rf r :: st) M (vC (6, 18) M r (cI (rec 53 ([va_rf r, .int v0]) M) f)) := x_callV_I hs xq53 xm53 xci6 rfl (by rw [hm]; exact lmX11_406) mi53 mse53 rfl rfl h8 hd k
theorem xm3 : XMi (yX0_isReplaced, cX0_isReplaced, 2, some .boolean) 1 := ⟨xbt7 177 rfl (by decide +kernel), xbt1 28 (by decide +kernel) (by decide +kernel), by decide +kernel, by decide +kernel, by decide, by decide +kernel⟩
theorem xq3 : xmt 3 = (yX0_isReplaced, cX0_isReplaced, 2, some .boolean) := rfl
theorem lmX11_409 : Cond.methodLink RX11 409 yX0_isReplaced ∈ xbig := xbt7 174 (by decide +kernel) (by decide +kernel)
theorem mi3 : Cond.instanceMethod yX0_isReplaced ∈ xbig := xbt7 175 (by decide +kernel) (by decide +kernel)
theorem mse3 : Cond.selects RX0 yX0_isReplaced yX0_isReplaced ∈ xbig := xbt7 176 (by decide +kernel) (by decide +kernel)
theorem cmX11_409 {r : Option Nat} {v0 : Int32} {f : Int32 → Mem → XA} (hm : mt.1.cls = RX11) (hs : XSnd l xmt rec d) (h8 : st.length ≤ 4) (hd : decode mt.2.1 pc = .ok (.invokevirtual 409, 3)) (k : ∀ x M1, Xe S G K l mt d (pc + 3) lo (.int x :: st) M1 (f x M1)) : Xe S G K l mt d pc lo (.int v0 :: va_rf r :: st) M (vC (1, 4) M r (cI (rec 3 ([va_rf r, .int v0]) M) f)) := x_callV_I hs xq3 xm3 xci1 rfl (by rw [hm]; exact lmX11_409) mi3 mse3 rfl rfl h8 hd k
theorem xm4 : XMi (yX0_linkOf, cX0_linkOf, 2, some .int) 1 := ⟨xbt6 21 rfl (by decide +kernel), xbt1 28 (by decide +kernel) (by decide +kernel), by decide +kernel, by decide +kernel, by decide, by decide +kernel⟩
theorem xq4 : xmt 4 = (yX0_linkOf, cX0_linkOf, 2, some .int) := rfl
theorem lmX11_413 : Cond.methodLink RX11 413 yX0_linkOf ∈ xbig := xbt7 178 (by decide +kernel) (by decide +kernel)
theorem mi4 : Cond.instanceMethod yX0_linkOf ∈ xbig := xbt6 19 (by decide +kernel) (by decide +kernel)
theorem mse4 : Cond.selects RX0 yX0_linkOf yX0_linkOf ∈ xbig := xbt6 20 (by decide +kernel) (by decide +kernel)
theorem cmX11_413 {r : Option Nat} {v0 : Int32} {f : Int32 → Mem → XA} (hm : mt.1.cls = RX11) (hs : XSnd l xmt rec d) (h8 : st.length ≤ 4) (hd : decode mt.2.1 pc = .ok (.invokevirtual 413, 3)) (k : ∀ x M1, Xe S G K l mt d (pc + 3) lo (.int x :: st) M1 (f x M1)) : Xe S G K l mt d pc lo (.int v0 :: va_rf r :: st) M (vC (1, 4) M r (cI (rec 4 ([va_rf r, .int v0]) M) f)) := x_callV_I hs xq4 xm4 xci1 rfl (by rw [hm]; exact lmX11_413) mi4 mse4 rfl rfl h8 hd k
theorem xm20 : XMi (yX3_takeBuild, cX3_takeBuild, 2, none) 1 := ⟨xbt7 186 rfl (by decide +kernel), xbt1 11 (by decide +kernel) (by decide +kernel), by decide +kernel, by decide +kernel, by decide, by decide +kernel⟩
theorem xq20 : xmt 20 = (yX3_takeBuild, cX3_takeBuild, 2, none) := rfl
theorem lmX11_416 : Cond.methodLink RX11 416 yX3_takeBuild ∈ xbig := xbt7 183 (by decide +kernel) (by decide +kernel)
theorem mi20 : Cond.instanceMethod yX3_takeBuild ∈ xbig := xbt7 184 (by decide +kernel) (by decide +kernel)
theorem mse20 : Cond.selects RX3 yX3_takeBuild yX3_takeBuild ∈ xbig := xbt7 185 (by decide +kernel) (by decide +kernel)
theorem cmX11_416 {r : Option Nat} {v0 : Option Nat} {f : Mem → XA} (hm : mt.1.cls = RX11) (hs : XSnd l xmt rec d) (h8 : st.length ≤ 4) (hd : decode mt.2.1 pc = .ok (.invokevirtual 416, 3)) (k : ∀ M1, Xe S G K l mt d (pc + 3) lo st M1 (f M1)) : Xe S G K l mt d pc lo (va_rf v0 :: va_rf r :: st) M (vC (4, 22) M r (cV (rec 20 ([va_rf r, va_rf v0]) M) f)) := x_callV_V hs xq20 xm20 xci4 rfl (by rw [hm]; exact lmX11_416) mi20 mse20 rfl rfl h8 hd k
theorem xm316 : XMi (yJ13_numberOfLeadingZeros_95d88, cJ13_numberOfLeadingZeros_95d88, 3, some .int) 1 := ⟨xbt5 162 rfl (by decide +kernel), xbt1 25 (by decide +kernel) (by decide +kernel), by decide +kernel, by decide +kernel, by decide, by decide +kernel⟩
theorem xq316 : xmt 316 = (yJ13_numberOfLeadingZeros_95d88, cJ13_numberOfLeadingZeros_95d88, 3, some .int) := rfl
theorem lmX11_420 : Cond.methodLink RX11 420 yJ13_numberOfLeadingZeros_95d88 ∈ xbig := xbt5 160 (by decide +kernel) (by decide +kernel)
theorem ms316 : Cond.static yJ13_numberOfLeadingZeros_95d88 ∈ xbig := xbt5 161 (by decide +kernel) (by decide +kernel)
theorem cmX11_420 {v0 : Int64} {f : Int32 → Mem → XA} (hm : mt.1.cls = RX11) (hs : XSnd l xmt rec d) (h8 : st.length ≤ 4) (hd : decode mt.2.1 pc = .ok (.invokestatic 420, 3)) (k : ∀ x M1, Xe S G K l mt d (pc + 3) lo (.int x :: st) M1 (f x M1)) : Xe S G K l mt d pc lo (.long v0 :: st) M (cI (rec 316 [.long v0] M) f) := x_callS_I hs xq316 xm316 rfl (by rw [hm]; exact lmX11_420) ms316 rfl rfl h8 hd k
theorem xm23 : XMi (yX3_beginRun, cX3_beginRun, 5, none) 0 := ⟨xbt5 210 rfl (by decide +kernel), xbt1 11 (by decide +kernel) (by decide +kernel), by decide +kernel, by decide +kernel, by decide, by decide +kernel⟩
theorem xq23 : xmt 23 = (yX3_beginRun, cX3_beginRun, 5, none) := rfl
theorem lmX11_426 : Cond.methodLink RX11 426 yX3_beginRun ∈ xbig := xbt5 207 (by decide +kernel) (by decide +kernel)
theorem mi23 : Cond.instanceMethod yX3_beginRun ∈ xbig := xbt5 208 (by decide +kernel) (by decide +kernel)
theorem mse23 : Cond.selects RX3 yX3_beginRun yX3_beginRun ∈ xbig := xbt5 209 (by decide +kernel) (by decide +kernel)
theorem cmX11_426 {r : Option Nat} {f : Mem → XA} (hm : mt.1.cls = RX11) (hs : XSnd l xmt rec d) (h8 : st.length ≤ 4) (hd : decode mt.2.1 pc = .ok (.invokevirtual 426, 3)) (k : ∀ M1, Xe S G K l mt d (pc + 3) lo st M1 (f M1)) : Xe S G K l mt d pc lo (va_rf r :: st) M (vC (4, 22) M r (cV (rec 23 ([va_rf r]) M) f)) := x_callV_V hs xq23 xm23 xci4 rfl (by rw [hm]; exact lmX11_426) mi23 mse23 rfl rfl h8 hd k
theorem xm25 : XMi (yX3_live, cX3_live, 5, none) 1 := ⟨xbt5 221 rfl (by decide +kernel), xbt1 11 (by decide +kernel) (by decide +kernel), by decide +kernel, by decide +kernel, by decide, by decide +kernel⟩
theorem xq25 : xmt 25 = (yX3_live, cX3_live, 5, none) := rfl
theorem lmX11_432 : Cond.methodLink RX11 432 yX3_live ∈ xbig := xbt5 218 (by decide +kernel) (by decide +kernel)
theorem mi25 : Cond.instanceMethod yX3_live ∈ xbig := xbt5 219 (by decide +kernel) (by decide +kernel)
theorem mse25 : Cond.selects RX3 yX3_live yX3_live ∈ xbig := xbt5 220 (by decide +kernel) (by decide +kernel)
theorem cmX11_432 {r : Option Nat} {v0 : Option Nat} {f : Mem → XA} (hm : mt.1.cls = RX11) (hs : XSnd l xmt rec d) (h8 : st.length ≤ 4) (hd : decode mt.2.1 pc = .ok (.invokevirtual 432, 3)) (k : ∀ M1, Xe S G K l mt d (pc + 3) lo st M1 (f M1)) : Xe S G K l mt d pc lo (va_rf v0 :: va_rf r :: st) M (vC (4, 22) M r (cV (rec 25 ([va_rf r, va_rf v0]) M) f)) := x_callV_V hs xq25 xm25 xci4 rfl (by rw [hm]; exact lmX11_432) mi25 mse25 rfl rfl h8 hd k
theorem xm49 : XMi (yX4_copy, cX4_copy, 2, none) 1 := ⟨xbt6 125 rfl (by decide +kernel), xbt1 12 (by decide +kernel) (by decide +kernel), by decide +kernel, by decide +kernel, by decide, by decide +kernel⟩
theorem xq49 : xmt 49 = (yX4_copy, cX4_copy, 2, none) := rfl
theorem lmX11_436 : Cond.methodLink RX11 436 yX4_copy ∈ xbig := xbt6 122 (by decide +kernel) (by decide +kernel)
theorem mi49 : Cond.instanceMethod yX4_copy ∈ xbig := xbt6 123 (by decide +kernel) (by decide +kernel)
theorem mse49 : Cond.selects RX4 yX4_copy yX4_copy ∈ xbig := xbt6 124 (by decide +kernel) (by decide +kernel)
theorem cmX11_436 {r : Option Nat} {v0 : Option Nat} {f : Mem → XA} (hm : mt.1.cls = RX11) (hs : XSnd l xmt rec d) (h8 : st.length ≤ 4) (hd : decode mt.2.1 pc = .ok (.invokevirtual 436, 3)) (k : ∀ M1, Xe S G K l mt d (pc + 3) lo st M1 (f M1)) : Xe S G K l mt d pc lo (va_rf v0 :: va_rf r :: st) M (vC (5, 5) M r (cV (rec 49 ([va_rf r, va_rf v0]) M) f)) := x_callV_V hs xq49 xm49 xci5 rfl (by rw [hm]; exact lmX11_436) mi49 mse49 rfl rfl h8 hd k
theorem xm27 : XMi (yX3_holds, cX3_holds, 4, some .boolean) 2 := ⟨xbt6 221 rfl (by decide +kernel), xbt1 11 (by decide +kernel) (by decide +kernel), by decide +kernel, by decide +kernel, by decide, by decide +kernel⟩
theorem xq27 : xmt 27 = (yX3_holds, cX3_holds, 4, some .boolean) := rfl
theorem lmX11_446 : Cond.methodLink RX11 446 yX3_holds ∈ xbig := xbt6 218 (by decide +kernel) (by decide +kernel)
theorem mi27 : Cond.instanceMethod yX3_holds ∈ xbig := xbt6 219 (by decide +kernel) (by decide +kernel)
theorem mse27 : Cond.selects RX3 yX3_holds yX3_holds ∈ xbig := xbt6 220 (by decide +kernel) (by decide +kernel)
theorem cmX11_446 {r : Option Nat} {v0 : Option Nat} {v1 : Option Nat} {f : Int32 → Mem → XA} (hm : mt.1.cls = RX11) (hs : XSnd l xmt rec d) (h8 : st.length ≤ 4) (hd : decode mt.2.1 pc = .ok (.invokevirtual 446, 3)) (k : ∀ x M1, Xe S G K l mt d (pc + 3) lo (.int x :: st) M1 (f x M1)) : Xe S G K l mt d pc lo (va_rf v1 :: va_rf v0 :: va_rf r :: st) M (vC (4, 22) M r (cI (rec 27 ([va_rf r, va_rf v0, va_rf v1]) M) f)) := x_callV_I hs xq27 xm27 xci4 rfl (by rw [hm]; exact lmX11_446) mi27 mse27 rfl rfl h8 hd k
theorem xm12 : XMi (yX2_begin, cX2_begin, 1, none) 0 := ⟨xbt7 90 rfl (by decide +kernel), xbt1 14 (by decide +kernel) (by decide +kernel), by decide +kernel, by decide +kernel, by decide, by decide +kernel⟩
theorem xq12 : xmt 12 = (yX2_begin, cX2_begin, 1, none) := rfl
theorem lmX11_454 : Cond.methodLink RX11 454 yX2_begin ∈ xbig := xbt7 87 (by decide +kernel) (by decide +kernel)
theorem mi12 : Cond.instanceMethod yX2_begin ∈ xbig := xbt7 88 (by decide +kernel) (by decide +kernel)
theorem mse12 : Cond.selects RX2 yX2_begin yX2_begin ∈ xbig := xbt7 89 (by decide +kernel) (by decide +kernel)
theorem cmX11_454 {r : Option Nat} {f : Mem → XA} (hm : mt.1.cls = RX11) (hs : XSnd l xmt rec d) (h8 : st.length ≤ 4) (hd : decode mt.2.1 pc = .ok (.invokevirtual 454, 3)) (k : ∀ M1, Xe S G K l mt d (pc + 3) lo st M1 (f M1)) : Xe S G K l mt d pc lo (va_rf r :: st) M (vC (3, 7) M r (cV (rec 12 ([va_rf r]) M) f)) := x_callV_V hs xq12 xm12 xci3 rfl (by rw [hm]; exact lmX11_454) mi12 mse12 rfl rfl h8 hd k
theorem xm13 : XMi (yX2_beginRow, cX2_beginRow, 1, none) 0 := ⟨xbt7 94 rfl (by decide +kernel), xbt1 14 (by decide +kernel) (by decide +kernel), by decide +kernel, by decide +kernel, by decide, by decide +kernel⟩
theorem xq13 : xmt 13 = (yX2_beginRow, cX2_beginRow, 1, none) := rfl
theorem lmX11_456 : Cond.methodLink RX11 456 yX2_beginRow ∈ xbig := xbt7 91 (by decide +kernel) (by decide +kernel)
theorem mi13 : Cond.instanceMethod yX2_beginRow ∈ xbig := xbt7 92 (by decide +kernel) (by decide +kernel)
theorem mse13 : Cond.selects RX2 yX2_beginRow yX2_beginRow ∈ xbig := xbt7 93 (by decide +kernel) (by decide +kernel)
theorem cmX11_456 {r : Option Nat} {f : Mem → XA} (hm : mt.1.cls = RX11) (hs : XSnd l xmt rec d) (h8 : st.length ≤ 4) (hd : decode mt.2.1 pc = .ok (.invokevirtual 456, 3)) (k : ∀ M1, Xe S G K l mt d (pc + 3) lo st M1 (f M1)) : Xe S G K l mt d pc lo (va_rf r :: st) M (vC (3, 7) M r (cV (rec 13 ([va_rf r]) M) f)) := x_callV_V hs xq13 xm13 xci3 rfl (by rw [hm]; exact lmX11_456) mi13 mse13 rfl rfl h8 hd k
theorem xm16 : XMi (yX2_addRow, cX2_addRow, 9, none) 0 := ⟨xbt7 98 rfl (by decide +kernel), xbt1 14 (by decide +kernel) (by decide +kernel), by decide +kernel, by decide +kernel, by decide, by decide +kernel⟩
theorem xq16 : xmt 16 = (yX2_addRow, cX2_addRow, 9, none) := rfl
theorem lmX11_459 : Cond.methodLink RX11 459 yX2_addRow ∈ xbig := xbt7 95 (by decide +kernel) (by decide +kernel)
theorem mi16 : Cond.instanceMethod yX2_addRow ∈ xbig := xbt7 96 (by decide +kernel) (by decide +kernel)
theorem mse16 : Cond.selects RX2 yX2_addRow yX2_addRow ∈ xbig := xbt7 97 (by decide +kernel) (by decide +kernel)
theorem cmX11_459 {r : Option Nat} {f : Mem → XA} (hm : mt.1.cls = RX11) (hs : XSnd l xmt rec d) (h8 : st.length ≤ 4) (hd : decode mt.2.1 pc = .ok (.invokevirtual 459, 3)) (k : ∀ M1, Xe S G K l mt d (pc + 3) lo st M1 (f M1)) : Xe S G K l mt d pc lo (va_rf r :: st) M (vC (3, 7) M r (cV (rec 16 ([va_rf r]) M) f)) := x_callV_V hs xq16 xm16 xci3 rfl (by rw [hm]; exact lmX11_459) mi16 mse16 rfl rfl h8 hd k
theorem xm15 : XMi (yX2_nextRow, cX2_nextRow, 1, some .boolean) 0 := ⟨xbt7 106 rfl (by decide +kernel), xbt1 14 (by decide +kernel) (by decide +kernel), by decide +kernel, by decide +kernel, by decide, by decide +kernel⟩
theorem xq15 : xmt 15 = (yX2_nextRow, cX2_nextRow, 1, some .boolean) := rfl
theorem lmX11_462 : Cond.methodLink RX11 462 yX2_nextRow ∈ xbig := xbt7 103 (by decide +kernel) (by decide +kernel)
theorem mi15 : Cond.instanceMethod yX2_nextRow ∈ xbig := xbt7 104 (by decide +kernel) (by decide +kernel)
theorem mse15 : Cond.selects RX2 yX2_nextRow yX2_nextRow ∈ xbig := xbt7 105 (by decide +kernel) (by decide +kernel)
theorem cmX11_462 {r : Option Nat} {f : Int32 → Mem → XA} (hm : mt.1.cls = RX11) (hs : XSnd l xmt rec d) (h8 : st.length ≤ 4) (hd : decode mt.2.1 pc = .ok (.invokevirtual 462, 3)) (k : ∀ x M1, Xe S G K l mt d (pc + 3) lo (.int x :: st) M1 (f x M1)) : Xe S G K l mt d pc lo (va_rf r :: st) M (vC (3, 7) M r (cI (rec 15 ([va_rf r]) M) f)) := x_callV_I hs xq15 xm15 xci3 rfl (by rw [hm]; exact lmX11_462) mi15 mse15 rfl rfl h8 hd k
theorem lmX0_28 : Cond.methodLink RX0 28 yJx4a65c_size_8abf5 ∈ xbig := xbt7 136 (by decide +kernel) (by decide +kernel)
theorem cmX0_28 {r : Option Nat} {f : Int32 → Mem → XA} (hm : mt.1.cls = RX0) (hs : XSnd l xmt rec d) (h8 : st.length ≤ 4) (hd : decode mt.2.1 pc = .ok (.invokevirtual 28, 3)) (k : ∀ x M1, Xe S G K l mt d (pc + 3) lo (.int x :: st) M1 (f x M1)) : Xe S G K l mt d pc lo (va_rf r :: st) M (vC (0, 3) M r (cI (rec 346 ([va_rf r]) M) f)) := x_callV_I hs xq346 xm346 xci0 rfl (by rw [hm]; exact lmX0_28) mi346 mse346 rfl rfl h8 hd k
theorem lmX0_34 : Cond.methodLink RX0 34 yJx4a65c_get_915e3 ∈ xbig := xbt7 137 (by decide +kernel) (by decide +kernel)
theorem cmX0_34 {r : Option Nat} {v0 : Int32} {f : Option Nat → Mem → XA} (hm : mt.1.cls = RX0) (hs : XSnd l xmt rec d) (h8 : st.length ≤ 4) (hd : decode mt.2.1 pc = .ok (.invokevirtual 34, 3)) (k : ∀ x M1, Xe S G K l mt d (pc + 3) lo (va_rf x :: st) M1 (f x M1)) : Xe S G K l mt d pc lo (.int v0 :: va_rf r :: st) M (vC (0, 3) M r (cP (rec 348 ([va_rf r, .int v0]) M) f)) := x_callV_P hs xq348 xm348 xci0 rfl (by rw [hm]; exact lmX0_34) mi348 mse348 rfl rfl h8 hd k
theorem xm1 : XMi (yX0_unitNamed, cX0_unitNamed, 4, some .int) 2 := ⟨xbt7 141 rfl (by decide +kernel), xbt1 28 (by decide +kernel) (by decide +kernel), by decide +kernel, by decide +kernel, by decide, by decide +kernel⟩
theorem xq1 : xmt 1 = (yX0_unitNamed, cX0_unitNamed, 4, some .int) := rfl
theorem lmX0_44 : Cond.methodLink RX0 44 yX0_unitNamed ∈ xbig := xbt7 139 (by decide +kernel) (by decide +kernel)
theorem ms1 : Cond.static yX0_unitNamed ∈ xbig := xbt7 140 (by decide +kernel) (by decide +kernel)
theorem cmX0_44 {v0 : Option Nat} {v1 : Int64} {f : Int32 → Mem → XA} (hm : mt.1.cls = RX0) (hs : XSnd l xmt rec d) (h8 : st.length ≤ 4) (hd : decode mt.2.1 pc = .ok (.invokestatic 44, 3)) (k : ∀ x M1, Xe S G K l mt d (pc + 3) lo (.int x :: st) M1 (f x M1)) : Xe S G K l mt d pc lo (.long v1 :: va_rf v0 :: st) M (cI (rec 1 [va_rf v0, .long v1] M) f) := x_callS_I hs xq1 xm1 rfl (by rw [hm]; exact lmX0_44) ms1 rfl rfl h8 hd k
theorem xm2 : XMi (yX0_linkTo, cX0_linkTo, 7, some .int) 3 := ⟨xbt7 145 rfl (by decide +kernel), xbt1 28 (by decide +kernel) (by decide +kernel), by decide +kernel, by decide +kernel, by decide, by decide +kernel⟩
theorem xq2 : xmt 2 = (yX0_linkTo, cX0_linkTo, 7, some .int) := rfl
theorem lmX0_60 : Cond.methodLink RX0 60 yX0_linkTo ∈ xbig := xbt7 143 (by decide +kernel) (by decide +kernel)
theorem ms2 : Cond.static yX0_linkTo ∈ xbig := xbt7 144 (by decide +kernel) (by decide +kernel)
theorem cmX0_60 {v0 : Option Nat} {v1 : Int32} {v2 : Option Nat} {f : Int32 → Mem → XA} (hm : mt.1.cls = RX0) (hs : XSnd l xmt rec d) (h8 : st.length ≤ 4) (hd : decode mt.2.1 pc = .ok (.invokestatic 60, 3)) (k : ∀ x M1, Xe S G K l mt d (pc + 3) lo (.int x :: st) M1 (f x M1)) : Xe S G K l mt d pc lo (va_rf v2 :: .int v1 :: va_rf v0 :: st) M (cI (rec 2 [va_rf v0, .int v1, va_rf v2] M) f) := x_callS_I hs xq2 xm2 rfl (by rw [hm]; exact lmX0_60) ms2 rfl rfl h8 hd k
theorem xm8 : XMi (yX1_completes, cX1_completes, 8, some .boolean) 5 := ⟨xbt7 65 rfl (by decide +kernel), xbt1 27 (by decide +kernel) (by decide +kernel), by decide +kernel, by decide +kernel, by decide, by decide +kernel⟩
theorem xq8 : xmt 8 = (yX1_completes, cX1_completes, 8, some .boolean) := rfl
theorem lmX1_34 : Cond.methodLink RX1 34 yX1_completes ∈ xbig := xbt7 62 (by decide +kernel) (by decide +kernel)
theorem mi8 : Cond.instanceMethod yX1_completes ∈ xbig := xbt7 64 (by decide +kernel) (by decide +kernel)
theorem mse8 : Cond.selects RX1 yX1_completes yX1_completes ∈ xbig := xb_mem 84 (by decide +kernel) (by decide +kernel)
theorem cmX1_34 {r : Option Nat} {v0 : Int32} {v1 : Int32} {v2 : Int32} {v3 : Int32} {v4 : Int32} {f : Int32 → Mem → XA} (hm : mt.1.cls = RX1) (hs : XSnd l xmt rec d) (h8 : st.length ≤ 4) (hd : decode mt.2.1 pc = .ok (.invokevirtual 34, 3)) (k : ∀ x M1, Xe S G K l mt d (pc + 3) lo (.int x :: st) M1 (f x M1)) : Xe S G K l mt d pc lo (.int v4 :: .int v3 :: .int v2 :: .int v1 :: .int v0 :: va_rf r :: st) M (vC (2, 7) M r (cI (rec 8 ([va_rf r, .int v0, .int v1, .int v2, .int v3, .int v4]) M) f)) := x_callV_I hs xq8 xm8 xci2 rfl (by rw [hm]; exact lmX1_34) mi8 mse8 rfl rfl h8 hd k
theorem xm10 : XMi (yX1_mayBeNext, cX1_mayBeNext, 4, some .boolean) 2 := ⟨xbt7 69 rfl (by decide +kernel), xbt1 27 (by decide +kernel) (by decide +kernel), by decide +kernel, by decide +kernel, by decide, by decide +kernel⟩
theorem xq10 : xmt 10 = (yX1_mayBeNext, cX1_mayBeNext, 4, some .boolean) := rfl
theorem lmX1_41 : Cond.methodLink RX1 41 yX1_mayBeNext ∈ xbig := xbt7 66 (by decide +kernel) (by decide +kernel)
theorem mi10 : Cond.instanceMethod yX1_mayBeNext ∈ xbig := xbt7 68 (by decide +kernel) (by decide +kernel)
theorem mse10 : Cond.selects RX1 yX1_mayBeNext yX1_mayBeNext ∈ xbig := xb_mem 85 (by decide +kernel) (by decide +kernel)
theorem cmX1_41 {r : Option Nat} {v0 : Int32} {v1 : Int32} {f : Int32 → Mem → XA} (hm : mt.1.cls = RX1) (hs : XSnd l xmt rec d) (h8 : st.length ≤ 4) (hd : decode mt.2.1 pc = .ok (.invokevirtual 41, 3)) (k : ∀ x M1, Xe S G K l mt d (pc + 3) lo (.int x :: st) M1 (f x M1)) : Xe S G K l mt d pc lo (.int v1 :: .int v0 :: va_rf r :: st) M (vC (2, 7) M r (cI (rec 10 ([va_rf r, .int v0, .int v1]) M) f)) := x_callV_I hs xq10 xm10 xci2 rfl (by rw [hm]; exact lmX1_41) mi10 mse10 rfl rfl h8 hd k
theorem xm9 : XMi (yX1_completesBehind, cX1_completesBehind, 12, some .boolean) 5 := ⟨xbt7 73 rfl (by decide +kernel), xbt1 27 (by decide +kernel) (by decide +kernel), by decide +kernel, by decide +kernel, by decide, by decide +kernel⟩
theorem xq9 : xmt 9 = (yX1_completesBehind, cX1_completesBehind, 12, some .boolean) := rfl
theorem lmX1_45 : Cond.methodLink RX1 45 yX1_completesBehind ∈ xbig := xbt7 70 (by decide +kernel) (by decide +kernel)
theorem mi9 : Cond.instanceMethod yX1_completesBehind ∈ xbig := xbt7 72 (by decide +kernel) (by decide +kernel)
theorem mse9 : Cond.selects RX1 yX1_completesBehind yX1_completesBehind ∈ xbig := xb_mem 86 (by decide +kernel) (by decide +kernel)
theorem cmX1_45 {r : Option Nat} {v0 : Int32} {v1 : Int32} {v2 : Int32} {v3 : Int32} {v4 : Int32} {f : Int32 → Mem → XA} (hm : mt.1.cls = RX1) (hs : XSnd l xmt rec d) (h8 : st.length ≤ 4) (hd : decode mt.2.1 pc = .ok (.invokevirtual 45, 3)) (k : ∀ x M1, Xe S G K l mt d (pc + 3) lo (.int x :: st) M1 (f x M1)) : Xe S G K l mt d pc lo (.int v4 :: .int v3 :: .int v2 :: .int v1 :: .int v0 :: va_rf r :: st) M (vC (2, 7) M r (cI (rec 9 ([va_rf r, .int v0, .int v1, .int v2, .int v3, .int v4]) M) f)) := x_callV_I hs xq9 xm9 xci2 rfl (by rw [hm]; exact lmX1_45) mi9 mse9 rfl rfl h8 hd k
theorem lmX1_48 : Cond.methodLink RX1 48 yJ6_bitCount_0f7a4 ∈ xbig := xbt7 74 (by decide +kernel) (by decide +kernel)
theorem cmX1_48 {v0 : Int32} {f : Int32 → Mem → XA} (hm : mt.1.cls = RX1) (hs : XSnd l xmt rec d) (h8 : st.length ≤ 4) (hd : decode mt.2.1 pc = .ok (.invokestatic 48, 3)) (k : ∀ x M1, Xe S G K l mt d (pc + 3) lo (.int x :: st) M1 (f x M1)) : Xe S G K l mt d pc lo (.int v0 :: st) M (cI (rec 315 [.int v0] M) f) := x_callS_I hs xq315 xm315 rfl (by rw [hm]; exact lmX1_48) ms315 rfl rfl h8 hd k
theorem xm17 : XMi (yX2_commonDivisor, cX2_commonDivisor, 11, some .long) 2 := ⟨xbt7 102 rfl (by decide +kernel), xbt1 14 (by decide +kernel) (by decide +kernel), by decide +kernel, by decide +kernel, by decide, by decide +kernel⟩
theorem xq17 : xmt 17 = (yX2_commonDivisor, cX2_commonDivisor, 11, some .long) := rfl
theorem lmX2_38 : Cond.methodLink RX2 38 yX2_commonDivisor ∈ xbig := xbt7 100 (by decide +kernel) (by decide +kernel)
theorem ms17 : Cond.static yX2_commonDivisor ∈ xbig := xbt7 101 (by decide +kernel) (by decide +kernel)
theorem cmX2_38 {v0 : Int64} {v1 : Int64} {f : Int64 → Mem → XA} (hm : mt.1.cls = RX2) (hs : XSnd l xmt rec d) (h8 : st.length ≤ 4) (hd : decode mt.2.1 pc = .ok (.invokestatic 38, 3)) (k : ∀ x M1, Xe S G K l mt d (pc + 3) lo (.long x :: st) M1 (f x M1)) : Xe S G K l mt d pc lo (.long v1 :: .long v0 :: st) M (cL (rec 17 [.long v0, .long v1] M) f) := x_callS_L hs xq17 xm17 rfl (by rw [hm]; exact lmX2_38) ms17 rfl rfl h8 hd k
theorem lmX3_11 {G : XG} (U : State) (h : XE G U) : va_Nw (.methodLinkNest RX3 11 yX4_init "TestHouse") U := h.2.2.2.2.2.1.2.2.2.2.2 _ (List.mem_of_getElem? (i := 3) rfl)
theorem cmX3_11 {r : Option Nat} {f : Mem → XA} (hm : mt.1.cls = RX3) (hs : XSnd l xmt rec d) (h8 : st.length ≤ 4) (hd : decode mt.2.1 pc = .ok (.invokespecial 11, 3)) (k : ∀ M1, Xe S G K l mt d (pc + 3) lo st M1 (f M1)) : Xe S G K l mt d pc lo (va_rf r :: st) M (vC (5, 5) M r (cV (rec 47 ([va_rf r]) M) f)) := x_callIN_V hs xq47 xm47 rfl rfl (by rw [hm]; exact lmX3_11) mi47 rfl rfl h8 hd k
theorem xm120 : XMi (yX9_init, cX9_init, 1, none) 0 := ⟨xbt2 38 rfl (by decide +kernel), xbt1 13 (by decide +kernel) (by decide +kernel), by decide +kernel, by decide +kernel, by decide, by decide +kernel⟩
theorem xq120 : xmt 120 = (yX9_init, cX9_init, 1, none) := rfl
theorem lmX3_52 {G : XG} (U : State) (h : XE G U) : va_Nw (.methodLinkNest RX3 52 yX9_init "TestHouse") U := h.2.2.2.2.2.1.2.2.2.2.2 _ (List.mem_of_getElem? (i := 4) rfl)
theorem mi120 : Cond.instanceMethod yX9_init ∈ xbig := xbt2 37 (by decide +kernel) (by decide +kernel)
theorem cmX3_52 {r : Option Nat} {f : Mem → XA} (hm : mt.1.cls = RX3) (hs : XSnd l xmt rec d) (h8 : st.length ≤ 4) (hd : decode mt.2.1 pc = .ok (.invokespecial 52, 3)) (k : ∀ M1, Xe S G K l mt d (pc + 3) lo st M1 (f M1)) : Xe S G K l mt d pc lo (va_rf r :: st) M (vC (10, 9) M r (cV (rec 120 ([va_rf r]) M) f)) := x_callIN_V hs xq120 xm120 rfl rfl (by rw [hm]; exact lmX3_52) mi120 rfl rfl h8 hd k
theorem lmX3_83 : Cond.methodLink RX3 83 yJx4a65c_size_8abf5 ∈ xbig := xbt5 211 (by decide +kernel) (by decide +kernel)
theorem cmX3_83 {r : Option Nat} {f : Int32 → Mem → XA} (hm : mt.1.cls = RX3) (hs : XSnd l xmt rec d) (h8 : st.length ≤ 4) (hd : decode mt.2.1 pc = .ok (.invokevirtual 83, 3)) (k : ∀ x M1, Xe S G K l mt d (pc + 3) lo (.int x :: st) M1 (f x M1)) : Xe S G K l mt d pc lo (va_rf r :: st) M (vC (0, 3) M r (cI (rec 346 ([va_rf r]) M) f)) := x_callV_I hs xq346 xm346 xci0 rfl (by rw [hm]; exact lmX3_83) mi346 mse346 rfl rfl h8 hd k
theorem lmX3_89 : Cond.methodLink RX3 89 yJx4a65c_get_915e3 ∈ xbig := xbt5 212 (by decide +kernel) (by decide +kernel)
theorem cmX3_89 {r : Option Nat} {v0 : Int32} {f : Option Nat → Mem → XA} (hm : mt.1.cls = RX3) (hs : XSnd l xmt rec d) (h8 : st.length ≤ 4) (hd : decode mt.2.1 pc = .ok (.invokevirtual 89, 3)) (k : ∀ x M1, Xe S G K l mt d (pc + 3) lo (va_rf x :: st) M1 (f x M1)) : Xe S G K l mt d pc lo (.int v0 :: va_rf r :: st) M (vC (0, 3) M r (cP (rec 348 ([va_rf r, .int v0]) M) f)) := x_callV_P hs xq348 xm348 xci0 rfl (by rw [hm]; exact lmX3_89) mi348 mse348 rfl rfl h8 hd k
theorem xm352 : XMi (yJ7_fill_53178, cJ7_fill_53178, 4, none) 2 := ⟨xbt5 202 rfl (by decide +kernel), xbt1 21 (by decide +kernel) (by decide +kernel), by decide +kernel, by decide +kernel, by decide, by decide +kernel⟩
theorem xq352 : xmt 352 = (yJ7_fill_53178, cJ7_fill_53178, 4, none) := rfl
theorem lmX3_104 : Cond.methodLink RX3 104 yJ7_fill_53178 ∈ xbig := xbt5 226 (by decide +kernel) (by decide +kernel)
theorem ms352 : Cond.static yJ7_fill_53178 ∈ xbig := xbt5 201 (by decide +kernel) (by decide +kernel)
theorem cmX3_104 {v0 : Option Nat} {v1 : Int32} {f : Mem → XA} (hm : mt.1.cls = RX3) (hs : XSnd l xmt rec d) (h8 : st.length ≤ 4) (hd : decode mt.2.1 pc = .ok (.invokestatic 104, 3)) (k : ∀ M1, Xe S G K l mt d (pc + 3) lo st M1 (f M1)) : Xe S G K l mt d pc lo (.int v1 :: va_rf v0 :: st) M (cV (rec 352 [va_rf v0, .int v1] M) f) := x_callS_V hs xq352 xm352 rfl (by rw [hm]; exact lmX3_104) ms352 rfl rfl h8 hd k
theorem xm24 : XMi (yX3_beginState, cX3_beginState, 1, none) 0 := ⟨xbt5 225 rfl (by decide +kernel), xbt1 11 (by decide +kernel) (by decide +kernel), by decide +kernel, by decide +kernel, by decide, by decide +kernel⟩
theorem xq24 : xmt 24 = (yX3_beginState, cX3_beginState, 1, none) := rfl
theorem lmX3_119 : Cond.methodLink RX3 119 yX3_beginState ∈ xbig := xbt5 222 (by decide +kernel) (by decide +kernel)
theorem mi24 : Cond.instanceMethod yX3_beginState ∈ xbig := xbt5 224 (by decide +kernel) (by decide +kernel)
theorem mse24 : Cond.selects RX3 yX3_beginState yX3_beginState ∈ xbig := xb_mem 57 (by decide +kernel) (by decide +kernel)
theorem cmX3_119 {r : Option Nat} {f : Mem → XA} (hm : mt.1.cls = RX3) (hs : XSnd l xmt rec d) (h8 : st.length ≤ 4) (hd : decode mt.2.1 pc = .ok (.invokevirtual 119, 3)) (k : ∀ M1, Xe S G K l mt d (pc + 3) lo st M1 (f M1)) : Xe S G K l mt d pc lo (va_rf r :: st) M (vC (4, 22) M r (cV (rec 24 ([va_rf r]) M) f)) := x_callV_V hs xq24 xm24 xci4 rfl (by rw [hm]; exact lmX3_119) mi24 mse24 rfl rfl h8 hd k
theorem xm48 : XMi (yX4_tell, cX4_tell, 4, none) 3 := ⟨xbt5 230 rfl (by decide +kernel), xbt1 12 (by decide +kernel) (by decide +kernel), by decide +kernel, by decide +kernel, by decide, by decide +kernel⟩
theorem xq48 : xmt 48 = (yX4_tell, cX4_tell, 4, none) := rfl
theorem lmX3_122 : Cond.methodLink RX3 122 yX4_tell ∈ xbig := xbt5 227 (by decide +kernel) (by decide +kernel)
theorem mi48 : Cond.instanceMethod yX4_tell ∈ xbig := xbt5 228 (by decide +kernel) (by decide +kernel)
theorem mse48 : Cond.selects RX4 yX4_tell yX4_tell ∈ xbig := xbt5 229 (by decide +kernel) (by decide +kernel)
theorem cmX3_122 {r : Option Nat} {v0 : Int32} {v1 : Int32} {v2 : Int32} {f : Mem → XA} (hm : mt.1.cls = RX3) (hs : XSnd l xmt rec d) (h8 : st.length ≤ 4) (hd : decode mt.2.1 pc = .ok (.invokevirtual 122, 3)) (k : ∀ M1, Xe S G K l mt d (pc + 3) lo st M1 (f M1)) : Xe S G K l mt d pc lo (.int v2 :: .int v1 :: .int v0 :: va_rf r :: st) M (vC (5, 5) M r (cV (rec 48 ([va_rf r, .int v0, .int v1, .int v2]) M) f)) := x_callV_V hs xq48 xm48 xci5 rfl (by rw [hm]; exact lmX3_122) mi48 mse48 rfl rfl h8 hd k
theorem xm28 : XMi (yX3_execute, cX3_execute, 5, some .boolean) 1 := ⟨xbt5 235 rfl (by decide +kernel), xbt1 11 (by decide +kernel) (by decide +kernel), by decide +kernel, by decide +kernel, by decide, by decide +kernel⟩
theorem xq28 : xmt 28 = (yX3_execute, cX3_execute, 5, some .boolean) := rfl
theorem lmX3_144 : Cond.methodLink RX3 144 yX3_execute ∈ xbig := xbt5 232 (by decide +kernel) (by decide +kernel)
theorem mi28 : Cond.instanceMethod yX3_execute ∈ xbig := xbt5 234 (by decide +kernel) (by decide +kernel)
theorem mse28 : Cond.selects RX3 yX3_execute yX3_execute ∈ xbig := xb_mem 58 (by decide +kernel) (by decide +kernel)
theorem cmX3_144 {r : Option Nat} {v0 : Int32} {f : Int32 → Mem → XA} (hm : mt.1.cls = RX3) (hs : XSnd l xmt rec d) (h8 : st.length ≤ 4) (hd : decode mt.2.1 pc = .ok (.invokevirtual 144, 3)) (k : ∀ x M1, Xe S G K l mt d (pc + 3) lo (.int x :: st) M1 (f x M1)) : Xe S G K l mt d pc lo (.int v0 :: va_rf r :: st) M (vC (4, 22) M r (cI (rec 28 ([va_rf r, .int v0]) M) f)) := x_callV_I hs xq28 xm28 xci4 rfl (by rw [hm]; exact lmX3_144) mi28 mse28 rfl rfl h8 hd k
theorem xm26 : XMi (yX3_judge, cX3_judge, 4, none) 2 := ⟨xbt6 105 rfl (by decide +kernel), xbt1 11 (by decide +kernel) (by decide +kernel), by decide +kernel, by decide +kernel, by decide, by decide +kernel⟩
theorem xq26 : xmt 26 = (yX3_judge, cX3_judge, 4, none) := rfl
theorem lmX3_151 : Cond.methodLink RX3 151 yX3_judge ∈ xbig := xbt6 102 (by decide +kernel) (by decide +kernel)
theorem mi26 : Cond.instanceMethod yX3_judge ∈ xbig := xbt6 104 (by decide +kernel) (by decide +kernel)
theorem mse26 : Cond.selects RX3 yX3_judge yX3_judge ∈ xbig := xb_mem 76 (by decide +kernel) (by decide +kernel)
theorem cmX3_151 {r : Option Nat} {v0 : Option Nat} {v1 : Int32} {f : Mem → XA} (hm : mt.1.cls = RX3) (hs : XSnd l xmt rec d) (h8 : st.length ≤ 4) (hd : decode mt.2.1 pc = .ok (.invokevirtual 151, 3)) (k : ∀ M1, Xe S G K l mt d (pc + 3) lo st M1 (f M1)) : Xe S G K l mt d pc lo (.int v1 :: va_rf v0 :: va_rf r :: st) M (vC (4, 22) M r (cV (rec 26 ([va_rf r, va_rf v0, .int v1]) M) f)) := x_callV_V hs xq26 xm26 xci4 rfl (by rw [hm]; exact lmX3_151) mi26 mse26 rfl rfl h8 hd k
theorem lmX3_176 : Cond.methodLink RX3 176 yX3_beginRun ∈ xbig := xbt6 222 (by decide +kernel) (by decide +kernel)
theorem cmX3_176 {r : Option Nat} {f : Mem → XA} (hm : mt.1.cls = RX3) (hs : XSnd l xmt rec d) (h8 : st.length ≤ 4) (hd : decode mt.2.1 pc = .ok (.invokevirtual 176, 3)) (k : ∀ M1, Xe S G K l mt d (pc + 3) lo st M1 (f M1)) : Xe S G K l mt d pc lo (va_rf r :: st) M (vC (4, 22) M r (cV (rec 23 ([va_rf r]) M) f)) := x_callV_V hs xq23 xm23 xci4 rfl (by rw [hm]; exact lmX3_176) mi23 mse23 rfl rfl h8 hd k
theorem xm29 : XMi (yX3_enter, cX3_enter, 6, none) 4 := ⟨xbt5 239 rfl (by decide +kernel), xbt1 11 (by decide +kernel) (by decide +kernel), by decide +kernel, by decide +kernel, by decide, by decide +kernel⟩
theorem xq29 : xmt 29 = (yX3_enter, cX3_enter, 6, none) := rfl
theorem lmX3_191 : Cond.methodLink RX3 191 yX3_enter ∈ xbig := xbt5 236 (by decide +kernel) (by decide +kernel)
theorem mi29 : Cond.instanceMethod yX3_enter ∈ xbig := xbt5 238 (by decide +kernel) (by decide +kernel)
theorem mse29 : Cond.selects RX3 yX3_enter yX3_enter ∈ xbig := xb_mem 59 (by decide +kernel) (by decide +kernel)
theorem cmX3_191 {r : Option Nat} {v0 : Int32} {v1 : Int32} {v2 : Int32} {v3 : Int32} {f : Mem → XA} (hm : mt.1.cls = RX3) (hs : XSnd l xmt rec d) (h8 : st.length ≤ 4) (hd : decode mt.2.1 pc = .ok (.invokevirtual 191, 3)) (k : ∀ M1, Xe S G K l mt d (pc + 3) lo st M1 (f M1)) : Xe S G K l mt d pc lo (.int v3 :: .int v2 :: .int v1 :: .int v0 :: va_rf r :: st) M (vC (4, 22) M r (cV (rec 29 ([va_rf r, .int v0, .int v1, .int v2, .int v3]) M) f)) := x_callV_V hs xq29 xm29 xci4 rfl (by rw [hm]; exact lmX3_191) mi29 mse29 rfl rfl h8 hd k
theorem xm30 : XMi (yX3_begins, cX3_begins, 4, some .boolean) 2 := ⟨xbt6 4 rfl (by decide +kernel), xbt1 11 (by decide +kernel) (by decide +kernel), by decide +kernel, by decide +kernel, by decide, by decide +kernel⟩
theorem xq30 : xmt 30 = (yX3_begins, cX3_begins, 4, some .boolean) := rfl
theorem lmX3_198 : Cond.methodLink RX3 198 yX3_begins ∈ xbig := xbt6 1 (by decide +kernel) (by decide +kernel)
theorem mi30 : Cond.instanceMethod yX3_begins ∈ xbig := xbt6 3 (by decide +kernel) (by decide +kernel)
theorem mse30 : Cond.selects RX3 yX3_begins yX3_begins ∈ xbig := xb_mem 60 (by decide +kernel) (by decide +kernel)
theorem cmX3_198 {r : Option Nat} {v0 : Option Nat} {v1 : Option Nat} {f : Int32 → Mem → XA} (hm : mt.1.cls = RX3) (hs : XSnd l xmt rec d) (h8 : st.length ≤ 4) (hd : decode mt.2.1 pc = .ok (.invokevirtual 198, 3)) (k : ∀ x M1, Xe S G K l mt d (pc + 3) lo (.int x :: st) M1 (f x M1)) : Xe S G K l mt d pc lo (va_rf v1 :: va_rf v0 :: va_rf r :: st) M (vC (4, 22) M r (cI (rec 30 ([va_rf r, va_rf v0, va_rf v1]) M) f)) := x_callV_I hs xq30 xm30 xci4 rfl (by rw [hm]; exact lmX3_198) mi30 mse30 rfl rfl h8 hd k
theorem xm31 : XMi (yX3_obey, cX3_obey, 6, none) 2 := ⟨xbt6 12 rfl (by decide +kernel), xbt1 11 (by decide +kernel) (by decide +kernel), by decide +kernel, by decide +kernel, by decide, by decide +kernel⟩
theorem xq31 : xmt 31 = (yX3_obey, cX3_obey, 6, none) := rfl
theorem lmX3_202 : Cond.methodLink RX3 202 yX3_obey ∈ xbig := xbt6 9 (by decide +kernel) (by decide +kernel)
theorem mi31 : Cond.instanceMethod yX3_obey ∈ xbig := xbt6 11 (by decide +kernel) (by decide +kernel)
theorem mse31 : Cond.selects RX3 yX3_obey yX3_obey ∈ xbig := xb_mem 61 (by decide +kernel) (by decide +kernel)
theorem cmX3_202 {r : Option Nat} {v0 : Option Nat} {v1 : Option Nat} {f : Mem → XA} (hm : mt.1.cls = RX3) (hs : XSnd l xmt rec d) (h8 : st.length ≤ 4) (hd : decode mt.2.1 pc = .ok (.invokevirtual 202, 3)) (k : ∀ M1, Xe S G K l mt d (pc + 3) lo st M1 (f M1)) : Xe S G K l mt d pc lo (va_rf v1 :: va_rf v0 :: va_rf r :: st) M (vC (4, 22) M r (cV (rec 31 ([va_rf r, va_rf v0, va_rf v1]) M) f)) := x_callV_V hs xq31 xm31 xci4 rfl (by rw [hm]; exact lmX3_202) mi31 mse31 rfl rfl h8 hd k
theorem xm55 : XMi (yX5_noteBegun, cX5_noteBegun, 3, none) 2 := ⟨xbt6 8 rfl (by decide +kernel), xbt1 24 (by decide +kernel) (by decide +kernel), by decide +kernel, by decide +kernel, by decide, by decide +kernel⟩
theorem xq55 : xmt 55 = (yX5_noteBegun, cX5_noteBegun, 3, none) := rfl
theorem lmX3_212 : Cond.methodLink RX3 212 yX5_noteBegun ∈ xbig := xbt6 5 (by decide +kernel) (by decide +kernel)
theorem mi55 : Cond.instanceMethod yX5_noteBegun ∈ xbig := xbt6 6 (by decide +kernel) (by decide +kernel)
theorem mse55 : Cond.selects RX5 yX5_noteBegun yX5_noteBegun ∈ xbig := xbt6 7 (by decide +kernel) (by decide +kernel)
theorem cmX3_212 {r : Option Nat} {v0 : Int32} {v1 : Int32} {f : Mem → XA} (hm : mt.1.cls = RX3) (hs : XSnd l xmt rec d) (h8 : st.length ≤ 4) (hd : decode mt.2.1 pc = .ok (.invokevirtual 212, 3)) (k : ∀ M1, Xe S G K l mt d (pc + 3) lo st M1 (f M1)) : Xe S G K l mt d pc lo (.int v1 :: .int v0 :: va_rf r :: st) M (vC (6, 18) M r (cV (rec 55 ([va_rf r, .int v0, .int v1]) M) f)) := x_callV_V hs xq55 xm55 xci6 rfl (by rw [hm]; exact lmX3_212) mi55 mse55 rfl rfl h8 hd k
theorem xm42 : XMi (yX3_useMember, cX3_useMember, 9, none) 3 := ⟨xbt6 17 rfl (by decide +kernel), xbt1 11 (by decide +kernel) (by decide +kernel), by decide +kernel, by decide +kernel, by decide, by decide +kernel⟩
theorem xq42 : xmt 42 = (yX3_useMember, cX3_useMember, 9, none) := rfl
theorem lmX3_225 : Cond.methodLink RX3 225 yX3_useMember ∈ xbig := xbt6 14 (by decide +kernel) (by decide +kernel)
theorem mi42 : Cond.instanceMethod yX3_useMember ∈ xbig := xbt6 16 (by decide +kernel) (by decide +kernel)
theorem mse42 : Cond.selects RX3 yX3_useMember yX3_useMember ∈ xbig := xb_mem 62 (by decide +kernel) (by decide +kernel)
theorem cmX3_225 {r : Option Nat} {v0 : Int32} {v1 : Int32} {v2 : Option Nat} {f : Mem → XA} (hm : mt.1.cls = RX3) (hs : XSnd l xmt rec d) (h8 : st.length ≤ 4) (hd : decode mt.2.1 pc = .ok (.invokevirtual 225, 3)) (k : ∀ M1, Xe S G K l mt d (pc + 3) lo st M1 (f M1)) : Xe S G K l mt d pc lo (va_rf v2 :: .int v1 :: .int v0 :: va_rf r :: st) M (vC (4, 22) M r (cV (rec 42 ([va_rf r, .int v0, .int v1, va_rf v2]) M) f)) := x_callV_V hs xq42 xm42 xci4 rfl (by rw [hm]; exact lmX3_225) mi42 mse42 rfl rfl h8 hd k
theorem xm37 : XMi (yX3_combine, cX3_combine, 5, none) 2 := ⟨xbt6 73 rfl (by decide +kernel), xbt1 11 (by decide +kernel) (by decide +kernel), by decide +kernel, by decide +kernel, by decide, by decide +kernel⟩
theorem xq37 : xmt 37 = (yX3_combine, cX3_combine, 5, none) := rfl
theorem lmX3_229 : Cond.methodLink RX3 229 yX3_combine ∈ xbig := xbt6 70 (by decide +kernel) (by decide +kernel)
theorem mi37 : Cond.instanceMethod yX3_combine ∈ xbig := xbt6 72 (by decide +kernel) (by decide +kernel)
theorem mse37 : Cond.selects RX3 yX3_combine yX3_combine ∈ xbig := xb_mem 70 (by decide +kernel) (by decide +kernel)
theorem cmX3_229 {r : Option Nat} {v0 : Int32} {v1 : Option Nat} {f : Mem → XA} (hm : mt.1.cls = RX3) (hs : XSnd l xmt rec d) (h8 : st.length ≤ 4) (hd : decode mt.2.1 pc = .ok (.invokevirtual 229, 3)) (k : ∀ M1, Xe S G K l mt d (pc + 3) lo st M1 (f M1)) : Xe S G K l mt d pc lo (va_rf v1 :: .int v0 :: va_rf r :: st) M (vC (4, 22) M r (cV (rec 37 ([va_rf r, .int v0, va_rf v1]) M) f)) := x_callV_V hs xq37 xm37 xci4 rfl (by rw [hm]; exact lmX3_229) mi37 mse37 rfl rfl h8 hd k
theorem xm36 : XMi (yX3_jump, cX3_jump, 5, none) 3 := ⟨xbt6 80 rfl (by decide +kernel), xbt1 11 (by decide +kernel) (by decide +kernel), by decide +kernel, by decide +kernel, by decide, by decide +kernel⟩
theorem xq36 : xmt 36 = (yX3_jump, cX3_jump, 5, none) := rfl
theorem lmX3_233 : Cond.methodLink RX3 233 yX3_jump ∈ xbig := xbt6 77 (by decide +kernel) (by decide +kernel)
theorem mi36 : Cond.instanceMethod yX3_jump ∈ xbig := xbt6 79 (by decide +kernel) (by decide +kernel)
theorem mse36 : Cond.selects RX3 yX3_jump yX3_jump ∈ xbig := xb_mem 71 (by decide +kernel) (by decide +kernel)
theorem cmX3_233 {r : Option Nat} {v0 : Int32} {v1 : Int32} {v2 : Option Nat} {f : Mem → XA} (hm : mt.1.cls = RX3) (hs : XSnd l xmt rec d) (h8 : st.length ≤ 4) (hd : decode mt.2.1 pc = .ok (.invokevirtual 233, 3)) (k : ∀ M1, Xe S G K l mt d (pc + 3) lo st M1 (f M1)) : Xe S G K l mt d pc lo (va_rf v2 :: .int v1 :: .int v0 :: va_rf r :: st) M (vC (4, 22) M r (cV (rec 36 ([va_rf r, .int v0, .int v1, va_rf v2]) M) f)) := x_callV_V hs xq36 xm36 xci4 rfl (by rw [hm]; exact lmX3_233) mi36 mse36 rfl rfl h8 hd k
theorem xm33 : XMi (yX3_pop, cX3_pop, 1, some .int) 0 := ⟨xbt6 65 rfl (by decide +kernel), xbt1 11 (by decide +kernel) (by decide +kernel), by decide +kernel, by decide +kernel, by decide, by decide +kernel⟩
theorem xq33 : xmt 33 = (yX3_pop, cX3_pop, 1, some .int) := rfl
theorem lmX3_236 : Cond.methodLink RX3 236 yX3_pop ∈ xbig := xbt6 62 (by decide +kernel) (by decide +kernel)
theorem mi33 : Cond.instanceMethod yX3_pop ∈ xbig := xbt6 64 (by decide +kernel) (by decide +kernel)
theorem mse33 : Cond.selects RX3 yX3_pop yX3_pop ∈ xbig := xb_mem 68 (by decide +kernel) (by decide +kernel)
theorem cmX3_236 {r : Option Nat} {f : Int32 → Mem → XA} (hm : mt.1.cls = RX3) (hs : XSnd l xmt rec d) (h8 : st.length ≤ 4) (hd : decode mt.2.1 pc = .ok (.invokevirtual 236, 3)) (k : ∀ x M1, Xe S G K l mt d (pc + 3) lo (.int x :: st) M1 (f x M1)) : Xe S G K l mt d pc lo (va_rf r :: st) M (vC (4, 22) M r (cI (rec 33 ([va_rf r]) M) f)) := x_callV_I hs xq33 xm33 xci4 rfl (by rw [hm]; exact lmX3_236) mi33 mse33 rfl rfl h8 hd k
theorem xm40 : XMi (yX3_leave, cX3_leave, 3, none) 2 := ⟨xbt6 84 rfl (by decide +kernel), xbt1 11 (by decide +kernel) (by decide +kernel), by decide +kernel, by decide +kernel, by decide, by decide +kernel⟩
theorem xq40 : xmt 40 = (yX3_leave, cX3_leave, 3, none) := rfl
theorem lmX3_239 : Cond.methodLink RX3 239 yX3_leave ∈ xbig := xbt6 81 (by decide +kernel) (by decide +kernel)
theorem mi40 : Cond.instanceMethod yX3_leave ∈ xbig := xbt6 83 (by decide +kernel) (by decide +kernel)
theorem mse40 : Cond.selects RX3 yX3_leave yX3_leave ∈ xbig := xb_mem 72 (by decide +kernel) (by decide +kernel)
theorem cmX3_239 {r : Option Nat} {v0 : Int32} {v1 : Option Nat} {f : Mem → XA} (hm : mt.1.cls = RX3) (hs : XSnd l xmt rec d) (h8 : st.length ≤ 4) (hd : decode mt.2.1 pc = .ok (.invokevirtual 239, 3)) (k : ∀ M1, Xe S G K l mt d (pc + 3) lo st M1 (f M1)) : Xe S G K l mt d pc lo (va_rf v1 :: .int v0 :: va_rf r :: st) M (vC (4, 22) M r (cV (rec 40 ([va_rf r, .int v0, va_rf v1]) M) f)) := x_callV_V hs xq40 xm40 xci4 rfl (by rw [hm]; exact lmX3_239) mi40 mse40 rfl rfl h8 hd k
theorem xm39 : XMi (yX3_drawNumber, cX3_drawNumber, 3, none) 1 := ⟨xbt6 88 rfl (by decide +kernel), xbt1 11 (by decide +kernel) (by decide +kernel), by decide +kernel, by decide +kernel, by decide, by decide +kernel⟩
theorem xq39 : xmt 39 = (yX3_drawNumber, cX3_drawNumber, 3, none) := rfl
theorem lmX3_242 : Cond.methodLink RX3 242 yX3_drawNumber ∈ xbig := xbt6 85 (by decide +kernel) (by decide +kernel)
theorem mi39 : Cond.instanceMethod yX3_drawNumber ∈ xbig := xbt6 87 (by decide +kernel) (by decide +kernel)
theorem mse39 : Cond.selects RX3 yX3_drawNumber yX3_drawNumber ∈ xbig := xb_mem 73 (by decide +kernel) (by decide +kernel)
theorem cmX3_242 {r : Option Nat} {v0 : Option Nat} {f : Mem → XA} (hm : mt.1.cls = RX3) (hs : XSnd l xmt rec d) (h8 : st.length ≤ 4) (hd : decode mt.2.1 pc = .ok (.invokevirtual 242, 3)) (k : ∀ M1, Xe S G K l mt d (pc + 3) lo st M1 (f M1)) : Xe S G K l mt d pc lo (va_rf v0 :: va_rf r :: st) M (vC (4, 22) M r (cV (rec 39 ([va_rf r, va_rf v0]) M) f)) := x_callV_V hs xq39 xm39 xci4 rfl (by rw [hm]; exact lmX3_242) mi39 mse39 rfl rfl h8 hd k
theorem xm41 : XMi (yX3_fail, cX3_fail, 7, none) 2 := ⟨xbt6 25 rfl (by decide +kernel), xbt1 11 (by decide +kernel) (by decide +kernel), by decide +kernel, by decide +kernel, by decide, by decide +kernel⟩
theorem xq41 : xmt 41 = (yX3_fail, cX3_fail, 7, none) := rfl
theorem lmX3_246 : Cond.methodLink RX3 246 yX3_fail ∈ xbig := xbt6 22 (by decide +kernel) (by decide +kernel)
theorem mi41 : Cond.instanceMethod yX3_fail ∈ xbig := xbt6 24 (by decide +kernel) (by decide +kernel)
theorem mse41 : Cond.selects RX3 yX3_fail yX3_fail ∈ xbig := xb_mem 63 (by decide +kernel) (by decide +kernel)
theorem cmX3_246 {r : Option Nat} {v0 : Int32} {v1 : Int32} {f : Mem → XA} (hm : mt.1.cls = RX3) (hs : XSnd l xmt rec d) (h8 : st.length ≤ 4) (hd : decode mt.2.1 pc = .ok (.invokevirtual 246, 3)) (k : ∀ M1, Xe S G K l mt d (pc + 3) lo st M1 (f M1)) : Xe S G K l mt d pc lo (.int v1 :: .int v0 :: va_rf r :: st) M (vC (4, 22) M r (cV (rec 41 ([va_rf r, .int v0, .int v1]) M) f)) := x_callV_V hs xq41 xm41 xci4 rfl (by rw [hm]; exact lmX3_246) mi41 mse41 rfl rfl h8 hd k
theorem xm35 : XMi (yX3_checkValue, cX3_checkValue, 2, none) 1 := ⟨xbt6 97 rfl (by decide +kernel), xbt1 11 (by decide +kernel) (by decide +kernel), by decide +kernel, by decide +kernel, by decide, by decide +kernel⟩
theorem xq35 : xmt 35 = (yX3_checkValue, cX3_checkValue, 2, none) := rfl
theorem lmX3_249 : Cond.methodLink RX3 249 yX3_checkValue ∈ xbig := xbt6 94 (by decide +kernel) (by decide +kernel)
theorem mi35 : Cond.instanceMethod yX3_checkValue ∈ xbig := xbt6 96 (by decide +kernel) (by decide +kernel)
theorem mse35 : Cond.selects RX3 yX3_checkValue yX3_checkValue ∈ xbig := xb_mem 74 (by decide +kernel) (by decide +kernel)
theorem cmX3_249 {r : Option Nat} {v0 : Option Nat} {f : Mem → XA} (hm : mt.1.cls = RX3) (hs : XSnd l xmt rec d) (h8 : st.length ≤ 4) (hd : decode mt.2.1 pc = .ok (.invokevirtual 249, 3)) (k : ∀ M1, Xe S G K l mt d (pc + 3) lo st M1 (f M1)) : Xe S G K l mt d pc lo (va_rf v0 :: va_rf r :: st) M (vC (4, 22) M r (cV (rec 35 ([va_rf r, va_rf v0]) M) f)) := x_callV_V hs xq35 xm35 xci4 rfl (by rw [hm]; exact lmX3_249) mi35 mse35 rfl rfl h8 hd k
theorem xm34 : XMi (yX3_doPlain, cX3_doPlain, 7, none) 3 := ⟨xbt6 101 rfl (by decide +kernel), xbt1 11 (by decide +kernel) (by decide +kernel), by decide +kernel, by decide +kernel, by decide, by decide +kernel⟩
theorem xq34 : xmt 34 = (yX3_doPlain, cX3_doPlain, 7, none) := rfl
theorem lmX3_252 : Cond.methodLink RX3 252 yX3_doPlain ∈ xbig := xbt6 98 (by decide +kernel) (by decide +kernel)
theorem mi34 : Cond.instanceMethod yX3_doPlain ∈ xbig := xbt6 100 (by decide +kernel) (by decide +kernel)
theorem mse34 : Cond.selects RX3 yX3_doPlain yX3_doPlain ∈ xbig := xb_mem 75 (by decide +kernel) (by decide +kernel)
theorem cmX3_252 {r : Option Nat} {v0 : Int32} {v1 : Int32} {v2 : Option Nat} {f : Mem → XA} (hm : mt.1.cls = RX3) (hs : XSnd l xmt rec d) (h8 : st.length ≤ 4) (hd : decode mt.2.1 pc = .ok (.invokevirtual 252, 3)) (k : ∀ M1, Xe S G K l mt d (pc + 3) lo st M1 (f M1)) : Xe S G K l mt d pc lo (va_rf v2 :: .int v1 :: .int v0 :: va_rf r :: st) M (vC (4, 22) M r (cV (rec 34 ([va_rf r, .int v0, .int v1, va_rf v2]) M) f)) := x_callV_V hs xq34 xm34 xci4 rfl (by rw [hm]; exact lmX3_252) mi34 mse34 rfl rfl h8 hd k
theorem xm32 : XMi (yX3_push, cX3_push, 2, none) 1 := ⟨xbt6 61 rfl (by decide +kernel), xbt1 11 (by decide +kernel) (by decide +kernel), by decide +kernel, by decide +kernel, by decide, by decide +kernel⟩
theorem xq32 : xmt 32 = (yX3_push, cX3_push, 2, none) := rfl
theorem lmX3_255 : Cond.methodLink RX3 255 yX3_push ∈ xbig := xbt6 58 (by decide +kernel) (by decide +kernel)
theorem mi32 : Cond.instanceMethod yX3_push ∈ xbig := xbt6 60 (by decide +kernel) (by decide +kernel)
theorem mse32 : Cond.selects RX3 yX3_push yX3_push ∈ xbig := xb_mem 67 (by decide +kernel) (by decide +kernel)
theorem cmX3_255 {r : Option Nat} {v0 : Int32} {f : Mem → XA} (hm : mt.1.cls = RX3) (hs : XSnd l xmt rec d) (h8 : st.length ≤ 4) (hd : decode mt.2.1 pc = .ok (.invokevirtual 255, 3)) (k : ∀ M1, Xe S G K l mt d (pc + 3) lo st M1 (f M1)) : Xe S G K l mt d pc lo (.int v0 :: va_rf r :: st) M (vC (4, 22) M r (cV (rec 32 ([va_rf r, .int v0]) M) f)) := x_callV_V hs xq32 xm32 xci4 rfl (by rw [hm]; exact lmX3_255) mi32 mse32 rfl rfl h8 hd k
theorem lmX3_259 {G : XG} (U : State) (h : XE G U) : va_Nw (.methodLinkNest RX3 259 yX11_partAt "TestHouse") U := h.2.2.2.2.2.1.2.2.2.2.2 _ (List.mem_of_getElem? (i := 5) rfl)
theorem cmX3_259 {v0 : Option Nat} {v1 : Int32} {f : Option Nat → Mem → XA} (hm : mt.1.cls = RX3) (hs : XSnd l xmt rec d) (h8 : st.length ≤ 4) (hd : decode mt.2.1 pc = .ok (.invokestatic 259, 3)) (k : ∀ x M1, Xe S G K l mt d (pc + 3) lo (va_rf x :: st) M1 (f x M1)) : Xe S G K l mt d pc lo (.int v1 :: va_rf v0 :: st) M (cP (rec 168 [va_rf v0, .int v1] M) f) := x_callSN_P hs xq168 xm168 rfl (by rw [hm]; exact lmX3_259) ms168 rfl rfl h8 hd k
theorem xm38 : XMi (yX3_combined, cX3_combined, 3, some .int) 3 := ⟨xbt6 76 rfl (by decide +kernel), xbt1 11 (by decide +kernel) (by decide +kernel), by decide +kernel, by decide +kernel, by decide, by decide +kernel⟩
theorem xq38 : xmt 38 = (yX3_combined, cX3_combined, 3, some .int) := rfl
theorem lmX3_263 : Cond.methodLink RX3 263 yX3_combined ∈ xbig := xbt6 74 (by decide +kernel) (by decide +kernel)
theorem ms38 : Cond.static yX3_combined ∈ xbig := xbt6 75 (by decide +kernel) (by decide +kernel)
theorem cmX3_263 {v0 : Int32} {v1 : Int32} {v2 : Int32} {f : Int32 → Mem → XA} (hm : mt.1.cls = RX3) (hs : XSnd l xmt rec d) (h8 : st.length ≤ 4) (hd : decode mt.2.1 pc = .ok (.invokestatic 263, 3)) (k : ∀ x M1, Xe S G K l mt d (pc + 3) lo (.int x :: st) M1 (f x M1)) : Xe S G K l mt d pc lo (.int v2 :: .int v1 :: .int v0 :: st) M (cI (rec 38 [.int v0, .int v1, .int v2] M) f) := x_callS_I hs xq38 xm38 rfl (by rw [hm]; exact lmX3_263) ms38 rfl rfl h8 hd k
theorem xm14 : XMi (yX2_next, cX2_next, 2, some .int) 1 := ⟨xbt6 92 rfl (by decide +kernel), xbt1 14 (by decide +kernel) (by decide +kernel), by decide +kernel, by decide +kernel, by decide, by decide +kernel⟩
theorem xq14 : xmt 14 = (yX2_next, cX2_next, 2, some .int) := rfl
theorem lmX3_267 : Cond.methodLink RX3 267 yX2_next ∈ xbig := xbt6 89 (by decide +kernel) (by decide +kernel)
theorem mi14 : Cond.instanceMethod yX2_next ∈ xbig := xbt6 90 (by decide +kernel) (by decide +kernel)
theorem mse14 : Cond.selects RX2 yX2_next yX2_next ∈ xbig := xbt6 91 (by decide +kernel) (by decide +kernel)
theorem cmX3_267 {r : Option Nat} {v0 : Int32} {f : Int32 → Mem → XA} (hm : mt.1.cls = RX3) (hs : XSnd l xmt rec d) (h8 : st.length ≤ 4) (hd : decode mt.2.1 pc = .ok (.invokevirtual 267, 3)) (k : ∀ x M1, Xe S G K l mt d (pc + 3) lo (.int x :: st) M1 (f x M1)) : Xe S G K l mt d pc lo (.int v0 :: va_rf r :: st) M (vC (3, 7) M r (cI (rec 14 ([va_rf r, .int v0]) M) f)) := x_callV_I hs xq14 xm14 xci3 rfl (by rw [hm]; exact lmX3_267) mi14 mse14 rfl rfl h8 hd k
theorem lmX3_277 : Cond.methodLink RX3 277 yX0_linkOf ∈ xbig := xbt6 18 (by decide +kernel) (by decide +kernel)
theorem cmX3_277 {r : Option Nat} {v0 : Int32} {f : Int32 → Mem → XA} (hm : mt.1.cls = RX3) (hs : XSnd l xmt rec d) (h8 : st.length ≤ 4) (hd : decode mt.2.1 pc = .ok (.invokevirtual 277, 3)) (k : ∀ x M1, Xe S G K l mt d (pc + 3) lo (.int x :: st) M1 (f x M1)) : Xe S G K l mt d pc lo (.int v0 :: va_rf r :: st) M (vC (1, 4) M r (cI (rec 4 ([va_rf r, .int v0]) M) f)) := x_callV_I hs xq4 xm4 xci1 rfl (by rw [hm]; exact lmX3_277) mi4 mse4 rfl rfl h8 hd k
theorem xm44 : XMi (yX3_seesTo, cX3_seesTo, 5, some .boolean) 2 := ⟨xbt6 30 rfl (by decide +kernel), xbt1 11 (by decide +kernel) (by decide +kernel), by decide +kernel, by decide +kernel, by decide, by decide +kernel⟩
theorem xq44 : xmt 44 = (yX3_seesTo, cX3_seesTo, 5, some .boolean) := rfl
theorem lmX3_280 : Cond.methodLink RX3 280 yX3_seesTo ∈ xbig := xbt6 27 (by decide +kernel) (by decide +kernel)
theorem mi44 : Cond.instanceMethod yX3_seesTo ∈ xbig := xbt6 29 (by decide +kernel) (by decide +kernel)
theorem mse44 : Cond.selects RX3 yX3_seesTo yX3_seesTo ∈ xbig := xb_mem 64 (by decide +kernel) (by decide +kernel)
theorem cmX3_280 {r : Option Nat} {v0 : Int32} {v1 : Int32} {f : Int32 → Mem → XA} (hm : mt.1.cls = RX3) (hs : XSnd l xmt rec d) (h8 : st.length ≤ 4) (hd : decode mt.2.1 pc = .ok (.invokevirtual 280, 3)) (k : ∀ x M1, Xe S G K l mt d (pc + 3) lo (.int x :: st) M1 (f x M1)) : Xe S G K l mt d pc lo (.int v1 :: .int v0 :: va_rf r :: st) M (vC (4, 22) M r (cI (rec 44 ([va_rf r, .int v0, .int v1]) M) f)) := x_callV_I hs xq44 xm44 xci4 rfl (by rw [hm]; exact lmX3_280) mi44 mse44 rfl rfl h8 hd k
theorem xm46 : XMi (yX3_callFun, cX3_callFun, 7, none) 3 := ⟨xbt6 44 rfl (by decide +kernel), xbt1 11 (by decide +kernel) (by decide +kernel), by decide +kernel, by decide +kernel, by decide, by decide +kernel⟩
theorem xq46 : xmt 46 = (yX3_callFun, cX3_callFun, 7, none) := rfl
theorem lmX3_284 : Cond.methodLink RX3 284 yX3_callFun ∈ xbig := xbt6 41 (by decide +kernel) (by decide +kernel)
theorem mi46 : Cond.instanceMethod yX3_callFun ∈ xbig := xbt6 43 (by decide +kernel) (by decide +kernel)
theorem mse46 : Cond.selects RX3 yX3_callFun yX3_callFun ∈ xbig := xb_mem 66 (by decide +kernel) (by decide +kernel)
theorem cmX3_284 {r : Option Nat} {v0 : Int32} {v1 : Int32} {v2 : Option Nat} {f : Mem → XA} (hm : mt.1.cls = RX3) (hs : XSnd l xmt rec d) (h8 : st.length ≤ 4) (hd : decode mt.2.1 pc = .ok (.invokevirtual 284, 3)) (k : ∀ M1, Xe S G K l mt d (pc + 3) lo st M1 (f M1)) : Xe S G K l mt d pc lo (va_rf v2 :: .int v1 :: .int v0 :: va_rf r :: st) M (vC (4, 22) M r (cV (rec 46 ([va_rf r, .int v0, .int v1, va_rf v2]) M) f)) := x_callV_V hs xq46 xm46 xci4 rfl (by rw [hm]; exact lmX3_284) mi46 mse46 rfl rfl h8 hd k
theorem xm43 : XMi (yX3_useRow, cX3_useRow, 7, none) 3 := ⟨xbt6 69 rfl (by decide +kernel), xbt1 11 (by decide +kernel) (by decide +kernel), by decide +kernel, by decide +kernel, by decide, by decide +kernel⟩
theorem xq43 : xmt 43 = (yX3_useRow, cX3_useRow, 7, none) := rfl
theorem lmX3_288 : Cond.methodLink RX3 288 yX3_useRow ∈ xbig := xbt6 66 (by decide +kernel) (by decide +kernel)
theorem mi43 : Cond.instanceMethod yX3_useRow ∈ xbig := xbt6 68 (by decide +kernel) (by decide +kernel)
theorem mse43 : Cond.selects RX3 yX3_useRow yX3_useRow ∈ xbig := xb_mem 69 (by decide +kernel) (by decide +kernel)
theorem cmX3_288 {r : Option Nat} {v0 : Int32} {v1 : Int32} {v2 : Int32} {f : Mem → XA} (hm : mt.1.cls = RX3) (hs : XSnd l xmt rec d) (h8 : st.length ≤ 4) (hd : decode mt.2.1 pc = .ok (.invokevirtual 288, 3)) (k : ∀ M1, Xe S G K l mt d (pc + 3) lo st M1 (f M1)) : Xe S G K l mt d pc lo (.int v2 :: .int v1 :: .int v0 :: va_rf r :: st) M (vC (4, 22) M r (cV (rec 43 ([va_rf r, .int v0, .int v1, .int v2]) M) f)) := x_callV_V hs xq43 xm43 xci4 rfl (by rw [hm]; exact lmX3_288) mi43 mse43 rfl rfl h8 hd k
theorem xm45 : XMi (yX3_setOut, cX3_setOut, 6, none) 2 := ⟨xbt6 34 rfl (by decide +kernel), xbt1 11 (by decide +kernel) (by decide +kernel), by decide +kernel, by decide +kernel, by decide, by decide +kernel⟩
theorem xq45 : xmt 45 = (yX3_setOut, cX3_setOut, 6, none) := rfl
theorem lmX3_291 : Cond.methodLink RX3 291 yX3_setOut ∈ xbig := xbt6 31 (by decide +kernel) (by decide +kernel)
theorem mi45 : Cond.instanceMethod yX3_setOut ∈ xbig := xbt6 33 (by decide +kernel) (by decide +kernel)
theorem mse45 : Cond.selects RX3 yX3_setOut yX3_setOut ∈ xbig := xb_mem 65 (by decide +kernel) (by decide +kernel)
theorem cmX3_291 {r : Option Nat} {v0 : Int32} {v1 : Option Nat} {f : Mem → XA} (hm : mt.1.cls = RX3) (hs : XSnd l xmt rec d) (h8 : st.length ≤ 4) (hd : decode mt.2.1 pc = .ok (.invokevirtual 291, 3)) (k : ∀ M1, Xe S G K l mt d (pc + 3) lo st M1 (f M1)) : Xe S G K l mt d pc lo (va_rf v1 :: .int v0 :: va_rf r :: st) M (vC (4, 22) M r (cV (rec 45 ([va_rf r, .int v0, va_rf v1]) M) f)) := x_callV_V hs xq45 xm45 xci4 rfl (by rw [hm]; exact lmX3_291) mi45 mse45 rfl rfl h8 hd k
theorem xm353 : XMi (yJ7_fill_fda19, cJ7_fill_fda19, 5, none) 4 := ⟨xbt6 37 rfl (by decide +kernel), xbt1 21 (by decide +kernel) (by decide +kernel), by decide +kernel, by decide +kernel, by decide, by decide +kernel⟩
theorem xq353 : xmt 353 = (yJ7_fill_fda19, cJ7_fill_fda19, 5, none) := rfl
theorem lmX3_304 : Cond.methodLink RX3 304 yJ7_fill_fda19 ∈ xbig := xbt6 35 (by decide +kernel) (by decide +kernel)
theorem ms353 : Cond.static yJ7_fill_fda19 ∈ xbig := xbt6 36 (by decide +kernel) (by decide +kernel)
theorem cmX3_304 {v0 : Option Nat} {v1 : Int32} {v2 : Int32} {v3 : Int32} {f : Mem → XA} (hm : mt.1.cls = RX3) (hs : XSnd l xmt rec d) (h8 : st.length ≤ 4) (hd : decode mt.2.1 pc = .ok (.invokestatic 304, 3)) (k : ∀ M1, Xe S G K l mt d (pc + 3) lo st M1 (f M1)) : Xe S G K l mt d pc lo (.int v3 :: .int v2 :: .int v1 :: va_rf v0 :: st) M (cV (rec 353 [va_rf v0, .int v1, .int v2, .int v3] M) f) := x_callS_V hs xq353 xm353 rfl (by rw [hm]; exact lmX3_304) ms353 rfl rfl h8 hd k
theorem lmX3_316 : Cond.methodLink RX3 316 yX9_standsFor ∈ xbig := xbt6 46 (by decide +kernel) (by decide +kernel)
theorem cmX3_316 {r : Option Nat} {v0 : Int32} {v1 : Int32} {f : Int32 → Mem → XA} (hm : mt.1.cls = RX3) (hs : XSnd l xmt rec d) (h8 : st.length ≤ 4) (hd : decode mt.2.1 pc = .ok (.invokevirtual 316, 3)) (k : ∀ x M1, Xe S G K l mt d (pc + 3) lo (.int x :: st) M1 (f x M1)) : Xe S G K l mt d pc lo (.int v1 :: .int v0 :: va_rf r :: st) M (vC (10, 9) M r (cI (rec 122 ([va_rf r, .int v0, .int v1]) M) f)) := x_callV_I hs xq122 xm122 xci10 rfl (by rw [hm]; exact lmX3_316) mi122 mse122 rfl rfl h8 hd k
theorem xm124 : XMi (yX9_fitting, cX9_fitting, 6, some .int) 2 := ⟨xbt6 53 rfl (by decide +kernel), xbt1 13 (by decide +kernel) (by decide +kernel), by decide +kernel, by decide +kernel, by decide, by decide +kernel⟩
theorem xq124 : xmt 124 = (yX9_fitting, cX9_fitting, 6, some .int) := rfl
theorem lmX3_319 : Cond.methodLink RX3 319 yX9_fitting ∈ xbig := xbt6 50 (by decide +kernel) (by decide +kernel)
theorem mi124 : Cond.instanceMethod yX9_fitting ∈ xbig := xbt6 51 (by decide +kernel) (by decide +kernel)
theorem mse124 : Cond.selects RX9 yX9_fitting yX9_fitting ∈ xbig := xbt6 52 (by decide +kernel) (by decide +kernel)
theorem cmX3_319 {r : Option Nat} {v0 : Option Nat} {v1 : Int32} {f : Int32 → Mem → XA} (hm : mt.1.cls = RX3) (hs : XSnd l xmt rec d) (h8 : st.length ≤ 4) (hd : decode mt.2.1 pc = .ok (.invokevirtual 319, 3)) (k : ∀ x M1, Xe S G K l mt d (pc + 3) lo (.int x :: st) M1 (f x M1)) : Xe S G K l mt d pc lo (.int v1 :: va_rf v0 :: va_rf r :: st) M (vC (10, 9) M r (cI (rec 124 ([va_rf r, va_rf v0, .int v1]) M) f)) := x_callV_I hs xq124 xm124 xci10 rfl (by rw [hm]; exact lmX3_319) mi124 mse124 rfl rfl h8 hd k
theorem xm125 : XMi (yX9_note, cX9_note, 5, none) 3 := ⟨xbt6 57 rfl (by decide +kernel), xbt1 13 (by decide +kernel) (by decide +kernel), by decide +kernel, by decide +kernel, by decide, by decide +kernel⟩
theorem xq125 : xmt 125 = (yX9_note, cX9_note, 5, none) := rfl
theorem lmX3_323 : Cond.methodLink RX3 323 yX9_note ∈ xbig := xbt6 54 (by decide +kernel) (by decide +kernel)
theorem mi125 : Cond.instanceMethod yX9_note ∈ xbig := xbt6 55 (by decide +kernel) (by decide +kernel)
theorem mse125 : Cond.selects RX9 yX9_note yX9_note ∈ xbig := xbt6 56 (by decide +kernel) (by decide +kernel)
theorem cmX3_323 {r : Option Nat} {v0 : Option Nat} {v1 : Int32} {v2 : Int32} {f : Mem → XA} (hm : mt.1.cls = RX3) (hs : XSnd l xmt rec d) (h8 : st.length ≤ 4) (hd : decode mt.2.1 pc = .ok (.invokevirtual 323, 3)) (k : ∀ M1, Xe S G K l mt d (pc + 3) lo st M1 (f M1)) : Xe S G K l mt d pc lo (.int v2 :: .int v1 :: va_rf v0 :: va_rf r :: st) M (vC (10, 9) M r (cV (rec 125 ([va_rf r, va_rf v0, .int v1, .int v2]) M) f)) := x_callV_V hs xq125 xm125 xci10 rfl (by rw [hm]; exact lmX3_323) mi125 mse125 rfl rfl h8 hd k
theorem lmX4_19 : Cond.methodLink RX4 19 yX4_tell ∈ xbig := xbt6 126 (by decide +kernel) (by decide +kernel)
theorem cmX4_19 {r : Option Nat} {v0 : Int32} {v1 : Int32} {v2 : Int32} {f : Mem → XA} (hm : mt.1.cls = RX4) (hs : XSnd l xmt rec d) (h8 : st.length ≤ 4) (hd : decode mt.2.1 pc = .ok (.invokevirtual 19, 3)) (k : ∀ M1, Xe S G K l mt d (pc + 3) lo st M1 (f M1)) : Xe S G K l mt d pc lo (.int v2 :: .int v1 :: .int v0 :: va_rf r :: st) M (vC (5, 5) M r (cV (rec 48 ([va_rf r, .int v0, .int v1, .int v2]) M) f)) := x_callV_V hs xq48 xm48 xci5 rfl (by rw [hm]; exact lmX4_19) mi48 mse48 rfl rfl h8 hd k
theorem xm356 : XMi (yJ7_copyOf_59c91, cJ7_copyOf_59c91, 3, some (.array .int)) 2 := ⟨xbt5 25 rfl (by decide +kernel), xbt1 21 (by decide +kernel) (by decide +kernel), by decide +kernel, by decide +kernel, by decide, by decide +kernel⟩
theorem xq356 : xmt 356 = (yJ7_copyOf_59c91, cJ7_copyOf_59c91, 3, some (.array .int)) := rfl
theorem lmX5_45 : Cond.methodLink RX5 45 yJ7_copyOf_59c91 ∈ xbig := xbt5 23 (by decide +kernel) (by decide +kernel)
theorem ms356 : Cond.static yJ7_copyOf_59c91 ∈ xbig := xbt5 24 (by decide +kernel) (by decide +kernel)
theorem cmX5_45 {v0 : Option Nat} {v1 : Int32} {f : Option Nat → Mem → XA} (hm : mt.1.cls = RX5) (hs : XSnd l xmt rec d) (h8 : st.length ≤ 4) (hd : decode mt.2.1 pc = .ok (.invokestatic 45, 3)) (k : ∀ x M1, Xe S G K l mt d (pc + 3) lo (va_rf x :: st) M1 (f x M1)) : Xe S G K l mt d pc lo (.int v1 :: va_rf v0 :: st) M (cP (rec 356 [va_rf v0, .int v1] M) f) := x_callS_P hs xq356 xm356 rfl (by rw [hm]; exact lmX5_45) ms356 rfl rfl h8 hd k
theorem xm51 : XMi (yX5_mutantsOf, cX5_mutantsOf, 5, some (.array .int)) 1 := ⟨xbt5 35 rfl (by decide +kernel), xbt1 24 (by decide +kernel) (by decide +kernel), by decide +kernel, by decide +kernel, by decide, by decide +kernel⟩
theorem xq51 : xmt 51 = (yX5_mutantsOf, cX5_mutantsOf, 5, some (.array .int)) := rfl
theorem lmX5_60 : Cond.methodLink RX5 60 yX5_mutantsOf ∈ xbig := xbt5 33 (by decide +kernel) (by decide +kernel)
theorem ms51 : Cond.static yX5_mutantsOf ∈ xbig := xbt5 34 (by decide +kernel) (by decide +kernel)
theorem cmX5_60 {v0 : Option Nat} {f : Option Nat → Mem → XA} (hm : mt.1.cls = RX5) (hs : XSnd l xmt rec d) (h8 : st.length ≤ 4) (hd : decode mt.2.1 pc = .ok (.invokestatic 60, 3)) (k : ∀ x M1, Xe S G K l mt d (pc + 3) lo (va_rf x :: st) M1 (f x M1)) : Xe S G K l mt d pc lo (va_rf v0 :: st) M (cP (rec 51 [va_rf v0] M) f) := x_callS_P hs xq51 xm51 rfl (by rw [hm]; exact lmX5_60) ms51 rfl rfl h8 hd k
theorem lmX5_67 : Cond.methodLink RX5 67 yJx4a65c_size_8abf5 ∈ xbig := xbt5 38 (by decide +kernel) (by decide +kernel)
theorem cmX5_67 {r : Option Nat} {f : Int32 → Mem → XA} (hm : mt.1.cls = RX5) (hs : XSnd l xmt rec d) (h8 : st.length ≤ 4) (hd : decode mt.2.1 pc = .ok (.invokevirtual 67, 3)) (k : ∀ x M1, Xe S G K l mt d (pc + 3) lo (.int x :: st) M1 (f x M1)) : Xe S G K l mt d pc lo (va_rf r :: st) M (vC (0, 3) M r (cI (rec 346 ([va_rf r]) M) f)) := x_callV_I hs xq346 xm346 xci0 rfl (by rw [hm]; exact lmX5_67) mi346 mse346 rfl rfl h8 hd k
theorem xm52 : XMi (yX5_shareCells, cX5_shareCells, 4, none) 1 := ⟨xbt5 42 rfl (by decide +kernel), xbt1 24 (by decide +kernel) (by decide +kernel), by decide +kernel, by decide +kernel, by decide, by decide +kernel⟩
theorem xq52 : xmt 52 = (yX5_shareCells, cX5_shareCells, 4, none) := rfl
theorem lmX5_89 : Cond.methodLink RX5 89 yX5_shareCells ∈ xbig := xbt5 40 (by decide +kernel) (by decide +kernel)
theorem ms52 : Cond.static yX5_shareCells ∈ xbig := xbt5 41 (by decide +kernel) (by decide +kernel)
theorem cmX5_89 {v0 : Option Nat} {f : Mem → XA} (hm : mt.1.cls = RX5) (hs : XSnd l xmt rec d) (h8 : st.length ≤ 4) (hd : decode mt.2.1 pc = .ok (.invokestatic 89, 3)) (k : ∀ M1, Xe S G K l mt d (pc + 3) lo st M1 (f M1)) : Xe S G K l mt d pc lo (va_rf v0 :: st) M (cV (rec 52 [va_rf v0] M) f) := x_callS_V hs xq52 xm52 rfl (by rw [hm]; exact lmX5_89) ms52 rfl rfl h8 hd k
theorem lmX5_100 : Cond.methodLink RX5 100 yJx4a65c_get_915e3 ∈ xbig := xbt5 43 (by decide +kernel) (by decide +kernel)
theorem cmX5_100 {r : Option Nat} {v0 : Int32} {f : Option Nat → Mem → XA} (hm : mt.1.cls = RX5) (hs : XSnd l xmt rec d) (h8 : st.length ≤ 4) (hd : decode mt.2.1 pc = .ok (.invokevirtual 100, 3)) (k : ∀ x M1, Xe S G K l mt d (pc + 3) lo (va_rf x :: st) M1 (f x M1)) : Xe S G K l mt d pc lo (.int v0 :: va_rf r :: st) M (vC (0, 3) M r (cP (rec 348 ([va_rf r, .int v0]) M) f)) := x_callV_P hs xq348 xm348 xci0 rfl (by rw [hm]; exact lmX5_100) mi348 mse348 rfl rfl h8 hd k
theorem lmX5_123 : Cond.methodLink RX5 123 yJ7_fill_53178 ∈ xbig := xbt5 200 (by decide +kernel) (by decide +kernel)
theorem cmX5_123 {v0 : Option Nat} {v1 : Int32} {f : Mem → XA} (hm : mt.1.cls = RX5) (hs : XSnd l xmt rec d) (h8 : st.length ≤ 4) (hd : decode mt.2.1 pc = .ok (.invokestatic 123, 3)) (k : ∀ M1, Xe S G K l mt d (pc + 3) lo st M1 (f M1)) : Xe S G K l mt d pc lo (.int v1 :: va_rf v0 :: st) M (cV (rec 352 [va_rf v0, .int v1] M) f) := x_callS_V hs xq352 xm352 rfl (by rw [hm]; exact lmX5_123) ms352 rfl rfl h8 hd k
theorem xm58 : XMi (yX5_isBetter, cX5_isBetter, 4, some .boolean) 2 := ⟨xbt6 199 rfl (by decide +kernel), xbt1 24 (by decide +kernel) (by decide +kernel), by decide +kernel, by decide +kernel, by decide, by decide +kernel⟩
theorem xq58 : xmt 58 = (yX5_isBetter, cX5_isBetter, 4, some .boolean) := rfl
theorem lmX5_132 : Cond.methodLink RX5 132 yX5_isBetter ∈ xbig := xbt6 197 (by decide +kernel) (by decide +kernel)
theorem ms58 : Cond.static yX5_isBetter ∈ xbig := xbt6 198 (by decide +kernel) (by decide +kernel)
theorem cmX5_132 {v0 : Int32} {v1 : Int32} {f : Int32 → Mem → XA} (hm : mt.1.cls = RX5) (hs : XSnd l xmt rec d) (h8 : st.length ≤ 4) (hd : decode mt.2.1 pc = .ok (.invokestatic 132, 3)) (k : ∀ x M1, Xe S G K l mt d (pc + 3) lo (.int x :: st) M1 (f x M1)) : Xe S G K l mt d pc lo (.int v1 :: .int v0 :: st) M (cI (rec 58 [.int v0, .int v1] M) f) := x_callS_I hs xq58 xm58 rfl (by rw [hm]; exact lmX5_132) ms58 rfl rfl h8 hd k
theorem xm59 : XMi (yX5_killsAll, cX5_killsAll, 3, some .boolean) 1 := ⟨xbt6 204 rfl (by decide +kernel), xbt1 24 (by decide +kernel) (by decide +kernel), by decide +kernel, by decide +kernel, by decide, by decide +kernel⟩
theorem xq59 : xmt 59 = (yX5_killsAll, cX5_killsAll, 3, some .boolean) := rfl
theorem lmX5_136 : Cond.methodLink RX5 136 yX5_killsAll ∈ xbig := xbt6 201 (by decide +kernel) (by decide +kernel)
theorem mi59 : Cond.instanceMethod yX5_killsAll ∈ xbig := xbt6 203 (by decide +kernel) (by decide +kernel)
theorem mse59 : Cond.selects RX5 yX5_killsAll yX5_killsAll ∈ xbig := xb_mem 80 (by decide +kernel) (by decide +kernel)
theorem cmX5_136 {r : Option Nat} {v0 : Int32} {f : Int32 → Mem → XA} (hm : mt.1.cls = RX5) (hs : XSnd l xmt rec d) (h8 : st.length ≤ 4) (hd : decode mt.2.1 pc = .ok (.invokevirtual 136, 3)) (k : ∀ x M1, Xe S G K l mt d (pc + 3) lo (.int x :: st) M1 (f x M1)) : Xe S G K l mt d pc lo (.int v0 :: va_rf r :: st) M (vC (6, 18) M r (cI (rec 59 ([va_rf r, .int v0]) M) f)) := x_callV_I hs xq59 xm59 xci6 rfl (by rw [hm]; exact lmX5_136) mi59 mse59 rfl rfl h8 hd k
theorem lmX5_140 : Cond.methodLink RX5 140 yJ6_bitCount_0f7a4 ∈ xbig := xbt6 200 (by decide +kernel) (by decide +kernel)
theorem cmX5_140 {v0 : Int32} {f : Int32 → Mem → XA} (hm : mt.1.cls = RX5) (hs : XSnd l xmt rec d) (h8 : st.length ≤ 4) (hd : decode mt.2.1 pc = .ok (.invokestatic 140, 3)) (k : ∀ x M1, Xe S G K l mt d (pc + 3) lo (.int x :: st) M1 (f x M1)) : Xe S G K l mt d pc lo (.int v0 :: st) M (cI (rec 315 [.int v0] M) f) := x_callS_I hs xq315 xm315 rfl (by rw [hm]; exact lmX5_140) ms315 rfl rfl h8 hd k
theorem xm111 : XMi (yX8_init, cX8_init, 4, none) 0 := ⟨xbt1 47 rfl (by decide +kernel), xbt1 3 (by decide +kernel) (by decide +kernel), by decide +kernel, by decide +kernel, by decide, by decide +kernel⟩
theorem xq111 : xmt 111 = (yX8_init, cX8_init, 4, none) := rfl
theorem lmX6_11 : Cond.methodLink RX6 11 yX8_init ∈ xbig := xbt1 45 (by decide +kernel) (by decide +kernel)
theorem mi111 : Cond.instanceMethod yX8_init ∈ xbig := xbt1 46 (by decide +kernel) (by decide +kernel)
theorem cmX6_11 {r : Option Nat} {f : Mem → XA} (hm : mt.1.cls = RX6) (hs : XSnd l xmt rec d) (h8 : st.length ≤ 4) (hd : decode mt.2.1 pc = .ok (.invokespecial 11, 3)) (k : ∀ M1, Xe S G K l mt d (pc + 3) lo st M1 (f M1)) : Xe S G K l mt d pc lo (va_rf r :: st) M (vC (9, 8) M r (cV (rec 111 ([va_rf r]) M) f)) := x_callI_V hs xq111 xm111 rfl rfl (by rw [hm]; exact lmX6_11) mi111 rfl rfl h8 hd k
theorem lmX6_48 : Cond.methodLink RX6 48 yJx4a65c_init_da8c8 ∈ xbig := xbt3 27 (by decide +kernel) (by decide +kernel)
theorem cmX6_48 {r : Option Nat} {f : Mem → XA} (hm : mt.1.cls = RX6) (hs : XSnd l xmt rec d) (h8 : st.length ≤ 4) (hd : decode mt.2.1 pc = .ok (.invokespecial 48, 3)) (k : ∀ M1, Xe S G K l mt d (pc + 3) lo st M1 (f M1)) : Xe S G K l mt d pc lo (va_rf r :: st) M (vC (0, 3) M r (cV (rec 343 ([va_rf r]) M) f)) := x_callI_V hs xq343 xm343 rfl rfl (by rw [hm]; exact lmX6_48) mi343 rfl rfl h8 hd k
theorem xm113 : XMi (yX8_scan, cX8_scan, 3, none) 0 := ⟨xbt3 31 rfl (by decide +kernel), xbt1 3 (by decide +kernel) (by decide +kernel), by decide +kernel, by decide +kernel, by decide, by decide +kernel⟩
theorem xq113 : xmt 113 = (yX8_scan, cX8_scan, 3, none) := rfl
theorem lmX6_72 : Cond.methodLink RX6 72 yX8_scan ∈ xbig := xbt3 28 (by decide +kernel) (by decide +kernel)
theorem mi113 : Cond.instanceMethod yX8_scan ∈ xbig := xbt3 29 (by decide +kernel) (by decide +kernel)
theorem mse113 : Cond.selects RX8 yX8_scan yX8_scan ∈ xbig := xbt3 30 (by decide +kernel) (by decide +kernel)
theorem cmX6_72 {r : Option Nat} {f : Mem → XA} (hm : mt.1.cls = RX6) (hs : XSnd l xmt rec d) (h8 : st.length ≤ 4) (hd : decode mt.2.1 pc = .ok (.invokevirtual 72, 3)) (k : ∀ M1, Xe S G K l mt d (pc + 3) lo st M1 (f M1)) : Xe S G K l mt d pc lo (va_rf r :: st) M (vC (9, 8) M r (cV (rec 113 ([va_rf r]) M) f)) := x_callV_V hs xq113 xm113 xci9 rfl (by rw [hm]; exact lmX6_72) mi113 mse113 rfl rfl h8 hd k
theorem xm76 : XMi (yX6_readUnitHead, cX6_readUnitHead, 3, none) 0 := ⟨xbt3 120 rfl (by decide +kernel), xbt1 2 (by decide +kernel) (by decide +kernel), by decide +kernel, by decide +kernel, by decide, by decide +kernel⟩
theorem xq76 : xmt 76 = (yX6_readUnitHead, cX6_readUnitHead, 3, none) := rfl
theorem lmX6_84 : Cond.methodLink RX6 84 yX6_readUnitHead ∈ xbig := xbt3 117 (by decide +kernel) (by decide +kernel)
theorem mi76 : Cond.instanceMethod yX6_readUnitHead ∈ xbig := xbt3 119 (by decide +kernel) (by decide +kernel)
theorem mse76 : Cond.selects RX6 yX6_readUnitHead yX6_readUnitHead ∈ xbig := xb_mem 6 (by decide +kernel) (by decide +kernel)
theorem cmX6_84 {r : Option Nat} {f : Mem → XA} (hm : mt.1.cls = RX6) (hs : XSnd l xmt rec d) (h8 : st.length ≤ 4) (hd : decode mt.2.1 pc = .ok (.invokevirtual 84, 3)) (k : ∀ M1, Xe S G K l mt d (pc + 3) lo st M1 (f M1)) : Xe S G K l mt d pc lo (va_rf r :: st) M (vC (7, 20) M r (cV (rec 76 ([va_rf r]) M) f)) := x_callV_V hs xq76 xm76 xci7 rfl (by rw [hm]; exact lmX6_84) mi76 mse76 rfl rfl h8 hd k
theorem xm77 : XMi (yX6_readMember, cX6_readMember, 4, none) 0 := ⟨xbt4 35 rfl (by decide +kernel), xbt1 2 (by decide +kernel) (by decide +kernel), by decide +kernel, by decide +kernel, by decide, by decide +kernel⟩
theorem xq77 : xmt 77 = (yX6_readMember, cX6_readMember, 4, none) := rfl
theorem lmX6_87 : Cond.methodLink RX6 87 yX6_readMember ∈ xbig := xbt4 32 (by decide +kernel) (by decide +kernel)
theorem mi77 : Cond.instanceMethod yX6_readMember ∈ xbig := xbt4 34 (by decide +kernel) (by decide +kernel)
theorem mse77 : Cond.selects RX6 yX6_readMember yX6_readMember ∈ xbig := xb_mem 16 (by decide +kernel) (by decide +kernel)
theorem cmX6_87 {r : Option Nat} {f : Mem → XA} (hm : mt.1.cls = RX6) (hs : XSnd l xmt rec d) (h8 : st.length ≤ 4) (hd : decode mt.2.1 pc = .ok (.invokevirtual 87, 3)) (k : ∀ M1, Xe S G K l mt d (pc + 3) lo st M1 (f M1)) : Xe S G K l mt d pc lo (va_rf r :: st) M (vC (7, 20) M r (cV (rec 77 ([va_rf r]) M) f)) := x_callV_V hs xq77 xm77 xci7 rfl (by rw [hm]; exact lmX6_87) mi77 mse77 rfl rfl h8 hd k
theorem xm64 : XMi (yX6_expect, cX6_expect, 2, none) 1 := ⟨xbt3 124 rfl (by decide +kernel), xbt1 2 (by decide +kernel) (by decide +kernel), by decide +kernel, by decide +kernel, by decide, by decide +kernel⟩
theorem xq64 : xmt 64 = (yX6_expect, cX6_expect, 2, none) := rfl
theorem lmX6_90 : Cond.methodLink RX6 90 yX6_expect ∈ xbig := xbt3 121 (by decide +kernel) (by decide +kernel)
theorem mi64 : Cond.instanceMethod yX6_expect ∈ xbig := xbt3 123 (by decide +kernel) (by decide +kernel)
theorem mse64 : Cond.selects RX6 yX6_expect yX6_expect ∈ xbig := xb_mem 7 (by decide +kernel) (by decide +kernel)
theorem cmX6_90 {r : Option Nat} {v0 : Int32} {f : Mem → XA} (hm : mt.1.cls = RX6) (hs : XSnd l xmt rec d) (h8 : st.length ≤ 4) (hd : decode mt.2.1 pc = .ok (.invokevirtual 90, 3)) (k : ∀ M1, Xe S G K l mt d (pc + 3) lo st M1 (f M1)) : Xe S G K l mt d pc lo (.int v0 :: va_rf r :: st) M (vC (7, 20) M r (cV (rec 64 ([va_rf r, .int v0]) M) f)) := x_callV_V hs xq64 xm64 xci7 rfl (by rw [hm]; exact lmX6_90) mi64 mse64 rfl rfl h8 hd k
theorem lmX6_94 : Cond.methodLink RX6 94 yJx4a65c_size_8abf5 ∈ xbig := xbt3 141 (by decide +kernel) (by decide +kernel)
theorem cmX6_94 {r : Option Nat} {f : Int32 → Mem → XA} (hm : mt.1.cls = RX6) (hs : XSnd l xmt rec d) (h8 : st.length ≤ 4) (hd : decode mt.2.1 pc = .ok (.invokevirtual 94, 3)) (k : ∀ x M1, Xe S G K l mt d (pc + 3) lo (.int x :: st) M1 (f x M1)) : Xe S G K l mt d pc lo (va_rf r :: st) M (vC (0, 3) M r (cI (rec 346 ([va_rf r]) M) f)) := x_callV_I hs xq346 xm346 xci0 rfl (by rw [hm]; exact lmX6_94) mi346 mse346 rfl rfl h8 hd k
theorem lmX6_97 : Cond.methodLink RX6 97 yJx4a65c_get_915e3 ∈ xbig := xbt3 142 (by decide +kernel) (by decide +kernel)
theorem cmX6_97 {r : Option Nat} {v0 : Int32} {f : Option Nat → Mem → XA} (hm : mt.1.cls = RX6) (hs : XSnd l xmt rec d) (h8 : st.length ≤ 4) (hd : decode mt.2.1 pc = .ok (.invokevirtual 97, 3)) (k : ∀ x M1, Xe S G K l mt d (pc + 3) lo (va_rf x :: st) M1 (f x M1)) : Xe S G K l mt d pc lo (.int v0 :: va_rf r :: st) M (vC (0, 3) M r (cP (rec 348 ([va_rf r, .int v0]) M) f)) := x_callV_P hs xq348 xm348 xci0 rfl (by rw [hm]; exact lmX6_97) mi348 mse348 rfl rfl h8 hd k
theorem xm62 : XMi (yX6_stop, cX6_stop, 2, none) 1 := ⟨xbt3 132 rfl (by decide +kernel), xbt1 2 (by decide +kernel) (by decide +kernel), by decide +kernel, by decide +kernel, by decide, by decide +kernel⟩
theorem xq62 : xmt 62 = (yX6_stop, cX6_stop, 2, none) := rfl
theorem lmX6_109 : Cond.methodLink RX6 109 yX6_stop ∈ xbig := xbt3 129 (by decide +kernel) (by decide +kernel)
theorem mi62 : Cond.instanceMethod yX6_stop ∈ xbig := xbt3 131 (by decide +kernel) (by decide +kernel)
theorem mse62 : Cond.selects RX6 yX6_stop yX6_stop ∈ xbig := xb_mem 9 (by decide +kernel) (by decide +kernel)
theorem cmX6_109 {r : Option Nat} {v0 : Int32} {f : Mem → XA} (hm : mt.1.cls = RX6) (hs : XSnd l xmt rec d) (h8 : st.length ≤ 4) (hd : decode mt.2.1 pc = .ok (.invokevirtual 109, 3)) (k : ∀ M1, Xe S G K l mt d (pc + 3) lo st M1 (f M1)) : Xe S G K l mt d pc lo (.int v0 :: va_rf r :: st) M (vC (7, 20) M r (cV (rec 62 ([va_rf r, .int v0]) M) f)) := x_callV_V hs xq62 xm62 xci7 rfl (by rw [hm]; exact lmX6_109) mi62 mse62 rfl rfl h8 hd k
theorem xm107 : XMi (yX6_settleUses, cX6_settleUses, 2, none) 0 := ⟨xbt5 4 rfl (by decide +kernel), xbt1 2 (by decide +kernel) (by decide +kernel), by decide +kernel, by decide +kernel, by decide, by decide +kernel⟩
theorem xq107 : xmt 107 = (yX6_settleUses, cX6_settleUses, 2, none) := rfl
theorem lmX6_112 : Cond.methodLink RX6 112 yX6_settleUses ∈ xbig := xbt5 1 (by decide +kernel) (by decide +kernel)
theorem mi107 : Cond.instanceMethod yX6_settleUses ∈ xbig := xbt5 3 (by decide +kernel) (by decide +kernel)
theorem mse107 : Cond.selects RX6 yX6_settleUses yX6_settleUses ∈ xbig := xb_mem 51 (by decide +kernel) (by decide +kernel)
theorem cmX6_112 {r : Option Nat} {f : Mem → XA} (hm : mt.1.cls = RX6) (hs : XSnd l xmt rec d) (h8 : st.length ≤ 4) (hd : decode mt.2.1 pc = .ok (.invokevirtual 112, 3)) (k : ∀ M1, Xe S G K l mt d (pc + 3) lo st M1 (f M1)) : Xe S G K l mt d pc lo (va_rf r :: st) M (vC (7, 20) M r (cV (rec 107 ([va_rf r]) M) f)) := x_callV_V hs xq107 xm107 xci7 rfl (by rw [hm]; exact lmX6_112) mi107 mse107 rfl rfl h8 hd k
theorem xm63 : XMi (yX6_advance, cX6_advance, 1, none) 0 := ⟨xbt3 128 rfl (by decide +kernel), xbt1 2 (by decide +kernel) (by decide +kernel), by decide +kernel, by decide +kernel, by decide, by decide +kernel⟩
theorem xq63 : xmt 63 = (yX6_advance, cX6_advance, 1, none) := rfl
theorem lmX6_121 : Cond.methodLink RX6 121 yX6_advance ∈ xbig := xbt3 125 (by decide +kernel) (by decide +kernel)
theorem mi63 : Cond.instanceMethod yX6_advance ∈ xbig := xbt3 127 (by decide +kernel) (by decide +kernel)
theorem mse63 : Cond.selects RX6 yX6_advance yX6_advance ∈ xbig := xb_mem 8 (by decide +kernel) (by decide +kernel)
theorem cmX6_121 {r : Option Nat} {f : Mem → XA} (hm : mt.1.cls = RX6) (hs : XSnd l xmt rec d) (h8 : st.length ≤ 4) (hd : decode mt.2.1 pc = .ok (.invokevirtual 121, 3)) (k : ∀ M1, Xe S G K l mt d (pc + 3) lo st M1 (f M1)) : Xe S G K l mt d pc lo (va_rf r :: st) M (vC (7, 20) M r (cV (rec 63 ([va_rf r]) M) f)) := x_callV_V hs xq63 xm63 xci7 rfl (by rw [hm]; exact lmX6_121) mi63 mse63 rfl rfl h8 hd k
theorem xm65 : XMi (yX6_text, cX6_text, 1, some .long) 0 := ⟨xbt3 136 rfl (by decide +kernel), xbt1 2 (by decide +kernel) (by decide +kernel), by decide +kernel, by decide +kernel, by decide, by decide +kernel⟩
theorem xq65 : xmt 65 = (yX6_text, cX6_text, 1, some .long) := rfl
theorem lmX6_127 : Cond.methodLink RX6 127 yX6_text ∈ xbig := xbt3 133 (by decide +kernel) (by decide +kernel)
theorem mi65 : Cond.instanceMethod yX6_text ∈ xbig := xbt3 135 (by decide +kernel) (by decide +kernel)
theorem mse65 : Cond.selects RX6 yX6_text yX6_text ∈ xbig := xb_mem 10 (by decide +kernel) (by decide +kernel)
theorem cmX6_127 {r : Option Nat} {f : Int64 → Mem → XA} (hm : mt.1.cls = RX6) (hs : XSnd l xmt rec d) (h8 : st.length ≤ 4) (hd : decode mt.2.1 pc = .ok (.invokevirtual 127, 3)) (k : ∀ x M1, Xe S G K l mt d (pc + 3) lo (.long x :: st) M1 (f x M1)) : Xe S G K l mt d pc lo (va_rf r :: st) M (vC (7, 20) M r (cL (rec 65 ([va_rf r]) M) f)) := x_callV_L hs xq65 xm65 xci7 rfl (by rw [hm]; exact lmX6_127) mi65 mse65 rfl rfl h8 hd k
theorem xm72 : XMi (yX6_isTold, cX6_isTold, 5, some .boolean) 2 := ⟨xbt4 53 rfl (by decide +kernel), xbt1 2 (by decide +kernel) (by decide +kernel), by decide +kernel, by decide +kernel, by decide, by decide +kernel⟩
theorem xq72 : xmt 72 = (yX6_isTold, cX6_isTold, 5, some .boolean) := rfl
theorem lmX6_141 : Cond.methodLink RX6 141 yX6_isTold ∈ xbig := xbt4 50 (by decide +kernel) (by decide +kernel)
theorem mi72 : Cond.instanceMethod yX6_isTold ∈ xbig := xbt4 52 (by decide +kernel) (by decide +kernel)
theorem mse72 : Cond.selects RX6 yX6_isTold yX6_isTold ∈ xbig := xb_mem 20 (by decide +kernel) (by decide +kernel)
theorem cmX6_141 {r : Option Nat} {v0 : Option Nat} {v1 : Int64} {f : Int32 → Mem → XA} (hm : mt.1.cls = RX6) (hs : XSnd l xmt rec d) (h8 : st.length ≤ 4) (hd : decode mt.2.1 pc = .ok (.invokevirtual 141, 3)) (k : ∀ x M1, Xe S G K l mt d (pc + 3) lo (.int x :: st) M1 (f x M1)) : Xe S G K l mt d pc lo (.long v1 :: va_rf v0 :: va_rf r :: st) M (vC (7, 20) M r (cI (rec 72 ([va_rf r, va_rf v0, .long v1]) M) f)) := x_callV_I hs xq72 xm72 xci7 rfl (by rw [hm]; exact lmX6_141) mi72 mse72 rfl rfl h8 hd k
theorem xm70 : XMi (yX6_unitNamed, cX6_unitNamed, 4, some .int) 1 := ⟨xbt3 140 rfl (by decide +kernel), xbt1 2 (by decide +kernel) (by decide +kernel), by decide +kernel, by decide +kernel, by decide, by decide +kernel⟩
theorem xq70 : xmt 70 = (yX6_unitNamed, cX6_unitNamed, 4, some .int) := rfl
theorem lmX6_148 : Cond.methodLink RX6 148 yX6_unitNamed ∈ xbig := xbt3 137 (by decide +kernel) (by decide +kernel)
theorem mi70 : Cond.instanceMethod yX6_unitNamed ∈ xbig := xbt3 139 (by decide +kernel) (by decide +kernel)
theorem mse70 : Cond.selects RX6 yX6_unitNamed yX6_unitNamed ∈ xbig := xb_mem 11 (by decide +kernel) (by decide +kernel)
theorem cmX6_148 {r : Option Nat} {v0 : Int64} {f : Int32 → Mem → XA} (hm : mt.1.cls = RX6) (hs : XSnd l xmt rec d) (h8 : st.length ≤ 4) (hd : decode mt.2.1 pc = .ok (.invokevirtual 148, 3)) (k : ∀ x M1, Xe S G K l mt d (pc + 3) lo (.int x :: st) M1 (f x M1)) : Xe S G K l mt d pc lo (.long v0 :: va_rf r :: st) M (vC (7, 20) M r (cI (rec 70 ([va_rf r, .long v0]) M) f)) := x_callV_I hs xq70 xm70 xci7 rfl (by rw [hm]; exact lmX6_148) mi70 mse70 rfl rfl h8 hd k
theorem xm66 : XMi (yX6_newName, cX6_newName, 5, some .long) 2 := ⟨xbt3 158 rfl (by decide +kernel), xbt1 2 (by decide +kernel) (by decide +kernel), by decide +kernel, by decide +kernel, by decide, by decide +kernel⟩
theorem xq66 : xmt 66 = (yX6_newName, cX6_newName, 5, some .long) := rfl
theorem lmX6_152 : Cond.methodLink RX6 152 yX6_newName ∈ xbig := xbt3 155 (by decide +kernel) (by decide +kernel)
theorem mi66 : Cond.instanceMethod yX6_newName ∈ xbig := xbt3 157 (by decide +kernel) (by decide +kernel)
theorem mse66 : Cond.selects RX6 yX6_newName yX6_newName ∈ xbig := xb_mem 12 (by decide +kernel) (by decide +kernel)
theorem cmX6_152 {r : Option Nat} {v0 : Int32} {v1 : Int32} {f : Int64 → Mem → XA} (hm : mt.1.cls = RX6) (hs : XSnd l xmt rec d) (h8 : st.length ≤ 4) (hd : decode mt.2.1 pc = .ok (.invokevirtual 152, 3)) (k : ∀ x M1, Xe S G K l mt d (pc + 3) lo (.long x :: st) M1 (f x M1)) : Xe S G K l mt d pc lo (.int v1 :: .int v0 :: va_rf r :: st) M (vC (7, 20) M r (cL (rec 66 ([va_rf r, .int v0, .int v1]) M) f)) := x_callV_L hs xq66 xm66 xci7 rfl (by rw [hm]; exact lmX6_152) mi66 mse66 rfl rfl h8 hd k
theorem xm126 : XMi (yX10_init, cX10_init, 5, none) 3 := ⟨xbt3 162 rfl (by decide +kernel), xbt1 19 (by decide +kernel) (by decide +kernel), by decide +kernel, by decide +kernel, by decide, by decide +kernel⟩
theorem xq126 : xmt 126 = (yX10_init, cX10_init, 5, none) := rfl
theorem lmX6_156 : Cond.methodLink RX6 156 yX10_init ∈ xbig := xbt3 160 (by decide +kernel) (by decide +kernel)
theorem mi126 : Cond.instanceMethod yX10_init ∈ xbig := xbt3 161 (by decide +kernel) (by decide +kernel)
theorem cmX6_156 {r : Option Nat} {v0 : Int64} {v1 : Int32} {v2 : Int32} {f : Mem → XA} (hm : mt.1.cls = RX6) (hs : XSnd l xmt rec d) (h8 : st.length ≤ 4) (hd : decode mt.2.1 pc = .ok (.invokespecial 156, 3)) (k : ∀ M1, Xe S G K l mt d (pc + 3) lo st M1 (f M1)) : Xe S G K l mt d pc lo (.int v2 :: .int v1 :: .long v0 :: va_rf r :: st) M (vC (11, 10) M r (cV (rec 126 ([va_rf r, .long v0, .int v1, .int v2]) M) f)) := x_callI_V hs xq126 xm126 rfl rfl (by rw [hm]; exact lmX6_156) mi126 rfl rfl h8 hd k
theorem lmX6_159 : Cond.methodLink RX6 159 yJx4a65c_add_9ea2d ∈ xbig := xbt3 215 (by decide +kernel) (by decide +kernel)
theorem cmX6_159 {r : Option Nat} {v0 : Option Nat} {f : Int32 → Mem → XA} (hm : mt.1.cls = RX6) (hs : XSnd l xmt rec d) (h8 : st.length ≤ 4) (hd : decode mt.2.1 pc = .ok (.invokevirtual 159, 3)) (k : ∀ x M1, Xe S G K l mt d (pc + 3) lo (.int x :: st) M1 (f x M1)) : Xe S G K l mt d pc lo (va_rf v0 :: va_rf r :: st) M (vC (0, 3) M r (cI (rec 350 ([va_rf r, va_rf v0]) M) f)) := x_callV_I hs xq350 xm350 xci0 rfl (by rw [hm]; exact lmX6_159) mi350 mse350 rfl rfl h8 hd k
theorem xm79 : XMi (yX6_readValue, cX6_readValue, 4, none) 1 := ⟨xbt4 39 rfl (by decide +kernel), xbt1 2 (by decide +kernel) (by decide +kernel), by decide +kernel, by decide +kernel, by decide, by decide +kernel⟩
theorem xq79 : xmt 79 = (yX6_readValue, cX6_readValue, 4, none) := rfl
theorem lmX6_163 : Cond.methodLink RX6 163 yX6_readValue ∈ xbig := xbt4 36 (by decide +kernel) (by decide +kernel)
theorem mi79 : Cond.instanceMethod yX6_readValue ∈ xbig := xbt4 38 (by decide +kernel) (by decide +kernel)
theorem mse79 : Cond.selects RX6 yX6_readValue yX6_readValue ∈ xbig := xb_mem 17 (by decide +kernel) (by decide +kernel)
theorem cmX6_163 {r : Option Nat} {v0 : Int32} {f : Mem → XA} (hm : mt.1.cls = RX6) (hs : XSnd l xmt rec d) (h8 : st.length ≤ 4) (hd : decode mt.2.1 pc = .ok (.invokevirtual 163, 3)) (k : ∀ M1, Xe S G K l mt d (pc + 3) lo st M1 (f M1)) : Xe S G K l mt d pc lo (.int v0 :: va_rf r :: st) M (vC (7, 20) M r (cV (rec 79 ([va_rf r, .int v0]) M) f)) := x_callV_V hs xq79 xm79 xci7 rfl (by rw [hm]; exact lmX6_163) mi79 mse79 rfl rfl h8 hd k
theorem xm80 : XMi (yX6_readRow, cX6_readRow, 3, none) 1 := ⟨xbt4 119 rfl (by decide +kernel), xbt1 2 (by decide +kernel) (by decide +kernel), by decide +kernel, by decide +kernel, by decide, by decide +kernel⟩
theorem xq80 : xmt 80 = (yX6_readRow, cX6_readRow, 3, none) := rfl
theorem lmX6_167 : Cond.methodLink RX6 167 yX6_readRow ∈ xbig := xbt4 116 (by decide +kernel) (by decide +kernel)
theorem mi80 : Cond.instanceMethod yX6_readRow ∈ xbig := xbt4 118 (by decide +kernel) (by decide +kernel)
theorem mse80 : Cond.selects RX6 yX6_readRow yX6_readRow ∈ xbig := xb_mem 22 (by decide +kernel) (by decide +kernel)
theorem cmX6_167 {r : Option Nat} {v0 : Int32} {f : Mem → XA} (hm : mt.1.cls = RX6) (hs : XSnd l xmt rec d) (h8 : st.length ≤ 4) (hd : decode mt.2.1 pc = .ok (.invokevirtual 167, 3)) (k : ∀ M1, Xe S G K l mt d (pc + 3) lo st M1 (f M1)) : Xe S G K l mt d pc lo (.int v0 :: va_rf r :: st) M (vC (7, 20) M r (cV (rec 80 ([va_rf r, .int v0]) M) f)) := x_callV_V hs xq80 xm80 xci7 rfl (by rw [hm]; exact lmX6_167) mi80 mse80 rfl rfl h8 hd k
theorem xm81 : XMi (yX6_readFun, cX6_readFun, 3, none) 1 := ⟨xbt4 127 rfl (by decide +kernel), xbt1 2 (by decide +kernel) (by decide +kernel), by decide +kernel, by decide +kernel, by decide, by decide +kernel⟩
theorem xq81 : xmt 81 = (yX6_readFun, cX6_readFun, 3, none) := rfl
theorem lmX6_173 : Cond.methodLink RX6 173 yX6_readFun ∈ xbig := xbt4 124 (by decide +kernel) (by decide +kernel)
theorem mi81 : Cond.instanceMethod yX6_readFun ∈ xbig := xbt4 126 (by decide +kernel) (by decide +kernel)
theorem mse81 : Cond.selects RX6 yX6_readFun yX6_readFun ∈ xbig := xb_mem 24 (by decide +kernel) (by decide +kernel)
theorem cmX6_173 {r : Option Nat} {v0 : Int32} {f : Mem → XA} (hm : mt.1.cls = RX6) (hs : XSnd l xmt rec d) (h8 : st.length ≤ 4) (hd : decode mt.2.1 pc = .ok (.invokevirtual 173, 3)) (k : ∀ M1, Xe S G K l mt d (pc + 3) lo st M1 (f M1)) : Xe S G K l mt d pc lo (.int v0 :: va_rf r :: st) M (vC (7, 20) M r (cV (rec 81 ([va_rf r, .int v0]) M) f)) := x_callV_V hs xq81 xm81 xci7 rfl (by rw [hm]; exact lmX6_173) mi81 mse81 rfl rfl h8 hd k
theorem xm83 : XMi (yX6_readNameless, cX6_readNameless, 4, none) 1 := ⟨xbt4 143 rfl (by decide +kernel), xbt1 2 (by decide +kernel) (by decide +kernel), by decide +kernel, by decide +kernel, by decide, by decide +kernel⟩
theorem xq83 : xmt 83 = (yX6_readNameless, cX6_readNameless, 4, none) := rfl
theorem lmX6_176 : Cond.methodLink RX6 176 yX6_readNameless ∈ xbig := xbt4 140 (by decide +kernel) (by decide +kernel)
theorem mi83 : Cond.instanceMethod yX6_readNameless ∈ xbig := xbt4 142 (by decide +kernel) (by decide +kernel)
theorem mse83 : Cond.selects RX6 yX6_readNameless yX6_readNameless ∈ xbig := xb_mem 28 (by decide +kernel) (by decide +kernel)
theorem cmX6_176 {r : Option Nat} {v0 : Option Nat} {f : Mem → XA} (hm : mt.1.cls = RX6) (hs : XSnd l xmt rec d) (h8 : st.length ≤ 4) (hd : decode mt.2.1 pc = .ok (.invokevirtual 176, 3)) (k : ∀ M1, Xe S G K l mt d (pc + 3) lo st M1 (f M1)) : Xe S G K l mt d pc lo (va_rf v0 :: va_rf r :: st) M (vC (7, 20) M r (cV (rec 83 ([va_rf r, va_rf v0]) M) f)) := x_callV_V hs xq83 xm83 xci7 rfl (by rw [hm]; exact lmX6_176) mi83 mse83 rfl rfl h8 hd k
theorem xm84 : XMi (yX6_readTest, cX6_readTest, 6, none) 0 := ⟨xbt4 147 rfl (by decide +kernel), xbt1 2 (by decide +kernel) (by decide +kernel), by decide +kernel, by decide +kernel, by decide, by decide +kernel⟩
theorem xq84 : xmt 84 = (yX6_readTest, cX6_readTest, 6, none) := rfl
theorem lmX6_180 : Cond.methodLink RX6 180 yX6_readTest ∈ xbig := xbt4 144 (by decide +kernel) (by decide +kernel)
theorem mi84 : Cond.instanceMethod yX6_readTest ∈ xbig := xbt4 146 (by decide +kernel) (by decide +kernel)
theorem mse84 : Cond.selects RX6 yX6_readTest yX6_readTest ∈ xbig := xb_mem 29 (by decide +kernel) (by decide +kernel)
theorem cmX6_180 {r : Option Nat} {f : Mem → XA} (hm : mt.1.cls = RX6) (hs : XSnd l xmt rec d) (h8 : st.length ≤ 4) (hd : decode mt.2.1 pc = .ok (.invokevirtual 180, 3)) (k : ∀ M1, Xe S G K l mt d (pc + 3) lo st M1 (f M1)) : Xe S G K l mt d pc lo (va_rf r :: st) M (vC (7, 20) M r (cV (rec 84 ([va_rf r]) M) f)) := x_callV_V hs xq84 xm84 xci7 rfl (by rw [hm]; exact lmX6_180) mi84 mse84 rfl rfl h8 hd k
theorem xm86 : XMi (yX6_readProp, cX6_readProp, 2, none) 0 := ⟨xbt4 157 rfl (by decide +kernel), xbt1 2 (by decide +kernel) (by decide +kernel), by decide +kernel, by decide +kernel, by decide, by decide +kernel⟩
theorem xq86 : xmt 86 = (yX6_readProp, cX6_readProp, 2, none) := rfl
theorem lmX6_183 : Cond.methodLink RX6 183 yX6_readProp ∈ xbig := xbt4 154 (by decide +kernel) (by decide +kernel)
theorem mi86 : Cond.instanceMethod yX6_readProp ∈ xbig := xbt4 156 (by decide +kernel) (by decide +kernel)
theorem mse86 : Cond.selects RX6 yX6_readProp yX6_readProp ∈ xbig := xb_mem 31 (by decide +kernel) (by decide +kernel)
theorem cmX6_183 {r : Option Nat} {f : Mem → XA} (hm : mt.1.cls = RX6) (hs : XSnd l xmt rec d) (h8 : st.length ≤ 4) (hd : decode mt.2.1 pc = .ok (.invokevirtual 183, 3)) (k : ∀ M1, Xe S G K l mt d (pc + 3) lo st M1 (f M1)) : Xe S G K l mt d pc lo (va_rf r :: st) M (vC (7, 20) M r (cV (rec 86 ([va_rf r]) M) f)) := x_callV_V hs xq86 xm86 xci7 rfl (by rw [hm]; exact lmX6_183) mi86 mse86 rfl rfl h8 hd k
theorem xm89 : XMi (yX6_block, cX6_block, 4, none) 1 := ⟨xbt4 161 rfl (by decide +kernel), xbt1 2 (by decide +kernel) (by decide +kernel), by decide +kernel, by decide +kernel, by decide, by decide +kernel⟩
theorem xq89 : xmt 89 = (yX6_block, cX6_block, 4, none) := rfl
theorem lmX6_186 : Cond.methodLink RX6 186 yX6_block ∈ xbig := xbt4 158 (by decide +kernel) (by decide +kernel)
theorem mi89 : Cond.instanceMethod yX6_block ∈ xbig := xbt4 160 (by decide +kernel) (by decide +kernel)
theorem mse89 : Cond.selects RX6 yX6_block yX6_block ∈ xbig := xb_mem 32 (by decide +kernel) (by decide +kernel)
theorem cmX6_186 {r : Option Nat} {v0 : Int32} {f : Mem → XA} (hm : mt.1.cls = RX6) (hs : XSnd l xmt rec d) (h8 : st.length ≤ 4) (hd : decode mt.2.1 pc = .ok (.invokevirtual 186, 3)) (k : ∀ M1, Xe S G K l mt d (pc + 3) lo st M1 (f M1)) : Xe S G K l mt d pc lo (.int v0 :: va_rf r :: st) M (vC (7, 20) M r (cV (rec 89 ([va_rf r, .int v0]) M) f)) := x_callV_V hs xq89 xm89 xci7 rfl (by rw [hm]; exact lmX6_186) mi89 mse89 rfl rfl h8 hd k
theorem xm73 : XMi (yX6_isMemberTold, cX6_isMemberTold, 3, some .boolean) 0 := ⟨xbt4 49 rfl (by decide +kernel), xbt1 2 (by decide +kernel) (by decide +kernel), by decide +kernel, by decide +kernel, by decide, by decide +kernel⟩
theorem xq73 : xmt 73 = (yX6_isMemberTold, cX6_isMemberTold, 3, some .boolean) := rfl
theorem lmX6_192 : Cond.methodLink RX6 192 yX6_isMemberTold ∈ xbig := xbt4 46 (by decide +kernel) (by decide +kernel)
theorem mi73 : Cond.instanceMethod yX6_isMemberTold ∈ xbig := xbt4 48 (by decide +kernel) (by decide +kernel)
theorem mse73 : Cond.selects RX6 yX6_isMemberTold yX6_isMemberTold ∈ xbig := xb_mem 19 (by decide +kernel) (by decide +kernel)
theorem cmX6_192 {r : Option Nat} {f : Int32 → Mem → XA} (hm : mt.1.cls = RX6) (hs : XSnd l xmt rec d) (h8 : st.length ≤ 4) (hd : decode mt.2.1 pc = .ok (.invokevirtual 192, 3)) (k : ∀ x M1, Xe S G K l mt d (pc + 3) lo (.int x :: st) M1 (f x M1)) : Xe S G K l mt d pc lo (va_rf r :: st) M (vC (7, 20) M r (cI (rec 73 ([va_rf r]) M) f)) := x_callV_I hs xq73 xm73 xci7 rfl (by rw [hm]; exact lmX6_192) mi73 mse73 rfl rfl h8 hd k
theorem xm110 : XMi (yX7_init, cX7_init, 5, none) 3 := ⟨xbt4 56 rfl (by decide +kernel), xbt1 23 (by decide +kernel) (by decide +kernel), by decide +kernel, by decide +kernel, by decide, by decide +kernel⟩
theorem xq110 : xmt 110 = (yX7_init, cX7_init, 5, none) := rfl
theorem lmX6_196 : Cond.methodLink RX6 196 yX7_init ∈ xbig := xbt4 54 (by decide +kernel) (by decide +kernel)
theorem mi110 : Cond.instanceMethod yX7_init ∈ xbig := xbt4 55 (by decide +kernel) (by decide +kernel)
theorem cmX6_196 {r : Option Nat} {v0 : Int64} {v1 : Int32} {v2 : Int32} {f : Mem → XA} (hm : mt.1.cls = RX6) (hs : XSnd l xmt rec d) (h8 : st.length ≤ 4) (hd : decode mt.2.1 pc = .ok (.invokespecial 196, 3)) (k : ∀ M1, Xe S G K l mt d (pc + 3) lo st M1 (f M1)) : Xe S G K l mt d pc lo (.int v2 :: .int v1 :: .long v0 :: va_rf r :: st) M (vC (8, 9) M r (cV (rec 110 ([va_rf r, .long v0, .int v1, .int v2]) M) f)) := x_callI_V hs xq110 xm110 rfl rfl (by rw [hm]; exact lmX6_196) mi110 rfl rfl h8 hd k
theorem xm78 : XMi (yX6_newMember, cX6_newMember, 6, some (.object "TestHouse$Part")) 2 := ⟨xbt4 43 rfl (by decide +kernel), xbt1 2 (by decide +kernel) (by decide +kernel), by decide +kernel, by decide +kernel, by decide, by decide +kernel⟩
theorem xq78 : xmt 78 = (yX6_newMember, cX6_newMember, 6, some (.object "TestHouse$Part")) := rfl
theorem lmX6_201 : Cond.methodLink RX6 201 yX6_newMember ∈ xbig := xbt4 40 (by decide +kernel) (by decide +kernel)
theorem mi78 : Cond.instanceMethod yX6_newMember ∈ xbig := xbt4 42 (by decide +kernel) (by decide +kernel)
theorem mse78 : Cond.selects RX6 yX6_newMember yX6_newMember ∈ xbig := xb_mem 18 (by decide +kernel) (by decide +kernel)
theorem cmX6_201 {r : Option Nat} {v0 : Int32} {v1 : Int32} {f : Option Nat → Mem → XA} (hm : mt.1.cls = RX6) (hs : XSnd l xmt rec d) (h8 : st.length ≤ 4) (hd : decode mt.2.1 pc = .ok (.invokevirtual 201, 3)) (k : ∀ x M1, Xe S G K l mt d (pc + 3) lo (va_rf x :: st) M1 (f x M1)) : Xe S G K l mt d pc lo (.int v1 :: .int v0 :: va_rf r :: st) M (vC (7, 20) M r (cP (rec 78 ([va_rf r, .int v0, .int v1]) M) f)) := x_callV_P hs xq78 xm78 xci7 rfl (by rw [hm]; exact lmX6_201) mi78 mse78 rfl rfl h8 hd k
theorem xm68 : XMi (yX6_signed, cX6_signed, 3, some .int) 0 := ⟨xbt4 115 rfl (by decide +kernel), xbt1 2 (by decide +kernel) (by decide +kernel), by decide +kernel, by decide +kernel, by decide, by decide +kernel⟩
theorem xq68 : xmt 68 = (yX6_signed, cX6_signed, 3, some .int) := rfl
theorem lmX6_205 : Cond.methodLink RX6 205 yX6_signed ∈ xbig := xbt4 112 (by decide +kernel) (by decide +kernel)
theorem mi68 : Cond.instanceMethod yX6_signed ∈ xbig := xbt4 114 (by decide +kernel) (by decide +kernel)
theorem mse68 : Cond.selects RX6 yX6_signed yX6_signed ∈ xbig := xb_mem 21 (by decide +kernel) (by decide +kernel)
theorem cmX6_205 {r : Option Nat} {f : Int32 → Mem → XA} (hm : mt.1.cls = RX6) (hs : XSnd l xmt rec d) (h8 : st.length ≤ 4) (hd : decode mt.2.1 pc = .ok (.invokevirtual 205, 3)) (k : ∀ x M1, Xe S G K l mt d (pc + 3) lo (.int x :: st) M1 (f x M1)) : Xe S G K l mt d pc lo (va_rf r :: st) M (vC (7, 20) M r (cI (rec 68 ([va_rf r]) M) f)) := x_callV_I hs xq68 xm68 xci7 rfl (by rw [hm]; exact lmX6_205) mi68 mse68 rfl rfl h8 hd k
theorem xm67 : XMi (yX6_numberFrom, cX6_numberFrom, 4, some .int) 2 := ⟨xbt4 123 rfl (by decide +kernel), xbt1 2 (by decide +kernel) (by decide +kernel), by decide +kernel, by decide +kernel, by decide, by decide +kernel⟩
theorem xq67 : xmt 67 = (yX6_numberFrom, cX6_numberFrom, 4, some .int) := rfl
theorem lmX6_211 : Cond.methodLink RX6 211 yX6_numberFrom ∈ xbig := xbt4 120 (by decide +kernel) (by decide +kernel)
theorem mi67 : Cond.instanceMethod yX6_numberFrom ∈ xbig := xbt4 122 (by decide +kernel) (by decide +kernel)
theorem mse67 : Cond.selects RX6 yX6_numberFrom yX6_numberFrom ∈ xbig := xb_mem 23 (by decide +kernel) (by decide +kernel)
theorem cmX6_211 {r : Option Nat} {v0 : Int32} {v1 : Int32} {f : Int32 → Mem → XA} (hm : mt.1.cls = RX6) (hs : XSnd l xmt rec d) (h8 : st.length ≤ 4) (hd : decode mt.2.1 pc = .ok (.invokevirtual 211, 3)) (k : ∀ x M1, Xe S G K l mt d (pc + 3) lo (.int x :: st) M1 (f x M1)) : Xe S G K l mt d pc lo (.int v1 :: .int v0 :: va_rf r :: st) M (vC (7, 20) M r (cI (rec 67 ([va_rf r, .int v0, .int v1]) M) f)) := x_callV_I hs xq67 xm67 xci7 rfl (by rw [hm]; exact lmX6_211) mi67 mse67 rfl rfl h8 hd k
theorem xm82 : XMi (yX6_readParameters, cX6_readParameters, 3, none) 0 := ⟨xbt4 131 rfl (by decide +kernel), xbt1 2 (by decide +kernel) (by decide +kernel), by decide +kernel, by decide +kernel, by decide, by decide +kernel⟩
theorem xq82 : xmt 82 = (yX6_readParameters, cX6_readParameters, 3, none) := rfl
theorem lmX6_215 : Cond.methodLink RX6 215 yX6_readParameters ∈ xbig := xbt4 128 (by decide +kernel) (by decide +kernel)
theorem mi82 : Cond.instanceMethod yX6_readParameters ∈ xbig := xbt4 130 (by decide +kernel) (by decide +kernel)
theorem mse82 : Cond.selects RX6 yX6_readParameters yX6_readParameters ∈ xbig := xb_mem 25 (by decide +kernel) (by decide +kernel)
theorem cmX6_215 {r : Option Nat} {f : Mem → XA} (hm : mt.1.cls = RX6) (hs : XSnd l xmt rec d) (h8 : st.length ≤ 4) (hd : decode mt.2.1 pc = .ok (.invokevirtual 215, 3)) (k : ∀ M1, Xe S G K l mt d (pc + 3) lo st M1 (f M1)) : Xe S G K l mt d pc lo (va_rf r :: st) M (vC (7, 20) M r (cV (rec 82 ([va_rf r]) M) f)) := x_callV_V hs xq82 xm82 xci7 rfl (by rw [hm]; exact lmX6_215) mi82 mse82 rfl rfl h8 hd k
theorem xm74 : XMi (yX6_localNamed, cX6_localNamed, 4, some .int) 1 := ⟨xbt4 135 rfl (by decide +kernel), xbt1 2 (by decide +kernel) (by decide +kernel), by decide +kernel, by decide +kernel, by decide, by decide +kernel⟩
theorem xq74 : xmt 74 = (yX6_localNamed, cX6_localNamed, 4, some .int) := rfl
theorem lmX6_221 : Cond.methodLink RX6 221 yX6_localNamed ∈ xbig := xbt4 132 (by decide +kernel) (by decide +kernel)
theorem mi74 : Cond.instanceMethod yX6_localNamed ∈ xbig := xbt4 134 (by decide +kernel) (by decide +kernel)
theorem mse74 : Cond.selects RX6 yX6_localNamed yX6_localNamed ∈ xbig := xb_mem 26 (by decide +kernel) (by decide +kernel)
theorem cmX6_221 {r : Option Nat} {v0 : Int64} {f : Int32 → Mem → XA} (hm : mt.1.cls = RX6) (hs : XSnd l xmt rec d) (h8 : st.length ≤ 4) (hd : decode mt.2.1 pc = .ok (.invokevirtual 221, 3)) (k : ∀ x M1, Xe S G K l mt d (pc + 3) lo (.int x :: st) M1 (f x M1)) : Xe S G K l mt d pc lo (.long v0 :: va_rf r :: st) M (vC (7, 20) M r (cI (rec 74 ([va_rf r, .long v0]) M) f)) := x_callV_I hs xq74 xm74 xci7 rfl (by rw [hm]; exact lmX6_221) mi74 mse74 rfl rfl h8 hd k
theorem xm75 : XMi (yX6_addLocal, cX6_addLocal, 3, none) 1 := ⟨xbt4 139 rfl (by decide +kernel), xbt1 2 (by decide +kernel) (by decide +kernel), by decide +kernel, by decide +kernel, by decide, by decide +kernel⟩
theorem xq75 : xmt 75 = (yX6_addLocal, cX6_addLocal, 3, none) := rfl
theorem lmX6_224 : Cond.methodLink RX6 224 yX6_addLocal ∈ xbig := xbt4 136 (by decide +kernel) (by decide +kernel)
theorem mi75 : Cond.instanceMethod yX6_addLocal ∈ xbig := xbt4 138 (by decide +kernel) (by decide +kernel)
theorem mse75 : Cond.selects RX6 yX6_addLocal yX6_addLocal ∈ xbig := xb_mem 27 (by decide +kernel) (by decide +kernel)
theorem cmX6_224 {r : Option Nat} {v0 : Int64} {f : Mem → XA} (hm : mt.1.cls = RX6) (hs : XSnd l xmt rec d) (h8 : st.length ≤ 4) (hd : decode mt.2.1 pc = .ok (.invokevirtual 224, 3)) (k : ∀ M1, Xe S G K l mt d (pc + 3) lo st M1 (f M1)) : Xe S G K l mt d pc lo (.long v0 :: va_rf r :: st) M (vC (7, 20) M r (cV (rec 75 ([va_rf r, .long v0]) M) f)) := x_callV_V hs xq75 xm75 xci7 rfl (by rw [hm]; exact lmX6_224) mi75 mse75 rfl rfl h8 hd k
theorem xm85 : XMi (yX6_readWith, cX6_readWith, 4, none) 1 := ⟨xbt4 152 rfl (by decide +kernel), xbt1 2 (by decide +kernel) (by decide +kernel), by decide +kernel, by decide +kernel, by decide, by decide +kernel⟩
theorem xq85 : xmt 85 = (yX6_readWith, cX6_readWith, 4, none) := rfl
theorem lmX6_250 : Cond.methodLink RX6 250 yX6_readWith ∈ xbig := xbt4 149 (by decide +kernel) (by decide +kernel)
theorem mi85 : Cond.instanceMethod yX6_readWith ∈ xbig := xbt4 151 (by decide +kernel) (by decide +kernel)
theorem mse85 : Cond.selects RX6 yX6_readWith yX6_readWith ∈ xbig := xb_mem 30 (by decide +kernel) (by decide +kernel)
theorem cmX6_250 {r : Option Nat} {v0 : Option Nat} {f : Mem → XA} (hm : mt.1.cls = RX6) (hs : XSnd l xmt rec d) (h8 : st.length ≤ 4) (hd : decode mt.2.1 pc = .ok (.invokevirtual 250, 3)) (k : ∀ M1, Xe S G K l mt d (pc + 3) lo st M1 (f M1)) : Xe S G K l mt d pc lo (va_rf v0 :: va_rf r :: st) M (vC (7, 20) M r (cV (rec 85 ([va_rf r, va_rf v0]) M) f)) := x_callV_V hs xq85 xm85 xci7 rfl (by rw [hm]; exact lmX6_250) mi85 mse85 rfl rfl h8 hd k
theorem xm87 : XMi (yX6_emit, cX6_emit, 3, some .int) 2 := ⟨xbt4 185 rfl (by decide +kernel), xbt1 2 (by decide +kernel) (by decide +kernel), by decide +kernel, by decide +kernel, by decide, by decide +kernel⟩
theorem xq87 : xmt 87 = (yX6_emit, cX6_emit, 3, some .int) := rfl
theorem lmX6_256 : Cond.methodLink RX6 256 yX6_emit ∈ xbig := xbt4 182 (by decide +kernel) (by decide +kernel)
theorem mi87 : Cond.instanceMethod yX6_emit ∈ xbig := xbt4 184 (by decide +kernel) (by decide +kernel)
theorem mse87 : Cond.selects RX6 yX6_emit yX6_emit ∈ xbig := xb_mem 38 (by decide +kernel) (by decide +kernel)
theorem cmX6_256 {r : Option Nat} {v0 : Int32} {v1 : Int32} {f : Int32 → Mem → XA} (hm : mt.1.cls = RX6) (hs : XSnd l xmt rec d) (h8 : st.length ≤ 4) (hd : decode mt.2.1 pc = .ok (.invokevirtual 256, 3)) (k : ∀ x M1, Xe S G K l mt d (pc + 3) lo (.int x :: st) M1 (f x M1)) : Xe S G K l mt d pc lo (.int v1 :: .int v0 :: va_rf r :: st) M (vC (7, 20) M r (cI (rec 87 ([va_rf r, .int v0, .int v1]) M) f)) := x_callV_I hs xq87 xm87 xci7 rfl (by rw [hm]; exact lmX6_256) mi87 mse87 rfl rfl h8 hd k
theorem xm69 : XMi (yX6_goDeeper, cX6_goDeeper, 3, none) 2 := ⟨xbt4 165 rfl (by decide +kernel), xbt1 2 (by decide +kernel) (by decide +kernel), by decide +kernel, by decide +kernel, by decide, by decide +kernel⟩
theorem xq69 : xmt 69 = (yX6_goDeeper, cX6_goDeeper, 3, none) := rfl
theorem lmX6_259 : Cond.methodLink RX6 259 yX6_goDeeper ∈ xbig := xbt4 162 (by decide +kernel) (by decide +kernel)
theorem mi69 : Cond.instanceMethod yX6_goDeeper ∈ xbig := xbt4 164 (by decide +kernel) (by decide +kernel)
theorem mse69 : Cond.selects RX6 yX6_goDeeper yX6_goDeeper ∈ xbig := xb_mem 33 (by decide +kernel) (by decide +kernel)
theorem cmX6_259 {r : Option Nat} {v0 : Int32} {v1 : Int32} {f : Mem → XA} (hm : mt.1.cls = RX6) (hs : XSnd l xmt rec d) (h8 : st.length ≤ 4) (hd : decode mt.2.1 pc = .ok (.invokevirtual 259, 3)) (k : ∀ M1, Xe S G K l mt d (pc + 3) lo st M1 (f M1)) : Xe S G K l mt d pc lo (.int v1 :: .int v0 :: va_rf r :: st) M (vC (7, 20) M r (cV (rec 69 ([va_rf r, .int v0, .int v1]) M) f)) := x_callV_V hs xq69 xm69 xci7 rfl (by rw [hm]; exact lmX6_259) mi69 mse69 rfl rfl h8 hd k
theorem xm90 : XMi (yX6_statement, cX6_statement, 2, none) 1 := ⟨xbt4 169 rfl (by decide +kernel), xbt1 2 (by decide +kernel) (by decide +kernel), by decide +kernel, by decide +kernel, by decide, by decide +kernel⟩
theorem xq90 : xmt 90 = (yX6_statement, cX6_statement, 2, none) := rfl
theorem lmX6_263 : Cond.methodLink RX6 263 yX6_statement ∈ xbig := xbt4 166 (by decide +kernel) (by decide +kernel)
theorem mi90 : Cond.instanceMethod yX6_statement ∈ xbig := xbt4 168 (by decide +kernel) (by decide +kernel)
theorem mse90 : Cond.selects RX6 yX6_statement yX6_statement ∈ xbig := xb_mem 34 (by decide +kernel) (by decide +kernel)
theorem cmX6_263 {r : Option Nat} {v0 : Int32} {f : Mem → XA} (hm : mt.1.cls = RX6) (hs : XSnd l xmt rec d) (h8 : st.length ≤ 4) (hd : decode mt.2.1 pc = .ok (.invokevirtual 263, 3)) (k : ∀ M1, Xe S G K l mt d (pc + 3) lo st M1 (f M1)) : Xe S G K l mt d pc lo (.int v0 :: va_rf r :: st) M (vC (7, 20) M r (cV (rec 90 ([va_rf r, .int v0]) M) f)) := x_callV_V hs xq90 xm90 xci7 rfl (by rw [hm]; exact lmX6_263) mi90 mse90 rfl rfl h8 hd k
theorem xm88 : XMi (yX6_endCode, cX6_endCode, 1, none) 0 := ⟨xbt5 0 rfl (by decide +kernel), xbt1 2 (by decide +kernel) (by decide +kernel), by decide +kernel, by decide +kernel, by decide, by decide +kernel⟩
theorem xq88 : xmt 88 = (yX6_endCode, cX6_endCode, 1, none) := rfl
theorem lmX6_266 : Cond.methodLink RX6 266 yX6_endCode ∈ xbig := xbt4 237 (by decide +kernel) (by decide +kernel)
theorem mi88 : Cond.instanceMethod yX6_endCode ∈ xbig := xbt4 239 (by decide +kernel) (by decide +kernel)
theorem mse88 : Cond.selects RX6 yX6_endCode yX6_endCode ∈ xbig := xb_mem 50 (by decide +kernel) (by decide +kernel)
theorem cmX6_266 {r : Option Nat} {f : Mem → XA} (hm : mt.1.cls = RX6) (hs : XSnd l xmt rec d) (h8 : st.length ≤ 4) (hd : decode mt.2.1 pc = .ok (.invokevirtual 266, 3)) (k : ∀ M1, Xe S G K l mt d (pc + 3) lo st M1 (f M1)) : Xe S G K l mt d pc lo (va_rf r :: st) M (vC (7, 20) M r (cV (rec 88 ([va_rf r]) M) f)) := x_callV_V hs xq88 xm88 xci7 rfl (by rw [hm]; exact lmX6_266) mi88 mse88 rfl rfl h8 hd k
theorem xm92 : XMi (yX6_letStatement, cX6_letStatement, 4, none) 1 := ⟨xbt4 173 rfl (by decide +kernel), xbt1 2 (by decide +kernel) (by decide +kernel), by decide +kernel, by decide +kernel, by decide, by decide +kernel⟩
theorem xq92 : xmt 92 = (yX6_letStatement, cX6_letStatement, 4, none) := rfl
theorem lmX6_268 : Cond.methodLink RX6 268 yX6_letStatement ∈ xbig := xbt4 170 (by decide +kernel) (by decide +kernel)
theorem mi92 : Cond.instanceMethod yX6_letStatement ∈ xbig := xbt4 172 (by decide +kernel) (by decide +kernel)
theorem mse92 : Cond.selects RX6 yX6_letStatement yX6_letStatement ∈ xbig := xb_mem 35 (by decide +kernel) (by decide +kernel)
theorem cmX6_268 {r : Option Nat} {v0 : Int32} {f : Mem → XA} (hm : mt.1.cls = RX6) (hs : XSnd l xmt rec d) (h8 : st.length ≤ 4) (hd : decode mt.2.1 pc = .ok (.invokevirtual 268, 3)) (k : ∀ M1, Xe S G K l mt d (pc + 3) lo st M1 (f M1)) : Xe S G K l mt d pc lo (.int v0 :: va_rf r :: st) M (vC (7, 20) M r (cV (rec 92 ([va_rf r, .int v0]) M) f)) := x_callV_V hs xq92 xm92 xci7 rfl (by rw [hm]; exact lmX6_268) mi92 mse92 rfl rfl h8 hd k
theorem xm96 : XMi (yX6_nameStatement, cX6_nameStatement, 4, none) 1 := ⟨xbt4 220 rfl (by decide +kernel), xbt1 2 (by decide +kernel) (by decide +kernel), by decide +kernel, by decide +kernel, by decide, by decide +kernel⟩
theorem xq96 : xmt 96 = (yX6_nameStatement, cX6_nameStatement, 4, none) := rfl
theorem lmX6_271 : Cond.methodLink RX6 271 yX6_nameStatement ∈ xbig := xbt4 217 (by decide +kernel) (by decide +kernel)
theorem mi96 : Cond.instanceMethod yX6_nameStatement ∈ xbig := xbt4 219 (by decide +kernel) (by decide +kernel)
theorem mse96 : Cond.selects RX6 yX6_nameStatement yX6_nameStatement ∈ xbig := xb_mem 45 (by decide +kernel) (by decide +kernel)
theorem cmX6_271 {r : Option Nat} {v0 : Int32} {f : Mem → XA} (hm : mt.1.cls = RX6) (hs : XSnd l xmt rec d) (h8 : st.length ≤ 4) (hd : decode mt.2.1 pc = .ok (.invokevirtual 271, 3)) (k : ∀ M1, Xe S G K l mt d (pc + 3) lo st M1 (f M1)) : Xe S G K l mt d pc lo (.int v0 :: va_rf r :: st) M (vC (7, 20) M r (cV (rec 96 ([va_rf r, .int v0]) M) f)) := x_callV_V hs xq96 xm96 xci7 rfl (by rw [hm]; exact lmX6_271) mi96 mse96 rfl rfl h8 hd k
theorem xm93 : XMi (yX6_ifStatement, cX6_ifStatement, 4, none) 1 := ⟨xbt4 224 rfl (by decide +kernel), xbt1 2 (by decide +kernel) (by decide +kernel), by decide +kernel, by decide +kernel, by decide, by decide +kernel⟩
theorem xq93 : xmt 93 = (yX6_ifStatement, cX6_ifStatement, 4, none) := rfl
theorem lmX6_274 : Cond.methodLink RX6 274 yX6_ifStatement ∈ xbig := xbt4 221 (by decide +kernel) (by decide +kernel)
theorem mi93 : Cond.instanceMethod yX6_ifStatement ∈ xbig := xbt4 223 (by decide +kernel) (by decide +kernel)
theorem mse93 : Cond.selects RX6 yX6_ifStatement yX6_ifStatement ∈ xbig := xb_mem 46 (by decide +kernel) (by decide +kernel)
theorem cmX6_274 {r : Option Nat} {v0 : Int32} {f : Mem → XA} (hm : mt.1.cls = RX6) (hs : XSnd l xmt rec d) (h8 : st.length ≤ 4) (hd : decode mt.2.1 pc = .ok (.invokevirtual 274, 3)) (k : ∀ M1, Xe S G K l mt d (pc + 3) lo st M1 (f M1)) : Xe S G K l mt d pc lo (.int v0 :: va_rf r :: st) M (vC (7, 20) M r (cV (rec 93 ([va_rf r, .int v0]) M) f)) := x_callV_V hs xq93 xm93 xci7 rfl (by rw [hm]; exact lmX6_274) mi93 mse93 rfl rfl h8 hd k
theorem xm94 : XMi (yX6_whileStatement, cX6_whileStatement, 4, none) 1 := ⟨xbt4 228 rfl (by decide +kernel), xbt1 2 (by decide +kernel) (by decide +kernel), by decide +kernel, by decide +kernel, by decide, by decide +kernel⟩
theorem xq94 : xmt 94 = (yX6_whileStatement, cX6_whileStatement, 4, none) := rfl
theorem lmX6_277 : Cond.methodLink RX6 277 yX6_whileStatement ∈ xbig := xbt4 225 (by decide +kernel) (by decide +kernel)
theorem mi94 : Cond.instanceMethod yX6_whileStatement ∈ xbig := xbt4 227 (by decide +kernel) (by decide +kernel)
theorem mse94 : Cond.selects RX6 yX6_whileStatement yX6_whileStatement ∈ xbig := xb_mem 47 (by decide +kernel) (by decide +kernel)
theorem cmX6_277 {r : Option Nat} {v0 : Int32} {f : Mem → XA} (hm : mt.1.cls = RX6) (hs : XSnd l xmt rec d) (h8 : st.length ≤ 4) (hd : decode mt.2.1 pc = .ok (.invokevirtual 277, 3)) (k : ∀ M1, Xe S G K l mt d (pc + 3) lo st M1 (f M1)) : Xe S G K l mt d pc lo (.int v0 :: va_rf r :: st) M (vC (7, 20) M r (cV (rec 94 ([va_rf r, .int v0]) M) f)) := x_callV_V hs xq94 xm94 xci7 rfl (by rw [hm]; exact lmX6_277) mi94 mse94 rfl rfl h8 hd k
theorem xm91 : XMi (yX6_valueStatement, cX6_valueStatement, 3, none) 2 := ⟨xbt4 232 rfl (by decide +kernel), xbt1 2 (by decide +kernel) (by decide +kernel), by decide +kernel, by decide +kernel, by decide, by decide +kernel⟩
theorem xq91 : xmt 91 = (yX6_valueStatement, cX6_valueStatement, 3, none) := rfl
theorem lmX6_280 : Cond.methodLink RX6 280 yX6_valueStatement ∈ xbig := xbt4 229 (by decide +kernel) (by decide +kernel)
theorem mi91 : Cond.instanceMethod yX6_valueStatement ∈ xbig := xbt4 231 (by decide +kernel) (by decide +kernel)
theorem mse91 : Cond.selects RX6 yX6_valueStatement yX6_valueStatement ∈ xbig := xb_mem 48 (by decide +kernel) (by decide +kernel)
theorem cmX6_280 {r : Option Nat} {v0 : Int32} {v1 : Int32} {f : Mem → XA} (hm : mt.1.cls = RX6) (hs : XSnd l xmt rec d) (h8 : st.length ≤ 4) (hd : decode mt.2.1 pc = .ok (.invokevirtual 280, 3)) (k : ∀ M1, Xe S G K l mt d (pc + 3) lo st M1 (f M1)) : Xe S G K l mt d pc lo (.int v1 :: .int v0 :: va_rf r :: st) M (vC (7, 20) M r (cV (rec 91 ([va_rf r, .int v0, .int v1]) M) f)) := x_callV_V hs xq91 xm91 xci7 rfl (by rw [hm]; exact lmX6_280) mi91 mse91 rfl rfl h8 hd k
theorem xm95 : XMi (yX6_tryStatement, cX6_tryStatement, 8, none) 1 := ⟨xbt4 236 rfl (by decide +kernel), xbt1 2 (by decide +kernel) (by decide +kernel), by decide +kernel, by decide +kernel, by decide, by decide +kernel⟩
theorem xq95 : xmt 95 = (yX6_tryStatement, cX6_tryStatement, 8, none) := rfl
theorem lmX6_283 : Cond.methodLink RX6 283 yX6_tryStatement ∈ xbig := xbt4 233 (by decide +kernel) (by decide +kernel)
theorem mi95 : Cond.instanceMethod yX6_tryStatement ∈ xbig := xbt4 235 (by decide +kernel) (by decide +kernel)
theorem mse95 : Cond.selects RX6 yX6_tryStatement yX6_tryStatement ∈ xbig := xb_mem 49 (by decide +kernel) (by decide +kernel)
theorem cmX6_283 {r : Option Nat} {v0 : Int32} {f : Mem → XA} (hm : mt.1.cls = RX6) (hs : XSnd l xmt rec d) (h8 : st.length ≤ 4) (hd : decode mt.2.1 pc = .ok (.invokevirtual 283, 3)) (k : ∀ M1, Xe S G K l mt d (pc + 3) lo st M1 (f M1)) : Xe S G K l mt d pc lo (.int v0 :: va_rf r :: st) M (vC (7, 20) M r (cV (rec 95 ([va_rf r, .int v0]) M) f)) := x_callV_V hs xq95 xm95 xci7 rfl (by rw [hm]; exact lmX6_283) mi95 mse95 rfl rfl h8 hd k
theorem xm99 : XMi (yX6_expression, cX6_expression, 5, none) 2 := ⟨xbt4 177 rfl (by decide +kernel), xbt1 2 (by decide +kernel) (by decide +kernel), by decide +kernel, by decide +kernel, by decide, by decide +kernel⟩
theorem xq99 : xmt 99 = (yX6_expression, cX6_expression, 5, none) := rfl
theorem lmX6_286 : Cond.methodLink RX6 286 yX6_expression ∈ xbig := xbt4 174 (by decide +kernel) (by decide +kernel)
theorem mi99 : Cond.instanceMethod yX6_expression ∈ xbig := xbt4 176 (by decide +kernel) (by decide +kernel)
theorem mse99 : Cond.selects RX6 yX6_expression yX6_expression ∈ xbig := xb_mem 36 (by decide +kernel) (by decide +kernel)
theorem cmX6_286 {r : Option Nat} {v0 : Int32} {v1 : Int32} {f : Mem → XA} (hm : mt.1.cls = RX6) (hs : XSnd l xmt rec d) (h8 : st.length ≤ 4) (hd : decode mt.2.1 pc = .ok (.invokevirtual 286, 3)) (k : ∀ M1, Xe S G K l mt d (pc + 3) lo st M1 (f M1)) : Xe S G K l mt d pc lo (.int v1 :: .int v0 :: va_rf r :: st) M (vC (7, 20) M r (cV (rec 99 ([va_rf r, .int v0, .int v1]) M) f)) := x_callV_V hs xq99 xm99 xci7 rfl (by rw [hm]; exact lmX6_286) mi99 mse99 rfl rfl h8 hd k
theorem xm104 : XMi (yX6_readUse, cX6_readUse, 2, some .int) 0 := ⟨xbt4 193 rfl (by decide +kernel), xbt1 2 (by decide +kernel) (by decide +kernel), by decide +kernel, by decide +kernel, by decide, by decide +kernel⟩
theorem xq104 : xmt 104 = (yX6_readUse, cX6_readUse, 2, some .int) := rfl
theorem lmX6_289 : Cond.methodLink RX6 289 yX6_readUse ∈ xbig := xbt4 190 (by decide +kernel) (by decide +kernel)
theorem mi104 : Cond.instanceMethod yX6_readUse ∈ xbig := xbt4 192 (by decide +kernel) (by decide +kernel)
theorem mse104 : Cond.selects RX6 yX6_readUse yX6_readUse ∈ xbig := xb_mem 40 (by decide +kernel) (by decide +kernel)
theorem cmX6_289 {r : Option Nat} {f : Int32 → Mem → XA} (hm : mt.1.cls = RX6) (hs : XSnd l xmt rec d) (h8 : st.length ≤ 4) (hd : decode mt.2.1 pc = .ok (.invokevirtual 289, 3)) (k : ∀ x M1, Xe S G K l mt d (pc + 3) lo (.int x :: st) M1 (f x M1)) : Xe S G K l mt d pc lo (va_rf r :: st) M (vC (7, 20) M r (cI (rec 104 ([va_rf r]) M) f)) := x_callV_I hs xq104 xm104 xci7 rfl (by rw [hm]; exact lmX6_289) mi104 mse104 rfl rfl h8 hd k
theorem xm97 : XMi (yX6_readCall, cX6_readCall, 6, none) 2 := ⟨xbt4 198 rfl (by decide +kernel), xbt1 2 (by decide +kernel) (by decide +kernel), by decide +kernel, by decide +kernel, by decide, by decide +kernel⟩
theorem xq97 : xmt 97 = (yX6_readCall, cX6_readCall, 6, none) := rfl
theorem lmX6_292 : Cond.methodLink RX6 292 yX6_readCall ∈ xbig := xbt4 195 (by decide +kernel) (by decide +kernel)
theorem mi97 : Cond.instanceMethod yX6_readCall ∈ xbig := xbt4 197 (by decide +kernel) (by decide +kernel)
theorem mse97 : Cond.selects RX6 yX6_readCall yX6_readCall ∈ xbig := xb_mem 41 (by decide +kernel) (by decide +kernel)
theorem cmX6_292 {r : Option Nat} {v0 : Int32} {v1 : Int32} {f : Mem → XA} (hm : mt.1.cls = RX6) (hs : XSnd l xmt rec d) (h8 : st.length ≤ 4) (hd : decode mt.2.1 pc = .ok (.invokevirtual 292, 3)) (k : ∀ M1, Xe S G K l mt d (pc + 3) lo st M1 (f M1)) : Xe S G K l mt d pc lo (.int v1 :: .int v0 :: va_rf r :: st) M (vC (7, 20) M r (cV (rec 97 ([va_rf r, .int v0, .int v1]) M) f)) := x_callV_V hs xq97 xm97 xci7 rfl (by rw [hm]; exact lmX6_292) mi97 mse97 rfl rfl h8 hd k
theorem xm98 : XMi (yX6_readIndex, cX6_readIndex, 2, none) 1 := ⟨xbt4 206 rfl (by decide +kernel), xbt1 2 (by decide +kernel) (by decide +kernel), by decide +kernel, by decide +kernel, by decide, by decide +kernel⟩
theorem xq98 : xmt 98 = (yX6_readIndex, cX6_readIndex, 2, none) := rfl
theorem lmX6_295 : Cond.methodLink RX6 295 yX6_readIndex ∈ xbig := xbt4 203 (by decide +kernel) (by decide +kernel)
theorem mi98 : Cond.instanceMethod yX6_readIndex ∈ xbig := xbt4 205 (by decide +kernel) (by decide +kernel)
theorem mse98 : Cond.selects RX6 yX6_readIndex yX6_readIndex ∈ xbig := xb_mem 43 (by decide +kernel) (by decide +kernel)
theorem cmX6_295 {r : Option Nat} {v0 : Int32} {f : Mem → XA} (hm : mt.1.cls = RX6) (hs : XSnd l xmt rec d) (h8 : st.length ≤ 4) (hd : decode mt.2.1 pc = .ok (.invokevirtual 295, 3)) (k : ∀ M1, Xe S G K l mt d (pc + 3) lo st M1 (f M1)) : Xe S G K l mt d pc lo (.int v0 :: va_rf r :: st) M (vC (7, 20) M r (cV (rec 98 ([va_rf r, .int v0]) M) f)) := x_callV_V hs xq98 xm98 xci7 rfl (by rw [hm]; exact lmX6_295) mi98 mse98 rfl rfl h8 hd k
theorem xm105 : XMi (yX6_settleLater, cX6_settleLater, 4, none) 3 := ⟨xbt4 202 rfl (by decide +kernel), xbt1 2 (by decide +kernel) (by decide +kernel), by decide +kernel, by decide +kernel, by decide, by decide +kernel⟩
theorem xq105 : xmt 105 = (yX6_settleLater, cX6_settleLater, 4, none) := rfl
theorem lmX6_298 : Cond.methodLink RX6 298 yX6_settleLater ∈ xbig := xbt4 199 (by decide +kernel) (by decide +kernel)
theorem mi105 : Cond.instanceMethod yX6_settleLater ∈ xbig := xbt4 201 (by decide +kernel) (by decide +kernel)
theorem mse105 : Cond.selects RX6 yX6_settleLater yX6_settleLater ∈ xbig := xb_mem 42 (by decide +kernel) (by decide +kernel)
theorem cmX6_298 {r : Option Nat} {v0 : Int32} {v1 : Int32} {v2 : Int32} {f : Mem → XA} (hm : mt.1.cls = RX6) (hs : XSnd l xmt rec d) (h8 : st.length ≤ 4) (hd : decode mt.2.1 pc = .ok (.invokevirtual 298, 3)) (k : ∀ M1, Xe S G K l mt d (pc + 3) lo st M1 (f M1)) : Xe S G K l mt d pc lo (.int v2 :: .int v1 :: .int v0 :: va_rf r :: st) M (vC (7, 20) M r (cV (rec 105 ([va_rf r, .int v0, .int v1, .int v2]) M) f)) := x_callV_V hs xq105 xm105 xci7 rfl (by rw [hm]; exact lmX6_298) mi105 mse105 rfl rfl h8 hd k
theorem xm106 : XMi (yX6_emitPlain, cX6_emitPlain, 6, none) 4 := ⟨xbt4 210 rfl (by decide +kernel), xbt1 2 (by decide +kernel) (by decide +kernel), by decide +kernel, by decide +kernel, by decide, by decide +kernel⟩
theorem xq106 : xmt 106 = (yX6_emitPlain, cX6_emitPlain, 6, none) := rfl
theorem lmX6_302 : Cond.methodLink RX6 302 yX6_emitPlain ∈ xbig := xbt4 207 (by decide +kernel) (by decide +kernel)
theorem mi106 : Cond.instanceMethod yX6_emitPlain ∈ xbig := xbt4 209 (by decide +kernel) (by decide +kernel)
theorem mse106 : Cond.selects RX6 yX6_emitPlain yX6_emitPlain ∈ xbig := xb_mem 44 (by decide +kernel) (by decide +kernel)
theorem cmX6_302 {r : Option Nat} {v0 : Int32} {v1 : Int32} {v2 : Int32} {v3 : Int32} {f : Mem → XA} (hm : mt.1.cls = RX6) (hs : XSnd l xmt rec d) (h8 : st.length ≤ 4) (hd : decode mt.2.1 pc = .ok (.invokevirtual 302, 3)) (k : ∀ M1, Xe S G K l mt d (pc + 3) lo st M1 (f M1)) : Xe S G K l mt d pc lo (.int v3 :: .int v2 :: .int v1 :: .int v0 :: va_rf r :: st) M (vC (7, 20) M r (cV (rec 106 ([va_rf r, .int v0, .int v1, .int v2, .int v3]) M) f)) := x_callV_V hs xq106 xm106 xci7 rfl (by rw [hm]; exact lmX6_302) mi106 mse106 rfl rfl h8 hd k
theorem xm100 : XMi (yX6_factor, cX6_factor, 2, none) 1 := ⟨xbt4 181 rfl (by decide +kernel), xbt1 2 (by decide +kernel) (by decide +kernel), by decide +kernel, by decide +kernel, by decide, by decide +kernel⟩
theorem xq100 : xmt 100 = (yX6_factor, cX6_factor, 2, none) := rfl
theorem lmX6_306 : Cond.methodLink RX6 306 yX6_factor ∈ xbig := xbt4 178 (by decide +kernel) (by decide +kernel)
theorem mi100 : Cond.instanceMethod yX6_factor ∈ xbig := xbt4 180 (by decide +kernel) (by decide +kernel)
theorem mse100 : Cond.selects RX6 yX6_factor yX6_factor ∈ xbig := xb_mem 37 (by decide +kernel) (by decide +kernel)
theorem cmX6_306 {r : Option Nat} {v0 : Int32} {f : Mem → XA} (hm : mt.1.cls = RX6) (hs : XSnd l xmt rec d) (h8 : st.length ≤ 4) (hd : decode mt.2.1 pc = .ok (.invokevirtual 306, 3)) (k : ∀ M1, Xe S G K l mt d (pc + 3) lo st M1 (f M1)) : Xe S G K l mt d pc lo (.int v0 :: va_rf r :: st) M (vC (7, 20) M r (cV (rec 100 ([va_rf r, .int v0]) M) f)) := x_callV_V hs xq100 xm100 xci7 rfl (by rw [hm]; exact lmX6_306) mi100 mse100 rfl rfl h8 hd k
theorem xm102 : XMi (yX6_levelOf, cX6_levelOf, 1, some .int) 1 := ⟨xbt4 213 rfl (by decide +kernel), xbt1 2 (by decide +kernel) (by decide +kernel), by decide +kernel, by decide +kernel, by decide, by decide +kernel⟩
theorem xq102 : xmt 102 = (yX6_levelOf, cX6_levelOf, 1, some .int) := rfl
theorem lmX6_309 : Cond.methodLink RX6 309 yX6_levelOf ∈ xbig := xbt4 211 (by decide +kernel) (by decide +kernel)
theorem ms102 : Cond.static yX6_levelOf ∈ xbig := xbt4 212 (by decide +kernel) (by decide +kernel)
theorem cmX6_309 {v0 : Int32} {f : Int32 → Mem → XA} (hm : mt.1.cls = RX6) (hs : XSnd l xmt rec d) (h8 : st.length ≤ 4) (hd : decode mt.2.1 pc = .ok (.invokestatic 309, 3)) (k : ∀ x M1, Xe S G K l mt d (pc + 3) lo (.int x :: st) M1 (f x M1)) : Xe S G K l mt d pc lo (.int v0 :: st) M (cI (rec 102 [.int v0] M) f) := x_callS_I hs xq102 xm102 rfl (by rw [hm]; exact lmX6_309) ms102 rfl rfl h8 hd k
theorem xm103 : XMi (yX6_operationOf, cX6_operationOf, 1, some .int) 1 := ⟨xbt4 216 rfl (by decide +kernel), xbt1 2 (by decide +kernel) (by decide +kernel), by decide +kernel, by decide +kernel, by decide, by decide +kernel⟩
theorem xq103 : xmt 103 = (yX6_operationOf, cX6_operationOf, 1, some .int) := rfl
theorem lmX6_313 : Cond.methodLink RX6 313 yX6_operationOf ∈ xbig := xbt4 214 (by decide +kernel) (by decide +kernel)
theorem ms103 : Cond.static yX6_operationOf ∈ xbig := xbt4 215 (by decide +kernel) (by decide +kernel)
theorem cmX6_313 {v0 : Int32} {f : Int32 → Mem → XA} (hm : mt.1.cls = RX6) (hs : XSnd l xmt rec d) (h8 : st.length ≤ 4) (hd : decode mt.2.1 pc = .ok (.invokestatic 313, 3)) (k : ∀ x M1, Xe S G K l mt d (pc + 3) lo (.int x :: st) M1 (f x M1)) : Xe S G K l mt d pc lo (.int v0 :: st) M (cI (rec 103 [.int v0] M) f) := x_callS_I hs xq103 xm103 rfl (by rw [hm]; exact lmX6_313) ms103 rfl rfl h8 hd k
theorem xm101 : XMi (yX6_nameFactor, cX6_nameFactor, 3, none) 1 := ⟨xbt4 189 rfl (by decide +kernel), xbt1 2 (by decide +kernel) (by decide +kernel), by decide +kernel, by decide +kernel, by decide, by decide +kernel⟩
theorem xq101 : xmt 101 = (yX6_nameFactor, cX6_nameFactor, 3, none) := rfl
theorem lmX6_316 : Cond.methodLink RX6 316 yX6_nameFactor ∈ xbig := xbt4 186 (by decide +kernel) (by decide +kernel)
theorem mi101 : Cond.instanceMethod yX6_nameFactor ∈ xbig := xbt4 188 (by decide +kernel) (by decide +kernel)
theorem mse101 : Cond.selects RX6 yX6_nameFactor yX6_nameFactor ∈ xbig := xb_mem 39 (by decide +kernel) (by decide +kernel)
theorem cmX6_316 {r : Option Nat} {v0 : Int32} {f : Mem → XA} (hm : mt.1.cls = RX6) (hs : XSnd l xmt rec d) (h8 : st.length ≤ 4) (hd : decode mt.2.1 pc = .ok (.invokevirtual 316, 3)) (k : ∀ M1, Xe S G K l mt d (pc + 3) lo st M1 (f M1)) : Xe S G K l mt d pc lo (.int v0 :: va_rf r :: st) M (vC (7, 20) M r (cV (rec 101 ([va_rf r, .int v0]) M) f)) := x_callV_V hs xq101 xm101 xci7 rfl (by rw [hm]; exact lmX6_316) mi101 mse101 rfl rfl h8 hd k
theorem xm108 : XMi (yX6_settle, cX6_settle, 10, none) 1 := ⟨xbt5 8 rfl (by decide +kernel), xbt1 2 (by decide +kernel) (by decide +kernel), by decide +kernel, by decide +kernel, by decide, by decide +kernel⟩
theorem xq108 : xmt 108 = (yX6_settle, cX6_settle, 10, none) := rfl
theorem lmX6_324 : Cond.methodLink RX6 324 yX6_settle ∈ xbig := xbt5 5 (by decide +kernel) (by decide +kernel)
theorem mi108 : Cond.instanceMethod yX6_settle ∈ xbig := xbt5 7 (by decide +kernel) (by decide +kernel)
theorem mse108 : Cond.selects RX6 yX6_settle yX6_settle ∈ xbig := xb_mem 52 (by decide +kernel) (by decide +kernel)
theorem cmX6_324 {r : Option Nat} {v0 : Int32} {f : Mem → XA} (hm : mt.1.cls = RX6) (hs : XSnd l xmt rec d) (h8 : st.length ≤ 4) (hd : decode mt.2.1 pc = .ok (.invokevirtual 324, 3)) (k : ∀ M1, Xe S G K l mt d (pc + 3) lo st M1 (f M1)) : Xe S G K l mt d pc lo (.int v0 :: va_rf r :: st) M (vC (7, 20) M r (cV (rec 108 ([va_rf r, .int v0]) M) f)) := x_callV_V hs xq108 xm108 xci7 rfl (by rw [hm]; exact lmX6_324) mi108 mse108 rfl rfl h8 hd k
theorem xm71 : XMi (yX6_memberNamed, cX6_memberNamed, 5, some .int) 2 := ⟨xbt5 12 rfl (by decide +kernel), xbt1 2 (by decide +kernel) (by decide +kernel), by decide +kernel, by decide +kernel, by decide, by decide +kernel⟩
theorem xq71 : xmt 71 = (yX6_memberNamed, cX6_memberNamed, 5, some .int) := rfl
theorem lmX6_327 : Cond.methodLink RX6 327 yX6_memberNamed ∈ xbig := xbt5 9 (by decide +kernel) (by decide +kernel)
theorem mi71 : Cond.instanceMethod yX6_memberNamed ∈ xbig := xbt5 11 (by decide +kernel) (by decide +kernel)
theorem mse71 : Cond.selects RX6 yX6_memberNamed yX6_memberNamed ∈ xbig := xb_mem 53 (by decide +kernel) (by decide +kernel)
theorem cmX6_327 {r : Option Nat} {v0 : Int32} {v1 : Int64} {f : Int32 → Mem → XA} (hm : mt.1.cls = RX6) (hs : XSnd l xmt rec d) (h8 : st.length ≤ 4) (hd : decode mt.2.1 pc = .ok (.invokevirtual 327, 3)) (k : ∀ x M1, Xe S G K l mt d (pc + 3) lo (.int x :: st) M1 (f x M1)) : Xe S G K l mt d pc lo (.long v1 :: .int v0 :: va_rf r :: st) M (vC (7, 20) M r (cI (rec 71 ([va_rf r, .int v0, .long v1]) M) f)) := x_callV_I hs xq71 xm71 xci7 rfl (by rw [hm]; exact lmX6_327) mi71 mse71 rfl rfl h8 hd k
theorem xm109 : XMi (yX6_suits, cX6_suits, 3, some .boolean) 2 := ⟨xbt5 16 rfl (by decide +kernel), xbt1 2 (by decide +kernel) (by decide +kernel), by decide +kernel, by decide +kernel, by decide, by decide +kernel⟩
theorem xq109 : xmt 109 = (yX6_suits, cX6_suits, 3, some .boolean) := rfl
theorem lmX6_331 : Cond.methodLink RX6 331 yX6_suits ∈ xbig := xbt5 13 (by decide +kernel) (by decide +kernel)
theorem mi109 : Cond.instanceMethod yX6_suits ∈ xbig := xbt5 15 (by decide +kernel) (by decide +kernel)
theorem mse109 : Cond.selects RX6 yX6_suits yX6_suits ∈ xbig := xb_mem 54 (by decide +kernel) (by decide +kernel)
theorem cmX6_331 {r : Option Nat} {v0 : Option Nat} {v1 : Int32} {f : Int32 → Mem → XA} (hm : mt.1.cls = RX6) (hs : XSnd l xmt rec d) (h8 : st.length ≤ 4) (hd : decode mt.2.1 pc = .ok (.invokevirtual 331, 3)) (k : ∀ x M1, Xe S G K l mt d (pc + 3) lo (.int x :: st) M1 (f x M1)) : Xe S G K l mt d pc lo (.int v1 :: va_rf v0 :: va_rf r :: st) M (vC (7, 20) M r (cI (rec 109 ([va_rf r, va_rf v0, .int v1]) M) f)) := x_callV_I hs xq109 xm109 xci7 rfl (by rw [hm]; exact lmX6_331) mi109 mse109 rfl rfl h8 hd k
theorem xm320 : XMi (yJ0_length_8abf5, cJ0_length_8abf5, 1, some .int) 0 := ⟨xbt1 53 rfl (by decide +kernel), xbt1 4 (by decide +kernel) (by decide +kernel), by decide +kernel, by decide +kernel, by decide, by decide +kernel⟩
theorem xq320 : xmt 320 = (yJ0_length_8abf5, cJ0_length_8abf5, 1, some .int) := rfl
theorem lmX8_31 : Cond.methodLink RX8 31 yJ0_length_8abf5 ∈ xbig := xbt1 50 (by decide +kernel) (by decide +kernel)
theorem mi320 : Cond.instanceMethod yJ0_length_8abf5 ∈ xbig := xbt1 51 (by decide +kernel) (by decide +kernel)
theorem mse320 : Cond.selects RJ0 yJ0_length_8abf5 yJ0_length_8abf5 ∈ xbig := xbt1 52 (by decide +kernel) (by decide +kernel)
theorem cmX8_31 {r : Option Nat} {f : Int32 → Mem → XA} (hm : mt.1.cls = RX8) (hs : XSnd l xmt rec d) (h8 : st.length ≤ 4) (hd : decode mt.2.1 pc = .ok (.invokevirtual 31, 3)) (k : ∀ x M1, Xe S G K l mt d (pc + 3) lo (.int x :: st) M1 (f x M1)) : Xe S G K l mt d pc lo (va_rf r :: st) M (vS r (cI (rec 320 ([va_rf r]) M) f)) := x_callVs_I hs xq320 xm320 rfl rfl (by rw [hm]; exact lmX8_31) mi320 mse320 rfl rfl h8 hd k
theorem xm321 : XMi (yJ0_charAt_5068e, cJ0_charAt_5068e, 2, some .char) 1 := ⟨xbt1 63 rfl (by decide +kernel), xbt1 4 (by decide +kernel) (by decide +kernel), by decide +kernel, by decide +kernel, by decide, by decide +kernel⟩
theorem xq321 : xmt 321 = (yJ0_charAt_5068e, cJ0_charAt_5068e, 2, some .char) := rfl
theorem lmX8_37 : Cond.methodLink RX8 37 yJ0_charAt_5068e ∈ xbig := xbt1 60 (by decide +kernel) (by decide +kernel)
theorem mi321 : Cond.instanceMethod yJ0_charAt_5068e ∈ xbig := xbt1 61 (by decide +kernel) (by decide +kernel)
theorem mse321 : Cond.selects RJ0 yJ0_charAt_5068e yJ0_charAt_5068e ∈ xbig := xbt1 62 (by decide +kernel) (by decide +kernel)
theorem cmX8_37 {r : Option Nat} {v0 : Int32} {f : Int32 → Mem → XA} (hm : mt.1.cls = RX8) (hs : XSnd l xmt rec d) (h8 : st.length ≤ 4) (hd : decode mt.2.1 pc = .ok (.invokevirtual 37, 3)) (k : ∀ x M1, Xe S G K l mt d (pc + 3) lo (.int x :: st) M1 (f x M1)) : Xe S G K l mt d pc lo (.int v0 :: va_rf r :: st) M (vS r (cI (rec 321 ([va_rf r, .int v0]) M) f)) := x_callVs_I hs xq321 xm321 rfl rfl (by rw [hm]; exact lmX8_37) mi321 mse321 rfl rfl h8 hd k
theorem xm114 : XMi (yX8_skipBlanks, cX8_skipBlanks, 1, none) 0 := ⟨xbt3 35 rfl (by decide +kernel), xbt1 3 (by decide +kernel) (by decide +kernel), by decide +kernel, by decide +kernel, by decide, by decide +kernel⟩
theorem xq114 : xmt 114 = (yX8_skipBlanks, cX8_skipBlanks, 1, none) := rfl
theorem lmX8_50 : Cond.methodLink RX8 50 yX8_skipBlanks ∈ xbig := xbt3 32 (by decide +kernel) (by decide +kernel)
theorem mi114 : Cond.instanceMethod yX8_skipBlanks ∈ xbig := xbt3 34 (by decide +kernel) (by decide +kernel)
theorem mse114 : Cond.selects RX8 yX8_skipBlanks yX8_skipBlanks ∈ xbig := xb_mem 0 (by decide +kernel) (by decide +kernel)
theorem cmX8_50 {r : Option Nat} {f : Mem → XA} (hm : mt.1.cls = RX8) (hs : XSnd l xmt rec d) (h8 : st.length ≤ 4) (hd : decode mt.2.1 pc = .ok (.invokevirtual 50, 3)) (k : ∀ M1, Xe S G K l mt d (pc + 3) lo st M1 (f M1)) : Xe S G K l mt d pc lo (va_rf r :: st) M (vC (9, 8) M r (cV (rec 114 ([va_rf r]) M) f)) := x_callV_V hs xq114 xm114 xci9 rfl (by rw [hm]; exact lmX8_50) mi114 mse114 rfl rfl h8 hd k
theorem xm115 : XMi (yX8_isLetter, cX8_isLetter, 2, some .boolean) 1 := ⟨xbt3 39 rfl (by decide +kernel), xbt1 3 (by decide +kernel) (by decide +kernel), by decide +kernel, by decide +kernel, by decide, by decide +kernel⟩
theorem xq115 : xmt 115 = (yX8_isLetter, cX8_isLetter, 2, some .boolean) := rfl
theorem lmX8_53 : Cond.methodLink RX8 53 yX8_isLetter ∈ xbig := xbt3 36 (by decide +kernel) (by decide +kernel)
theorem mi115 : Cond.instanceMethod yX8_isLetter ∈ xbig := xbt3 38 (by decide +kernel) (by decide +kernel)
theorem mse115 : Cond.selects RX8 yX8_isLetter yX8_isLetter ∈ xbig := xb_mem 1 (by decide +kernel) (by decide +kernel)
theorem cmX8_53 {r : Option Nat} {v0 : Int32} {f : Int32 → Mem → XA} (hm : mt.1.cls = RX8) (hs : XSnd l xmt rec d) (h8 : st.length ≤ 4) (hd : decode mt.2.1 pc = .ok (.invokevirtual 53, 3)) (k : ∀ x M1, Xe S G K l mt d (pc + 3) lo (.int x :: st) M1 (f x M1)) : Xe S G K l mt d pc lo (.int v0 :: va_rf r :: st) M (vC (9, 8) M r (cI (rec 115 ([va_rf r, .int v0]) M) f)) := x_callV_I hs xq115 xm115 xci9 rfl (by rw [hm]; exact lmX8_53) mi115 mse115 rfl rfl h8 hd k
theorem xm117 : XMi (yX8_wordHere, cX8_wordHere, 5, some .int) 0 := ⟨xbt3 43 rfl (by decide +kernel), xbt1 3 (by decide +kernel) (by decide +kernel), by decide +kernel, by decide +kernel, by decide, by decide +kernel⟩
theorem xq117 : xmt 117 = (yX8_wordHere, cX8_wordHere, 5, some .int) := rfl
theorem lmX8_57 : Cond.methodLink RX8 57 yX8_wordHere ∈ xbig := xbt3 40 (by decide +kernel) (by decide +kernel)
theorem mi117 : Cond.instanceMethod yX8_wordHere ∈ xbig := xbt3 42 (by decide +kernel) (by decide +kernel)
theorem mse117 : Cond.selects RX8 yX8_wordHere yX8_wordHere ∈ xbig := xb_mem 2 (by decide +kernel) (by decide +kernel)
theorem cmX8_57 {r : Option Nat} {f : Int32 → Mem → XA} (hm : mt.1.cls = RX8) (hs : XSnd l xmt rec d) (h8 : st.length ≤ 4) (hd : decode mt.2.1 pc = .ok (.invokevirtual 57, 3)) (k : ∀ x M1, Xe S G K l mt d (pc + 3) lo (.int x :: st) M1 (f x M1)) : Xe S G K l mt d pc lo (va_rf r :: st) M (vC (9, 8) M r (cI (rec 117 ([va_rf r]) M) f)) := x_callV_I hs xq117 xm117 xci9 rfl (by rw [hm]; exact lmX8_57) mi117 mse117 rfl rfl h8 hd k
theorem xm116 : XMi (yX8_isDigit, cX8_isDigit, 2, some .boolean) 1 := ⟨xbt3 47 rfl (by decide +kernel), xbt1 3 (by decide +kernel) (by decide +kernel), by decide +kernel, by decide +kernel, by decide, by decide +kernel⟩
theorem xq116 : xmt 116 = (yX8_isDigit, cX8_isDigit, 2, some .boolean) := rfl
theorem lmX8_60 : Cond.methodLink RX8 60 yX8_isDigit ∈ xbig := xbt3 44 (by decide +kernel) (by decide +kernel)
theorem mi116 : Cond.instanceMethod yX8_isDigit ∈ xbig := xbt3 46 (by decide +kernel) (by decide +kernel)
theorem mse116 : Cond.selects RX8 yX8_isDigit yX8_isDigit ∈ xbig := xb_mem 3 (by decide +kernel) (by decide +kernel)
theorem cmX8_60 {r : Option Nat} {v0 : Int32} {f : Int32 → Mem → XA} (hm : mt.1.cls = RX8) (hs : XSnd l xmt rec d) (h8 : st.length ≤ 4) (hd : decode mt.2.1 pc = .ok (.invokevirtual 60, 3)) (k : ∀ x M1, Xe S G K l mt d (pc + 3) lo (.int x :: st) M1 (f x M1)) : Xe S G K l mt d pc lo (.int v0 :: va_rf r :: st) M (vC (9, 8) M r (cI (rec 116 ([va_rf r, .int v0]) M) f)) := x_callV_I hs xq116 xm116 xci9 rfl (by rw [hm]; exact lmX8_60) mi116 mse116 rfl rfl h8 hd k
theorem xm118 : XMi (yX8_numberHere, cX8_numberHere, 4, some .int) 0 := ⟨xbt3 51 rfl (by decide +kernel), xbt1 3 (by decide +kernel) (by decide +kernel), by decide +kernel, by decide +kernel, by decide, by decide +kernel⟩
theorem xq118 : xmt 118 = (yX8_numberHere, cX8_numberHere, 4, some .int) := rfl
theorem lmX8_63 : Cond.methodLink RX8 63 yX8_numberHere ∈ xbig := xbt3 48 (by decide +kernel) (by decide +kernel)
theorem mi118 : Cond.instanceMethod yX8_numberHere ∈ xbig := xbt3 50 (by decide +kernel) (by decide +kernel)
theorem mse118 : Cond.selects RX8 yX8_numberHere yX8_numberHere ∈ xbig := xb_mem 4 (by decide +kernel) (by decide +kernel)
theorem cmX8_63 {r : Option Nat} {f : Int32 → Mem → XA} (hm : mt.1.cls = RX8) (hs : XSnd l xmt rec d) (h8 : st.length ≤ 4) (hd : decode mt.2.1 pc = .ok (.invokevirtual 63, 3)) (k : ∀ x M1, Xe S G K l mt d (pc + 3) lo (.int x :: st) M1 (f x M1)) : Xe S G K l mt d pc lo (va_rf r :: st) M (vC (9, 8) M r (cI (rec 118 ([va_rf r]) M) f)) := x_callV_I hs xq118 xm118 xci9 rfl (by rw [hm]; exact lmX8_63) mi118 mse118 rfl rfl h8 hd k
theorem xm119 : XMi (yX8_signHere, cX8_signHere, 3, some .int) 0 := ⟨xbt3 56 rfl (by decide +kernel), xbt1 3 (by decide +kernel) (by decide +kernel), by decide +kernel, by decide +kernel, by decide, by decide +kernel⟩
theorem xq119 : xmt 119 = (yX8_signHere, cX8_signHere, 3, some .int) := rfl
theorem lmX8_66 : Cond.methodLink RX8 66 yX8_signHere ∈ xbig := xbt3 53 (by decide +kernel) (by decide +kernel)
theorem mi119 : Cond.instanceMethod yX8_signHere ∈ xbig := xbt3 55 (by decide +kernel) (by decide +kernel)
theorem mse119 : Cond.selects RX8 yX8_signHere yX8_signHere ∈ xbig := xb_mem 5 (by decide +kernel) (by decide +kernel)
theorem cmX8_66 {r : Option Nat} {f : Int32 → Mem → XA} (hm : mt.1.cls = RX8) (hs : XSnd l xmt rec d) (h8 : st.length ≤ 4) (hd : decode mt.2.1 pc = .ok (.invokevirtual 66, 3)) (k : ∀ x M1, Xe S G K l mt d (pc + 3) lo (.int x :: st) M1 (f x M1)) : Xe S G K l mt d pc lo (va_rf r :: st) M (vC (9, 8) M r (cI (rec 119 ([va_rf r]) M) f)) := x_callV_I hs xq119 xm119 xci9 rfl (by rw [hm]; exact lmX8_66) mi119 mse119 rfl rfl h8 hd k
theorem xm322 : XMi (yJ0_indexOf_0f7a4, cJ0_indexOf_0f7a4, 2, some .int) 1 := ⟨xbt3 61 rfl (by decide +kernel), xbt1 4 (by decide +kernel) (by decide +kernel), by decide +kernel, by decide +kernel, by decide, by decide +kernel⟩
theorem xq322 : xmt 322 = (yJ0_indexOf_0f7a4, cJ0_indexOf_0f7a4, 2, some .int) := rfl
theorem lmX8_73 : Cond.methodLink RX8 73 yJ0_indexOf_0f7a4 ∈ xbig := xbt3 58 (by decide +kernel) (by decide +kernel)
theorem mi322 : Cond.instanceMethod yJ0_indexOf_0f7a4 ∈ xbig := xbt3 59 (by decide +kernel) (by decide +kernel)
theorem mse322 : Cond.selects RJ0 yJ0_indexOf_0f7a4 yJ0_indexOf_0f7a4 ∈ xbig := xbt3 60 (by decide +kernel) (by decide +kernel)
theorem cmX8_73 {r : Option Nat} {v0 : Int32} {f : Int32 → Mem → XA} (hm : mt.1.cls = RX8) (hs : XSnd l xmt rec d) (h8 : st.length ≤ 4) (hd : decode mt.2.1 pc = .ok (.invokevirtual 73, 3)) (k : ∀ x M1, Xe S G K l mt d (pc + 3) lo (.int x :: st) M1 (f x M1)) : Xe S G K l mt d pc lo (.int v0 :: va_rf r :: st) M (vS r (cI (rec 322 ([va_rf r, .int v0]) M) f)) := x_callVs_I hs xq322 xm322 rfl rfl (by rw [hm]; exact lmX8_73) mi322 mse322 rfl rfl h8 hd k
theorem xm127 : XMi (yX11_init, cX11_init, 1, none) 0 := ⟨xbt1 33 rfl (by decide +kernel), xbt1 1 (by decide +kernel) (by decide +kernel), by decide +kernel, by decide +kernel, by decide, by decide +kernel⟩
theorem xq127 : xmt 127 = (yX11_init, cX11_init, 1, none) := rfl
theorem lmL_9 : Cond.methodLink RL 9 yX11_init ∈ xbig := xbt1 31 (by decide +kernel) (by decide +kernel)
theorem mi127 : Cond.instanceMethod yX11_init ∈ xbig := xbt1 32 (by decide +kernel) (by decide +kernel)
theorem cmL_9 {r : Option Nat} {f : Mem → XA} (hm : mt.1.cls = RL) (hs : XSnd l xmt rec d) (h8 : st.length ≤ 4) (hd : decode mt.2.1 pc = .ok (.invokespecial 9, 3)) (k : ∀ M1, Xe S G K l mt d (pc + 3) lo st M1 (f M1)) : Xe S G K l mt d pc lo (va_rf r :: st) M (vC (12, 19) M r (cV (rec 127 ([va_rf r]) M) f)) := x_callI_V hs xq127 xm127 rfl rfl (by rw [hm]; exact lmL_9) mi127 rfl rfl h8 hd k
theorem xm183 : XMi (yX12_init, cX12_init, 1, none) 0 := ⟨xbt7 191 rfl (by decide +kernel), xbt1 15 (by decide +kernel) (by decide +kernel), by decide +kernel, by decide +kernel, by decide, by decide +kernel⟩
theorem xq183 : xmt 183 = (yX12_init, cX12_init, 1, none) := rfl
theorem lmL_12 : Cond.methodLink RL 12 yX12_init ∈ xbig := xbt7 189 (by decide +kernel) (by decide +kernel)
theorem mi183 : Cond.instanceMethod yX12_init ∈ xbig := xbt7 190 (by decide +kernel) (by decide +kernel)
theorem cmL_12 {r : Option Nat} {f : Mem → XA} (hm : mt.1.cls = RL) (hs : XSnd l xmt rec d) (h8 : st.length ≤ 4) (hd : decode mt.2.1 pc = .ok (.invokespecial 12, 3)) (k : ∀ M1, Xe S G K l mt d (pc + 3) lo st M1 (f M1)) : Xe S G K l mt d pc lo (va_rf r :: st) M (vC (13, 157) M r (cV (rec 183 ([va_rf r]) M) f)) := x_callI_V hs xq183 xm183 rfl rfl (by rw [hm]; exact lmL_12) mi183 rfl rfl h8 hd k
theorem xm128 : XMi (yX11_feed, cX11_feed, 7, some .int) 5 := ⟨xbt3 5 rfl (by decide +kernel), xbt1 1 (by decide +kernel) (by decide +kernel), by decide +kernel, by decide +kernel, by decide, by decide +kernel⟩
theorem xq128 : xmt 128 = (yX11_feed, cX11_feed, 7, some .int) := rfl
theorem lmL_13 : Cond.methodLink RL 13 yX11_feed ∈ xbig := xbt3 2 (by decide +kernel) (by decide +kernel)
theorem mi128 : Cond.instanceMethod yX11_feed ∈ xbig := xbt3 3 (by decide +kernel) (by decide +kernel)
theorem mse128 : Cond.selects RX11 yX11_feed yX11_feed ∈ xbig := xbt3 4 (by decide +kernel) (by decide +kernel)
theorem cmL_13 {r : Option Nat} {v0 : Int32} {v1 : Int32} {v2 : Int32} {v3 : Int32} {v4 : Int32} {f : Int32 → Mem → XA} (hm : mt.1.cls = RL) (hs : XSnd l xmt rec d) (h8 : st.length ≤ 4) (hd : decode mt.2.1 pc = .ok (.invokevirtual 13, 3)) (k : ∀ x M1, Xe S G K l mt d (pc + 3) lo (.int x :: st) M1 (f x M1)) : Xe S G K l mt d pc lo (.int v4 :: .int v3 :: .int v2 :: .int v1 :: .int v0 :: va_rf r :: st) M (vC (12, 19) M r (cI (rec 128 ([va_rf r, .int v0, .int v1, .int v2, .int v3, .int v4]) M) f)) := x_callV_I hs xq128 xm128 xci12 rfl (by rw [hm]; exact lmL_13) mi128 mse128 rfl rfl h8 hd k
theorem xm185 : XMi (yX12_feed, cX12_feed, 8, some .int) 5 := ⟨xbt9 222 rfl (by decide +kernel), xbt1 15 (by decide +kernel) (by decide +kernel), by decide +kernel, by decide +kernel, by decide, by decide +kernel⟩
theorem xq185 : xmt 185 = (yX12_feed, cX12_feed, 8, some .int) := rfl
theorem lmL_17 : Cond.methodLink RL 17 yX12_feed ∈ xbig := xbt9 219 (by decide +kernel) (by decide +kernel)
theorem mi185 : Cond.instanceMethod yX12_feed ∈ xbig := xbt9 220 (by decide +kernel) (by decide +kernel)
theorem mse185 : Cond.selects RX12 yX12_feed yX12_feed ∈ xbig := xbt9 221 (by decide +kernel) (by decide +kernel)
theorem cmL_17 {r : Option Nat} {v0 : Int32} {v1 : Int32} {v2 : Int32} {v3 : Int32} {v4 : Int32} {f : Int32 → Mem → XA} (hm : mt.1.cls = RL) (hs : XSnd l xmt rec d) (h8 : st.length ≤ 4) (hd : decode mt.2.1 pc = .ok (.invokevirtual 17, 3)) (k : ∀ x M1, Xe S G K l mt d (pc + 3) lo (.int x :: st) M1 (f x M1)) : Xe S G K l mt d pc lo (.int v4 :: .int v3 :: .int v2 :: .int v1 :: .int v0 :: va_rf r :: st) M (vC (13, 157) M r (cI (rec 185 ([va_rf r, .int v0, .int v1, .int v2, .int v3, .int v4]) M) f)) := x_callV_I hs xq185 xm185 xci13 rfl (by rw [hm]; exact lmL_17) mi185 mse185 rfl rfl h8 hd k
theorem xm129 : XMi (yX11_cut, cX11_cut, 3, some .int) 1 := ⟨xbt3 13 rfl (by decide +kernel), xbt1 1 (by decide +kernel) (by decide +kernel), by decide +kernel, by decide +kernel, by decide, by decide +kernel⟩
theorem xq129 : xmt 129 = (yX11_cut, cX11_cut, 3, some .int) := rfl
theorem lmL_18 : Cond.methodLink RL 18 yX11_cut ∈ xbig := xbt3 10 (by decide +kernel) (by decide +kernel)
theorem mi129 : Cond.instanceMethod yX11_cut ∈ xbig := xbt3 11 (by decide +kernel) (by decide +kernel)
theorem mse129 : Cond.selects RX11 yX11_cut yX11_cut ∈ xbig := xbt3 12 (by decide +kernel) (by decide +kernel)
theorem cmL_18 {r : Option Nat} {v0 : Int32} {f : Int32 → Mem → XA} (hm : mt.1.cls = RL) (hs : XSnd l xmt rec d) (h8 : st.length ≤ 4) (hd : decode mt.2.1 pc = .ok (.invokevirtual 18, 3)) (k : ∀ x M1, Xe S G K l mt d (pc + 3) lo (.int x :: st) M1 (f x M1)) : Xe S G K l mt d pc lo (.int v0 :: va_rf r :: st) M (vC (12, 19) M r (cI (rec 129 ([va_rf r, .int v0]) M) f)) := x_callV_I hs xq129 xm129 xci12 rfl (by rw [hm]; exact lmL_18) mi129 mse129 rfl rfl h8 hd k
theorem xm186 : XMi (yX12_cut, cX12_cut, 2, some .int) 1 := ⟨xbt9 226 rfl (by decide +kernel), xbt1 15 (by decide +kernel) (by decide +kernel), by decide +kernel, by decide +kernel, by decide, by decide +kernel⟩
theorem xq186 : xmt 186 = (yX12_cut, cX12_cut, 2, some .int) := rfl
theorem lmL_22 : Cond.methodLink RL 22 yX12_cut ∈ xbig := xbt9 223 (by decide +kernel) (by decide +kernel)
theorem mi186 : Cond.instanceMethod yX12_cut ∈ xbig := xbt9 224 (by decide +kernel) (by decide +kernel)
theorem mse186 : Cond.selects RX12 yX12_cut yX12_cut ∈ xbig := xbt9 225 (by decide +kernel) (by decide +kernel)
theorem cmL_22 {r : Option Nat} {v0 : Int32} {f : Int32 → Mem → XA} (hm : mt.1.cls = RL) (hs : XSnd l xmt rec d) (h8 : st.length ≤ 4) (hd : decode mt.2.1 pc = .ok (.invokevirtual 22, 3)) (k : ∀ x M1, Xe S G K l mt d (pc + 3) lo (.int x :: st) M1 (f x M1)) : Xe S G K l mt d pc lo (.int v0 :: va_rf r :: st) M (vC (13, 157) M r (cI (rec 186 ([va_rf r, .int v0]) M) f)) := x_callV_I hs xq186 xm186 xci13 rfl (by rw [hm]; exact lmL_22) mi186 mse186 rfl rfl h8 hd k
theorem xm130 : XMi (yX11_parcel, cX11_parcel, 2, some .int) 0 := ⟨xbt3 17 rfl (by decide +kernel), xbt1 1 (by decide +kernel) (by decide +kernel), by decide +kernel, by decide +kernel, by decide, by decide +kernel⟩
theorem xq130 : xmt 130 = (yX11_parcel, cX11_parcel, 2, some .int) := rfl
theorem lmL_23 : Cond.methodLink RL 23 yX11_parcel ∈ xbig := xbt3 14 (by decide +kernel) (by decide +kernel)
theorem mi130 : Cond.instanceMethod yX11_parcel ∈ xbig := xbt3 15 (by decide +kernel) (by decide +kernel)
theorem mse130 : Cond.selects RX11 yX11_parcel yX11_parcel ∈ xbig := xbt3 16 (by decide +kernel) (by decide +kernel)
theorem cmL_23 {r : Option Nat} {f : Int32 → Mem → XA} (hm : mt.1.cls = RL) (hs : XSnd l xmt rec d) (h8 : st.length ≤ 4) (hd : decode mt.2.1 pc = .ok (.invokevirtual 23, 3)) (k : ∀ x M1, Xe S G K l mt d (pc + 3) lo (.int x :: st) M1 (f x M1)) : Xe S G K l mt d pc lo (va_rf r :: st) M (vC (12, 19) M r (cI (rec 130 ([va_rf r]) M) f)) := x_callV_I hs xq130 xm130 xci12 rfl (by rw [hm]; exact lmL_23) mi130 mse130 rfl rfl h8 hd k
theorem xm231 : XMi (yX12_parcel, cX12_parcel, 3, some .int) 0 := ⟨xbt9 233 rfl (by decide +kernel), xbt1 15 (by decide +kernel) (by decide +kernel), by decide +kernel, by decide +kernel, by decide, by decide +kernel⟩
theorem xq231 : xmt 231 = (yX12_parcel, cX12_parcel, 3, some .int) := rfl
theorem lmL_27 : Cond.methodLink RL 27 yX12_parcel ∈ xbig := xbt9 230 (by decide +kernel) (by decide +kernel)
theorem mi231 : Cond.instanceMethod yX12_parcel ∈ xbig := xbt9 231 (by decide +kernel) (by decide +kernel)
theorem mse231 : Cond.selects RX12 yX12_parcel yX12_parcel ∈ xbig := xbt9 232 (by decide +kernel) (by decide +kernel)
theorem cmL_27 {r : Option Nat} {f : Int32 → Mem → XA} (hm : mt.1.cls = RL) (hs : XSnd l xmt rec d) (h8 : st.length ≤ 4) (hd : decode mt.2.1 pc = .ok (.invokevirtual 27, 3)) (k : ∀ x M1, Xe S G K l mt d (pc + 3) lo (.int x :: st) M1 (f x M1)) : Xe S G K l mt d pc lo (va_rf r :: st) M (vC (13, 157) M r (cI (rec 231 ([va_rf r]) M) f)) := x_callV_I hs xq231 xm231 xci13 rfl (by rw [hm]; exact lmL_27) mi231 mse231 rfl rfl h8 hd k
theorem xm131 : XMi (yX11_fault, cX11_fault, 1, some .int) 0 := ⟨xbt5 127 rfl (by decide +kernel), xbt1 1 (by decide +kernel) (by decide +kernel), by decide +kernel, by decide +kernel, by decide, by decide +kernel⟩
theorem xq131 : xmt 131 = (yX11_fault, cX11_fault, 1, some .int) := rfl
end XR11
