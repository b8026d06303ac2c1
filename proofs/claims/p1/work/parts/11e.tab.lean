theorem ls_sio : Cond.fieldLink RJ0 1053 "jdk/internal/util/Preconditions" "SIOOBE_FORMATTER" "Ljava/util/function/BiFunction;" ∈ xbig := xbt1 74 (by decide +kernel) (by decide +kernel)
theorem lm_pci : Cond.methodLink RJ0 1059 yJ3_checkIndex_8e157 ∈ xbig := xbt1 76 (by decide +kernel) (by decide +kernel)
theorem ms_pci : Cond.static yJ3_checkIndex_8e157 ∈ xbig := xbt1 77 (by decide +kernel) (by decide +kernel)
theorem met_pci {l : Launch} {i n : Int32} {w : Value} (hw : w.category = 1) (hi : ¬ i < 0) (hn : i < n) (H0 : Heap) : Met l yJ3_checkIndex_8e157 (xws (yJ3_checkIndex_8e157, cJ3_checkIndex_8e157, 3, some .int)) { frames := 0, cells := 0, slots := 0, locals := 0 } (va_Pc [.int i, .int n, w] (fun U => U.heap = H0)) (fun _ _ o t => o = .returned (some (.int i)) ∧ t.heap = H0) 0 0 (fun _ => False) := by
  refine Met.ofW (cc := cJ3_checkIndex_8e157) (maxL := 3) (ret := some .int) (xm360).2.2.2.2.2 rfl ?_
  intro p e s m args below meth c1 s₁ B hml hv
  obtain ⟨rfl, hH⟩ := hv
  have c0 : (Value.int i).category = 1 := rfl
  have c2 : (Value.int n).category = 1 := rfl
  have hle := lv_entry [.int i, .int n, w] (n := 3) (by simp [lg_sl, hw, c0, c2])
  rw [lg_entry_eq]
  generalize ((lg_sl [Value.int i, Value.int n, w] ++ List.replicate (3 - (lg_sl [Value.int i, Value.int n, w]).length) Slot.unset).toArray) = ls at hle ⊢
  have g0 : ls[0]? = some (.val (.int i)) := hle.2.2 (0, .int i) (by simp [lv_args])
  have g1 : ls[1]? = some (.val (.int n)) := hle.2.2 (1, .int n) (by simp [lv_args, c0])
  refine lv_iload_n B.exec B.bytes dJ3_checkIndex_8e157_0 rfl g0 ?_
  refine lv_if_lt (tgt := 9) B.exec B.bytes dJ3_checkIndex_8e157_1 (by decide) (fun q => absurd q hi) (fun _ => ?_)
  refine lv_iload_n B.exec B.bytes dJ3_checkIndex_8e157_4 rfl g0 ?_
  refine lv_iload_n B.exec B.bytes dJ3_checkIndex_8e157_5 rfl g1 ?_
  refine lv_icmp_lt (tgt := 16) B.exec B.bytes dJ3_checkIndex_8e157_6 (by decide) (fun _ => ?_) (fun q => absurd hn q)
  refine lv_iload_n B.exec B.bytes dJ3_checkIndex_8e157_16 rfl g0 ?_
  exact W.iret B.exec B.bytes B.returns (fun t ht hW => ⟨rfl, by rw [ht]; exact hH⟩) (fun q hq => by simp at hq) dJ3_checkIndex_8e157_17 B.notSynchronized
section XR15
variable {S : XS} {G : XG} {K : Nat × Nat} {l : Launch} {mt : XMt} {d : Nat} {pc : Nat} {lo : List (Option Value)} {st : List Value} {M : Mem} {c : Option (Value × Mem)}
theorem x_pci {i n : Int32} {A : XA} (hm : mt.1.cls = RJ0) (hd1 : decode mt.2.1 pc = .ok (.getstatic 1053, 3)) (hd2 : decode mt.2.1 (pc + 3) = .ok (.invokestatic 1059, 3)) (hd3 : decode mt.2.1 (pc + 3 + 3) = .ok (.pop, 1)) (h8 : st.length ≤ 4) (k : Xe S G K l mt d (pc + 3 + 3 + 1) lo st M A) : Xe S G K l mt d pc lo (.int n :: .int i :: st) M (pci i n A) := by
  unfold pci
  by_cases hc : ¬ i < 0 ∧ i < n
  · rw [if_pos hc]
    refine fun r M' e => ⟨(k r M' e).1, fun h hn9 a1 b d9 f9 H locs ls h1 h2 h3 => ?_⟩
    obtain ⟨w, ⟨cf, kf, fi, f, a, cell, q1, q2, q3, q4, q5, q6, q7, q8⟩, hw⟩ := h.2.2.2.2.2.2.2.2.1.2.2.2.2
    have hm2 := xm360
    obtain ⟨m1, m2, m3, m4, m5, m6⟩ := id hm2
    refine W.gets h.1 h.2.1 h.2.2.2.1 (h.2.2.2.2.1 _ (by rw [hm]; exact ls_sio)) q1 q2 q3 q4 (by rw [h1.2.1 a (Nat.not_le.mp q8)]; exact q5) (fun z => by rw [z] at q6; cases q6) q7 rfl hd1 ?_
    have hs := st_cat (st.map (cv G))
    rw [List.length_map] at hs
    refine x_back (mc := 0) (ms := 0) (rest := st.map (cv G)) (W.runS (As := [.int i, .int n, w]) ⟨h.1, h.2.1, h.2.2.1, h.2.2.2.1, h.2.2.2.2.1⟩ (met_pci hw hc.1 hc.2 H) ⟨callB_of 3 h.2.2.2.2.1 (xws_good hm2) rfl rfl rfl (h.2.2.2.2.1 _ m2) (h.2.2.2.2.1 _ (by rw [hm]; exact lm_pci)) ⟨m3.1, m3.2, m4⟩ ⟨by have := hn9.2.2.1; show 0 + 1 ≤ _; omega, by have := hn9.2.2.2; show 8 + (3 + 11) + 0 ≤ _; omega⟩, h.2.2.2.2.1 _ ms_pci⟩ ⟨fun a U g mk h => ⟨h.1, h.2⟩, fun U hU hW => ⟨rfl, hU⟩⟩ rfl rfl h3.1 rfl (Nat.le_trans (Nat.add_le_add_left hs _) (by simp [JFrame.monitorRoom]; omega)) hd2 ⟨by have := pfx_len (k r M' e).1; omega, by have := pfx_tot (k r M' e).1; omega⟩) (fun v st₀ t L h0 hqa hL => ?_)
    obtain ⟨hv, hw2⟩ := hqa
    cases hv
    rw [hw2]
    refine lv_pop h.1 h.2.1 hd3 rfl ?_
    exact (k r M' e).2 h hn9 a1 b d9 f9 H (locs ++ L) ls h1 (fun q hq => (List.mem_append.mp hq).elim (h2 q) (fun z => (hL q z).elim)) h3
  · rw [if_neg hc]
    exact x_none
end XR15
