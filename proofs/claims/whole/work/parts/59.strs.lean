/-! 59: the JDK: length and charAt of the String constants -/
theorem ds_co_0 : decode cJ0_coder_7d493 0 = .ok (.getstatic 38, 3) := by decide +kernel
theorem ds_co_3 : decode cJ0_coder_7d493 3 = .ok (.ifCond .eq 10, 3) := by decide +kernel
theorem ds_co_6 : decode cJ0_coder_7d493 6 = .ok (.aload_n 0, 1) := by decide +kernel
theorem ds_co_7 : decode cJ0_coder_7d493 7 = .ok (.getfield 15, 3) := by decide +kernel
theorem ds_co_10 : decode cJ0_coder_7d493 10 = .ok (.goto 4, 3) := by decide +kernel
theorem ds_co_14 : decode cJ0_coder_7d493 14 = .ok (.ireturn, 1) := by decide +kernel
theorem ds_il_0 : decode cJ0_isLatin1_aae02 0 = .ok (.getstatic 38, 3) := by decide +kernel
theorem ds_il_3 : decode cJ0_isLatin1_aae02 3 = .ok (.ifCond .eq 14, 3) := by decide +kernel
theorem ds_il_6 : decode cJ0_isLatin1_aae02 6 = .ok (.aload_n 0, 1) := by decide +kernel
theorem ds_il_7 : decode cJ0_isLatin1_aae02 7 = .ok (.getfield 15, 3) := by decide +kernel
theorem ds_il_10 : decode cJ0_isLatin1_aae02 10 = .ok (.ifCond .ne 7, 3) := by decide +kernel
theorem ds_il_13 : decode cJ0_isLatin1_aae02 13 = .ok (.iconst 1, 1) := by decide +kernel
theorem ds_il_14 : decode cJ0_isLatin1_aae02 14 = .ok (.goto 4, 3) := by decide +kernel
theorem ds_il_18 : decode cJ0_isLatin1_aae02 18 = .ok (.ireturn, 1) := by decide +kernel
theorem ds_le_0 : decode cJ0_length_8abf5 0 = .ok (.aload_n 0, 1) := by decide +kernel
theorem ds_le_1 : decode cJ0_length_8abf5 1 = .ok (.getfield 9, 3) := by decide +kernel
theorem ds_le_4 : decode cJ0_length_8abf5 4 = .ok (.arraylength, 1) := by decide +kernel
theorem ds_le_5 : decode cJ0_length_8abf5 5 = .ok (.aload_n 0, 1) := by decide +kernel
theorem ds_le_6 : decode cJ0_length_8abf5 6 = .ok (.invokevirtual 335, 3) := by decide +kernel
theorem ds_le_9 : decode cJ0_length_8abf5 9 = .ok (.ishr, 1) := by decide +kernel
theorem ds_le_10 : decode cJ0_length_8abf5 10 = .ok (.ireturn, 1) := by decide +kernel
theorem ds_pc_0 : decode cJ3_checkIndex_8e157 0 = .ok (.iload_n 0, 1) := by decide +kernel
theorem ds_pc_1 : decode cJ3_checkIndex_8e157 1 = .ok (.ifCond .lt 8, 3) := by decide +kernel
theorem ds_pc_4 : decode cJ3_checkIndex_8e157 4 = .ok (.iload_n 0, 1) := by decide +kernel
theorem ds_pc_5 : decode cJ3_checkIndex_8e157 5 = .ok (.iload_n 1, 1) := by decide +kernel
theorem ds_pc_6 : decode cJ3_checkIndex_8e157 6 = .ok (.if_icmp .lt 10, 3) := by decide +kernel
theorem ds_pc_16 : decode cJ3_checkIndex_8e157 16 = .ok (.iload_n 0, 1) := by decide +kernel
theorem ds_pc_17 : decode cJ3_checkIndex_8e157 17 = .ok (.ireturn, 1) := by decide +kernel
theorem ds_sc_0 : decode cJ0_checkIndex_df160 0 = .ok (.iload_n 0, 1) := by decide +kernel
theorem ds_sc_1 : decode cJ0_checkIndex_df160 1 = .ok (.iload_n 1, 1) := by decide +kernel
theorem ds_sc_2 : decode cJ0_checkIndex_df160 2 = .ok (.getstatic 1053, 3) := by decide +kernel
theorem ds_sc_5 : decode cJ0_checkIndex_df160 5 = .ok (.invokestatic 1059, 3) := by decide +kernel
theorem ds_sc_8 : decode cJ0_checkIndex_df160 8 = .ok (.pop, 1) := by decide +kernel
theorem ds_sc_9 : decode cJ0_checkIndex_df160 9 = .ok (.return_, 1) := by decide +kernel
theorem ds_l1_0 : decode cJ1_charAt_3b067 0 = .ok (.iload_n 1, 1) := by decide +kernel
theorem ds_l1_1 : decode cJ1_charAt_3b067 1 = .ok (.aload_n 0, 1) := by decide +kernel
theorem ds_l1_2 : decode cJ1_charAt_3b067 2 = .ok (.arraylength, 1) := by decide +kernel
theorem ds_l1_3 : decode cJ1_charAt_3b067 3 = .ok (.invokestatic 9, 3) := by decide +kernel
theorem ds_l1_6 : decode cJ1_charAt_3b067 6 = .ok (.aload_n 0, 1) := by decide +kernel
theorem ds_l1_7 : decode cJ1_charAt_3b067 7 = .ok (.iload_n 1, 1) := by decide +kernel
theorem ds_l1_8 : decode cJ1_charAt_3b067 8 = .ok (.baload, 1) := by decide +kernel
theorem ds_l1_9 : decode cJ1_charAt_3b067 9 = .ok (.sipush 255, 3) := by decide +kernel
theorem ds_l1_12 : decode cJ1_charAt_3b067 12 = .ok (.iand, 1) := by decide +kernel
theorem ds_l1_13 : decode cJ1_charAt_3b067 13 = .ok (.i2c, 1) := by decide +kernel
theorem ds_l1_14 : decode cJ1_charAt_3b067 14 = .ok (.ireturn, 1) := by decide +kernel
theorem ds_ch_0 : decode cJ0_charAt_5068e 0 = .ok (.aload_n 0, 1) := by decide +kernel
theorem ds_ch_1 : decode cJ0_charAt_5068e 1 = .ok (.invokevirtual 492, 3) := by decide +kernel
theorem ds_ch_4 : decode cJ0_charAt_5068e 4 = .ok (.ifCond .eq 12, 3) := by decide +kernel
theorem ds_ch_7 : decode cJ0_charAt_5068e 7 = .ok (.aload_n 0, 1) := by decide +kernel
theorem ds_ch_8 : decode cJ0_charAt_5068e 8 = .ok (.getfield 9, 3) := by decide +kernel
theorem ds_ch_11 : decode cJ0_charAt_5068e 11 = .ok (.iload_n 1, 1) := by decide +kernel
theorem ds_ch_12 : decode cJ0_charAt_5068e 12 = .ok (.invokestatic 495, 3) := by decide +kernel
theorem ds_ch_15 : decode cJ0_charAt_5068e 15 = .ok (.ireturn, 1) := by decide +kernel
def RdQ (v : Option Value) : Array Value → State → Outcome → State → Prop := fun _ st o t => o = .returned v ∧ t.heap = st.heap
theorem m_t {w : Jvm.Cond} (k : Nat) (h : tables_1[k]? = some w) (g : goodWord w = true := by rfl) : w ∈ gtbl := mem_t h g
section
variable {p : Program} {l : Launch} {env : Env} {R : Room} {s : State} {m : MethodId} {args : Array Value} {below : List Frame} {meth : Method} {c : Code} {cells slots : Nat} {Q : State → Prop}
theorem W_pure {H : Heap} {locs : List Loc} {als : Array Slot} {pc : Nat} {st0 rest : List Value} {r : Option Value} {Qa : State → Outcome → State → Prop} (hr : va_Run p l env R s m args below meth c H locs cells slots 0 0 (F0 m pc als st0) rest Qa (fun _ => False))
    (hq : ∀ (st t : State) (v : Option Value), st.heap = H → Qa st (.returned v) t → v = r ∧ t.heap = st.heap)
    (kk : W p l env R s m args below meth c H locs cells slots Q (F0 m (pc + 3) als (r.toList ++ rest))) : W p l env R s m args below meth c H locs cells slots Q (F0 m pc als st0) := by
  intro T hT X
  obtain ⟨v, st₀, t, T', L, h0, X', hL, e1, e2, hqa, st⟩ := hr T hT X
  obtain ⟨rfl, hh⟩ := hq st₀ t v h0 hqa
  have hL0 : L = [] := List.eq_nil_iff_forall_not_mem.mpr (fun q hq2 => hL q hq2)
  subst hL0
  rw [List.append_nil] at X'
  obtain ⟨t2, a1, b1⟩ := kk T' (by rw [e1, hh, h0]) X'
  exact ⟨t2, st t2 a1, b1⟩
end
theorem shr_0 : ∀ n, n < 5 → nI n >>> ((0 : Int32) &&& 31) = nI n := by decide +kernel
theorem byt_c : ∀ n, n < 256 → ((nI n &&& nI 255).toUInt32 % 65536).toInt32 = nI n := by decide +kernel
theorem nar_c : ∀ n, n < 256 → narrow .char (.int (nI n)) = .int (nI n) := by decide +kernel
theorem str_5 : ∀ sx ∈ strT, sx.length < 5 ∧ ∀ c ∈ sx, c < 256 := by decide +kernel
theorem str_len {i : Nat} {sx : List Nat} (h : nth strT i = some sx) : i < strT.length ∧ strL.getD i 0 = sx.length ∧ strB.getD i [] = sx.map nI ∧ sx.length < 5 ∧ ∀ c ∈ sx, c < 256 := by
  rw [nth_get] at h
  refine ⟨(List.getElem?_eq_some_iff.mp h).1, ?_, ?_, str_5 sx (List.mem_of_getElem? h)⟩
  · unfold strL
    rw [List.getD_eq_getElem?_getD, List.getElem?_map, h]; rfl
  · unfold strB
    rw [List.getD_eq_getElem?_getD, List.getElem?_map, h]; rfl
set_option maxHeartbeats 4000000 in
set_option maxRecDepth 100000 in
theorem s_coder (l : Launch) (ad : Key → Nat) {i : Nat} (hi : i < strT.length) : Met l yJ0_coder_7d493 (wsP yJ0_coder_7d493 cJ0_coder_7d493 1 (some .byte)) { frames := 0, cells := 0, slots := 0, locals := 0 } (fun a U => a = #[Value.ref (ad (31, i, 0))] ∧ SS ad U U.heap) (RdQ (some (.int 0))) 0 0 (fun _ => False) := by
  refine Met.ofW (cc := cJ0_coder_7d493) (maxL := 1) (ret := (some .byte)) (by decide) rfl ?_
  intro p e s m args below meth c s₁ B hml hv
  obtain ⟨rfl, hSS⟩ := hv
  have hx := B.exec
  have hb := B.bytes
  have hr := B.returns
  have hts0 := atoms_spec (ws := wsP yJ0_coder_7d493 cJ0_coder_7d493 1 (some .byte)) B.pre
  have hts : ∀ w ∈ gtbl, w.before _ s = true := fun w hw => hts0 w (List.mem_cons_of_mem _ hw)
  have hown : s.vm.findClass RJ0 = some m.cls := findClass_of_methodNamed B.named
  have hlocks := B.notSynchronized
  have hl := lv_entry ([.ref (ad (31, i, 0))]) (n := 1) (Nat.le_of_ble_eq_true rfl)
  rw [lg_entry_eq]
  generalize (lg_sl ([.ref (ad (31, i, 0))]) ++ List.replicate (1 - (lg_sl ([.ref (ad (31, i, 0))])).length) Slot.unset).toArray = ls at hl ⊢
  have hl : lv_has ls 1 [(0, .ref (ad (31, i, 0)))] := hl
  have hSS0 := hSS
  obtain ⟨⟨adV, hV⟩, hZ, ⟨vF, hvF, hZF⟩, hR0⟩ := hSS
  have hS : va_S (AA ad) s.heap s.heap [] := va_S.rf
  obtain ⟨hO, hC, hVal, hTb⟩ := hV.1 i hi
  refine va_gets hx hb hZ hS hown (hts (.fieldLink RJ0 38 "java/lang/String" "COMPACT_STRINGS" "Z") (m_t 519 (by decide +kernel))) (fun _ h9 => h9) ds_co_0 ?_
  refine lv_if_eq (tgt := 13) hx hb ds_co_3 (by decide) (fun c_3 => absurd c_3 (by decide)) (fun _ => ?_)
  refine lv_aload_n hx hb ds_co_6 rfl (lv_at hl 0 rfl) ?_
  refine vk_getf hx hb hC hS hown (hts (.fieldLink RJ0 15 "java/lang/String" "coder" "B") (m_t 1061 (by decide +kernel))) (fun _ h9 => h9) ds_co_7 ?_
  refine lv_goto (tgt := 14) hx hb ds_co_10 (by decide) ?_
  exact W.zret (ty := .byte) hx hb hr rfl (fun t ht hW => ⟨rfl, ht⟩) (fun q h => by cases h) ds_co_14
set_option maxHeartbeats 4000000 in
set_option maxRecDepth 100000 in
theorem s_latin (l : Launch) (ad : Key → Nat) {i : Nat} (hi : i < strT.length) : Met l yJ0_isLatin1_aae02 (wsP yJ0_isLatin1_aae02 cJ0_isLatin1_aae02 1 (some .boolean)) { frames := 0, cells := 0, slots := 0, locals := 0 } (fun a U => a = #[Value.ref (ad (31, i, 0))] ∧ SS ad U U.heap) (RdQ (some (.int 1))) 0 0 (fun _ => False) := by
  refine Met.ofW (cc := cJ0_isLatin1_aae02) (maxL := 1) (ret := (some .boolean)) (by decide) rfl ?_
  intro p e s m args below meth c s₁ B hml hv
  obtain ⟨rfl, hSS⟩ := hv
  have hx := B.exec
  have hb := B.bytes
  have hr := B.returns
  have hts0 := atoms_spec (ws := wsP yJ0_isLatin1_aae02 cJ0_isLatin1_aae02 1 (some .boolean)) B.pre
  have hts : ∀ w ∈ gtbl, w.before _ s = true := fun w hw => hts0 w (List.mem_cons_of_mem _ hw)
  have hown : s.vm.findClass RJ0 = some m.cls := findClass_of_methodNamed B.named
  have hlocks := B.notSynchronized
  have hl := lv_entry ([.ref (ad (31, i, 0))]) (n := 1) (Nat.le_of_ble_eq_true rfl)
  rw [lg_entry_eq]
  generalize (lg_sl ([.ref (ad (31, i, 0))]) ++ List.replicate (1 - (lg_sl ([.ref (ad (31, i, 0))])).length) Slot.unset).toArray = ls at hl ⊢
  have hl : lv_has ls 1 [(0, .ref (ad (31, i, 0)))] := hl
  have hSS0 := hSS
  obtain ⟨⟨adV, hV⟩, hZ, ⟨vF, hvF, hZF⟩, hR0⟩ := hSS
  have hS : va_S (AA ad) s.heap s.heap [] := va_S.rf
  obtain ⟨hO, hC, hVal, hTb⟩ := hV.1 i hi
  refine va_gets hx hb hZ hS hown (hts (.fieldLink RJ0 38 "java/lang/String" "COMPACT_STRINGS" "Z") (m_t 519 (by decide +kernel))) (fun _ h9 => h9) ds_il_0 ?_
  refine lv_if_eq (tgt := 17) hx hb ds_il_3 (by decide) (fun c_3 => absurd c_3 (by decide)) (fun _ => ?_)
  refine lv_aload_n hx hb ds_il_6 rfl (lv_at hl 0 rfl) ?_
  refine vk_getf hx hb hC hS hown (hts (.fieldLink RJ0 15 "java/lang/String" "coder" "B") (m_t 1061 (by decide +kernel))) (fun _ h9 => h9) ds_il_7 ?_
  refine lv_if_ne (tgt := 17) hx hb ds_il_10 (by decide) (fun c_3 => absurd rfl c_3) (fun _ => ?_)
  refine lv_iconst (v := 1) hx hb ds_il_13 (by decide) ?_
  refine lv_goto (tgt := 18) hx hb ds_il_14 (by decide) ?_
  exact W.zret (ty := .boolean) hx hb hr rfl (fun t ht hW => ⟨rfl, ht⟩) (fun q h => by cases h) ds_il_18
set_option maxHeartbeats 4000000 in
set_option maxRecDepth 100000 in
theorem s_length (l : Launch) (ad : Key → Nat) {i : Nat} {sx : List Nat} (hsx : nth strT i = some sx) : Met l Y_ln (wsP Y_ln cJ0_length_8abf5 1 (some .int)) { frames := 1, cells := 0, slots := 0, locals := 20 } (fun a U => a = #[Value.ref (ad (31, i, 0))] ∧ SS ad U U.heap) (fun _ st o t => o = .returned (some (.int (nI sx.length))) ∧ t.heap = st.heap) 0 0 (fun _ => False) := by
  refine Met.ofW (cc := cJ0_length_8abf5) (maxL := 1) (ret := (some .int)) (by decide) rfl ?_
  intro p e s m args below meth c s₁ B hml hv
  obtain ⟨rfl, hSS⟩ := hv
  have hx := B.exec
  have hb := B.bytes
  have hr := B.returns
  have hts0 := atoms_spec (ws := wsP Y_ln cJ0_length_8abf5 1 (some .int)) B.pre
  have hts : ∀ w ∈ gtbl, w.before _ s = true := fun w hw => hts0 w (List.mem_cons_of_mem _ hw)
  have hown : s.vm.findClass RJ0 = some m.cls := findClass_of_methodNamed B.named
  have hlocks := B.notSynchronized
  have hl := lv_entry ([.ref (ad (31, i, 0))]) (n := 1) (Nat.le_of_ble_eq_true rfl)
  rw [lg_entry_eq]
  generalize (lg_sl ([.ref (ad (31, i, 0))]) ++ List.replicate (1 - (lg_sl ([.ref (ad (31, i, 0))])).length) Slot.unset).toArray = ls at hl ⊢
  have hl : lv_has ls 1 [(0, .ref (ad (31, i, 0)))] := hl
  obtain ⟨hi, eL, eB, h5, h256⟩ := str_len hsx
  have hSS0 := hSS
  obtain ⟨⟨adV, hV⟩, hZ, ⟨vF, hvF, hZF⟩, hR0⟩ := hSS
  have hS : va_S (AA ad) s.heap s.heap [] := va_S.rf
  obtain ⟨hO, hC, hVal, hTb⟩ := hV.1 i hi
  rw [eL] at hTb
  refine lv_aload_n hx hb ds_le_0 rfl (lv_at hl 0 rfl) ?_
  refine vk_getf hx hb hVal hS hown (hts (.fieldLink RJ0 9 "java/lang/String" "value" "[B") (m_t 1060 (by decide +kernel))) (fun _ h9 => h9) ds_le_1 ?_
  refine va_tlen (v := nI sx.length) hx hb hTb hS rfl ds_le_4 ?_
  refine lv_aload_n hx hb ds_le_5 rfl (lv_at hl 0 rfl) ?_
  have hG := good_code (y := yJ0_coder_7d493) (b := cJ0_coder_7d493) (n := 1) (r := some .byte) (own := RJ0) (C := RJ0) (ix := 335) (m_t 515 (by decide +kernel)) (m_t 516 (by decide +kernel)) (m_t 517 (by decide +kernel)) (m_t 11 (by decide +kernel)) (m_t 518 (by decide +kernel))
  refine W_pure (r := some (.int 0)) (va_runV (As := []) (rest := [.int (nI sx.length)]) ⟨hx, hb, hml, hown, hts⟩ (s_coder l ad hi) (cwV 0 hts hG rfl rfl rfl (by decide +kernel) ⟨by show 0 + 1 ≤ _; exact Nat.le_of_ble_eq_true rfl, by show 8 + (1 + 11) + 0 ≤ _; exact Nat.le_of_ble_eq_true rfl⟩) ⟨fun a U g mk q => q, SS_recv hSS0 hsx, fun U hU hW => ⟨rfl, by rw [hU]; exact SS_to hSS0 (fun _ _ _ => rfl) hW⟩⟩ rfl rfl hl.1 rfl (lv_room (Nat.le_of_ble_eq_true rfl)) ds_le_6 ⟨Nat.zero_le _, Nat.zero_le _⟩) (fun st t v _ hq => ⟨Outcome.returned.inj hq.1, hq.2⟩) ?_
  refine lv_ishr hx hb ds_le_9 ?_
  rw [shr_0 _ h5]
  exact W.iret hx hb hr (fun t ht hW => ⟨rfl, ht⟩) (fun q h => by cases h) ds_le_10
set_option maxHeartbeats 4000000 in
set_option maxRecDepth 100000 in
theorem s_pre0 (l : Launch) {k n : Nat} (hk : k < n) (hn : n < 256) : Met l yJ3_checkIndex_8e157 (wsP yJ3_checkIndex_8e157 cJ3_checkIndex_8e157 3 (some .int)) { frames := 0, cells := 0, slots := 0, locals := 0 } (fun a U => a = #[Value.int (nI k), Value.int (nI n), Value.null]) (RdQ (some (.int (nI k)))) 0 0 (fun _ => False) := by
  refine Met.ofW (cc := cJ3_checkIndex_8e157) (maxL := 3) (ret := (some .int)) (by decide) rfl ?_
  intro p e s m args below meth c s₁ B hml hv
  obtain rfl := hv
  have hx := B.exec
  have hb := B.bytes
  have hr := B.returns
  have hts0 := atoms_spec (ws := wsP yJ3_checkIndex_8e157 cJ3_checkIndex_8e157 3 (some .int)) B.pre
  have hts : ∀ w ∈ gtbl, w.before _ s = true := fun w hw => hts0 w (List.mem_cons_of_mem _ hw)
  have hown : s.vm.findClass RJ3 = some m.cls := findClass_of_methodNamed B.named
  have hlocks := B.notSynchronized
  have hl := lv_entry ([.int (nI k), .int (nI n), .null]) (n := 3) (Nat.le_of_ble_eq_true rfl)
  rw [lg_entry_eq]
  generalize (lg_sl ([.int (nI k), .int (nI n), .null]) ++ List.replicate (3 - (lg_sl ([.int (nI k), .int (nI n), .null])).length) Slot.unset).toArray = ls at hl ⊢
  have hl : lv_has ls 3 [(0, .int (nI k)), (1, .int (nI n)), (2, .null)] := hl
  refine lv_iload_n hx hb ds_pc_0 rfl (lv_at hl 0 rfl) ?_
  refine lv_if_lt (tgt := 9) hx hb ds_pc_1 (by decide) (fun c_1 => absurd c_1 (nI_nn (show k + 1 < 2147483648 by omega))) (fun _ => ?_)
  refine lv_iload_n hx hb ds_pc_4 rfl (lv_at hl 0 rfl) ?_
  refine lv_iload_n hx hb ds_pc_5 rfl (lv_at hl 1 rfl) ?_
  refine lv_icmp_lt (tgt := 16) hx hb ds_pc_6 (by decide) (fun _ => ?_) (fun c_6 => absurd (nI_lt hk (show n < 2147483648 by omega)) c_6)
  refine lv_iload_n hx hb ds_pc_16 rfl (lv_at hl 0 rfl) ?_
  exact W.iret hx hb hr (fun t ht hW => ⟨rfl, ht⟩) (fun q h => by cases h) ds_pc_17
set_option maxHeartbeats 4000000 in
set_option maxRecDepth 100000 in
theorem s_pre1 (l : Launch) {k n q : Nat} (hk : k < n) (hn : n < 256) : Met l yJ3_checkIndex_8e157 (wsP yJ3_checkIndex_8e157 cJ3_checkIndex_8e157 3 (some .int)) { frames := 0, cells := 0, slots := 0, locals := 0 } (fun a U => a = #[Value.int (nI k), Value.int (nI n), Value.ref q]) (RdQ (some (.int (nI k)))) 0 0 (fun _ => False) := by
  refine Met.ofW (cc := cJ3_checkIndex_8e157) (maxL := 3) (ret := (some .int)) (by decide) rfl ?_
  intro p e s m args below meth c s₁ B hml hv
  obtain rfl := hv
  have hx := B.exec
  have hb := B.bytes
  have hr := B.returns
  have hts0 := atoms_spec (ws := wsP yJ3_checkIndex_8e157 cJ3_checkIndex_8e157 3 (some .int)) B.pre
  have hts : ∀ w ∈ gtbl, w.before _ s = true := fun w hw => hts0 w (List.mem_cons_of_mem _ hw)
  have hown : s.vm.findClass RJ3 = some m.cls := findClass_of_methodNamed B.named
  have hlocks := B.notSynchronized
  have hl := lv_entry ([.int (nI k), .int (nI n), .ref q]) (n := 3) (Nat.le_of_ble_eq_true rfl)
  rw [lg_entry_eq]
  generalize (lg_sl ([.int (nI k), .int (nI n), .ref q]) ++ List.replicate (3 - (lg_sl ([.int (nI k), .int (nI n), .ref q])).length) Slot.unset).toArray = ls at hl ⊢
  have hl : lv_has ls 3 [(0, .int (nI k)), (1, .int (nI n)), (2, .ref q)] := hl
  refine lv_iload_n hx hb ds_pc_0 rfl (lv_at hl 0 rfl) ?_
  refine lv_if_lt (tgt := 9) hx hb ds_pc_1 (by decide) (fun c_1 => absurd c_1 (nI_nn (show k + 1 < 2147483648 by omega))) (fun _ => ?_)
  refine lv_iload_n hx hb ds_pc_4 rfl (lv_at hl 0 rfl) ?_
  refine lv_iload_n hx hb ds_pc_5 rfl (lv_at hl 1 rfl) ?_
  refine lv_icmp_lt (tgt := 16) hx hb ds_pc_6 (by decide) (fun _ => ?_) (fun c_6 => absurd (nI_lt hk (show n < 2147483648 by omega)) c_6)
  refine lv_iload_n hx hb ds_pc_16 rfl (lv_at hl 0 rfl) ?_
  exact W.iret hx hb hr (fun t ht hW => ⟨rfl, ht⟩) (fun q h => by cases h) ds_pc_17
set_option maxHeartbeats 4000000 in
set_option maxRecDepth 100000 in
theorem s_chk (l : Launch) (ad : Key → Nat) {k n : Nat} (hk : k < n) (hn : n < 256) : Met l yJ0_checkIndex_df160 (wsP yJ0_checkIndex_df160 cJ0_checkIndex_df160 2 none) { frames := 1, cells := 0, slots := 0, locals := 22 } (fun a U => a = #[Value.int (nI k), Value.int (nI n)] ∧ SS ad U U.heap) (RdQ none) 0 0 (fun _ => False) := by
  refine Met.ofW (cc := cJ0_checkIndex_df160) (maxL := 2) (ret := none) (by decide) rfl ?_
  intro p e s m args below meth c s₁ B hml hv
  obtain ⟨rfl, hSS⟩ := hv
  have hx := B.exec
  have hb := B.bytes
  have hr := B.returns
  have hts0 := atoms_spec (ws := wsP yJ0_checkIndex_df160 cJ0_checkIndex_df160 2 none) B.pre
  have hts : ∀ w ∈ gtbl, w.before _ s = true := fun w hw => hts0 w (List.mem_cons_of_mem _ hw)
  have hown : s.vm.findClass RJ0 = some m.cls := findClass_of_methodNamed B.named
  have hlocks := B.notSynchronized
  have hl := lv_entry ([.int (nI k), .int (nI n)]) (n := 2) (Nat.le_of_ble_eq_true rfl)
  rw [lg_entry_eq]
  generalize (lg_sl ([.int (nI k), .int (nI n)]) ++ List.replicate (2 - (lg_sl ([.int (nI k), .int (nI n)])).length) Slot.unset).toArray = ls at hl ⊢
  have hl : lv_has ls 2 [(0, .int (nI k)), (1, .int (nI n))] := hl
  have hSS0 := hSS
  obtain ⟨⟨adV, hV⟩, hZ, ⟨vF, hvF, hZF⟩, hR0⟩ := hSS
  have hS : va_S (AA ad) s.heap s.heap [] := va_S.rf
  refine lv_iload_n hx hb ds_sc_0 rfl (lv_at hl 0 rfl) ?_
  refine lv_iload_n hx hb ds_sc_1 rfl (lv_at hl 1 rfl) ?_
  refine va_gets hx hb hZF hS hown (hts (.fieldLink RJ0 1053 "jdk/internal/util/Preconditions" "SIOOBE_FORMATTER" "Ljava/util/function/BiFunction;") (m_t 535 (by decide +kernel))) (fun _ h9 => h9) ds_sc_2 ?_
  have hG := good_codeS (y := yJ3_checkIndex_8e157) (b := cJ3_checkIndex_8e157) (n := 3) (r := some .int) (own := RJ0) (ix := 1059) (m_t 537 (by decide +kernel)) (m_t 538 (by decide +kernel)) (m_t 13 (by decide +kernel)) (m_t 539 (by decide +kernel))
  rcases hvF with rfl | ⟨q, rfl⟩
  · refine W_pure (r := some (.int (nI k))) (va_runS (As := [.int (nI k), .int (nI n), .null]) (rest := []) ⟨hx, hb, hml, hown, hts⟩ (s_pre0 l hk hn) (va_cwS 3 hts hG rfl rfl rfl (by decide +kernel) ⟨Nat.le_of_ble_eq_true rfl, Nat.le_of_ble_eq_true rfl⟩) ⟨fun a U g mk q => q, fun U hU hW => rfl⟩ rfl rfl hl.1 rfl (lv_room (Nat.le_of_ble_eq_true rfl)) ds_sc_5 ⟨Nat.zero_le _, Nat.zero_le _⟩) (fun st t v _ hq => ⟨Outcome.returned.inj hq.1, hq.2⟩) ?_
    refine lv_pop hx hb ds_sc_8 rfl ?_
    exact W.vret hx hb hr (fun t ht hW => ⟨rfl, ht⟩) (fun q h => by cases h) ds_sc_9
  · refine W_pure (r := some (.int (nI k))) (va_runS (As := [.int (nI k), .int (nI n), .ref q]) (rest := []) ⟨hx, hb, hml, hown, hts⟩ (s_pre1 l hk hn) (va_cwS 3 hts hG rfl rfl rfl (by decide +kernel) ⟨Nat.le_of_ble_eq_true rfl, Nat.le_of_ble_eq_true rfl⟩) ⟨fun a U g mk q => q, fun U hU hW => rfl⟩ rfl rfl hl.1 rfl (lv_room (Nat.le_of_ble_eq_true rfl)) ds_sc_5 ⟨Nat.zero_le _, Nat.zero_le _⟩) (fun st t v _ hq => ⟨Outcome.returned.inj hq.1, hq.2⟩) ?_
    refine lv_pop hx hb ds_sc_8 rfl ?_
    exact W.vret hx hb hr (fun t ht hW => ⟨rfl, ht⟩) (fun q h => by cases h) ds_sc_9
set_option maxHeartbeats 4000000 in
set_option maxRecDepth 100000 in
theorem s_l1 (l : Launch) (ad : Key → Nat) {k n q cc : Nat} {f : Nat → Int32} (hk : k < n) (hn : n < 256) (hf : f k = nI cc) (hcc : cc < 256) : Met l yJ1_charAt_3b067 (wsP yJ1_charAt_3b067 cJ1_charAt_3b067 2 (some .char)) { frames := 2, cells := 0, slots := 0, locals := 43 } (fun a U => a = #[Value.ref q, Value.int (nI k)] ∧ SS ad U U.heap ∧ va_T .byte q n (fun j => .int (f j)) (AA ad) U U.heap) (RdQ (some (.int (nI cc)))) 0 0 (fun _ => False) := by
  refine Met.ofW (cc := cJ1_charAt_3b067) (maxL := 2) (ret := (some .char)) (by decide) rfl ?_
  intro p e s m args below meth c s₁ B hml hv
  obtain ⟨rfl, hSS, hTb⟩ := hv
  have hx := B.exec
  have hb := B.bytes
  have hr := B.returns
  have hts0 := atoms_spec (ws := wsP yJ1_charAt_3b067 cJ1_charAt_3b067 2 (some .char)) B.pre
  have hts : ∀ w ∈ gtbl, w.before _ s = true := fun w hw => hts0 w (List.mem_cons_of_mem _ hw)
  have hown : s.vm.findClass RJ1 = some m.cls := findClass_of_methodNamed B.named
  have hlocks := B.notSynchronized
  have hl := lv_entry ([.ref q, .int (nI k)]) (n := 2) (Nat.le_of_ble_eq_true rfl)
  rw [lg_entry_eq]
  generalize (lg_sl ([.ref q, .int (nI k)]) ++ List.replicate (2 - (lg_sl ([.ref q, .int (nI k)])).length) Slot.unset).toArray = ls at hl ⊢
  have hl : lv_has ls 2 [(0, .ref q), (1, .int (nI k))] := hl
  have hS : va_S (AA ad) s.heap s.heap [] := va_S.rf
  refine lv_iload_n hx hb ds_l1_0 rfl (lv_at hl 1 rfl) ?_
  refine lv_aload_n hx hb ds_l1_1 rfl (lv_at hl 0 rfl) ?_
  refine va_tlen (v := nI n) hx hb hTb hS rfl ds_l1_2 ?_
  have hG := good_codeS (y := yJ0_checkIndex_df160) (b := cJ0_checkIndex_df160) (n := 2) (r := none) (own := RJ1) (ix := 9) (m_t 532 (by decide +kernel)) (m_t 533 (by decide +kernel)) (m_t 11 (by decide +kernel)) (m_t 534 (by decide +kernel))
  refine W_pure (r := none) (va_runS (As := [.int (nI k), .int (nI n)]) (rest := []) ⟨hx, hb, hml, hown, hts⟩ (s_chk l ad hk hn) (va_cwS 2 hts hG rfl rfl rfl (by decide +kernel) ⟨Nat.le_of_ble_eq_true rfl, Nat.le_of_ble_eq_true rfl⟩) ⟨fun a U g mk q => q, fun U hU hW => ⟨rfl, by rw [hU]; exact SS_to hSS (fun _ _ _ => rfl) hW⟩⟩ rfl rfl hl.1 rfl (lv_room (Nat.le_of_ble_eq_true rfl)) ds_l1_3 ⟨Nat.zero_le _, Nat.zero_le _⟩) (fun st t v _ hq => ⟨Outcome.returned.inj hq.1, hq.2⟩) ?_
  refine lv_aload_n hx hb ds_l1_6 rfl (lv_at hl 0 rfl) ?_
  refine lv_iload_n hx hb ds_l1_7 rfl (lv_at hl 1 rfl) ?_
  refine va_tb (v := .int (nI cc)) hx hb hTb hS (vp_in_nI hk (show n < 2147483648 by omega)) (by rw [nI_clamp (show k < 2147483648 by omega), hf]) ds_l1_8 ?_
  refine lv_sipush (v := nI 255) hx hb ds_l1_9 (by decide) ?_
  refine lv_iand hx hb ds_l1_12 ?_
  refine lv_i2c (v := nI cc) hx hb ds_l1_13 (byt_c cc hcc) ?_
  exact W.zret (ty := .char) hx hb hr (nar_c cc hcc) (fun t ht hW => ⟨rfl, ht⟩) (fun q h => by cases h) ds_l1_14
set_option maxHeartbeats 4000000 in
set_option maxRecDepth 100000 in
theorem s_charAt (l : Launch) (ad : Key → Nat) {i : Nat} {sx : List Nat} {x : Int32} (hsx : nth strT i = some sx) (hin : inb x sx.length = true) : Met l Y_ch (wsP Y_ch cJ0_charAt_5068e 2 (some .char)) { frames := 4, cells := 0, slots := 0, locals := 85 } (fun a U => a = #[Value.ref (ad (31, i, 0)), .int x] ∧ SS ad U U.heap) (fun _ st o t => o = .returned (some (.int (nI (sx.getD x.toNatClampNeg 0)))) ∧ t.heap = st.heap) 0 0 (fun _ => False) := by
  obtain ⟨hi, eL, eB, h5, h256⟩ := str_len hsx
  have hv0 := inb_spec hin
  obtain ⟨k, hk31, rfl⟩ := nI_of (fun z => hv0 (Or.inl z))
  have ek : (nI k).toNatClampNeg = k := nI_clamp hk31
  have hk : k < sx.length := Nat.lt_of_not_le (fun z => hv0 (Or.inr (by rw [ek]; exact z)))
  rw [ek]
  have hc : sx[k]? = some (sx.getD k 0) := by rw [List.getD_eq_getElem?_getD, List.getElem?_eq_getElem hk]; rfl
  have hcc : sx.getD k 0 < 256 := h256 _ (List.mem_of_getElem? hc)
  have hf : (strB.getD i []).getD k 0 = nI (sx.getD k 0) := by rw [eB, List.getD_eq_getElem?_getD, List.getElem?_map, hc]; rfl
  refine Met.ofW (cc := cJ0_charAt_5068e) (maxL := 2) (ret := (some .char)) (by decide) rfl ?_
  intro p e s m args below meth c s₁ B hml hv
  obtain ⟨rfl, hSS⟩ := hv
  have hx := B.exec
  have hb := B.bytes
  have hr := B.returns
  have hts0 := atoms_spec (ws := wsP Y_ch cJ0_charAt_5068e 2 (some .char)) B.pre
  have hts : ∀ w ∈ gtbl, w.before _ s = true := fun w hw => hts0 w (List.mem_cons_of_mem _ hw)
  have hown : s.vm.findClass RJ0 = some m.cls := findClass_of_methodNamed B.named
  have hlocks := B.notSynchronized
  have hl := lv_entry ([.ref (ad (31, i, 0)), .int (nI k)]) (n := 2) (Nat.le_of_ble_eq_true rfl)
  rw [lg_entry_eq]
  generalize (lg_sl ([.ref (ad (31, i, 0)), .int (nI k)]) ++ List.replicate (2 - (lg_sl ([.ref (ad (31, i, 0)), .int (nI k)])).length) Slot.unset).toArray = ls at hl ⊢
  have hl : lv_has ls 2 [(0, .ref (ad (31, i, 0))), (1, .int (nI k))] := hl
  have hSS0 := hSS
  obtain ⟨⟨adV, hV⟩, hZ, ⟨vF, hvF, hZF⟩, hR0⟩ := hSS
  have hS : va_S (AA ad) s.heap s.heap [] := va_S.rf
  obtain ⟨hO, hC, hVal, hTb⟩ := hV.1 i hi
  rw [eL] at hTb
  refine lv_aload_n hx hb ds_ch_0 rfl (lv_at hl 0 rfl) ?_
  have hG := good_code (y := yJ0_isLatin1_aae02) (b := cJ0_isLatin1_aae02) (n := 1) (r := some .boolean) (own := RJ0) (C := RJ0) (ix := 492) (m_t 525 (by decide +kernel)) (m_t 526 (by decide +kernel)) (m_t 527 (by decide +kernel)) (m_t 11 (by decide +kernel)) (m_t 528 (by decide +kernel))
  refine W_pure (r := some (.int 1)) (va_runV (As := []) (rest := []) ⟨hx, hb, hml, hown, hts⟩ (s_latin l ad hi) (cwV 0 hts hG rfl rfl rfl (by decide +kernel) ⟨by show 0 + 1 ≤ _; exact Nat.le_of_ble_eq_true rfl, by show 8 + (1 + 11) + 0 ≤ _; exact Nat.le_of_ble_eq_true rfl⟩) ⟨fun a U g mk q => q, SS_recv hSS0 hsx, fun U hU hW => ⟨rfl, by rw [hU]; exact SS_to hSS0 (fun _ _ _ => rfl) hW⟩⟩ rfl rfl hl.1 rfl (lv_room (Nat.le_of_ble_eq_true rfl)) ds_ch_1 ⟨Nat.zero_le _, Nat.zero_le _⟩) (fun st t v _ hq => ⟨Outcome.returned.inj hq.1, hq.2⟩) ?_
  refine lv_if_eq (tgt := 16) hx hb ds_ch_4 (by decide) (fun c_4 => absurd c_4 (by decide)) (fun _ => ?_)
  refine lv_aload_n hx hb ds_ch_7 rfl (lv_at hl 0 rfl) ?_
  refine vk_getf hx hb hVal hS hown (hts (.fieldLink RJ0 9 "java/lang/String" "value" "[B") (m_t 1060 (by decide +kernel))) (fun _ h9 => h9) ds_ch_8 ?_
  refine lv_iload_n hx hb ds_ch_11 rfl (lv_at hl 1 rfl) ?_
  have hG := good_codeS (y := yJ1_charAt_3b067) (b := cJ1_charAt_3b067) (n := 2) (r := some .char) (own := RJ0) (ix := 495) (m_t 529 (by decide +kernel)) (m_t 530 (by decide +kernel)) (m_t 12 (by decide +kernel)) (m_t 531 (by decide +kernel))
  refine W_pure (r := some (.int (nI (sx.getD k 0)))) (va_runS (As := [.ref (adV i), .int (nI k)]) (rest := []) ⟨hx, hb, hml, hown, hts⟩ (s_l1 l ad (f := fun j => (strB.getD i []).getD j 0) hk (show sx.length < 256 by omega) hf hcc) (va_cwS 2 hts hG rfl rfl rfl (by decide +kernel) ⟨Nat.le_of_ble_eq_true rfl, Nat.le_of_ble_eq_true rfl⟩) ⟨fun a U g mk q => ⟨q.1, q.2.1, va_T.moved (u := U) (U := U.calling g mk a) (Vm.Alike.refl U.vm) q.2.2⟩, fun U hU hW => ⟨rfl, by rw [hU]; exact SS_to hSS0 (fun _ _ _ => rfl) hW, by rw [hU]; exact va_T.moved hW.alike hTb⟩⟩ rfl rfl hl.1 rfl (lv_room (Nat.le_of_ble_eq_true rfl)) ds_ch_12 ⟨Nat.zero_le _, Nat.zero_le _⟩) (fun st t v _ hq => ⟨Outcome.returned.inj hq.1, hq.2⟩) ?_
  exact W.zret (ty := .char) hx hb hr (nar_c _ hcc) (fun t ht hW => ⟨rfl, ht⟩) (fun q h => by cases h) ds_ch_15
theorem hLn_ok (l : Launch) (ad : Key → Nat) : HLn l ad := fun i sx h => s_length l ad h
theorem hCh_ok (l : Launch) (ad : Key → Nat) : HCh l ad := fun i sx k h g => s_charAt l ad h g
