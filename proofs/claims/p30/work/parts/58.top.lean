/-! 58: constructors: Program, the reference, SightBlocks -/
def KP : List Key := [(4, 0, 0), (15, 0, 0), (16, 0, 0)]
def KB : List Key := ((([(7, 0, 0)] ++ KSj 0) ++ KSj 1) ++ KH) ++ KP
theorem dc_X4_0 : decode cX4_init 0 = .ok (.aload_n 0, 1) := by decide +kernel
theorem dc_X4_1 : decode cX4_init 1 = .ok (.invokespecial 3, 3) := by decide +kernel
theorem dc_X4_4 : decode cX4_init 4 = .ok (.aload_n 0, 1) := by decide +kernel
theorem dc_X4_5 : decode cX4_init 5 = .ok (.bipush 120, 2) := by decide +kernel
theorem dc_X4_7 : decode cX4_init 7 = .ok (.newarray .char, 2) := by decide +kernel
theorem dc_X4_9 : decode cX4_init 9 = .ok (.putfield 9, 3) := by decide +kernel
theorem dc_X4_12 : decode cX4_init 12 = .ok (.aload_n 0, 1) := by decide +kernel
theorem dc_X4_13 : decode cX4_init 13 = .ok (.iconst 3, 1) := by decide +kernel
theorem dc_X4_14 : decode cX4_init 14 = .ok (.newarray .int, 2) := by decide +kernel
theorem dc_X4_16 : decode cX4_init 16 = .ok (.putfield 15, 3) := by decide +kernel
theorem dc_X4_19 : decode cX4_init 19 = .ok (.return_, 1) := by decide +kernel
set_option maxHeartbeats 4000000 in
set_option maxRecDepth 100000 in
theorem b_X4 (l : Launch) (D : va_G) (dA : Nat → ClassId) : Ctor l D dA yX4_init cX4_init 1 { frames := 1, cells := 2, slots := 123, locals := 12 } 4 [.null, .null, .int 0, .int 0, .int 0] KP 2 123 := by
  intro h0 sz
  refine Met.ofW (cc := cX4_init) (maxL := 1) (ret := none) (by decide) rfl ?_
  intro p e s m args below meth c s₁ B hml hv
  obtain ⟨rfl, hsz, hP, hK, hD0, hN⟩ := hv
  have hx := B.exec
  have hb := B.bytes
  have hr := B.returns
  have hts0 := atoms_spec (ws := wsP yX4_init cX4_init 1 none) B.pre
  have hts : ∀ w ∈ gtbl, w.before _ s = true := fun w hw => hts0 w (List.mem_cons_of_mem _ hw)
  have hown : s.vm.findClass RX4 = some m.cls := findClass_of_methodNamed B.named
  have hlocks := B.notSynchronized
  have hin : meth.name = "<init>" := (name_of_methodNamed B.named B.method).1
  subst hsz
  have hD := hD0.self (sz := s.heap.size)
  generalize hAe : va_A [(h0, .inr (4, [.null, .null, .int 0, .int 0, .int 0]))] s.heap.size = A at hD ⊢
  have hA : ∀ q : Nat, s.heap.size ≤ q → A q := fun q h => by rw [← hAe]; exact Or.inr h
  have hS : va_S A s.heap s.heap [] := va_S.rf
  have hl := lv_entry ([.ref h0]) (n := 1) (Nat.le_of_ble_eq_true rfl)
  rw [lg_entry_eq]
  generalize (lg_sl ([.ref h0]) ++ List.replicate (1 - (lg_sl ([.ref h0])).length) Slot.unset).toArray = ls at hl ⊢
  have hl : lv_has ls 1 [(0, .ref h0)] := hl
  refine lv_aload_n hx hb dc_X4_0 rfl (lv_at hl 0 rfl) ?_
  refine W.objInit hx hb hown (hts (.methodLink RX4 3 objectInit) (mem_t (k := 186) (by decide +kernel))) (hts (.instanceMethod objectInit) (mem_t (k := 17) (by decide +kernel))) (hts (.code objectInit ⟨#[0xb1]⟩ 1 none) (mem_t (k := 18) (by decide +kernel))) rfl (by rw [hml]; exact hl.1) rfl dc_X4_1 (Nat.le_of_ble_eq_true rfl) (Nat.le_of_ble_eq_true rfl) ?_
  refine W.eq (g2 := F0 m 4 ls []) rfl ?_
  refine lv_aload_n hx hb dc_X4_4 rfl (lv_at hl 0 rfl) ?_
  refine lv_bipush (v := nI 120) hx hb dc_X4_5 (by decide) ?_
  refine va_newa (atype := .char) (N' := 120) (a0 := (120, .inl (fun _ => 0))) hx hb (hts (.arrayClass .char) (mem_t (k := 201) (by decide +kernel))) rfl hK hP hD hS hA (fun _ => rfl) (nI_nn (by decide)) (nI_clamp (by decide)) (Nat.le_of_ble_eq_true rfl) (Nat.le_of_ble_eq_true rfl) (Nat.le_of_ble_eq_true rfl) dc_X4_7 (fun q1 cA H hK1 hP hD hS => ?_)
  obtain rfl := cls_eq (i := 1) rfl hK1
  have hP : va_P D vwCl ([(h0, .inr (4, [.null, .null, .int 0, .int 0, .int 0])), (q1, .inl (dA 1, 120, .inl (fun _ => 0)))]) H := hP
  have hD : va_D A ([(h0, .inr (4, [.null, .null, .int 0, .int 0, .int 0])), (q1, .inl (dA 1, 120, .inl (fun _ => 0)))]) := hD
  refine va_putF (D := D) (ci := 4) (v := .ref q1) (ty := tyX4 0) (C := RX4) (T := TX4) (N := 5) hx hb hts i_X4 tyX4 tyX4_ok nmX4 hown hK hP hD hS 0 rfl rfl 0 (by decide) (hts (.fieldLink RX4 9 RX4 (TX4 0).2.1 (TX4 0).2.2.1) (mem_t (k := 187) (by decide +kernel))) (fun _ h9 => h9) rfl hin rfl (tyX4_ok 0 (by decide)) rfl rfl (Nat.le_of_ble_eq_true rfl) dc_X4_9 (fun H locs hP hD hS => ?_)
  have hP : va_P D vwCl ([(h0, .inr (4, [.ref q1, .null, .int 0, .int 0, .int 0])), (q1, .inl (dA 1, 120, .inl (fun _ => 0)))]) H := hP
  have hD : va_D A ([(h0, .inr (4, [.ref q1, .null, .int 0, .int 0, .int 0])), (q1, .inl (dA 1, 120, .inl (fun _ => 0)))]) := hD
  refine lv_aload_n hx hb dc_X4_12 rfl (lv_at hl 0 rfl) ?_
  refine lv_iconst (v := nI 3) hx hb dc_X4_13 (by decide) ?_
  refine va_newa (atype := .int) (N' := 3) (a0 := (3, .inl (fun _ => 0))) hx hb (hts (.arrayClass .int) (mem_t (k := 72) (by decide +kernel))) rfl hK hP hD hS hA (fun _ => rfl) (nI_nn (by decide)) (nI_clamp (by decide)) (Nat.le_of_ble_eq_true rfl) (Nat.le_of_ble_eq_true rfl) (Nat.le_of_ble_eq_true rfl) dc_X4_14 (fun q2 cA H hK1 hP hD hS => ?_)
  obtain rfl := cls_eq (i := 0) rfl hK1
  have hP : va_P D vwCl ([(h0, .inr (4, [.ref q1, .null, .int 0, .int 0, .int 0])), (q1, .inl (dA 1, 120, .inl (fun _ => 0))), (q2, .inl (dA 0, 3, .inl (fun _ => 0)))]) H := hP
  have hD : va_D A ([(h0, .inr (4, [.ref q1, .null, .int 0, .int 0, .int 0])), (q1, .inl (dA 1, 120, .inl (fun _ => 0))), (q2, .inl (dA 0, 3, .inl (fun _ => 0)))]) := hD
  refine va_putF (D := D) (ci := 4) (v := .ref q2) (ty := tyX4 1) (C := RX4) (T := TX4) (N := 5) hx hb hts i_X4 tyX4 tyX4_ok nmX4 hown hK hP hD hS 0 rfl rfl 1 (by decide) (hts (.fieldLink RX4 15 RX4 (TX4 1).2.1 (TX4 1).2.2.1) (mem_t (k := 188) (by decide +kernel))) (fun _ h9 => h9) rfl hin rfl (tyX4_ok 1 (by decide)) rfl rfl (Nat.le_of_ble_eq_true rfl) dc_X4_16 (fun H locs hP hD hS => ?_)
  have hP : va_P D vwCl ([(h0, .inr (4, [.ref q1, .ref q2, .int 0, .int 0, .int 0])), (q1, .inl (dA 1, 120, .inl (fun _ => 0))), (q2, .inl (dA 0, 3, .inl (fun _ => 0)))]) H := hP
  have hD : va_D A ([(h0, .inr (4, [.ref q1, .ref q2, .int 0, .int 0, .int 0])), (q1, .inl (dA 1, 120, .inl (fun _ => 0))), (q2, .inl (dA 0, 3, .inl (fun _ => 0)))]) := hD
  have hP : va_P D vwCl (WL dA (fun k : Key => match k.1 with | 4 => h0 | 15 => q1 | _ => q2) KP) H := hP
  have hD : va_D A (WL dA (fun k : Key => match k.1 with | 4 => h0 | 15 => q1 | _ => q2) KP) := hD
  refine W.vret hx hb hr (fun t ht hW => ⟨⟨(fun k : Key => match k.1 with | 4 => h0 | 15 => q1 | _ => q2), rfl, rfl, by rw [ht]; exact hP, va_K.moved hW.alike hK, hD⟩, hS.F ht⟩) hS.2.2 dc_X4_19
theorem WL_cg {dA : Nat → ClassId} {ad ac : Key → Nat} {KL : List Key} (h : ∀ k ∈ KL, ad k = ac k ∧ ent dA ad MZ k = ent dA ac MZ k) : WL dA ad KL = WL dA ac KL := List.map_congr_left (fun k hk => by rw [(h k hk).1, (h k hk).2])
theorem WL_pH {dA : Nat → ClassId} {ad ac : Key → Nat} (h : ∀ n K i, stkP K → ad (K, 2 + n, i) = ac (K, 2 + n, i)) : ∀ n : Nat, WL dA ad (poolH n) = WL dA ac (poolH n) := by
  intro n
  induction n with
  | zero => rfl
  | succ n ih =>
    rw [poolH, WL_app, WL_app, ih]
    congr 1
    unfold KSj
    refine WL_cg (fun k hk => ?_)
    obtain ⟨k0, hk0, rfl⟩ := List.mem_map.mp hk
    exact ⟨h n _ _ (KS_k k0 hk0).1, ent_re (h n) (KS_k k0 hk0).1⟩
theorem WL_KH {dA : Nat → ClassId} {ad ac : Key → Nat} (h : ∀ n K i, stkP K → ad (K, 2 + n, i) = ac (K, 2 + n, i)) (h2 : ad (2, 0, 0) = ac (2, 0, 0)) (h12 : ad (12, 0, 0) = ac (12, 0, 0)) : WL dA ad KH = WL dA ac KH := by
  unfold KH
  rw [WL_app, WL_app, WL_pH h]
  congr 1
  show [(ad (2, 0, 0), (Sum.inr (2, [Value.ref (ad (12, 0, 0)), .int 0, .int 0]) : va_E)), (ad (12, 0, 0), (Sum.inl (dA 5, 6, .inr (.inr (.inr (.inr (fun n => some (ad (5, 2 + n, 0))))))) : va_E))] = [(ac (2, 0, 0), (Sum.inr (2, [Value.ref (ac (12, 0, 0)), .int 0, .int 0]) : va_E)), (ac (12, 0, 0), (Sum.inl (dA 5, 6, .inr (.inr (.inr (.inr (fun n => some (ac (5, 2 + n, 0))))))) : va_E))]
  rw [h2, h12, show (fun n => some (ad (5, 2 + n, 0))) = fun n => some (ac (5, 2 + n, 0)) from funext fun n => by rw [h n 5 0 (by decide)]]
theorem dc_X7_0 : decode cX7_init 0 = .ok (.aload_n 0, 1) := by decide +kernel
theorem dc_X7_1 : decode cX7_init 1 = .ok (.invokespecial 1, 3) := by decide +kernel
theorem dc_X7_4 : decode cX7_init 4 = .ok (.aload_n 0, 1) := by decide +kernel
theorem dc_X7_5 : decode cX7_init 5 = .ok (.new 7, 3) := by decide +kernel
theorem dc_X7_8 : decode cX7_init 8 = .ok (.dup, 1) := by decide +kernel
theorem dc_X7_9 : decode cX7_init 9 = .ok (.invokespecial 9, 3) := by decide +kernel
theorem dc_X7_12 : decode cX7_init 12 = .ok (.putfield 10, 3) := by decide +kernel
theorem dc_X7_15 : decode cX7_init 15 = .ok (.aload_n 0, 1) := by decide +kernel
theorem dc_X7_16 : decode cX7_init 16 = .ok (.new 7, 3) := by decide +kernel
theorem dc_X7_19 : decode cX7_init 19 = .ok (.dup, 1) := by decide +kernel
theorem dc_X7_20 : decode cX7_init 20 = .ok (.invokespecial 9, 3) := by decide +kernel
theorem dc_X7_23 : decode cX7_init 23 = .ok (.putfield 16, 3) := by decide +kernel
theorem dc_X7_26 : decode cX7_init 26 = .ok (.aload_n 0, 1) := by decide +kernel
theorem dc_X7_27 : decode cX7_init 27 = .ok (.new 19, 3) := by decide +kernel
theorem dc_X7_30 : decode cX7_init 30 = .ok (.dup, 1) := by decide +kernel
theorem dc_X7_31 : decode cX7_init 31 = .ok (.invokespecial 21, 3) := by decide +kernel
theorem dc_X7_34 : decode cX7_init 34 = .ok (.putfield 22, 3) := by decide +kernel
theorem dc_X7_37 : decode cX7_init 37 = .ok (.aload_n 0, 1) := by decide +kernel
theorem dc_X7_38 : decode cX7_init 38 = .ok (.new 26, 3) := by decide +kernel
theorem dc_X7_41 : decode cX7_init 41 = .ok (.dup, 1) := by decide +kernel
theorem dc_X7_42 : decode cX7_init 42 = .ok (.invokespecial 28, 3) := by decide +kernel
theorem dc_X7_45 : decode cX7_init 45 = .ok (.putfield 29, 3) := by decide +kernel
theorem dc_X7_48 : decode cX7_init 48 = .ok (.return_, 1) := by decide +kernel
set_option maxHeartbeats 4000000 in
set_option maxRecDepth 100000 in
theorem b_X7 (l : Launch) (D : va_G) (dA : Nat → ClassId) : Ctor l D dA yX7_init cX7_init 1 { frames := 5, cells := 429, slots := 11977, locals := 95 } 7 [.null, .null, .null, .null] KB 429 11977 := by
  intro h0 sz
  refine Met.ofW (cc := cX7_init) (maxL := 1) (ret := none) (by decide) rfl ?_
  intro p e s m args below meth c s₁ B hml hv
  obtain ⟨rfl, hsz, hP, hK, hD0, hN⟩ := hv
  have hx := B.exec
  have hb := B.bytes
  have hr := B.returns
  have hts0 := atoms_spec (ws := wsP yX7_init cX7_init 1 none) B.pre
  have hts : ∀ w ∈ gtbl, w.before _ s = true := fun w hw => hts0 w (List.mem_cons_of_mem _ hw)
  have hown : s.vm.findClass RX7 = some m.cls := findClass_of_methodNamed B.named
  have hlocks := B.notSynchronized
  have hin : meth.name = "<init>" := (name_of_methodNamed B.named B.method).1
  subst hsz
  have hD := hD0.self (sz := s.heap.size)
  generalize hAe : va_A [(h0, .inr (7, [.null, .null, .null, .null]))] s.heap.size = A at hD ⊢
  have hA : ∀ q : Nat, s.heap.size ≤ q → A q := fun q h => by rw [← hAe]; exact Or.inr h
  have hS : va_S A s.heap s.heap [] := va_S.rf
  have hl := lv_entry ([.ref h0]) (n := 1) (Nat.le_of_ble_eq_true rfl)
  rw [lg_entry_eq]
  generalize (lg_sl ([.ref h0]) ++ List.replicate (1 - (lg_sl ([.ref h0])).length) Slot.unset).toArray = ls at hl ⊢
  have hl : lv_has ls 1 [(0, .ref h0)] := hl
  refine lv_aload_n hx hb dc_X7_0 rfl (lv_at hl 0 rfl) ?_
  refine W.objInit hx hb hown (hts (.methodLink RX7 1 objectInit) (mem_t (k := 16) (by decide +kernel))) (hts (.instanceMethod objectInit) (mem_t (k := 17) (by decide +kernel))) (hts (.code objectInit ⟨#[0xb1]⟩ 1 none) (mem_t (k := 18) (by decide +kernel))) rfl (by rw [hml]; exact hl.1) rfl dc_X7_1 (Nat.le_of_ble_eq_true rfl) (Nat.le_of_ble_eq_true rfl) ?_
  refine W.eq (g2 := F0 m 4 ls []) rfl ?_
  refine lv_aload_n hx hb dc_X7_4 rfl (lv_at hl 0 rfl) ?_
  refine va_new (ci := 5) (fs := [.null, .null, .null, .int 0, .int 0, .int 0, .int 0, .int 0, .int 0, .int 0]) (C := RX5) (T := TX5) (N := 10) hx hb hts i_X5 tyX5 tyX5_ok hown (hts (.classLink RX7 7 RX5) (mem_t (k := 19) (by decide +kernel))) (hts (.instantiable RX5 10) (mem_t (k := 20) (by decide +kernel))) (hts (.initialized RX5) (mem_t (k := 2) (by decide +kernel))) hK hP hD hS hA rfl (by decide +kernel) (Nat.le_of_ble_eq_true rfl) (Nat.le_of_ble_eq_true rfl) dc_X7_5 (fun q1 H hP hD hS => ?_)
  refine lv_dup hx hb dc_X7_8 rfl ?_
  refine ctor_I (b_X5 l D dA) ⟨hx, hb, hml, hown, hts⟩ (mem_t (k := 2) (by decide +kernel)) (mem_t (k := 21) (by decide +kernel)) (mem_t (k := 22) (by decide +kernel)) (mem_t (k := 23) (by decide +kernel)) rfl (by decide +kernel) rfl rfl ⟨Nat.le_of_ble_eq_true rfl, Nat.le_of_ble_eq_true rfl⟩ hK hN hP hD hS hA hl.1 (Nat.le_of_ble_eq_true rfl) dc_X7_9 ⟨Nat.le_of_ble_eq_true rfl, Nat.le_of_ble_eq_true rfl⟩ (fun ad0 H locs h_ad0 hP hD hS => ?_)
  have hP : va_P D vwCl (([(h0, .inr (7, [.null, .null, .null, .null]))]) ++ WL dA ad0 KS) H := hP
  have hD : va_D A (([(h0, .inr (7, [.null, .null, .null, .null]))]) ++ WL dA ad0 KS) := hD
  refine va_putF (D := D) (ci := 7) (v := .ref q1) (ty := tyX7 0) (C := RX7) (T := TX7) (N := 4) hx hb hts i_X7 tyX7 tyX7_ok nmX7 hown hK hP hD hS 0 rfl rfl 0 (by decide) (hts (.fieldLink RX7 10 RX7 (TX7 0).2.1 (TX7 0).2.2.1) (mem_t (k := 202) (by decide +kernel))) (fun _ h9 => h9) rfl hin rfl (tyX7_ok 0 (by decide)) rfl rfl (Nat.le_of_ble_eq_true rfl) dc_X7_12 (fun H locs hP hD hS => ?_)
  have hP : va_P D vwCl (([(h0, .inr (7, [.ref q1, .null, .null, .null]))]) ++ WL dA ad0 KS) H := hP
  have hD : va_D A (([(h0, .inr (7, [.ref q1, .null, .null, .null]))]) ++ WL dA ad0 KS) := hD
  refine lv_aload_n hx hb dc_X7_15 rfl (lv_at hl 0 rfl) ?_
  refine va_new (ci := 5) (fs := [.null, .null, .null, .int 0, .int 0, .int 0, .int 0, .int 0, .int 0, .int 0]) (C := RX5) (T := TX5) (N := 10) hx hb hts i_X5 tyX5 tyX5_ok hown (hts (.classLink RX7 7 RX5) (mem_t (k := 19) (by decide +kernel))) (hts (.instantiable RX5 10) (mem_t (k := 20) (by decide +kernel))) (hts (.initialized RX5) (mem_t (k := 2) (by decide +kernel))) hK hP hD hS hA rfl (by decide +kernel) (Nat.le_of_ble_eq_true rfl) (Nat.le_of_ble_eq_true rfl) dc_X7_16 (fun q2 H hP hD hS => ?_)
  refine lv_dup hx hb dc_X7_19 rfl ?_
  refine ctor_I (b_X5 l D dA) ⟨hx, hb, hml, hown, hts⟩ (mem_t (k := 2) (by decide +kernel)) (mem_t (k := 21) (by decide +kernel)) (mem_t (k := 22) (by decide +kernel)) (mem_t (k := 23) (by decide +kernel)) rfl (by decide +kernel) rfl rfl ⟨Nat.le_of_ble_eq_true rfl, Nat.le_of_ble_eq_true rfl⟩ hK hN hP hD hS hA hl.1 (Nat.le_of_ble_eq_true rfl) dc_X7_20 ⟨Nat.le_of_ble_eq_true rfl, Nat.le_of_ble_eq_true rfl⟩ (fun ad1 H locs h_ad1 hP hD hS => ?_)
  have hP : va_P D vwCl ((([(h0, .inr (7, [.ref q1, .null, .null, .null]))]) ++ WL dA ad0 KS) ++ WL dA ad1 KS) H := hP
  have hD : va_D A ((([(h0, .inr (7, [.ref q1, .null, .null, .null]))]) ++ WL dA ad0 KS) ++ WL dA ad1 KS) := hD
  refine va_putF (D := D) (ci := 7) (v := .ref q2) (ty := tyX7 1) (C := RX7) (T := TX7) (N := 4) hx hb hts i_X7 tyX7 tyX7_ok nmX7 hown hK hP hD hS 0 rfl rfl 1 (by decide) (hts (.fieldLink RX7 16 RX7 (TX7 1).2.1 (TX7 1).2.2.1) (mem_t (k := 203) (by decide +kernel))) (fun _ h9 => h9) rfl hin rfl (tyX7_ok 1 (by decide)) rfl rfl (Nat.le_of_ble_eq_true rfl) dc_X7_23 (fun H locs hP hD hS => ?_)
  have hP : va_P D vwCl ((([(h0, .inr (7, [.ref q1, .ref q2, .null, .null]))]) ++ WL dA ad0 KS) ++ WL dA ad1 KS) H := hP
  have hD : va_D A ((([(h0, .inr (7, [.ref q1, .ref q2, .null, .null]))]) ++ WL dA ad0 KS) ++ WL dA ad1 KS) := hD
  refine lv_aload_n hx hb dc_X7_26 rfl (lv_at hl 0 rfl) ?_
  refine va_new (ci := 2) (fs := [.null, .int 0, .int 0]) (C := RX2) (T := TX2) (N := 3) hx hb hts i_X2 tyX2 tyX2_ok hown (hts (.classLink RX7 19 RX2) (mem_t (k := 161) (by decide +kernel))) (hts (.instantiable RX2 3) (mem_t (k := 162) (by decide +kernel))) (hts (.initialized RX2) (mem_t (k := 7) (by decide +kernel))) hK hP hD hS hA rfl (by decide +kernel) (Nat.le_of_ble_eq_true rfl) (Nat.le_of_ble_eq_true rfl) dc_X7_27 (fun q3 H hP hD hS => ?_)
  refine lv_dup hx hb dc_X7_30 rfl ?_
  refine ctor_I (b_X2 l D dA) ⟨hx, hb, hml, hown, hts⟩ (mem_t (k := 7) (by decide +kernel)) (mem_t (k := 163) (by decide +kernel)) (mem_t (k := 164) (by decide +kernel)) (mem_t (k := 165) (by decide +kernel)) rfl (by decide +kernel) rfl rfl ⟨Nat.le_of_ble_eq_true rfl, Nat.le_of_ble_eq_true rfl⟩ hK hN hP hD hS hA hl.1 (Nat.le_of_ble_eq_true rfl) dc_X7_31 ⟨Nat.le_of_ble_eq_true rfl, Nat.le_of_ble_eq_true rfl⟩ (fun adH H locs h_adH hP hD hS => ?_)
  have hP : va_P D vwCl (((([(h0, .inr (7, [.ref q1, .ref q2, .null, .null]))]) ++ WL dA ad0 KS) ++ WL dA ad1 KS) ++ WL dA adH KH) H := hP
  have hD : va_D A (((([(h0, .inr (7, [.ref q1, .ref q2, .null, .null]))]) ++ WL dA ad0 KS) ++ WL dA ad1 KS) ++ WL dA adH KH) := hD
  refine va_putF (D := D) (ci := 7) (v := .ref q3) (ty := tyX7 2) (C := RX7) (T := TX7) (N := 4) hx hb hts i_X7 tyX7 tyX7_ok nmX7 hown hK hP hD hS 0 rfl rfl 2 (by decide) (hts (.fieldLink RX7 22 RX7 (TX7 2).2.1 (TX7 2).2.2.1) (mem_t (k := 204) (by decide +kernel))) (fun _ h9 => h9) rfl hin rfl (tyX7_ok 2 (by decide)) rfl rfl (Nat.le_of_ble_eq_true rfl) dc_X7_34 (fun H locs hP hD hS => ?_)
  have hP : va_P D vwCl (((([(h0, .inr (7, [.ref q1, .ref q2, .ref q3, .null]))]) ++ WL dA ad0 KS) ++ WL dA ad1 KS) ++ WL dA adH KH) H := hP
  have hD : va_D A (((([(h0, .inr (7, [.ref q1, .ref q2, .ref q3, .null]))]) ++ WL dA ad0 KS) ++ WL dA ad1 KS) ++ WL dA adH KH) := hD
  refine lv_aload_n hx hb dc_X7_37 rfl (lv_at hl 0 rfl) ?_
  refine va_new (ci := 4) (fs := [.null, .null, .int 0, .int 0, .int 0]) (C := RX4) (T := TX4) (N := 5) hx hb hts i_X4 tyX4 tyX4_ok hown (hts (.classLink RX7 26 RX4) (mem_t (k := 181) (by decide +kernel))) (hts (.instantiable RX4 5) (mem_t (k := 182) (by decide +kernel))) (hts (.initialized RX4) (mem_t (k := 8) (by decide +kernel))) hK hP hD hS hA rfl (by decide +kernel) (Nat.le_of_ble_eq_true rfl) (Nat.le_of_ble_eq_true rfl) dc_X7_38 (fun q4 H hP hD hS => ?_)
  refine lv_dup hx hb dc_X7_41 rfl ?_
  refine ctor_I (b_X4 l D dA) ⟨hx, hb, hml, hown, hts⟩ (mem_t (k := 8) (by decide +kernel)) (mem_t (k := 183) (by decide +kernel)) (mem_t (k := 184) (by decide +kernel)) (mem_t (k := 185) (by decide +kernel)) rfl (by decide +kernel) rfl rfl ⟨Nat.le_of_ble_eq_true rfl, Nat.le_of_ble_eq_true rfl⟩ hK hN hP hD hS hA hl.1 (Nat.le_of_ble_eq_true rfl) dc_X7_42 ⟨Nat.le_of_ble_eq_true rfl, Nat.le_of_ble_eq_true rfl⟩ (fun adP H locs h_adP hP hD hS => ?_)
  have hP : va_P D vwCl ((((([(h0, .inr (7, [.ref q1, .ref q2, .ref q3, .null]))]) ++ WL dA ad0 KS) ++ WL dA ad1 KS) ++ WL dA adH KH) ++ WL dA adP KP) H := hP
  have hD : va_D A ((((([(h0, .inr (7, [.ref q1, .ref q2, .ref q3, .null]))]) ++ WL dA ad0 KS) ++ WL dA ad1 KS) ++ WL dA adH KH) ++ WL dA adP KP) := hD
  refine va_putF (D := D) (ci := 7) (v := .ref q4) (ty := tyX7 3) (C := RX7) (T := TX7) (N := 4) hx hb hts i_X7 tyX7 tyX7_ok nmX7 hown hK hP hD hS 0 rfl rfl 3 (by decide) (hts (.fieldLink RX7 29 RX7 (TX7 3).2.1 (TX7 3).2.2.1) (mem_t (k := 205) (by decide +kernel))) (fun _ h9 => h9) rfl hin rfl (tyX7_ok 3 (by decide)) rfl rfl (Nat.le_of_ble_eq_true rfl) dc_X7_45 (fun H locs hP hD hS => ?_)
  have hP : va_P D vwCl ((((([(h0, .inr (7, [.ref q1, .ref q2, .ref q3, .ref q4]))]) ++ WL dA ad0 KS) ++ WL dA ad1 KS) ++ WL dA adH KH) ++ WL dA adP KP) H := hP
  have hD : va_D A ((((([(h0, .inr (7, [.ref q1, .ref q2, .ref q3, .ref q4]))]) ++ WL dA ad0 KS) ++ WL dA ad1 KS) ++ WL dA adH KH) ++ WL dA adP KP) := hD
  have hst : ∀ K, stkP K → ¬ K = 7 ∧ ¬ (K = 4 ∨ K = 15 ∨ K = 16) ∧ ¬ (K = 2 ∨ K = 12) := fun K hK => by omega
  generalize hAd : (fun k : Key => if k.1 = 7 then h0 else if k.1 = 4 ∨ k.1 = 15 ∨ k.1 = 16 then adP k else if k.1 = 2 ∨ k.1 = 12 then adH k else if k.2.1 = 0 then ad0 (k.1, 0, k.2.2) else if k.2.1 = 1 then ad1 (k.1, 0, k.2.2) else adH k) = ad
  have g0 : ∀ K i, stkP K → ad (K, 0, i) = ad0 (K, 0, i) := fun K i hK => by
    obtain ⟨x1, x2, x3⟩ := hst K hK
    rw [← hAd]
    show (if K = 7 then h0 else if K = 4 ∨ K = 15 ∨ K = 16 then _ else if K = 2 ∨ K = 12 then _ else if (0 : Nat) = 0 then ad0 (K, 0, i) else _) = _
    rw [if_neg x1, if_neg x2, if_neg x3, if_pos rfl]
  have g1 : ∀ K i, stkP K → ad (K, 1, i) = ad1 (K, 0, i) := fun K i hK => by
    obtain ⟨x1, x2, x3⟩ := hst K hK
    rw [← hAd]
    show (if K = 7 then h0 else if K = 4 ∨ K = 15 ∨ K = 16 then _ else if K = 2 ∨ K = 12 then _ else if (1 : Nat) = 0 then _ else if (1 : Nat) = 1 then ad1 (K, 0, i) else _) = _
    rw [if_neg x1, if_neg x2, if_neg x3, if_neg (by decide), if_pos rfl]
  have g2 : ∀ n K i, stkP K → ad (K, 2 + n, i) = adH (K, 2 + n, i) := fun n K i hK => by
    obtain ⟨x1, x2, x3⟩ := hst K hK
    rw [← hAd]
    show (if K = 7 then h0 else if K = 4 ∨ K = 15 ∨ K = 16 then _ else if K = 2 ∨ K = 12 then _ else if 2 + n = 0 then _ else if 2 + n = 1 then _ else adH (K, 2 + n, i)) = _
    rw [if_neg x1, if_neg x2, if_neg x3, if_neg (by omega), if_neg (by omega)]
  have g7 : ad (7, 0, 0) = h0 := by rw [← hAd]; rfl
  have gH : ad (2, 0, 0) = adH (2, 0, 0) := by rw [← hAd]; rfl
  have gR : ad (12, 0, 0) = adH (12, 0, 0) := by rw [← hAd]; rfl
  have g4 : ad (4, 0, 0) = adP (4, 0, 0) := by rw [← hAd]; rfl
  have g15 : ad (15, 0, 0) = adP (15, 0, 0) := by rw [← hAd]; rfl
  have g16 : ad (16, 0, 0) = adP (16, 0, 0) := by rw [← hAd]; rfl
  have eP : WL dA ad KP = WL dA adP KP := by
    show [(ad (4, 0, 0), (Sum.inr (4, [Value.ref (ad (15, 0, 0)), .ref (ad (16, 0, 0)), .int 0, .int 0, .int 0]) : va_E)), (ad (15, 0, 0), _), (ad (16, 0, 0), _)] = [(adP (4, 0, 0), (Sum.inr (4, [Value.ref (adP (15, 0, 0)), .ref (adP (16, 0, 0)), .int 0, .int 0, .int 0]) : va_E)), (adP (15, 0, 0), _), (adP (16, 0, 0), _)]
    rw [g4, g15, g16]
    rfl
  have eB : WL dA ad [(7, 0, 0)] = [(h0, .inr (7, [.ref q1, .ref q2, .ref q3, .ref q4]))] := by
    show [(ad (7, 0, 0), (Sum.inr (7, [Value.ref (ad (5, 0, 0)), .ref (ad (5, 1, 0)), .ref (ad (2, 0, 0)), .ref (ad (4, 0, 0))]) : va_E))] = _
    rw [g7, g0 5 0 (by decide), g1 5 0 (by decide), gH, g4, h_ad0, h_ad1, h_adH, h_adP]
  have eW : WL dA ad KB = ((([(h0, .inr (7, [.ref q1, .ref q2, .ref q3, .ref q4]))] ++ WL dA ad0 KS) ++ WL dA ad1 KS) ++ WL dA adH KH) ++ WL dA adP KP := by
    unfold KB
    rw [WL_app, WL_app, WL_app, WL_app, eB, WL_re g0, WL_re g1, WL_KH g2 gH gR, eP]
  rw [← eW] at hP hD
  refine W.vret hx hb hr (fun t ht hW => ⟨⟨ad, rfl, g7, by rw [ht]; exact hP, va_K.moved hW.alike hK, hD⟩, hS.F ht⟩) hS.2.2 dc_X7_48
