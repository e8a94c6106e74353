/-! 55: constructors: Floor -/
def KF : List Key := [(1, 0, 0), (9, 0, 0)] ++ (List.range 6).map (fun k => (0, 0, k)) ++ [(13, 0, 0), (14, 0, 0)]
theorem rng_push {β : Type} (f g : Nat → β) (n : Nat) (x : β) (h : ∀ k, k < n → g k = f k) (hx : g n = x) : (List.range (n + 1)).map g = (List.range n).map f ++ [x] := by
  rw [List.range_succ, List.map_append, List.map_cons, List.map_nil, hx]
  congr 1
  exact List.map_congr_left (fun k hk => h k (List.mem_range.mp hk))
theorem up_q {f g : Nat → Option Nat} {n a : Nat} {h : Nat → Nat} (hn : n < 2147483648) (hf : f = fun k => if k < n then some (h k) else none) (hg : g = fun k => if k < n + 1 then some (va_up h n a k) else none) : va_up f (nI n).toNatClampNeg (some a) = g := by
  rw [nI_clamp (show n < 2 ^ 31 from hn), hf, hg]
  funext k
  unfold va_up
  by_cases z : k = n
  · rw [if_pos z, if_pos (by omega), if_pos z]
  · rw [if_neg z]
    show (if k < n then some (h k) else none) = if k < n + 1 then some (if k = n then a else h k) else none
    by_cases y : k < n
    · rw [if_pos y, if_pos (by omega), if_neg z]
    · rw [if_neg y, if_neg (by omega)]
theorem dc_X1_0 : decode cX1_init 0 = .ok (.aload_n 0, 1) := by decide +kernel
theorem dc_X1_1 : decode cX1_init 1 = .ok (.invokespecial 3, 3) := by decide +kernel
theorem dc_X1_4 : decode cX1_init 4 = .ok (.aload_n 0, 1) := by decide +kernel
theorem dc_X1_5 : decode cX1_init 5 = .ok (.bipush 6, 2) := by decide +kernel
theorem dc_X1_7 : decode cX1_init 7 = .ok (.anewarray 9, 3) := by decide +kernel
theorem dc_X1_10 : decode cX1_init 10 = .ok (.putfield 11, 3) := by decide +kernel
theorem dc_X1_13 : decode cX1_init 13 = .ok (.iconst 0, 1) := by decide +kernel
theorem dc_X1_14 : decode cX1_init 14 = .ok (.istore_n 1, 1) := by decide +kernel
theorem dc_X1_15 : decode cX1_init 15 = .ok (.iload_n 1, 1) := by decide +kernel
theorem dc_X1_16 : decode cX1_init 16 = .ok (.bipush 6, 2) := by decide +kernel
theorem dc_X1_18 : decode cX1_init 18 = .ok (.if_icmp .ge 22, 3) := by decide +kernel
theorem dc_X1_21 : decode cX1_init 21 = .ok (.aload_n 0, 1) := by decide +kernel
theorem dc_X1_22 : decode cX1_init 22 = .ok (.getfield 11, 3) := by decide +kernel
theorem dc_X1_25 : decode cX1_init 25 = .ok (.iload_n 1, 1) := by decide +kernel
theorem dc_X1_26 : decode cX1_init 26 = .ok (.new 9, 3) := by decide +kernel
theorem dc_X1_29 : decode cX1_init 29 = .ok (.dup, 1) := by decide +kernel
theorem dc_X1_30 : decode cX1_init 30 = .ok (.invokespecial 17, 3) := by decide +kernel
theorem dc_X1_33 : decode cX1_init 33 = .ok (.aastore, 1) := by decide +kernel
theorem dc_X1_34 : decode cX1_init 34 = .ok (.iinc 1 1, 3) := by decide +kernel
theorem dc_X1_37 : decode cX1_init 37 = .ok (.goto (-22), 3) := by decide +kernel
theorem dc_X1_40 : decode cX1_init 40 = .ok (.aload_n 0, 1) := by decide +kernel
theorem dc_X1_41 : decode cX1_init 41 = .ok (.sipush 600, 3) := by decide +kernel
theorem dc_X1_44 : decode cX1_init 44 = .ok (.newarray .int, 2) := by decide +kernel
theorem dc_X1_46 : decode cX1_init 46 = .ok (.putfield 18, 3) := by decide +kernel
theorem dc_X1_49 : decode cX1_init 49 = .ok (.aload_n 0, 1) := by decide +kernel
theorem dc_X1_50 : decode cX1_init 50 = .ok (.sipush 600, 3) := by decide +kernel
theorem dc_X1_53 : decode cX1_init 53 = .ok (.newarray .int, 2) := by decide +kernel
theorem dc_X1_55 : decode cX1_init 55 = .ok (.putfield 22, 3) := by decide +kernel
theorem dc_X1_58 : decode cX1_init 58 = .ok (.return_, 1) := by decide +kernel
set_option maxHeartbeats 4000000 in
set_option maxRecDepth 100000 in
theorem fl_loop {p : Program} {l : Launch} {e : Env} {R : Room} {s : State} {m : MethodId} {args : Array Value} {below : List Frame} {meth : Method} {c : Code} {Q : State → Prop} {D : va_G} {dA : Nat → ClassId} {A : Nat → Prop} {h0 q1 : Nat} (hx : p.tables.exec = Jvm.exec) (hb : c.code = cX1_init) (hml : c.maxLocals = 2) (hown : s.vm.findClass RX1 = some m.cls) (hts : ∀ w ∈ gtbl, w.before args s = true) (hK : va_K D vwCl (tysA dA) s) (hN : Nst s) (hA : ∀ q : Nat, s.heap.size ≤ q → A q) (hRf : 2 ≤ R.frames ∧ 32 ≤ R.locals ∧ 9 ≤ R.cells ∧ 1224 ≤ R.slots)
    (kk : ∀ (ab : Nat → Nat) (H : Heap) (locs : List Loc) (ls : Array Slot), va_P D vwCl ([(h0, .inr (1, [.ref q1, .null, .null, .int 0, .int 0, .int 0])), (q1, .inl (dA 2, 6, .inr (.inr (.inr (.inr (fun k => if k < 6 then some (ab k) else none))))))] ++ (List.range 6).map (fun k => (ab k, (.inr (0, [.int 0, .int 0, .int 0]) : va_E)))) H → va_D A ([(h0, .inr (1, [.ref q1, .null, .null, .int 0, .int 0, .int 0])), (q1, .inl (dA 2, 6, .inr (.inr (.inr (.inr (fun k => if k < 6 then some (ab k) else none))))))] ++ (List.range 6).map (fun k => (ab k, (.inr (0, [.int 0, .int 0, .int 0]) : va_E)))) → va_S A s.heap H locs → lv_has ls 2 [(1, .int (nI 6)), (0, .ref h0)] → W p l e R s m args below meth c H locs 7 24 Q (F0 m 40 ls [])) :
    ∀ (n i : Nat), i + n = 6 → ∀ (ab : Nat → Nat) (H : Heap) (locs : List Loc) (ls : Array Slot), va_P D vwCl ([(h0, .inr (1, [.ref q1, .null, .null, .int 0, .int 0, .int 0])), (q1, .inl (dA 2, 6, .inr (.inr (.inr (.inr (fun k => if k < i then some (ab k) else none))))))] ++ (List.range i).map (fun k => (ab k, (.inr (0, [.int 0, .int 0, .int 0]) : va_E)))) H → va_D A ([(h0, .inr (1, [.ref q1, .null, .null, .int 0, .int 0, .int 0])), (q1, .inl (dA 2, 6, .inr (.inr (.inr (.inr (fun k => if k < i then some (ab k) else none))))))] ++ (List.range i).map (fun k => (ab k, (.inr (0, [.int 0, .int 0, .int 0]) : va_E)))) → va_S A s.heap H locs → lv_has ls 2 [(1, .int (nI i)), (0, .ref h0)] → W p l e R s m args below meth c H locs (1 + i) (6 + 3 * i) Q (F0 m 15 ls []) := by
  intro n
  induction n with
  | zero =>
    intro i hi ab H locs ls hP hD hS hl
    obtain rfl : i = 6 := by omega
    refine lv_iload_n hx hb dc_X1_15 rfl (lv_at hl 0 rfl) ?_
    refine lv_bipush (v := nI 6) hx hb dc_X1_16 (by decide) ?_
    refine lv_icmp_ge (tgt := 40) hx hb dc_X1_18 (by decide) (fun c_18 => ?_) (fun c_18 => absurd (nI_le (Nat.le_refl 6) (by decide)) c_18)
    exact kk ab H locs ls hP hD hS hl
  | succ n ih =>
    intro i hi ab H locs ls hP hD hS hl
    refine lv_iload_n hx hb dc_X1_15 rfl (lv_at hl 0 rfl) ?_
    refine lv_bipush (v := nI 6) hx hb dc_X1_16 (by decide) ?_
    refine lv_icmp_ge (tgt := 40) hx hb dc_X1_18 (by decide) (fun c_18 => absurd c_18 (nI_gtl (show i < 6 by omega) (by decide))) (fun c_18 => ?_)
    refine lv_aload_n hx hb dc_X1_21 rfl (lv_at hl 1 rfl) ?_
    refine va_get (D := D) (ci := 1) (v := .ref q1) (C := RX1) (T := TX1) (N := 6) hx hb hts i_X1 hown hK hP 0 rfl rfl 0 (by decide) (hts (.fieldLink RX1 11 RX1 (TX1 0).2.1 (TX1 0).2.2.1) (mem_t (k := 51) (by decide +kernel))) (fun _ h9 => h9) rfl dc_X1_22 ?_
    refine lv_iload_n hx hb dc_X1_25 rfl (lv_at hl 0 rfl) ?_
    refine va_new (ci := 0) (fs := [.int 0, .int 0, .int 0]) (C := RX0) (T := TX0) (N := 3) hx hb hts i_X0 tyX0 tyX0_ok hown (hts (.classLink RX1 9 RX0) (mem_t (k := 31) (by decide +kernel))) (hts (.instantiable RX0 3) (mem_t (k := 33) (by decide +kernel))) (hts (.initialized RX0) (mem_t (k := 4) (by decide +kernel))) hK hP hD hS hA rfl (by decide +kernel) (show 1 + i + 1 ≤ R.cells by omega) (show 6 + 3 * i + 3 ≤ R.slots by omega) dc_X1_26 (fun q2 H hP hD hS => ?_)
    refine lv_dup hx hb dc_X1_29 rfl ?_
    refine ctor_N (b_X0 l D dA) ⟨hx, hb, hml, hown, hts⟩ (mem_t (k := 4) (by decide +kernel)) hN.1.1 (mem_t (k := 35) (by decide +kernel)) (mem_t (k := 36) (by decide +kernel)) rfl (by decide +kernel) rfl rfl ⟨by show 1 + 1 ≤ R.frames; omega, by show 8 + (1 + 11) + 12 ≤ R.locals; omega⟩ hK hN hP hD hS hA hl.1 (Nat.le_of_ble_eq_true rfl) dc_X1_30 ⟨show 1 + i + 1 + 0 ≤ R.cells by omega, show 6 + 3 * i + 3 + 0 ≤ R.slots by omega⟩ (fun ad0 H locs h_ad0 hP hD hS => ?_)
    have eW : WL dA ad0 [(0, 0, 0)] = [(q2, (.inr (0, [.int 0, .int 0, .int 0]) : va_E))] := by rw [← h_ad0]; rfl
    rw [eW] at hP hD
    refine va_astq (ci := 0) hx hb hK hP hD hS 1 2 (([(h0, .inr (1, [.ref q1, .null, .null, .int 0, .int 0, .int 0])), (q1, .inl (dA 2, 6, .inr (.inr (.inr (.inr (fun k => if k < i then some (ab k) else none))))))] ++ (List.range i).map (fun k => (ab k, (.inr (0, [.int 0, .int 0, .int 0]) : va_E))) : va_W).length) rfl rfl List.getElem?_concat_length rfl (vp_in_nI (show i < 6 by omega) (by decide)) dc_X1_33 (fun H locs hP hD hS => ?_)
    have eX : ((([(h0, .inr (1, [.ref q1, .null, .null, .int 0, .int 0, .int 0])), (q1, .inl (dA 2, 6, .inr (.inr (.inr (.inr (fun k => if k < i then some (ab k) else none))))))] ++ (List.range i).map (fun k => (ab k, (.inr (0, [.int 0, .int 0, .int 0]) : va_E)))) ++ [(q2, (.inr (0, [.int 0, .int 0, .int 0]) : va_E))] : va_W).set 1 (q1, .inl (dA 2, 6, .inr (.inr (.inr (.inr (va_up (fun k => if k < i then some (ab k) else none) (nI i).toNatClampNeg (some q2)))))))) = [(h0, .inr (1, [.ref q1, .null, .null, .int 0, .int 0, .int 0])), (q1, .inl (dA 2, 6, .inr (.inr (.inr (.inr (fun k => if k < (i + 1) then some ((va_up ab i q2) k) else none))))))] ++ (List.range (i + 1)).map (fun k => ((va_up ab i q2) k, (.inr (0, [.int 0, .int 0, .int 0]) : va_E))) := by
      rw [up_q (show i < 2147483648 by omega) rfl rfl, rng_push (fun k => (ab k, (.inr (0, [.int 0, .int 0, .int 0]) : va_E))) (fun k => (va_up ab i q2 k, (.inr (0, [.int 0, .int 0, .int 0]) : va_E))) i (q2, (.inr (0, [.int 0, .int 0, .int 0]) : va_E)) (fun k hk => by show (va_up ab i q2 k, _) = _; rw [show va_up ab i q2 k = ab k from if_neg (by omega)]) (by show (va_up ab i q2 i, _) = _; rw [show va_up ab i q2 i = q2 from if_pos rfl])]
      rfl
    have hP2 := eX ▸ hP
    have hD2 := eX ▸ hD
    refine lv_iinc (v := nI (i + 1)) (lv' := [(1, .int (nI (i + 1))), (0, .ref h0)]) hx hb dc_X1_34 hl (k := 0) rfl (nI_1 i) (by decide) rfl (fun ls hl => ?_)
    refine lv_goto (tgt := 15) hx hb dc_X1_37 (by decide) ?_
    refine W.widen (k := 1 + (i + 1)) (n := 6 + 3 * (i + 1)) (by omega) (by omega) ?_
    exact ih (i + 1) (by omega) (va_up ab i q2) H locs ls hP2 hD2 hS hl
set_option maxHeartbeats 4000000 in
set_option maxRecDepth 100000 in
theorem b_X1 (l : Launch) (D : va_G) (dA : Nat → ClassId) : Ctor l D dA yX1_init cX1_init 2 { frames := 2, cells := 9, slots := 1224, locals := 32 } 1 [.null, .null, .null, .int 0, .int 0, .int 0] KF 9 1224 := by
  intro h0 sz
  refine Met.ofW (cc := cX1_init) (maxL := 2) (ret := none) (by decide) rfl ?_
  intro p e s m args below meth c s₁ B hml hv
  obtain ⟨rfl, hsz, hP, hK, hD0, hN⟩ := hv
  have hx := B.exec
  have hb := B.bytes
  have hr := B.returns
  have hts0 := atoms_spec (ws := wsP yX1_init cX1_init 2 none) B.pre
  have hts : ∀ w ∈ gtbl, w.before _ s = true := fun w hw => hts0 w (List.mem_cons_of_mem _ hw)
  have hown : s.vm.findClass RX1 = some m.cls := findClass_of_methodNamed B.named
  have hlocks := B.notSynchronized
  have hin : meth.name = "<init>" := (name_of_methodNamed B.named B.method).1
  subst hsz
  have hD := hD0.self (sz := s.heap.size)
  generalize hAe : va_A [(h0, .inr (1, [.null, .null, .null, .int 0, .int 0, .int 0]))] s.heap.size = A at hD ⊢
  have hA : ∀ q : Nat, s.heap.size ≤ q → A q := fun q h => by rw [← hAe]; exact Or.inr h
  have hS : va_S A s.heap s.heap [] := va_S.rf
  have hl := lv_entry ([.ref h0]) (n := 2) (Nat.le_of_ble_eq_true rfl)
  rw [lg_entry_eq]
  generalize (lg_sl ([.ref h0]) ++ List.replicate (2 - (lg_sl ([.ref h0])).length) Slot.unset).toArray = ls at hl ⊢
  have hl : lv_has ls 2 [(0, .ref h0)] := hl
  refine lv_aload_n hx hb dc_X1_0 rfl (lv_at hl 0 rfl) ?_
  refine W.objInit hx hb hown (hts (.methodLink RX1 3 objectInit) (mem_t (k := 30) (by decide +kernel))) (hts (.instanceMethod objectInit) (mem_t (k := 17) (by decide +kernel))) (hts (.code objectInit ⟨#[0xb1]⟩ 1 none) (mem_t (k := 18) (by decide +kernel))) rfl (by rw [hml]; exact hl.1) rfl dc_X1_1 (Nat.le_of_ble_eq_true rfl) (Nat.le_of_ble_eq_true rfl) ?_
  refine W.eq (g2 := F0 m 4 ls []) rfl ?_
  refine lv_aload_n hx hb dc_X1_4 rfl (lv_at hl 0 rfl) ?_
  refine lv_bipush (v := nI 6) hx hb dc_X1_5 (by decide) ?_
  refine va_newq (C := RX0) (N' := 6) hx hb hown (hts (.classLink RX1 9 RX0) (mem_t (k := 31) (by decide +kernel))) hN.2.1 hK hP hD hS hA (nI_nn (by decide)) (nI_clamp (by decide)) (Nat.le_of_ble_eq_true rfl) (Nat.le_of_ble_eq_true rfl) (Nat.le_of_ble_eq_true rfl) dc_X1_7 (fun q1 cA H hK1 hP hD hS => ?_)
  obtain rfl := cls_eq (i := 2) rfl hK1
  have hP : va_P D vwCl ([(h0, .inr (1, [.null, .null, .null, .int 0, .int 0, .int 0])), (q1, .inl (dA 2, 6, .inr (.inr (.inr (.inr (fun _ => none))))))]) H := hP
  have hD : va_D A ([(h0, .inr (1, [.null, .null, .null, .int 0, .int 0, .int 0])), (q1, .inl (dA 2, 6, .inr (.inr (.inr (.inr (fun _ => none))))))]) := hD
  refine va_putF (D := D) (ci := 1) (v := .ref q1) (ty := tyX1 0) (C := RX1) (T := TX1) (N := 6) hx hb hts i_X1 tyX1 tyX1_ok nmX1 hown hK hP hD hS 0 rfl rfl 0 (by decide) (hts (.fieldLink RX1 11 RX1 (TX1 0).2.1 (TX1 0).2.2.1) (mem_t (k := 51) (by decide +kernel))) (fun _ h9 => h9) rfl hin rfl (tyX1_ok 0 (by decide)) rfl rfl (Nat.le_of_ble_eq_true rfl) dc_X1_10 (fun H locs hP hD hS => ?_)
  refine lv_iconst (v := nI 0) hx hb dc_X1_13 (by decide) ?_
  refine lv_istore_n (lv' := [(1, .int (nI 0)), (0, .ref h0)]) hx hb dc_X1_14 rfl hl (by decide) rfl (fun ls hl => ?_)
  have hP : va_P D vwCl ([(h0, .inr (1, [.ref q1, .null, .null, .int 0, .int 0, .int 0])), (q1, .inl (dA 2, 6, .inr (.inr (.inr (.inr (fun k => if k < 0 then some ((fun _ => 0) k) else none))))))] ++ (List.range 0).map (fun k => ((fun _ => 0) k, (.inr (0, [.int 0, .int 0, .int 0]) : va_E)))) H := hP
  have hD : va_D A ([(h0, .inr (1, [.ref q1, .null, .null, .int 0, .int 0, .int 0])), (q1, .inl (dA 2, 6, .inr (.inr (.inr (.inr (fun k => if k < 0 then some ((fun _ => 0) k) else none))))))] ++ (List.range 0).map (fun k => ((fun _ => 0) k, (.inr (0, [.int 0, .int 0, .int 0]) : va_E)))) := hD
  refine fl_loop hx hb hml hown hts hK hN hA ⟨Nat.le_of_ble_eq_true rfl, Nat.le_of_ble_eq_true rfl, Nat.le_of_ble_eq_true rfl, Nat.le_of_ble_eq_true rfl⟩ (fun ab H locs ls hP hD hS hl => ?_) 6 0 rfl (fun _ => 0) H locs ls hP hD hS hl
  have hP := vP_q (g := fun k => some (ab k)) hP hD (k := 1) rfl (fun n hn => if_pos hn)
  have hD := hD.set (e := .inl (dA 2, 6, .inr (.inr (.inr (.inr (fun k => some (ab k))))))) (p := 1) rfl
  have hP : va_P D vwCl ((h0, .inr (1, [.ref q1, .null, .null, .int 0, .int 0, .int 0])) :: [(q1, .inl (dA 2, 6, .inr (.inr (.inr (.inr (fun k => some (ab k))))))), (ab 0, (.inr (0, [.int 0, .int 0, .int 0]) : va_E)), (ab 1, (.inr (0, [.int 0, .int 0, .int 0]) : va_E)), (ab 2, (.inr (0, [.int 0, .int 0, .int 0]) : va_E)), (ab 3, (.inr (0, [.int 0, .int 0, .int 0]) : va_E)), (ab 4, (.inr (0, [.int 0, .int 0, .int 0]) : va_E)), (ab 5, (.inr (0, [.int 0, .int 0, .int 0]) : va_E))]) H := hP
  have hD : va_D A ((h0, .inr (1, [.ref q1, .null, .null, .int 0, .int 0, .int 0])) :: [(q1, .inl (dA 2, 6, .inr (.inr (.inr (.inr (fun k => some (ab k))))))), (ab 0, (.inr (0, [.int 0, .int 0, .int 0]) : va_E)), (ab 1, (.inr (0, [.int 0, .int 0, .int 0]) : va_E)), (ab 2, (.inr (0, [.int 0, .int 0, .int 0]) : va_E)), (ab 3, (.inr (0, [.int 0, .int 0, .int 0]) : va_E)), (ab 4, (.inr (0, [.int 0, .int 0, .int 0]) : va_E)), (ab 5, (.inr (0, [.int 0, .int 0, .int 0]) : va_E))]) := hD
  refine lv_aload_n hx hb dc_X1_40 rfl (lv_at hl 1 rfl) ?_
  refine lv_sipush (v := nI 600) hx hb dc_X1_41 (by decide) ?_
  refine va_newa (atype := .int) (N' := 600) (a0 := (600, .inl (fun _ => 0))) hx hb (hts (.arrayClass .int) (mem_t (k := 72) (by decide +kernel))) rfl hK hP hD hS hA (fun _ => rfl) (nI_nn (by decide)) (nI_clamp (by decide)) (Nat.le_of_ble_eq_true rfl) (Nat.le_of_ble_eq_true rfl) (Nat.le_of_ble_eq_true rfl) dc_X1_44 (fun q3 cA H hK1 hP hD hS => ?_)
  obtain rfl := cls_eq (i := 0) rfl hK1
  have hP : va_P D vwCl ((h0, .inr (1, [.ref q1, .null, .null, .int 0, .int 0, .int 0])) :: ([(q1, .inl (dA 2, 6, .inr (.inr (.inr (.inr (fun k => some (ab k))))))), (ab 0, (.inr (0, [.int 0, .int 0, .int 0]) : va_E)), (ab 1, (.inr (0, [.int 0, .int 0, .int 0]) : va_E)), (ab 2, (.inr (0, [.int 0, .int 0, .int 0]) : va_E)), (ab 3, (.inr (0, [.int 0, .int 0, .int 0]) : va_E)), (ab 4, (.inr (0, [.int 0, .int 0, .int 0]) : va_E)), (ab 5, (.inr (0, [.int 0, .int 0, .int 0]) : va_E))] ++ [(q3, .inl (dA 0, 600, .inl (fun _ => 0)))])) H := hP
  have hD : va_D A ((h0, .inr (1, [.ref q1, .null, .null, .int 0, .int 0, .int 0])) :: ([(q1, .inl (dA 2, 6, .inr (.inr (.inr (.inr (fun k => some (ab k))))))), (ab 0, (.inr (0, [.int 0, .int 0, .int 0]) : va_E)), (ab 1, (.inr (0, [.int 0, .int 0, .int 0]) : va_E)), (ab 2, (.inr (0, [.int 0, .int 0, .int 0]) : va_E)), (ab 3, (.inr (0, [.int 0, .int 0, .int 0]) : va_E)), (ab 4, (.inr (0, [.int 0, .int 0, .int 0]) : va_E)), (ab 5, (.inr (0, [.int 0, .int 0, .int 0]) : va_E))] ++ [(q3, .inl (dA 0, 600, .inl (fun _ => 0)))])) := hD
  refine va_putF (D := D) (ci := 1) (v := .ref q3) (ty := tyX1 1) (C := RX1) (T := TX1) (N := 6) hx hb hts i_X1 tyX1 tyX1_ok nmX1 hown hK hP hD hS 0 rfl rfl 1 (by decide) (hts (.fieldLink RX1 18 RX1 (TX1 1).2.1 (TX1 1).2.2.1) (mem_t (k := 52) (by decide +kernel))) (fun _ h9 => h9) rfl hin rfl (tyX1_ok 1 (by decide)) rfl rfl (Nat.le_of_ble_eq_true rfl) dc_X1_46 (fun H locs hP hD hS => ?_)
  have hP : va_P D vwCl ((h0, .inr (1, [.ref q1, .ref q3, .null, .int 0, .int 0, .int 0])) :: ([(q1, .inl (dA 2, 6, .inr (.inr (.inr (.inr (fun k => some (ab k))))))), (ab 0, (.inr (0, [.int 0, .int 0, .int 0]) : va_E)), (ab 1, (.inr (0, [.int 0, .int 0, .int 0]) : va_E)), (ab 2, (.inr (0, [.int 0, .int 0, .int 0]) : va_E)), (ab 3, (.inr (0, [.int 0, .int 0, .int 0]) : va_E)), (ab 4, (.inr (0, [.int 0, .int 0, .int 0]) : va_E)), (ab 5, (.inr (0, [.int 0, .int 0, .int 0]) : va_E))] ++ [(q3, .inl (dA 0, 600, .inl (fun _ => 0)))])) H := hP
  have hD : va_D A ((h0, .inr (1, [.ref q1, .ref q3, .null, .int 0, .int 0, .int 0])) :: ([(q1, .inl (dA 2, 6, .inr (.inr (.inr (.inr (fun k => some (ab k))))))), (ab 0, (.inr (0, [.int 0, .int 0, .int 0]) : va_E)), (ab 1, (.inr (0, [.int 0, .int 0, .int 0]) : va_E)), (ab 2, (.inr (0, [.int 0, .int 0, .int 0]) : va_E)), (ab 3, (.inr (0, [.int 0, .int 0, .int 0]) : va_E)), (ab 4, (.inr (0, [.int 0, .int 0, .int 0]) : va_E)), (ab 5, (.inr (0, [.int 0, .int 0, .int 0]) : va_E))] ++ [(q3, .inl (dA 0, 600, .inl (fun _ => 0)))])) := hD
  refine lv_aload_n hx hb dc_X1_49 rfl (lv_at hl 1 rfl) ?_
  refine lv_sipush (v := nI 600) hx hb dc_X1_50 (by decide) ?_
  refine va_newa (atype := .int) (N' := 600) (a0 := (600, .inl (fun _ => 0))) hx hb (hts (.arrayClass .int) (mem_t (k := 72) (by decide +kernel))) rfl hK hP hD hS hA (fun _ => rfl) (nI_nn (by decide)) (nI_clamp (by decide)) (Nat.le_of_ble_eq_true rfl) (Nat.le_of_ble_eq_true rfl) (Nat.le_of_ble_eq_true rfl) dc_X1_53 (fun q4 cA H hK1 hP hD hS => ?_)
  obtain rfl := cls_eq (i := 0) rfl hK1
  have hP : va_P D vwCl ((h0, .inr (1, [.ref q1, .ref q3, .null, .int 0, .int 0, .int 0])) :: ([(q1, .inl (dA 2, 6, .inr (.inr (.inr (.inr (fun k => some (ab k))))))), (ab 0, (.inr (0, [.int 0, .int 0, .int 0]) : va_E)), (ab 1, (.inr (0, [.int 0, .int 0, .int 0]) : va_E)), (ab 2, (.inr (0, [.int 0, .int 0, .int 0]) : va_E)), (ab 3, (.inr (0, [.int 0, .int 0, .int 0]) : va_E)), (ab 4, (.inr (0, [.int 0, .int 0, .int 0]) : va_E)), (ab 5, (.inr (0, [.int 0, .int 0, .int 0]) : va_E))] ++ [(q3, .inl (dA 0, 600, .inl (fun _ => 0))), (q4, .inl (dA 0, 600, .inl (fun _ => 0)))])) H := hP
  have hD : va_D A ((h0, .inr (1, [.ref q1, .ref q3, .null, .int 0, .int 0, .int 0])) :: ([(q1, .inl (dA 2, 6, .inr (.inr (.inr (.inr (fun k => some (ab k))))))), (ab 0, (.inr (0, [.int 0, .int 0, .int 0]) : va_E)), (ab 1, (.inr (0, [.int 0, .int 0, .int 0]) : va_E)), (ab 2, (.inr (0, [.int 0, .int 0, .int 0]) : va_E)), (ab 3, (.inr (0, [.int 0, .int 0, .int 0]) : va_E)), (ab 4, (.inr (0, [.int 0, .int 0, .int 0]) : va_E)), (ab 5, (.inr (0, [.int 0, .int 0, .int 0]) : va_E))] ++ [(q3, .inl (dA 0, 600, .inl (fun _ => 0))), (q4, .inl (dA 0, 600, .inl (fun _ => 0)))])) := hD
  refine va_putF (D := D) (ci := 1) (v := .ref q4) (ty := tyX1 2) (C := RX1) (T := TX1) (N := 6) hx hb hts i_X1 tyX1 tyX1_ok nmX1 hown hK hP hD hS 0 rfl rfl 2 (by decide) (hts (.fieldLink RX1 22 RX1 (TX1 2).2.1 (TX1 2).2.2.1) (mem_t (k := 53) (by decide +kernel))) (fun _ h9 => h9) rfl hin rfl (tyX1_ok 2 (by decide)) rfl rfl (Nat.le_of_ble_eq_true rfl) dc_X1_55 (fun H locs hP hD hS => ?_)
  have hP : va_P D vwCl (WL dA (fun k : Key => match k.1 with | 1 => h0 | 9 => q1 | 13 => q3 | 14 => q4 | _ => ab k.2.2) KF) H := hP
  have hD : va_D A (WL dA (fun k : Key => match k.1 with | 1 => h0 | 9 => q1 | 13 => q3 | 14 => q4 | _ => ab k.2.2) KF) := hD
  refine W.vret hx hb hr (fun t ht hW => ⟨⟨(fun k : Key => match k.1 with | 1 => h0 | 9 => q1 | 13 => q3 | 14 => q4 | _ => ab k.2.2), rfl, rfl, by rw [ht]; exact hP, va_K.moved hW.alike hK, hD⟩, hS.F ht⟩) hS.2.2 dc_X1_58
