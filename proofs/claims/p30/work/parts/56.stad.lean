/-! 56: constructors: Stadium -/
def pool2 (f g : Nat → Nat × va_E) : Nat → va_W
  | 0 => []
  | n + 1 => (pool2 f g n ++ [f n]) ++ [g n]
theorem pool2_cg {f g f2 g2 : Nat → Nat × va_E} : ∀ n : Nat, (∀ k, k < n → f2 k = f k) → (∀ k, k < n → g2 k = g k) → pool2 f2 g2 n = pool2 f g n := by
  intro n
  induction n with
  | zero => intro _ _; rfl
  | succ n ih => intro h1 h2; rw [pool2, pool2, ih (fun k hk => h1 k (by omega)) (fun k hk => h2 k (by omega)), h1 n (by omega), h2 n (by omega)]
def poolK : Nat → List Key
  | 0 => []
  | n + 1 => (poolK n ++ [(3, 0, n)]) ++ [(6, 0, n)]
theorem WL_app {dA : Nat → ClassId} {ad : Key → Nat} {k1 k2 : List Key} : WL dA ad (k1 ++ k2) = WL dA ad k1 ++ WL dA ad k2 := List.map_append
theorem WL_pool {dA : Nat → ClassId} {ad : Key → Nat} : ∀ n : Nat, WL dA ad (poolK n) = pool2 (fun k => (ad (3, 0, k), .inr (3, [.int 0, .int 0, .int 0, .int 0, .int 0]))) (fun k => (ad (6, 0, k), .inr (6, [.int 0, .int 0, .int 0, .int 0, .int 0]))) n := by
  intro n
  induction n with
  | zero => rfl
  | succ n ih => rw [poolK, pool2, WL_app, WL_app, ih]; rfl
def KS : List Key := ([(5, 0, 0)] ++ KF ++ [(10, 0, 0), (11, 0, 0)]) ++ poolK 20
theorem dc_X5_0 : decode cX5_init 0 = .ok (.aload_n 0, 1) := by decide +kernel
theorem dc_X5_1 : decode cX5_init 1 = .ok (.invokespecial 3, 3) := by decide +kernel
theorem dc_X5_4 : decode cX5_init 4 = .ok (.aload_n 0, 1) := by decide +kernel
theorem dc_X5_5 : decode cX5_init 5 = .ok (.new 9, 3) := by decide +kernel
theorem dc_X5_8 : decode cX5_init 8 = .ok (.dup, 1) := by decide +kernel
theorem dc_X5_9 : decode cX5_init 9 = .ok (.invokespecial 11, 3) := by decide +kernel
theorem dc_X5_12 : decode cX5_init 12 = .ok (.putfield 12, 3) := by decide +kernel
theorem dc_X5_15 : decode cX5_init 15 = .ok (.aload_n 0, 1) := by decide +kernel
theorem dc_X5_16 : decode cX5_init 16 = .ok (.bipush 20, 2) := by decide +kernel
theorem dc_X5_18 : decode cX5_init 18 = .ok (.anewarray 18, 3) := by decide +kernel
theorem dc_X5_21 : decode cX5_init 21 = .ok (.putfield 20, 3) := by decide +kernel
theorem dc_X5_24 : decode cX5_init 24 = .ok (.aload_n 0, 1) := by decide +kernel
theorem dc_X5_25 : decode cX5_init 25 = .ok (.bipush 20, 2) := by decide +kernel
theorem dc_X5_27 : decode cX5_init 27 = .ok (.anewarray 24, 3) := by decide +kernel
theorem dc_X5_30 : decode cX5_init 30 = .ok (.putfield 26, 3) := by decide +kernel
theorem dc_X5_33 : decode cX5_init 33 = .ok (.iconst 0, 1) := by decide +kernel
theorem dc_X5_34 : decode cX5_init 34 = .ok (.istore_n 1, 1) := by decide +kernel
theorem dc_X5_35 : decode cX5_init 35 = .ok (.iload_n 1, 1) := by decide +kernel
theorem dc_X5_36 : decode cX5_init 36 = .ok (.bipush 20, 2) := by decide +kernel
theorem dc_X5_38 : decode cX5_init 38 = .ok (.if_icmp .ge 35, 3) := by decide +kernel
theorem dc_X5_41 : decode cX5_init 41 = .ok (.aload_n 0, 1) := by decide +kernel
theorem dc_X5_42 : decode cX5_init 42 = .ok (.getfield 20, 3) := by decide +kernel
theorem dc_X5_45 : decode cX5_init 45 = .ok (.iload_n 1, 1) := by decide +kernel
theorem dc_X5_46 : decode cX5_init 46 = .ok (.new 18, 3) := by decide +kernel
theorem dc_X5_49 : decode cX5_init 49 = .ok (.dup, 1) := by decide +kernel
theorem dc_X5_50 : decode cX5_init 50 = .ok (.invokespecial 30, 3) := by decide +kernel
theorem dc_X5_53 : decode cX5_init 53 = .ok (.aastore, 1) := by decide +kernel
theorem dc_X5_54 : decode cX5_init 54 = .ok (.aload_n 0, 1) := by decide +kernel
theorem dc_X5_55 : decode cX5_init 55 = .ok (.getfield 26, 3) := by decide +kernel
theorem dc_X5_58 : decode cX5_init 58 = .ok (.iload_n 1, 1) := by decide +kernel
theorem dc_X5_59 : decode cX5_init 59 = .ok (.new 24, 3) := by decide +kernel
theorem dc_X5_62 : decode cX5_init 62 = .ok (.dup, 1) := by decide +kernel
theorem dc_X5_63 : decode cX5_init 63 = .ok (.invokespecial 31, 3) := by decide +kernel
theorem dc_X5_66 : decode cX5_init 66 = .ok (.aastore, 1) := by decide +kernel
theorem dc_X5_67 : decode cX5_init 67 = .ok (.iinc 1 1, 3) := by decide +kernel
theorem dc_X5_70 : decode cX5_init 70 = .ok (.goto (-35), 3) := by decide +kernel
theorem dc_X5_73 : decode cX5_init 73 = .ok (.return_, 1) := by decide +kernel
set_option maxHeartbeats 4000000 in
set_option maxRecDepth 100000 in
theorem st_loop {p : Program} {l : Launch} {e : Env} {R : Room} {s : State} {m : MethodId} {args : Array Value} {below : List Frame} {meth : Method} {c : Code} {Q : State → Prop} {D : va_G} {dA : Nat → ClassId} {A : Nat → Prop} {h0 q1 qa qb : Nat} {adF : Key → Nat} (hx : p.tables.exec = Jvm.exec) (hb : c.code = cX5_init) (hml : c.maxLocals = 2) (hown : s.vm.findClass RX5 = some m.cls) (hts : ∀ w ∈ gtbl, w.before args s = true) (hK : va_K D vwCl (tysA dA) s) (hN : Nst s) (hA : ∀ q : Nat, s.heap.size ≤ q → A q) (hRf : 3 ≤ R.frames ∧ 53 ≤ R.locals ∧ 52 ≤ R.cells ∧ 1470 ≤ R.slots)
    (kk : ∀ (aa bb : Nat → Nat) (H : Heap) (locs : List Loc) (ls : Array Slot), va_P D vwCl (([(h0, .inr (5, [.ref q1, .ref qa, .ref qb, .int 0, .int 0, .int 0, .int 0, .int 0, .int 0, .int 0]))] ++ WL dA adF KF ++ [(qa, .inl (dA 3, 20, .inr (.inr (.inr (.inr (fun k => if k < 20 then some (aa k) else none)))))), (qb, .inl (dA 4, 20, .inr (.inr (.inr (.inr (fun k => if k < 20 then some (bb k) else none))))))]) ++ pool2 (fun k => (aa k, .inr (3, [.int 0, .int 0, .int 0, .int 0, .int 0]))) (fun k => (bb k, .inr (6, [.int 0, .int 0, .int 0, .int 0, .int 0]))) 20) H → va_D A (([(h0, .inr (5, [.ref q1, .ref qa, .ref qb, .int 0, .int 0, .int 0, .int 0, .int 0, .int 0, .int 0]))] ++ WL dA adF KF ++ [(qa, .inl (dA 3, 20, .inr (.inr (.inr (.inr (fun k => if k < 20 then some (aa k) else none)))))), (qb, .inl (dA 4, 20, .inr (.inr (.inr (.inr (fun k => if k < 20 then some (bb k) else none))))))]) ++ pool2 (fun k => (aa k, .inr (3, [.int 0, .int 0, .int 0, .int 0, .int 0]))) (fun k => (bb k, .inr (6, [.int 0, .int 0, .int 0, .int 0, .int 0]))) 20) → va_S A s.heap H locs → W p l e R s m args below meth c H locs 52 1470 Q (F0 m 73 ls [])) :
    ∀ (n i : Nat), i + n = 20 → ∀ (aa bb : Nat → Nat) (H : Heap) (locs : List Loc) (ls : Array Slot), va_P D vwCl (([(h0, .inr (5, [.ref q1, .ref qa, .ref qb, .int 0, .int 0, .int 0, .int 0, .int 0, .int 0, .int 0]))] ++ WL dA adF KF ++ [(qa, .inl (dA 3, 20, .inr (.inr (.inr (.inr (fun k => if k < i then some (aa k) else none)))))), (qb, .inl (dA 4, 20, .inr (.inr (.inr (.inr (fun k => if k < i then some (bb k) else none))))))]) ++ pool2 (fun k => (aa k, .inr (3, [.int 0, .int 0, .int 0, .int 0, .int 0]))) (fun k => (bb k, .inr (6, [.int 0, .int 0, .int 0, .int 0, .int 0]))) i) H → va_D A (([(h0, .inr (5, [.ref q1, .ref qa, .ref qb, .int 0, .int 0, .int 0, .int 0, .int 0, .int 0, .int 0]))] ++ WL dA adF KF ++ [(qa, .inl (dA 3, 20, .inr (.inr (.inr (.inr (fun k => if k < i then some (aa k) else none)))))), (qb, .inl (dA 4, 20, .inr (.inr (.inr (.inr (fun k => if k < i then some (bb k) else none))))))]) ++ pool2 (fun k => (aa k, .inr (3, [.int 0, .int 0, .int 0, .int 0, .int 0]))) (fun k => (bb k, .inr (6, [.int 0, .int 0, .int 0, .int 0, .int 0]))) i) → va_S A s.heap H locs → lv_has ls 2 [(1, .int (nI i)), (0, .ref h0)] → W p l e R s m args below meth c H locs (12 + 2 * i) (1270 + 10 * i) Q (F0 m 35 ls []) := by
  intro n
  induction n with
  | zero =>
    intro i hi aa bb H locs ls hP hD hS hl
    obtain rfl : i = 20 := by omega
    refine lv_iload_n hx hb dc_X5_35 rfl (lv_at hl 0 rfl) ?_
    refine lv_bipush (v := nI 20) hx hb dc_X5_36 (by decide) ?_
    refine lv_icmp_ge (tgt := 73) hx hb dc_X5_38 (by decide) (fun c_38 => ?_) (fun c_38 => absurd (nI_le (Nat.le_refl 20) (by decide)) c_38)
    exact kk aa bb H locs ls hP hD hS
  | succ n ih =>
    intro i hi aa bb H locs ls hP hD hS hl
    refine lv_iload_n hx hb dc_X5_35 rfl (lv_at hl 0 rfl) ?_
    refine lv_bipush (v := nI 20) hx hb dc_X5_36 (by decide) ?_
    refine lv_icmp_ge (tgt := 73) hx hb dc_X5_38 (by decide) (fun c_38 => absurd c_38 (nI_gtl (show i < 20 by omega) (by decide))) (fun c_38 => ?_)
    refine lv_aload_n hx hb dc_X5_41 rfl (lv_at hl 1 rfl) ?_
    refine va_get (D := D) (ci := 5) (v := .ref qa) (C := RX5) (T := TX5) (N := 10) hx hb hts i_X5 hown hK hP 0 rfl rfl 1 (by decide) (hts (.fieldLink RX5 20 RX5 (TX5 1).2.1 (TX5 1).2.2.1) (mem_t (k := 131) (by decide +kernel))) (fun _ h9 => h9) rfl dc_X5_42 ?_
    refine lv_iload_n hx hb dc_X5_45 rfl (lv_at hl 0 rfl) ?_
    refine va_new (ci := 3) (fs := [.int 0, .int 0, .int 0, .int 0, .int 0]) (C := RX3) (T := TX3) (N := 5) hx hb hts i_X3 tyX3 tyX3_ok hown (hts (.classLink RX5 18 RX3) (mem_t (k := 73) (by decide +kernel))) (hts (.instantiable RX3 5) (mem_t (k := 77) (by decide +kernel))) (hts (.initialized RX3) (mem_t (k := 5) (by decide +kernel))) hK hP hD hS hA rfl (by decide +kernel) (show 12 + 2 * i + 1 ≤ R.cells by omega) (show 1270 + 10 * i + 5 ≤ R.slots by omega) dc_X5_46 (fun q2 H hP hD hS => ?_)
    refine lv_dup hx hb dc_X5_49 rfl ?_
    refine ctor_N (b_X3 l D dA) ⟨hx, hb, hml, hown, hts⟩ (mem_t (k := 5) (by decide +kernel)) hN.1.2.1 (mem_t (k := 79) (by decide +kernel)) (mem_t (k := 80) (by decide +kernel)) rfl (by decide +kernel) rfl rfl ⟨by show 1 + 1 ≤ R.frames; omega, by show 8 + (1 + 11) + 12 ≤ R.locals; omega⟩ hK hN hP hD hS hA hl.1 (Nat.le_of_ble_eq_true rfl) dc_X5_50 ⟨show 12 + 2 * i + 1 + 0 ≤ R.cells by omega, show 1270 + 10 * i + 5 + 0 ≤ R.slots by omega⟩ (fun ad2 H locs h_ad2 hP hD hS => ?_)
    have eW_ad2 : WL dA ad2 [(3, 0, 0)] = [(q2, .inr (3, [.int 0, .int 0, .int 0, .int 0, .int 0]))] := by rw [← h_ad2]; rfl
    rw [eW_ad2] at hP hD
    refine va_astq (ci := 3) hx hb hK hP hD hS 11 3 ((([(h0, .inr (5, [.ref q1, .ref qa, .ref qb, .int 0, .int 0, .int 0, .int 0, .int 0, .int 0, .int 0]))] ++ WL dA adF KF ++ [(qa, .inl (dA 3, 20, .inr (.inr (.inr (.inr (fun k => if k < i then some (aa k) else none)))))), (qb, .inl (dA 4, 20, .inr (.inr (.inr (.inr (fun k => if k < i then some (bb k) else none))))))]) ++ pool2 (fun k => (aa k, .inr (3, [.int 0, .int 0, .int 0, .int 0, .int 0]))) (fun k => (bb k, .inr (6, [.int 0, .int 0, .int 0, .int 0, .int 0]))) i : va_W).length) rfl rfl List.getElem?_concat_length rfl (vp_in_nI (show i < 20 by omega) (by decide)) dc_X5_53 (fun H locs hP hD hS => ?_)
    rw [up_q (show i < 2147483648 by omega) rfl rfl] at hP hD
    have hP : va_P D vwCl ((([(h0, .inr (5, [.ref q1, .ref qa, .ref qb, .int 0, .int 0, .int 0, .int 0, .int 0, .int 0, .int 0]))] ++ WL dA adF KF ++ [(qa, .inl (dA 3, 20, .inr (.inr (.inr (.inr (fun k => if k < (i + 1) then some ((va_up aa i q2) k) else none)))))), (qb, .inl (dA 4, 20, .inr (.inr (.inr (.inr (fun k => if k < i then some (bb k) else none))))))]) ++ pool2 (fun k => (aa k, .inr (3, [.int 0, .int 0, .int 0, .int 0, .int 0]))) (fun k => (bb k, .inr (6, [.int 0, .int 0, .int 0, .int 0, .int 0]))) i) ++ [(q2, .inr (3, [.int 0, .int 0, .int 0, .int 0, .int 0]))]) H := hP
    have hD : va_D A ((([(h0, .inr (5, [.ref q1, .ref qa, .ref qb, .int 0, .int 0, .int 0, .int 0, .int 0, .int 0, .int 0]))] ++ WL dA adF KF ++ [(qa, .inl (dA 3, 20, .inr (.inr (.inr (.inr (fun k => if k < (i + 1) then some ((va_up aa i q2) k) else none)))))), (qb, .inl (dA 4, 20, .inr (.inr (.inr (.inr (fun k => if k < i then some (bb k) else none))))))]) ++ pool2 (fun k => (aa k, .inr (3, [.int 0, .int 0, .int 0, .int 0, .int 0]))) (fun k => (bb k, .inr (6, [.int 0, .int 0, .int 0, .int 0, .int 0]))) i) ++ [(q2, .inr (3, [.int 0, .int 0, .int 0, .int 0, .int 0]))]) := hD
    refine lv_aload_n hx hb dc_X5_54 rfl (lv_at hl 1 rfl) ?_
    refine va_get (D := D) (ci := 5) (v := .ref qb) (C := RX5) (T := TX5) (N := 10) hx hb hts i_X5 hown hK hP 0 rfl rfl 2 (by decide) (hts (.fieldLink RX5 26 RX5 (TX5 2).2.1 (TX5 2).2.2.1) (mem_t (k := 132) (by decide +kernel))) (fun _ h9 => h9) rfl dc_X5_55 ?_
    refine lv_iload_n hx hb dc_X5_58 rfl (lv_at hl 0 rfl) ?_
    refine va_new (ci := 6) (fs := [.int 0, .int 0, .int 0, .int 0, .int 0]) (C := RX6) (T := TX6) (N := 5) hx hb hts i_X6 tyX6 tyX6_ok hown (hts (.classLink RX5 24 RX6) (mem_t (k := 75) (by decide +kernel))) (hts (.instantiable RX6 5) (mem_t (k := 103) (by decide +kernel))) (hts (.initialized RX6) (mem_t (k := 6) (by decide +kernel))) hK hP hD hS hA rfl (by decide +kernel) (show 12 + 2 * i + 1 + 1 ≤ R.cells by omega) (show 1270 + 10 * i + 5 + 5 ≤ R.slots by omega) dc_X5_59 (fun q3 H hP hD hS => ?_)
    refine lv_dup hx hb dc_X5_62 rfl ?_
    refine ctor_N (b_X6 l D dA) ⟨hx, hb, hml, hown, hts⟩ (mem_t (k := 6) (by decide +kernel)) hN.1.2.2 (mem_t (k := 105) (by decide +kernel)) (mem_t (k := 106) (by decide +kernel)) rfl (by decide +kernel) rfl rfl ⟨by show 1 + 1 ≤ R.frames; omega, by show 8 + (1 + 11) + 12 ≤ R.locals; omega⟩ hK hN hP hD hS hA hl.1 (Nat.le_of_ble_eq_true rfl) dc_X5_63 ⟨show 12 + 2 * i + 1 + 1 + 0 ≤ R.cells by omega, show 1270 + 10 * i + 5 + 5 + 0 ≤ R.slots by omega⟩ (fun ad3 H locs h_ad3 hP hD hS => ?_)
    have eW_ad3 : WL dA ad3 [(6, 0, 0)] = [(q3, .inr (6, [.int 0, .int 0, .int 0, .int 0, .int 0]))] := by rw [← h_ad3]; rfl
    rw [eW_ad3] at hP hD
    refine va_astq (ci := 6) hx hb hK hP hD hS 12 4 (((([(h0, .inr (5, [.ref q1, .ref qa, .ref qb, .int 0, .int 0, .int 0, .int 0, .int 0, .int 0, .int 0]))] ++ WL dA adF KF ++ [(qa, .inl (dA 3, 20, .inr (.inr (.inr (.inr (fun k => if k < (i + 1) then some ((va_up aa i q2) k) else none)))))), (qb, .inl (dA 4, 20, .inr (.inr (.inr (.inr (fun k => if k < i then some (bb k) else none))))))]) ++ pool2 (fun k => (aa k, .inr (3, [.int 0, .int 0, .int 0, .int 0, .int 0]))) (fun k => (bb k, .inr (6, [.int 0, .int 0, .int 0, .int 0, .int 0]))) i) ++ [(q2, .inr (3, [.int 0, .int 0, .int 0, .int 0, .int 0]))] : va_W).length) rfl rfl List.getElem?_concat_length rfl (vp_in_nI (show i < 20 by omega) (by decide)) dc_X5_66 (fun H locs hP hD hS => ?_)
    rw [up_q (show i < 2147483648 by omega) rfl rfl] at hP hD
    have hP : va_P D vwCl (([(h0, .inr (5, [.ref q1, .ref qa, .ref qb, .int 0, .int 0, .int 0, .int 0, .int 0, .int 0, .int 0]))] ++ WL dA adF KF ++ [(qa, .inl (dA 3, 20, .inr (.inr (.inr (.inr (fun k => if k < (i + 1) then some ((va_up aa i q2) k) else none)))))), (qb, .inl (dA 4, 20, .inr (.inr (.inr (.inr (fun k => if k < (i + 1) then some ((va_up bb i q3) k) else none))))))]) ++ ((pool2 (fun k => (aa k, .inr (3, [.int 0, .int 0, .int 0, .int 0, .int 0]))) (fun k => (bb k, .inr (6, [.int 0, .int 0, .int 0, .int 0, .int 0]))) i ++ [(q2, .inr (3, [.int 0, .int 0, .int 0, .int 0, .int 0]))]) ++ [(q3, .inr (6, [.int 0, .int 0, .int 0, .int 0, .int 0]))])) H := hP
    have hD : va_D A (([(h0, .inr (5, [.ref q1, .ref qa, .ref qb, .int 0, .int 0, .int 0, .int 0, .int 0, .int 0, .int 0]))] ++ WL dA adF KF ++ [(qa, .inl (dA 3, 20, .inr (.inr (.inr (.inr (fun k => if k < (i + 1) then some ((va_up aa i q2) k) else none)))))), (qb, .inl (dA 4, 20, .inr (.inr (.inr (.inr (fun k => if k < (i + 1) then some ((va_up bb i q3) k) else none))))))]) ++ ((pool2 (fun k => (aa k, .inr (3, [.int 0, .int 0, .int 0, .int 0, .int 0]))) (fun k => (bb k, .inr (6, [.int 0, .int 0, .int 0, .int 0, .int 0]))) i ++ [(q2, .inr (3, [.int 0, .int 0, .int 0, .int 0, .int 0]))]) ++ [(q3, .inr (6, [.int 0, .int 0, .int 0, .int 0, .int 0]))])) := hD
    have eX : pool2 (fun k => ((va_up aa i q2) k, .inr (3, [.int 0, .int 0, .int 0, .int 0, .int 0]))) (fun k => ((va_up bb i q3) k, .inr (6, [.int 0, .int 0, .int 0, .int 0, .int 0]))) (i + 1) = (pool2 (fun k => (aa k, .inr (3, [.int 0, .int 0, .int 0, .int 0, .int 0]))) (fun k => (bb k, .inr (6, [.int 0, .int 0, .int 0, .int 0, .int 0]))) i ++ [(q2, .inr (3, [.int 0, .int 0, .int 0, .int 0, .int 0]))]) ++ [(q3, .inr (6, [.int 0, .int 0, .int 0, .int 0, .int 0]))] := by
      rw [pool2, pool2_cg (f := fun k => (aa k, .inr (3, [.int 0, .int 0, .int 0, .int 0, .int 0]))) (g := fun k => (bb k, .inr (6, [.int 0, .int 0, .int 0, .int 0, .int 0]))) i (fun k hk => by show (va_up aa i q2 k, _) = _; rw [show va_up aa i q2 k = aa k from if_neg (by omega)]) (fun k hk => by show (va_up bb i q3 k, _) = _; rw [show va_up bb i q3 k = bb k from if_neg (by omega)])]
      show (_ ++ [(va_up aa i q2 i, _)]) ++ [(va_up bb i q3 i, _)] = _
      rw [show va_up aa i q2 i = q2 from if_pos rfl, show va_up bb i q3 i = q3 from if_pos rfl]
    rw [← eX] at hP hD
    refine lv_iinc (v := nI (i + 1)) (lv' := [(1, .int (nI (i + 1))), (0, .ref h0)]) hx hb dc_X5_67 hl (k := 0) rfl (nI_1 i) (by decide) rfl (fun ls hl => ?_)
    refine lv_goto (tgt := 35) hx hb dc_X5_70 (by decide) ?_
    refine W.widen (k := 12 + 2 * (i + 1)) (n := 1270 + 10 * (i + 1)) (by omega) (by omega) ?_
    exact ih (i + 1) (by omega) (va_up aa i q2) (va_up bb i q3) H locs ls hP hD hS hl
set_option maxHeartbeats 4000000 in
set_option maxRecDepth 100000 in
theorem b_X5 (l : Launch) (D : va_G) (dA : Nat → ClassId) : Ctor l D dA yX5_init cX5_init 2 { frames := 3, cells := 52, slots := 1470, locals := 53 } 5 [.null, .null, .null, .int 0, .int 0, .int 0, .int 0, .int 0, .int 0, .int 0] KS 52 1470 := by
  intro h0 sz
  refine Met.ofW (cc := cX5_init) (maxL := 2) (ret := none) (by decide) rfl ?_
  intro p e s m args below meth c s₁ B hml hv
  obtain ⟨rfl, hsz, hP, hK, hD0, hN⟩ := hv
  have hx := B.exec
  have hb := B.bytes
  have hr := B.returns
  have hts0 := atoms_spec (ws := wsP yX5_init cX5_init 2 none) B.pre
  have hts : ∀ w ∈ gtbl, w.before _ s = true := fun w hw => hts0 w (List.mem_cons_of_mem _ hw)
  have hown : s.vm.findClass RX5 = some m.cls := findClass_of_methodNamed B.named
  have hlocks := B.notSynchronized
  have hin : meth.name = "<init>" := (name_of_methodNamed B.named B.method).1
  subst hsz
  have hD := hD0.self (sz := s.heap.size)
  generalize hAe : va_A [(h0, .inr (5, [.null, .null, .null, .int 0, .int 0, .int 0, .int 0, .int 0, .int 0, .int 0]))] s.heap.size = A at hD ⊢
  have hA : ∀ q : Nat, s.heap.size ≤ q → A q := fun q h => by rw [← hAe]; exact Or.inr h
  have hS : va_S A s.heap s.heap [] := va_S.rf
  have hl := lv_entry ([.ref h0]) (n := 2) (Nat.le_of_ble_eq_true rfl)
  rw [lg_entry_eq]
  generalize (lg_sl ([.ref h0]) ++ List.replicate (2 - (lg_sl ([.ref h0])).length) Slot.unset).toArray = ls at hl ⊢
  have hl : lv_has ls 2 [(0, .ref h0)] := hl
  refine lv_aload_n hx hb dc_X5_0 rfl (lv_at hl 0 rfl) ?_
  refine W.objInit hx hb hown (hts (.methodLink RX5 3 objectInit) (mem_t (k := 24) (by decide +kernel))) (hts (.instanceMethod objectInit) (mem_t (k := 17) (by decide +kernel))) (hts (.code objectInit ⟨#[0xb1]⟩ 1 none) (mem_t (k := 18) (by decide +kernel))) rfl (by rw [hml]; exact hl.1) rfl dc_X5_1 (Nat.le_of_ble_eq_true rfl) (Nat.le_of_ble_eq_true rfl) ?_
  refine W.eq (g2 := F0 m 4 ls []) rfl ?_
  refine lv_aload_n hx hb dc_X5_4 rfl (lv_at hl 0 rfl) ?_
  refine va_new (ci := 1) (fs := [.null, .null, .null, .int 0, .int 0, .int 0]) (C := RX1) (T := TX1) (N := 6) hx hb hts i_X1 tyX1 tyX1_ok hown (hts (.classLink RX5 9 RX1) (mem_t (k := 25) (by decide +kernel))) (hts (.instantiable RX1 6) (mem_t (k := 26) (by decide +kernel))) (hts (.initialized RX1) (mem_t (k := 3) (by decide +kernel))) hK hP hD hS hA rfl (by decide +kernel) (Nat.le_of_ble_eq_true rfl) (Nat.le_of_ble_eq_true rfl) dc_X5_5 (fun q1 H hP hD hS => ?_)
  refine lv_dup hx hb dc_X5_8 rfl ?_
  refine ctor_I (b_X1 l D dA) ⟨hx, hb, hml, hown, hts⟩ (mem_t (k := 3) (by decide +kernel)) (mem_t (k := 27) (by decide +kernel)) (mem_t (k := 28) (by decide +kernel)) (mem_t (k := 29) (by decide +kernel)) rfl (by decide +kernel) rfl rfl ⟨Nat.le_of_ble_eq_true rfl, Nat.le_of_ble_eq_true rfl⟩ hK hN hP hD hS hA hl.1 (Nat.le_of_ble_eq_true rfl) dc_X5_9 ⟨Nat.le_of_ble_eq_true rfl, Nat.le_of_ble_eq_true rfl⟩ (fun adF H locs h_adF hP hD hS => ?_)
  have hP : va_P D vwCl ([(h0, .inr (5, [.null, .null, .null, .int 0, .int 0, .int 0, .int 0, .int 0, .int 0, .int 0]))] ++ WL dA adF KF) H := hP
  have hD : va_D A ([(h0, .inr (5, [.null, .null, .null, .int 0, .int 0, .int 0, .int 0, .int 0, .int 0, .int 0]))] ++ WL dA adF KF) := hD
  refine va_putF (D := D) (ci := 5) (v := .ref q1) (ty := tyX5 0) (C := RX5) (T := TX5) (N := 10) hx hb hts i_X5 tyX5 tyX5_ok nmX5 hown hK hP hD hS 0 rfl rfl 0 (by decide) (hts (.fieldLink RX5 12 RX5 (TX5 0).2.1 (TX5 0).2.2.1) (mem_t (k := 129) (by decide +kernel))) (fun _ h9 => h9) rfl hin rfl (tyX5_ok 0 (by decide)) rfl rfl (Nat.le_of_ble_eq_true rfl) dc_X5_12 (fun H locs hP hD hS => ?_)
  have hP : va_P D vwCl ([(h0, .inr (5, [.ref q1, .null, .null, .int 0, .int 0, .int 0, .int 0, .int 0, .int 0, .int 0]))] ++ WL dA adF KF) H := hP
  have hD : va_D A ([(h0, .inr (5, [.ref q1, .null, .null, .int 0, .int 0, .int 0, .int 0, .int 0, .int 0, .int 0]))] ++ WL dA adF KF) := hD
  refine lv_aload_n hx hb dc_X5_15 rfl (lv_at hl 0 rfl) ?_
  refine lv_bipush (v := nI 20) hx hb dc_X5_16 (by decide) ?_
  refine va_newq (C := RX3) (N' := 20) hx hb hown (hts (.classLink RX5 18 RX3) (mem_t (k := 73) (by decide +kernel))) hN.2.2.1 hK hP hD hS hA (nI_nn (by decide)) (nI_clamp (by decide)) (Nat.le_of_ble_eq_true rfl) (Nat.le_of_ble_eq_true rfl) (Nat.le_of_ble_eq_true rfl) dc_X5_18 (fun qa cA H hK1 hP hD hS => ?_)
  obtain rfl := cls_eq (i := 3) rfl hK1
  refine va_putF (D := D) (ci := 5) (v := .ref qa) (ty := tyX5 1) (C := RX5) (T := TX5) (N := 10) hx hb hts i_X5 tyX5 tyX5_ok nmX5 hown hK hP hD hS 0 rfl rfl 1 (by decide) (hts (.fieldLink RX5 20 RX5 (TX5 1).2.1 (TX5 1).2.2.1) (mem_t (k := 131) (by decide +kernel))) (fun _ h9 => h9) rfl hin rfl (tyX5_ok 1 (by decide)) rfl rfl (Nat.le_of_ble_eq_true rfl) dc_X5_21 (fun H locs hP hD hS => ?_)
  have hP : va_P D vwCl (([(h0, .inr (5, [.ref q1, .ref qa, .null, .int 0, .int 0, .int 0, .int 0, .int 0, .int 0, .int 0]))] ++ WL dA adF KF) ++ [(qa, .inl (dA 3, 20, .inr (.inr (.inr (.inr (fun _ => none))))))]) H := hP
  have hD : va_D A (([(h0, .inr (5, [.ref q1, .ref qa, .null, .int 0, .int 0, .int 0, .int 0, .int 0, .int 0, .int 0]))] ++ WL dA adF KF) ++ [(qa, .inl (dA 3, 20, .inr (.inr (.inr (.inr (fun _ => none))))))]) := hD
  refine lv_aload_n hx hb dc_X5_24 rfl (lv_at hl 0 rfl) ?_
  refine lv_bipush (v := nI 20) hx hb dc_X5_25 (by decide) ?_
  refine va_newq (C := RX6) (N' := 20) hx hb hown (hts (.classLink RX5 24 RX6) (mem_t (k := 75) (by decide +kernel))) hN.2.2.2.1 hK hP hD hS hA (nI_nn (by decide)) (nI_clamp (by decide)) (Nat.le_of_ble_eq_true rfl) (Nat.le_of_ble_eq_true rfl) (Nat.le_of_ble_eq_true rfl) dc_X5_27 (fun qb cA H hK1 hP hD hS => ?_)
  obtain rfl := cls_eq (i := 4) rfl hK1
  refine va_putF (D := D) (ci := 5) (v := .ref qb) (ty := tyX5 2) (C := RX5) (T := TX5) (N := 10) hx hb hts i_X5 tyX5 tyX5_ok nmX5 hown hK hP hD hS 0 rfl rfl 2 (by decide) (hts (.fieldLink RX5 26 RX5 (TX5 2).2.1 (TX5 2).2.2.1) (mem_t (k := 132) (by decide +kernel))) (fun _ h9 => h9) rfl hin rfl (tyX5_ok 2 (by decide)) rfl rfl (Nat.le_of_ble_eq_true rfl) dc_X5_30 (fun H locs hP hD hS => ?_)
  refine lv_iconst (v := nI 0) hx hb dc_X5_33 (by decide) ?_
  refine lv_istore_n (lv' := [(1, .int (nI 0)), (0, .ref h0)]) hx hb dc_X5_34 rfl hl (by decide) rfl (fun ls hl => ?_)
  have hP : va_P D vwCl (([(h0, .inr (5, [.ref q1, .ref qa, .ref qb, .int 0, .int 0, .int 0, .int 0, .int 0, .int 0, .int 0]))] ++ WL dA adF KF ++ [(qa, .inl (dA 3, 20, .inr (.inr (.inr (.inr (fun k => if k < 0 then some ((fun _ => 0) k) else none)))))), (qb, .inl (dA 4, 20, .inr (.inr (.inr (.inr (fun k => if k < 0 then some ((fun _ => 0) k) else none))))))]) ++ pool2 (fun k => ((fun _ => 0) k, .inr (3, [.int 0, .int 0, .int 0, .int 0, .int 0]))) (fun k => ((fun _ => 0) k, .inr (6, [.int 0, .int 0, .int 0, .int 0, .int 0]))) 0) H := hP
  have hD : va_D A (([(h0, .inr (5, [.ref q1, .ref qa, .ref qb, .int 0, .int 0, .int 0, .int 0, .int 0, .int 0, .int 0]))] ++ WL dA adF KF ++ [(qa, .inl (dA 3, 20, .inr (.inr (.inr (.inr (fun k => if k < 0 then some ((fun _ => 0) k) else none)))))), (qb, .inl (dA 4, 20, .inr (.inr (.inr (.inr (fun k => if k < 0 then some ((fun _ => 0) k) else none))))))]) ++ pool2 (fun k => ((fun _ => 0) k, .inr (3, [.int 0, .int 0, .int 0, .int 0, .int 0]))) (fun k => ((fun _ => 0) k, .inr (6, [.int 0, .int 0, .int 0, .int 0, .int 0]))) 0) := hD
  refine st_loop hx hb hml hown hts hK hN hA ⟨Nat.le_of_ble_eq_true rfl, Nat.le_of_ble_eq_true rfl, Nat.le_of_ble_eq_true rfl, Nat.le_of_ble_eq_true rfl⟩ (fun aa bb H locs ls hP hD hS => ?_) 20 0 rfl (fun _ => 0) (fun _ => 0) H locs ls hP hD hS hl
  have hP := vP_q (g := fun k => some (aa k)) hP hD (k := 11) rfl (fun n hn => if_pos hn)
  have hD := hD.set (e := .inl (dA 3, 20, .inr (.inr (.inr (.inr (fun k => some (aa k))))))) (p := 11) rfl
  have hP := vP_q (g := fun k => some (bb k)) hP hD (k := 12) rfl (fun n hn => if_pos hn)
  have hD := hD.set (e := .inl (dA 4, 20, .inr (.inr (.inr (.inr (fun k => some (bb k))))))) (p := 12) rfl
  have eW : WL dA (fun k : Key => match k.1 with | 5 => h0 | 10 => qa | 11 => qb | 3 => aa k.2.2 | 6 => bb k.2.2 | _ => adF k) KS = ([(h0, .inr (5, [.ref q1, .ref qa, .ref qb, .int 0, .int 0, .int 0, .int 0, .int 0, .int 0, .int 0]))] ++ WL dA adF KF ++ [(qa, .inl (dA 3, 20, .inr (.inr (.inr (.inr (fun k => some (aa k))))))), (qb, .inl (dA 4, 20, .inr (.inr (.inr (.inr (fun k => some (bb k)))))))]) ++ pool2 (fun k => (aa k, .inr (3, [.int 0, .int 0, .int 0, .int 0, .int 0]))) (fun k => (bb k, .inr (6, [.int 0, .int 0, .int 0, .int 0, .int 0]))) 20 := by
    unfold KS
    rw [WL_app, WL_pool, ← h_adF]
    rfl
  have hP : va_P D vwCl (WL dA (fun k : Key => match k.1 with | 5 => h0 | 10 => qa | 11 => qb | 3 => aa k.2.2 | 6 => bb k.2.2 | _ => adF k) KS) H := by rw [eW]; exact hP
  have hD : va_D A (WL dA (fun k : Key => match k.1 with | 5 => h0 | 10 => qa | 11 => qb | 3 => aa k.2.2 | 6 => bb k.2.2 | _ => adF k) KS) := by rw [eW]; exact hD
  refine W.vret hx hb hr (fun t ht hW => ⟨⟨(fun k : Key => match k.1 with | 5 => h0 | 10 => qa | 11 => qb | 3 => aa k.2.2 | 6 => bb k.2.2 | _ => adF k), rfl, rfl, by rw [ht]; exact hP, va_K.moved hW.alike hK, hD⟩, hS.F ht⟩) hS.2.2 dc_X5_73
