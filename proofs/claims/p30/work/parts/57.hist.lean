/-! 57: constructors: History -/
abbrev stkP (K : Nat) : Prop := K = 5 ∨ K = 1 ∨ K = 9 ∨ K = 0 ∨ K = 13 ∨ K = 14 ∨ K = 10 ∨ K = 11 ∨ K = 3 ∨ K = 6
def KSj (j : Nat) : List Key := KS.map fun k => (k.1, j, k.2.2)
set_option maxRecDepth 100000 in
theorem KS_k : ∀ k ∈ KS, stkP k.1 ∧ k.2.1 = 0 := by decide +kernel
theorem ent_re {dA : Nat → ClassId} {ad ac : Key → Nat} {j j2 : Nat} (h : ∀ K i, stkP K → ad (K, j, i) = ac (K, j2, i)) {K i : Nat} (hK : stkP K) : ent dA ad MZ (K, j, i) = ent dA ac MZ (K, j2, i) := by
  rcases hK with rfl | rfl | rfl | rfl | rfl | rfl | rfl | rfl | rfl | rfl
  · show Sum.inr (5, [Value.ref (ad (1, j, 0)), Value.ref (ad (10, j, 0)), Value.ref (ad (11, j, 0)), .int 0, .int 0, .int 0, .int 0, .int 0, .int 0, .int 0]) = Sum.inr (5, [Value.ref (ac (1, j2, 0)), Value.ref (ac (10, j2, 0)), Value.ref (ac (11, j2, 0)), .int 0, .int 0, .int 0, .int 0, .int 0, .int 0, .int 0])
    rw [h 1 0 (by decide), h 10 0 (by decide), h 11 0 (by decide)]
  · show Sum.inr (1, [Value.ref (ad (9, j, 0)), Value.ref (ad (13, j, 0)), Value.ref (ad (14, j, 0)), .int 0, .int 0, .int 0]) = Sum.inr (1, [Value.ref (ac (9, j2, 0)), Value.ref (ac (13, j2, 0)), Value.ref (ac (14, j2, 0)), .int 0, .int 0, .int 0])
    rw [h 9 0 (by decide), h 13 0 (by decide), h 14 0 (by decide)]
  · show (Sum.inl (dA 2, 6, .inr (.inr (.inr (.inr (fun n => some (ad (0, j, n))))))) : va_E) = Sum.inl (dA 2, 6, .inr (.inr (.inr (.inr (fun n => some (ac (0, j2, n)))))))
    rw [show (fun n => some (ad (0, j, n))) = fun n => some (ac (0, j2, n)) from funext fun n => by rw [h 0 n (by decide)]]
  · rfl
  · rfl
  · rfl
  · show (Sum.inl (dA 3, 20, .inr (.inr (.inr (.inr (fun n => some (ad (3, j, n))))))) : va_E) = Sum.inl (dA 3, 20, .inr (.inr (.inr (.inr (fun n => some (ac (3, j2, n)))))))
    rw [show (fun n => some (ad (3, j, n))) = fun n => some (ac (3, j2, n)) from funext fun n => by rw [h 3 n (by decide)]]
  · show (Sum.inl (dA 4, 20, .inr (.inr (.inr (.inr (fun n => some (ad (6, j, n))))))) : va_E) = Sum.inl (dA 4, 20, .inr (.inr (.inr (.inr (fun n => some (ac (6, j2, n)))))))
    rw [show (fun n => some (ad (6, j, n))) = fun n => some (ac (6, j2, n)) from funext fun n => by rw [h 6 n (by decide)]]
  · rfl
  · rfl
theorem WL_re {dA : Nat → ClassId} {ad ac : Key → Nat} {j : Nat} (h : ∀ K i, stkP K → ad (K, j, i) = ac (K, 0, i)) : WL dA ad (KSj j) = WL dA ac KS := by
  unfold WL KSj
  rw [List.map_map]
  refine List.map_congr_left (fun k hk => ?_)
  obtain ⟨h1, h2⟩ := KS_k k hk
  obtain ⟨K, j0, i⟩ := k
  have h3 : j0 = 0 := h2
  subst h3
  show (ad (K, j, i), ent dA ad MZ (K, j, i)) = (ac (K, 0, i), ent dA ac MZ (K, 0, i))
  rw [h K i h1, ent_re h h1]
def poolW (dA : Nat → ClassId) (an : Nat → Key → Nat) : Nat → va_W
  | 0 => []
  | n + 1 => poolW dA an n ++ WL dA (an n) KS
theorem poolW_cg {dA : Nat → ClassId} {an am : Nat → Key → Nat} : ∀ n : Nat, (∀ k, k < n → am k = an k) → poolW dA am n = poolW dA an n := by
  intro n
  induction n with
  | zero => intro _; rfl
  | succ n ih => intro h1; rw [poolW, poolW, ih (fun k hk => h1 k (by omega)), h1 n (by omega)]
def poolH : Nat → List Key
  | 0 => []
  | n + 1 => poolH n ++ KSj (2 + n)
theorem WL_poolH {dA : Nat → ClassId} {ad : Key → Nat} {an : Nat → Key → Nat} : ∀ n : Nat, (∀ k, k < n → ∀ K i, stkP K → ad (K, 2 + k, i) = an k (K, 0, i)) → WL dA ad (poolH n) = poolW dA an n := by
  intro n
  induction n with
  | zero => intro _; rfl
  | succ n ih => intro h; rw [poolH, poolW, WL_app, ih (fun k hk => h k (by omega)), WL_re (h n (by omega))]
def KH : List Key := [(2, 0, 0), (12, 0, 0)] ++ poolH 6
theorem up_r {n : Nat} {an : Nat → Key → Nat} {ad : Key → Nat} (hn : n < 2147483648) : va_up (fun k => if k < n then some (an k (5, 0, 0)) else none) (nI n).toNatClampNeg (some (ad (5, 0, 0))) = fun k => if k < n + 1 then some (va_up an n ad k (5, 0, 0)) else none := by
  rw [nI_clamp (show n < 2 ^ 31 from hn)]
  funext k
  unfold va_up
  by_cases z : k = n
  · rw [if_pos z, if_pos (by omega), if_pos z]
  · rw [if_neg z]
    show (if k < n then some (an k (5, 0, 0)) else none) = if k < n + 1 then some ((if k = n then ad else an k) (5, 0, 0)) else none
    by_cases y : k < n
    · rw [if_pos y, if_pos (by omega), if_neg z]
    · rw [if_neg y, if_neg (by omega)]
theorem w_at {wa wb : va_W} : (wa ++ wb)[wa.length]? = wb[0]? := by rw [List.getElem?_append_right (Nat.le_refl _), Nat.sub_self]
theorem dc_X2_0 : decode cX2_init 0 = .ok (.aload_n 0, 1) := by decide +kernel
theorem dc_X2_1 : decode cX2_init 1 = .ok (.invokespecial 3, 3) := by decide +kernel
theorem dc_X2_4 : decode cX2_init 4 = .ok (.aload_n 0, 1) := by decide +kernel
theorem dc_X2_5 : decode cX2_init 5 = .ok (.bipush 6, 2) := by decide +kernel
theorem dc_X2_7 : decode cX2_init 7 = .ok (.anewarray 11, 3) := by decide +kernel
theorem dc_X2_10 : decode cX2_init 10 = .ok (.putfield 13, 3) := by decide +kernel
theorem dc_X2_13 : decode cX2_init 13 = .ok (.iconst 0, 1) := by decide +kernel
theorem dc_X2_14 : decode cX2_init 14 = .ok (.istore_n 1, 1) := by decide +kernel
theorem dc_X2_15 : decode cX2_init 15 = .ok (.iload_n 1, 1) := by decide +kernel
theorem dc_X2_16 : decode cX2_init 16 = .ok (.bipush 6, 2) := by decide +kernel
theorem dc_X2_18 : decode cX2_init 18 = .ok (.if_icmp .ge 22, 3) := by decide +kernel
theorem dc_X2_21 : decode cX2_init 21 = .ok (.aload_n 0, 1) := by decide +kernel
theorem dc_X2_22 : decode cX2_init 22 = .ok (.getfield 13, 3) := by decide +kernel
theorem dc_X2_25 : decode cX2_init 25 = .ok (.iload_n 1, 1) := by decide +kernel
theorem dc_X2_26 : decode cX2_init 26 = .ok (.new 11, 3) := by decide +kernel
theorem dc_X2_29 : decode cX2_init 29 = .ok (.dup, 1) := by decide +kernel
theorem dc_X2_30 : decode cX2_init 30 = .ok (.invokespecial 17, 3) := by decide +kernel
theorem dc_X2_33 : decode cX2_init 33 = .ok (.aastore, 1) := by decide +kernel
theorem dc_X2_34 : decode cX2_init 34 = .ok (.iinc 1 1, 3) := by decide +kernel
theorem dc_X2_37 : decode cX2_init 37 = .ok (.goto (-22), 3) := by decide +kernel
theorem dc_X2_40 : decode cX2_init 40 = .ok (.return_, 1) := by decide +kernel
set_option maxHeartbeats 4000000 in
set_option maxRecDepth 100000 in
theorem hi_loop {p : Program} {l : Launch} {e : Env} {R : Room} {s : State} {m : MethodId} {args : Array Value} {below : List Frame} {meth : Method} {c : Code} {Q : State → Prop} {D : va_G} {dA : Nat → ClassId} {A : Nat → Prop} {h0 q1 : Nat} (hx : p.tables.exec = Jvm.exec) (hb : c.code = cX2_init) (hml : c.maxLocals = 2) (hown : s.vm.findClass RX2 = some m.cls) (hts : ∀ w ∈ gtbl, w.before args s = true) (hK : va_K D vwCl (tysA dA) s) (hN : Nst s) (hA : ∀ q : Nat, s.heap.size ≤ q → A q) (hRf : 4 ≤ R.frames ∧ 74 ≤ R.locals ∧ 319 ≤ R.cells ∧ 8886 ≤ R.slots)
    (kk : ∀ (an : Nat → Key → Nat) (H : Heap) (locs : List Loc) (ls : Array Slot), va_P D vwCl ([(h0, .inr (2, [.ref q1, .int 0, .int 0])), (q1, .inl (dA 5, 6, .inr (.inr (.inr (.inr (fun k => if k < 6 then some (an k (5, 0, 0)) else none))))))] ++ poolW dA an 6) H → va_D A ([(h0, .inr (2, [.ref q1, .int 0, .int 0])), (q1, .inl (dA 5, 6, .inr (.inr (.inr (.inr (fun k => if k < 6 then some (an k (5, 0, 0)) else none))))))] ++ poolW dA an 6) → va_S A s.heap H locs → W p l e R s m args below meth c H locs 319 8886 Q (F0 m 40 ls [])) :
    ∀ (n i : Nat), i + n = 6 → ∀ (an : Nat → Key → Nat) (H : Heap) (locs : List Loc) (ls : Array Slot), va_P D vwCl ([(h0, .inr (2, [.ref q1, .int 0, .int 0])), (q1, .inl (dA 5, 6, .inr (.inr (.inr (.inr (fun k => if k < i then some (an k (5, 0, 0)) else none))))))] ++ poolW dA an i) H → va_D A ([(h0, .inr (2, [.ref q1, .int 0, .int 0])), (q1, .inl (dA 5, 6, .inr (.inr (.inr (.inr (fun k => if k < i then some (an k (5, 0, 0)) else none))))))] ++ poolW dA an i) → va_S A s.heap H locs → lv_has ls 2 [(1, .int (nI i)), (0, .ref h0)] → W p l e R s m args below meth c H locs (1 + 53 * i) (6 + 1480 * i) Q (F0 m 15 ls []) := by
  intro n
  induction n with
  | zero =>
    intro i hi an H locs ls hP hD hS hl
    obtain rfl : i = 6 := by omega
    refine lv_iload_n hx hb dc_X2_15 rfl (lv_at hl 0 rfl) ?_
    refine lv_bipush (v := nI 6) hx hb dc_X2_16 (by decide) ?_
    refine lv_icmp_ge (tgt := 40) hx hb dc_X2_18 (by decide) (fun c_18 => ?_) (fun c_18 => absurd (nI_le (Nat.le_refl 6) (by decide)) c_18)
    exact kk an H locs ls hP hD hS
  | succ n ih =>
    intro i hi an H locs ls hP hD hS hl
    refine lv_iload_n hx hb dc_X2_15 rfl (lv_at hl 0 rfl) ?_
    refine lv_bipush (v := nI 6) hx hb dc_X2_16 (by decide) ?_
    refine lv_icmp_ge (tgt := 40) hx hb dc_X2_18 (by decide) (fun c_18 => absurd c_18 (nI_gtl (show i < 6 by omega) (by decide))) (fun c_18 => ?_)
    refine lv_aload_n hx hb dc_X2_21 rfl (lv_at hl 1 rfl) ?_
    refine va_get (D := D) (ci := 2) (v := .ref q1) (C := RX2) (T := TX2) (N := 3) hx hb hts i_X2 hown hK hP 0 rfl rfl 0 (by decide) (hts (.fieldLink RX2 13 RX2 (TX2 0).2.1 (TX2 0).2.2.1) (mem_t (k := 170) (by decide +kernel))) (fun _ h9 => h9) rfl dc_X2_22 ?_
    refine lv_iload_n hx hb dc_X2_25 rfl (lv_at hl 0 rfl) ?_
    refine va_new (ci := 5) (fs := [.null, .null, .null, .int 0, .int 0, .int 0, .int 0, .int 0, .int 0, .int 0]) (C := RX5) (T := TX5) (N := 10) hx hb hts i_X5 tyX5 tyX5_ok hown (hts (.classLink RX2 11 RX5) (mem_t (k := 167) (by decide +kernel))) (hts (.instantiable RX5 10) (mem_t (k := 20) (by decide +kernel))) (hts (.initialized RX5) (mem_t (k := 2) (by decide +kernel))) hK hP hD hS hA rfl (by decide +kernel) (show 1 + 53 * i + 1 ≤ R.cells by omega) (show 6 + 1480 * i + 10 ≤ R.slots by omega) dc_X2_26 (fun q2 H hP hD hS => ?_)
    refine lv_dup hx hb dc_X2_29 rfl ?_
    refine ctor_I (b_X5 l D dA) ⟨hx, hb, hml, hown, hts⟩ (mem_t (k := 2) (by decide +kernel)) (mem_t (k := 169) (by decide +kernel)) (mem_t (k := 22) (by decide +kernel)) (mem_t (k := 23) (by decide +kernel)) rfl (by decide +kernel) rfl rfl ⟨by show 3 + 1 ≤ R.frames; omega, by show 8 + (2 + 11) + 53 ≤ R.locals; omega⟩ hK hN hP hD hS hA hl.1 (Nat.le_of_ble_eq_true rfl) dc_X2_30 ⟨show 1 + 53 * i + 1 + 52 ≤ R.cells by omega, show 6 + 1480 * i + 10 + 1470 ≤ R.slots by omega⟩ (fun ad0 H locs h_ad0 hP hD hS => ?_)
    refine va_astq (ci := 5) (vs := [.ref (ad0 (1, 0, 0)), .ref (ad0 (10, 0, 0)), .ref (ad0 (11, 0, 0)), .int 0, .int 0, .int 0, .int 0, .int 0, .int 0, .int 0]) hx hb hK hP hD hS 1 5 (([(h0, .inr (2, [.ref q1, .int 0, .int 0])), (q1, .inl (dA 5, 6, .inr (.inr (.inr (.inr (fun k => if k < i then some (an k (5, 0, 0)) else none))))))] ++ poolW dA an i : va_W).length) rfl rfl (w_at.trans (by rw [← h_ad0]; rfl)) rfl (vp_in_nI (show i < 6 by omega) (by decide)) dc_X2_33 (fun H locs hP hD hS => ?_)
    rw [← h_ad0, up_r (show i < 2147483648 by omega)] at hP hD
    have eX : poolW dA (va_up an i ad0) (i + 1) = poolW dA an i ++ WL dA ad0 KS := by
      rw [poolW, poolW_cg (an := an) (am := va_up an i ad0) i (fun k hk => if_neg (by omega)), show va_up an i ad0 i = ad0 from if_pos rfl]
    have hP2 : va_P D vwCl ([(h0, .inr (2, [.ref q1, .int 0, .int 0])), (q1, .inl (dA 5, 6, .inr (.inr (.inr (.inr (fun k => if k < (i + 1) then some ((va_up an i ad0) k (5, 0, 0)) else none))))))] ++ poolW dA (va_up an i ad0) (i + 1)) H := by rw [eX]; exact hP
    have hD2 : va_D A ([(h0, .inr (2, [.ref q1, .int 0, .int 0])), (q1, .inl (dA 5, 6, .inr (.inr (.inr (.inr (fun k => if k < (i + 1) then some ((va_up an i ad0) k (5, 0, 0)) else none))))))] ++ poolW dA (va_up an i ad0) (i + 1)) := by rw [eX]; exact hD
    refine lv_iinc (v := nI (i + 1)) (lv' := [(1, .int (nI (i + 1))), (0, .ref h0)]) hx hb dc_X2_34 hl (k := 0) rfl (nI_1 i) (by decide) rfl (fun ls hl => ?_)
    refine lv_goto (tgt := 15) hx hb dc_X2_37 (by decide) ?_
    refine W.widen (k := 1 + 53 * (i + 1)) (n := 6 + 1480 * (i + 1)) (by omega) (by omega) ?_
    exact ih (i + 1) (by omega) (va_up an i ad0) H locs ls hP2 hD2 hS hl
set_option maxHeartbeats 4000000 in
set_option maxRecDepth 100000 in
theorem b_X2 (l : Launch) (D : va_G) (dA : Nat → ClassId) : Ctor l D dA yX2_init cX2_init 2 { frames := 4, cells := 319, slots := 8886, locals := 74 } 2 [.null, .int 0, .int 0] KH 319 8886 := by
  intro h0 sz
  refine Met.ofW (cc := cX2_init) (maxL := 2) (ret := none) (by decide) rfl ?_
  intro p e s m args below meth c s₁ B hml hv
  obtain ⟨rfl, hsz, hP, hK, hD0, hN⟩ := hv
  have hx := B.exec
  have hb := B.bytes
  have hr := B.returns
  have hts0 := atoms_spec (ws := wsP yX2_init cX2_init 2 none) B.pre
  have hts : ∀ w ∈ gtbl, w.before _ s = true := fun w hw => hts0 w (List.mem_cons_of_mem _ hw)
  have hown : s.vm.findClass RX2 = some m.cls := findClass_of_methodNamed B.named
  have hlocks := B.notSynchronized
  have hin : meth.name = "<init>" := (name_of_methodNamed B.named B.method).1
  subst hsz
  have hD := hD0.self (sz := s.heap.size)
  generalize hAe : va_A [(h0, .inr (2, [.null, .int 0, .int 0]))] s.heap.size = A at hD ⊢
  have hA : ∀ q : Nat, s.heap.size ≤ q → A q := fun q h => by rw [← hAe]; exact Or.inr h
  have hS : va_S A s.heap s.heap [] := va_S.rf
  have hl := lv_entry ([.ref h0]) (n := 2) (Nat.le_of_ble_eq_true rfl)
  rw [lg_entry_eq]
  generalize (lg_sl ([.ref h0]) ++ List.replicate (2 - (lg_sl ([.ref h0])).length) Slot.unset).toArray = ls at hl ⊢
  have hl : lv_has ls 2 [(0, .ref h0)] := hl
  refine lv_aload_n hx hb dc_X2_0 rfl (lv_at hl 0 rfl) ?_
  refine W.objInit hx hb hown (hts (.methodLink RX2 3 objectInit) (mem_t (k := 166) (by decide +kernel))) (hts (.instanceMethod objectInit) (mem_t (k := 17) (by decide +kernel))) (hts (.code objectInit ⟨#[0xb1]⟩ 1 none) (mem_t (k := 18) (by decide +kernel))) rfl (by rw [hml]; exact hl.1) rfl dc_X2_1 (Nat.le_of_ble_eq_true rfl) (Nat.le_of_ble_eq_true rfl) ?_
  refine W.eq (g2 := F0 m 4 ls []) rfl ?_
  refine lv_aload_n hx hb dc_X2_4 rfl (lv_at hl 0 rfl) ?_
  refine lv_bipush (v := nI 6) hx hb dc_X2_5 (by decide) ?_
  refine va_newq (C := RX5) (N' := 6) hx hb hown (hts (.classLink RX2 11 RX5) (mem_t (k := 167) (by decide +kernel))) hN.2.2.2.2 hK hP hD hS hA (nI_nn (by decide)) (nI_clamp (by decide)) (Nat.le_of_ble_eq_true rfl) (Nat.le_of_ble_eq_true rfl) (Nat.le_of_ble_eq_true rfl) dc_X2_7 (fun q1 cA H hK1 hP hD hS => ?_)
  obtain rfl := cls_eq (i := 5) rfl hK1
  have hP : va_P D vwCl ([(h0, .inr (2, [.null, .int 0, .int 0])), (q1, .inl (dA 5, 6, .inr (.inr (.inr (.inr (fun _ => none))))))]) H := hP
  have hD : va_D A ([(h0, .inr (2, [.null, .int 0, .int 0])), (q1, .inl (dA 5, 6, .inr (.inr (.inr (.inr (fun _ => none))))))]) := hD
  refine va_putF (D := D) (ci := 2) (v := .ref q1) (ty := tyX2 0) (C := RX2) (T := TX2) (N := 3) hx hb hts i_X2 tyX2 tyX2_ok nmX2 hown hK hP hD hS 0 rfl rfl 0 (by decide) (hts (.fieldLink RX2 13 RX2 (TX2 0).2.1 (TX2 0).2.2.1) (mem_t (k := 170) (by decide +kernel))) (fun _ h9 => h9) rfl hin rfl (tyX2_ok 0 (by decide)) rfl rfl (Nat.le_of_ble_eq_true rfl) dc_X2_10 (fun H locs hP hD hS => ?_)
  refine lv_iconst (v := nI 0) hx hb dc_X2_13 (by decide) ?_
  refine lv_istore_n (lv' := [(1, .int (nI 0)), (0, .ref h0)]) hx hb dc_X2_14 rfl hl (by decide) rfl (fun ls hl => ?_)
  have hP : va_P D vwCl ([(h0, .inr (2, [.ref q1, .int 0, .int 0])), (q1, .inl (dA 5, 6, .inr (.inr (.inr (.inr (fun k => if k < 0 then some ((fun _ _ => 0) k (5, 0, 0)) else none))))))] ++ poolW dA (fun _ _ => 0) 0) H := hP
  have hD : va_D A ([(h0, .inr (2, [.ref q1, .int 0, .int 0])), (q1, .inl (dA 5, 6, .inr (.inr (.inr (.inr (fun k => if k < 0 then some ((fun _ _ => 0) k (5, 0, 0)) else none))))))] ++ poolW dA (fun _ _ => 0) 0) := hD
  refine hi_loop hx hb hml hown hts hK hN hA ⟨Nat.le_of_ble_eq_true rfl, Nat.le_of_ble_eq_true rfl, Nat.le_of_ble_eq_true rfl, Nat.le_of_ble_eq_true rfl⟩ (fun an H locs ls hP hD hS => ?_) 6 0 rfl (fun _ _ => 0) H locs ls hP hD hS hl
  have hP := vP_q (g := fun k => some (an k (5, 0, 0))) hP hD (k := 1) rfl (fun n hn => if_pos hn)
  have hD := hD.set (e := .inl (dA 5, 6, .inr (.inr (.inr (.inr (fun k => some (an k (5, 0, 0)))))))) (p := 1) rfl
  have eW : WL dA (fun k : Key => match k.1 with | 2 => h0 | 12 => q1 | _ => an (k.2.1 - 2) (k.1, 0, k.2.2)) KH = [(h0, .inr (2, [.ref q1, .int 0, .int 0])), (q1, .inl (dA 5, 6, .inr (.inr (.inr (.inr (fun k => some (an k (5, 0, 0))))))))] ++ poolW dA an 6 := by
    unfold KH
    rw [WL_app, WL_poolH (an := an) 6 (fun k hk K i hK => by rcases hK with rfl | rfl | rfl | rfl | rfl | rfl | rfl | rfl | rfl | rfl <;> (show an (2 + k - 2) _ = _; rw [Nat.add_sub_cancel_left]))]
    show [(h0, _), (q1, (Sum.inl (dA 5, 6, .inr (.inr (.inr (.inr (fun n => some (an (2 + n - 2) (5, 0, 0))))))) : va_E))] ++ _ = _
    rw [show (fun n => some (an (2 + n - 2) (5, 0, 0))) = fun n => some (an n (5, 0, 0)) from funext fun n => by rw [Nat.add_sub_cancel_left]]
    rfl
  have hP : va_P D vwCl (WL dA (fun k : Key => match k.1 with | 2 => h0 | 12 => q1 | _ => an (k.2.1 - 2) (k.1, 0, k.2.2)) KH) H := by rw [eW]; exact hP
  have hD : va_D A (WL dA (fun k : Key => match k.1 with | 2 => h0 | 12 => q1 | _ => an (k.2.1 - 2) (k.1, 0, k.2.2)) KH) := by rw [eW]; exact hD
  refine W.vret hx hb hr (fun t ht hW => ⟨⟨(fun k : Key => match k.1 with | 2 => h0 | 12 => q1 | _ => an (k.2.1 - 2) (k.1, 0, k.2.2)), rfl, rfl, by rw [ht]; exact hP, va_K.moved hW.alike hK, hD⟩, hS.F ht⟩) hS.2.2 dc_X2_40
