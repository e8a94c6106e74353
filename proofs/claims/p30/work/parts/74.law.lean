/-! 74: the law from its entry -/
/-! THE CLAIM OUT OF ONE WALK OF THE LAW'S BODY. Your part is whole_start (and what it stands on); all else here is the same for every law, but numbers. -/
def R_law : String := "SightBlocksLaw"
def lw_P (b : Addr) (xs : List Int32) (args : Array Value) (s : State) : Prop := args = #[.ref b] ∧ s.IntsAt b xs ∧ xs.length ≤ 260 ∧ (Jvm.Cond.and given_1 narrow_1).before args s = true
def lw_Q (_ : Array Value) (s : State) (o : Outcome) (t : State) : Prop := o = .returned (some (.int 1)) ∧ Framed s o t [] 600000 7302250
def lw_Z (below : List Frame) (a : Array Value) (s : State) : State → Prop := fun t => ∃ o, t.status = .running ∧ Ended t below o ∧ lw_Q a s o t
/-- the law's own end, with 1 on the stack, nothing written that was there before, its room as the claim has it -/
theorem lw_ret {p : Program} {l : Launch} {e : Env} {s : State} {m : MethodId} {below : List Frame} {meth : Method} {c : Code} {b : Nat} (hx : p.tables.exec = Jvm.exec) (hb : c.code = code) (hr : meth.sig.returnType = ret) (hlocks : meth.locks = false) {pc : Nat} {H : Heap} {ls : Array Slot} (hdg : decode code pc = .ok (.ireturn, 1)) : W p l e room_1 s m #[Value.ref b] below meth c H [] 600000 7302250 (lw_Z below #[Value.ref b] s) (F0 m pc ls [.int 1]) := by
  intro T hT X
  obtain ⟨fs, hret, hrun, hended, hW, hframe⟩ := X.leave (v := some (.int 1)) (hlocks := hlocks) (fun h => by rw [hr] at h; cases h)
  have hmeth' : T.vm.method? m = some meth := X.method'
  refine ⟨T.setFrames fs, ?_, .returned (some (.int 1)), hrun, hended, rfl, ⟨_, rfl⟩, hW, hframe⟩
  jvm_step X.here [X.here.top, hx, hb, hdg, hmeth', hr, ret, narrow_b1]
  (try refine ⟨rfl, ?_⟩); (try refine ⟨rfl, ?_⟩)
  first | (intro acts; rw [hret _ acts rfl rfl rfl]) | rw [hret _ _ rfl rfl rfl]
  exact Steps.refl _
/-- what holds at the law's entry: the machine, the code, the tables' words (any of lw_tbl by 'hts w (by decide +kernel)'), the script of L ints xs at the cell b, what the Statement gives of the start (any of its parts by flat_of_before) -/
def lw_At (p : Program) (s : State) (m : MethodId) (meth : Method) (c : Code) (b L : Nat) (xs : Nat → Int32) : Prop :=
  p.tables.exec = Jvm.exec ∧ c.code = code ∧ meth.sig.returnType = ret ∧ c.maxLocals = 10 ∧ s.vm.findClass R_law = some m.cls ∧ (∀ w ∈ lw_tbl, w.before #[Value.ref b] s = true) ∧ va_X b L xs s s.heap ∧ b < s.heap.size ∧ meth.locks = false ∧ (Jvm.Cond.and given_1 narrow_1).before #[Value.ref b] s = true
theorem dl_0 : decode code 0 = .ok (.new 28, 3) := by decide +kernel
theorem dl_3 : decode code 3 = .ok (.dup, 1) := by decide +kernel
theorem dl_4 : decode code 4 = .ok (.invokespecial 115, 3) := by decide +kernel
theorem dl_7 : decode code 7 = .ok (.astore_n 1, 1) := by decide +kernel
theorem dl_8 : decode code 8 = .ok (.bipush 11, 2) := by decide +kernel
theorem dl_10 : decode code 10 = .ok (.newarray .int, 2) := by decide +kernel
theorem dl_12 : decode code 12 = .ok (.astore_n 2, 1) := by decide +kernel
theorem dl_13 : decode code 13 = .ok (.bipush 9, 2) := by decide +kernel
theorem dl_15 : decode code 15 = .ok (.newarray .int, 2) := by decide +kernel
theorem dl_17 : decode code 17 = .ok (.astore_n 3, 1) := by decide +kernel
theorem dl_18 : decode code 18 = .ok (.bipush 63, 2) := by decide +kernel
theorem dl_20 : decode code 20 = .ok (.newarray .int, 2) := by decide +kernel
theorem dl_22 : decode code 22 = .ok (.astore 4, 2) := by decide +kernel
theorem dl_24 : decode code 24 = .ok (.bipush 60, 2) := by decide +kernel
theorem dl_26 : decode code 26 = .ok (.newarray .int, 2) := by decide +kernel
theorem dl_28 : decode code 28 = .ok (.astore 5, 2) := by decide +kernel
theorem dl_30 : decode code 30 = .ok (.bipush 60, 2) := by decide +kernel
theorem dl_32 : decode code 32 = .ok (.newarray .int, 2) := by decide +kernel
theorem dl_34 : decode code 34 = .ok (.astore 6, 2) := by decide +kernel
theorem he_law : nth MT 107 = some E_L_law := rfl
set_option maxHeartbeats 4000000 in
set_option maxRecDepth 100000 in
theorem law_run {p : Program} {e : Env} {s : State} {m : MethodId} {below : List Frame} {meth : Method} {c : Code} {l : Launch} {b L : Nat} {xs : Nat → Int32} (hL : L ≤ 260) (C0 : lw_At p s m meth c b L xs) {D : va_G} {dA : Nat → ClassId} {ad : Key → Nat} (hK : va_K D vwCl (tysA dA) s) (hb30 : ad (30, 0, 0) = b) (hDD : ∀ M, va_D (AA ad) (WS dA ad M)) (hAA : ∀ q, AA ad q → s.heap.size ≤ q) {H : Heap} {ls : Array Slot} {cells slots : Nat} (hcs : cells ≤ 600000 ∧ slots ≤ 7302250) (hP : va_P D vwCl (WS dA ad (cM MN0)) H) (hS : va_S (AA ad) s.heap H []) (hl : lv_has ls 10 [(6, .ref (ad (21, 9, 0))), (5, .ref (ad (20, 9, 0))), (4, .ref (ad (19, 9, 0))), (3, .ref (ad (18, 9, 0))), (2, .ref (ad (17, 9, 0))), (1, .ref (ad (7, 0, 0))), (0, .ref (ad (30, 0, 0)))]) : W p l e room_1 s m #[Value.ref b] below meth c H [] cells slots (lw_Z below #[Value.ref b] s) (F0 m 36 ls []) := by
  obtain ⟨hx, hb, hr, hml, hown, hts0, hXv, hbl, hlocks, hgv⟩ := id C0
  have hts : ∀ w ∈ gtbl, w.before #[Value.ref b] s = true := fun w hw => hts0 w (gtbl_lw w hw)
  generalize hXi : (((L : Int), fun n : Int => (xs n.toNat).toInt) : XI) = Xi
  have e1 : (cX Xi).1 = L := by rw [← hXi]; rfl
  have e2 : (cX Xi).2 = xs := by
    rw [← hXi]
    funext k
    show Int32.ofInt ((xs (Int.ofNat k).toNat).toInt) = xs k
    rw [Int32.ofInt_toInt]
    rfl
  have hX1 : 0 ≤ Xi.1 ∧ Xi.1 ≤ 260 := by
    rw [← hXi]
    show 0 ≤ (L : Int) ∧ (L : Int) ≤ 260
    omega
  have hokX : okX Xi := ⟨hX1.1, by omega, by rw [← hXi]; exact fun k => i32_toInt _⟩
  obtain ⟨n, hn⟩ := lw_ev (X := Xi)
  have hokS : okS (36, [some (.inr (.inr (some (30, 0, 0)))), some (.inr (.inr (some (7, 0, 0)))), some (.inr (.inr (some (17, 9, 0)))), some (.inr (.inr (some (18, 9, 0)))), some (.inr (.inr (some (19, 9, 0)))), some (.inr (.inr (some (20, 9, 0)))), some (.inr (.inr (some (21, 9, 0)))), none, none, none], [], MN0) := by
    refine ⟨fun v hv => ?_, (fun v hv => by cases hv), okM_0⟩
    simp only [List.mem_cons, List.not_mem_nil, or_false] at hv
    rcases hv with rfl | rfl | rfl | rfl | rfl | rfl | rfl | rfl | rfl | rfl
    · exact ⟨by decide, by decide⟩
    · exact ⟨by decide, by decide⟩
    · exact ⟨by decide, by decide⟩
    · exact ⟨by decide, by decide⟩
    · exact ⟨by decide, by decide⟩
    · exact ⟨by decide, by decide⟩
    · exact ⟨by decide, by decide⟩
    · exact True.intro
    · exact True.intro
    · exact True.intro
  obtain ⟨r, M', hrun, hQ, hro, hMo⟩ := wp_run hokX n 107 E_L_law (36, [some (.inr (.inr (some (30, 0, 0)))), some (.inr (.inr (some (7, 0, 0)))), some (.inr (.inr (some (17, 9, 0)))), some (.inr (.inr (some (18, 9, 0)))), some (.inr (.inr (some (19, 9, 0)))), some (.inr (.inr (some (20, 9, 0)))), some (.inr (.inr (some (21, 9, 0)))), none, none, none], [], MN0) _ he_law hn hokS
  subst hQ
  have hCx : Cx D dA ad (cX Xi) s := ⟨hK, by rw [e1, e2, hb30]; exact hXv, by rw [hb30]; exact hbl, fun z => absurd (hAA _ z) (by rw [hb30]; omega), trivial⟩
  have hvls : vls (cL [some (.inr (.inr (some (30, 0, 0)))), some (.inr (.inr (some (7, 0, 0)))), some (.inr (.inr (some (17, 9, 0)))), some (.inr (.inr (some (18, 9, 0)))), some (.inr (.inr (some (19, 9, 0)))), some (.inr (.inr (some (20, 9, 0)))), some (.inr (.inr (some (21, 9, 0)))), none, none, none]) := by
    intro i v hv
    match i, hv with
    | 0, hv => cases hv; exact Or.inr (Or.inl rfl)
    | 1, hv => cases hv; exact Or.inl (by decide +kernel)
    | 2, hv => cases hv; exact Or.inl (by decide +kernel)
    | 3, hv => cases hv; exact Or.inl (by decide +kernel)
    | 4, hv => cases hv; exact Or.inl (by decide +kernel)
    | 5, hv => cases hv; exact Or.inl (by decide +kernel)
    | 6, hv => cases hv; exact Or.inl (by decide +kernel)
    | 7, hv => cases hv
    | 8, hv => cases hv
    | 9, hv => cases hv
    | i + 10, hv => cases hv
  have hLR : LR ad (eG E_L_law) (eL E_L_law) (cL [some (.inr (.inr (some (30, 0, 0)))), some (.inr (.inr (some (7, 0, 0)))), some (.inr (.inr (some (17, 9, 0)))), some (.inr (.inr (some (18, 9, 0)))), some (.inr (.inr (some (19, 9, 0)))), some (.inr (.inr (some (20, 9, 0)))), some (.inr (.inr (some (21, 9, 0)))), none, none, none]) ls := by
    refine ⟨rfl, hl.1, hl.2.1, fun i v hv => ?_, fun _ i v hv => ?_⟩
    · match i, hv with
      | 0, hv => cases hv; exact lv_at hl 6 rfl
      | 1, hv => cases hv; exact lv_at hl 5 rfl
      | 2, hv => cases hv; exact lv_at hl 4 rfl
      | 3, hv => cases hv; exact lv_at hl 3 rfl
      | 4, hv => cases hv; exact lv_at hl 2 rfl
      | 5, hv => cases hv; exact lv_at hl 1 rfl
      | 6, hv => cases hv; exact lv_at hl 0 rfl
      | 7, hv => cases hv
      | 8, hv => cases hv
      | 9, hv => cases hv
      | i + 10, hv => cases hv
    · match i, hv with
      | 0, hv => cases hv; show (1 : Nat) ≠ 2; decide
      | 1, hv => cases hv; show (1 : Nat) ≠ 2; decide
      | 2, hv => cases hv; show (1 : Nat) ≠ 2; decide
      | 3, hv => cases hv; show (1 : Nat) ≠ 2; decide
      | 4, hv => cases hv; show (1 : Nat) ≠ 2; decide
      | 5, hv => cases hv; show (1 : Nat) ≠ 2; decide
      | 6, hv => cases hv; show (1 : Nat) ≠ 2; decide
      | 7, hv => cases hv
      | 8, hv => cases hv
      | 9, hv => cases hv
      | i + 10, hv => cases hv
  have hsnd : Snd l D dA ad (cX Xi) E_L_law (cS (36, [some (.inr (.inr (some (30, 0, 0)))), some (.inr (.inr (some (7, 0, 0)))), some (.inr (.inr (some (17, 9, 0)))), some (.inr (.inr (some (18, 9, 0)))), some (.inr (.inr (some (19, 9, 0)))), some (.inr (.inr (some (20, 9, 0)))), some (.inr (.inr (some (21, 9, 0)))), none, none, none], [], MN0)) (cO (some (.inl 1))) (cM M') := sound (X := cX Xi) trivial trivial hDD n 107 (cS (36, [some (.inr (.inr (some (30, 0, 0)))), some (.inr (.inr (some (7, 0, 0)))), some (.inr (.inr (some (17, 9, 0)))), some (.inr (.inr (some (18, 9, 0)))), some (.inr (.inr (some (19, 9, 0)))), some (.inr (.inr (some (20, 9, 0)))), some (.inr (.inr (some (21, 9, 0)))), none, none, none], [], MN0)) _ _ hrun E_L_law he_law (Or.inr rfl) hvls (fun v hv => by cases hv)
  refine hsnd (R := room_1) ⟨Nat.le_of_ble_eq_true rfl, Nat.le_of_ble_eq_true rfl, hcs.1, hcs.2⟩ ⟨hx, hb, hml, hown, hts, hCx⟩ (fun pc I H2 locs als hvr hd hRet hP2 hS2 => ?_) H [] ls hLR hP hS
  rcases hRet with ⟨v, h1, rfl, h3⟩ | ⟨v, h1, h2, h3⟩ | ⟨v, nm, h1, h2, h3⟩ | ⟨h1, h2, h3⟩
  · refine va_forget (fun q hq => hAA _ (hS2.2.2 q hq)) ?_
    refine W.widen (k := 600000) (n := 7302250) hcs.1 hcs.2 ?_
    exact lw_ret hx hb hr hlocks hd
  · cases h1
  · cases h1
  · cases h1
set_option maxHeartbeats 4000000 in
set_option maxRecDepth 100000 in
/-- YOUR PART: from the entry, for every script of at most 260 ints, the law comes to its end with true ('hflags': the launch's flags, for a law that throws: no stack traces) -/
theorem whole_start {p : Program} {e : Env} {s : State} {m : MethodId} {below : List Frame} {meth : Method} {c : Code} (l : Launch) (hflags : l.flags = flags0) {b L : Nat} {xs : Nat → Int32} (hL : L ≤ 260) (C0 : lw_At p s m meth c b L xs) : W p l e room_1 s m #[Value.ref b] below meth c s.heap [] 0 0 (lw_Z below #[Value.ref b] s) (entryFrame m ([Value.ref b] : List Value).toArray 10) := by
  obtain ⟨hx, hb, hr, hml, hown, hts0, hXv, hbl, hlocks, hgv⟩ := id C0
  have hts : ∀ w ∈ gtbl, w.before #[Value.ref b] s = true := fun w hw => hts0 w (gtbl_lw w hw)
  have hN : Nst s := start_N hts0
  obtain ⟨D, dA, hK⟩ := start_K hts hN
  have hA : ∀ q : Nat, s.heap.size ≤ q → (fun q : Nat => s.heap.size ≤ q) q := fun _ h => h
  have hS : va_S (fun q : Nat => s.heap.size ≤ q) s.heap s.heap [] := va_S.rf
  have hP : va_P D vwCl [] s.heap := fun k q h => by simp at h
  have hD : va_D (fun q : Nat => s.heap.size ≤ q) [] := ⟨fun i j p q h => by simp at h, fun k q h => by simp at h⟩
  have hl := lv_entry ([.ref b]) (n := 10) (Nat.le_of_ble_eq_true rfl)
  rw [lg_entry_eq]
  generalize (lg_sl ([.ref b]) ++ List.replicate (10 - (lg_sl ([.ref b])).length) Slot.unset).toArray = ls at hl ⊢
  have hl : lv_has ls 10 [(0, .ref b)] := hl
  refine va_new (ci := 7) (fs := [.null, .null, .null, .null]) (C := RX7) (T := TX7) (N := 4) hx hb hts i_X7 tyX7 tyX7_ok hown (hts (.classLink R_law 28 RX7) (m_t 11 (by decide +kernel))) (hts (.instantiable RX7 4) (mem_t (k := 12) (by decide +kernel))) (hts (.initialized RX7) (mem_t (k := 1) (by decide +kernel))) hK hP hD hS hA rfl (by decide +kernel) (Nat.le_of_ble_eq_true rfl) (Nat.le_of_ble_eq_true rfl) dl_0 (fun q0 H hP hD hS => ?_)
  refine lv_dup hx hb dl_3 rfl ?_
  refine ctor_I (wl := []) (b_X7 l D dA) ⟨hx, hb, hml, hown, hts⟩ (mem_t (k := 1) (by decide +kernel)) (m_t 13 (by decide +kernel)) (mem_t (k := 14) (by decide +kernel)) (mem_t (k := 15) (by decide +kernel)) rfl (by decide +kernel) rfl rfl ⟨Nat.le_of_ble_eq_true rfl, Nat.le_of_ble_eq_true rfl⟩ hK hN hP hD hS hA hl.1 (Nat.le_of_ble_eq_true rfl) dl_4 ⟨Nat.le_of_ble_eq_true rfl, Nat.le_of_ble_eq_true rfl⟩ (fun adB H locs h_adB hP hD hS => ?_)
  refine lv_astore_n (lv' := [(1, .ref q0), (0, .ref b)]) hx hb dl_7 rfl hl (by decide) rfl (fun ls hl => ?_)
  have hP : va_P D vwCl (WL dA adB KB) H := hP
  have hD : va_D (fun q : Nat => s.heap.size ≤ q) (WL dA adB KB) := hD
  refine lv_bipush (v := nI 11) hx hb dl_8 (by decide) ?_
  refine va_newa (atype := .int) (N' := 11) (a0 := (11, .inl (fun _ => 0))) hx hb (hts (.arrayClass .int) (m_t 72 (by decide +kernel))) rfl hK hP hD hS hA (fun _ => rfl) (nI_nn (by decide)) (nI_clamp (by decide)) (Nat.le_of_ble_eq_true rfl) (Nat.le_of_ble_eq_true rfl) (Nat.le_of_ble_eq_true rfl) dl_10 (fun q1 cA H hK1 hP hD hS => ?_)
  obtain rfl := cls_eq (i := 0) rfl hK1
  refine lv_astore_n (lv' := [(2, .ref q1), (1, .ref q0), (0, .ref b)]) hx hb dl_12 rfl hl (by decide) rfl (fun ls hl => ?_)
  have hP : va_P D vwCl ((WL dA adB KB) ++ [(q1, .inl (dA 0, 11, .inl (fun _ => 0)))]) H := hP
  have hD : va_D (fun q : Nat => s.heap.size ≤ q) ((WL dA adB KB) ++ [(q1, .inl (dA 0, 11, .inl (fun _ => 0)))]) := hD
  refine lv_bipush (v := nI 9) hx hb dl_13 (by decide) ?_
  refine va_newa (atype := .int) (N' := 9) (a0 := (9, .inl (fun _ => 0))) hx hb (hts (.arrayClass .int) (m_t 72 (by decide +kernel))) rfl hK hP hD hS hA (fun _ => rfl) (nI_nn (by decide)) (nI_clamp (by decide)) (Nat.le_of_ble_eq_true rfl) (Nat.le_of_ble_eq_true rfl) (Nat.le_of_ble_eq_true rfl) dl_15 (fun q2 cA H hK1 hP hD hS => ?_)
  obtain rfl := cls_eq (i := 0) rfl hK1
  refine lv_astore_n (lv' := [(3, .ref q2), (2, .ref q1), (1, .ref q0), (0, .ref b)]) hx hb dl_17 rfl hl (by decide) rfl (fun ls hl => ?_)
  have hP : va_P D vwCl (((WL dA adB KB) ++ [(q1, .inl (dA 0, 11, .inl (fun _ => 0)))]) ++ [(q2, .inl (dA 0, 9, .inl (fun _ => 0)))]) H := hP
  have hD : va_D (fun q : Nat => s.heap.size ≤ q) (((WL dA adB KB) ++ [(q1, .inl (dA 0, 11, .inl (fun _ => 0)))]) ++ [(q2, .inl (dA 0, 9, .inl (fun _ => 0)))]) := hD
  refine lv_bipush (v := nI 63) hx hb dl_18 (by decide) ?_
  refine va_newa (atype := .int) (N' := 63) (a0 := (63, .inl (fun _ => 0))) hx hb (hts (.arrayClass .int) (m_t 72 (by decide +kernel))) rfl hK hP hD hS hA (fun _ => rfl) (nI_nn (by decide)) (nI_clamp (by decide)) (Nat.le_of_ble_eq_true rfl) (Nat.le_of_ble_eq_true rfl) (Nat.le_of_ble_eq_true rfl) dl_20 (fun q3 cA H hK1 hP hD hS => ?_)
  obtain rfl := cls_eq (i := 0) rfl hK1
  refine lv_astore (lv' := [(4, .ref q3), (3, .ref q2), (2, .ref q1), (1, .ref q0), (0, .ref b)]) hx hb dl_22 hl (by decide) rfl (fun ls hl => ?_)
  have hP : va_P D vwCl ((((WL dA adB KB) ++ [(q1, .inl (dA 0, 11, .inl (fun _ => 0)))]) ++ [(q2, .inl (dA 0, 9, .inl (fun _ => 0)))]) ++ [(q3, .inl (dA 0, 63, .inl (fun _ => 0)))]) H := hP
  have hD : va_D (fun q : Nat => s.heap.size ≤ q) ((((WL dA adB KB) ++ [(q1, .inl (dA 0, 11, .inl (fun _ => 0)))]) ++ [(q2, .inl (dA 0, 9, .inl (fun _ => 0)))]) ++ [(q3, .inl (dA 0, 63, .inl (fun _ => 0)))]) := hD
  refine lv_bipush (v := nI 60) hx hb dl_24 (by decide) ?_
  refine va_newa (atype := .int) (N' := 60) (a0 := (60, .inl (fun _ => 0))) hx hb (hts (.arrayClass .int) (m_t 72 (by decide +kernel))) rfl hK hP hD hS hA (fun _ => rfl) (nI_nn (by decide)) (nI_clamp (by decide)) (Nat.le_of_ble_eq_true rfl) (Nat.le_of_ble_eq_true rfl) (Nat.le_of_ble_eq_true rfl) dl_26 (fun q4 cA H hK1 hP hD hS => ?_)
  obtain rfl := cls_eq (i := 0) rfl hK1
  refine lv_astore (lv' := [(5, .ref q4), (4, .ref q3), (3, .ref q2), (2, .ref q1), (1, .ref q0), (0, .ref b)]) hx hb dl_28 hl (by decide) rfl (fun ls hl => ?_)
  have hP : va_P D vwCl (((((WL dA adB KB) ++ [(q1, .inl (dA 0, 11, .inl (fun _ => 0)))]) ++ [(q2, .inl (dA 0, 9, .inl (fun _ => 0)))]) ++ [(q3, .inl (dA 0, 63, .inl (fun _ => 0)))]) ++ [(q4, .inl (dA 0, 60, .inl (fun _ => 0)))]) H := hP
  have hD : va_D (fun q : Nat => s.heap.size ≤ q) (((((WL dA adB KB) ++ [(q1, .inl (dA 0, 11, .inl (fun _ => 0)))]) ++ [(q2, .inl (dA 0, 9, .inl (fun _ => 0)))]) ++ [(q3, .inl (dA 0, 63, .inl (fun _ => 0)))]) ++ [(q4, .inl (dA 0, 60, .inl (fun _ => 0)))]) := hD
  refine lv_bipush (v := nI 60) hx hb dl_30 (by decide) ?_
  refine va_newa (atype := .int) (N' := 60) (a0 := (60, .inl (fun _ => 0))) hx hb (hts (.arrayClass .int) (m_t 72 (by decide +kernel))) rfl hK hP hD hS hA (fun _ => rfl) (nI_nn (by decide)) (nI_clamp (by decide)) (Nat.le_of_ble_eq_true rfl) (Nat.le_of_ble_eq_true rfl) (Nat.le_of_ble_eq_true rfl) dl_32 (fun q5 cA H hK1 hP hD hS => ?_)
  obtain rfl := cls_eq (i := 0) rfl hK1
  refine lv_astore (lv' := [(6, .ref q5), (5, .ref q4), (4, .ref q3), (3, .ref q2), (2, .ref q1), (1, .ref q0), (0, .ref b)]) hx hb dl_34 hl (by decide) rfl (fun ls hl => ?_)
  have hP : va_P D vwCl ((((((WL dA adB KB) ++ [(q1, .inl (dA 0, 11, .inl (fun _ => 0)))]) ++ [(q2, .inl (dA 0, 9, .inl (fun _ => 0)))]) ++ [(q3, .inl (dA 0, 63, .inl (fun _ => 0)))]) ++ [(q4, .inl (dA 0, 60, .inl (fun _ => 0)))]) ++ [(q5, .inl (dA 0, 60, .inl (fun _ => 0)))]) H := hP
  have hD : va_D (fun q : Nat => s.heap.size ≤ q) ((((((WL dA adB KB) ++ [(q1, .inl (dA 0, 11, .inl (fun _ => 0)))]) ++ [(q2, .inl (dA 0, 9, .inl (fun _ => 0)))]) ++ [(q3, .inl (dA 0, 63, .inl (fun _ => 0)))]) ++ [(q4, .inl (dA 0, 60, .inl (fun _ => 0)))]) ++ [(q5, .inl (dA 0, 60, .inl (fun _ => 0)))]) := hD
  generalize hAd : (fun k : Key => if k.1 = 30 then b else if k.1 = 17 then q1 else if k.1 = 18 then q2 else if k.1 = 19 then q3 else if k.1 = 20 then q4 else if k.1 = 21 then q5 else adB k) = ad
  have g30 : ad (30, 0, 0) = b := by rw [← hAd]; rfl
  have g17 : ad (17, 9, 0) = q1 := by rw [← hAd]; rfl
  have g18 : ad (18, 9, 0) = q2 := by rw [← hAd]; rfl
  have g19 : ad (19, 9, 0) = q3 := by rw [← hAd]; rfl
  have g20 : ad (20, 9, 0) = q4 := by rw [← hAd]; rfl
  have g21 : ad (21, 9, 0) = q5 := by rw [← hAd]; rfl
  have gB : ∀ k : Key, kdB k.1 → ad k = adB k := fun k h => by
    have h0 : k.1 ≤ 16 ∧ k.1 ≠ 8 := h
    rw [← hAd]
    show (if k.1 = 30 then b else if k.1 = 17 then q1 else if k.1 = 18 then q2 else if k.1 = 19 then q3 else if k.1 = 20 then q4 else if k.1 = 21 then q5 else adB k) = _
    rw [if_neg (by omega), if_neg (by omega), if_neg (by omega), if_neg (by omega), if_neg (by omega), if_neg (by omega)]
  have eM : WL dA ad KM = [(q1, .inl (dA 0, 11, .inl (fun _ => 0))), (q2, .inl (dA 0, 9, .inl (fun _ => 0))), (q3, .inl (dA 0, 63, .inl (fun _ => 0))), (q4, .inl (dA 0, 60, .inl (fun _ => 0))), (q5, .inl (dA 0, 60, .inl (fun _ => 0)))] := by
    show [(ad (17, 9, 0), (.inl (dA 0, 11, .inl (fun _ => 0)) : va_E)), (ad (18, 9, 0), (.inl (dA 0, 9, .inl (fun _ => 0)) : va_E)), (ad (19, 9, 0), (.inl (dA 0, 63, .inl (fun _ => 0)) : va_E)), (ad (20, 9, 0), (.inl (dA 0, 60, .inl (fun _ => 0)) : va_E)), (ad (21, 9, 0), (.inl (dA 0, 60, .inl (fun _ => 0)) : va_E))] = _
    rw [g17, g18, g19, g20, g21]
  have eW : WL dA ad KAll = (((((WL dA adB KB) ++ [(q1, .inl (dA 0, 11, .inl (fun _ => 0)))]) ++ [(q2, .inl (dA 0, 9, .inl (fun _ => 0)))]) ++ [(q3, .inl (dA 0, 63, .inl (fun _ => 0)))]) ++ [(q4, .inl (dA 0, 60, .inl (fun _ => 0)))]) ++ [(q5, .inl (dA 0, 60, .inl (fun _ => 0)))] := by
    unfold KAll
    rw [WL_app, WL_KB gB, eM]
    simp only [List.append_assoc, List.cons_append, List.nil_append]
  rw [← eW] at hP hD
  have hAA : ∀ q, AA ad q → s.heap.size ≤ q := fun q hq => AA_of hD hq
  refine va_forget (fun q hq => hS.2.2 q hq) ?_
  refine law_run hL C0 hK g30 (DD_of hD) hAA ⟨Nat.le_of_ble_eq_true rfl, Nat.le_of_ble_eq_true rfl⟩ (WS_of hP) ⟨hS.1, fun q h1 h2 => hS.2.1 q h1 (Nat.not_le.mpr h1), fun q hq => by cases hq⟩ ?_
  rw [g17, g18, g19, g20, g21, gB (7, 0, 0) (by decide), h_adB, g30]
  exact hl
