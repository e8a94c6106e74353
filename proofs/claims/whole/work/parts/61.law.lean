/-! 61: the law from its entry -/
/-! THE CLAIM OUT OF ONE WALK OF THE LAW'S BODY. Your part is whole_start (and what it stands on); all else here is the same for every law, but numbers. -/
def R_law : String := "SightBlocksLaw"
def lw_P (b : Addr) (xs : List Int32) (args : Array Value) (s : State) : Prop := args = #[.ref b] ∧ s.IntsAt b xs ∧ xs.length ≤ 2048 ∧ (Jvm.Cond.and given_1 narrow_1).before args s = true
def lw_Q (_ : Array Value) (s : State) (o : Outcome) (t : State) : Prop := o = .returned (some (.int 1)) ∧ Framed s o t [] 600000 7302250
def lw_Z (below : List Frame) (a : Array Value) (s : State) : State → Prop := fun t => ∃ o, t.status = .running ∧ Ended t below o ∧ lw_Q a s o t
/-- the law's own end, with 1 on the stack, nothing written that was there before, its room as the claim has it -/
theorem lw_ret {p : Program} {l : Launch} {e : Env} {s : State} {m : MethodId} {below : List Frame} {meth : Method} {c : Code} {b : Nat} (hx : p.tables.exec = Jvm.exec) (hb : c.code = code) (hr : meth.sig.returnType = ret) (hlocks : meth.locks = false) {pc : Nat} {H : Heap} {ls : Array Slot} (hdg : decode code pc = .ok (.ireturn, 1)) : W p l e room_1 s m #[Value.ref b] below meth c H [] 600000 7302250 (lw_Z below #[Value.ref b] s) (F0 m pc ls [.int 1]) := by
  intro T hT X
  obtain ⟨fs, hret, hrun, hended, hW, hframe⟩ := X.leave (v := some (.int 1)) (hlocks := hlocks) (fun h => by rw [hr] at h; cases h)
  have hmeth' : T.vm.method? m = some meth := X.method'
  refine ⟨T.setFrames fs, ?_, .returned (some (.int 1)), hrun, hended, rfl, ⟨_, rfl⟩, hW, hframe⟩
  jvm_step X.here [X.here.top, hx, hb, hdg, hmeth', hr, ret, narrow_b1]
  (try refine ⟨rfl, ?_⟩); (try refine ⟨rfl, ?_⟩)
  first | (intro acts; rw [hret _ acts rfl rfl rfl]) | rw [hret _ _ rfl rfl rfl]
  exact Steps.refl _
/-- what holds at the law's entry: the machine, the code, the tables' words (any of lw_tbl by 'hts w (by decide +kernel)'), the script of L ints xs at the cell b, what the Statement gives of the start (any of its parts by flat_of_before) -/
def lw_At (p : Program) (s : State) (m : MethodId) (meth : Method) (c : Code) (b L : Nat) (xs : Nat → Int32) : Prop :=
  p.tables.exec = Jvm.exec ∧ c.code = code ∧ meth.sig.returnType = ret ∧ c.maxLocals = 4 ∧ s.vm.findClass R_law = some m.cls ∧ (∀ w ∈ lw_tbl, w.before #[Value.ref b] s = true) ∧ va_X b L xs s s.heap ∧ b < s.heap.size ∧ meth.locks = false ∧ (Jvm.Cond.and given_1 narrow_1).before #[Value.ref b] s = true
theorem dl_0 : decode code 0 = .ok (.new 7, 3) := by decide +kernel
theorem dl_3 : decode code 3 = .ok (.dup, 1) := by decide +kernel
theorem dl_4 : decode code 4 = .ok (.invokespecial 9, 3) := by decide +kernel
theorem dl_7 : decode code 7 = .ok (.astore_n 1, 1) := by decide +kernel
theorem dl_8 : decode code 8 = .ok (.new 10, 3) := by decide +kernel
theorem dl_11 : decode code 11 = .ok (.dup, 1) := by decide +kernel
theorem dl_12 : decode code 12 = .ok (.invokespecial 12, 3) := by decide +kernel
theorem dl_15 : decode code 15 = .ok (.astore_n 2, 1) := by decide +kernel
theorem dl_824 : decode code 824 = .ok (.ireturn, 1) := by decide +kernel
set_option maxRecDepth 20000 in
theorem lw_ev {X : XI} (hX : 0 ≤ X.1 ∧ X.1 ≤ 2048) : EvI X E_L_law (16, [some (.inr (.inr (some (30, 0, 0)))), some (.inr (.inr (some (7, 0, 0)))), some (.inr (.inr (some (8, 0, 0)))), none], [], MN0) (fun rr _ => rr = some (.inl 1)) := by
  refine seg_ok 2 (?_ : EvI X E_L_law (18, [some (.inr (.inr (some (30, 0, 0)))), some (.inr (.inr (some (7, 0, 0)))), some (.inr (.inr (some (8, 0, 0)))), some (.inl 0)], [], MN0) _)
  exact lw_loop hX (X.1 + 1).toNat 0 MN0 (by omega) (Int.le_refl 0) Wld_0
theorem he_law : nth MT 187 = some E_L_law := rfl
set_option maxHeartbeats 4000000 in
set_option maxRecDepth 100000 in
theorem law_run {p : Program} {e : Env} {s : State} {m : MethodId} {below : List Frame} {meth : Method} {c : Code} {l : Launch} {b L : Nat} {xs : Nat → Int32} (hL : L ≤ 2048) (C0 : lw_At p s m meth c b L xs) {D : va_G} {dA : Nat → ClassId} {ad : Key → Nat} (hK : va_K D vwCl (tysA dA) s) (hb30 : ad (30, 0, 0) = b) (hDD : ∀ M, va_D (AA ad) (WS dA ad M)) (hAA : ∀ q, AA ad q → s.heap.size ≤ q) (hSS : SS ad s s.heap) {H : Heap} {ls : Array Slot} {cells slots : Nat} (hcs : cells ≤ 600000 ∧ slots ≤ 7302250) (hP : va_P D vwCl (WS dA ad (cM MN0)) H) (hS : va_S (AA ad) s.heap H []) (hl : lv_has ls 4 [(2, .ref (ad (8, 0, 0))), (1, .ref (ad (7, 0, 0))), (0, .ref (ad (30, 0, 0)))]) : W p l e room_1 s m #[Value.ref b] below meth c H [] cells slots (lw_Z below #[Value.ref b] s) (F0 m 16 ls []) := by
  obtain ⟨hx, hb, hr, hml, hown, hts0, hXv, hbl, hlocks, hgv⟩ := id C0
  have hts : ∀ w ∈ gtbl, w.before #[Value.ref b] s = true := fun w hw => hts0 w (gtbl_lw w hw)
  generalize hXi : (((L : Int), fun n : Int => (xs n.toNat).toInt) : XI) = Xi
  have e1 : (cX Xi).1 = L := by rw [← hXi]; rfl
  have e2 : (cX Xi).2 = xs := by
    rw [← hXi]
    funext k
    show Int32.ofInt ((xs (Int.ofNat k).toNat).toInt) = xs k
    rw [Int32.ofInt_toInt]
    rfl
  have hX1 : 0 ≤ Xi.1 ∧ Xi.1 ≤ 2048 := by
    rw [← hXi]
    show 0 ≤ (L : Int) ∧ (L : Int) ≤ 2048
    omega
  have hokX : okX Xi := ⟨hX1.1, by omega, by rw [← hXi]; exact fun k => i32_toInt _⟩
  obtain ⟨n, hn⟩ := lw_ev hX1
  have hokS : okS (16, [some (.inr (.inr (some (30, 0, 0)))), some (.inr (.inr (some (7, 0, 0)))), some (.inr (.inr (some (8, 0, 0)))), none], [], MN0) := by
    refine ⟨fun v hv => ?_, (fun v hv => by cases hv), okM_0⟩
    simp only [List.mem_cons, List.not_mem_nil, or_false] at hv
    rcases hv with rfl | rfl | rfl | rfl
    · exact ⟨by decide, by decide⟩
    · exact ⟨by decide, by decide⟩
    · exact ⟨by decide, by decide⟩
    · exact True.intro
  obtain ⟨r, M', hrun, hQ, hro, hMo⟩ := wp_run hokX n 187 E_L_law (16, [some (.inr (.inr (some (30, 0, 0)))), some (.inr (.inr (some (7, 0, 0)))), some (.inr (.inr (some (8, 0, 0)))), none], [], MN0) _ he_law hn hokS
  subst hQ
  have hCx : Cx D dA ad (cX Xi) s := ⟨hK, by rw [e1, e2, hb30]; exact hXv, by rw [hb30]; exact hbl, fun z => absurd (hAA _ z) (by rw [hb30]; omega), hSS⟩
  have hvls : vls (cL [some (.inr (.inr (some (30, 0, 0)))), some (.inr (.inr (some (7, 0, 0)))), some (.inr (.inr (some (8, 0, 0)))), none]) := by
    intro i v hv
    match i, hv with
    | 0, hv => cases hv; exact Or.inr (Or.inl rfl)
    | 1, hv => cases hv; exact Or.inl (by decide +kernel)
    | 2, hv => cases hv; exact Or.inl (by decide +kernel)
    | 3, hv => cases hv
    | i + 4, hv => cases hv
  have hLR : LR ad (eG E_L_law) (eL E_L_law) (cL [some (.inr (.inr (some (30, 0, 0)))), some (.inr (.inr (some (7, 0, 0)))), some (.inr (.inr (some (8, 0, 0)))), none]) ls := by
    refine ⟨rfl, hl.1, hl.2.1, fun i v hv => ?_, fun _ i v hv => ?_⟩
    · match i, hv with
      | 0, hv => cases hv; exact lv_at hl 2 rfl
      | 1, hv => cases hv; exact lv_at hl 1 rfl
      | 2, hv => cases hv; exact lv_at hl 0 rfl
      | 3, hv => cases hv
      | i + 4, hv => cases hv
    · match i, hv with
      | 0, hv => cases hv; show (1 : Nat) ≠ 2; decide
      | 1, hv => cases hv; show (1 : Nat) ≠ 2; decide
      | 2, hv => cases hv; show (1 : Nat) ≠ 2; decide
      | 3, hv => cases hv
      | i + 4, hv => cases hv
  have hsnd : Snd l D dA ad (cX Xi) E_L_law (cS (16, [some (.inr (.inr (some (30, 0, 0)))), some (.inr (.inr (some (7, 0, 0)))), some (.inr (.inr (some (8, 0, 0)))), none], [], MN0)) (cO (some (.inl 1))) (cM M') := sound (X := cX Xi) (hLn_ok l ad) (hCh_ok l ad) hDD n 187 (cS (16, [some (.inr (.inr (some (30, 0, 0)))), some (.inr (.inr (some (7, 0, 0)))), some (.inr (.inr (some (8, 0, 0)))), none], [], MN0)) _ _ hrun E_L_law he_law (Or.inr rfl) hvls (fun v hv => by cases hv)
  refine hsnd (R := room_1) ⟨Nat.le_of_ble_eq_true rfl, Nat.le_of_ble_eq_true rfl, hcs.1, hcs.2⟩ ⟨hx, hb, hml, hown, hts, hCx⟩ (fun pc I H2 locs als hvr hd hRet hP2 hS2 => ?_) H [] ls hLR hP hS
  rcases hRet with ⟨v, h1, rfl, h3⟩ | ⟨v, h1, h2, h3⟩ | ⟨v, nm, h1, h2, h3⟩ | ⟨h1, h2, h3⟩
  · refine va_forget (fun q hq => hAA _ (hS2.2.2 q hq)) ?_
    refine W.widen (k := 600000) (n := 7302250) hcs.1 hcs.2 ?_
    exact lw_ret hx hb hr hlocks hd
  · cases h1
  · cases h1
  · cases h1
set_option maxHeartbeats 4000000 in
set_option maxRecDepth 100000 in
/-- YOUR PART: from the entry, for every script of at most 2048 ints, the law comes to its end with true ('hflags': the launch's flags, for a law that throws: no stack traces) -/
theorem whole_start {p : Program} {e : Env} {s : State} {m : MethodId} {below : List Frame} {meth : Method} {c : Code} (l : Launch) (hflags : l.flags = flags0) {b L : Nat} {xs : Nat → Int32} (hL : L ≤ 2048) (C0 : lw_At p s m meth c b L xs) : W p l e room_1 s m #[Value.ref b] below meth c s.heap [] 0 0 (lw_Z below #[Value.ref b] s) (entryFrame m ([Value.ref b] : List Value).toArray 4) := by
  obtain ⟨hx, hb, hr, hml, hown, hts0, hXv, hbl, hlocks, hgv⟩ := id C0
  have hts : ∀ w ∈ gtbl, w.before #[Value.ref b] s = true := fun w hw => hts0 w (gtbl_lw w hw)
  have hN : Nst s := start_N hts0
  obtain ⟨D, dA, hK⟩ := start_K hts hN
  obtain ⟨adS, hV0, hZ0, ⟨vF, hvF, hZF0⟩, hR0⟩ := start_S (A := fun q : Nat => s.heap.size ≤ q) hts0 hgv (fun q hq => Nat.not_le.mpr hq)
  have hA : ∀ q : Nat, s.heap.size ≤ q → (fun q : Nat => s.heap.size ≤ q) q := fun _ h => h
  have hS : va_S (fun q : Nat => s.heap.size ≤ q) s.heap s.heap [] := va_S.rf
  have hP : va_P D vwCl [] s.heap := fun k q h => by simp at h
  have hD : va_D (fun q : Nat => s.heap.size ≤ q) [] := ⟨fun i j p q h => by simp at h, fun k q h => by simp at h⟩
  have hl := lv_entry ([.ref b]) (n := 4) (Nat.le_of_ble_eq_true rfl)
  rw [lg_entry_eq]
  generalize (lg_sl ([.ref b]) ++ List.replicate (4 - (lg_sl ([.ref b])).length) Slot.unset).toArray = ls at hl ⊢
  have hl : lv_has ls 4 [(0, .ref b)] := hl
  refine va_new (ci := 7) (fs := [.null, .null, .null, .null]) (C := RX7) (T := TX7) (N := 4) hx hb hts i_X7 tyX7 tyX7_ok hown (hts (.classLink R_law 7 RX7) (m_t 16 (by decide +kernel))) (hts (.instantiable RX7 4) (mem_t (k := 17) (by decide +kernel))) (hts (.initialized RX7) (mem_t (k := 1) (by decide +kernel))) hK hP hD hS hA rfl (by decide +kernel) (Nat.le_of_ble_eq_true rfl) (Nat.le_of_ble_eq_true rfl) dl_0 (fun q0 H hP hD hS => ?_)
  refine lv_dup hx hb dl_3 rfl ?_
  refine ctor_I (wl := []) (b_X7 l D dA) ⟨hx, hb, hml, hown, hts⟩ (mem_t (k := 1) (by decide +kernel)) (m_t 18 (by decide +kernel)) (mem_t (k := 19) (by decide +kernel)) (mem_t (k := 20) (by decide +kernel)) rfl (by decide +kernel) rfl rfl ⟨Nat.le_of_ble_eq_true rfl, Nat.le_of_ble_eq_true rfl⟩ hK hN hP hD hS hA hl.1 (Nat.le_of_ble_eq_true rfl) dl_4 ⟨Nat.le_of_ble_eq_true rfl, Nat.le_of_ble_eq_true rfl⟩ (fun adB H locs h_adB hP hD hS => ?_)
  refine lv_astore_n (lv' := [(1, .ref q0), (0, .ref b)]) hx hb dl_7 rfl hl (by decide) rfl (fun ls hl => ?_)
  have hP : va_P D vwCl (WL dA adB KB) H := hP
  have hD : va_D (fun q : Nat => s.heap.size ≤ q) (WL dA adB KB) := hD
  refine va_new (ci := 8) (fs := [.int 0, .null, .null, .null, .int 0, .null, .int 0, .int 0, .int 0, .int 0, .int 0, .null]) (C := RX8) (T := TX8) (N := 12) hx hb hts i_X8 tyX8 tyX8_ok hown (hts (.classLink R_law 10 RX8) (m_t 692 (by decide +kernel))) (hts (.instantiable RX8 12) (mem_t (k := 693) (by decide +kernel))) (hts (.initialized RX8) (mem_t (k := 9) (by decide +kernel))) hK hP hD hS hA rfl (by decide +kernel) (Nat.le_of_ble_eq_true rfl) (Nat.le_of_ble_eq_true rfl) dl_8 (fun q1 H hP hD hS => ?_)
  refine lv_dup hx hb dl_11 rfl ?_
  refine ctor_I (wl := WL dA adB KB) (b_X8 l D dA) ⟨hx, hb, hml, hown, hts⟩ (mem_t (k := 9) (by decide +kernel)) (m_t 694 (by decide +kernel)) (mem_t (k := 695) (by decide +kernel)) (mem_t (k := 696) (by decide +kernel)) rfl (by decide +kernel) rfl rfl ⟨Nat.le_of_ble_eq_true rfl, Nat.le_of_ble_eq_true rfl⟩ hK hN hP hD hS hA hl.1 (Nat.le_of_ble_eq_true rfl) dl_12 ⟨Nat.le_of_ble_eq_true rfl, Nat.le_of_ble_eq_true rfl⟩ (fun adM H locs h_adM hP hD hS => ?_)
  refine lv_astore_n (lv' := [(2, .ref q1), (1, .ref q0), (0, .ref b)]) hx hb dl_15 rfl hl (by decide) rfl (fun ls hl => ?_)
  generalize hAd : (fun k : Key => if k.1 = 30 then b else if k.1 = 31 then adS k.2.1 else if k.1 = 8 ∨ (17 ≤ k.1 ∧ k.1 ≤ 21) then adM k else adB k) = ad
  have g30 : ad (30, 0, 0) = b := by rw [← hAd]; rfl
  have g31 : ∀ i, ad (31, i, 0) = adS i := fun i => by rw [← hAd]; rfl
  have gM : ∀ K, K = 8 ∨ (17 ≤ K ∧ K ≤ 21) → ad (K, 0, 0) = adM (K, 0, 0) := fun K h => by
    rw [← hAd]
    show (if K = 30 then b else if K = 31 then adS 0 else if K = 8 ∨ (17 ≤ K ∧ K ≤ 21) then adM (K, 0, 0) else adB (K, 0, 0)) = _
    rw [if_neg (by omega), if_neg (by omega), if_pos h]
  have gB : ∀ k : Key, kdB k.1 → ad k = adB k := fun k h => by
    have h0 : k.1 ≤ 16 ∧ k.1 ≠ 8 := h
    rw [← hAd]
    show (if k.1 = 30 then b else if k.1 = 31 then adS k.2.1 else if k.1 = 8 ∨ (17 ≤ k.1 ∧ k.1 ≤ 21) then adM k else adB k) = _
    rw [if_neg (by omega), if_neg (by omega), if_neg (by omega)]
  have eW : WL dA ad KAll = WL dA adB KB ++ WL dA adM KM := by
    unfold KAll
    rw [WL_app, WL_KB gB, WL_KM gM]
  rw [← eW] at hP hD
  have hAA : ∀ q, AA ad q → s.heap.size ≤ q := fun q hq => AA_of hD hq
  have hSS : SS ad s s.heap := by
    obtain ⟨adV, hV⟩ := hV0
    refine ⟨⟨adV, ?_⟩, hZ0.narrow hAA, ⟨vF, hvF, hZF0.narrow hAA⟩, fun q hq => by rw [g31]; exact hR0 q hq⟩
    rw [show (fun i => ad (31, i, 0)) = adS from funext g31]
    exact hV.narrow hAA
  refine va_forget (fun q hq => hS.2.2 q hq) ?_
  refine law_run hL C0 hK g30 (DD_of hD) hAA hSS ⟨Nat.le_of_ble_eq_true rfl, Nat.le_of_ble_eq_true rfl⟩ (WS_of hP) ⟨hS.1, fun q h1 h2 => hS.2.1 q h1 (Nat.not_le.mpr h1), fun q hq => by cases hq⟩ ?_
  rw [gM 8 (Or.inl rfl), h_adM, gB (7, 0, 0) (by decide), h_adB, g30]
  exact hl
