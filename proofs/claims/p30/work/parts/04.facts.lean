/-! 04: what the tables' words say of the abstract machine's tables -/
def gtbl : List Jvm.Cond := lw_tbl.filter goodWord
theorem gtbl_good : GoodIn gtbl gtbl := fun w hw => ⟨hw, good_of_word (List.mem_filter.mp hw).2⟩
theorem gtbl_lw : ∀ w ∈ gtbl, w ∈ lw_tbl := fun w hw => (List.mem_filter.mp hw).1
theorem gtbl_of {w : Jvm.Cond} (h : w ∈ lw_tbl) (g : goodWord w = true) : w ∈ gtbl := List.mem_filter.mpr ⟨h, g⟩
theorem mem_t {w : Jvm.Cond} {k : Nat} (h : tables_1[k]? = some w) (g : goodWord w = true := by rfl) : w ∈ gtbl := gtbl_of (List.mem_append_right _ (List.mem_of_getElem? h)) g
theorem mem_l {w : Jvm.Cond} {k : Nat} (h : lw_tbl[k]? = some w) (g : goodWord w = true := by rfl) : w ∈ gtbl := gtbl_of (List.mem_of_getElem? h) g
theorem nth_get {α : Type} : ∀ (l : List α) (n : Nat), nth l n = l[n]? := by
  intro l
  induction l with
  | nil => intro n; simp [nth]
  | cons a l ih =>
    intro n
    cases n with
    | zero => simp [nth]
    | succ n => simp [nth, ih]
theorem fnd2_mem {α : Type} : ∀ (l : List ((Nat × Nat) × α)) (a b : Nat) (v : α), fnd2 l a b = some v → ((a, b), v) ∈ l := by
  intro l
  induction l with
  | nil => intro a b v h; simp [fnd2] at h
  | cons q l ih =>
    intro a b v h
    rw [fnd2] at h
    cases hq : (Nat.beq q.1.1 a && Nat.beq q.1.2 b) with
    | true =>
      rw [hq] at h
      simp only [cond_true, Option.some.injEq] at h
      simp only [Bool.and_eq_true, Nat.beq_eq] at hq
      obtain ⟨⟨x, y⟩, w⟩ := q
      simp only at hq h
      obtain ⟨rfl, rfl⟩ := hq
      subst h
      exact List.mem_cons_self
    | false =>
      rw [hq] at h
      exact List.mem_cons_of_mem _ (ih a b v h)
theorem fnd_mem : ∀ (l : List (Nat × Instr × Nat)) (pc : Nat) (v : Instr × Nat), fnd l pc = some v → (pc, v) ∈ l := by
  intro l
  induction l with
  | nil => intro pc v h; simp [fnd] at h
  | cons q l ih =>
    intro pc v h
    rw [fnd] at h
    cases hq : Nat.beq q.1 pc with
    | true =>
      rw [hq] at h
      simp only [cond_true, Option.some.injEq] at h
      have := Nat.eq_of_beq_eq_true hq
      obtain ⟨x, w⟩ := q
      simp only at this h
      subst this; subst h
      exact List.mem_cons_self
    | false =>
      rw [hq] at h
      exact List.mem_cons_of_mem _ (ih pc v h)
def clN (K : Nat) : Nat := (nth [3, 6, 3, 5, 5, 10, 5, 4] K).getD 0
def clC (K : Nat) : String := (nth [RX0, RX1, RX2, RX3, RX4, RX5, RX6, RX7] K).getD ""
def clT (K : Nat) : u_T := (nth [TX0, TX1, TX2, TX3, TX4, TX5, TX6, TX7] K).getD TX0
def clY (K : Nat) : Nat → FieldType := (nth [tyX0, tyX1, tyX2, tyX3, tyX4, tyX5, tyX6, tyX7] K).getD tyX0
theorem cl_at : ∀ K, K < 8 → vwCl[K]? = some (clC K, clT K, clN K)
  | 0, _ => rfl
  | 1, _ => rfl
  | 2, _ => rfl
  | 3, _ => rfl
  | 4, _ => rfl
  | 5, _ => rfl
  | 6, _ => rfl
  | 7, _ => rfl
  | k + 8, h => absurd h (by omega)
set_option maxRecDepth 20000 in
theorem i_X0 : ∀ w ∈ wsX00, w ∈ gtbl := fun w hw => let h := (by decide +kernel : ∀ w ∈ wsX00, w ∈ lw_tbl ∧ goodWord w = true) w hw; gtbl_of h.1 h.2
set_option maxRecDepth 20000 in
theorem i_X1 : ∀ w ∈ wsX10, w ∈ gtbl := fun w hw => let h := (by decide +kernel : ∀ w ∈ wsX10, w ∈ lw_tbl ∧ goodWord w = true) w hw; gtbl_of h.1 h.2
set_option maxRecDepth 20000 in
theorem i_X2 : ∀ w ∈ wsX20, w ∈ gtbl := fun w hw => let h := (by decide +kernel : ∀ w ∈ wsX20, w ∈ lw_tbl ∧ goodWord w = true) w hw; gtbl_of h.1 h.2
set_option maxRecDepth 20000 in
theorem i_X3 : ∀ w ∈ wsX30, w ∈ gtbl := fun w hw => let h := (by decide +kernel : ∀ w ∈ wsX30, w ∈ lw_tbl ∧ goodWord w = true) w hw; gtbl_of h.1 h.2
set_option maxRecDepth 20000 in
theorem i_X4 : ∀ w ∈ wsX40, w ∈ gtbl := fun w hw => let h := (by decide +kernel : ∀ w ∈ wsX40, w ∈ lw_tbl ∧ goodWord w = true) w hw; gtbl_of h.1 h.2
set_option maxRecDepth 20000 in
theorem i_X5 : ∀ w ∈ wsX50, w ∈ gtbl := fun w hw => let h := (by decide +kernel : ∀ w ∈ wsX50, w ∈ lw_tbl ∧ goodWord w = true) w hw; gtbl_of h.1 h.2
set_option maxRecDepth 20000 in
theorem i_X6 : ∀ w ∈ wsX60, w ∈ gtbl := fun w hw => let h := (by decide +kernel : ∀ w ∈ wsX60, w ∈ lw_tbl ∧ goodWord w = true) w hw; gtbl_of h.1 h.2
set_option maxRecDepth 20000 in
theorem i_X7 : ∀ w ∈ wsX70, w ∈ gtbl := fun w hw => let h := (by decide +kernel : ∀ w ∈ wsX70, w ∈ lw_tbl ∧ goodWord w = true) w hw; gtbl_of h.1 h.2
theorem cl_in : ∀ K, K < 8 → ∀ w ∈ u_ws (clC K) (clT K) (clN K), w ∈ gtbl
  | 0, _ => i_X0
  | 1, _ => i_X1
  | 2, _ => i_X2
  | 3, _ => i_X3
  | 4, _ => i_X4
  | 5, _ => i_X5
  | 6, _ => i_X6
  | 7, _ => i_X7
  | k + 8, h => absurd h (by omega)
theorem cl_ty : ∀ K, K < 8 → ∀ k, k < clN K → parseFieldDescriptor (clT K k).2.2.1 = some (clY K k)
  | 0, _ => tyX0_ok
  | 1, _ => tyX1_ok
  | 2, _ => tyX2_ok
  | 3, _ => tyX3_ok
  | 4, _ => tyX4_ok
  | 5, _ => tyX5_ok
  | 6, _ => tyX6_ok
  | 7, _ => tyX7_ok
  | k + 8, h => absurd h (by omega)
theorem cl_nm : ∀ K, K < 8 → ∀ a, a < clN K → ∀ b, b < clN K → a ≠ b → (clT K a).2.1 ≠ (clT K b).2.1
  | 0, _ => nmX0
  | 1, _ => nmX1
  | 2, _ => nmX2
  | 3, _ => nmX3
  | 4, _ => nmX4
  | 5, _ => nmX5
  | 6, _ => nmX6
  | 7, _ => nmX7
  | k + 8, h => absurd h (by omega)
set_option maxRecDepth 20000 in
theorem ft_ok : ∀ q ∈ FTab, q.2.1 < 8 ∧ q.2.2.1 < clN q.2.1 ∧ tables_1[q.2.2.2]? = some (.fieldLink (ownS q.1.1) q.1.2 (clT q.2.1 q.2.2.1).1 (clT q.2.1 q.2.2.1).2.1 (clT q.2.1 q.2.2.1).2.2.1) := by decide +kernel
set_option maxRecDepth 20000 in
theorem ft_good : ∀ K, K < 8 → ∀ s, s < clN K → shp K s 0 = none → (clT K s).2.2.2 = false ∧ clY K s = (if fZ K s then .boolean else .int) := by decide +kernel
def MW (e : ME) : Prop := (plainName (eY e).cls = true ∧ (eY e).cls = ownS (eO e) ∧ ((eY e).cls ≠ "java/lang/invoke/MethodHandle" ∧ (eY e).cls ≠ "java/lang/invoke/VarHandle" ∧ (parseMethodDescriptor (eY e).desc).map (fun d => d.parameters.length) = some (eN e)) ∧ Cond.initialized (eY e).cls ∈ gtbl ∧ (if eS e = true then Cond.static (eY e) ∈ gtbl else Cond.instanceMethod (eY e) ∈ gtbl ∧ Cond.selects (eY e).cls (eY e) (eY e) ∈ gtbl)) ∧ Cond.code (eY e) (eB e) (eL e) (eR e) ∈ gtbl ∧ (∀ q ∈ eI e, decode (eB e) q.1 = .ok q.2)
theorem w_X0_copyFrom : MW E_X0_copyFrom := ⟨⟨by decide +kernel, by decide +kernel, by decide +kernel, mem_t (k := 4) (by decide +kernel), ⟨mem_t (k := 378) (by decide +kernel), mem_t (k := 379) (by decide +kernel)⟩⟩, mem_t (k := 380) (by decide +kernel), dc_X0_copyFrom⟩
theorem w_X1_copyFrom : MW E_X1_copyFrom := ⟨⟨by decide +kernel, by decide +kernel, by decide +kernel, mem_t (k := 3) (by decide +kernel), ⟨mem_t (k := 374) (by decide +kernel), mem_t (k := 375) (by decide +kernel)⟩⟩, mem_t (k := 376) (by decide +kernel), dc_X1_copyFrom⟩
theorem w_X1_makeBlock : MW E_X1_makeBlock := ⟨⟨by decide +kernel, by decide +kernel, by decide +kernel, mem_t (k := 3) (by decide +kernel), ⟨mem_t (k := 393) (by decide +kernel), mem_t (k := 394) (by decide +kernel)⟩⟩, mem_t (k := 395) (by decide +kernel), dc_X1_makeBlock⟩
theorem w_X1_makeStage : MW E_X1_makeStage := ⟨⟨by decide +kernel, by decide +kernel, by decide +kernel, mem_t (k := 3) (by decide +kernel), ⟨mem_t (k := 412) (by decide +kernel), mem_t (k := 413) (by decide +kernel)⟩⟩, mem_t (k := 414) (by decide +kernel), dc_X1_makeStage⟩
theorem w_X1_makePiece : MW E_X1_makePiece := ⟨⟨by decide +kernel, by decide +kernel, by decide +kernel, mem_t (k := 3) (by decide +kernel), ⟨mem_t (k := 420) (by decide +kernel), mem_t (k := 421) (by decide +kernel)⟩⟩, mem_t (k := 422) (by decide +kernel), dc_X1_makePiece⟩
theorem w_X1_raiseStage : MW E_X1_raiseStage := ⟨⟨by decide +kernel, by decide +kernel, by decide +kernel, mem_t (k := 3) (by decide +kernel), ⟨mem_t (k := 444) (by decide +kernel), mem_t (k := 445) (by decide +kernel)⟩⟩, mem_t (k := 446) (by decide +kernel), dc_X1_raiseStage⟩
theorem w_X1_lowerStage : MW E_X1_lowerStage := ⟨⟨by decide +kernel, by decide +kernel, by decide +kernel, mem_t (k := 3) (by decide +kernel), ⟨mem_t (k := 456) (by decide +kernel), mem_t (k := 457) (by decide +kernel)⟩⟩, mem_t (k := 458) (by decide +kernel), dc_X1_lowerStage⟩
theorem w_X1_newlyKilled : MW E_X1_newlyKilled := ⟨⟨by decide +kernel, by decide +kernel, by decide +kernel, mem_t (k := 3) (by decide +kernel), ⟨mem_t (k := 464) (by decide +kernel), mem_t (k := 465) (by decide +kernel)⟩⟩, mem_t (k := 466) (by decide +kernel), dc_X1_newlyKilled⟩
theorem w_X1_stagesThatAreUp : MW E_X1_stagesThatAreUp := ⟨⟨by decide +kernel, by decide +kernel, by decide +kernel, mem_t (k := 3) (by decide +kernel), ⟨mem_t (k := 347) (by decide +kernel), mem_t (k := 348) (by decide +kernel)⟩⟩, mem_t (k := 349) (by decide +kernel), dc_X1_stagesThatAreUp⟩
theorem w_X1_blockAt : MW E_X1_blockAt := ⟨⟨by decide +kernel, by decide +kernel, by decide +kernel, mem_t (k := 3) (by decide +kernel), ⟨mem_t (k := 240) (by decide +kernel), mem_t (k := 241) (by decide +kernel)⟩⟩, mem_t (k := 242) (by decide +kernel), dc_X1_blockAt⟩
theorem w_X1_rankOf : MW E_X1_rankOf := ⟨⟨by decide +kernel, by decide +kernel, by decide +kernel, mem_t (k := 3) (by decide +kernel), ⟨mem_t (k := 285) (by decide +kernel), mem_t (k := 286) (by decide +kernel)⟩⟩, mem_t (k := 287) (by decide +kernel), dc_X1_rankOf⟩
theorem w_X1_priceOf : MW E_X1_priceOf := ⟨⟨by decide +kernel, by decide +kernel, by decide +kernel, mem_t (k := 3) (by decide +kernel), ⟨mem_t (k := 506) (by decide +kernel), mem_t (k := 507) (by decide +kernel)⟩⟩, mem_t (k := 508) (by decide +kernel), dc_X1_priceOf⟩
theorem w_X1_chairFigure : MW E_X1_chairFigure := ⟨⟨by decide +kernel, by decide +kernel, by decide +kernel, mem_t (k := 3) (by decide +kernel), ⟨mem_t (k := 304) (by decide +kernel), mem_t (k := 305) (by decide +kernel)⟩⟩, mem_t (k := 306) (by decide +kernel), dc_X1_chairFigure⟩
theorem w_X1_blockFigure : MW E_X1_blockFigure := ⟨⟨by decide +kernel, by decide +kernel, by decide +kernel, mem_t (k := 3) (by decide +kernel), ⟨mem_t (k := 267) (by decide +kernel), mem_t (k := 268) (by decide +kernel)⟩⟩, mem_t (k := 269) (by decide +kernel), dc_X1_blockFigure⟩
theorem w_X1_chairsIn : MW E_X1_chairsIn := ⟨⟨by decide +kernel, by decide +kernel, by decide +kernel, mem_t (k := 3) (by decide +kernel), ⟨mem_t (k := 537) (by decide +kernel), mem_t (k := 538) (by decide +kernel)⟩⟩, mem_t (k := 539) (by decide +kernel), dc_X1_chairsIn⟩
theorem w_X1_mark : MW E_X1_mark := ⟨⟨by decide +kernel, by decide +kernel, by decide +kernel, mem_t (k := 3) (by decide +kernel), ⟨mem_t (k := 485) (by decide +kernel), mem_t (k := 486) (by decide +kernel)⟩⟩, mem_t (k := 487) (by decide +kernel), dc_X1_mark⟩
theorem w_X1_findPlace : MW E_X1_findPlace := ⟨⟨by decide +kernel, by decide +kernel, by decide +kernel, mem_t (k := 3) (by decide +kernel), ⟨mem_t (k := 247) (by decide +kernel), mem_t (k := 248) (by decide +kernel)⟩⟩, mem_t (k := 249) (by decide +kernel), dc_X1_findPlace⟩
theorem w_X1_greatestGroup : MW E_X1_greatestGroup := ⟨⟨by decide +kernel, by decide +kernel, by decide +kernel, mem_t (k := 3) (by decide +kernel), ⟨mem_t (k := 289) (by decide +kernel), mem_t (k := 290) (by decide +kernel)⟩⟩, mem_t (k := 291) (by decide +kernel), dc_X1_greatestGroup⟩
theorem w_X1_upgradeFor : MW E_X1_upgradeFor := ⟨⟨by decide +kernel, by decide +kernel, by decide +kernel, mem_t (k := 3) (by decide +kernel), ⟨mem_t (k := 553) (by decide +kernel), mem_t (k := 554) (by decide +kernel)⟩⟩, mem_t (k := 555) (by decide +kernel), dc_X1_upgradeFor⟩
theorem w_X1_isGroup : MW E_X1_isGroup := ⟨⟨by decide +kernel, by decide +kernel, by decide +kernel, mem_t (k := 3) (by decide +kernel), mem_t (k := 244) (by decide +kernel)⟩, mem_t (k := 245) (by decide +kernel), dc_X1_isGroup⟩
theorem w_X1_isStage : MW E_X1_isStage := ⟨⟨by decide +kernel, by decide +kernel, by decide +kernel, mem_t (k := 3) (by decide +kernel), ⟨mem_t (k := 425) (by decide +kernel), mem_l (k := 8) (by decide +kernel)⟩⟩, mem_t (k := 426) (by decide +kernel), dc_X1_isStage⟩
theorem w_X1_isUp : MW E_X1_isUp := ⟨⟨by decide +kernel, by decide +kernel, by decide +kernel, mem_t (k := 3) (by decide +kernel), ⟨mem_t (k := 433) (by decide +kernel), mem_l (k := 10) (by decide +kernel)⟩⟩, mem_t (k := 434) (by decide +kernel), dc_X1_isUp⟩
theorem w_X1_isChair : MW E_X1_isChair := ⟨⟨by decide +kernel, by decide +kernel, by decide +kernel, mem_t (k := 3) (by decide +kernel), ⟨mem_t (k := 309) (by decide +kernel), mem_l (k := 3) (by decide +kernel)⟩⟩, mem_t (k := 310) (by decide +kernel), dc_X1_isChair⟩
theorem w_X1_isPiece : MW E_X1_isPiece := ⟨⟨by decide +kernel, by decide +kernel, by decide +kernel, mem_t (k := 3) (by decide +kernel), ⟨mem_t (k := 429) (by decide +kernel), mem_l (k := 9) (by decide +kernel)⟩⟩, mem_t (k := 430) (by decide +kernel), dc_X1_isPiece⟩
theorem w_X1_chairsUnder : MW E_X1_chairsUnder := ⟨⟨by decide +kernel, by decide +kernel, by decide +kernel, mem_t (k := 3) (by decide +kernel), ⟨mem_t (k := 437) (by decide +kernel), mem_l (k := 11) (by decide +kernel)⟩⟩, mem_t (k := 438) (by decide +kernel), dc_X1_chairsUnder⟩
theorem w_X1_hasTakenChairUnder : MW E_X1_hasTakenChairUnder := ⟨⟨by decide +kernel, by decide +kernel, by decide +kernel, mem_t (k := 3) (by decide +kernel), ⟨mem_t (k := 449) (by decide +kernel), mem_l (k := 12) (by decide +kernel)⟩⟩, mem_t (k := 450) (by decide +kernel), dc_X1_hasTakenChairUnder⟩
theorem w_X1_chairsThatAre : MW E_X1_chairsThatAre := ⟨⟨by decide +kernel, by decide +kernel, by decide +kernel, mem_t (k := 3) (by decide +kernel), ⟨mem_t (k := 272) (by decide +kernel), mem_l (k := 1) (by decide +kernel)⟩⟩, mem_t (k := 273) (by decide +kernel), dc_X1_chairsThatAre⟩
theorem w_X1_usableIn : MW E_X1_usableIn := ⟨⟨by decide +kernel, by decide +kernel, by decide +kernel, mem_t (k := 3) (by decide +kernel), ⟨mem_t (k := 276) (by decide +kernel), mem_l (k := 2) (by decide +kernel)⟩⟩, mem_t (k := 277) (by decide +kernel), dc_X1_usableIn⟩
theorem w_X1_usableInRow : MW E_X1_usableInRow := ⟨⟨by decide +kernel, by decide +kernel, by decide +kernel, mem_t (k := 3) (by decide +kernel), ⟨mem_t (k := 254) (by decide +kernel), mem_l (k := 0) (by decide +kernel)⟩⟩, mem_t (k := 255) (by decide +kernel), dc_X1_usableInRow⟩
theorem w_X1_hasRoom : MW E_X1_hasRoom := ⟨⟨by decide +kernel, by decide +kernel, by decide +kernel, mem_t (k := 3) (by decide +kernel), mem_t (k := 257) (by decide +kernel)⟩, mem_t (k := 258) (by decide +kernel), dc_X1_hasRoom⟩
theorem w_X1_leftAlone : MW E_X1_leftAlone := ⟨⟨by decide +kernel, by decide +kernel, by decide +kernel, mem_t (k := 3) (by decide +kernel), mem_t (k := 260) (by decide +kernel)⟩, mem_t (k := 261) (by decide +kernel), dc_X1_leftAlone⟩
theorem w_X2_prepare : MW E_X2_prepare := ⟨⟨by decide +kernel, by decide +kernel, by decide +kernel, mem_t (k := 7) (by decide +kernel), ⟨mem_t (k := 366) (by decide +kernel), mem_t (k := 367) (by decide +kernel)⟩⟩, mem_t (k := 368) (by decide +kernel), dc_X2_prepare⟩
theorem w_X2_keepPrepared : MW E_X2_keepPrepared := ⟨⟨by decide +kernel, by decide +kernel, by decide +kernel, mem_t (k := 7) (by decide +kernel), ⟨mem_t (k := 401) (by decide +kernel), mem_t (k := 402) (by decide +kernel)⟩⟩, mem_t (k := 403) (by decide +kernel), dc_X2_keepPrepared⟩
theorem w_X3_copyFrom : MW E_X3_copyFrom := ⟨⟨by decide +kernel, by decide +kernel, by decide +kernel, mem_t (k := 5) (by decide +kernel), ⟨mem_t (k := 385) (by decide +kernel), mem_t (k := 386) (by decide +kernel)⟩⟩, mem_t (k := 387) (by decide +kernel), dc_X3_copyFrom⟩
theorem w_X5_copyFrom : MW E_X5_copyFrom := ⟨⟨by decide +kernel, by decide +kernel, by decide +kernel, mem_t (k := 2) (by decide +kernel), ⟨mem_t (k := 370) (by decide +kernel), mem_t (k := 371) (by decide +kernel)⟩⟩, mem_t (k := 372) (by decide +kernel), dc_X5_copyFrom⟩
theorem w_X5_makeHold : MW E_X5_makeHold := ⟨⟨by decide +kernel, by decide +kernel, by decide +kernel, mem_t (k := 2) (by decide +kernel), ⟨mem_t (k := 475) (by decide +kernel), mem_t (k := 476) (by decide +kernel)⟩⟩, mem_t (k := 477) (by decide +kernel), dc_X5_makeHold⟩
theorem w_X5_buyHold : MW E_X5_buyHold := ⟨⟨by decide +kernel, by decide +kernel, by decide +kernel, mem_t (k := 2) (by decide +kernel), ⟨mem_t (k := 502) (by decide +kernel), mem_t (k := 503) (by decide +kernel)⟩⟩, mem_t (k := 504) (by decide +kernel), dc_X5_buyHold⟩
theorem w_X5_dropHold : MW E_X5_dropHold := ⟨⟨by decide +kernel, by decide +kernel, by decide +kernel, mem_t (k := 2) (by decide +kernel), ⟨mem_t (k := 514) (by decide +kernel), mem_t (k := 515) (by decide +kernel)⟩⟩, mem_t (k := 516) (by decide +kernel), dc_X5_dropHold⟩
theorem w_X5_returnTicket : MW E_X5_returnTicket := ⟨⟨by decide +kernel, by decide +kernel, by decide +kernel, mem_t (k := 2) (by decide +kernel), ⟨mem_t (k := 525) (by decide +kernel), mem_t (k := 526) (by decide +kernel)⟩⟩, mem_t (k := 527) (by decide +kernel), dc_X5_returnTicket⟩
theorem w_X5_admit : MW E_X5_admit := ⟨⟨by decide +kernel, by decide +kernel, by decide +kernel, mem_t (k := 2) (by decide +kernel), ⟨mem_t (k := 533) (by decide +kernel), mem_t (k := 534) (by decide +kernel)⟩⟩, mem_t (k := 535) (by decide +kernel), dc_X5_admit⟩
theorem w_X5_upgradeTicket : MW E_X5_upgradeTicket := ⟨⟨by decide +kernel, by decide +kernel, by decide +kernel, mem_t (k := 2) (by decide +kernel), ⟨mem_t (k := 545) (by decide +kernel), mem_t (k := 546) (by decide +kernel)⟩⟩, mem_t (k := 547) (by decide +kernel), dc_X5_upgradeTicket⟩
theorem w_X5_moveChain : MW E_X5_moveChain := ⟨⟨by decide +kernel, by decide +kernel, by decide +kernel, mem_t (k := 2) (by decide +kernel), ⟨mem_t (k := 549) (by decide +kernel), mem_t (k := 550) (by decide +kernel)⟩⟩, mem_t (k := 551) (by decide +kernel), dc_X5_moveChain⟩
theorem w_X5_letPass : MW E_X5_letPass := ⟨⟨by decide +kernel, by decide +kernel, by decide +kernel, mem_t (k := 2) (by decide +kernel), ⟨mem_t (k := 595) (by decide +kernel), mem_t (k := 596) (by decide +kernel)⟩⟩, mem_t (k := 597) (by decide +kernel), dc_X5_letPass⟩
theorem w_X5_shutDoors : MW E_X5_shutDoors := ⟨⟨by decide +kernel, by decide +kernel, by decide +kernel, mem_t (k := 2) (by decide +kernel), ⟨mem_t (k := 587) (by decide +kernel), mem_t (k := 588) (by decide +kernel)⟩⟩, mem_t (k := 589) (by decide +kernel), dc_X5_shutDoors⟩
theorem w_X5_numberOf : MW E_X5_numberOf := ⟨⟨by decide +kernel, by decide +kernel, by decide +kernel, mem_t (k := 2) (by decide +kernel), ⟨mem_t (k := 343) (by decide +kernel), mem_t (k := 344) (by decide +kernel)⟩⟩, mem_t (k := 345) (by decide +kernel), dc_X5_numberOf⟩
theorem w_X5_holdFigure : MW E_X5_holdFigure := ⟨⟨by decide +kernel, by decide +kernel, by decide +kernel, mem_t (k := 2) (by decide +kernel), ⟨mem_t (k := 319) (by decide +kernel), mem_t (k := 320) (by decide +kernel)⟩⟩, mem_t (k := 321) (by decide +kernel), dc_X5_holdFigure⟩
theorem w_X5_ticketFigure : MW E_X5_ticketFigure := ⟨⟨by decide +kernel, by decide +kernel, by decide +kernel, mem_t (k := 2) (by decide +kernel), ⟨mem_t (k := 331) (by decide +kernel), mem_t (k := 332) (by decide +kernel)⟩⟩, mem_t (k := 333) (by decide +kernel), dc_X5_ticketFigure⟩
theorem w_X5_minutesToExpiry : MW E_X5_minutesToExpiry := ⟨⟨by decide +kernel, by decide +kernel, by decide +kernel, mem_t (k := 2) (by decide +kernel), ⟨mem_t (k := 603) (by decide +kernel), mem_t (k := 604) (by decide +kernel)⟩⟩, mem_t (k := 605) (by decide +kernel), dc_X5_minutesToExpiry⟩
theorem w_X5_ticketAt : MW E_X5_ticketAt := ⟨⟨by decide +kernel, by decide +kernel, by decide +kernel, mem_t (k := 2) (by decide +kernel), ⟨mem_t (k := 335) (by decide +kernel), mem_t (k := 336) (by decide +kernel)⟩⟩, mem_t (k := 337) (by decide +kernel), dc_X5_ticketAt⟩
theorem w_X5_holdAt : MW E_X5_holdAt := ⟨⟨by decide +kernel, by decide +kernel, by decide +kernel, mem_t (k := 2) (by decide +kernel), ⟨mem_t (k := 324) (by decide +kernel), mem_l (k := 4) (by decide +kernel)⟩⟩, mem_t (k := 325) (by decide +kernel), dc_X5_holdAt⟩
theorem w_X5_moveTicket : MW E_X5_moveTicket := ⟨⟨by decide +kernel, by decide +kernel, by decide +kernel, mem_t (k := 2) (by decide +kernel), ⟨mem_t (k := 558) (by decide +kernel), mem_l (k := 13) (by decide +kernel)⟩⟩, mem_t (k := 559) (by decide +kernel), dc_X5_moveTicket⟩
theorem w_X5_nextMover : MW E_X5_nextMover := ⟨⟨by decide +kernel, by decide +kernel, by decide +kernel, mem_t (k := 2) (by decide +kernel), ⟨mem_t (k := 562) (by decide +kernel), mem_l (k := 14) (by decide +kernel)⟩⟩, mem_t (k := 563) (by decide +kernel), dc_X5_nextMover⟩
theorem w_X5_isWait : MW E_X5_isWait := ⟨⟨by decide +kernel, by decide +kernel, by decide +kernel, mem_t (k := 2) (by decide +kernel), mem_t (k := 481) (by decide +kernel)⟩, mem_t (k := 482) (by decide +kernel), dc_X5_isWait⟩
theorem w_X5_openHolds : MW E_X5_openHolds := ⟨⟨by decide +kernel, by decide +kernel, by decide +kernel, mem_t (k := 2) (by decide +kernel), ⟨mem_t (k := 352) (by decide +kernel), mem_l (k := 5) (by decide +kernel)⟩⟩, mem_t (k := 353) (by decide +kernel), dc_X5_openHolds⟩
theorem w_X5_ticketsThatAre : MW E_X5_ticketsThatAre := ⟨⟨by decide +kernel, by decide +kernel, by decide +kernel, mem_t (k := 2) (by decide +kernel), ⟨mem_t (k := 356) (by decide +kernel), mem_l (k := 6) (by decide +kernel)⟩⟩, mem_t (k := 357) (by decide +kernel), dc_X5_ticketsThatAre⟩
theorem w_X6_copyFrom : MW E_X6_copyFrom := ⟨⟨by decide +kernel, by decide +kernel, by decide +kernel, mem_t (k := 6) (by decide +kernel), ⟨mem_t (k := 389) (by decide +kernel), mem_t (k := 390) (by decide +kernel)⟩⟩, mem_t (k := 391) (by decide +kernel), dc_X6_copyFrom⟩
theorem w_X7_addBlock : MW E_X7_addBlock := ⟨⟨by decide +kernel, by decide +kernel, by decide +kernel, mem_t (k := 1) (by decide +kernel), ⟨mem_t (k := 362) (by decide +kernel), mem_t (k := 363) (by decide +kernel)⟩⟩, mem_t (k := 364) (by decide +kernel), dc_X7_addBlock⟩
theorem w_X7_addStage : MW E_X7_addStage := ⟨⟨by decide +kernel, by decide +kernel, by decide +kernel, mem_t (k := 1) (by decide +kernel), ⟨mem_t (k := 408) (by decide +kernel), mem_t (k := 409) (by decide +kernel)⟩⟩, mem_t (k := 410) (by decide +kernel), dc_X7_addStage⟩
theorem w_X7_addPiece : MW E_X7_addPiece := ⟨⟨by decide +kernel, by decide +kernel, by decide +kernel, mem_t (k := 1) (by decide +kernel), ⟨mem_t (k := 416) (by decide +kernel), mem_t (k := 417) (by decide +kernel)⟩⟩, mem_t (k := 418) (by decide +kernel), dc_X7_addPiece⟩
theorem w_X7_putUp : MW E_X7_putUp := ⟨⟨by decide +kernel, by decide +kernel, by decide +kernel, mem_t (k := 1) (by decide +kernel), ⟨mem_t (k := 440) (by decide +kernel), mem_t (k := 441) (by decide +kernel)⟩⟩, mem_t (k := 442) (by decide +kernel), dc_X7_putUp⟩
theorem w_X7_takeDown : MW E_X7_takeDown := ⟨⟨by decide +kernel, by decide +kernel, by decide +kernel, mem_t (k := 1) (by decide +kernel), ⟨mem_t (k := 452) (by decide +kernel), mem_t (k := 453) (by decide +kernel)⟩⟩, mem_t (k := 454) (by decide +kernel), dc_X7_takeDown⟩
theorem w_X7_hold : MW E_X7_hold := ⟨⟨by decide +kernel, by decide +kernel, by decide +kernel, mem_t (k := 1) (by decide +kernel), ⟨mem_t (k := 471) (by decide +kernel), mem_t (k := 472) (by decide +kernel)⟩⟩, mem_t (k := 473) (by decide +kernel), dc_X7_hold⟩
theorem w_X7_buy : MW E_X7_buy := ⟨⟨by decide +kernel, by decide +kernel, by decide +kernel, mem_t (k := 1) (by decide +kernel), ⟨mem_t (k := 498) (by decide +kernel), mem_t (k := 499) (by decide +kernel)⟩⟩, mem_t (k := 500) (by decide +kernel), dc_X7_buy⟩
theorem w_X7_drop : MW E_X7_drop := ⟨⟨by decide +kernel, by decide +kernel, by decide +kernel, mem_t (k := 1) (by decide +kernel), ⟨mem_t (k := 510) (by decide +kernel), mem_t (k := 511) (by decide +kernel)⟩⟩, mem_t (k := 512) (by decide +kernel), dc_X7_drop⟩
theorem w_X7_giveBack : MW E_X7_giveBack := ⟨⟨by decide +kernel, by decide +kernel, by decide +kernel, mem_t (k := 1) (by decide +kernel), ⟨mem_t (k := 521) (by decide +kernel), mem_t (k := 522) (by decide +kernel)⟩⟩, mem_t (k := 523) (by decide +kernel), dc_X7_giveBack⟩
theorem w_X7_comeIn : MW E_X7_comeIn := ⟨⟨by decide +kernel, by decide +kernel, by decide +kernel, mem_t (k := 1) (by decide +kernel), ⟨mem_t (k := 529) (by decide +kernel), mem_t (k := 530) (by decide +kernel)⟩⟩, mem_t (k := 531) (by decide +kernel), dc_X7_comeIn⟩
theorem w_X7_upgrade : MW E_X7_upgrade := ⟨⟨by decide +kernel, by decide +kernel, by decide +kernel, mem_t (k := 1) (by decide +kernel), ⟨mem_t (k := 541) (by decide +kernel), mem_t (k := 542) (by decide +kernel)⟩⟩, mem_t (k := 543) (by decide +kernel), dc_X7_upgrade⟩
theorem w_X7_pass : MW E_X7_pass := ⟨⟨by decide +kernel, by decide +kernel, by decide +kernel, mem_t (k := 1) (by decide +kernel), ⟨mem_t (k := 591) (by decide +kernel), mem_t (k := 592) (by decide +kernel)⟩⟩, mem_t (k := 593) (by decide +kernel), dc_X7_pass⟩
theorem w_X7_closeDoors : MW E_X7_closeDoors := ⟨⟨by decide +kernel, by decide +kernel, by decide +kernel, mem_t (k := 1) (by decide +kernel), ⟨mem_t (k := 583) (by decide +kernel), mem_t (k := 584) (by decide +kernel)⟩⟩, mem_t (k := 585) (by decide +kernel), dc_X7_closeDoors⟩
theorem w_X7_count : MW E_X7_count := ⟨⟨by decide +kernel, by decide +kernel, by decide +kernel, mem_t (k := 1) (by decide +kernel), ⟨mem_t (k := 339) (by decide +kernel), mem_t (k := 340) (by decide +kernel)⟩⟩, mem_t (k := 341) (by decide +kernel), dc_X7_count⟩
theorem w_X7_block : MW E_X7_block := ⟨⟨by decide +kernel, by decide +kernel, by decide +kernel, mem_t (k := 1) (by decide +kernel), ⟨mem_t (k := 263) (by decide +kernel), mem_t (k := 264) (by decide +kernel)⟩⟩, mem_t (k := 265) (by decide +kernel), dc_X7_block⟩
theorem w_X7_chair : MW E_X7_chair := ⟨⟨by decide +kernel, by decide +kernel, by decide +kernel, mem_t (k := 1) (by decide +kernel), ⟨mem_t (k := 300) (by decide +kernel), mem_t (k := 301) (by decide +kernel)⟩⟩, mem_t (k := 302) (by decide +kernel), dc_X7_chair⟩
theorem w_X7_holdOf : MW E_X7_holdOf := ⟨⟨by decide +kernel, by decide +kernel, by decide +kernel, mem_t (k := 1) (by decide +kernel), ⟨mem_t (k := 315) (by decide +kernel), mem_t (k := 316) (by decide +kernel)⟩⟩, mem_t (k := 317) (by decide +kernel), dc_X7_holdOf⟩
theorem w_X7_ticket : MW E_X7_ticket := ⟨⟨by decide +kernel, by decide +kernel, by decide +kernel, mem_t (k := 1) (by decide +kernel), ⟨mem_t (k := 327) (by decide +kernel), mem_t (k := 328) (by decide +kernel)⟩⟩, mem_t (k := 329) (by decide +kernel), dc_X7_ticket⟩
theorem w_X7_place : MW E_X7_place := ⟨⟨by decide +kernel, by decide +kernel, by decide +kernel, mem_t (k := 1) (by decide +kernel), ⟨mem_t (k := 236) (by decide +kernel), mem_t (k := 237) (by decide +kernel)⟩⟩, mem_t (k := 238) (by decide +kernel), dc_X7_place⟩
theorem w_X7_wouldKill : MW E_X7_wouldKill := ⟨⟨by decide +kernel, by decide +kernel, by decide +kernel, mem_t (k := 1) (by decide +kernel), ⟨mem_t (k := 460) (by decide +kernel), mem_t (k := 461) (by decide +kernel)⟩⟩, mem_t (k := 462) (by decide +kernel), dc_X7_wouldKill⟩
theorem w_X7_chain : MW E_X7_chain := ⟨⟨by decide +kernel, by decide +kernel, by decide +kernel, mem_t (k := 1) (by decide +kernel), ⟨mem_t (k := 567) (by decide +kernel), mem_t (k := 568) (by decide +kernel)⟩⟩, mem_t (k := 569) (by decide +kernel), dc_X7_chain⟩
theorem w_X7_nextExpiry : MW E_X7_nextExpiry := ⟨⟨by decide +kernel, by decide +kernel, by decide +kernel, mem_t (k := 1) (by decide +kernel), ⟨mem_t (k := 599) (by decide +kernel), mem_t (k := 600) (by decide +kernel)⟩⟩, mem_t (k := 601) (by decide +kernel), dc_X7_nextExpiry⟩
theorem w_X7_recorded : MW E_X7_recorded := ⟨⟨by decide +kernel, by decide +kernel, by decide +kernel, mem_t (k := 1) (by decide +kernel), ⟨mem_t (k := 398) (by decide +kernel), mem_l (k := 7) (by decide +kernel)⟩⟩, mem_t (k := 399) (by decide +kernel), dc_X7_recorded⟩
theorem w_J6_bitCount_0f7a4 : MW E_J6_bitCount_0f7a4 := ⟨⟨by decide +kernel, by decide +kernel, by decide +kernel, mem_t (k := 10) (by decide +kernel), mem_t (k := 279) (by decide +kernel)⟩, mem_t (k := 280) (by decide +kernel), dc_J6_bitCount_0f7a4⟩
theorem w_L_cell : MW E_L_cell := ⟨⟨by decide +kernel, by decide +kernel, by decide +kernel, mem_t (k := 0) (by decide +kernel), mem_t (k := 216) (by decide +kernel)⟩, mem_t (k := 217) (by decide +kernel), dc_L_cell⟩
theorem w_L_low : MW E_L_low := ⟨⟨by decide +kernel, by decide +kernel, by decide +kernel, mem_t (k := 0) (by decide +kernel), mem_t (k := 220) (by decide +kernel)⟩, mem_t (k := 221) (by decide +kernel), dc_L_low⟩
theorem w_L_at : MW E_L_at := ⟨⟨by decide +kernel, by decide +kernel, by decide +kernel, mem_t (k := 0) (by decide +kernel), mem_t (k := 492) (by decide +kernel)⟩, mem_t (k := 493) (by decide +kernel), dc_L_at⟩
theorem w_L_isChair : MW E_L_isChair := ⟨⟨by decide +kernel, by decide +kernel, by decide +kernel, mem_t (k := 0) (by decide +kernel), mem_t (k := 233) (by decide +kernel)⟩, mem_t (k := 234) (by decide +kernel), dc_L_isChair⟩
theorem w_L_isOpen : MW E_L_isOpen := ⟨⟨by decide +kernel, by decide +kernel, by decide +kernel, mem_t (k := 0) (by decide +kernel), mem_t (k := 230) (by decide +kernel)⟩, mem_t (k := 231) (by decide +kernel), dc_L_isOpen⟩
set_option maxRecDepth 20000 in
theorem tw_L_place : tables_1[228]? = some (Cond.code yL_place cL_place 10 (some .int)) := rfl
theorem w_L_place : MW E_L_place := ⟨⟨by decide +kernel, by decide +kernel, by decide +kernel, mem_t (k := 0) (by decide +kernel), mem_t (k := 227) (by decide +kernel)⟩, mem_t (k := 228) tw_L_place, dc_L_place⟩
theorem w_L_become : MW E_L_become := ⟨⟨by decide +kernel, by decide +kernel, by decide +kernel, mem_t (k := 0) (by decide +kernel), mem_t (k := 489) (by decide +kernel)⟩, mem_t (k := 490) (by decide +kernel), dc_L_become⟩
theorem w_L_rank : MW E_L_rank := ⟨⟨by decide +kernel, by decide +kernel, by decide +kernel, mem_t (k := 0) (by decide +kernel), mem_t (k := 297) (by decide +kernel)⟩, mem_t (k := 298) (by decide +kernel), dc_L_rank⟩
set_option maxRecDepth 20000 in
theorem tw_L_counted : tables_1[295]? = some (Cond.code yL_counted cL_counted 9 (some .int)) := rfl
theorem w_L_counted : MW E_L_counted := ⟨⟨by decide +kernel, by decide +kernel, by decide +kernel, mem_t (k := 0) (by decide +kernel), mem_t (k := 294) (by decide +kernel)⟩, mem_t (k := 295) tw_L_counted, dc_L_counted⟩
set_option maxRecDepth 20000 in
theorem tw_L_areBlocks : tables_1[225]? = some (Cond.code yL_areBlocks cL_areBlocks 8 (some .boolean)) := rfl
theorem w_L_areBlocks : MW E_L_areBlocks := ⟨⟨by decide +kernel, by decide +kernel, by decide +kernel, mem_t (k := 0) (by decide +kernel), mem_t (k := 224) (by decide +kernel)⟩, mem_t (k := 225) tw_L_areBlocks, dc_L_areBlocks⟩
set_option maxRecDepth 20000 in
theorem tw_L_areHolds : tables_1[313]? = some (Cond.code yL_areHolds cL_areHolds 8 (some .boolean)) := rfl
theorem w_L_areHolds : MW E_L_areHolds := ⟨⟨by decide +kernel, by decide +kernel, by decide +kernel, mem_t (k := 0) (by decide +kernel), mem_t (k := 312) (by decide +kernel)⟩, mem_t (k := 313) tw_L_areHolds, dc_L_areHolds⟩
set_option maxRecDepth 20000 in
theorem tw_L_isBuilt : tables_1[360]? = some (Cond.code yL_isBuilt cL_isBuilt 5 (some .boolean)) := rfl
theorem w_L_isBuilt : MW E_L_isBuilt := ⟨⟨by decide +kernel, by decide +kernel, by decide +kernel, mem_t (k := 0) (by decide +kernel), mem_t (k := 359) (by decide +kernel)⟩, mem_t (k := 360) tw_L_isBuilt, dc_L_isBuilt⟩
set_option maxRecDepth 20000 in
theorem tw_L_isStaged : tables_1[406]? = some (Cond.code yL_isStaged cL_isStaged 17 (some .boolean)) := rfl
theorem w_L_isStaged : MW E_L_isStaged := ⟨⟨by decide +kernel, by decide +kernel, by decide +kernel, mem_t (k := 0) (by decide +kernel), mem_t (k := 405) (by decide +kernel)⟩, mem_t (k := 406) tw_L_isStaged, dc_L_isStaged⟩
set_option maxRecDepth 20000 in
theorem tw_L_isHeld : tables_1[469]? = some (Cond.code yL_isHeld cL_isHeld 11 (some .boolean)) := rfl
theorem w_L_isHeld : MW E_L_isHeld := ⟨⟨by decide +kernel, by decide +kernel, by decide +kernel, mem_t (k := 0) (by decide +kernel), mem_t (k := 468) (by decide +kernel)⟩, mem_t (k := 469) tw_L_isHeld, dc_L_isHeld⟩
set_option maxRecDepth 20000 in
theorem tw_L_isBought : tables_1[496]? = some (Cond.code yL_isBought cL_isBought 11 (some .boolean)) := rfl
theorem w_L_isBought : MW E_L_isBought := ⟨⟨by decide +kernel, by decide +kernel, by decide +kernel, mem_t (k := 0) (by decide +kernel), mem_t (k := 495) (by decide +kernel)⟩, mem_t (k := 496) tw_L_isBought, dc_L_isBought⟩
set_option maxRecDepth 20000 in
theorem tw_L_isCome : tables_1[519]? = some (Cond.code yL_isCome cL_isCome 8 (some .boolean)) := rfl
theorem w_L_isCome : MW E_L_isCome := ⟨⟨by decide +kernel, by decide +kernel, by decide +kernel, mem_t (k := 0) (by decide +kernel), mem_t (k := 518) (by decide +kernel)⟩, mem_t (k := 519) tw_L_isCome, dc_L_isCome⟩
set_option maxRecDepth 20000 in
theorem tw_L_moves : tables_1[578]? = some (Cond.code yL_moves cL_moves 7 none) := rfl
theorem w_L_moves : MW E_L_moves := ⟨⟨by decide +kernel, by decide +kernel, by decide +kernel, mem_t (k := 0) (by decide +kernel), mem_t (k := 577) (by decide +kernel)⟩, mem_t (k := 578) tw_L_moves, dc_L_moves⟩
set_option maxRecDepth 20000 in
theorem tw_L_isUpgraded : tables_1[575]? = some (Cond.code yL_isUpgraded cL_isUpgraded 14 (some .boolean)) := rfl
theorem w_L_isUpgraded : MW E_L_isUpgraded := ⟨⟨by decide +kernel, by decide +kernel, by decide +kernel, mem_t (k := 0) (by decide +kernel), mem_t (k := 574) (by decide +kernel)⟩, mem_t (k := 575) tw_L_isUpgraded, dc_L_isUpgraded⟩
set_option maxRecDepth 20000 in
theorem tw_L_isPassed : tables_1[581]? = some (Cond.code yL_isPassed cL_isPassed 11 (some .boolean)) := rfl
theorem w_L_isPassed : MW E_L_isPassed := ⟨⟨by decide +kernel, by decide +kernel, by decide +kernel, mem_t (k := 0) (by decide +kernel), mem_t (k := 580) (by decide +kernel)⟩, mem_t (k := 581) tw_L_isPassed, dc_L_isPassed⟩
theorem mw_at : ∀ z, z < 99 → ∀ e, nth MT z = some e → MW e
  | 0, _, e, h => by cases h; exact w_X0_copyFrom
  | 1, _, e, h => by cases h; exact w_X1_copyFrom
  | 2, _, e, h => by cases h; exact w_X1_makeBlock
  | 3, _, e, h => by cases h; exact w_X1_makeStage
  | 4, _, e, h => by cases h; exact w_X1_makePiece
  | 5, _, e, h => by cases h; exact w_X1_raiseStage
  | 6, _, e, h => by cases h; exact w_X1_lowerStage
  | 7, _, e, h => by cases h; exact w_X1_newlyKilled
  | 8, _, e, h => by cases h; exact w_X1_stagesThatAreUp
  | 9, _, e, h => by cases h; exact w_X1_blockAt
  | 10, _, e, h => by cases h; exact w_X1_rankOf
  | 11, _, e, h => by cases h; exact w_X1_priceOf
  | 12, _, e, h => by cases h; exact w_X1_chairFigure
  | 13, _, e, h => by cases h; exact w_X1_blockFigure
  | 14, _, e, h => by cases h; exact w_X1_chairsIn
  | 15, _, e, h => by cases h; exact w_X1_mark
  | 16, _, e, h => by cases h; exact w_X1_findPlace
  | 17, _, e, h => by cases h; exact w_X1_greatestGroup
  | 18, _, e, h => by cases h; exact w_X1_upgradeFor
  | 19, _, e, h => by cases h; exact w_X1_isGroup
  | 20, _, e, h => by cases h; exact w_X1_isStage
  | 21, _, e, h => by cases h; exact w_X1_isUp
  | 22, _, e, h => by cases h; exact w_X1_isChair
  | 23, _, e, h => by cases h; exact w_X1_isPiece
  | 24, _, e, h => by cases h; exact w_X1_chairsUnder
  | 25, _, e, h => by cases h; exact w_X1_hasTakenChairUnder
  | 26, _, e, h => by cases h; exact w_X1_chairsThatAre
  | 27, _, e, h => by cases h; exact w_X1_usableIn
  | 28, _, e, h => by cases h; exact w_X1_usableInRow
  | 29, _, e, h => by cases h; exact w_X1_hasRoom
  | 30, _, e, h => by cases h; exact w_X1_leftAlone
  | 31, _, e, h => by cases h; exact w_X2_prepare
  | 32, _, e, h => by cases h; exact w_X2_keepPrepared
  | 33, _, e, h => by cases h; exact w_X3_copyFrom
  | 34, _, e, h => by cases h; exact w_X5_copyFrom
  | 35, _, e, h => by cases h; exact w_X5_makeHold
  | 36, _, e, h => by cases h; exact w_X5_buyHold
  | 37, _, e, h => by cases h; exact w_X5_dropHold
  | 38, _, e, h => by cases h; exact w_X5_returnTicket
  | 39, _, e, h => by cases h; exact w_X5_admit
  | 40, _, e, h => by cases h; exact w_X5_upgradeTicket
  | 41, _, e, h => by cases h; exact w_X5_moveChain
  | 42, _, e, h => by cases h; exact w_X5_letPass
  | 43, _, e, h => by cases h; exact w_X5_shutDoors
  | 44, _, e, h => by cases h; exact w_X5_numberOf
  | 45, _, e, h => by cases h; exact w_X5_holdFigure
  | 46, _, e, h => by cases h; exact w_X5_ticketFigure
  | 47, _, e, h => by cases h; exact w_X5_minutesToExpiry
  | 48, _, e, h => by cases h; exact w_X5_ticketAt
  | 49, _, e, h => by cases h; exact w_X5_holdAt
  | 50, _, e, h => by cases h; exact w_X5_moveTicket
  | 51, _, e, h => by cases h; exact w_X5_nextMover
  | 52, _, e, h => by cases h; exact w_X5_isWait
  | 53, _, e, h => by cases h; exact w_X5_openHolds
  | 54, _, e, h => by cases h; exact w_X5_ticketsThatAre
  | 55, _, e, h => by cases h; exact w_X6_copyFrom
  | 56, _, e, h => by cases h; exact w_X7_addBlock
  | 57, _, e, h => by cases h; exact w_X7_addStage
  | 58, _, e, h => by cases h; exact w_X7_addPiece
  | 59, _, e, h => by cases h; exact w_X7_putUp
  | 60, _, e, h => by cases h; exact w_X7_takeDown
  | 61, _, e, h => by cases h; exact w_X7_hold
  | 62, _, e, h => by cases h; exact w_X7_buy
  | 63, _, e, h => by cases h; exact w_X7_drop
  | 64, _, e, h => by cases h; exact w_X7_giveBack
  | 65, _, e, h => by cases h; exact w_X7_comeIn
  | 66, _, e, h => by cases h; exact w_X7_upgrade
  | 67, _, e, h => by cases h; exact w_X7_pass
  | 68, _, e, h => by cases h; exact w_X7_closeDoors
  | 69, _, e, h => by cases h; exact w_X7_count
  | 70, _, e, h => by cases h; exact w_X7_block
  | 71, _, e, h => by cases h; exact w_X7_chair
  | 72, _, e, h => by cases h; exact w_X7_holdOf
  | 73, _, e, h => by cases h; exact w_X7_ticket
  | 74, _, e, h => by cases h; exact w_X7_place
  | 75, _, e, h => by cases h; exact w_X7_wouldKill
  | 76, _, e, h => by cases h; exact w_X7_chain
  | 77, _, e, h => by cases h; exact w_X7_nextExpiry
  | 78, _, e, h => by cases h; exact w_X7_recorded
  | 79, _, e, h => by cases h; exact w_J6_bitCount_0f7a4
  | 80, _, e, h => by cases h; exact w_L_cell
  | 81, _, e, h => by cases h; exact w_L_low
  | 82, _, e, h => by cases h; exact w_L_at
  | 83, _, e, h => by cases h; exact w_L_isChair
  | 84, _, e, h => by cases h; exact w_L_isOpen
  | 85, _, e, h => by cases h; exact w_L_place
  | 86, _, e, h => by cases h; exact w_L_become
  | 87, _, e, h => by cases h; exact w_L_rank
  | 88, _, e, h => by cases h; exact w_L_counted
  | 89, _, e, h => by cases h; exact w_L_areBlocks
  | 90, _, e, h => by cases h; exact w_L_areHolds
  | 91, _, e, h => by cases h; exact w_L_isBuilt
  | 92, _, e, h => by cases h; exact w_L_isStaged
  | 93, _, e, h => by cases h; exact w_L_isHeld
  | 94, _, e, h => by cases h; exact w_L_isBought
  | 95, _, e, h => by cases h; exact w_L_isCome
  | 96, _, e, h => by cases h; exact w_L_moves
  | 97, _, e, h => by cases h; exact w_L_isUpgraded
  | 98, _, e, h => by cases h; exact w_L_isPassed
  | k + 99, h, _, _ => absurd h (by omega)
set_option maxRecDepth 20000 in
theorem ct_ok : ∀ q ∈ CTab, (q.2.1 < 99 ∧ (match nth MT q.2.1 with | some e => decide (tables_1[q.2.2]? = some (.methodLink (ownS q.1.1) q.1.2 (eY e))) | none => false) = true) ∨ 1000 ≤ q.2.1 := by decide +kernel
def Y_ac : MethodName := ⟨"java/lang/System", "arraycopy", "(Ljava/lang/Object;ILjava/lang/Object;II)V"⟩
set_option maxRecDepth 20000 in
theorem ct_ac : ∀ q ∈ CTab, q.2.1 = 1000 → tables_1[q.2.2]? = some (.methodLink (ownS q.1.1) q.1.2 Y_ac) := by decide +kernel
def Y_ln : MethodName := ⟨"java/lang/String", "length", "()I"⟩
set_option maxRecDepth 20000 in
theorem ct_ln : ∀ q ∈ CTab, q.2.1 = 1001 → tables_1[q.2.2]? = some (.methodLink (ownS q.1.1) q.1.2 Y_ln) := by decide +kernel
def Y_ch : MethodName := ⟨"java/lang/String", "charAt", "(I)C"⟩
set_option maxRecDepth 20000 in
theorem ct_ch : ∀ q ∈ CTab, q.2.1 = 1002 → tables_1[q.2.2]? = some (.methodLink (ownS q.1.1) q.1.2 Y_ch) := by decide +kernel
set_option maxRecDepth 20000 in
theorem kt_ok : ∀ q ∈ KTab, lw_tbl[q.2.2]? = some (.constant (ownS q.1.1) q.1.2 q.2.1) := by decide +kernel
set_option maxRecDepth 20000 in
theorem jt_ok : ∀ q ∈ JTab, lw_tbl[q.2.2]? = some (.constantLong (ownS q.1.1) q.1.2 q.2.1) := by decide +kernel
