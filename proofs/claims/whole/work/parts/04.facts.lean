/-! 04: what the tables' words say of the abstract machine's tables -/
def gtbl : List Jvm.Cond := lw_tbl.filter goodWord
theorem gtbl_good : GoodIn gtbl gtbl := fun w hw => ⟨hw, good_of_word (List.mem_filter.mp hw).2⟩
theorem gtbl_lw : ∀ w ∈ gtbl, w ∈ lw_tbl := fun w hw => (List.mem_filter.mp hw).1
theorem gtbl_of {w : Jvm.Cond} (h : w ∈ lw_tbl) (g : goodWord w = true) : w ∈ gtbl := List.mem_filter.mpr ⟨h, g⟩
theorem mem_t {w : Jvm.Cond} {k : Nat} (h : tables_1[k]? = some w) (g : goodWord w = true := by rfl) : w ∈ gtbl := gtbl_of (List.mem_append_right _ (List.mem_of_getElem? h)) g
theorem mem_l {w : Jvm.Cond} {k : Nat} (h : lw_tbl[k]? = some w) (g : goodWord w = true := by rfl) : w ∈ gtbl := gtbl_of (List.mem_of_getElem? h) g
theorem nth_get {α : Type} : ∀ (l : List α) (n : Nat), nth l n = l[n]? := by
  intro l
  induction l with
  | nil => intro n; simp [nth]
  | cons a l ih =>
    intro n
    cases n with
    | zero => simp [nth]
    | succ n => simp [nth, ih]
theorem fnd2_mem {α : Type} : ∀ (l : List ((Nat × Nat) × α)) (a b : Nat) (v : α), fnd2 l a b = some v → ((a, b), v) ∈ l := by
  intro l
  induction l with
  | nil => intro a b v h; simp [fnd2] at h
  | cons q l ih =>
    intro a b v h
    rw [fnd2] at h
    cases hq : (Nat.beq q.1.1 a && Nat.beq q.1.2 b) with
    | true =>
      rw [hq] at h
      simp only [cond_true, Option.some.injEq] at h
      simp only [Bool.and_eq_true, Nat.beq_eq] at hq
      obtain ⟨⟨x, y⟩, w⟩ := q
      simp only at hq h
      obtain ⟨rfl, rfl⟩ := hq
      subst h
      exact List.mem_cons_self
    | false =>
      rw [hq] at h
      exact List.mem_cons_of_mem _ (ih a b v h)
theorem fnd_mem : ∀ (l : List (Nat × Instr × Nat)) (pc : Nat) (v : Instr × Nat), fnd l pc = some v → (pc, v) ∈ l := by
  intro l
  induction l with
  | nil => intro pc v h; simp [fnd] at h
  | cons q l ih =>
    intro pc v h
    rw [fnd] at h
    cases hq : Nat.beq q.1 pc with
    | true =>
      rw [hq] at h
      simp only [cond_true, Option.some.injEq] at h
      have := Nat.eq_of_beq_eq_true hq
      obtain ⟨x, w⟩ := q
      simp only at this h
      subst this; subst h
      exact List.mem_cons_self
    | false =>
      rw [hq] at h
      exact List.mem_cons_of_mem _ (ih pc v h)
def clN (K : Nat) : Nat := (nth [3, 6, 3, 5, 5, 10, 5, 4, 12] K).getD 0
def clC (K : Nat) : String := (nth [RX0, RX1, RX2, RX3, RX4, RX5, RX6, RX7, RX8] K).getD ""
def clT (K : Nat) : u_T := (nth [TX0, TX1, TX2, TX3, TX4, TX5, TX6, TX7, TX8] K).getD TX0
def clY (K : Nat) : Nat → FieldType := (nth [tyX0, tyX1, tyX2, tyX3, tyX4, tyX5, tyX6, tyX7, tyX8] K).getD tyX0
theorem cl_at : ∀ K, K < 9 → vwCl[K]? = some (clC K, clT K, clN K)
  | 0, _ => rfl
  | 1, _ => rfl
  | 2, _ => rfl
  | 3, _ => rfl
  | 4, _ => rfl
  | 5, _ => rfl
  | 6, _ => rfl
  | 7, _ => rfl
  | 8, _ => rfl
  | k + 9, h => absurd h (by omega)
set_option maxRecDepth 20000 in
theorem i_X0 : ∀ w ∈ wsX00, w ∈ gtbl := fun w hw => let h := (by decide +kernel : ∀ w ∈ wsX00, w ∈ lw_tbl ∧ goodWord w = true) w hw; gtbl_of h.1 h.2
set_option maxRecDepth 20000 in
theorem i_X1 : ∀ w ∈ wsX10, w ∈ gtbl := fun w hw => let h := (by decide +kernel : ∀ w ∈ wsX10, w ∈ lw_tbl ∧ goodWord w = true) w hw; gtbl_of h.1 h.2
set_option maxRecDepth 20000 in
theorem i_X2 : ∀ w ∈ wsX20, w ∈ gtbl := fun w hw => let h := (by decide +kernel : ∀ w ∈ wsX20, w ∈ lw_tbl ∧ goodWord w = true) w hw; gtbl_of h.1 h.2
set_option maxRecDepth 20000 in
theorem i_X3 : ∀ w ∈ wsX30, w ∈ gtbl := fun w hw => let h := (by decide +kernel : ∀ w ∈ wsX30, w ∈ lw_tbl ∧ goodWord w = true) w hw; gtbl_of h.1 h.2
set_option maxRecDepth 20000 in
theorem i_X4 : ∀ w ∈ wsX40, w ∈ gtbl := fun w hw => let h := (by decide +kernel : ∀ w ∈ wsX40, w ∈ lw_tbl ∧ goodWord w = true) w hw; gtbl_of h.1 h.2
set_option maxRecDepth 20000 in
theorem i_X5 : ∀ w ∈ wsX50, w ∈ gtbl := fun w hw => let h := (by decide +kernel : ∀ w ∈ wsX50, w ∈ lw_tbl ∧ goodWord w = true) w hw; gtbl_of h.1 h.2
set_option maxRecDepth 20000 in
theorem i_X6 : ∀ w ∈ wsX60, w ∈ gtbl := fun w hw => let h := (by decide +kernel : ∀ w ∈ wsX60, w ∈ lw_tbl ∧ goodWord w = true) w hw; gtbl_of h.1 h.2
set_option maxRecDepth 20000 in
theorem i_X7 : ∀ w ∈ wsX70, w ∈ gtbl := fun w hw => let h := (by decide +kernel : ∀ w ∈ wsX70, w ∈ lw_tbl ∧ goodWord w = true) w hw; gtbl_of h.1 h.2
set_option maxRecDepth 20000 in
theorem i_X8 : ∀ w ∈ wsX80, w ∈ gtbl := fun w hw => let h := (by decide +kernel : ∀ w ∈ wsX80, w ∈ lw_tbl ∧ goodWord w = true) w hw; gtbl_of h.1 h.2
theorem cl_in : ∀ K, K < 9 → ∀ w ∈ u_ws (clC K) (clT K) (clN K), w ∈ gtbl
  | 0, _ => i_X0
  | 1, _ => i_X1
  | 2, _ => i_X2
  | 3, _ => i_X3
  | 4, _ => i_X4
  | 5, _ => i_X5
  | 6, _ => i_X6
  | 7, _ => i_X7
  | 8, _ => i_X8
  | k + 9, h => absurd h (by omega)
theorem cl_ty : ∀ K, K < 9 → ∀ k, k < clN K → parseFieldDescriptor (clT K k).2.2.1 = some (clY K k)
  | 0, _ => tyX0_ok
  | 1, _ => tyX1_ok
  | 2, _ => tyX2_ok
  | 3, _ => tyX3_ok
  | 4, _ => tyX4_ok
  | 5, _ => tyX5_ok
  | 6, _ => tyX6_ok
  | 7, _ => tyX7_ok
  | 8, _ => tyX8_ok
  | k + 9, h => absurd h (by omega)
theorem cl_nm : ∀ K, K < 9 → ∀ a, a < clN K → ∀ b, b < clN K → a ≠ b → (clT K a).2.1 ≠ (clT K b).2.1
  | 0, _ => nmX0
  | 1, _ => nmX1
  | 2, _ => nmX2
  | 3, _ => nmX3
  | 4, _ => nmX4
  | 5, _ => nmX5
  | 6, _ => nmX6
  | 7, _ => nmX7
  | 8, _ => nmX8
  | k + 9, h => absurd h (by omega)
set_option maxRecDepth 20000 in
theorem ft_ok : ∀ q ∈ FTab, q.2.1 < 9 ∧ q.2.2.1 < clN q.2.1 ∧ tables_1[q.2.2.2]? = some (.fieldLink (ownS q.1.1) q.1.2 (clT q.2.1 q.2.2.1).1 (clT q.2.1 q.2.2.1).2.1 (clT q.2.1 q.2.2.1).2.2.1) := by decide +kernel
set_option maxRecDepth 20000 in
theorem ft_good : ∀ K, K < 9 → ∀ s, s < clN K → shp K s 0 = none → (clT K s).2.2.2 = false ∧ clY K s = (if fZ K s then .boolean else .int) := by decide +kernel
def MW (e : ME) : Prop := (plainName (eY e).cls = true ∧ (eY e).cls = ownS (eO e) ∧ ((eY e).cls ≠ "java/lang/invoke/MethodHandle" ∧ (eY e).cls ≠ "java/lang/invoke/VarHandle" ∧ (parseMethodDescriptor (eY e).desc).map (fun d => d.parameters.length) = some (eN e)) ∧ Cond.initialized (eY e).cls ∈ gtbl ∧ (if eS e = true then Cond.static (eY e) ∈ gtbl else Cond.instanceMethod (eY e) ∈ gtbl ∧ Cond.selects (eY e).cls (eY e) (eY e) ∈ gtbl)) ∧ Cond.code (eY e) (eB e) (eL e) (eR e) ∈ gtbl ∧ (∀ q ∈ eI e, decode (eB e) q.1 = .ok q.2)
theorem w_X0_copyFrom : MW E_X0_copyFrom := ⟨⟨by decide +kernel, by decide +kernel, by decide +kernel, mem_t (k := 4) (by decide +kernel), ⟨mem_t (k := 241) (by decide +kernel), mem_t (k := 242) (by decide +kernel)⟩⟩, mem_t (k := 243) (by decide +kernel), dc_X0_copyFrom⟩
theorem w_X1_copyFrom : MW E_X1_copyFrom := ⟨⟨by decide +kernel, by decide +kernel, by decide +kernel, mem_t (k := 3) (by decide +kernel), ⟨mem_t (k := 237) (by decide +kernel), mem_t (k := 238) (by decide +kernel)⟩⟩, mem_t (k := 239) (by decide +kernel), dc_X1_copyFrom⟩
theorem w_X1_makeBlock : MW E_X1_makeBlock := ⟨⟨by decide +kernel, by decide +kernel, by decide +kernel, mem_t (k := 3) (by decide +kernel), ⟨mem_t (k := 256) (by decide +kernel), mem_t (k := 257) (by decide +kernel)⟩⟩, mem_t (k := 258) (by decide +kernel), dc_X1_makeBlock⟩
theorem w_X1_makeStage : MW E_X1_makeStage := ⟨⟨by decide +kernel, by decide +kernel, by decide +kernel, mem_t (k := 3) (by decide +kernel), ⟨mem_t (k := 272) (by decide +kernel), mem_t (k := 273) (by decide +kernel)⟩⟩, mem_t (k := 274) (by decide +kernel), dc_X1_makeStage⟩
theorem w_X1_makePiece : MW E_X1_makePiece := ⟨⟨by decide +kernel, by decide +kernel, by decide +kernel, mem_t (k := 3) (by decide +kernel), ⟨mem_t (k := 280) (by decide +kernel), mem_t (k := 281) (by decide +kernel)⟩⟩, mem_t (k := 282) (by decide +kernel), dc_X1_makePiece⟩
theorem w_X1_raiseStage : MW E_X1_raiseStage := ⟨⟨by decide +kernel, by decide +kernel, by decide +kernel, mem_t (k := 3) (by decide +kernel), ⟨mem_t (k := 312) (by decide +kernel), mem_t (k := 313) (by decide +kernel)⟩⟩, mem_t (k := 314) (by decide +kernel), dc_X1_raiseStage⟩
theorem w_X1_lowerStage : MW E_X1_lowerStage := ⟨⟨by decide +kernel, by decide +kernel, by decide +kernel, mem_t (k := 3) (by decide +kernel), ⟨mem_t (k := 324) (by decide +kernel), mem_t (k := 325) (by decide +kernel)⟩⟩, mem_t (k := 326) (by decide +kernel), dc_X1_lowerStage⟩
theorem w_X1_newlyKilled : MW E_X1_newlyKilled := ⟨⟨by decide +kernel, by decide +kernel, by decide +kernel, mem_t (k := 3) (by decide +kernel), ⟨mem_t (k := 665) (by decide +kernel), mem_t (k := 666) (by decide +kernel)⟩⟩, mem_t (k := 667) (by decide +kernel), dc_X1_newlyKilled⟩
theorem w_X1_stagesThatAreUp : MW E_X1_stagesThatAreUp := ⟨⟨by decide +kernel, by decide +kernel, by decide +kernel, mem_t (k := 3) (by decide +kernel), ⟨mem_t (k := 595) (by decide +kernel), mem_t (k := 596) (by decide +kernel)⟩⟩, mem_t (k := 597) (by decide +kernel), dc_X1_stagesThatAreUp⟩
theorem w_X1_blockAt : MW E_X1_blockAt := ⟨⟨by decide +kernel, by decide +kernel, by decide +kernel, mem_t (k := 3) (by decide +kernel), ⟨mem_t (k := 296) (by decide +kernel), mem_t (k := 297) (by decide +kernel)⟩⟩, mem_t (k := 298) (by decide +kernel), dc_X1_blockAt⟩
theorem w_X1_rankOf : MW E_X1_rankOf := ⟨⟨by decide +kernel, by decide +kernel, by decide +kernel, mem_t (k := 3) (by decide +kernel), ⟨mem_t (k := 426) (by decide +kernel), mem_t (k := 427) (by decide +kernel)⟩⟩, mem_t (k := 428) (by decide +kernel), dc_X1_rankOf⟩
theorem w_X1_priceOf : MW E_X1_priceOf := ⟨⟨by decide +kernel, by decide +kernel, by decide +kernel, mem_t (k := 3) (by decide +kernel), ⟨mem_t (k := 374) (by decide +kernel), mem_t (k := 375) (by decide +kernel)⟩⟩, mem_t (k := 376) (by decide +kernel), dc_X1_priceOf⟩
theorem w_X1_chairFigure : MW E_X1_chairFigure := ⟨⟨by decide +kernel, by decide +kernel, by decide +kernel, mem_t (k := 3) (by decide +kernel), ⟨mem_t (k := 634) (by decide +kernel), mem_t (k := 635) (by decide +kernel)⟩⟩, mem_t (k := 636) (by decide +kernel), dc_X1_chairFigure⟩
theorem w_X1_blockFigure : MW E_X1_blockFigure := ⟨⟨by decide +kernel, by decide +kernel, by decide +kernel, mem_t (k := 3) (by decide +kernel), ⟨mem_t (k := 617) (by decide +kernel), mem_t (k := 618) (by decide +kernel)⟩⟩, mem_t (k := 619) (by decide +kernel), dc_X1_blockFigure⟩
theorem w_X1_chairsIn : MW E_X1_chairsIn := ⟨⟨by decide +kernel, by decide +kernel, by decide +kernel, mem_t (k := 3) (by decide +kernel), ⟨mem_t (k := 406) (by decide +kernel), mem_t (k := 407) (by decide +kernel)⟩⟩, mem_t (k := 408) (by decide +kernel), dc_X1_chairsIn⟩
theorem w_X1_mark : MW E_X1_mark := ⟨⟨by decide +kernel, by decide +kernel, by decide +kernel, mem_t (k := 3) (by decide +kernel), ⟨mem_t (k := 358) (by decide +kernel), mem_t (k := 359) (by decide +kernel)⟩⟩, mem_t (k := 360) (by decide +kernel), dc_X1_mark⟩
theorem w_X1_findPlace : MW E_X1_findPlace := ⟨⟨by decide +kernel, by decide +kernel, by decide +kernel, mem_t (k := 3) (by decide +kernel), ⟨mem_t (k := 343) (by decide +kernel), mem_t (k := 344) (by decide +kernel)⟩⟩, mem_t (k := 345) (by decide +kernel), dc_X1_findPlace⟩
theorem w_X1_greatestGroup : MW E_X1_greatestGroup := ⟨⟨by decide +kernel, by decide +kernel, by decide +kernel, mem_t (k := 3) (by decide +kernel), ⟨mem_t (k := 440) (by decide +kernel), mem_t (k := 441) (by decide +kernel)⟩⟩, mem_t (k := 442) (by decide +kernel), dc_X1_greatestGroup⟩
theorem w_X1_cheapestFor : MW E_X1_cheapestFor := ⟨⟨by decide +kernel, by decide +kernel, by decide +kernel, mem_t (k := 3) (by decide +kernel), ⟨mem_t (k := 680) (by decide +kernel), mem_t (k := 681) (by decide +kernel)⟩⟩, mem_t (k := 682) (by decide +kernel), dc_X1_cheapestFor⟩
theorem w_X1_upgradeFor : MW E_X1_upgradeFor := ⟨⟨by decide +kernel, by decide +kernel, by decide +kernel, mem_t (k := 3) (by decide +kernel), ⟨mem_t (k := 422) (by decide +kernel), mem_t (k := 423) (by decide +kernel)⟩⟩, mem_t (k := 424) (by decide +kernel), dc_X1_upgradeFor⟩
theorem w_X1_isGroup : MW E_X1_isGroup := ⟨⟨by decide +kernel, by decide +kernel, by decide +kernel, mem_t (k := 3) (by decide +kernel), mem_t (k := 337) (by decide +kernel)⟩, mem_t (k := 338) (by decide +kernel), dc_X1_isGroup⟩
theorem w_X1_isStage : MW E_X1_isStage := ⟨⟨by decide +kernel, by decide +kernel, by decide +kernel, mem_t (k := 3) (by decide +kernel), ⟨mem_t (k := 285) (by decide +kernel), mem_l (k := 1) (by decide +kernel)⟩⟩, mem_t (k := 286) (by decide +kernel), dc_X1_isStage⟩
theorem w_X1_isUp : MW E_X1_isUp := ⟨⟨by decide +kernel, by decide +kernel, by decide +kernel, mem_t (k := 3) (by decide +kernel), ⟨mem_t (k := 301) (by decide +kernel), mem_l (k := 4) (by decide +kernel)⟩⟩, mem_t (k := 302) (by decide +kernel), dc_X1_isUp⟩
theorem w_X1_isChair : MW E_X1_isChair := ⟨⟨by decide +kernel, by decide +kernel, by decide +kernel, mem_t (k := 3) (by decide +kernel), ⟨mem_t (k := 293) (by decide +kernel), mem_l (k := 3) (by decide +kernel)⟩⟩, mem_t (k := 294) (by decide +kernel), dc_X1_isChair⟩
theorem w_X1_isPiece : MW E_X1_isPiece := ⟨⟨by decide +kernel, by decide +kernel, by decide +kernel, mem_t (k := 3) (by decide +kernel), ⟨mem_t (k := 289) (by decide +kernel), mem_l (k := 2) (by decide +kernel)⟩⟩, mem_t (k := 290) (by decide +kernel), dc_X1_isPiece⟩
theorem w_X1_chairsUnder : MW E_X1_chairsUnder := ⟨⟨by decide +kernel, by decide +kernel, by decide +kernel, mem_t (k := 3) (by decide +kernel), ⟨mem_t (k := 305) (by decide +kernel), mem_l (k := 5) (by decide +kernel)⟩⟩, mem_t (k := 306) (by decide +kernel), dc_X1_chairsUnder⟩
theorem w_X1_hasTakenChairUnder : MW E_X1_hasTakenChairUnder := ⟨⟨by decide +kernel, by decide +kernel, by decide +kernel, mem_t (k := 3) (by decide +kernel), ⟨mem_t (k := 317) (by decide +kernel), mem_l (k := 6) (by decide +kernel)⟩⟩, mem_t (k := 318) (by decide +kernel), dc_X1_hasTakenChairUnder⟩
theorem w_X1_chairsThatAre : MW E_X1_chairsThatAre := ⟨⟨by decide +kernel, by decide +kernel, by decide +kernel, mem_t (k := 3) (by decide +kernel), ⟨mem_t (k := 622) (by decide +kernel), mem_l (k := 19) (by decide +kernel)⟩⟩, mem_t (k := 623) (by decide +kernel), dc_X1_chairsThatAre⟩
theorem w_X1_usableIn : MW E_X1_usableIn := ⟨⟨by decide +kernel, by decide +kernel, by decide +kernel, mem_t (k := 3) (by decide +kernel), ⟨mem_t (k := 626) (by decide +kernel), mem_l (k := 20) (by decide +kernel)⟩⟩, mem_t (k := 627) (by decide +kernel), dc_X1_usableIn⟩
theorem w_X1_usableInRow : MW E_X1_usableInRow := ⟨⟨by decide +kernel, by decide +kernel, by decide +kernel, mem_t (k := 3) (by decide +kernel), ⟨mem_t (k := 349) (by decide +kernel), mem_l (k := 7) (by decide +kernel)⟩⟩, mem_t (k := 350) (by decide +kernel), dc_X1_usableInRow⟩
theorem w_X1_hasRoom : MW E_X1_hasRoom := ⟨⟨by decide +kernel, by decide +kernel, by decide +kernel, mem_t (k := 3) (by decide +kernel), mem_t (k := 352) (by decide +kernel)⟩, mem_t (k := 353) (by decide +kernel), dc_X1_hasRoom⟩
theorem w_X1_leftAlone : MW E_X1_leftAlone := ⟨⟨by decide +kernel, by decide +kernel, by decide +kernel, mem_t (k := 3) (by decide +kernel), mem_t (k := 355) (by decide +kernel)⟩, mem_t (k := 356) (by decide +kernel), dc_X1_leftAlone⟩
theorem w_X2_prepare : MW E_X2_prepare := ⟨⟨by decide +kernel, by decide +kernel, by decide +kernel, mem_t (k := 7) (by decide +kernel), ⟨mem_t (k := 229) (by decide +kernel), mem_t (k := 230) (by decide +kernel)⟩⟩, mem_t (k := 231) (by decide +kernel), dc_X2_prepare⟩
theorem w_X2_keepPrepared : MW E_X2_keepPrepared := ⟨⟨by decide +kernel, by decide +kernel, by decide +kernel, mem_t (k := 7) (by decide +kernel), ⟨mem_t (k := 264) (by decide +kernel), mem_t (k := 265) (by decide +kernel)⟩⟩, mem_t (k := 266) (by decide +kernel), dc_X2_keepPrepared⟩
theorem w_X2_takeBack : MW E_X2_takeBack := ⟨⟨by decide +kernel, by decide +kernel, by decide +kernel, mem_t (k := 7) (by decide +kernel), ⟨mem_t (k := 582) (by decide +kernel), mem_t (k := 583) (by decide +kernel)⟩⟩, mem_t (k := 584) (by decide +kernel), dc_X2_takeBack⟩
theorem w_X2_stepBack : MW E_X2_stepBack := ⟨⟨by decide +kernel, by decide +kernel, by decide +kernel, mem_t (k := 7) (by decide +kernel), ⟨mem_t (k := 464) (by decide +kernel), mem_t (k := 465) (by decide +kernel)⟩⟩, mem_t (k := 466) (by decide +kernel), dc_X2_stepBack⟩
theorem w_X3_copyFrom : MW E_X3_copyFrom := ⟨⟨by decide +kernel, by decide +kernel, by decide +kernel, mem_t (k := 5) (by decide +kernel), ⟨mem_t (k := 248) (by decide +kernel), mem_t (k := 249) (by decide +kernel)⟩⟩, mem_t (k := 250) (by decide +kernel), dc_X3_copyFrom⟩
theorem w_X4_addCharacter : MW E_X4_addCharacter := ⟨⟨by decide +kernel, by decide +kernel, by decide +kernel, mem_t (k := 8) (by decide +kernel), ⟨mem_t (k := 472) (by decide +kernel), mem_t (k := 473) (by decide +kernel)⟩⟩, mem_t (k := 474) (by decide +kernel), dc_X4_addCharacter⟩
theorem w_X4_makeEmpty : MW E_X4_makeEmpty := ⟨⟨by decide +kernel, by decide +kernel, by decide +kernel, mem_t (k := 8) (by decide +kernel), ⟨mem_t (k := 480) (by decide +kernel), mem_t (k := 481) (by decide +kernel)⟩⟩, mem_t (k := 482) (by decide +kernel), dc_X4_makeEmpty⟩
theorem w_X4_runOn : MW E_X4_runOn := ⟨⟨by decide +kernel, by decide +kernel, by decide +kernel, mem_t (k := 8) (by decide +kernel), ⟨mem_t (k := 488) (by decide +kernel), mem_t (k := 489) (by decide +kernel)⟩⟩, mem_t (k := 490) (by decide +kernel), dc_X4_runOn⟩
theorem w_X4_runOrder : MW E_X4_runOrder := ⟨⟨by decide +kernel, by decide +kernel, by decide +kernel, mem_t (k := 8) (by decide +kernel), ⟨mem_t (k := 500) (by decide +kernel), mem_l (k := 12) (by decide +kernel)⟩⟩, mem_t (k := 501) (by decide +kernel), dc_X4_runOrder⟩
theorem w_X4_perform : MW E_X4_perform := ⟨⟨by decide +kernel, by decide +kernel, by decide +kernel, mem_t (k := 8) (by decide +kernel), ⟨mem_t (k := 572) (by decide +kernel), mem_l (k := 16) (by decide +kernel)⟩⟩, mem_t (k := 573) (by decide +kernel), dc_X4_perform⟩
theorem w_X4_orderOfToken : MW E_X4_orderOfToken := ⟨⟨by decide +kernel, by decide +kernel, by decide +kernel, mem_t (k := 8) (by decide +kernel), ⟨mem_t (k := 504) (by decide +kernel), mem_l (k := 13) (by decide +kernel)⟩⟩, mem_t (k := 505) (by decide +kernel), dc_X4_orderOfToken⟩
theorem w_X4_readToken : MW E_X4_readToken := ⟨⟨by decide +kernel, by decide +kernel, by decide +kernel, mem_t (k := 8) (by decide +kernel), ⟨mem_t (k := 493) (by decide +kernel), mem_l (k := 11) (by decide +kernel)⟩⟩, mem_t (k := 494) (by decide +kernel), dc_X4_readToken⟩
theorem w_X4_tokenIs : MW E_X4_tokenIs := ⟨⟨by decide +kernel, by decide +kernel, by decide +kernel, mem_t (k := 8) (by decide +kernel), ⟨mem_t (k := 509) (by decide +kernel), mem_l (k := 14) (by decide +kernel)⟩⟩, mem_t (k := 510) (by decide +kernel), dc_X4_tokenIs⟩
theorem w_X4_numberOfToken : MW E_X4_numberOfToken := ⟨⟨by decide +kernel, by decide +kernel, by decide +kernel, mem_t (k := 8) (by decide +kernel), ⟨mem_t (k := 567) (by decide +kernel), mem_l (k := 15) (by decide +kernel)⟩⟩, mem_t (k := 568) (by decide +kernel), dc_X4_numberOfToken⟩
theorem w_X4_kindOf : MW E_X4_kindOf := ⟨⟨by decide +kernel, by decide +kernel, by decide +kernel, mem_t (k := 8) (by decide +kernel), mem_t (k := 496) (by decide +kernel)⟩, mem_t (k := 497) (by decide +kernel), dc_X4_kindOf⟩
theorem w_X5_copyFrom : MW E_X5_copyFrom := ⟨⟨by decide +kernel, by decide +kernel, by decide +kernel, mem_t (k := 2) (by decide +kernel), ⟨mem_t (k := 233) (by decide +kernel), mem_t (k := 234) (by decide +kernel)⟩⟩, mem_t (k := 235) (by decide +kernel), dc_X5_copyFrom⟩
theorem w_X5_makeHold : MW E_X5_makeHold := ⟨⟨by decide +kernel, by decide +kernel, by decide +kernel, mem_t (k := 2) (by decide +kernel), ⟨mem_t (k := 332) (by decide +kernel), mem_t (k := 333) (by decide +kernel)⟩⟩, mem_t (k := 334) (by decide +kernel), dc_X5_makeHold⟩
theorem w_X5_buyHold : MW E_X5_buyHold := ⟨⟨by decide +kernel, by decide +kernel, by decide +kernel, mem_t (k := 2) (by decide +kernel), ⟨mem_t (k := 366) (by decide +kernel), mem_t (k := 367) (by decide +kernel)⟩⟩, mem_t (k := 368) (by decide +kernel), dc_X5_buyHold⟩
theorem w_X5_dropHold : MW E_X5_dropHold := ⟨⟨by decide +kernel, by decide +kernel, by decide +kernel, mem_t (k := 2) (by decide +kernel), ⟨mem_t (k := 382) (by decide +kernel), mem_t (k := 383) (by decide +kernel)⟩⟩, mem_t (k := 384) (by decide +kernel), dc_X5_dropHold⟩
theorem w_X5_returnTicket : MW E_X5_returnTicket := ⟨⟨by decide +kernel, by decide +kernel, by decide +kernel, mem_t (k := 2) (by decide +kernel), ⟨mem_t (k := 390) (by decide +kernel), mem_t (k := 391) (by decide +kernel)⟩⟩, mem_t (k := 392) (by decide +kernel), dc_X5_returnTicket⟩
theorem w_X5_admit : MW E_X5_admit := ⟨⟨by decide +kernel, by decide +kernel, by decide +kernel, mem_t (k := 2) (by decide +kernel), ⟨mem_t (k := 402) (by decide +kernel), mem_t (k := 403) (by decide +kernel)⟩⟩, mem_t (k := 404) (by decide +kernel), dc_X5_admit⟩
theorem w_X5_upgradeTicket : MW E_X5_upgradeTicket := ⟨⟨by decide +kernel, by decide +kernel, by decide +kernel, mem_t (k := 2) (by decide +kernel), ⟨mem_t (k := 414) (by decide +kernel), mem_t (k := 415) (by decide +kernel)⟩⟩, mem_t (k := 416) (by decide +kernel), dc_X5_upgradeTicket⟩
theorem w_X5_moveChain : MW E_X5_moveChain := ⟨⟨by decide +kernel, by decide +kernel, by decide +kernel, mem_t (k := 2) (by decide +kernel), ⟨mem_t (k := 418) (by decide +kernel), mem_t (k := 419) (by decide +kernel)⟩⟩, mem_t (k := 420) (by decide +kernel), dc_X5_moveChain⟩
theorem w_X5_letPass : MW E_X5_letPass := ⟨⟨by decide +kernel, by decide +kernel, by decide +kernel, mem_t (k := 2) (by decide +kernel), ⟨mem_t (k := 448) (by decide +kernel), mem_t (k := 449) (by decide +kernel)⟩⟩, mem_t (k := 450) (by decide +kernel), dc_X5_letPass⟩
theorem w_X5_shutDoors : MW E_X5_shutDoors := ⟨⟨by decide +kernel, by decide +kernel, by decide +kernel, mem_t (k := 2) (by decide +kernel), ⟨mem_t (k := 456) (by decide +kernel), mem_t (k := 457) (by decide +kernel)⟩⟩, mem_t (k := 458) (by decide +kernel), dc_X5_shutDoors⟩
theorem w_X5_numberOf : MW E_X5_numberOf := ⟨⟨by decide +kernel, by decide +kernel, by decide +kernel, mem_t (k := 2) (by decide +kernel), ⟨mem_t (k := 591) (by decide +kernel), mem_t (k := 592) (by decide +kernel)⟩⟩, mem_t (k := 593) (by decide +kernel), dc_X5_numberOf⟩
theorem w_X5_holdFigure : MW E_X5_holdFigure := ⟨⟨by decide +kernel, by decide +kernel, by decide +kernel, mem_t (k := 2) (by decide +kernel), ⟨mem_t (k := 642) (by decide +kernel), mem_t (k := 643) (by decide +kernel)⟩⟩, mem_t (k := 644) (by decide +kernel), dc_X5_holdFigure⟩
theorem w_X5_ticketFigure : MW E_X5_ticketFigure := ⟨⟨by decide +kernel, by decide +kernel, by decide +kernel, mem_t (k := 2) (by decide +kernel), ⟨mem_t (k := 650) (by decide +kernel), mem_t (k := 651) (by decide +kernel)⟩⟩, mem_t (k := 652) (by decide +kernel), dc_X5_ticketFigure⟩
theorem w_X5_minutesToExpiry : MW E_X5_minutesToExpiry := ⟨⟨by decide +kernel, by decide +kernel, by decide +kernel, mem_t (k := 2) (by decide +kernel), ⟨mem_t (k := 689) (by decide +kernel), mem_t (k := 690) (by decide +kernel)⟩⟩, mem_t (k := 691) (by decide +kernel), dc_X5_minutesToExpiry⟩
theorem w_X5_ticketAt : MW E_X5_ticketAt := ⟨⟨by decide +kernel, by decide +kernel, by decide +kernel, mem_t (k := 2) (by decide +kernel), ⟨mem_t (k := 394) (by decide +kernel), mem_t (k := 395) (by decide +kernel)⟩⟩, mem_t (k := 396) (by decide +kernel), dc_X5_ticketAt⟩
theorem w_X5_holdAt : MW E_X5_holdAt := ⟨⟨by decide +kernel, by decide +kernel, by decide +kernel, mem_t (k := 2) (by decide +kernel), ⟨mem_t (k := 371) (by decide +kernel), mem_l (k := 8) (by decide +kernel)⟩⟩, mem_t (k := 372) (by decide +kernel), dc_X5_holdAt⟩
theorem w_X5_moveTicket : MW E_X5_moveTicket := ⟨⟨by decide +kernel, by decide +kernel, by decide +kernel, mem_t (k := 2) (by decide +kernel), ⟨mem_t (k := 432) (by decide +kernel), mem_l (k := 9) (by decide +kernel)⟩⟩, mem_t (k := 433) (by decide +kernel), dc_X5_moveTicket⟩
theorem w_X5_nextMover : MW E_X5_nextMover := ⟨⟨by decide +kernel, by decide +kernel, by decide +kernel, mem_t (k := 2) (by decide +kernel), ⟨mem_t (k := 436) (by decide +kernel), mem_l (k := 10) (by decide +kernel)⟩⟩, mem_t (k := 437) (by decide +kernel), dc_X5_nextMover⟩
theorem w_X5_isWait : MW E_X5_isWait := ⟨⟨by decide +kernel, by decide +kernel, by decide +kernel, mem_t (k := 2) (by decide +kernel), mem_t (k := 340) (by decide +kernel)⟩, mem_t (k := 341) (by decide +kernel), dc_X5_isWait⟩
theorem w_X5_openHolds : MW E_X5_openHolds := ⟨⟨by decide +kernel, by decide +kernel, by decide +kernel, mem_t (k := 2) (by decide +kernel), ⟨mem_t (k := 606) (by decide +kernel), mem_l (k := 17) (by decide +kernel)⟩⟩, mem_t (k := 607) (by decide +kernel), dc_X5_openHolds⟩
theorem w_X5_ticketsThatAre : MW E_X5_ticketsThatAre := ⟨⟨by decide +kernel, by decide +kernel, by decide +kernel, mem_t (k := 2) (by decide +kernel), ⟨mem_t (k := 610) (by decide +kernel), mem_l (k := 18) (by decide +kernel)⟩⟩, mem_t (k := 611) (by decide +kernel), dc_X5_ticketsThatAre⟩
theorem w_X6_copyFrom : MW E_X6_copyFrom := ⟨⟨by decide +kernel, by decide +kernel, by decide +kernel, mem_t (k := 6) (by decide +kernel), ⟨mem_t (k := 252) (by decide +kernel), mem_t (k := 253) (by decide +kernel)⟩⟩, mem_t (k := 254) (by decide +kernel), dc_X6_copyFrom⟩
theorem w_X7_addBlock : MW E_X7_addBlock := ⟨⟨by decide +kernel, by decide +kernel, by decide +kernel, mem_t (k := 1) (by decide +kernel), ⟨mem_t (k := 225) (by decide +kernel), mem_t (k := 226) (by decide +kernel)⟩⟩, mem_t (k := 227) (by decide +kernel), dc_X7_addBlock⟩
theorem w_X7_addStage : MW E_X7_addStage := ⟨⟨by decide +kernel, by decide +kernel, by decide +kernel, mem_t (k := 1) (by decide +kernel), ⟨mem_t (k := 268) (by decide +kernel), mem_t (k := 269) (by decide +kernel)⟩⟩, mem_t (k := 270) (by decide +kernel), dc_X7_addStage⟩
theorem w_X7_addPiece : MW E_X7_addPiece := ⟨⟨by decide +kernel, by decide +kernel, by decide +kernel, mem_t (k := 1) (by decide +kernel), ⟨mem_t (k := 276) (by decide +kernel), mem_t (k := 277) (by decide +kernel)⟩⟩, mem_t (k := 278) (by decide +kernel), dc_X7_addPiece⟩
theorem w_X7_putUp : MW E_X7_putUp := ⟨⟨by decide +kernel, by decide +kernel, by decide +kernel, mem_t (k := 1) (by decide +kernel), ⟨mem_t (k := 308) (by decide +kernel), mem_t (k := 309) (by decide +kernel)⟩⟩, mem_t (k := 310) (by decide +kernel), dc_X7_putUp⟩
theorem w_X7_takeDown : MW E_X7_takeDown := ⟨⟨by decide +kernel, by decide +kernel, by decide +kernel, mem_t (k := 1) (by decide +kernel), ⟨mem_t (k := 320) (by decide +kernel), mem_t (k := 321) (by decide +kernel)⟩⟩, mem_t (k := 322) (by decide +kernel), dc_X7_takeDown⟩
theorem w_X7_hold : MW E_X7_hold := ⟨⟨by decide +kernel, by decide +kernel, by decide +kernel, mem_t (k := 1) (by decide +kernel), ⟨mem_t (k := 328) (by decide +kernel), mem_t (k := 329) (by decide +kernel)⟩⟩, mem_t (k := 330) (by decide +kernel), dc_X7_hold⟩
theorem w_X7_buy : MW E_X7_buy := ⟨⟨by decide +kernel, by decide +kernel, by decide +kernel, mem_t (k := 1) (by decide +kernel), ⟨mem_t (k := 362) (by decide +kernel), mem_t (k := 363) (by decide +kernel)⟩⟩, mem_t (k := 364) (by decide +kernel), dc_X7_buy⟩
theorem w_X7_drop : MW E_X7_drop := ⟨⟨by decide +kernel, by decide +kernel, by decide +kernel, mem_t (k := 1) (by decide +kernel), ⟨mem_t (k := 378) (by decide +kernel), mem_t (k := 379) (by decide +kernel)⟩⟩, mem_t (k := 380) (by decide +kernel), dc_X7_drop⟩
theorem w_X7_giveBack : MW E_X7_giveBack := ⟨⟨by decide +kernel, by decide +kernel, by decide +kernel, mem_t (k := 1) (by decide +kernel), ⟨mem_t (k := 386) (by decide +kernel), mem_t (k := 387) (by decide +kernel)⟩⟩, mem_t (k := 388) (by decide +kernel), dc_X7_giveBack⟩
theorem w_X7_comeIn : MW E_X7_comeIn := ⟨⟨by decide +kernel, by decide +kernel, by decide +kernel, mem_t (k := 1) (by decide +kernel), ⟨mem_t (k := 398) (by decide +kernel), mem_t (k := 399) (by decide +kernel)⟩⟩, mem_t (k := 400) (by decide +kernel), dc_X7_comeIn⟩
theorem w_X7_upgrade : MW E_X7_upgrade := ⟨⟨by decide +kernel, by decide +kernel, by decide +kernel, mem_t (k := 1) (by decide +kernel), ⟨mem_t (k := 410) (by decide +kernel), mem_t (k := 411) (by decide +kernel)⟩⟩, mem_t (k := 412) (by decide +kernel), dc_X7_upgrade⟩
theorem w_X7_pass : MW E_X7_pass := ⟨⟨by decide +kernel, by decide +kernel, by decide +kernel, mem_t (k := 1) (by decide +kernel), ⟨mem_t (k := 444) (by decide +kernel), mem_t (k := 445) (by decide +kernel)⟩⟩, mem_t (k := 446) (by decide +kernel), dc_X7_pass⟩
theorem w_X7_closeDoors : MW E_X7_closeDoors := ⟨⟨by decide +kernel, by decide +kernel, by decide +kernel, mem_t (k := 1) (by decide +kernel), ⟨mem_t (k := 452) (by decide +kernel), mem_t (k := 453) (by decide +kernel)⟩⟩, mem_t (k := 454) (by decide +kernel), dc_X7_closeDoors⟩
theorem w_X7_undo : MW E_X7_undo := ⟨⟨by decide +kernel, by decide +kernel, by decide +kernel, mem_t (k := 1) (by decide +kernel), ⟨mem_t (k := 460) (by decide +kernel), mem_t (k := 461) (by decide +kernel)⟩⟩, mem_t (k := 462) (by decide +kernel), dc_X7_undo⟩
theorem w_X7_append : MW E_X7_append := ⟨⟨by decide +kernel, by decide +kernel, by decide +kernel, mem_t (k := 1) (by decide +kernel), ⟨mem_t (k := 468) (by decide +kernel), mem_t (k := 469) (by decide +kernel)⟩⟩, mem_t (k := 470) (by decide +kernel), dc_X7_append⟩
theorem w_X7_clearText : MW E_X7_clearText := ⟨⟨by decide +kernel, by decide +kernel, by decide +kernel, mem_t (k := 1) (by decide +kernel), ⟨mem_t (k := 476) (by decide +kernel), mem_t (k := 477) (by decide +kernel)⟩⟩, mem_t (k := 478) (by decide +kernel), dc_X7_clearText⟩
theorem w_X7_run : MW E_X7_run := ⟨⟨by decide +kernel, by decide +kernel, by decide +kernel, mem_t (k := 1) (by decide +kernel), ⟨mem_t (k := 484) (by decide +kernel), mem_t (k := 485) (by decide +kernel)⟩⟩, mem_t (k := 486) (by decide +kernel), dc_X7_run⟩
theorem w_X7_count : MW E_X7_count := ⟨⟨by decide +kernel, by decide +kernel, by decide +kernel, mem_t (k := 1) (by decide +kernel), ⟨mem_t (k := 587) (by decide +kernel), mem_t (k := 588) (by decide +kernel)⟩⟩, mem_t (k := 589) (by decide +kernel), dc_X7_count⟩
theorem w_X7_block : MW E_X7_block := ⟨⟨by decide +kernel, by decide +kernel, by decide +kernel, mem_t (k := 1) (by decide +kernel), ⟨mem_t (k := 613) (by decide +kernel), mem_t (k := 614) (by decide +kernel)⟩⟩, mem_t (k := 615) (by decide +kernel), dc_X7_block⟩
theorem w_X7_chair : MW E_X7_chair := ⟨⟨by decide +kernel, by decide +kernel, by decide +kernel, mem_t (k := 1) (by decide +kernel), ⟨mem_t (k := 630) (by decide +kernel), mem_t (k := 631) (by decide +kernel)⟩⟩, mem_t (k := 632) (by decide +kernel), dc_X7_chair⟩
theorem w_X7_holdOf : MW E_X7_holdOf := ⟨⟨by decide +kernel, by decide +kernel, by decide +kernel, mem_t (k := 1) (by decide +kernel), ⟨mem_t (k := 638) (by decide +kernel), mem_t (k := 639) (by decide +kernel)⟩⟩, mem_t (k := 640) (by decide +kernel), dc_X7_holdOf⟩
theorem w_X7_ticket : MW E_X7_ticket := ⟨⟨by decide +kernel, by decide +kernel, by decide +kernel, mem_t (k := 1) (by decide +kernel), ⟨mem_t (k := 646) (by decide +kernel), mem_t (k := 647) (by decide +kernel)⟩⟩, mem_t (k := 648) (by decide +kernel), dc_X7_ticket⟩
theorem w_X7_place : MW E_X7_place := ⟨⟨by decide +kernel, by decide +kernel, by decide +kernel, mem_t (k := 1) (by decide +kernel), ⟨mem_t (k := 654) (by decide +kernel), mem_t (k := 655) (by decide +kernel)⟩⟩, mem_t (k := 656) (by decide +kernel), dc_X7_place⟩
theorem w_X7_wouldKill : MW E_X7_wouldKill := ⟨⟨by decide +kernel, by decide +kernel, by decide +kernel, mem_t (k := 1) (by decide +kernel), ⟨mem_t (k := 661) (by decide +kernel), mem_t (k := 662) (by decide +kernel)⟩⟩, mem_t (k := 663) (by decide +kernel), dc_X7_wouldKill⟩
theorem w_X7_chain : MW E_X7_chain := ⟨⟨by decide +kernel, by decide +kernel, by decide +kernel, mem_t (k := 1) (by decide +kernel), ⟨mem_t (k := 669) (by decide +kernel), mem_t (k := 670) (by decide +kernel)⟩⟩, mem_t (k := 671) (by decide +kernel), dc_X7_chain⟩
theorem w_X7_cheapest : MW E_X7_cheapest := ⟨⟨by decide +kernel, by decide +kernel, by decide +kernel, mem_t (k := 1) (by decide +kernel), ⟨mem_t (k := 676) (by decide +kernel), mem_t (k := 677) (by decide +kernel)⟩⟩, mem_t (k := 678) (by decide +kernel), dc_X7_cheapest⟩
theorem w_X7_nextExpiry : MW E_X7_nextExpiry := ⟨⟨by decide +kernel, by decide +kernel, by decide +kernel, mem_t (k := 1) (by decide +kernel), ⟨mem_t (k := 685) (by decide +kernel), mem_t (k := 686) (by decide +kernel)⟩⟩, mem_t (k := 687) (by decide +kernel), dc_X7_nextExpiry⟩
theorem w_X7_recorded : MW E_X7_recorded := ⟨⟨by decide +kernel, by decide +kernel, by decide +kernel, mem_t (k := 1) (by decide +kernel), ⟨mem_t (k := 261) (by decide +kernel), mem_l (k := 0) (by decide +kernel)⟩⟩, mem_t (k := 262) (by decide +kernel), dc_X7_recorded⟩
theorem w_X8_in : MW E_X8_in := ⟨⟨by decide +kernel, by decide +kernel, by decide +kernel, mem_t (k := 9) (by decide +kernel), mem_t (k := 740) (by decide +kernel)⟩, mem_t (k := 741) (by decide +kernel), dc_X8_in⟩
theorem w_X8_record : MW E_X8_record := ⟨⟨by decide +kernel, by decide +kernel, by decide +kernel, mem_t (k := 9) (by decide +kernel), ⟨mem_t (k := 744) (by decide +kernel), mem_l (k := 21) (by decide +kernel)⟩⟩, mem_t (k := 745) (by decide +kernel), dc_X8_record⟩
theorem w_X8_keep : MW E_X8_keep := ⟨⟨by decide +kernel, by decide +kernel, by decide +kernel, mem_t (k := 9) (by decide +kernel), ⟨mem_t (k := 748) (by decide +kernel), mem_l (k := 22) (by decide +kernel)⟩⟩, mem_t (k := 749) (by decide +kernel), dc_X8_keep⟩
theorem w_X8_of : MW E_X8_of := ⟨⟨by decide +kernel, by decide +kernel, by decide +kernel, mem_t (k := 9) (by decide +kernel), ⟨mem_t (k := 776) (by decide +kernel), mem_l (k := 27) (by decide +kernel)⟩⟩, mem_t (k := 777) (by decide +kernel), dc_X8_of⟩
theorem w_X8_isBlock : MW E_X8_isBlock := ⟨⟨by decide +kernel, by decide +kernel, by decide +kernel, mem_t (k := 9) (by decide +kernel), ⟨mem_t (k := 772) (by decide +kernel), mem_l (k := 26) (by decide +kernel)⟩⟩, mem_t (k := 773) (by decide +kernel), dc_X8_isBlock⟩
theorem w_X8_isStage : MW E_X8_isStage := ⟨⟨by decide +kernel, by decide +kernel, by decide +kernel, mem_t (k := 9) (by decide +kernel), ⟨mem_t (k := 760) (by decide +kernel), mem_l (k := 23) (by decide +kernel)⟩⟩, mem_t (k := 761) (by decide +kernel), dc_X8_isStage⟩
theorem w_X8_isHold : MW E_X8_isHold := ⟨⟨by decide +kernel, by decide +kernel, by decide +kernel, mem_t (k := 9) (by decide +kernel), ⟨mem_t (k := 867) (by decide +kernel), mem_l (k := 45) (by decide +kernel)⟩⟩, mem_t (k := 868) (by decide +kernel), dc_X8_isHold⟩
theorem w_X8_isTicket : MW E_X8_isTicket := ⟨⟨by decide +kernel, by decide +kernel, by decide +kernel, mem_t (k := 9) (by decide +kernel), ⟨mem_t (k := 895) (by decide +kernel), mem_l (k := 50) (by decide +kernel)⟩⟩, mem_t (k := 896) (by decide +kernel), dc_X8_isTicket⟩
theorem w_X8_ofHold : MW E_X8_ofHold := ⟨⟨by decide +kernel, by decide +kernel, by decide +kernel, mem_t (k := 9) (by decide +kernel), ⟨mem_t (k := 871) (by decide +kernel), mem_l (k := 46) (by decide +kernel)⟩⟩, mem_t (k := 872) (by decide +kernel), dc_X8_ofHold⟩
theorem w_X8_ofTicket : MW E_X8_ofTicket := ⟨⟨by decide +kernel, by decide +kernel, by decide +kernel, mem_t (k := 9) (by decide +kernel), ⟨mem_t (k := 899) (by decide +kernel), mem_l (k := 51) (by decide +kernel)⟩⟩, mem_t (k := 900) (by decide +kernel), dc_X8_ofTicket⟩
theorem w_X8_isUp : MW E_X8_isUp := ⟨⟨by decide +kernel, by decide +kernel, by decide +kernel, mem_t (k := 9) (by decide +kernel), ⟨mem_t (k := 780) (by decide +kernel), mem_l (k := 28) (by decide +kernel)⟩⟩, mem_t (k := 781) (by decide +kernel), dc_X8_isUp⟩
theorem w_X8_isChair : MW E_X8_isChair := ⟨⟨by decide +kernel, by decide +kernel, by decide +kernel, mem_t (k := 9) (by decide +kernel), ⟨mem_t (k := 768) (by decide +kernel), mem_l (k := 25) (by decide +kernel)⟩⟩, mem_t (k := 769) (by decide +kernel), dc_X8_isChair⟩
theorem w_X8_atChair : MW E_X8_atChair := ⟨⟨by decide +kernel, by decide +kernel, by decide +kernel, mem_t (k := 9) (by decide +kernel), mem_t (k := 783) (by decide +kernel)⟩, mem_t (k := 784) (by decide +kernel), dc_X8_atChair⟩
theorem w_X8_isWhat : MW E_X8_isWhat := ⟨⟨by decide +kernel, by decide +kernel, by decide +kernel, mem_t (k := 9) (by decide +kernel), ⟨mem_t (k := 799) (by decide +kernel), mem_l (k := 32) (by decide +kernel)⟩⟩, mem_t (k := 800) (by decide +kernel), dc_X8_isWhat⟩
theorem w_X8_isKilled : MW E_X8_isKilled := ⟨⟨by decide +kernel, by decide +kernel, by decide +kernel, mem_t (k := 9) (by decide +kernel), ⟨mem_t (k := 795) (by decide +kernel), mem_l (k := 31) (by decide +kernel)⟩⟩, mem_t (k := 796) (by decide +kernel), dc_X8_isKilled⟩
theorem w_X8_isFor : MW E_X8_isFor := ⟨⟨by decide +kernel, by decide +kernel, by decide +kernel, mem_t (k := 9) (by decide +kernel), ⟨mem_t (k := 791) (by decide +kernel), mem_l (k := 30) (by decide +kernel)⟩⟩, mem_t (k := 792) (by decide +kernel), dc_X8_isFor⟩
theorem w_X8_become : MW E_X8_become := ⟨⟨by decide +kernel, by decide +kernel, by decide +kernel, mem_t (k := 9) (by decide +kernel), ⟨mem_t (k := 855) (by decide +kernel), mem_l (k := 43) (by decide +kernel)⟩⟩, mem_t (k := 856) (by decide +kernel), dc_X8_become⟩
theorem w_X8_isOpen : MW E_X8_isOpen := ⟨⟨by decide +kernel, by decide +kernel, by decide +kernel, mem_t (k := 9) (by decide +kernel), ⟨mem_t (k := 847) (by decide +kernel), mem_l (k := 41) (by decide +kernel)⟩⟩, mem_t (k := 848) (by decide +kernel), dc_X8_isOpen⟩
theorem w_X8_areOpen : MW E_X8_areOpen := ⟨⟨by decide +kernel, by decide +kernel, by decide +kernel, mem_t (k := 9) (by decide +kernel), ⟨mem_t (k := 843) (by decide +kernel), mem_l (k := 40) (by decide +kernel)⟩⟩, mem_t (k := 844) (by decide +kernel), dc_X8_areOpen⟩
theorem w_X8_leftAlone : MW E_X8_leftAlone := ⟨⟨by decide +kernel, by decide +kernel, by decide +kernel, mem_t (k := 9) (by decide +kernel), ⟨mem_t (k := 851) (by decide +kernel), mem_l (k := 42) (by decide +kernel)⟩⟩, mem_t (k := 852) (by decide +kernel), dc_X8_leftAlone⟩
theorem w_X8_placeIn : MW E_X8_placeIn := ⟨⟨by decide +kernel, by decide +kernel, by decide +kernel, mem_t (k := 9) (by decide +kernel), ⟨mem_t (k := 839) (by decide +kernel), mem_l (k := 39) (by decide +kernel)⟩⟩, mem_t (k := 840) (by decide +kernel), dc_X8_placeIn⟩
theorem w_X8_rank : MW E_X8_rank := ⟨⟨by decide +kernel, by decide +kernel, by decide +kernel, mem_t (k := 9) (by decide +kernel), ⟨mem_t (k := 923) (by decide +kernel), mem_l (k := 55) (by decide +kernel)⟩⟩, mem_t (k := 924) (by decide +kernel), dc_X8_rank⟩
theorem w_X8_counted : MW E_X8_counted := ⟨⟨by decide +kernel, by decide +kernel, by decide +kernel, mem_t (k := 9) (by decide +kernel), ⟨mem_t (k := 819) (by decide +kernel), mem_l (k := 36) (by decide +kernel)⟩⟩, mem_t (k := 820) (by decide +kernel), dc_X8_counted⟩
theorem w_X8_countedAll : MW E_X8_countedAll := ⟨⟨by decide +kernel, by decide +kernel, by decide +kernel, mem_t (k := 9) (by decide +kernel), ⟨mem_t (k := 815) (by decide +kernel), mem_l (k := 35) (by decide +kernel)⟩⟩, mem_t (k := 816) (by decide +kernel), dc_X8_countedAll⟩
theorem w_X8_addBlock : MW E_X8_addBlock := ⟨⟨by decide +kernel, by decide +kernel, by decide +kernel, mem_t (k := 9) (by decide +kernel), ⟨mem_t (k := 736) (by decide +kernel), mem_t (k := 737) (by decide +kernel)⟩⟩, mem_t (k := 738) (by decide +kernel), dc_X8_addBlock⟩
theorem w_X8_addStage : MW E_X8_addStage := ⟨⟨by decide +kernel, by decide +kernel, by decide +kernel, mem_t (k := 9) (by decide +kernel), ⟨mem_t (k := 751) (by decide +kernel), mem_t (k := 752) (by decide +kernel)⟩⟩, mem_t (k := 753) (by decide +kernel), dc_X8_addStage⟩
theorem w_X8_isPiece : MW E_X8_isPiece := ⟨⟨by decide +kernel, by decide +kernel, by decide +kernel, mem_t (k := 9) (by decide +kernel), ⟨mem_t (k := 764) (by decide +kernel), mem_l (k := 24) (by decide +kernel)⟩⟩, mem_t (k := 765) (by decide +kernel), dc_X8_isPiece⟩
theorem w_X8_killedBy : MW E_X8_killedBy := ⟨⟨by decide +kernel, by decide +kernel, by decide +kernel, mem_t (k := 9) (by decide +kernel), ⟨mem_t (k := 787) (by decide +kernel), mem_l (k := 29) (by decide +kernel)⟩⟩, mem_t (k := 788) (by decide +kernel), dc_X8_killedBy⟩
theorem w_X8_addPiece : MW E_X8_addPiece := ⟨⟨by decide +kernel, by decide +kernel, by decide +kernel, mem_t (k := 9) (by decide +kernel), ⟨mem_t (k := 755) (by decide +kernel), mem_t (k := 756) (by decide +kernel)⟩⟩, mem_t (k := 757) (by decide +kernel), dc_X8_addPiece⟩
theorem w_X8_puts : MW E_X8_puts := ⟨⟨by decide +kernel, by decide +kernel, by decide +kernel, mem_t (k := 9) (by decide +kernel), ⟨mem_t (k := 811) (by decide +kernel), mem_l (k := 34) (by decide +kernel)⟩⟩, mem_t (k := 812) (by decide +kernel), dc_X8_puts⟩
theorem w_X8_acted : MW E_X8_acted := ⟨⟨by decide +kernel, by decide +kernel, by decide +kernel, mem_t (k := 9) (by decide +kernel), ⟨mem_t (k := 823) (by decide +kernel), mem_l (k := 37) (by decide +kernel)⟩⟩, mem_t (k := 824) (by decide +kernel), dc_X8_acted⟩
theorem w_X8_aside : MW E_X8_aside := ⟨⟨by decide +kernel, by decide +kernel, by decide +kernel, mem_t (k := 9) (by decide +kernel), ⟨mem_t (k := 807) (by decide +kernel), mem_l (k := 33) (by decide +kernel)⟩⟩, mem_t (k := 808) (by decide +kernel), dc_X8_aside⟩
theorem w_X8_putUp : MW E_X8_putUp := ⟨⟨by decide +kernel, by decide +kernel, by decide +kernel, mem_t (k := 9) (by decide +kernel), ⟨mem_t (k := 802) (by decide +kernel), mem_t (k := 803) (by decide +kernel)⟩⟩, mem_t (k := 804) (by decide +kernel), dc_X8_putUp⟩
theorem w_X8_takeDown : MW E_X8_takeDown := ⟨⟨by decide +kernel, by decide +kernel, by decide +kernel, mem_t (k := 9) (by decide +kernel), ⟨mem_t (k := 826) (by decide +kernel), mem_t (k := 827) (by decide +kernel)⟩⟩, mem_t (k := 828) (by decide +kernel), dc_X8_takeDown⟩
theorem w_X8_holds : MW E_X8_holds := ⟨⟨by decide +kernel, by decide +kernel, by decide +kernel, mem_t (k := 9) (by decide +kernel), ⟨mem_t (k := 835) (by decide +kernel), mem_l (k := 38) (by decide +kernel)⟩⟩, mem_t (k := 836) (by decide +kernel), dc_X8_holds⟩
theorem w_X8_hold : MW E_X8_hold := ⟨⟨by decide +kernel, by decide +kernel, by decide +kernel, mem_t (k := 9) (by decide +kernel), ⟨mem_t (k := 830) (by decide +kernel), mem_t (k := 831) (by decide +kernel)⟩⟩, mem_t (k := 832) (by decide +kernel), dc_X8_hold⟩
theorem w_X8_buys : MW E_X8_buys := ⟨⟨by decide +kernel, by decide +kernel, by decide +kernel, mem_t (k := 9) (by decide +kernel), ⟨mem_t (k := 863) (by decide +kernel), mem_l (k := 44) (by decide +kernel)⟩⟩, mem_t (k := 864) (by decide +kernel), dc_X8_buys⟩
theorem w_X8_buy : MW E_X8_buy := ⟨⟨by decide +kernel, by decide +kernel, by decide +kernel, mem_t (k := 9) (by decide +kernel), ⟨mem_t (k := 858) (by decide +kernel), mem_t (k := 859) (by decide +kernel)⟩⟩, mem_t (k := 860) (by decide +kernel), dc_X8_buy⟩
theorem w_X8_drops : MW E_X8_drops := ⟨⟨by decide +kernel, by decide +kernel, by decide +kernel, mem_t (k := 9) (by decide +kernel), ⟨mem_t (k := 879) (by decide +kernel), mem_l (k := 47) (by decide +kernel)⟩⟩, mem_t (k := 880) (by decide +kernel), dc_X8_drops⟩
theorem w_X8_drop : MW E_X8_drop := ⟨⟨by decide +kernel, by decide +kernel, by decide +kernel, mem_t (k := 9) (by decide +kernel), ⟨mem_t (k := 874) (by decide +kernel), mem_t (k := 875) (by decide +kernel)⟩⟩, mem_t (k := 876) (by decide +kernel), dc_X8_drop⟩
theorem w_X8_ends : MW E_X8_ends := ⟨⟨by decide +kernel, by decide +kernel, by decide +kernel, mem_t (k := 9) (by decide +kernel), ⟨mem_t (k := 903) (by decide +kernel), mem_l (k := 52) (by decide +kernel)⟩⟩, mem_t (k := 904) (by decide +kernel), dc_X8_ends⟩
theorem w_X8_whyNot : MW E_X8_whyNot := ⟨⟨by decide +kernel, by decide +kernel, by decide +kernel, mem_t (k := 9) (by decide +kernel), ⟨mem_t (k := 891) (by decide +kernel), mem_l (k := 49) (by decide +kernel)⟩⟩, mem_t (k := 892) (by decide +kernel), dc_X8_whyNot⟩
theorem w_X8_givesBack : MW E_X8_givesBack := ⟨⟨by decide +kernel, by decide +kernel, by decide +kernel, mem_t (k := 9) (by decide +kernel), ⟨mem_t (k := 887) (by decide +kernel), mem_l (k := 48) (by decide +kernel)⟩⟩, mem_t (k := 888) (by decide +kernel), dc_X8_givesBack⟩
theorem w_X8_giveBack : MW E_X8_giveBack := ⟨⟨by decide +kernel, by decide +kernel, by decide +kernel, mem_t (k := 9) (by decide +kernel), ⟨mem_t (k := 882) (by decide +kernel), mem_t (k := 883) (by decide +kernel)⟩⟩, mem_t (k := 884) (by decide +kernel), dc_X8_giveBack⟩
theorem w_X8_comes : MW E_X8_comes := ⟨⟨by decide +kernel, by decide +kernel, by decide +kernel, mem_t (k := 9) (by decide +kernel), ⟨mem_t (k := 911) (by decide +kernel), mem_l (k := 53) (by decide +kernel)⟩⟩, mem_t (k := 912) (by decide +kernel), dc_X8_comes⟩
theorem w_X8_comeIn : MW E_X8_comeIn := ⟨⟨by decide +kernel, by decide +kernel, by decide +kernel, mem_t (k := 9) (by decide +kernel), ⟨mem_t (k := 906) (by decide +kernel), mem_t (k := 907) (by decide +kernel)⟩⟩, mem_t (k := 908) (by decide +kernel), dc_X8_comeIn⟩
theorem w_X8_better : MW E_X8_better := ⟨⟨by decide +kernel, by decide +kernel, by decide +kernel, mem_t (k := 9) (by decide +kernel), ⟨mem_t (k := 919) (by decide +kernel), mem_l (k := 54) (by decide +kernel)⟩⟩, mem_t (k := 920) (by decide +kernel), dc_X8_better⟩
theorem w_X8_moves : MW E_X8_moves := ⟨⟨by decide +kernel, by decide +kernel, by decide +kernel, mem_t (k := 9) (by decide +kernel), ⟨mem_t (k := 931) (by decide +kernel), mem_l (k := 57) (by decide +kernel)⟩⟩, mem_t (k := 932) (by decide +kernel), dc_X8_moves⟩
theorem w_X8_follower : MW E_X8_follower := ⟨⟨by decide +kernel, by decide +kernel, by decide +kernel, mem_t (k := 9) (by decide +kernel), ⟨mem_t (k := 935) (by decide +kernel), mem_l (k := 58) (by decide +kernel)⟩⟩, mem_t (k := 936) (by decide +kernel), dc_X8_follower⟩
theorem w_X8_chains : MW E_X8_chains := ⟨⟨by decide +kernel, by decide +kernel, by decide +kernel, mem_t (k := 9) (by decide +kernel), ⟨mem_t (k := 927) (by decide +kernel), mem_l (k := 56) (by decide +kernel)⟩⟩, mem_t (k := 928) (by decide +kernel), dc_X8_chains⟩
theorem w_X8_upgrade : MW E_X8_upgrade := ⟨⟨by decide +kernel, by decide +kernel, by decide +kernel, mem_t (k := 9) (by decide +kernel), ⟨mem_t (k := 914) (by decide +kernel), mem_t (k := 915) (by decide +kernel)⟩⟩, mem_t (k := 916) (by decide +kernel), dc_X8_upgrade⟩
theorem w_X8_passes : MW E_X8_passes := ⟨⟨by decide +kernel, by decide +kernel, by decide +kernel, mem_t (k := 9) (by decide +kernel), ⟨mem_t (k := 943) (by decide +kernel), mem_l (k := 59) (by decide +kernel)⟩⟩, mem_t (k := 944) (by decide +kernel), dc_X8_passes⟩
theorem w_X8_pass : MW E_X8_pass := ⟨⟨by decide +kernel, by decide +kernel, by decide +kernel, mem_t (k := 9) (by decide +kernel), ⟨mem_t (k := 938) (by decide +kernel), mem_t (k := 939) (by decide +kernel)⟩⟩, mem_t (k := 940) (by decide +kernel), dc_X8_pass⟩
theorem w_X8_closeDoors : MW E_X8_closeDoors := ⟨⟨by decide +kernel, by decide +kernel, by decide +kernel, mem_t (k := 9) (by decide +kernel), ⟨mem_t (k := 946) (by decide +kernel), mem_t (k := 947) (by decide +kernel)⟩⟩, mem_t (k := 948) (by decide +kernel), dc_X8_closeDoors⟩
theorem w_X8_undo : MW E_X8_undo := ⟨⟨by decide +kernel, by decide +kernel, by decide +kernel, mem_t (k := 9) (by decide +kernel), ⟨mem_t (k := 950) (by decide +kernel), mem_t (k := 951) (by decide +kernel)⟩⟩, mem_t (k := 952) (by decide +kernel), dc_X8_undo⟩
theorem w_X8_append : MW E_X8_append := ⟨⟨by decide +kernel, by decide +kernel, by decide +kernel, mem_t (k := 9) (by decide +kernel), ⟨mem_t (k := 954) (by decide +kernel), mem_t (k := 955) (by decide +kernel)⟩⟩, mem_t (k := 956) (by decide +kernel), dc_X8_append⟩
theorem w_X8_clearText : MW E_X8_clearText := ⟨⟨by decide +kernel, by decide +kernel, by decide +kernel, mem_t (k := 9) (by decide +kernel), ⟨mem_t (k := 958) (by decide +kernel), mem_t (k := 959) (by decide +kernel)⟩⟩, mem_t (k := 960) (by decide +kernel), dc_X8_clearText⟩
theorem w_X8_byteAt : MW E_X8_byteAt := ⟨⟨by decide +kernel, by decide +kernel, by decide +kernel, mem_t (k := 9) (by decide +kernel), ⟨mem_t (k := 971) (by decide +kernel), mem_l (k := 61) (by decide +kernel)⟩⟩, mem_t (k := 972) (by decide +kernel), dc_X8_byteAt⟩
theorem w_X8_isLetter : MW E_X8_isLetter := ⟨⟨by decide +kernel, by decide +kernel, by decide +kernel, mem_t (k := 9) (by decide +kernel), ⟨mem_t (k := 975) (by decide +kernel), mem_l (k := 62) (by decide +kernel)⟩⟩, mem_t (k := 976) (by decide +kernel), dc_X8_isLetter⟩
theorem w_X8_isFigure : MW E_X8_isFigure := ⟨⟨by decide +kernel, by decide +kernel, by decide +kernel, mem_t (k := 9) (by decide +kernel), ⟨mem_t (k := 979) (by decide +kernel), mem_l (k := 63) (by decide +kernel)⟩⟩, mem_t (k := 980) (by decide +kernel), dc_X8_isFigure⟩
theorem w_X8_next : MW E_X8_next := ⟨⟨by decide +kernel, by decide +kernel, by decide +kernel, mem_t (k := 9) (by decide +kernel), ⟨mem_t (k := 967) (by decide +kernel), mem_l (k := 60) (by decide +kernel)⟩⟩, mem_t (k := 968) (by decide +kernel), dc_X8_next⟩
theorem w_X8_word : MW E_X8_word := ⟨⟨by decide +kernel, by decide +kernel, by decide +kernel, mem_t (k := 9) (by decide +kernel), ⟨mem_t (k := 987) (by decide +kernel), mem_l (k := 65) (by decide +kernel)⟩⟩, mem_t (k := 988) (by decide +kernel), dc_X8_word⟩
theorem w_X8_orderBy : MW E_X8_orderBy := ⟨⟨by decide +kernel, by decide +kernel, by decide +kernel, mem_t (k := 9) (by decide +kernel), ⟨mem_t (k := 991) (by decide +kernel), mem_l (k := 66) (by decide +kernel)⟩⟩, mem_t (k := 992) (by decide +kernel), dc_X8_orderBy⟩
theorem w_X8_isNumber : MW E_X8_isNumber := ⟨⟨by decide +kernel, by decide +kernel, by decide +kernel, mem_t (k := 9) (by decide +kernel), ⟨mem_t (k := 1002) (by decide +kernel), mem_l (k := 67) (by decide +kernel)⟩⟩, mem_t (k := 1003) (by decide +kernel), dc_X8_isNumber⟩
theorem w_X8_value : MW E_X8_value := ⟨⟨by decide +kernel, by decide +kernel, by decide +kernel, mem_t (k := 9) (by decide +kernel), ⟨mem_t (k := 1006) (by decide +kernel), mem_l (k := 68) (by decide +kernel)⟩⟩, mem_t (k := 1007) (by decide +kernel), dc_X8_value⟩
theorem w_X8_done : MW E_X8_done := ⟨⟨by decide +kernel, by decide +kernel, by decide +kernel, mem_t (k := 9) (by decide +kernel), ⟨mem_t (k := 1010) (by decide +kernel), mem_l (k := 69) (by decide +kernel)⟩⟩, mem_t (k := 1011) (by decide +kernel), dc_X8_done⟩
theorem w_X8_fails : MW E_X8_fails := ⟨⟨by decide +kernel, by decide +kernel, by decide +kernel, mem_t (k := 9) (by decide +kernel), ⟨mem_t (k := 983) (by decide +kernel), mem_l (k := 64) (by decide +kernel)⟩⟩, mem_t (k := 984) (by decide +kernel), dc_X8_fails⟩
theorem w_X8_run : MW E_X8_run := ⟨⟨by decide +kernel, by decide +kernel, by decide +kernel, mem_t (k := 9) (by decide +kernel), ⟨mem_t (k := 962) (by decide +kernel), mem_t (k := 963) (by decide +kernel)⟩⟩, mem_t (k := 964) (by decide +kernel), dc_X8_run⟩
theorem w_X8_many : MW E_X8_many := ⟨⟨by decide +kernel, by decide +kernel, by decide +kernel, mem_t (k := 9) (by decide +kernel), ⟨mem_t (k := 1018) (by decide +kernel), mem_l (k := 70) (by decide +kernel)⟩⟩, mem_t (k := 1019) (by decide +kernel), dc_X8_many⟩
theorem w_X8_count : MW E_X8_count := ⟨⟨by decide +kernel, by decide +kernel, by decide +kernel, mem_t (k := 9) (by decide +kernel), ⟨mem_t (k := 1013) (by decide +kernel), mem_t (k := 1014) (by decide +kernel)⟩⟩, mem_t (k := 1015) (by decide +kernel), dc_X8_count⟩
theorem w_X8_greatest : MW E_X8_greatest := ⟨⟨by decide +kernel, by decide +kernel, by decide +kernel, mem_t (k := 9) (by decide +kernel), ⟨mem_t (k := 1026) (by decide +kernel), mem_l (k := 71) (by decide +kernel)⟩⟩, mem_t (k := 1027) (by decide +kernel), dc_X8_greatest⟩
theorem w_X8_block : MW E_X8_block := ⟨⟨by decide +kernel, by decide +kernel, by decide +kernel, mem_t (k := 9) (by decide +kernel), ⟨mem_t (k := 1021) (by decide +kernel), mem_t (k := 1022) (by decide +kernel)⟩⟩, mem_t (k := 1023) (by decide +kernel), dc_X8_block⟩
theorem w_X8_chair : MW E_X8_chair := ⟨⟨by decide +kernel, by decide +kernel, by decide +kernel, mem_t (k := 9) (by decide +kernel), ⟨mem_t (k := 1029) (by decide +kernel), mem_t (k := 1030) (by decide +kernel)⟩⟩, mem_t (k := 1031) (by decide +kernel), dc_X8_chair⟩
theorem w_X8_holdOf : MW E_X8_holdOf := ⟨⟨by decide +kernel, by decide +kernel, by decide +kernel, mem_t (k := 9) (by decide +kernel), ⟨mem_t (k := 1033) (by decide +kernel), mem_t (k := 1034) (by decide +kernel)⟩⟩, mem_t (k := 1035) (by decide +kernel), dc_X8_holdOf⟩
theorem w_X8_ticket : MW E_X8_ticket := ⟨⟨by decide +kernel, by decide +kernel, by decide +kernel, mem_t (k := 9) (by decide +kernel), ⟨mem_t (k := 1037) (by decide +kernel), mem_t (k := 1038) (by decide +kernel)⟩⟩, mem_t (k := 1039) (by decide +kernel), dc_X8_ticket⟩
theorem w_X8_place : MW E_X8_place := ⟨⟨by decide +kernel, by decide +kernel, by decide +kernel, mem_t (k := 9) (by decide +kernel), ⟨mem_t (k := 1041) (by decide +kernel), mem_t (k := 1042) (by decide +kernel)⟩⟩, mem_t (k := 1043) (by decide +kernel), dc_X8_place⟩
theorem w_X8_wouldKill : MW E_X8_wouldKill := ⟨⟨by decide +kernel, by decide +kernel, by decide +kernel, mem_t (k := 9) (by decide +kernel), ⟨mem_t (k := 1045) (by decide +kernel), mem_t (k := 1046) (by decide +kernel)⟩⟩, mem_t (k := 1047) (by decide +kernel), dc_X8_wouldKill⟩
theorem w_X8_chain : MW E_X8_chain := ⟨⟨by decide +kernel, by decide +kernel, by decide +kernel, mem_t (k := 9) (by decide +kernel), ⟨mem_t (k := 1049) (by decide +kernel), mem_t (k := 1050) (by decide +kernel)⟩⟩, mem_t (k := 1051) (by decide +kernel), dc_X8_chain⟩
theorem w_X8_cheapest : MW E_X8_cheapest := ⟨⟨by decide +kernel, by decide +kernel, by decide +kernel, mem_t (k := 9) (by decide +kernel), ⟨mem_t (k := 1053) (by decide +kernel), mem_t (k := 1054) (by decide +kernel)⟩⟩, mem_t (k := 1055) (by decide +kernel), dc_X8_cheapest⟩
theorem w_X8_nextExpiry : MW E_X8_nextExpiry := ⟨⟨by decide +kernel, by decide +kernel, by decide +kernel, mem_t (k := 9) (by decide +kernel), ⟨mem_t (k := 1057) (by decide +kernel), mem_t (k := 1058) (by decide +kernel)⟩⟩, mem_t (k := 1059) (by decide +kernel), dc_X8_nextExpiry⟩
theorem w_J6_bitCount_0f7a4 : MW E_J6_bitCount_0f7a4 := ⟨⟨by decide +kernel, by decide +kernel, by decide +kernel, mem_t (k := 15) (by decide +kernel), mem_t (k := 599) (by decide +kernel)⟩, mem_t (k := 600) (by decide +kernel), dc_J6_bitCount_0f7a4⟩
theorem mw_at : ∀ z, z < 178 → ∀ e, nth MT z = some e → MW e
  | 0, _, e, h => by cases h; exact w_X0_copyFrom
  | 1, _, e, h => by cases h; exact w_X1_copyFrom
  | 2, _, e, h => by cases h; exact w_X1_makeBlock
  | 3, _, e, h => by cases h; exact w_X1_makeStage
  | 4, _, e, h => by cases h; exact w_X1_makePiece
  | 5, _, e, h => by cases h; exact w_X1_raiseStage
  | 6, _, e, h => by cases h; exact w_X1_lowerStage
  | 7, _, e, h => by cases h; exact w_X1_newlyKilled
  | 8, _, e, h => by cases h; exact w_X1_stagesThatAreUp
  | 9, _, e, h => by cases h; exact w_X1_blockAt
  | 10, _, e, h => by cases h; exact w_X1_rankOf
  | 11, _, e, h => by cases h; exact w_X1_priceOf
  | 12, _, e, h => by cases h; exact w_X1_chairFigure
  | 13, _, e, h => by cases h; exact w_X1_blockFigure
  | 14, _, e, h => by cases h; exact w_X1_chairsIn
  | 15, _, e, h => by cases h; exact w_X1_mark
  | 16, _, e, h => by cases h; exact w_X1_findPlace
  | 17, _, e, h => by cases h; exact w_X1_greatestGroup
  | 18, _, e, h => by cases h; exact w_X1_cheapestFor
  | 19, _, e, h => by cases h; exact w_X1_upgradeFor
  | 20, _, e, h => by cases h; exact w_X1_isGroup
  | 21, _, e, h => by cases h; exact w_X1_isStage
  | 22, _, e, h => by cases h; exact w_X1_isUp
  | 23, _, e, h => by cases h; exact w_X1_isChair
  | 24, _, e, h => by cases h; exact w_X1_isPiece
  | 25, _, e, h => by cases h; exact w_X1_chairsUnder
  | 26, _, e, h => by cases h; exact w_X1_hasTakenChairUnder
  | 27, _, e, h => by cases h; exact w_X1_chairsThatAre
  | 28, _, e, h => by cases h; exact w_X1_usableIn
  | 29, _, e, h => by cases h; exact w_X1_usableInRow
  | 30, _, e, h => by cases h; exact w_X1_hasRoom
  | 31, _, e, h => by cases h; exact w_X1_leftAlone
  | 32, _, e, h => by cases h; exact w_X2_prepare
  | 33, _, e, h => by cases h; exact w_X2_keepPrepared
  | 34, _, e, h => by cases h; exact w_X2_takeBack
  | 35, _, e, h => by cases h; exact w_X2_stepBack
  | 36, _, e, h => by cases h; exact w_X3_copyFrom
  | 37, _, e, h => by cases h; exact w_X4_addCharacter
  | 38, _, e, h => by cases h; exact w_X4_makeEmpty
  | 39, _, e, h => by cases h; exact w_X4_runOn
  | 40, _, e, h => by cases h; exact w_X4_runOrder
  | 41, _, e, h => by cases h; exact w_X4_perform
  | 42, _, e, h => by cases h; exact w_X4_orderOfToken
  | 43, _, e, h => by cases h; exact w_X4_readToken
  | 44, _, e, h => by cases h; exact w_X4_tokenIs
  | 45, _, e, h => by cases h; exact w_X4_numberOfToken
  | 46, _, e, h => by cases h; exact w_X4_kindOf
  | 47, _, e, h => by cases h; exact w_X5_copyFrom
  | 48, _, e, h => by cases h; exact w_X5_makeHold
  | 49, _, e, h => by cases h; exact w_X5_buyHold
  | 50, _, e, h => by cases h; exact w_X5_dropHold
  | 51, _, e, h => by cases h; exact w_X5_returnTicket
  | 52, _, e, h => by cases h; exact w_X5_admit
  | 53, _, e, h => by cases h; exact w_X5_upgradeTicket
  | 54, _, e, h => by cases h; exact w_X5_moveChain
  | 55, _, e, h => by cases h; exact w_X5_letPass
  | 56, _, e, h => by cases h; exact w_X5_shutDoors
  | 57, _, e, h => by cases h; exact w_X5_numberOf
  | 58, _, e, h => by cases h; exact w_X5_holdFigure
  | 59, _, e, h => by cases h; exact w_X5_ticketFigure
  | 60, _, e, h => by cases h; exact w_X5_minutesToExpiry
  | 61, _, e, h => by cases h; exact w_X5_ticketAt
  | 62, _, e, h => by cases h; exact w_X5_holdAt
  | 63, _, e, h => by cases h; exact w_X5_moveTicket
  | 64, _, e, h => by cases h; exact w_X5_nextMover
  | 65, _, e, h => by cases h; exact w_X5_isWait
  | 66, _, e, h => by cases h; exact w_X5_openHolds
  | 67, _, e, h => by cases h; exact w_X5_ticketsThatAre
  | 68, _, e, h => by cases h; exact w_X6_copyFrom
  | 69, _, e, h => by cases h; exact w_X7_addBlock
  | 70, _, e, h => by cases h; exact w_X7_addStage
  | 71, _, e, h => by cases h; exact w_X7_addPiece
  | 72, _, e, h => by cases h; exact w_X7_putUp
  | 73, _, e, h => by cases h; exact w_X7_takeDown
  | 74, _, e, h => by cases h; exact w_X7_hold
  | 75, _, e, h => by cases h; exact w_X7_buy
  | 76, _, e, h => by cases h; exact w_X7_drop
  | 77, _, e, h => by cases h; exact w_X7_giveBack
  | 78, _, e, h => by cases h; exact w_X7_comeIn
  | 79, _, e, h => by cases h; exact w_X7_upgrade
  | 80, _, e, h => by cases h; exact w_X7_pass
  | 81, _, e, h => by cases h; exact w_X7_closeDoors
  | 82, _, e, h => by cases h; exact w_X7_undo
  | 83, _, e, h => by cases h; exact w_X7_append
  | 84, _, e, h => by cases h; exact w_X7_clearText
  | 85, _, e, h => by cases h; exact w_X7_run
  | 86, _, e, h => by cases h; exact w_X7_count
  | 87, _, e, h => by cases h; exact w_X7_block
  | 88, _, e, h => by cases h; exact w_X7_chair
  | 89, _, e, h => by cases h; exact w_X7_holdOf
  | 90, _, e, h => by cases h; exact w_X7_ticket
  | 91, _, e, h => by cases h; exact w_X7_place
  | 92, _, e, h => by cases h; exact w_X7_wouldKill
  | 93, _, e, h => by cases h; exact w_X7_chain
  | 94, _, e, h => by cases h; exact w_X7_cheapest
  | 95, _, e, h => by cases h; exact w_X7_nextExpiry
  | 96, _, e, h => by cases h; exact w_X7_recorded
  | 97, _, e, h => by cases h; exact w_X8_in
  | 98, _, e, h => by cases h; exact w_X8_record
  | 99, _, e, h => by cases h; exact w_X8_keep
  | 100, _, e, h => by cases h; exact w_X8_of
  | 101, _, e, h => by cases h; exact w_X8_isBlock
  | 102, _, e, h => by cases h; exact w_X8_isStage
  | 103, _, e, h => by cases h; exact w_X8_isHold
  | 104, _, e, h => by cases h; exact w_X8_isTicket
  | 105, _, e, h => by cases h; exact w_X8_ofHold
  | 106, _, e, h => by cases h; exact w_X8_ofTicket
  | 107, _, e, h => by cases h; exact w_X8_isUp
  | 108, _, e, h => by cases h; exact w_X8_isChair
  | 109, _, e, h => by cases h; exact w_X8_atChair
  | 110, _, e, h => by cases h; exact w_X8_isWhat
  | 111, _, e, h => by cases h; exact w_X8_isKilled
  | 112, _, e, h => by cases h; exact w_X8_isFor
  | 113, _, e, h => by cases h; exact w_X8_become
  | 114, _, e, h => by cases h; exact w_X8_isOpen
  | 115, _, e, h => by cases h; exact w_X8_areOpen
  | 116, _, e, h => by cases h; exact w_X8_leftAlone
  | 117, _, e, h => by cases h; exact w_X8_placeIn
  | 118, _, e, h => by cases h; exact w_X8_rank
  | 119, _, e, h => by cases h; exact w_X8_counted
  | 120, _, e, h => by cases h; exact w_X8_countedAll
  | 121, _, e, h => by cases h; exact w_X8_addBlock
  | 122, _, e, h => by cases h; exact w_X8_addStage
  | 123, _, e, h => by cases h; exact w_X8_isPiece
  | 124, _, e, h => by cases h; exact w_X8_killedBy
  | 125, _, e, h => by cases h; exact w_X8_addPiece
  | 126, _, e, h => by cases h; exact w_X8_puts
  | 127, _, e, h => by cases h; exact w_X8_acted
  | 128, _, e, h => by cases h; exact w_X8_aside
  | 129, _, e, h => by cases h; exact w_X8_putUp
  | 130, _, e, h => by cases h; exact w_X8_takeDown
  | 131, _, e, h => by cases h; exact w_X8_holds
  | 132, _, e, h => by cases h; exact w_X8_hold
  | 133, _, e, h => by cases h; exact w_X8_buys
  | 134, _, e, h => by cases h; exact w_X8_buy
  | 135, _, e, h => by cases h; exact w_X8_drops
  | 136, _, e, h => by cases h; exact w_X8_drop
  | 137, _, e, h => by cases h; exact w_X8_ends
  | 138, _, e, h => by cases h; exact w_X8_whyNot
  | 139, _, e, h => by cases h; exact w_X8_givesBack
  | 140, _, e, h => by cases h; exact w_X8_giveBack
  | 141, _, e, h => by cases h; exact w_X8_comes
  | 142, _, e, h => by cases h; exact w_X8_comeIn
  | 143, _, e, h => by cases h; exact w_X8_better
  | 144, _, e, h => by cases h; exact w_X8_moves
  | 145, _, e, h => by cases h; exact w_X8_follower
  | 146, _, e, h => by cases h; exact w_X8_chains
  | 147, _, e, h => by cases h; exact w_X8_upgrade
  | 148, _, e, h => by cases h; exact w_X8_passes
  | 149, _, e, h => by cases h; exact w_X8_pass
  | 150, _, e, h => by cases h; exact w_X8_closeDoors
  | 151, _, e, h => by cases h; exact w_X8_undo
  | 152, _, e, h => by cases h; exact w_X8_append
  | 153, _, e, h => by cases h; exact w_X8_clearText
  | 154, _, e, h => by cases h; exact w_X8_byteAt
  | 155, _, e, h => by cases h; exact w_X8_isLetter
  | 156, _, e, h => by cases h; exact w_X8_isFigure
  | 157, _, e, h => by cases h; exact w_X8_next
  | 158, _, e, h => by cases h; exact w_X8_word
  | 159, _, e, h => by cases h; exact w_X8_orderBy
  | 160, _, e, h => by cases h; exact w_X8_isNumber
  | 161, _, e, h => by cases h; exact w_X8_value
  | 162, _, e, h => by cases h; exact w_X8_done
  | 163, _, e, h => by cases h; exact w_X8_fails
  | 164, _, e, h => by cases h; exact w_X8_run
  | 165, _, e, h => by cases h; exact w_X8_many
  | 166, _, e, h => by cases h; exact w_X8_count
  | 167, _, e, h => by cases h; exact w_X8_greatest
  | 168, _, e, h => by cases h; exact w_X8_block
  | 169, _, e, h => by cases h; exact w_X8_chair
  | 170, _, e, h => by cases h; exact w_X8_holdOf
  | 171, _, e, h => by cases h; exact w_X8_ticket
  | 172, _, e, h => by cases h; exact w_X8_place
  | 173, _, e, h => by cases h; exact w_X8_wouldKill
  | 174, _, e, h => by cases h; exact w_X8_chain
  | 175, _, e, h => by cases h; exact w_X8_cheapest
  | 176, _, e, h => by cases h; exact w_X8_nextExpiry
  | 177, _, e, h => by cases h; exact w_J6_bitCount_0f7a4
  | k + 178, h, _, _ => absurd h (by omega)
set_option maxRecDepth 20000 in
theorem ct_ok : ∀ q ∈ CTab, (q.2.1 < 178 ∧ (match nth MT q.2.1 with | some e => decide (tables_1[q.2.2]? = some (.methodLink (ownS q.1.1) q.1.2 (eY e))) | none => false) = true) ∨ 1000 ≤ q.2.1 := by decide +kernel
def Y_ac : MethodName := ⟨"java/lang/System", "arraycopy", "(Ljava/lang/Object;ILjava/lang/Object;II)V"⟩
set_option maxRecDepth 20000 in
theorem ct_ac : ∀ q ∈ CTab, q.2.1 = 1000 → tables_1[q.2.2]? = some (.methodLink (ownS q.1.1) q.1.2 Y_ac) := by decide +kernel
def Y_ln : MethodName := ⟨"java/lang/String", "length", "()I"⟩
set_option maxRecDepth 20000 in
theorem ct_ln : ∀ q ∈ CTab, q.2.1 = 1001 → tables_1[q.2.2]? = some (.methodLink (ownS q.1.1) q.1.2 Y_ln) := by decide +kernel
def Y_ch : MethodName := ⟨"java/lang/String", "charAt", "(I)C"⟩
set_option maxRecDepth 20000 in
theorem ct_ch : ∀ q ∈ CTab, q.2.1 = 1002 → tables_1[q.2.2]? = some (.methodLink (ownS q.1.1) q.1.2 Y_ch) := by decide +kernel
set_option maxRecDepth 20000 in
theorem kt_ok : ∀ q ∈ KTab, lw_tbl[q.2.2]? = some (.constant (ownS q.1.1) q.1.2 q.2.1) := by decide +kernel
set_option maxRecDepth 20000 in
theorem jt_ok : ∀ q ∈ JTab, lw_tbl[q.2.2]? = some (.constantLong (ownS q.1.1) q.1.2 q.2.1) := by decide +kernel
