/-! 09: the whole-number machine is sound over 03's -/
def cK (k : KI) : Key := (k.1, k.2.1.toNat, k.2.2.toNat)
def cU : U → V
  | .inl a => .inl (Int32.ofInt a)
  | .inr (.inl a) => .inr (.inl (Int64.ofInt a))
  | .inr (.inr none) => .inr (.inr none)
  | .inr (.inr (some k)) => .inr (.inr (some (cK k)))
def cO : Option U → Option V
  | none => none
  | some v => some (cU v)
def cL (ls : List (Option U)) : List (Option V) := ls.map cO
def cT (st : List U) : List V := st.map cU
def cM (M : NM) : Mem := fun K j i s => Int32.ofInt (M K (Int.ofNat j) (Int.ofNat i) (Int.ofNat s))
def cX (X : XI) : SX := (X.1.toNat, fun k => Int32.ofInt (X.2 (Int.ofNat k)))
def cS (s : SI) : St := (s.1, cL s.2.1, cT s.2.2.1, cM s.2.2.2)
def cR : RI → Res
  | .inl s => .inl (cS s)
  | .inr (.inl q) => .inr (.inl (q.1, cT q.2.1, cT q.2.2))
  | .inr (.inr r) => .inr (.inr (cO r))
def okU : U → Prop
  | .inl a => i32 a
  | .inr (.inl a) => i64 a
  | .inr (.inr none) => True
  | .inr (.inr (some k)) => 0 ≤ k.2.1 ∧ 0 ≤ k.2.2
def okO : Option U → Prop
  | none => True
  | some v => okU v
def okL (ls : List (Option U)) : Prop := ∀ v ∈ ls, okO v
def okT (st : List U) : Prop := ∀ v ∈ st, okU v
def okM (M : NM) : Prop := ∀ K j i s, i32 (M K j i s)
def okX (X : XI) : Prop := 0 ≤ X.1 ∧ X.1 < 2147483648 ∧ ∀ k, i32 (X.2 k)
def okS (s : SI) : Prop := okL s.2.1 ∧ okT s.2.2.1 ∧ okM s.2.2.2
def okR (M : NM) : RI → Prop
  | .inl s => okS s
  | .inr (.inl q) => okT q.2.1 ∧ okT q.2.2
  | .inr (.inr r) => okO r
def gP : Option Prop → Prop
  | none => True
  | some G => G
/-! numbers -/
theorem oi_eq {a b : Int} (ha : i32 a) (hb : i32 b) : Int32.ofInt a = Int32.ofInt b ↔ a = b := by
  constructor
  · intro h
    have := congrArg Int32.toInt h
    rwa [ofInt_toInt ha.1 ha.2, ofInt_toInt hb.1 hb.2] at this
  · rintro rfl; rfl
theorem oi_lt {a b : Int} (ha : i32 a) (hb : i32 b) : Int32.ofInt a < Int32.ofInt b ↔ a < b := by
  rw [Int32.lt_iff_toInt_lt, ofInt_toInt ha.1 ha.2, ofInt_toInt hb.1 hb.2]
theorem i32_0 : i32 0 := by decide
theorem i32_toInt (a : Int32) : i32 a.toInt := by
  have h1 := Int32.le_toInt a
  have h2 := Int32.toInt_lt a
  exact ⟨h1, h2⟩
theorem i64_toInt (a : Int64) : i64 a.toInt := by
  have h1 := Int64.le_toInt a
  have h2 := Int64.toInt_lt a
  exact ⟨h1, h2⟩
theorem oj_toInt {a : Int} (h : i64 a) : (Int64.ofInt a).toInt = a := by
  rw [Int64.toInt_ofInt]
  show Int.bmod a 18446744073709551616 = a
  obtain ⟨h1, h2⟩ := h
  unfold Int.bmod
  simp only
  split <;> omega
theorem oi_clamp {a : Int} (h : i32 a) : (Int32.ofInt a).toNatClampNeg = a.toNat := by
  show (Int32.ofInt a).toInt.toNat = _
  rw [ofInt_toInt h.1 h.2]
theorem oi_div {a b : Int} (ha : i32 a) (hb : i32 b) (h0 : 0 ≤ a) (h1 : 0 < b) : Int32.ofInt a / Int32.ofInt b = Int32.ofInt (a / b) := by
  apply Int32.toInt_inj.mp
  have h2 : 0 ≤ a / b := Int.ediv_nonneg h0 (Int.le_of_lt h1)
  have h3 : a / b ≤ a := Int.ediv_le_self b h0
  rw [Int32.toInt_div, ofInt_toInt ha.1 ha.2, ofInt_toInt hb.1 hb.2, ofInt_toInt (by omega) (by omega), Int.tdiv_eq_ediv_of_nonneg h0]
  show Int.bmod (a / b) 4294967296 = a / b
  have := ha.2
  unfold Int.bmod
  simp only
  split <;> omega
theorem div_i32 {a b : Int} (ha : i32 a) (h0 : 0 ≤ a) (h1 : 0 < b) : i32 (a / b) := by
  have h2 : 0 ≤ a / b := Int.ediv_nonneg h0 (Int.le_of_lt h1)
  have h3 : a / b ≤ a := Int.ediv_le_self b h0
  obtain ⟨_, _⟩ := ha
  constructor <;> omega
theorem mod_i32 {a b : Int} (hb : i32 b) (h1 : 0 < b) : i32 (a % b) := by
  have h2 : 0 ≤ a % b := Int.emod_nonneg _ (by omega)
  have h3 : a % b < b := Int.emod_lt_of_pos _ h1
  obtain ⟨_, _⟩ := hb
  constructor <;> omega
theorem oi_nat {a : Int} (h : 0 ≤ a) : Int32.ofInt a = nI a.toNat := by
  obtain ⟨n, rfl⟩ := Int.eq_ofNat_of_zero_le h
  rw [Int.toNat_natCast]
  rfl
theorem oi_char {a : Int} (h : 0 ≤ a) (h2 : a < 65536) : ((Int32.ofInt a).toUInt32 % 65536).toInt32 = Int32.ofInt a := by
  rw [pk_char, oi_nat h]
  congr 1
  have h3 : (nI a.toNat).toBitVec.toNat = a.toNat % 4294967296 := by
    show (BitVec.ofNat 32 a.toNat).toNat = _
    rw [BitVec.toNat_ofNat]
  rw [h3]
  omega
theorem fb_char {n : Nat} (h : n < 65536) : (nI n).toUInt32.toUInt16.toUInt32.toInt32 = nI n := by
  apply Int32.toBitVec_inj.1
  apply BitVec.eq_of_toNat_eq
  have e1 : (nI n).toBitVec.toNat = n := by
    show (BitVec.ofNat 32 n).toNat = n
    rw [BitVec.toNat_ofNat, Nat.mod_eq_of_lt (by omega)]
  have e2 : ((nI n).toUInt32.toUInt16.toUInt32).toNat = n := by
    rw [UInt16.toNat_toUInt32, UInt32.toNat_toUInt16]
    show (nI n).toBitVec.toNat % 2 ^ 16 = n
    rw [e1, Nat.mod_eq_of_lt (by omega)]
  rw [e1]
  exact e2
theorem oi_nar {a : Int} (h : 0 ≤ a) (h2 : a < 65536) : vp_nar .char (Int32.ofInt a) = Int32.ofInt a := by
  rw [vp_nar_char, oi_nat h, fb_char (by omega)]
theorem oi_bz {a : Int} (ha : i32 a) (c : Jvm.ClassFile.Cond) (t f : Nat) : brZ c (Int32.ofInt a) t f = bzI c a t f := by
  have e1 : (Int32.ofInt a = 0) = (a = 0) := propext (oi_eq ha i32_0)
  have e2 : (Int32.ofInt a < 0) = (a < 0) := propext (oi_lt ha i32_0)
  have e3 : (0 < Int32.ofInt a) = (0 < a) := propext (oi_lt i32_0 ha)
  cases c <;> simp only [brZ, bzI, e1, e2, e3]
theorem oi_b2 {a b : Int} (ha : i32 a) (hb : i32 b) (c : Jvm.ClassFile.Cond) (t f : Nat) : br2 c (Int32.ofInt a) (Int32.ofInt b) t f = b2I c a b t f := by
  have e1 : (Int32.ofInt a = Int32.ofInt b) = (a = b) := propext (oi_eq ha hb)
  have e2 : (Int32.ofInt a < Int32.ofInt b) = (a < b) := propext (oi_lt ha hb)
  have e3 : (Int32.ofInt b < Int32.ofInt a) = (b < a) := propext (oi_lt hb ha)
  cases c <;> simp only [br2, b2I, e1, e2, e3]
theorem oi_sw {a : Int} (ha : i32 a) : ∀ (l : List Nat) (lo : Int) (d : Nat), -2147483648 ≤ lo → lo + l.length ≤ 2147483648 → swN (Int32.ofInt a) lo l d = swI a lo l d := by
  intro l
  induction l with
  | nil => intro lo d _ _; rfl
  | cons t l ih =>
    intro lo d h1 h2
    rw [List.length_cons] at h2
    have e1 : (Int32.ofInt a = Int32.ofInt lo) = (a = lo) := propext (oi_eq ha ⟨h1, by omega⟩)
    simp only [swN, swI, e1]
    rw [ih (lo + 1) d (by omega) (by omega)]
theorem oi_lcm {a b : Int} (ha : i64 a) (hb : i64 b) : lcm (Int64.ofInt a) (Int64.ofInt b) = Int32.ofInt (lcmI a b) := by
  have e1 : (Int64.ofInt a > Int64.ofInt b) = (b < a) := propext (by rw [gt_iff_lt, Int64.lt_iff_toInt_lt, oj_toInt ha, oj_toInt hb])
  have e2 : (Int64.ofInt a = Int64.ofInt b) = (a = b) := propext ⟨fun h => by
    have := congrArg Int64.toInt h
    rwa [oj_toInt ha, oj_toInt hb] at this, fun h => by rw [h]⟩
  unfold lcm lg_cmp lcmI
  simp only [e1, e2]
  split
  · rfl
  · split <;> rfl
theorem lcmI_32 (a b : Int) : i32 (lcmI a b) := by
  unfold lcmI
  split
  · decide
  · split <;> decide
/-! lists -/
theorem nth_cL (ls : List (Option U)) (i : Nat) : nth (cL ls) i = (nth ls i).map cO := by
  rw [nth_get, nth_get, cL, List.getElem?_map]
theorem getL_c (ls : List (Option U)) (i : Nat) : getL (cL ls) i = cO (getU ls i) := by
  unfold getL getU
  rw [nth_cL]
  cases nth ls i with
  | none => rfl
  | some v => cases v <;> rfl
theorem setL_c : ∀ (ls : List (Option U)) (i : Nat) (v : Option U), setL (cL ls) i (cO v) = cL (setU ls i v) := by
  intro ls
  induction ls with
  | nil => intro i v; rfl
  | cons a l ih =>
    intro i v
    cases i with
    | zero => rfl
    | succ i =>
      show cO a :: setL (cL l) i (cO v) = cO a :: cL (setU l i v)
      rw [ih]
theorem lng_c : ∀ v : Option U, isLong (cO v) = lngU v
  | none => rfl
  | some (.inl _) => rfl
  | some (.inr (.inl _)) => rfl
  | some (.inr (.inr none)) => rfl
  | some (.inr (.inr (some _))) => rfl
theorem kil_c (ls : List (Option U)) (i : Nat) : kilL (cL ls) i = cL (kilU ls i) := by
  cases i with
  | zero => rfl
  | succ n =>
    rw [kilL_succ, show kilU ls (n + 1) = bif lngU ((nth ls n).getD none) then setU ls n none else ls from rfl]
    have e : (nth (cL ls) n).getD none = cO ((nth ls n).getD none) := by
      rw [nth_cL]
      cases nth ls n <;> rfl
    rw [e, lng_c]
    cases lngU ((nth ls n).getD none) with
    | true => exact setL_c ls n none
    | false => rfl
theorem st1_c (g : Bool) (ls : List (Option U)) (i : Nat) (v : U) : st1 g (cL ls) i (cU v) = cL (s1U g ls i v) := by
  unfold st1 s1U
  cases g with
  | true => rw [cond_true, cond_true, kil_c]; exact setL_c _ i (some v)
  | false => exact setL_c _ i (some v)
theorem st2_c (ls : List (Option U)) (i : Nat) (v : U) : st2 (cL ls) i (cU v) = cL (s2U ls i v) := by
  unfold st2 s2U
  rw [kil_c, show (none : Option V) = cO none from rfl, setL_c]
  exact setL_c _ i (some v)
theorem pop_c : ∀ (n : Nat) (st : List U), popN n (cT st) = (popU n st).map (fun q => (cT q.1, cT q.2)) := by
  intro n
  induction n with
  | zero => intro st; rfl
  | succ n ih =>
    intro st
    cases st with
    | nil => rfl
    | cons v st =>
      show (match popN n (cT st) with | some q => some (q.1 ++ [cU v], q.2) | none => none) = _
      rw [ih, popU]
      cases popU n st with
      | none => rfl
      | some q => simp [cT]
theorem cat_c : ∀ st : List U, catS (cT st) = catU st := by
  intro st
  induction st with
  | nil => rfl
  | cons v st ih =>
    match v with
    | .inl a => show 1 + catS (cT st) = 1 + catU st; rw [ih]
    | .inr (.inl a) => show 2 + catS (cT st) = 2 + catU st; rw [ih]
    | .inr (.inr none) => show 1 + catS (cT st) = 1 + catU st; rw [ih]
    | .inr (.inr (some k)) => show 1 + catS (cT st) = 1 + catU st; rw [ih]
theorem arg_c : ∀ as : List U, argS (cT as) = cL (argU as) := by
  intro as
  induction as with
  | nil => rfl
  | cons v as ih =>
    match v with
    | .inl a => show some _ :: argS (cT as) = some _ :: cL (argU as); rw [ih]
    | .inr (.inl a) => show some _ :: none :: argS (cT as) = some _ :: none :: cL (argU as); rw [ih]; rfl
    | .inr (.inr none) => show some _ :: argS (cT as) = some _ :: cL (argU as); rw [ih]; rfl
    | .inr (.inr (some k)) => show some _ :: argS (cT as) = some _ :: cL (argU as); rw [ih]; rfl
theorem pad_c : ∀ (n : Nat) (l : List (Option U)), padL n (cL l) = cL (padU n l) := by
  intro n
  induction n with
  | zero => intro l; rfl
  | succ n ih =>
    intro l
    cases l with
    | nil => show none :: padL n (cL []) = none :: cL (padU n []); rw [ih]
    | cons a l => show cO a :: padL n (cL l) = cO a :: cL (padU n l); rw [ih]
theorem init_c (n : Nat) (as : List U) : initL n (cT as) = cL (initU n as) := by
  unfold initL initU
  rw [arg_c, pad_c]
theorem push_c (r : Option U) (st : List U) : pushR (cO r) (cT st) = cT (pushU r st) := by
  cases r <;> rfl
theorem len_c (ls : List (Option U)) : (cL ls).length = ls.length := List.length_map _
theorem lenT_c (ls : List U) : (cT ls).length = ls.length := List.length_map _
/-! ok -/
theorem okL_get {ls : List (Option U)} {i : Nat} {v : U} (h : okL ls) (hv : getU ls i = some v) : okU v := by
  unfold getU at hv
  split at hv
  · next w hw =>
    cases hv
    rw [nth_get] at hw
    exact h _ (List.mem_of_getElem? hw)
  · cases hv
theorem okL_set : ∀ {ls : List (Option U)} {i : Nat} {v : Option U}, okL ls → okO v → okL (setU ls i v) := by
  intro ls
  induction ls with
  | nil => intro i v h hv; exact h
  | cons a l ih =>
    intro i v h hv
    cases i with
    | zero =>
      intro w hw
      rcases List.mem_cons.mp hw with rfl | hw
      · exact hv
      · exact h _ (List.mem_cons_of_mem _ hw)
    | succ i =>
      intro w hw
      rcases List.mem_cons.mp hw with rfl | hw
      · exact h _ List.mem_cons_self
      · exact ih (fun w hw => h _ (List.mem_cons_of_mem _ hw)) hv w hw
theorem okL_kil {ls : List (Option U)} {i : Nat} (h : okL ls) : okL (kilU ls i) := by
  cases i with
  | zero => exact h
  | succ n =>
    rw [show kilU ls (n + 1) = bif lngU ((nth ls n).getD none) then setU ls n none else ls from rfl]
    cases lngU ((nth ls n).getD none) with
    | true => exact okL_set h (show okO none from True.intro)
    | false => exact h
theorem okL_s1 {g : Bool} {ls : List (Option U)} {i : Nat} {v : U} (h : okL ls) (hv : okU v) : okL (s1U g ls i v) := by
  unfold s1U
  cases g with
  | true => exact okL_set (okL_kil h) hv
  | false => exact okL_set h hv
theorem okL_s2 {ls : List (Option U)} {i : Nat} {v : U} (h : okL ls) (hv : okU v) : okL (s2U ls i v) := okL_set (okL_set (okL_kil h) (show okO none from True.intro)) hv
theorem okT_cons {v : U} {st : List U} (hv : okU v) (h : okT st) : okT (v :: st) := fun w hw => by
  rcases List.mem_cons.mp hw with rfl | hw
  · exact hv
  · exact h w hw
theorem okT_hd {v : U} {st : List U} (h : okT (v :: st)) : okU v := h v List.mem_cons_self
theorem okT_tl {v : U} {st : List U} (h : okT (v :: st)) : okT st := fun w hw => h w (List.mem_cons_of_mem _ hw)
theorem okM_wri {M : NM} {K : Nat} {j i s v : Int} (h : okM M) (hv : i32 v) : okM (wri M K j i s v) := by
  intro K' j' i' s'
  unfold wri
  split
  · exact hv
  · exact h _ _ _ _
theorem okM_cpi {M : NM} {K K2 : Nat} {j i j2 i2 sp dp n : Int} (h : okM M) : okM (cpi M K j i K2 j2 i2 sp dp n) := by
  intro K' j' i' s'
  unfold cpi
  split
  · exact h _ _ _ _
  · exact h _ _ _ _
theorem ofNat_iff {a : Int} (h : 0 ≤ a) (n : Nat) : (Int.ofNat n = a) = (n = a.toNat) := propext ⟨fun q => by rw [← q]; rfl, fun q => by rw [q]; exact Int.toNat_of_nonneg h⟩
theorem cM_wri {M : NM} {K : Nat} {j i s v : Int} (hj : 0 ≤ j) (hi : 0 ≤ i) (hs : 0 ≤ s) : cM (wri M K j i s v) = wr (cM M) K j.toNat i.toNat s.toNat (Int32.ofInt v) := by
  funext K' j' i' s'
  simp only [cM, wri, wr, ofNat_iff hj, ofNat_iff hi, ofNat_iff hs]
  split <;> rfl
theorem cM_cpi {M : NM} {K K2 : Nat} {j i j2 i2 sp dp n : Int} (hj : 0 ≤ j) (hi : 0 ≤ i) (hj2 : 0 ≤ j2) (hi2 : 0 ≤ i2) (hs : 0 ≤ sp) (hd : 0 ≤ dp) (hn : 0 ≤ n) : cM (cpi M K j i K2 j2 i2 sp dp n) = cpA (cM M) K j.toNat i.toNat K2 j2.toNat i2.toNat sp.toNat dp.toNat n.toNat := by
  funext K' j' i' s'
  have e : (dp ≤ Int.ofNat s' ∧ Int.ofNat s' < dp + n) = (dp.toNat ≤ s' ∧ s' < dp.toNat + n.toNat) := propext (by
    have : Int.ofNat s' = (s' : Int) := rfl
    rw [this]; omega)
  simp only [cM, cpi, cpA, ofNat_iff hj2, ofNat_iff hi2, e]
  split
  · next q =>
    have h1 : Int.ofNat j.toNat = j := Int.toNat_of_nonneg hj
    have h2 : Int.ofNat i.toNat = i := Int.toNat_of_nonneg hi
    have h3 : Int.ofNat (sp.toNat + (s' - dp.toNat)) = sp + (Int.ofNat s' - dp) := by
      have a1 : Int.ofNat s' = (s' : Int) := rfl
      have a2 : Int.ofNat (sp.toNat + (s' - dp.toNat)) = ((sp.toNat + (s' - dp.toNat) : Nat) : Int) := rfl
      rw [a1, a2]; omega
    rw [h1, h2, h3]
  · rfl
theorem cM_rd {M : NM} {K : Nat} {j i s : Int} (hj : 0 ≤ j) (hi : 0 ≤ i) (hs : 0 ≤ s) : cM M K j.toNat i.toNat s.toNat = Int32.ofInt (M K j i s) := by
  have h1 : Int.ofNat j.toNat = j := Int.toNat_of_nonneg hj
  have h2 : Int.ofNat i.toNat = i := Int.toNat_of_nonneg hi
  have h3 : Int.ofNat s.toNat = s := Int.toNat_of_nonneg hs
  show Int32.ofInt (M K (Int.ofNat j.toNat) (Int.ofNat i.toNat) (Int.ofNat s.toNat)) = _
  rw [h1, h2, h3]
theorem cM_rdf {M : NM} {K s : Nat} {j i : Int} (hj : 0 ≤ j) (hi : 0 ≤ i) : cM M K j.toNat i.toNat s = Int32.ofInt (M K j i (Int.ofNat s)) := by
  have h1 : Int.ofNat j.toNat = j := Int.toNat_of_nonneg hj
  have h2 : Int.ofNat i.toNat = i := Int.toNat_of_nonneg hi
  show Int32.ofInt (M K (Int.ofNat j.toNat) (Int.ofNat i.toNat) (Int.ofNat s)) = _
  rw [h1, h2]
theorem sh_c (K s : Nat) (j : Int) (i : Int) : shp K s j.toNat = (shI K s j).map cK ∧ (0 ≤ j → ∀ k ∈ shI K s j, okU (.inr (.inr (some k)))) := by
  unfold shp shI
  split
  all_goals first
    | exact ⟨rfl, fun h k hk => by cases hk; first | exact ⟨h, Int.le_refl _⟩ | exact ⟨Int.le_refl _, Int.le_refl _⟩ | (constructor <;> decide)⟩
    | (split <;> first | exact ⟨rfl, fun h k hk => by cases hk⟩ | simp_all)
theorem al_c (X : XI) (K : Nat) : aln (cX X) K = (alI X K).map (fun q => (q.1.toNat, q.2)) := by
  unfold aln alI
  split <;> first | rfl | (split <;> first | rfl | simp_all)
theorem al_nn {X : XI} (hX : okX X) {K : Nat} {N : Int} {b : Bool} (h : alI X K = some (N, b)) : 0 ≤ N := by
  unfold alI at h
  split at h <;> first | (cases h; decide) | (cases h; exact hX.1) | cases h
theorem rl_c (K : Nat) : rln K = (rlI K).map Int.toNat := by
  unfold rln rlI
  split <;> first | rfl | (split <;> first | rfl | simp_all)
theorem ae_c {K : Nat} {j n : Int} (hn : 0 ≤ n) : ael K j.toNat n.toNat = cK (aeI K j n) := by
  unfold ael aeI
  split <;> first | rfl | (simp only [cK, Prod.mk.injEq, true_and]; constructor <;> omega) | (split <;> first | rfl | (simp only [cK, Prod.mk.injEq, true_and]; constructor <;> omega) | simp_all)
theorem ae_ok {K : Nat} {j n : Int} (hj : 0 ≤ j) (hn : 0 ≤ n) : okU (.inr (.inr (some (aeI K j n)))) := by
  unfold aeI
  split <;> (simp only [okU]; constructor <;> omega)
theorem ar_c {X : XI} {M : NM} {K : Nat} {j i v : Int} (hj : 0 ≤ j) (hi : 0 ≤ i) (hv : 0 ≤ v) : ard (cX X) (cM M) K j.toNat i.toNat v.toNat = Int32.ofInt (arI X M K j i v) := by
  by_cases h : K = 30
  · subst h
    show Int32.ofInt (X.2 (Int.ofNat v.toNat)) = Int32.ofInt (X.2 v)
    rw [show Int.ofNat v.toNat = v from Int.toNat_of_nonneg hv]
  · have e1 : ard (cX X) (cM M) K j.toNat i.toNat v.toNat = cM M K j.toNat i.toNat v.toNat := by
      unfold ard; split <;> first | exact absurd rfl h | rfl
    have e2 : arI X M K j i v = M K j i v := by
      unfold arI; split <;> first | exact absurd rfl h | rfl
    rw [e1, e2]
    exact cM_rd hj hi hv
theorem ar_ok {X : XI} {M : NM} {K : Nat} {j i v : Int} (hX : okX X) (hM : okM M) : i32 (arI X M K j i v) := by
  unfold arI
  split
  · exact hX.2.2 _
  · exact hM _ _ _ _
theorem inb_c {v N : Int} (hv : i32 v) (h0 : 0 ≤ v) (h1 : v < N) : inb (Int32.ofInt v) N.toNat = true := by
  have e2 : ¬ Int32.ofInt v < 0 := by rw [show (0 : Int32) = Int32.ofInt 0 from rfl, oi_lt hv i32_0]; omega
  unfold inb
  rw [oi_clamp hv, decide_eq_false e2, decide_eq_true (by omega : v.toNat < N.toNat)]; rfl
theorem isb_c {v : Int} (h : v = 0 ∨ v = 1) : isb (Int32.ofInt v) = true := by
  rcases h with rfl | rfl <;> rfl
theorem ktab : ∀ a b, (∀ v, fnd2 KTabI a b = some v → ∃ w k, fnd2 KTab a b = some (w, k) ∧ w = Int32.ofInt v ∧ i32 v) := by
  intro a b v h
  have key : ∀ q ∈ KTabI, ∃ w k, fnd2 KTab q.1.1 q.1.2 = some (w, k) ∧ w = Int32.ofInt q.2 ∧ i32 q.2 := by
    intro q hq
    simp only [KTabI, List.mem_cons, List.not_mem_nil, or_false] at hq
    rcases hq with rfl | rfl | rfl | rfl | rfl <;> exact ⟨_, _, rfl, rfl, by decide⟩
  exact key _ (fnd2_mem _ _ _ _ h)
theorem jtab : ∀ a b, (∀ v, fnd2 JTabI a b = some v → ∃ w k, fnd2 JTab a b = some (w, k) ∧ w = Int64.ofInt v ∧ i64 v) := by
  intro a b v h
  cases fnd2_mem _ _ _ _ h