/-! 06: soundness of one instruction -/
def strN (k : Nat) : String := (nth [] k).getD ""
def strL : List Nat := strT.map List.length
def strB : List (List Int32) := strT.map (fun s => s.map nI)
/-- what stands in the old heap: the String constants, two statics -/
def SS (_ : Key → Nat) (_ : State) (_ : Heap) : Prop := True
def Cx (D : va_G) (dA : Nat → ClassId) (ad : Key → Nat) (X : SX) (U : State) : Prop := va_K D vwCl (tysA dA) U ∧ va_X (ad (30, 0, 0)) X.1 X.2 U U.heap ∧ ad (30, 0, 0) < U.heap.size ∧ ¬ AA ad (ad (30, 0, 0)) ∧ SS ad U U.heap
theorem SS_to {ad : Key → Nat} {s U : State} {H : Heap} (_ : SS ad s s.heap) (_ : ∀ a : Nat, a < s.heap.size → ¬ AA ad a → H[a]? = s.heap[a]?) (_ : s.WarmedH U.vm) : SS ad U H := trivial
theorem Cx_to {D : va_G} {dA : Nat → ClassId} {ad : Key → Nat} {X : SX} {s U : State} {H : Heap} {locs : List Loc} (h : Cx D dA ad X s) (hS : va_S (AA ad) s.heap H locs) (hU : U.heap = H) (hW : s.WarmedH U.vm) : Cx D dA ad X U := by
  obtain ⟨h1, h2, h3, h4, h5⟩ := h
  subst hU
  exact ⟨va_K.moved hW.alike h1, va_X.moved hW.alike (h2.kept (hS.2.1 _ h3 h4)), Nat.lt_of_lt_of_le h3 hS.1, h4, SS_to h5 hS.2.1 hW⟩
def lenI : Instr → Nat
  | .newarray _ | .bipush _ | .ldc _ | .iload _ | .lload _ | .aload _ | .istore _ | .astore _ => 2
  | .new _ | .anewarray _ | .invokespecial _ | .sipush _ | .goto _ | .ifCond _ _ | .if_icmp _ _ | .ifnull _ | .ifnonnull _ | .getfield _ | .putfield _ | .invokevirtual _ | .invokestatic _ | .ldc_w _ | .ldc2_w _ | .iinc _ _ => 3
  | .tableswitch _ _ _ _ => 0
  | _ => 1
def lenOK (I : Instr) (n : Nat) : Bool := Nat.beq (lenI I) 0 || Nat.beq (lenI I) n
theorem lenOK_eq {I : Instr} {n : Nat} (h : lenOK I n = true) (h0 : lenI I ≠ 0) : n = lenI I := by
  simp only [lenOK, Bool.or_eq_true, Nat.beq_eq] at h
  rcases h with h | h
  · exact absurd h h0
  · exact h.symm
theorem gd_some {α : Type} {b : Bool} {y : Option α} {r : α} (h : gd b y = some r) : b = true ∧ y = some r := by
  cases b with
  | true => exact ⟨rfl, h⟩
  | false => cases h
theorem nx_some {pc : Nat} {ls : List (Option V)} {st : List V} {M : Mem} {s' : St} (h : nx pc ls st M = some (.inl s')) : s' = (pc, ls, st, M) := by
  cases h; rfl
theorem tg_spec {pc t : Nat} {off : Int} (h : tg pc off = some t) : (pc : Int) + off = (t : Int) := by
  unfold tg at h
  split at h
  · next q => cases h; exact q
  · cases h
theorem inb_spec {i : Int32} {n : Nat} (h : inb i n = true) : vp_in i n := by
  simp only [inb, Bool.and_eq_true, Bool.not_eq_true', decide_eq_false_iff_not, decide_eq_true_eq] at h
  rintro (q | q)
  · exact h.1 q
  · omega
theorem isb_spec {v : Int32} (h : isb v = true) : v = 0 ∨ v = 1 := by
  simpa only [isb, Bool.or_eq_true, decide_eq_true_eq] using h
theorem shp_j (K s j : Nat) (h : shp K s j = none) : shp K s 0 = none := by
  unfold shp at h ⊢
  split at h <;> first | (cases h; done) | rfl | (split <;> simp_all)
theorem fds_len (ad : Key → Nat) (K j i : Nat) (M : Mem) : (fdsOf ad K j i M).length = clN K := by simp [fdsOf]
theorem fds_at {ad : Key → Nat} {K j i s : Nat} {M : Mem} (h : s < clN K) : (fdsOf ad K j i M)[s]? = some (match shp K s j with
  | some k => Value.ref (ad k)
  | none => .int (M K j i s)) := by
  rw [fdsOf, List.getElem?_map, List.getElem?_range h]; rfl
theorem fds_set {ad : Key → Nat} {K j i s : Nat} {M : Mem} {v : Int32} (h : s < clN K) (hs : shp K s j = none) : fdsOf ad K j i (wr M K j i s v) = (fdsOf ad K j i M).set s (.int v) := by
  apply List.ext_getElem?
  intro n
  rcases Nat.lt_or_ge n (clN K) with hn | hn
  · rw [fds_at hn]
    by_cases e : n = s
    · subst e
      rw [List.getElem?_set_self (by rw [fds_len]; exact hn), hs]
      simp [wr]
    · rw [List.getElem?_set_ne (Ne.symm e), fds_at hn]
      split
      · rfl
      · simp [wr, e]
  · rw [List.getElem?_eq_none (by rw [fds_len]; exact hn), List.getElem?_eq_none (by rw [List.length_set, fds_len]; exact hn)]
theorem ent_o {dA : Nat → ClassId} {ad : Key → Nat} {M : Mem} {K j i : Nat} (h : K < NC) : ent dA ad M (K, j, i) = .inr (K, fdsOf ad K j i M) := if_pos h
theorem aln_NC : ∀ K, K < NC → aln X0 K = none ∧ rln K = none := by decide +kernel
theorem aln_X {X : SX} {K : Nat} (h : K ≠ 30) : aln X K = aln X0 K := by
  unfold aln
  split <;> first | rfl | exact absurd rfl h | skip
theorem ent_a {dA : Nat → ClassId} {ad : Key → Nat} {M : Mem} {K j i N : Nat} {c : Bool} (h : aln X0 K = some (N, c)) : ent dA ad M (K, j, i) = .inl (dA (if c = true then 1 else 0), N, .inl (M K j i)) := by
  have hK : ¬ K < NC := fun q => by rw [(aln_NC K q).1] at h; cases h
  unfold ent
  rw [if_neg hK]
  simp only [h]
theorem rln_K {K N : Nat} (h : rln K = some N) : (K = 9 ∨ K = 10 ∨ K = 11 ∨ K = 12) := by
  unfold rln at h
  split at h <;> simp_all
theorem ent_r {dA : Nat → ClassId} {ad : Key → Nat} {M : Mem} {K j i N : Nat} (h : rln K = some N) : ent dA ad M (K, j, i) = .inl (dA (K - 7), N, .inr (.inr (.inr (.inr (fun n => some (ad (ael K j n))))))) := by
  unfold ent
  rcases rln_K h with rfl | rfl | rfl | rfl <;> (cases h; rfl)
theorem tys_r {dA : Nat → ClassId} {K N : Nat} (h : rln K = some N) : ∃ C, (tysA dA)[K - 7]? = some (dA (K - 7), .object C) := by
  rcases rln_K h with rfl | rfl | rfl | rfl <;> exact ⟨_, rfl⟩
theorem ent_wr {dA : Nat → ClassId} {ad : Key → Nat} {M : Mem} {K j i s N : Nat} {c : Bool} {v : Int32} (h : aln X0 K = some (N, c)) : ent dA ad (wr M K j i s v) (K, j, i) = .inl (dA (if c = true then 1 else 0), N, .inl (upd (M K j i) s v)) := by
  rw [ent_a h]
  congr 3
  congr 1
  funext q
  by_cases e : q = s
  · subst e; simp [wr, upd]
  · simp [wr, upd, e]
theorem ent_cp_o {dA : Nat → ClassId} {ad : Key → Nat} {M : Mem} {K j i sp dp n : Nat} {k2 k' : Key} (h : k' ≠ k2) : ent dA ad (cpA M K j i k2.1 k2.2.1 k2.2.2 sp dp n) k' = ent dA ad M k' := by
  obtain ⟨K2, j2, i2⟩ := k2
  obtain ⟨K', j', i'⟩ := k'
  have key : ∀ q, cpA M K j i K2 j2 i2 sp dp n K' j' i' q = M K' j' i' q := by
    intro q
    unfold cpA
    rw [if_neg]
    rintro ⟨rfl, rfl, rfl, -⟩
    exact h rfl
  unfold ent
  simp only
  split
  · have e : fdsOf ad K' j' i' (cpA M K j i K2 j2 i2 sp dp n) = fdsOf ad K' j' i' M := by
      unfold fdsOf
      refine List.map_congr_left fun q _ => ?_
      split
      · rfl
      · rw [key]
    rw [e]
  · split
    · congr 3
      congr 1
      funext q
      exact key q
    · rfl
theorem ent_cp {dA : Nat → ClassId} {ad : Key → Nat} {M : Mem} {K j i K2 j2 i2 sp dp n N : Nat} {c : Bool} (h : aln X0 K2 = some (N, c)) : ent dA ad (cpA M K j i K2 j2 i2 sp dp n) (K2, j2, i2) = .inl (dA (if c = true then 1 else 0), N, .inl (va_cpy (M K j i) (M K2 j2 i2) sp dp n)) := by
  rw [ent_a h]
  congr 3
  congr 1
  funext q
  unfold va_cpy cpA
  by_cases e : dp ≤ q ∧ q < dp + n
  · simp [e]
  · rw [if_neg e, if_neg]
    rintro ⟨-, -, -, q2⟩
    exact e q2
theorem tgs_len {pc : Nat} : ∀ {os : List Int} {l : List Nat}, tgs pc os = some l → l.length = os.length := by
  intro os
  induction os with
  | nil => intro l h; cases h; rfl
  | cons o os ih =>
    intro l h
    rw [tgs] at h
    split at h
    · next t r h1 h2 => cases h; simp [ih h2]
    · cases h
theorem ofInt_toInt {lo : Int} (h1 : -2147483648 ≤ lo) (h2 : lo < 2147483648) : (Int32.ofInt lo).toInt = lo := by
  rw [Int32.toInt_ofInt]
  show Int.bmod lo 4294967296 = lo
  unfold Int.bmod
  simp only
  split <;> omega
theorem swN_in {pc d : Nat} {a : Int32} : ∀ (os : List Int) (l : List Nat) (lo : Int) (j : Nat) (off : Int), tgs pc os = some l → a.toInt = lo + j → os[j]? = some off → -2147483648 ≤ lo → lo + os.length ≤ 2147483648 → (pc : Int) + off = (swN a lo l d : Int) := by
  intro os
  induction os with
  | nil => intro l lo j off _ _ h; simp at h
  | cons o os ih =>
    intro l lo j off h ha ho h1 h2
    rw [tgs] at h
    split at h
    · next t r q1 q2 =>
      cases h
      rw [List.length_cons] at h2
      cases j with
      | zero =>
        simp only [List.getElem?_cons_zero, Option.some.injEq] at ho
        subst ho
        have e : a = Int32.ofInt lo := by
          apply Int32.toInt_inj.mp
          rw [ofInt_toInt h1 (by omega), ha]; simp
        rw [swN, if_pos e]
        exact tg_spec q1
      | succ j =>
        have e : ¬ a = Int32.ofInt lo := by
          intro q
          rw [q, ofInt_toInt h1 (by omega)] at ha
          omega
        rw [swN, if_neg e]
        exact ih r (lo + 1) j off q2 (by omega) (by simpa using ho) (by omega) (by omega)
    · cases h
theorem swN_out {d : Nat} {a : Int32} : ∀ (l : List Nat) (lo : Int), -2147483648 ≤ lo → lo + l.length ≤ 2147483648 → (a.toInt < lo ∨ lo + l.length ≤ a.toInt) → swN a lo l d = d := by
  intro l
  induction l with
  | nil => intro lo _ _ _; rfl
  | cons t l ih =>
    intro lo h1 h2 h3
    rw [List.length_cons] at h2 h3
    have e : ¬ a = Int32.ofInt lo := by
      intro q
      rw [q, ofInt_toInt h1 (by omega)] at h3
      omega
    rw [swN, if_neg e]
    exact ih (lo + 1) (by omega) (by omega) (by omega)
section
variable {p : Program} {l : Launch} {env : Env} {R : Room} {s : State} {m : MethodId} {args : Array Value} {below : List Frame} {meth : Method} {c : Code} {cells slots : Nat} {Q : State → Prop} {D : va_G} {dA : Nat → ClassId} {ad : Key → Nat} {X : SX} {e : ME}
def HY (p : Program) (s : State) (m : MethodId) (args : Array Value) (c : Code) (D : va_G) (dA : Nat → ClassId) (ad : Key → Nat) (X : SX) (e : ME) : Prop :=
  p.tables.exec = Jvm.exec ∧ c.code = eB e ∧ c.maxLocals = eL e ∧ s.vm.findClass (ownS (eO e)) = some m.cls ∧ (∀ w ∈ gtbl, w.before args s = true) ∧ Cx D dA ad X s
def Gs (p : Program) (l : Launch) (env : Env) (R : Room) (s : State) (m : MethodId) (args : Array Value) (below : List Frame) (meth : Method) (c : Code) (cells slots : Nat) (Q : State → Prop) (D : va_G) (dA : Nat → ClassId) (ad : Key → Nat) (e : ME) (s1 : St) : Prop :=
  ∀ (H : Heap) (locs : List Loc) (als : Array Slot), LR ad (eG e) (eL e) s1.2.1 als → va_P D vwCl (WS dA ad s1.2.2.2) H → va_S (AA ad) s.heap H locs → W p l env R s m args below meth c H locs cells slots Q (F0 m s1.1 als (s1.2.2.1.map (cv ad)))
/-- the contracts of the JDK's String members, on the constants -/
def wsP (y : MethodName) (b : ByteArray) (n : Nat) (r : Option FieldType) : List Jvm.Cond := .code y b n r :: gtbl
def HLn (_ : Launch) (_ : Key → Nat) : Prop := True
def HCh (_ : Launch) (_ : Key → Nat) : Prop := True
theorem no_str {i : Nat} {sx : List Nat} (h : nth strT i = some sx) : False := by
  rw [nth_get] at h
  simp [strT] at h
theorem P_set {c0 : Nat} {k : Key} {x : va_E} {M M' : Mem} {H : Heap} (hc : AK[c0]? = some k) (hP : va_P D vwCl ((WS dA ad M).set c0 (ad k, x)) H) (hx : ent dA ad M' k = x) (ho : ∀ k', k' ≠ k → ent dA ad M' k' = ent dA ad M k') : va_P D vwCl (WS dA ad M') H := by
  rw [WS_set hc hx ho] at hP
  exact hP
theorem vst_cons {v : V} {st : List V} (h : vok v) (hs : vst st) : vst (v :: st) := fun w hw => by
  rcases List.mem_cons.mp hw with rfl | hw
  · exact h
  · exact hs w hw
theorem vst_tail {v : V} {st : List V} (h : vst (v :: st)) : vst st := fun w hw => h w (List.mem_cons_of_mem _ hw)
theorem vok_small {k : Key} (h : vok (.inr (.inr (some k)))) (hk : k.1 < 22) : k ∈ AK := by
  rcases h with h | h | h
  · exact h
  · rw [h] at hk; exact absurd hk (by decide)
  · have := h.1; omega
theorem ard_n {X : SX} {M : Mem} {K j i n : Nat} (h : K ≠ 30) : ard X M K j i n = M K j i n := by
  unfold ard
  split
  · exact absurd rfl h
  · rfl
theorem lt_str : ∀ q ∈ LTab, ∃ s, nth strT q.2 = some s := by
  intro q hq
  have h : ∀ q ∈ LTab, q.2 < strT.length := by decide +kernel
  exact ⟨_, by rw [nth_get]; exact List.getElem?_eq_getElem (h q hq)⟩
theorem cpOK_spec {sp n : Int32} {N : Nat} (h : cpOK sp n N = true) : ¬ sp < 0 ∧ ¬ n < 0 ∧ sp.toNatClampNeg + n.toNatClampNeg ≤ N := by
  simp only [cpOK, Bool.and_eq_true, Bool.not_eq_true', decide_eq_false_iff_not, decide_eq_true_eq] at h
  exact ⟨h.1.1, h.1.2, h.2⟩
/-- a call whose callee writes nothing: reading the old heap alone -/
theorem W_read {H : Heap} {locs : List Loc} {als : Array Slot} {pc : Nat} {st0 rest : List Value} {r : Option Value} {Qa : State → Outcome → State → Prop} (hr : va_Run p l env R s m args below meth c H locs cells slots 0 0 (F0 m pc als st0) rest Qa (fun _ => False)) (hS : va_S (AA ad) s.heap H locs)
    (hq : ∀ (st t : State) (v : Option Value), st.heap = H → Qa st (.returned v) t → v = r ∧ t.heap = st.heap)
    (kk : ∀ (locs1 : List Loc), va_S (AA ad) s.heap H locs1 → W p l env R s m args below meth c H locs1 cells slots Q (F0 m (pc + 3) als (r.toList ++ rest))) : W p l env R s m args below meth c H locs cells slots Q (F0 m pc als st0) := by
  intro T hT X
  obtain ⟨v, st₀, t, T', L, h0, X', hL, e1, e2, hqa, st⟩ := hr T hT X
  obtain ⟨rfl, hh⟩ := hq st₀ t v h0 hqa
  obtain ⟨t2, a1, b1⟩ := kk (locs ++ L) ⟨hS.1, hS.2.1, fun q hq => by
      rcases List.mem_append.mp hq with h | h
      · exact hS.2.2 q h
      · exact (hL q h).elim⟩ T' (by rw [e1, hh, h0]) X'
  exact ⟨t2, st t2 a1, b1⟩
theorem str_words : Cond.native Y_ac ∈ gtbl ∧ Cond.static Y_ac ∈ gtbl ∧ Cond.initialized "java/lang/System" ∈ gtbl :=
  ⟨mem_t (k := 383) (by decide +kernel), mem_t (k := 382) (by decide +kernel), mem_t (k := 9) (by decide +kernel)⟩
theorem good_code {y : MethodName} {b : ByteArray} {n : Nat} {r : Option FieldType} {own C : String} {ix : Nat} (h1 : Cond.methodLink own ix y ∈ gtbl) (h2 : Cond.instanceMethod y ∈ gtbl) (h3 : Cond.selects C y y ∈ gtbl) (h4 : Cond.initialized C ∈ gtbl) (h5 : Cond.code y b n r ∈ gtbl) : GoodIn gtbl (wsV own ix C y (wsP y b n r)) := by
  intro w hw
  unfold wsV wsP at hw
  rcases List.mem_append.mp hw with hw | hw
  · simp only [List.mem_cons, List.not_mem_nil, or_false] at hw
    rcases hw with rfl | rfl | rfl | rfl
    · exact ⟨h1, Or.inl (by rfl)⟩
    · exact ⟨h2, Or.inl (by rfl)⟩
    · exact ⟨h3, Or.inl (by rfl)⟩
    · exact ⟨h4, Or.inl (by rfl)⟩
  · rcases List.mem_cons.mp hw with rfl | hw
    · exact ⟨h5, Or.inl (by rfl)⟩
    · exact gtbl_good w hw
theorem good_codeS {y : MethodName} {b : ByteArray} {n : Nat} {r : Option FieldType} {own : String} {ix : Nat} (h1 : Cond.methodLink own ix y ∈ gtbl) (h2 : Cond.static y ∈ gtbl) (h4 : Cond.initialized y.cls ∈ gtbl) (h5 : Cond.code y b n r ∈ gtbl) : GoodIn gtbl (va_wsS own ix y (wsP y b n r)) := by
  intro w hw
  unfold va_wsS wsP at hw
  rcases List.mem_append.mp hw with hw | hw
  · simp only [List.mem_cons, List.not_mem_nil, or_false] at hw
    rcases hw with rfl | rfl | rfl
    · exact ⟨h1, Or.inl (by rfl)⟩
    · exact ⟨h2, Or.inl (by rfl)⟩
    · exact ⟨h4, Or.inl (by rfl)⟩
  · rcases List.mem_cons.mp hw with rfl | hw
    · exact ⟨h5, Or.inl (by rfl)⟩
    · exact gtbl_good w hw
/-- arraycopy, String.length, String.charAt -/
theorem prim_sound (hLn : HLn l ad) (hCh : HCh l ad) (hDD : ∀ M, va_D (AA ad) (WS dA ad M)) (hR : eF e ≤ R.frames ∧ eW e ≤ R.locals ∧ cells ≤ R.cells ∧ slots ≤ R.slots) {z ix pl pc : Nat} {virt : Bool} {ls : List (Option V)} {st : List V} {M : Mem} {s' : St} {I : Instr} (hd : decode (eB e) pc = .ok (I, 3)) (hI : I = if virt = true then .invokevirtual ix else .invokestatic ix) (hf : fnd2 CTab (eO e) ix = some (z, pl)) (h : doCall X e z virt pc ls st M = some (.inl s')) (hvl : vls ls) (hvs : vst st) :
    (vls s'.2.1 ∧ vst s'.2.2.1) ∧ (HY p s m args c D dA ad X e → Gs p l env R s m args below meth c cells slots Q D dA ad e s' → Gs p l env R s m args below meth c cells slots Q D dA ad e (pc, ls, st, M)) := by
  have hmem := fnd2_mem _ _ _ _ hf
  unfold doCall at h
  cases h0 : Nat.beq z 1000 with
  | true =>
    obtain rfl := Nat.eq_of_beq_eq_true h0
    rw [h0, cond_true] at h
    split at h
    · next n dp K2 j2 i2 sp K j i st =>
      rw [if_neg (by decide)] at hI
      subst hI
      split at h
      · next n1 n2 ha1 ha2 =>
        have hg := (gd_some h).1; replace h := (gd_some h).2
        simp only [Bool.and_eq_true, Bool.not_eq_true'] at hg
        obtain ⟨⟨⟨⟨⟨⟨g1, g2⟩, g3⟩, g4⟩, g5⟩, g6⟩, g7⟩ := hg
        have hK : K ≠ 30 := Nat.ne_of_beq_eq_false g3
        have hK2 : K2 ≠ 30 := Nat.ne_of_beq_eq_false g4
        rw [aln_X hK] at ha1
        rw [aln_X hK2] at ha2
        obtain rfl := nx_some h
        have hv3 := vst_tail (vst_tail (vst_tail (vst_tail (vst_tail hvs))))
        refine ⟨⟨hvl, hv3⟩, fun hy K1 H locs als hL hP hS => ?_⟩
        obtain ⟨hx, hb, hml, hown, hts, hCx⟩ := hy
        have small : ∀ {K j i N : Nat}, aln X0 K = some (N, false) → K ≠ 30 → vok (.inr (.inr (some (K, j, i)))) → (K, j, i) ∈ AK := by
          intro K j i N ha hK hv
          rcases hv with hk | hk | hk
          · exact hk
          · cases hk; exact absurd rfl hK
          · have e : K = 31 := hk.1
            subst e
            cases ha
        obtain ⟨c1, hc1⟩ := List.getElem?_of_mem (small ha1 hK (hvs _ (List.mem_cons_of_mem _ (List.mem_cons_of_mem _ (List.mem_cons_of_mem _ (List.mem_cons_of_mem _ List.mem_cons_self))))))
        obtain ⟨c2, hc2⟩ := List.getElem?_of_mem (small ha2 hK2 (hvs _ (List.mem_cons_of_mem _ (List.mem_cons_of_mem _ List.mem_cons_self))))
        obtain ⟨p1, p2, p3⟩ := cpOK_spec g5
        obtain ⟨p4, -, p6⟩ := cpOK_spec g6
        refine va_copyi (D := D) (A := AA ad) (H0 := s.heap) hx hb (by rw [hml, hL.2.1]) hown (hts _ (mem_t (ct_ac _ hmem rfl))) (hts _ str_words.1) (hts _ str_words.2.1) (hts _ str_words.2.2) hCx.1 hP (hDD M) hS c1 c2 0 0 (f := M K j i) (g := M K2 j2 i2) (by rw [WS_at hc1, ent_a ha1]; rfl) (by rw [WS_at hc2, ent_a ha2]; rfl) rfl rfl rfl p1 p4 p2 p3 p6 (fun _ _ => rfl) (by have := Nat.le_of_ble_eq_true g1; omega) ?_ hd (fun H1 locs1 hP1 _ hS1 => K1 H1 locs1 als hL ?_ hS1)
        · rw [cat_S]
          have := Nat.le_of_ble_eq_true g2
          have := Nat.le_of_ble_eq_true g7
          show catS st + (7 + 11) ≤ R.locals
          omega
        · exact P_set hc2 hP1 (ent_cp ha2) (fun k' hk' => ent_cp_o (k2 := (K2, j2, i2)) hk')
      · cases h
    · cases h
  | false =>
    rw [h0, cond_false] at h
    cases h1 : Nat.beq z 1001 with
    | true =>
      obtain rfl := Nat.eq_of_beq_eq_true h1
      rw [h1, cond_true] at h
      split at h
      · next i x0 st =>
        rw [if_pos rfl] at hI
        subst hI
        split at h
        · next sx hsx => exact (no_str hsx).elim
        · cases h
      · cases h
    | false =>
      rw [h1, cond_false] at h
      cases h2 : Nat.beq z 1002 with
      | true =>
        obtain rfl := Nat.eq_of_beq_eq_true h2
        rw [h2, cond_true] at h
        split at h
        · next k i x0 st =>
          rw [if_pos rfl] at hI
          subst hI
          split at h
          · next sx hsx => exact (no_str hsx).elim
          · cases h
        · cases h
      | false =>
        rw [h2, cond_false] at h
        split at h
        · cases h
        · split at h
          · cases h
          · next as rest _ =>
            cases virt with
            | true =>
              rw [cond_true] at h
              split at h
              · replace h := (gd_some h).2; cases h
              · cases h
            | false =>
              rw [cond_false] at h
              replace h := (gd_some h).2; cases h

set_option maxRecDepth 100000 in
set_option maxHeartbeats 4000000 in
theorem one_sound (hLn : HLn l ad) (hCh : HCh l ad) (hDD : ∀ M, va_D (AA ad) (WS dA ad M)) (hR : eF e ≤ R.frames ∧ eW e ≤ R.locals ∧ cells ≤ R.cells ∧ slots ≤ R.slots) {I : Instr} {n pc : Nat} {ls : List (Option V)} {st : List V} {M : Mem} {s' : St} (h : stepI X e I n pc ls st M = some (.inl s')) (hd : decode (eB e) pc = .ok (I, n)) (hlen : lenOK I n = true) (hvl : vls ls) (hvs : vst st) :
    (vls s'.2.1 ∧ vst s'.2.2.1) ∧ (HY p s m args c D dA ad X e → Gs p l env R s m args below meth c cells slots Q D dA ad e s' → Gs p l env R s m args below meth c cells slots Q D dA ad e (pc, ls, st, M)) := by
  cases I with
  | iconst k =>
    have hn := lenOK_eq hlen (by simp [lenI])
    simp only [lenI] at hn
    subst hn
    simp only [stepI] at h
    obtain rfl := nx_some h
    exact ⟨⟨hvl, vst_cons trivial hvs⟩, fun hy K H locs als hL hP hS => by
      obtain ⟨hx, hb, hml, hown, hts, hCx⟩ := hy
      exact lv_iconst hx hb hd rfl (K H locs als hL hP hS)⟩
  | bipush k =>
    have hn := lenOK_eq hlen (by simp [lenI])
    simp only [lenI] at hn
    subst hn
    simp only [stepI] at h
    obtain rfl := nx_some h
    exact ⟨⟨hvl, vst_cons trivial hvs⟩, fun hy K H locs als hL hP hS => by
      obtain ⟨hx, hb, hml, hown, hts, hCx⟩ := hy
      exact lv_bipush hx hb hd rfl (K H locs als hL hP hS)⟩
  | sipush k =>
    have hn := lenOK_eq hlen (by simp [lenI])
    simp only [lenI] at hn
    subst hn
    simp only [stepI] at h
    obtain rfl := nx_some h
    exact ⟨⟨hvl, vst_cons trivial hvs⟩, fun hy K H locs als hL hP hS => by
      obtain ⟨hx, hb, hml, hown, hts, hCx⟩ := hy
      exact lv_sipush hx hb hd rfl (K H locs als hL hP hS)⟩
  | lconst k =>
    have hn := lenOK_eq hlen (by simp [lenI])
    simp only [lenI] at hn
    subst hn
    simp only [stepI] at h
    obtain rfl := nx_some h
    exact ⟨⟨hvl, vst_cons trivial hvs⟩, fun hy K H locs als hL hP hS => by
      obtain ⟨hx, hb, hml, hown, hts, hCx⟩ := hy
      exact lv_lconst hx hb hd rfl (K H locs als hL hP hS)⟩
  | aconst_null =>
    have hn := lenOK_eq hlen (by simp [lenI])
    simp only [lenI] at hn
    subst hn
    simp only [stepI] at h
    obtain rfl := nx_some h
    exact ⟨⟨hvl, vst_cons trivial hvs⟩, fun hy K H locs als hL hP hS => by
      obtain ⟨hx, hb, hml, hown, hts, hCx⟩ := hy
      exact lv_null hx hb hd (K H locs als hL hP hS)⟩
  | iload_n k =>
    have hn := lenOK_eq hlen (by simp [lenI])
    simp only [lenI] at hn
    subst hn
    simp only [stepI] at h
    split at h
    · next v hv =>
      obtain rfl := nx_some h
      exact ⟨⟨hvl, vst_cons (hvl _ _ hv) hvs⟩, fun hy K H locs als hL hP hS => by
        obtain ⟨hx, hb, hml, hown, hts, hCx⟩ := hy
        exact lv_iload_n hx hb hd rfl (hL.2.2.2.1 _ _ hv) (K H locs als hL hP hS)⟩
    · cases h
  | lload_n k =>
    have hn := lenOK_eq hlen (by simp [lenI])
    simp only [lenI] at hn
    subst hn
    simp only [stepI] at h
    split at h
    · next v hv =>
      obtain rfl := nx_some h
      exact ⟨⟨hvl, vst_cons (hvl _ _ hv) hvs⟩, fun hy K H locs als hL hP hS => by
        obtain ⟨hx, hb, hml, hown, hts, hCx⟩ := hy
        exact lv_lload_n hx hb hd rfl (hL.2.2.2.1 _ _ hv) (K H locs als hL hP hS)⟩
    · cases h
  | iload k =>
    have hn := lenOK_eq hlen (by simp [lenI])
    simp only [lenI] at hn
    subst hn
    simp only [stepI] at h
    split at h
    · next v hv =>
      replace h := (gd_some h).2
      obtain rfl := nx_some h
      exact ⟨⟨hvl, vst_cons (hvl _ _ hv) hvs⟩, fun hy K H locs als hL hP hS => by
        obtain ⟨hx, hb, hml, hown, hts, hCx⟩ := hy
        exact lv_iload hx hb hd (hL.2.2.2.1 _ _ hv) (K H locs als hL hP hS)⟩
    · cases h
  | aload_n k =>
    have hn := lenOK_eq hlen (by simp [lenI])
    simp only [lenI] at hn
    subst hn
    simp only [stepI] at h
    split at h
    · next v hv =>
      obtain rfl := nx_some h
      refine ⟨⟨hvl, vst_cons (hvl _ _ hv) hvs⟩, fun hy K H locs als hL hP hS => ?_⟩
      obtain ⟨hx, hb, hml, hown, hts, hCx⟩ := hy
      cases v with
      | none => exact lv_aload_nN hx hb hd rfl (hL.2.2.2.1 _ _ hv) (K H locs als hL hP hS)
      | some v => exact lv_aload_n hx hb hd rfl (hL.2.2.2.1 _ _ hv) (K H locs als hL hP hS)
    · cases h
  | aload k =>
    have hn := lenOK_eq hlen (by simp [lenI])
    simp only [lenI] at hn
    subst hn
    simp only [stepI] at h
    split at h
    · next v hv =>
      replace h := (gd_some h).2
      obtain rfl := nx_some h
      refine ⟨⟨hvl, vst_cons (hvl _ _ hv) hvs⟩, fun hy K H locs als hL hP hS => ?_⟩
      obtain ⟨hx, hb, hml, hown, hts, hCx⟩ := hy
      cases v with
      | none => exact lv_aloadN hx hb hd (hL.2.2.2.1 _ _ hv) (K H locs als hL hP hS)
      | some v => exact lv_aload hx hb hd (hL.2.2.2.1 _ _ hv) (K H locs als hL hP hS)
    · cases h
  | istore_n k =>
    have hn := lenOK_eq hlen (by simp [lenI])
    simp only [lenI] at hn
    subst hn
    simp only [stepI] at h
    split at h
    · next v st =>
      have hg := (gd_some h).1; replace h := (gd_some h).2
      have hi := Nat.blt_eq.mp hg
      obtain rfl := nx_some h
      exact ⟨⟨vls_st1 hvl (hvs _ List.mem_cons_self), vst_tail hvs⟩, fun hy K H locs als hL hP hS => by
        obtain ⟨hx, hb, hml, hown, hts, hCx⟩ := hy
        exact lv_istore_n hx hb hd rfl (LR_has hL) (by rw [← hL.1]; exact hi) rfl (fun als2 h2 => K H locs als2 (LR_st1 (v := .inl v) hL (by rw [← hL.1]; exact hi) rfl h2) hP hS)⟩
    · cases h
  | istore k =>
    have hn := lenOK_eq hlen (by simp [lenI])
    simp only [lenI] at hn
    subst hn
    simp only [stepI] at h
    split at h
    · next v st =>
      have hg := (gd_some h).1; replace h := (gd_some h).2
      simp only [Bool.and_eq_true] at hg
      have hi := Nat.blt_eq.mp hg.2
      obtain rfl := nx_some h
      exact ⟨⟨vls_st1 hvl (hvs _ List.mem_cons_self), vst_tail hvs⟩, fun hy K H locs als hL hP hS => by
        obtain ⟨hx, hb, hml, hown, hts, hCx⟩ := hy
        exact lv_istore hx hb hd (LR_has hL) (by rw [← hL.1]; exact hi) rfl (fun als2 h2 => K H locs als2 (LR_st1 (v := .inl v) hL (by rw [← hL.1]; exact hi) rfl h2) hP hS)⟩
    · cases h
  | lstore_n k =>
    have hn := lenOK_eq hlen (by simp [lenI])
    simp only [lenI] at hn
    subst hn
    simp only [stepI] at h
    split at h
    · next v st =>
      have hg := (gd_some h).1; replace h := (gd_some h).2
      simp only [Bool.and_eq_true] at hg
      have hi := Nat.blt_eq.mp hg.2
      obtain rfl := nx_some h
      refine ⟨⟨vls_st2 hvl (hvs _ List.mem_cons_self), vst_tail hvs⟩, fun hy K H locs als hL hP hS => ?_⟩
      obtain ⟨hx, hb, hml, hown, hts, hCx⟩ := hy
      refine lv_lstore_n hx hb hd rfl (LR_has hL) (by rw [← hL.1]; exact hi) rfl (fun als2 h2 => K H locs als2 ?_ hP hS)
      rw [hg.1] at hL ⊢
      exact LR_st2 (v := .inr (.inl v)) hL (by rw [← hL.1]; exact hi) h2
    · cases h
  | astore_n k =>
    have hn := lenOK_eq hlen (by simp [lenI])
    simp only [lenI] at hn
    subst hn
    simp only [stepI] at h
    split at h
    · next v st =>
      have hg := (gd_some h).1; replace h := (gd_some h).2
      have hi := Nat.blt_eq.mp hg
      obtain rfl := nx_some h
      refine ⟨⟨vls_st1 hvl (hvs _ List.mem_cons_self), vst_tail hvs⟩, fun hy K H locs als hL hP hS => ?_⟩
      obtain ⟨hx, hb, hml, hown, hts, hCx⟩ := hy
      cases v with
      | none => exact lv_astore_nN hx hb hd rfl (LR_has hL) (by rw [← hL.1]; exact hi) rfl (fun als2 h2 => K H locs als2 (LR_st1 (v := .inr (.inr none)) hL (by rw [← hL.1]; exact hi) rfl h2) hP hS)
      | some v => exact lv_astore_n hx hb hd rfl (LR_has hL) (by rw [← hL.1]; exact hi) rfl (fun als2 h2 => K H locs als2 (LR_st1 (v := .inr (.inr (some v))) hL (by rw [← hL.1]; exact hi) rfl h2) hP hS)
    · cases h
  | astore k =>
    have hn := lenOK_eq hlen (by simp [lenI])
    simp only [lenI] at hn
    subst hn
    simp only [stepI] at h
    split at h
    · next v st =>
      have hg := (gd_some h).1; replace h := (gd_some h).2
      simp only [Bool.and_eq_true] at hg
      have hi := Nat.blt_eq.mp hg.2
      obtain rfl := nx_some h
      refine ⟨⟨vls_st1 hvl (hvs _ List.mem_cons_self), vst_tail hvs⟩, fun hy K H locs als hL hP hS => ?_⟩
      obtain ⟨hx, hb, hml, hown, hts, hCx⟩ := hy
      cases v with
      | none => exact lv_astoreN hx hb hd (LR_has hL) (by rw [← hL.1]; exact hi) rfl (fun als2 h2 => K H locs als2 (LR_st1 (v := .inr (.inr none)) hL (by rw [← hL.1]; exact hi) rfl h2) hP hS)
      | some v => exact lv_astore hx hb hd (LR_has hL) (by rw [← hL.1]; exact hi) rfl (fun als2 h2 => K H locs als2 (LR_st1 (v := .inr (.inr (some v))) hL (by rw [← hL.1]; exact hi) rfl h2) hP hS)
    · cases h
  | iinc k d =>
    have hn := lenOK_eq hlen (by simp [lenI])
    simp only [lenI] at hn
    subst hn
    simp only [stepI] at h
    split at h
    · next v hv =>
      have hg := (gd_some h).1; replace h := (gd_some h).2
      simp only [Bool.and_eq_true] at hg
      have hi := Nat.blt_eq.mp hg.2
      obtain rfl := nx_some h
      refine ⟨⟨vls_st1 hvl trivial, hvs⟩, fun hy K H locs als hL hP hS => ?_⟩
      obtain ⟨hx, hb, hml, hown, hts, hCx⟩ := hy
      obtain ⟨q, hq⟩ := List.getElem?_of_mem ((mem_asc (ad := ad) (ls := ls) (q := (k, .int v))).mpr ⟨_, hv, rfl⟩)
      exact lv_iinc hx hb hd (LR_has hL) hq rfl (by rw [← hL.1]; exact hi) rfl (fun als2 h2 => K H locs als2 (LR_st1 (v := .inl (v + Int32.ofInt d)) hL (by rw [← hL.1]; exact hi) rfl h2) hP hS)
    · cases h
  | iadd =>
    have hn := lenOK_eq hlen (by simp [lenI])
    simp only [lenI] at hn
    subst hn
    simp only [stepI] at h
    split at h
    · next b a st =>
      obtain rfl := nx_some h
      exact ⟨⟨hvl, vst_cons trivial (vst_tail (vst_tail hvs))⟩, fun hy K H locs als hL hP hS => by
        obtain ⟨hx, hb, hml, hown, hts, hCx⟩ := hy
        exact lv_iadd hx hb hd (K H locs als hL hP hS)⟩
    · cases h
  | isub =>
    have hn := lenOK_eq hlen (by simp [lenI])
    simp only [lenI] at hn
    subst hn
    simp only [stepI] at h
    split at h
    · next b a st =>
      obtain rfl := nx_some h
      exact ⟨⟨hvl, vst_cons trivial (vst_tail (vst_tail hvs))⟩, fun hy K H locs als hL hP hS => by
        obtain ⟨hx, hb, hml, hown, hts, hCx⟩ := hy
        exact lv_isub hx hb hd (K H locs als hL hP hS)⟩
    · cases h
  | imul =>
    have hn := lenOK_eq hlen (by simp [lenI])
    simp only [lenI] at hn
    subst hn
    simp only [stepI] at h
    split at h
    · next b a st =>
      obtain rfl := nx_some h
      exact ⟨⟨hvl, vst_cons trivial (vst_tail (vst_tail hvs))⟩, fun hy K H locs als hL hP hS => by
        obtain ⟨hx, hb, hml, hown, hts, hCx⟩ := hy
        exact lv_imul hx hb hd (K H locs als hL hP hS)⟩
    · cases h
  | iand =>
    have hn := lenOK_eq hlen (by simp [lenI])
    simp only [lenI] at hn
    subst hn
    simp only [stepI] at h
    split at h
    · next b a st =>
      obtain rfl := nx_some h
      exact ⟨⟨hvl, vst_cons trivial (vst_tail (vst_tail hvs))⟩, fun hy K H locs als hL hP hS => by
        obtain ⟨hx, hb, hml, hown, hts, hCx⟩ := hy
        exact lv_iand hx hb hd (K H locs als hL hP hS)⟩
    · cases h
  | ior =>
    have hn := lenOK_eq hlen (by simp [lenI])
    simp only [lenI] at hn
    subst hn
    simp only [stepI] at h
    split at h
    · next b a st =>
      obtain rfl := nx_some h
      exact ⟨⟨hvl, vst_cons trivial (vst_tail (vst_tail hvs))⟩, fun hy K H locs als hL hP hS => by
        obtain ⟨hx, hb, hml, hown, hts, hCx⟩ := hy
        exact lv_ior hx hb hd (K H locs als hL hP hS)⟩
    · cases h
  | ixor =>
    have hn := lenOK_eq hlen (by simp [lenI])
    simp only [lenI] at hn
    subst hn
    simp only [stepI] at h
    split at h
    · next b a st =>
      obtain rfl := nx_some h
      exact ⟨⟨hvl, vst_cons trivial (vst_tail (vst_tail hvs))⟩, fun hy K H locs als hL hP hS => by
        obtain ⟨hx, hb, hml, hown, hts, hCx⟩ := hy
        exact lv_ixor hx hb hd (K H locs als hL hP hS)⟩
    · cases h
  | ishl =>
    have hn := lenOK_eq hlen (by simp [lenI])
    simp only [lenI] at hn
    subst hn
    simp only [stepI] at h
    split at h
    · next b a st =>
      obtain rfl := nx_some h
      exact ⟨⟨hvl, vst_cons trivial (vst_tail (vst_tail hvs))⟩, fun hy K H locs als hL hP hS => by
        obtain ⟨hx, hb, hml, hown, hts, hCx⟩ := hy
        exact lv_ishl hx hb hd (K H locs als hL hP hS)⟩
    · cases h
  | ishr =>
    have hn := lenOK_eq hlen (by simp [lenI])
    simp only [lenI] at hn
    subst hn
    simp only [stepI] at h
    split at h
    · next b a st =>
      obtain rfl := nx_some h
      exact ⟨⟨hvl, vst_cons trivial (vst_tail (vst_tail hvs))⟩, fun hy K H locs als hL hP hS => by
        obtain ⟨hx, hb, hml, hown, hts, hCx⟩ := hy
        exact lv_ishr hx hb hd (K H locs als hL hP hS)⟩
    · cases h
  | iushr =>
    have hn := lenOK_eq hlen (by simp [lenI])
    simp only [lenI] at hn
    subst hn
    simp only [stepI] at h
    split at h
    · next b a st =>
      obtain rfl := nx_some h
      exact ⟨⟨hvl, vst_cons trivial (vst_tail (vst_tail hvs))⟩, fun hy K H locs als hL hP hS => by
        obtain ⟨hx, hb, hml, hown, hts, hCx⟩ := hy
        exact lv_iushr hx hb hd rfl (K H locs als hL hP hS)⟩
    · cases h
  | idiv =>
    have hn := lenOK_eq hlen (by simp [lenI])
    simp only [lenI] at hn
    subst hn
    simp only [stepI] at h
    split at h
    · next b a st =>
      have hg := (gd_some h).1; replace h := (gd_some h).2
      simp only [Bool.not_eq_true', decide_eq_false_iff_not] at hg
      obtain rfl := nx_some h
      exact ⟨⟨hvl, vst_cons trivial (vst_tail (vst_tail hvs))⟩, fun hy K H locs als hL hP hS => by
        obtain ⟨hx, hb, hml, hown, hts, hCx⟩ := hy
        exact lv_idiv hx hb hd hg (K H locs als hL hP hS)⟩
    · cases h
  | irem =>
    have hn := lenOK_eq hlen (by simp [lenI])
    simp only [lenI] at hn
    subst hn
    simp only [stepI] at h
    split at h
    · next b a st =>
      have hg := (gd_some h).1; replace h := (gd_some h).2
      simp only [Bool.not_eq_true', decide_eq_false_iff_not] at hg
      obtain rfl := nx_some h
      exact ⟨⟨hvl, vst_cons trivial (vst_tail (vst_tail hvs))⟩, fun hy K H locs als hL hP hS => by
        obtain ⟨hx, hb, hml, hown, hts, hCx⟩ := hy
        exact lv_irem hx hb hd hg (K H locs als hL hP hS)⟩
    · cases h
  | i2c =>
    have hn := lenOK_eq hlen (by simp [lenI])
    simp only [lenI] at hn
    subst hn
    simp only [stepI] at h
    split at h
    · next a st =>
      obtain rfl := nx_some h
      exact ⟨⟨hvl, vst_cons trivial (vst_tail hvs)⟩, fun hy K H locs als hL hP hS => by
        obtain ⟨hx, hb, hml, hown, hts, hCx⟩ := hy
        exact lv_i2c hx hb hd rfl (K H locs als hL hP hS)⟩
    · cases h
  | i2l =>
    have hn := lenOK_eq hlen (by simp [lenI])
    simp only [lenI] at hn
    subst hn
    simp only [stepI] at h
    split at h
    · next a st =>
      obtain rfl := nx_some h
      exact ⟨⟨hvl, vst_cons trivial (vst_tail hvs)⟩, fun hy K H locs als hL hP hS => by
        obtain ⟨hx, hb, hml, hown, hts, hCx⟩ := hy
        exact lv_i2l hx hb hd rfl (K H locs als hL hP hS)⟩
    · cases h
  | lshl =>
    have hn := lenOK_eq hlen (by simp [lenI])
    simp only [lenI] at hn
    subst hn
    simp only [stepI] at h
    split at h
    · next b a st =>
      obtain rfl := nx_some h
      exact ⟨⟨hvl, vst_cons trivial (vst_tail (vst_tail hvs))⟩, fun hy K H locs als hL hP hS => by
        obtain ⟨hx, hb, hml, hown, hts, hCx⟩ := hy
        exact lv_lshl hx hb hd rfl (K H locs als hL hP hS)⟩
    · cases h
  | lor =>
    have hn := lenOK_eq hlen (by simp [lenI])
    simp only [lenI] at hn
    subst hn
    simp only [stepI] at h
    split at h
    · next b a st =>
      obtain rfl := nx_some h
      exact ⟨⟨hvl, vst_cons trivial (vst_tail (vst_tail hvs))⟩, fun hy K H locs als hL hP hS => by
        obtain ⟨hx, hb, hml, hown, hts, hCx⟩ := hy
        exact lv_lor hx hb hd (K H locs als hL hP hS)⟩
    · cases h
  | lcmp =>
    have hn := lenOK_eq hlen (by simp [lenI])
    simp only [lenI] at hn
    subst hn
    simp only [stepI] at h
    split at h
    · next b a st =>
      obtain rfl := nx_some h
      exact ⟨⟨hvl, vst_cons trivial (vst_tail (vst_tail hvs))⟩, fun hy K H locs als hL hP hS => by
        obtain ⟨hx, hb, hml, hown, hts, hCx⟩ := hy
        exact W.lcmp hx hb hd (K H locs als hL hP hS)⟩
    · cases h
  | dup =>
    have hn := lenOK_eq hlen (by simp [lenI])
    simp only [lenI] at hn
    subst hn
    simp only [stepI] at h
    split at h
    · next a st =>
      obtain rfl := nx_some h
      exact ⟨⟨hvl, vst_cons trivial hvs⟩, fun hy K H locs als hL hP hS => by
        obtain ⟨hx, hb, hml, hown, hts, hCx⟩ := hy
        exact lv_dup hx hb hd rfl (K H locs als hL hP hS)⟩
    · next a st =>
      obtain rfl := nx_some h
      exact ⟨⟨hvl, vst_cons (hvs _ List.mem_cons_self) hvs⟩, fun hy K H locs als hL hP hS => by
        obtain ⟨hx, hb, hml, hown, hts, hCx⟩ := hy
        exact lv_dup hx hb hd (by cases a <;> rfl) (K H locs als hL hP hS)⟩
    · cases h
  | pop =>
    have hn := lenOK_eq hlen (by simp [lenI])
    simp only [lenI] at hn
    subst hn
    simp only [stepI] at h
    split at h
    · next a st =>
      obtain rfl := nx_some h
      exact ⟨⟨hvl, vst_tail hvs⟩, fun hy K H locs als hL hP hS => by
        obtain ⟨hx, hb, hml, hown, hts, hCx⟩ := hy
        exact lv_pop hx hb hd rfl (K H locs als hL hP hS)⟩
    · next a st =>
      obtain rfl := nx_some h
      exact ⟨⟨hvl, vst_tail hvs⟩, fun hy K H locs als hL hP hS => by
        obtain ⟨hx, hb, hml, hown, hts, hCx⟩ := hy
        exact lv_pop hx hb hd (by cases a <;> rfl) (K H locs als hL hP hS)⟩
    · cases h
  | dup2 =>
    have hn := lenOK_eq hlen (by simp [lenI])
    simp only [lenI] at hn
    subst hn
    simp only [stepI] at h
    split at h
    · next b a st =>
      obtain rfl := nx_some h
      exact ⟨⟨hvl, vst_cons trivial (vst_cons (hvs _ (List.mem_cons_of_mem _ List.mem_cons_self)) hvs)⟩, fun hy K H locs als hL hP hS => by
        obtain ⟨hx, hb, hml, hown, hts, hCx⟩ := hy
        exact lv_dup2_11 hx hb hd rfl (by cases a <;> rfl) (K H locs als hL hP hS)⟩
    · cases h
  | goto o =>
    have hn := lenOK_eq hlen (by simp [lenI])
    simp only [lenI] at hn
    subst hn
    simp only [stepI] at h
    split at h
    · next t ht =>
      obtain rfl := nx_some h
      exact ⟨⟨hvl, hvs⟩, fun hy K H locs als hL hP hS => by
        obtain ⟨hx, hb, hml, hown, hts, hCx⟩ := hy
        exact lv_goto hx hb hd (tg_spec ht) (K H locs als hL hP hS)⟩
    · cases h
  | ifCond cc o =>
    have hn := lenOK_eq hlen (by simp [lenI])
    simp only [lenI] at hn
    subst hn
    simp only [stepI] at h
    split at h
    · next a st t ht =>
      obtain rfl := nx_some h
      refine ⟨⟨hvl, vst_tail hvs⟩, fun hy K H locs als hL hP hS => ?_⟩
      obtain ⟨hx, hb, hml, hown, hts, hCx⟩ := hy
      have K1 := K H locs als hL hP hS
      cases cc with
      | eq => exact lv_if_eq hx hb hd (tg_spec ht) (fun q => by dsimp only [brZ] at K1; rw [if_pos q] at K1; exact K1) (fun q => by dsimp only [brZ] at K1; rw [if_neg q] at K1; exact K1)
      | ne => exact lv_if_ne hx hb hd (tg_spec ht) (fun q => by dsimp only [brZ] at K1; rw [if_neg q] at K1; exact K1) (fun q => by dsimp only [brZ] at K1; rw [if_pos q] at K1; exact K1)
      | lt => exact lv_if_lt hx hb hd (tg_spec ht) (fun q => by dsimp only [brZ] at K1; rw [if_pos q] at K1; exact K1) (fun q => by dsimp only [brZ] at K1; rw [if_neg q] at K1; exact K1)
      | ge => exact lv_if_ge hx hb hd (tg_spec ht) (fun q => by dsimp only [brZ] at K1; rw [if_neg (Int32.not_lt.mpr q)] at K1; exact K1) (fun q => by dsimp only [brZ] at K1; rw [if_pos (Int32.not_le.mp q)] at K1; exact K1)
      | gt => exact lv_if_gt hx hb hd (tg_spec ht) (fun q => by dsimp only [brZ] at K1; rw [if_pos q] at K1; exact K1) (fun q => by dsimp only [brZ] at K1; rw [if_neg q] at K1; exact K1)
      | le => exact lv_if_le hx hb hd (tg_spec ht) (fun q => by dsimp only [brZ] at K1; rw [if_neg (Int32.not_lt.mpr q)] at K1; exact K1) (fun q => by dsimp only [brZ] at K1; rw [if_pos (Int32.not_le.mp q)] at K1; exact K1)
    · cases h
  | if_icmp cc o =>
    have hn := lenOK_eq hlen (by simp [lenI])
    simp only [lenI] at hn
    subst hn
    simp only [stepI] at h
    split at h
    · next b a st t ht =>
      obtain rfl := nx_some h
      refine ⟨⟨hvl, vst_tail (vst_tail hvs)⟩, fun hy K H locs als hL hP hS => ?_⟩
      obtain ⟨hx, hb, hml, hown, hts, hCx⟩ := hy
      have K1 := K H locs als hL hP hS
      cases cc with
      | eq => exact lv_icmp_eq hx hb hd (tg_spec ht) (fun q => by dsimp only [br2] at K1; rw [if_pos q] at K1; exact K1) (fun q => by dsimp only [br2] at K1; rw [if_neg q] at K1; exact K1)
      | ne => exact lv_icmp_ne hx hb hd (tg_spec ht) (fun q => by dsimp only [br2] at K1; rw [if_neg q] at K1; exact K1) (fun q => by dsimp only [br2] at K1; rw [if_pos q] at K1; exact K1)
      | lt => exact lv_icmp_lt hx hb hd (tg_spec ht) (fun q => by dsimp only [br2] at K1; rw [if_pos q] at K1; exact K1) (fun q => by dsimp only [br2] at K1; rw [if_neg q] at K1; exact K1)
      | ge => exact lv_icmp_ge hx hb hd (tg_spec ht) (fun q => by dsimp only [br2] at K1; rw [if_neg (Int32.not_lt.mpr q)] at K1; exact K1) (fun q => by dsimp only [br2] at K1; rw [if_pos (Int32.not_le.mp q)] at K1; exact K1)
      | gt => exact lv_icmp_gt hx hb hd (tg_spec ht) (fun q => by dsimp only [br2] at K1; rw [if_pos q] at K1; exact K1) (fun q => by dsimp only [br2] at K1; rw [if_neg q] at K1; exact K1)
      | le => exact lv_icmp_le hx hb hd (tg_spec ht) (fun q => by dsimp only [br2] at K1; rw [if_neg (Int32.not_lt.mpr q)] at K1; exact K1) (fun q => by dsimp only [br2] at K1; rw [if_pos (Int32.not_le.mp q)] at K1; exact K1)
    · cases h
  | ifnull o =>
    have hn := lenOK_eq hlen (by simp [lenI])
    simp only [lenI] at hn
    subst hn
    simp only [stepI] at h
    split at h
    · next st t ht =>
      obtain rfl := nx_some h
      exact ⟨⟨hvl, vst_tail hvs⟩, fun hy K H locs als hL hP hS => by
        obtain ⟨hx, hb, hml, hown, hts, hCx⟩ := hy
        exact lv_ifnullN hx hb hd (tg_spec ht) (K H locs als hL hP hS)⟩
    · next k st t ht =>
      obtain rfl := nx_some h
      exact ⟨⟨hvl, vst_tail hvs⟩, fun hy K H locs als hL hP hS => by
        obtain ⟨hx, hb, hml, hown, hts, hCx⟩ := hy
        exact lv_ifnull hx hb hd (K H locs als hL hP hS)⟩
    · cases h
  | ifnonnull o =>
    have hn := lenOK_eq hlen (by simp [lenI])
    simp only [lenI] at hn
    subst hn
    simp only [stepI] at h
    split at h
    · next st t ht =>
      obtain rfl := nx_some h
      exact ⟨⟨hvl, vst_tail hvs⟩, fun hy K H locs als hL hP hS => by
        obtain ⟨hx, hb, hml, hown, hts, hCx⟩ := hy
        exact lv_ifnonnullN hx hb hd (K H locs als hL hP hS)⟩
    · next k st t ht =>
      obtain rfl := nx_some h
      exact ⟨⟨hvl, vst_tail hvs⟩, fun hy K H locs als hL hP hS => by
        obtain ⟨hx, hb, hml, hown, hts, hCx⟩ := hy
        exact lv_ifnonnull hx hb hd (tg_spec ht) (K H locs als hL hP hS)⟩
    · cases h
  | tableswitch d lo hi os =>
    simp only [stepI] at h
    split at h
    · next a st t tl ht htl =>
      have hg := (gd_some h).1; replace h := (gd_some h).2
      simp only [Bool.and_eq_true, decide_eq_true_eq] at hg
      obtain ⟨⟨g1, g2⟩, g3⟩ := hg
      obtain rfl := nx_some h
      refine ⟨⟨hvl, vst_tail hvs⟩, fun hy K H locs als hL hP hS => ?_⟩
      obtain ⟨hx, hb, hml, hown, hts, hCx⟩ := hy
      have K1 := K H locs als hL hP hS
      have hlen2 := tgs_len htl
      by_cases q : a.toInt < lo ∨ hi < a.toInt
      · dsimp only at K1
        rw [swN_out tl lo g2 (by omega) (by omega)] at K1
        exact lv_tableOut hx hb hd q (tg_spec ht) K1
      · have q1 : ¬ a.toInt < lo := fun z => q (Or.inl z)
        have q2 : ¬ hi < a.toInt := fun z => q (Or.inr z)
        have hj : (a.toInt - lo).toNat < os.toList.length := by omega
        have ho : os.toList[(a.toInt - lo).toNat]? = some os.toList[(a.toInt - lo).toNat] := List.getElem?_eq_getElem hj
        exact lv_tableIn hx hb hd q1 q2 (by rw [← Array.getElem?_toList]; exact ho) (swN_in os.toList tl lo (a.toInt - lo).toNat _ htl (by omega) ho g2 (by omega)) K1
    · cases h
  | getfield ix =>
    have hn := lenOK_eq hlen (by simp [lenI])
    simp only [lenI] at hn
    subst hn
    simp only [stepI] at h
    split at h
    · next K j i st =>
      split at h
      · next K2 sl pl hf =>
        have hg := (gd_some h).1; replace h := (gd_some h).2
        obtain rfl := Nat.eq_of_beq_eq_true hg
        have hmem := fnd2_mem _ _ _ _ hf
        obtain ⟨f1, f2, f3⟩ := ft_ok _ hmem
        simp only at f1 f2 f3
        have hk : (K, j, i) ∈ AK := vok_small (hvs _ List.mem_cons_self) (by show K < 22; omega)
        obtain ⟨ci, hci⟩ := List.getElem?_of_mem hk
        have row : ∀ {H : Heap} {locs : List Loc} {als : Array Slot} {v : Value}, HY p s m args c D dA ad X e → va_P D vwCl (WS dA ad M) H → (fdsOf ad K j i M)[sl]? = some v → W p l env R s m args below meth c H locs cells slots Q (F0 m (pc + 3) als (v :: st.map (cv ad))) → W p l env R s m args below meth c H locs cells slots Q (F0 m pc als (.ref (ad (K, j, i)) :: st.map (cv ad))) := by
          intro H locs als v hy hP hv kk
          obtain ⟨hx, hb, hml, hown, hts, hCx⟩ := hy
          exact va_get (D := D) (ci := K) (C := clC K) (T := clT K) (N := clN K) hx hb hts (cl_in K f1) hown hCx.1 hP ci (fs := fdsOf ad K j i M) (by rw [WS_at hci, ent_o f1]) (cl_at K f1) sl f2 (hts _ (mem_t f3)) (fun _ h9 => h9) hv hd kk
        have hv0 := fds_at (ad := ad) (j := j) (i := i) (M := M) f2
        split at h
        · next k hs =>
          obtain rfl := nx_some h
          rw [hs] at hv0
          exact ⟨⟨hvl, vst_cons (Or.inl (AK_shp _ hk sl (Nat.lt_of_lt_of_le f2 (clN_12 K)) k hs)) (vst_tail hvs)⟩, fun hy K1 H locs als hL hP hS => row hy hP hv0 (K1 H locs als hL hP hS)⟩
        · next hs =>
          obtain rfl := nx_some h
          rw [hs] at hv0
          exact ⟨⟨hvl, vst_cons trivial (vst_tail hvs)⟩, fun hy K1 H locs als hL hP hS => row hy hP hv0 (K1 H locs als hL hP hS)⟩
      · cases h
    · cases h
  | putfield ix =>
    have hn := lenOK_eq hlen (by simp [lenI])
    simp only [lenI] at hn
    subst hn
    simp only [stepI] at h
    split at h
    · next v K j i st =>
      split at h
      · next K2 sl pl hf =>
        have hg := (gd_some h).1; replace h := (gd_some h).2
        obtain rfl := Nat.eq_of_beq_eq_true hg
        have hmem := fnd2_mem _ _ _ _ hf
        obtain ⟨f1, f2, f3⟩ := ft_ok _ hmem
        simp only at f1 f2 f3
        split at h
        · cases h
        · next hs =>
          have hz := (gd_some h).1; replace h := (gd_some h).2
          obtain rfl := nx_some h
          have hk : (K, j, i) ∈ AK := vok_small (hvs _ (List.mem_cons_of_mem _ List.mem_cons_self)) (by show K < 22; omega)
          obtain ⟨ci, hci⟩ := List.getElem?_of_mem hk
          obtain ⟨g1, g2⟩ := ft_good K f1 sl f2 (shp_j K sl j hs)
          have hty := cl_ty K f1 sl f2
          have hnf : narrow (clY K sl) (.int v) = .int v ∧ fits (clY K sl) (.int v) = true := by
            rw [g2]
            cases hfz : fZ K sl with
            | true =>
              rw [hfz] at hz
              rcases isb_spec hz with rfl | rfl <;> exact ⟨rfl, rfl⟩
            | false => exact ⟨rfl, rfl⟩
          refine ⟨⟨hvl, vst_tail (vst_tail hvs)⟩, fun hy K1 H locs als hL hP hS => ?_⟩
          obtain ⟨hx, hb, hml, hown, hts, hCx⟩ := hy
          refine va_put (D := D) (A := AA ad) (H0 := s.heap) (ci := K) (C := clC K) (T := clT K) (N := clN K) hx hb hts (cl_in K f1) (clY K) (cl_ty K f1) (cl_nm K f1) hown hCx.1 hP (hDD M) hS ci (fs := fdsOf ad K j i M) (by rw [WS_at hci, ent_o f1]) (cl_at K f1) sl f2 (hts _ (mem_t f3)) (fun _ h9 => h9) g1 hty hnf.1 hnf.2 (by rw [fds_len]; exact f2) hd (fun H1 locs1 hP1 _ hS1 => K1 H1 locs1 als hL ?_ hS1)
          exact P_set hci hP1 ((ent_o f1).trans (by rw [fds_set f2 hs]; rfl)) (fun k' hk' => ent_other (k := (K, j, i)) hk')
      · cases h
    · cases h
  | iaload =>
    have hn := lenOK_eq hlen (by simp [lenI])
    simp only [lenI] at hn
    subst hn
    simp only [stepI] at h
    split at h
    · next v K j i st =>
      split at h
      · next N ha =>
        have hg := (gd_some h).1; replace h := (gd_some h).2
        have hin := inb_spec hg
        obtain rfl := nx_some h
        refine ⟨⟨hvl, vst_cons trivial (vst_tail (vst_tail hvs))⟩, fun hy K1 H locs als hL hP hS => ?_⟩
        obtain ⟨hx, hb, hml, hown, hts, hCx⟩ := hy
        rcases hvs _ (List.mem_cons_of_mem _ List.mem_cons_self) with hk | hk | hk
        · have hK : K ≠ 30 := fun z => by have := AK_k _ hk; simp only at this; omega
          rw [aln_X hK] at ha
          obtain ⟨ci, hci⟩ := List.getElem?_of_mem hk
          have K2 := K1 H locs als hL hP hS
          dsimp only at K2
          rw [List.map_cons, show ard X M K j i v.toNatClampNeg = M K j i v.toNatClampNeg from ard_n hK] at K2
          exact va_iald (D := D) hx hb hCx.1 hP ci 0 (by rw [WS_at hci, ent_a ha]; rfl) rfl hin hd K2
        · cases hk
          cases ha
          exact va_sld hx hb hCx.2.1 hCx.2.2.1 hCx.2.2.2.1 hS hin hd (K1 H locs als hL hP hS)
        · have e : K = 31 := hk.1
          subst e
          cases ha
      · cases h
    · cases h
  | caload =>
    have hn := lenOK_eq hlen (by simp [lenI])
    simp only [lenI] at hn
    subst hn
    simp only [stepI] at h
    split at h
    · next v K j i st =>
      split at h
      · next N ha =>
        have hg := (gd_some h).1; replace h := (gd_some h).2
        have hin := inb_spec hg
        obtain rfl := nx_some h
        refine ⟨⟨hvl, vst_cons trivial (vst_tail (vst_tail hvs))⟩, fun hy K1 H locs als hL hP hS => ?_⟩
        obtain ⟨hx, hb, hml, hown, hts, hCx⟩ := hy
        rcases hvs _ (List.mem_cons_of_mem _ List.mem_cons_self) with hk | hk | hk
        · have hK : K ≠ 30 := fun z => by have := AK_k _ hk; simp only at this; omega
          rw [aln_X hK] at ha
          obtain ⟨ci, hci⟩ := List.getElem?_of_mem hk
          exact va_cald (D := D) hx hb hCx.1 hP ci 1 (by rw [WS_at hci, ent_a ha]; rfl) rfl hin hd (K1 H locs als hL hP hS)
        · cases hk
          cases ha
        · have e : K = 31 := hk.1
          subst e
          cases ha
      · cases h
    · cases h
  | iastore =>
    have hn := lenOK_eq hlen (by simp [lenI])
    simp only [lenI] at hn
    subst hn
    simp only [stepI] at h
    split at h
    · next w v K j i st =>
      split at h
      · next N ha =>
        have hg := (gd_some h).1; replace h := (gd_some h).2
        simp only [Bool.and_eq_true, Bool.not_eq_true'] at hg
        have hin := inb_spec hg.2
        have hK : K ≠ 30 := Nat.ne_of_beq_eq_false hg.1
        obtain rfl := nx_some h
        refine ⟨⟨hvl, vst_tail (vst_tail (vst_tail hvs))⟩, fun hy K1 H locs als hL hP hS => ?_⟩
        obtain ⟨hx, hb, hml, hown, hts, hCx⟩ := hy
        rw [aln_X hK] at ha
        rcases hvs _ (List.mem_cons_of_mem _ (List.mem_cons_of_mem _ List.mem_cons_self)) with hk | hk | hk
        · obtain ⟨ci, hci⟩ := List.getElem?_of_mem hk
          refine va_iast (D := D) (A := AA ad) (H0 := s.heap) hx hb hCx.1 hP (hDD M) hS ci 0 (by rw [WS_at hci, ent_a ha]; rfl) rfl hin hd (fun H1 locs1 hP1 _ hS1 => K1 H1 locs1 als hL ?_ hS1)
          exact P_set hci hP1 (ent_wr ha) (fun k' hk' => ent_other (k := (K, j, i)) hk')
        · cases hk
          exact absurd rfl hK
        · have e : K = 31 := hk.1
          subst e
          cases ha
      · cases h
    · cases h
  | castore =>
    have hn := lenOK_eq hlen (by simp [lenI])
    simp only [lenI] at hn
    subst hn
    simp only [stepI] at h
    split at h
    · next w v K j i st =>
      split at h
      · next N ha =>
        have hg := (gd_some h).1; replace h := (gd_some h).2
        have hin := inb_spec hg
        obtain rfl := nx_some h
        refine ⟨⟨hvl, vst_tail (vst_tail (vst_tail hvs))⟩, fun hy K1 H locs als hL hP hS => ?_⟩
        obtain ⟨hx, hb, hml, hown, hts, hCx⟩ := hy
        rcases hvs _ (List.mem_cons_of_mem _ (List.mem_cons_of_mem _ List.mem_cons_self)) with hk | hk | hk
        · have hK : K ≠ 30 := fun z => by have := AK_k _ hk; simp only at this; omega
          rw [aln_X hK] at ha
          obtain ⟨ci, hci⟩ := List.getElem?_of_mem hk
          refine va_cast (D := D) (A := AA ad) (H0 := s.heap) hx hb hCx.1 hP (hDD M) hS ci 1 (by rw [WS_at hci, ent_a ha]; rfl) rfl hin hd (fun H1 locs1 hP1 _ hS1 => K1 H1 locs1 als hL ?_ hS1)
          exact P_set hci hP1 (ent_wr ha) (fun k' hk' => ent_other (k := (K, j, i)) hk')
        · cases hk
          cases ha
        · have e : K = 31 := hk.1
          subst e
          cases ha
      · cases h
    · cases h
  | aaload =>
    have hn := lenOK_eq hlen (by simp [lenI])
    simp only [lenI] at hn
    subst hn
    simp only [stepI] at h
    split at h
    · next v K j i st =>
      split at h
      · next N ha =>
        have hg := (gd_some h).1; replace h := (gd_some h).2
        have hin := inb_spec hg
        obtain rfl := nx_some h
        have hK := rln_K ha
        have hk : (K, j, i) ∈ AK := vok_small (hvs _ (List.mem_cons_of_mem _ List.mem_cons_self)) (by show K < 22; omega)
        have hlt : v.toNatClampNeg < N := Nat.not_le.mp fun q => hin (Or.inr q)
        refine ⟨⟨hvl, vst_cons (Or.inl (AK_ael _ hk _ (by rw [ha]; exact hlt))) (vst_tail (vst_tail hvs))⟩, fun hy K1 H locs als hL hP hS => ?_⟩
        obtain ⟨hx, hb, hml, hown, hts, hCx⟩ := hy
        obtain ⟨ci, hci⟩ := List.getElem?_of_mem hk
        obtain ⟨C, hC⟩ := tys_r (dA := dA) ha
        exact va_aldq (D := D) hx hb hCx.1 hP ci (K - 7) (f := fun n => some (ad (ael K j n))) (by rw [WS_at hci, ent_r ha]) hC hin hd (K1 H locs als hL hP hS)
      · cases h
    · cases h
  | arraylength =>
    have hn := lenOK_eq hlen (by simp [lenI])
    simp only [lenI] at hn
    subst hn
    simp only [stepI] at h
    split at h
    · next j i st =>
      obtain rfl := nx_some h
      refine ⟨⟨hvl, vst_cons trivial (vst_tail hvs)⟩, fun hy K1 H locs als hL hP hS => ?_⟩
      obtain ⟨hx, hb, hml, hown, hts, hCx⟩ := hy
      rcases hvs _ List.mem_cons_self with hk | hk | hk
      · have := AK_k _ hk
        simp only at this
        omega
      · cases hk
        exact va_slen hx hb hCx.2.1 hCx.2.2.1 hCx.2.2.2.1 hS hd (K1 H locs als hL hP hS)
      · exact absurd (show (30 : Nat) = 31 from hk.1) (by decide)
    · cases h
  | ldc ix =>
    have hn := lenOK_eq hlen (by simp [lenI])
    simp only [lenI] at hn
    subst hn
    simp only [stepI] at h
    split at h
    · next v pl hf =>
      obtain rfl := nx_some h
      have hmem := fnd2_mem _ _ _ _ hf
      refine ⟨⟨hvl, vst_cons trivial hvs⟩, fun hy K1 H locs als hL hP hS => ?_⟩
      obtain ⟨hx, hb, hml, hown, hts, hCx⟩ := hy
      exact lv_ldc hx hb hown (hts _ (mem_l (kt_ok _ hmem))) hd (K1 H locs als hL hP hS)
    · cases h
  | ldc_w ix =>
    have hn := lenOK_eq hlen (by simp [lenI])
    simp only [lenI] at hn
    subst hn
    simp only [stepI] at h
    split at h
    · next v pl hf =>
      obtain rfl := nx_some h
      have hmem := fnd2_mem _ _ _ _ hf
      refine ⟨⟨hvl, vst_cons trivial hvs⟩, fun hy K1 H locs als hL hP hS => ?_⟩
      obtain ⟨hx, hb, hml, hown, hts, hCx⟩ := hy
      exact lv_ldcw hx hb hown (hts _ (mem_l (kt_ok _ hmem))) hd (K1 H locs als hL hP hS)
    · cases h
  | ldc2_w ix =>
    have hn := lenOK_eq hlen (by simp [lenI])
    simp only [lenI] at hn
    subst hn
    simp only [stepI] at h
    split at h
    · next v pl hf =>
      obtain rfl := nx_some h
      have hmem := fnd2_mem _ _ _ _ hf
      refine ⟨⟨hvl, vst_cons trivial hvs⟩, fun hy K1 H locs als hL hP hS => ?_⟩
      obtain ⟨hx, hb, hml, hown, hts, hCx⟩ := hy
      exact lv_ldc2 hx hb hown (hts _ (mem_l (jt_ok _ hmem))) hd (K1 H locs als hL hP hS)
    · cases h
  | invokevirtual ix =>
    have hn := lenOK_eq hlen (by simp [lenI])
    simp only [lenI] at hn
    subst hn
    simp only [stepI] at h
    split at h
    · next z pl hf => exact prim_sound hLn hCh hDD hR hd rfl hf h hvl hvs
    · cases h
  | invokestatic ix =>
    have hn := lenOK_eq hlen (by simp [lenI])
    simp only [lenI] at hn
    subst hn
    simp only [stepI] at h
    split at h
    · next z pl hf => exact prim_sound hLn hCh hDD hR hd rfl hf h hvl hvs
    · cases h
  | ireturn =>
    exfalso
    simp only [stepI] at h
    split at h <;> first | (cases h; done) | (replace h := (gd_some h).2; cases h)
  | lreturn =>
    exfalso
    simp only [stepI] at h
    split at h <;> first | (cases h; done) | (replace h := (gd_some h).2; cases h)
  | areturn =>
    exfalso
    simp only [stepI] at h
    split at h <;> first | (cases h; done) | (replace h := (gd_some h).2; cases h)
  | return_ =>
    exfalso
    simp only [stepI] at h
    split at h <;> first | (cases h; done) | (replace h := (gd_some h).2; cases h)
  | _ => cases h
end
