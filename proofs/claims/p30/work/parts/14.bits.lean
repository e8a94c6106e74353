/-! 14: bits and masks (bt .. nx_xor: the kit's rows to paste) -/
def bt (x : Int32) (i : Nat) : Bool := x.toBitVec.getLsbD i
theorem b_ext {x y : Int32} (h : ∀ i, i < 32 → bt x i = bt y i) : x = y := Int32.toBitVec_inj.mp (BitVec.eq_of_getLsbD_eq (fun i hi => h i hi))
theorem b_or (x y : Int32) (i : Nat) : bt (x ||| y) i = (bt x i || bt y i) := by unfold bt; rw [Int32.toBitVec_or, BitVec.getLsbD_or]
theorem b_and (x y : Int32) (i : Nat) : bt (x &&& y) i = (bt x i && bt y i) := by unfold bt; rw [Int32.toBitVec_and, BitVec.getLsbD_and]
theorem b_xor (x y : Int32) (i : Nat) : bt (x ^^^ y) i = (bt x i ^^ bt y i) := by unfold bt; rw [Int32.toBitVec_xor, BitVec.getLsbD_xor]
theorem b_big {x : Int32} {i : Nat} (h : 32 ≤ i) : bt x i = false := BitVec.getLsbD_of_ge _ _ h
theorem b_255 (i : Nat) : bt 255 i = decide (i < 8) := by
  rcases Nat.lt_or_ge i 32 with h | h
  · exact (by decide +kernel : ∀ i, i < 32 → bt 255 i = decide (i < 8)) i h
  · rw [b_big h, decide_eq_false (by omega)]
theorem b_65535 (i : Nat) : bt 65535 i = decide (i < 16) := by
  rcases Nat.lt_or_ge i 32 with h | h
  · exact (by decide +kernel : ∀ i, i < 32 → bt 65535 i = decide (i < 16)) i h
  · rw [b_big h, decide_eq_false (by omega)]
theorem b_m1 : ∀ i, i < 32 → bt (-1) i = true := by decide +kernel
theorem b_0 (i : Nat) : bt 0 i = false := BitVec.getLsbD_zero
theorem s_l : ∀ n, n < 32 → ((nI n &&& 31).toBitVec.smod 32).toNat = n := by decide +kernel
theorem s_u : ∀ n, n < 32 → (((nI n).toUInt32 &&& Int32.toUInt32 31).toBitVec % 32).toNat = n := by decide +kernel
theorem b_shl (n : Nat) (hn : n < 32) (x : Int32) {i : Nat} (hi : i < 32) : bt (x <<< (nI n &&& 31)) i = (decide (n ≤ i) && bt x (i - n)) := by
  unfold bt
  rw [Int32.toBitVec_shiftLeft]
  show (x.toBitVec <<< ((nI n &&& 31).toBitVec.smod 32).toNat).getLsbD i = _
  rw [s_l n hn, BitVec.getLsbD_shiftLeft]
  rcases Nat.lt_or_ge i n with h | h
  · simp [h, Nat.not_le.mpr h]
  · simp [hi, h, Nat.not_lt.mpr h]
theorem b_ushr (n : Nat) (hn : n < 32) (x : Int32) (i : Nat) : bt ((x.toUInt32 >>> ((nI n).toUInt32 &&& Int32.toUInt32 31)).toInt32) i = bt x (n + i) := by
  show (x.toUInt32 >>> ((nI n).toUInt32 &&& Int32.toUInt32 31)).toBitVec.getLsbD i = x.toUInt32.toBitVec.getLsbD (n + i)
  rw [UInt32.toBitVec_shiftRight]
  show (x.toUInt32.toBitVec >>> (((nI n).toUInt32 &&& Int32.toUInt32 31).toBitVec % 32).toNat).getLsbD i = _
  rw [s_u n hn, BitVec.getLsbD_ushiftRight]
theorem b_sshr (n : Nat) (hn : n < 32) (x : Int32) {i : Nat} (hi : i < 32) : bt (x >>> (nI n &&& 31)) i = if n + i < 32 then bt x (n + i) else bt x 31 := by
  unfold bt
  rw [Int32.toBitVec_shiftRight]
  show (x.toBitVec.sshiftRight ((nI n &&& 31).toBitVec.smod 32).toNat).getLsbD i = _
  rw [s_l n hn, BitVec.getLsbD_sshiftRight, BitVec.msb_eq_getLsbD_last]
  simp [hi]
theorem nx_and (a b : Nat) : nI a &&& nI b = nI (a &&& b) := by
  apply Int32.toBitVec_inj.1
  show BitVec.ofNat 32 a &&& BitVec.ofNat 32 b = BitVec.ofNat 32 (a &&& b)
  apply BitVec.eq_of_getLsbD_eq
  intro i hi
  simp [hi]
theorem nx_xor (a b : Nat) : nI a ^^^ nI b = nI (a ^^^ b) := by
  apply Int32.toBitVec_inj.1
  show BitVec.ofNat 32 a ^^^ BitVec.ofNat 32 b = BitVec.ofNat 32 (a ^^^ b)
  apply BitVec.eq_of_getLsbD_eq
  intro i hi
  simp [hi]
theorem nx_or (a b : Nat) : nI a ||| nI b = nI (a ||| b) := by
  apply Int32.toBitVec_inj.1
  show BitVec.ofNat 32 a ||| BitVec.ofNat 32 b = BitVec.ofNat 32 (a ||| b)
  apply BitVec.eq_of_getLsbD_eq
  intro i hi
  simp [hi]
theorem bt_nI (a : Nat) {i : Nat} (hi : i < 32) : bt (nI a) i = a.testBit i := by
  show (BitVec.ofNat 32 a).getLsbD i = _
  rw [BitVec.getLsbD_ofNat]
  simp [hi]
theorem oi_n (a : Nat) : Int32.ofInt (a : Int) = nI a := rfl
theorem N_and {a b : Nat} (ha : a < 2147483648) : andI a b = ((a &&& b : Nat) : Int) := by
  unfold andI
  rw [oi_n, oi_n, nx_and, nI_toInt (Nat.lt_of_le_of_lt Nat.and_le_left ha)]
theorem N_or {a b : Nat} (ha : a < 2147483648) (hb : b < 2147483648) : orI a b = ((a ||| b : Nat) : Int) := by
  unfold orI
  rw [oi_n, oi_n, nx_or, nI_toInt (Nat.or_lt_two_pow (n := 31) ha hb)]
theorem N_shr {a k : Nat} (ha : a < 2147483648) (hk : k < 32) : shrI a k = ((a >>> k : Nat) : Int) := by
  unfold shrI
  have hle : a >>> k ≤ a := by rw [Nat.shiftRight_eq_div_pow]; exact Nat.div_le_self _ _
  have e : nI a >>> (nI k &&& 31) = nI (a >>> k) := by
    apply b_ext
    intro i hi
    rw [b_sshr k hk _ hi, bt_nI _ hi, Nat.testBit_shiftRight]
    split
    · next h => rw [bt_nI _ h]
    · next h =>
      have h1 : a < 2 ^ 31 := ha
      have e1 : a.testBit 31 = false := Nat.testBit_lt_two_pow h1
      have e2 : a.testBit (k + i) = false := Nat.testBit_lt_two_pow (Nat.lt_of_lt_of_le h1 (Nat.pow_le_pow_right (by decide) (by omega)))
      rw [bt_nI _ (by decide), e1, e2]
  rw [oi_n, oi_n, e, nI_toInt (by have : (2 : Nat) ^ 31 = 2147483648 := rfl
                                  omega)]
theorem N_shl {a k : Nat} (hk : k < 32) (h : a <<< k < 2147483648) : shlI a k = ((a <<< k : Nat) : Int) := by
  unfold shlI
  have e : nI a <<< (nI k &&& 31) = nI (a <<< k) := by
    apply b_ext
    intro i hi
    rw [b_shl k hk _ hi, bt_nI _ hi, Nat.testBit_shiftLeft]
    by_cases q : k ≤ i
    · rw [bt_nI _ (by omega)]
    · simp [q]
  rw [oi_n, oi_n, e, nI_toInt h]
/-! a mask of those of P below n -/
noncomputable def mkN (P : Int → Prop) : Nat → Nat
  | 0 => 0
  | n + 1 => mkN P n ||| cif (P n) (2 ^ n) 0
theorem mkN_lt (P : Int → Prop) : ∀ n, mkN P n < 2 ^ n := by
  intro n
  induction n with
  | zero => exact Nat.one_pos
  | succ n ih =>
    rw [mkN]
    refine Nat.or_lt_two_pow (Nat.lt_of_lt_of_le ih (Nat.pow_le_pow_right (by decide) (Nat.le_succ n))) ?_
    by_cases h : P n
    · rw [cif_t h]; exact Nat.pow_lt_pow_right (by decide) (Nat.lt_succ_self n)
    · rw [cif_f h]; exact Nat.two_pow_pos _
theorem mkN_bit (P : Int → Prop) (i : Nat) : ∀ n, (mkN P n).testBit i = true ↔ i < n ∧ P i := by
  intro n
  induction n with
  | zero => simp [mkN]
  | succ n ih =>
    rw [mkN, Nat.testBit_or, Bool.or_eq_true, ih]
    by_cases h : P n
    · rw [cif_t h, Nat.testBit_two_pow, decide_eq_true_eq]
      constructor
      · rintro (q | rfl)
        · exact ⟨by omega, q.2⟩
        · exact ⟨Nat.lt_succ_self _, h⟩
      · rintro ⟨q1, q2⟩
        rcases Nat.lt_or_ge i n with z | z
        · exact Or.inl ⟨z, q2⟩
        · exact Or.inr (by omega)
    · rw [cif_f h, Nat.zero_testBit]
      constructor
      · rintro (q | q)
        · exact ⟨by omega, q.2⟩
        · cases q
      · rintro ⟨q1, q2⟩
        refine Or.inl ⟨?_, q2⟩
        rcases Nat.lt_or_ge i n with z | z
        · exact z
        · exact absurd (by rw [show n = i by omega]; exact q2) h
theorem shl1 {c : Nat} (h : c < 31) : shlI 1 c = ((2 ^ c : Nat) : Int) := by
  have := N_shl (a := 1) (k := c) (by omega) (by rw [Nat.one_shiftLeft]; exact Nat.lt_of_lt_of_le (Nat.pow_lt_pow_right (by decide) h) (by decide))
  rw [Nat.one_shiftLeft] at this
  exact this
theorem mkN_1024 (P : Int → Prop) {n : Nat} (h : n ≤ 10) : mkN P n < 1024 := Nat.lt_of_lt_of_le (mkN_lt P n) (Nat.pow_le_pow_right (by decide) h : 2 ^ n ≤ 2 ^ 10)
theorem mkN_t {P : Int → Prop} {c : Int} (h0 : 0 ≤ c) (h1 : c < 10) (h : P c) : orI (mkN P c.toNat) (shlI 1 c) = (mkN P (c + 1).toNat : Nat) := by
  obtain ⟨n, rfl⟩ := Int.eq_ofNat_of_zero_le h0
  have e : ((n : Int) + 1).toNat = n + 1 := by omega
  have hp : 2 ^ n < 1024 := Nat.pow_lt_pow_right (by decide) (by omega : n < 10)
  rw [e, Int.toNat_natCast, shl1 (by omega), mkN, cif_t h, N_or (by have := mkN_1024 P (n := n) (by omega); omega) (by omega)]
theorem mkN_f {P : Int → Prop} {c : Int} (h0 : 0 ≤ c) (h : ¬ P c) : mkN P (c + 1).toNat = mkN P c.toNat := by
  obtain ⟨n, rfl⟩ := Int.eq_ofNat_of_zero_le h0
  have e : ((n : Int) + 1).toNat = n + 1 := by omega
  rw [e, Int.toNat_natCast, mkN, cif_f h, Nat.or_zero]
theorem tb4 (x : Nat) : (x % 4 = 2 ↔ x.testBit 1 = true ∧ ¬ x.testBit 0 = true) ∧ (x % 4 = 1 ↔ x.testBit 0 = true ∧ ¬ x.testBit 1 = true) := by
  rw [Nat.testBit_eq_decide_div_mod_eq, Nat.testBit_eq_decide_div_mod_eq, decide_eq_true_eq, decide_eq_true_eq]
  simp only [Nat.pow_one, Nat.pow_zero, Nat.div_one]
  omega
theorem and3 (x : Nat) : x &&& 3 = x % 4 := Nat.and_two_pow_sub_one_eq_mod x 2
section
variable {S : Sl} {row : Int} {C : Nat}
theorem opn_lt {b r c : Int} (h0 : 0 ≤ b) (h1 : 0 ≤ r) (h2 : r < 6) (h : opn S (100 * b + 10 * r) c) : 0 ≤ c ∧ c < S 0 b 1 := by
  obtain ⟨h3, ⟨_, _, _, h4⟩, _⟩ := h
  rw [show (100 * b + 10 * r + c) / 100 = b by omega, show (100 * b + 10 * r + c) % 10 = c by omega] at h4
  exact ⟨h3.1, h4⟩
theorem tb_opn (hC : ∀ c, opn S row c → c < C) {i : Nat} : (mkN (opn S row) C).testBit i = true ↔ opn S row i := by
  rw [mkN_bit]
  exact ⟨fun h => h.2, fun h => ⟨by have := hC i h; omega, h⟩⟩
theorem hr_iff (hC : ∀ c, opn S row c → c < C) (hC2 : C ≤ 10) {f n : Int} (hf : 0 ≤ f) (hn : 1 ≤ n) (hfn : f + n ≤ 10) : andI (shrI (mkN (opn S row) C : Nat) f) (shlI 1 n - 1) = shlI 1 n - 1 ↔ are S row f n := by
  obtain ⟨f, rfl⟩ := Int.eq_ofNat_of_zero_le hf
  obtain ⟨n, rfl⟩ := Int.eq_ofNat_of_zero_le (show 0 ≤ n by omega)
  have hu := mkN_1024 (opn S row) hC2
  have hp : 1 ≤ 2 ^ n := Nat.one_le_two_pow
  have hs : mkN (opn S row) C >>> f ≤ mkN (opn S row) C := by rw [Nat.shiftRight_eq_div_pow]; exact Nat.div_le_self _ _
  have e1 : ((2 ^ n : Nat) : Int) - 1 = ((2 ^ n - 1 : Nat) : Int) := by omega
  rw [shl1 (by omega), e1, N_shr (by omega) (by omega), N_and (by omega), Nat.and_two_pow_sub_one_eq_mod]
  constructor
  · intro h k hk0 hk1
    obtain ⟨k, rfl⟩ := Int.eq_ofNat_of_zero_le hk0
    have h2 : mkN (opn S row) C >>> f % 2 ^ n = 2 ^ n - 1 := by omega
    have h3 := congrArg (fun x => x.testBit k) h2
    simp only [Nat.testBit_mod_two_pow, Nat.testBit_two_pow_sub_one, Nat.testBit_shiftRight] at h3
    rw [decide_eq_true (by omega : k < n), Bool.true_and] at h3
    exact tb_opn hC (i := f + k) |>.mp h3
  · intro h
    have : mkN (opn S row) C >>> f % 2 ^ n = 2 ^ n - 1 := by
      apply Nat.eq_of_testBit_eq
      intro k
      rw [Nat.testBit_mod_two_pow, Nat.testBit_two_pow_sub_one, Nat.testBit_shiftRight]
      by_cases q : k < n
      · rw [decide_eq_true q, Bool.true_and]
        exact (tb_opn hC).mpr (h k (by omega) (by omega))
      · rw [decide_eq_false q]; rfl
    rw [this]
theorem la_iff (hC : ∀ c, opn S row c → c < C) (hC2 : C ≤ 10) {f n : Int} (hf : 0 ≤ f) (hf2 : f ≤ 10) (hn : 1 ≤ n) (hn2 : n ≤ 10) : bi (andI (shrI (shlI (mkN (opn S row) C : Nat) 2) f) 3 = 2) + bi (andI (shrI (mkN (opn S row) C : Nat) (f + n)) 3 = 1) = la S row f n := by
  obtain ⟨f, rfl⟩ := Int.eq_ofNat_of_zero_le hf
  obtain ⟨n, rfl⟩ := Int.eq_ofNat_of_zero_le (show 0 ≤ n by omega)
  have hu := mkN_1024 (opn S row) hC2
  have hs : ∀ k, mkN (opn S row) C >>> k ≤ mkN (opn S row) C := fun k => by rw [Nat.shiftRight_eq_div_pow]; exact Nat.div_le_self _ _
  have hl : mkN (opn S row) C <<< 2 = mkN (opn S row) C * 4 := by rw [Nat.shiftLeft_eq]
  have hs2 : ∀ k, mkN (opn S row) C <<< 2 >>> k ≤ mkN (opn S row) C * 4 := fun k => by rw [Nat.shiftRight_eq_div_pow, hl]; exact Nat.div_le_self _ _
  have a1 := hs (f + n)
  have a2 := hs2 f
  have e3 : shlI (mkN (opn S row) C : Nat) 2 = ((mkN (opn S row) C <<< 2 : Nat) : Int) := N_shl (k := 2) (by omega) (by omega)
  have e4 : ((f : Int) + n) = ((f + n : Nat) : Int) := by omega
  have e5 : ∀ x : Nat, x < 2147483648 → andI x 3 = ((x % 4 : Nat) : Int) := fun x hx => by rw [show (3 : Int) = ((3 : Nat) : Int) from rfl, N_and hx, and3]
  unfold la
  rw [e3, e4, N_shr (by omega) (by omega), N_shr (by omega) (by omega), e5 _ (by omega), e5 _ (by omega)]
  congr 1
  · apply bi_iff
    have h1 : (((mkN (opn S row) C <<< 2 >>> f % 4 : Nat) : Int) = 2) ↔ mkN (opn S row) C <<< 2 >>> f % 4 = 2 := by omega
    rw [h1, (tb4 _).1, Nat.testBit_shiftRight, Nat.testBit_shiftRight, Nat.testBit_shiftLeft, Nat.testBit_shiftLeft]
    have k1 : ((decide (f + 1 ≥ 2) && (mkN (opn S row) C).testBit (f + 1 - 2)) = true) ↔ opn S row ((f : Int) - 1) := by
      by_cases q : f + 1 ≥ 2
      · rw [decide_eq_true q, Bool.true_and, tb_opn hC, show ((f + 1 - 2 : Nat) : Int) = (f : Int) - 1 by omega]
      · rw [decide_eq_false q, Bool.false_and]
        exact ⟨fun z => (by cases z), fun z => (by have := z.1.1; omega)⟩
    have k2 : ((decide (f + 0 ≥ 2) && (mkN (opn S row) C).testBit (f + 0 - 2)) = true) ↔ opn S row ((f : Int) - 2) := by
      by_cases q : f + 0 ≥ 2
      · rw [decide_eq_true q, Bool.true_and, tb_opn hC, show ((f + 0 - 2 : Nat) : Int) = (f : Int) - 2 by omega]
      · rw [decide_eq_false q, Bool.false_and]
        exact ⟨fun z => (by cases z), fun z => (by have := z.1.1; omega)⟩
    rw [k1, k2]
  · apply bi_iff
    have h1 : (((mkN (opn S row) C >>> (f + n) % 4 : Nat) : Int) = 1) ↔ mkN (opn S row) C >>> (f + n) % 4 = 1 := by omega
    rw [h1, (tb4 _).2, Nat.testBit_shiftRight, Nat.testBit_shiftRight, tb_opn hC, tb_opn hC, show ((f + n + 0 : Nat) : Int) = (f : Int) + n by omega, show ((f + n + 1 : Nat) : Int) = (f : Int) + n + 1 by omega]
    rfl
end
/-! counting bits -/
def bc1 (x : Int) : Int := x - andI (ushI x 1) 1431655765
def bc2 (x : Int) : Int := andI x 858993459 + andI (ushI x 2) 858993459
def bc3 (x : Int) : Int := andI (x + ushI x 4) 252645135
def bc4 (x : Int) : Int := x + ushI x 8
def bc5 (x : Int) : Int := x + ushI x 16
def pop10 (x : Nat) : Nat := x % 2 + x / 2 % 2 + x / 4 % 2 + x / 8 % 2 + x / 16 % 2 + x / 32 % 2 + x / 64 % 2 + x / 128 % 2 + x / 256 % 2 + x / 512 % 2
def sml (x : Int) : Bool := decide (-1000000000 ≤ x) && decide (x ≤ 1000000000)
set_option maxRecDepth 20000 in
theorem fin_bc : ∀ n, n < 1024 → (sml (bc1 (n : Nat)) && sml (bc2 (bc1 n)) && sml (bc2 (bc1 n) + ushI (bc2 (bc1 n)) 4) && sml (bc4 (bc3 (bc2 (bc1 n)))) && sml (bc5 (bc4 (bc3 (bc2 (bc1 n))))) && decide (andI (bc5 (bc4 (bc3 (bc2 (bc1 n))))) 63 = (pop10 n : Nat))) = true := by decide +kernel
theorem pop_mk (P : Int → Prop) {C : Nat} (hC : C ≤ 10) : ((pop10 (mkN P C) : Nat) : Int) = sm (fun c => bi (P c)) C := by
  have hb : ∀ k : Nat, ((mkN P C / 2 ^ k % 2 : Nat) : Int) = bi (k < C ∧ P k) := by
    intro k
    by_cases h : (mkN P C).testBit k = true
    · rw [bi_t ((mkN_bit P k C).mp h)]
      rw [Nat.testBit_eq_decide_div_mod_eq, decide_eq_true_eq] at h
      omega
    · rw [bi_f (fun z => h ((mkN_bit P k C).mpr z))]
      rw [Nat.testBit_eq_decide_div_mod_eq, decide_eq_true_eq] at h
      omega
  have h1 : sm (fun c => bi (P c)) C = sm (fun c => bi (c < C ∧ P c)) 10 := by
    have e := sm_app (f := fun c => bi (c < C ∧ P c)) C (10 - C)
    rw [show C + (10 - C) = 10 by omega] at e
    rw [e, sm_zero (f := fun k => bi ((C : Int) + k < C ∧ P (C + k))) (fun k h0 h1 => bi_f (fun z => by have := z.1; omega)), Int.add_zero]
    exact sm_congr (fun k h0 h1 => bi_iff ⟨fun z => ⟨h1, z⟩, fun z => z.2⟩)
  rw [h1]
  have hb2 : ∀ k : Nat, bi ((k : Int) < C ∧ P k) = ((mkN P C / 2 ^ k % 2 : Nat) : Int) := fun k => by rw [hb k]; exact bi_iff ⟨fun z => ⟨by omega, z.2⟩, fun z => ⟨by omega, z.2⟩⟩
  simp only [sm, hb2]
  unfold pop10
  simp only [Nat.pow_zero, Nat.div_one, Nat.reducePow]
  omega
