/-! 46: programs: the reference's words (wb_tb .. g_or: the kit's rows to paste) -/
theorem wb_tb (n : Nat) : (lN n).toBitVec = BitVec.ofNat 64 n := rfl
theorem wb_inj {a b : Int64} (h : a.toBitVec = b.toBitVec) : a = b := Int64.toBitVec_inj.mp h
theorem wb_c : ∀ k, k < 64 → ((nI k).toInt64 &&& 63) = lN k := by decide +kernel
theorem wb_sm : ∀ k, k < 64 → (BitVec.ofNat 64 k).smod 64 = BitVec.ofNat 64 k := by decide +kernel
theorem wb_shl (n : Nat) {k : Nat} (hk : k < 64) : lN n <<< ((nI k).toInt64 &&& 63) = lN (n * 2 ^ k) := by
  rw [wb_c k hk]
  apply wb_inj
  rw [Int64.toBitVec_shiftLeft, wb_tb, wb_tb, wb_tb, wb_sm k hk]
  apply BitVec.eq_of_toNat_eq
  rw [BitVec.shiftLeft_eq', BitVec.toNat_shiftLeft, BitVec.toNat_ofNat, BitVec.toNat_ofNat, BitVec.toNat_ofNat, Nat.mod_eq_of_lt (show k < 2 ^ 64 by omega), Nat.shiftLeft_eq, Nat.mul_mod, Nat.mod_mod, ← Nat.mul_mod]
theorem u_tn {n : Nat} (h : n < 2 ^ 64) : (UInt64.ofNat n).toNat = n := Nat.mod_eq_of_lt h
theorem g_or {k p a b : Nat} (hp : 2 ^ k = p) (ha : a < p) (h : b * p + a < 2 ^ 64) : lN (b * p) ||| lN a = lN (b * p + a) := by
  subst hp
  have h1 : b * 2 ^ k ||| a = b * 2 ^ k + a := by rw [← Nat.shiftLeft_eq, Nat.shiftLeft_add_eq_or_of_lt ha]
  have h3 : UInt64.ofNat (b * 2 ^ k) ||| UInt64.ofNat a = UInt64.ofNat (b * 2 ^ k + a) := UInt64.toNat_inj.mp (by rw [UInt64.toNat_or, u_tn (by omega), u_tn (by omega), u_tn h, h1])
  have h2 := congrArg UInt64.toInt64 h3
  exact h2
theorem oj_n (a : Nat) : Int64.ofInt (a : Int) = lN a := rfl
theorem p63 : (2 : Nat) ^ 63 = 9223372036854775808 := by decide
theorem p64 : (2 : Nat) ^ 64 = 18446744073709551616 := by decide
theorem lw_nat {n c : Nat} (hc : c < 256) (h : n * 256 + c < 9223372036854775808) : lorI (lshlI (n : Int) 8) (c : Int) = (n : Int) * 256 + (c : Int) := by
  have b3 : n * 256 + c < 2 ^ 63 := by rw [p63]; exact h
  have b1 : n * 256 < 2 ^ 63 := Nat.lt_of_le_of_lt (Nat.le_add_right _ _) b3
  have b2 : n * 256 + c < 2 ^ 64 := Nat.lt_trans b3 (by decide)
  have e0 : Int64.ofInt (n : Int) <<< ((Int32.ofInt 8).toInt64 &&& 63) = lN (n * 256) := wb_shl n (k := 8) (by decide)
  have e1 : lshlI (n : Int) 8 = ((n * 256 : Nat) : Int) := by
    unfold lshlI
    rw [e0, pk_lT b1]
  unfold lorI
  rw [e1, oj_n, oj_n, g_or (k := 8) rfl hc b2, pk_lT b3]
  clear h b1 b2 b3 e0 e1
  omega
theorem lw_step {v c : Int} (hv : 0 ≤ v) (hc : 0 ≤ c ∧ c < 256) (h : v * 256 + c < 9223372036854775808) : lorI (lshlI v 8) c = v * 256 + c := by
  obtain ⟨n, rfl⟩ := Int.eq_ofNat_of_zero_le hv
  obtain ⟨x, rfl⟩ := Int.eq_ofNat_of_zero_le hc.1
  have h2 : ((n * 256 + x : Nat) : Int) < ((9223372036854775808 : Nat) : Int) := h
  have hx := hc.2
  exact lw_nat (by clear h h2; omega) (Int.ofNat_lt.mp h2)
theorem lcm0 {a b : Int} : lcmI a b = 0 ↔ a = b := by
  unfold lcmI
  by_cases h : b < a
  · rw [if_pos h]; exact ⟨fun z => absurd z (by decide), fun z => absurd z (by omega)⟩
  · rw [if_neg h]
    by_cases k : a = b
    · rw [if_pos k]; exact ⟨fun _ => k, fun _ => rfl⟩
    · rw [if_neg k]; exact ⟨fun z => absurd z (by decide), fun z => absurd z k⟩
theorem rlng {a b : Int} (h : a = b) : (some (.inr (.inl a)) : Option U) = some (.inr (.inl b)) := by rw [h]
/-- signs packed, eight bits each -/
noncomputable def pkN (f : Nat → Int) : Nat → Int
  | 0 => 0
  | n + 1 => pkN f n * 256 + f n
theorem pkN_b {f : Nat → Int} : ∀ n : Nat, (∀ k, k < n → 0 ≤ f k ∧ f k ≤ 127) → 0 ≤ pkN f n ∧ 2 * pkN f n < ((256 ^ n : Nat) : Int) := by
  intro n
  induction n with
  | zero => intro _; exact ⟨Int.le_refl _, by show 2 * (0 : Int) < ((1 : Nat) : Int); decide⟩
  | succ n ih =>
    intro h
    have a := ih (fun k q => h k (by omega))
    have b := h n (by omega)
    show 0 ≤ pkN f n * 256 + f n ∧ 2 * (pkN f n * 256 + f n) < _
    rw [Nat.pow_succ]
    generalize 256 ^ n = p at *
    constructor
    · omega
    · omega
theorem pkN_cg {f g : Nat → Int} : ∀ n : Nat, (∀ k, k < n → f k = g k) → pkN f n = pkN g n := by
  intro n
  induction n with
  | zero => intro _; rfl
  | succ n ih => intro h; rw [pkN, pkN, ih (fun k q => h k (by omega)), h n (by omega)]
theorem pkN_inj {f g : Nat → Int} : ∀ n m : Nat, (∀ k, k < n → 1 ≤ f k ∧ f k ≤ 127) → (∀ k, k < m → 1 ≤ g k ∧ g k ≤ 127) → pkN f n = pkN g m → n = m ∧ ∀ k, k < n → f k = g k := by
  intro n
  induction n with
  | zero =>
    intro m _ hg e
    cases m with
    | zero => exact ⟨rfl, fun k q => by omega⟩
    | succ m =>
      have a := pkN_b (f := g) m (fun k q => by have := hg k (by omega); omega)
      have b := hg m (by omega)
      have e2 : (0 : Int) = pkN g m * 256 + g m := e
      omega
  | succ n ih =>
    intro m hf hg e
    have a := pkN_b (f := f) n (fun k q => by have := hf k (by omega); omega)
    have b := hf n (by omega)
    cases m with
    | zero =>
      have e2 : pkN f n * 256 + f n = (0 : Int) := e
      omega
    | succ m =>
      have c := pkN_b (f := g) m (fun k q => by have := hg k (by omega); omega)
      have d := hg m (by omega)
      have e2 : pkN f n * 256 + f n = pkN g m * 256 + g m := e
      have e3 : pkN f n = pkN g m ∧ f n = g m := by omega
      obtain ⟨x, y⟩ := ih m (fun k q => hf k (by omega)) (fun k q => hg k (by omega)) e3.1
      refine ⟨by omega, fun k q => ?_⟩
      by_cases z : k = n
      · rw [z, e3.2, x]
      · exact y k (by omega)
noncomputable def pkT (T : Int → Int) (s e : Int) : Int := pkN (fun n => T (s + (n : Int))) (e - s).toNat
theorem pkT_0 {T : Int → Int} {s : Int} : pkT T s s = 0 := by
  unfold pkT
  rw [show (s - s).toNat = 0 by omega]; rfl
theorem pkT_s {T : Int → Int} {s k : Int} (h : s ≤ k) : pkT T s (k + 1) = pkT T s k * 256 + T k := by
  unfold pkT
  rw [show (k + 1 - s).toNat = (k - s).toNat + 1 by omega, pkN, show s + ((k - s).toNat : Int) = k by omega]
theorem pkT_b {T : Int → Int} {s k : Int} (h : s ≤ k ∧ k - s ≤ 7) (hk : ∀ x, s ≤ x → x < k → kd (T x) = 1) : 0 ≤ pkT T s k ∧ pkT T s k < 36028797018963968 := by
  have a := pkN_b (f := fun n => T (s + (n : Int))) (k - s).toNat (fun n q => by have := kd_1.mp (hk (s + (n : Int)) (by omega) (by omega)); show 0 ≤ T (s + (n : Int)) ∧ T (s + (n : Int)) ≤ 127; omega)
  have b : 256 ^ (k - s).toNat ≤ 256 ^ 7 := Nat.pow_le_pow_right (by decide) (by omega)
  have c : (256 : Nat) ^ 7 = 72057594037927936 := by decide
  rw [c] at b
  unfold pkT
  generalize 256 ^ (k - s).toNat = p at *
  omega
/-- the reference's word -/
noncomputable def wdC (T : Int → Int) (L s : Int) : Int := cif (s < L ∧ kd (T s) = 1 ∧ tkE T L s - s < 9) (pkT T s (tkE T L s)) 0
theorem wd_e {T : Int → Int} {L s k v : Int} (hs : s ≤ L) (a3 : v = pkT T s k) (a4 : s < k → s < L ∧ kd (T s) = 1 ∧ tkE T L s - s < 9) (h : k = tkE T L s ∨ (k = s ∧ ¬ (s < L ∧ kd (T s) = 1 ∧ tkE T L s - s < 9))) : v = wdC T L s := by
  obtain ⟨t1, t2, t3, t4, t5⟩ := tk_r (T := T) hs
  rcases h with h | h
  · by_cases z : s < L
    · unfold wdC
      rw [cif_t (a4 (by have := t3 z; omega)), a3, h]
    · unfold wdC
      rw [cif_f (fun y => z y.1), a3, h, show tkE T L s = s from cif_f z, pkT_0]
  · unfold wdC
    rw [cif_f h.2, a3, h.1, pkT_0]
def ltr (W : List Nat) : Bool := W.all (fun c => Nat.ble 97 c && Nat.ble c 122) && Nat.blt 0 W.length && Nat.blt W.length 9
theorem ltr_at {W : List Nat} (h : ltr W = true) : (0 < W.length ∧ W.length < 9) ∧ ∀ k : Nat, k < W.length → 97 ≤ W.getD k 0 ∧ W.getD k 0 ≤ 122 := by
  unfold ltr at h
  rw [Bool.and_eq_true, Bool.and_eq_true] at h
  refine ⟨⟨Nat.le_of_ble_eq_true h.1.2, Nat.le_of_ble_eq_true h.2⟩, fun k hk => ?_⟩
  have h1 := List.all_eq_true.mp h.1.1 (W.getD k 0) (by
    rw [List.getD_eq_getElem?_getD, List.getElem?_eq_getElem hk]
    exact List.getElem_mem hk)
  rw [Bool.and_eq_true] at h1
  exact ⟨Nat.le_of_ble_eq_true h1.1, Nat.le_of_ble_eq_true h1.2⟩
theorem wd_W {T : Int → Int} {L s c : Int} {W : List Nat} (hs : s ≤ L) (hW : ltr W = true) (hc : pkN (fun n => Int.ofNat (W.getD n 0)) W.length = c) : wdC T L s = c ↔ isW T s (tkE T L s) W := by
  obtain ⟨t1, t2, t3, t4, t5⟩ := tk_r (T := T) hs
  obtain ⟨l1, l2⟩ := ltr_at hW
  have g1 : ∀ k, k < W.length → 1 ≤ Int.ofNat (W.getD k 0) ∧ Int.ofNat (W.getD k 0) ≤ 127 := fun k q => by
    have := l2 k q
    show 1 ≤ ((W.getD k 0 : Nat) : Int) ∧ ((W.getD k 0 : Nat) : Int) ≤ 127
    omega
  constructor
  · intro e
    have hn : s < L ∧ kd (T s) = 1 ∧ tkE T L s - s < 9 := Classical.byContradiction fun z => by
      have e0 : wdC T L s = 0 := cif_f z
      have x := pkN_inj (f := fun _ => 0) (g := fun n => Int.ofNat (W.getD n 0)) 0 W.length (fun k q => by omega) g1 (show (0 : Int) = _ by rw [hc, ← e, e0])
      omega
    rw [show wdC T L s = pkT T s (tkE T L s) from cif_t hn, ← hc] at e
    have x := pkN_inj (f := fun n => T (s + (n : Int))) (g := fun n => Int.ofNat (W.getD n 0)) (tkE T L s - s).toNat W.length (fun k q => by
      have h1 := t4 (s + (k : Int)) (by omega) (by omega)
      have := kd_1.mp (h1.trans hn.2.1)
      show 1 ≤ T (s + (k : Int)) ∧ T (s + (k : Int)) ≤ 127
      omega) g1 e
    refine ⟨by omega, fun k k0 k1 => ?_⟩
    have y := x.2 k.toNat (by omega)
    have z : T (s + (k.toNat : Int)) = Int.ofNat (W.getD k.toNat 0) := y
    rw [← z, show s + (k.toNat : Int) = s + k by omega]
  · intro e
    have e0 := e.2 0 (by omega) (by omega)
    have hl0 := l2 0 (by omega)
    have hs2 : s < L := Classical.byContradiction fun z => by
      have : tkE T L s = s := cif_f z
      have := e.1
      omega
    have hk : kd (T s) = 1 := kd_1.mpr (by
      rw [Int.add_zero] at e0
      have e1 : T s = ((W.getD 0 0 : Nat) : Int) := e0
      omega)
    have h9 : tkE T L s - s < 9 := by have := e.1; omega
    rw [show wdC T L s = pkT T s (tkE T L s) from cif_t ⟨hs2, hk, h9⟩, ← hc]
    unfold pkT
    rw [show (tkE T L s - s).toNat = W.length by have := e.1; omega]
    exact pkN_cg _ (fun k q => by
      have y := e.2 (k : Int) (by omega) (by omega)
      exact y)
noncomputable def ordW (w : Int) : Int := cif (w = 1752132708) 1 (cif (w = 6452601) 2 (cif (w = 1685221232) 3 (cif (w = 1650549611) 4 (cif (w = 26990) 5 (cif (w = 30064) 6 (cif (w = 2002872692) 7 0))))))
theorem ordW_wd {T : Int → Int} {L s : Int} (hs : s ≤ L) : ordW (wdC T L s) = ordC T L s := by
  unfold ordW ordC
  rw [propext (wd_W (T := T) (W := [104, 111, 108, 100]) hs (by decide) (c := 1752132708) (by rfl)), propext (wd_W (T := T) (W := [98, 117, 121]) hs (by decide) (c := 6452601) (by rfl)), propext (wd_W (T := T) (W := [100, 114, 111, 112]) hs (by decide) (c := 1685221232) (by rfl)), propext (wd_W (T := T) (W := [98, 97, 99, 107]) hs (by decide) (c := 1650549611) (by rfl)), propext (wd_W (T := T) (W := [105, 110]) hs (by decide) (c := 26990) (by rfl)), propext (wd_W (T := T) (W := [117, 112]) hs (by decide) (c := 30064) (by rfl)), propext (wd_W (T := T) (W := [119, 97, 105, 116]) hs (by decide) (c := 2002872692) (by rfl))]
/-! kinds -/
theorem srt_0 {T : Int → Int} {L s : Int} (h : s ≤ L) : srt T L s ≤ 0 ↔ s = L := by
  unfold srt
  by_cases q : s = L
  · rw [cif_t q]; exact ⟨fun _ => q, fun _ => Int.le_refl _⟩
  · rw [cif_f q]
    by_cases k : kd (T s) = 0
    · rw [cif_t k]; exact ⟨fun z => absurd z (by decide), fun z => absurd z q⟩
    · rw [cif_f k]
      have := kd_r (T s)
      exact ⟨fun z => by omega, fun z => absurd z q⟩
theorem srt_k {T : Int → Int} {L s k : Int} (h : s ≤ L) (hk : k = 1 ∨ k = 2) : srt T L s = k ↔ s < L ∧ kd (T s) = k := by
  unfold srt
  by_cases q : s = L
  · rw [cif_t q]; exact ⟨fun z => by omega, fun z => by omega⟩
  · rw [cif_f q]
    by_cases y : kd (T s) = 0
    · rw [cif_t y]; exact ⟨fun z => by omega, fun z => by omega⟩
    · rw [cif_f y]; exact ⟨fun z => ⟨by omega, z⟩, fun z => z.2⟩
theorem srt_3 {T : Int → Int} {L s : Int} (h : s ≤ L) : srt T L s = 3 ↔ s < L ∧ kd (T s) = 0 := by
  unfold srt
  by_cases q : s = L
  · rw [cif_t q]; exact ⟨fun z => by omega, fun z => by omega⟩
  · rw [cif_f q]
    by_cases y : kd (T s) = 0
    · rw [cif_t y]; exact ⟨fun z => ⟨by omega, y⟩, fun _ => rfl⟩
    · rw [cif_f y]
      have := kd_r (T s)
      exact ⟨fun z => by omega, fun z => absurd z.2 y⟩
theorem semi {T : Int → Int} {L s : Int} (h : s ≤ L) : isW T s (tkE T L s) ([59] : List Nat) ↔ srt T L s = 3 ∧ T s = 59 := by
  obtain ⟨t1, t2, t3, t4, t5⟩ := tk_r (T := T) h
  constructor
  · intro e
    have e1 : tkE T L s - s = 1 := e.1
    have e0 : T (s + 0) = 59 := e.2 0 (by decide) (by decide)
    rw [Int.add_zero] at e0
    have hs : s < L := Classical.byContradiction fun z => by
      have : tkE T L s = s := cif_f z
      omega
    exact ⟨(srt_3 h).mpr ⟨hs, by rw [e0]; exact kd_0 (by decide) (by decide)⟩, e0⟩
  · intro e
    have a := (srt_3 h).mp e.1
    have b := t5 a.1 a.2
    refine ⟨by rw [b]; show s + 1 - s = 1; omega, fun k k0 k1 => ?_⟩
    have k2 : k < 1 := k1
    obtain rfl : k = 0 := by omega
    rw [Int.add_zero, e.2]; rfl
theorem by_k {T : Int → Int} {L p : Int} : (97 ≤ cif (p < L) (T p) 0 ∧ cif (p < L) (T p) 0 ≤ 122) ↔ (p < L ∧ kd (T p) = 1) := by
  by_cases h : p < L
  · rw [cif_t h, kd_1]; exact ⟨fun z => ⟨h, z⟩, fun z => z.2⟩
  · rw [cif_f h]; exact ⟨fun z => by omega, fun z => absurd z.1 h⟩
theorem by_f {T : Int → Int} {L p : Int} : (48 ≤ cif (p < L) (T p) 0 ∧ cif (p < L) (T p) 0 ≤ 57) ↔ (p < L ∧ kd (T p) = 2) := by
  by_cases h : p < L
  · rw [cif_t h, kd_2]; exact ⟨fun z => ⟨h, z⟩, fun z => z.2⟩
  · rw [cif_f h]; exact ⟨fun z => by omega, fun z => absurd z.1 h⟩
theorem by_s {T : Int → Int} {L p : Int} : cif (p < L) (T p) 0 = 32 ↔ (p < L ∧ T p = 32) := by
  by_cases h : p < L
  · rw [cif_t h]; exact ⟨fun z => ⟨h, z⟩, fun z => z.2⟩
  · rw [cif_f h]; exact ⟨fun z => by omega, fun z => absurd z.1 h⟩
theorem tkE_k {T : Int → Int} {L q k : Int} (h : q < L) (h2 : kd (T q) = k) (hk : k = 1 ∨ k = 2) : tkE T L q = rn T L k q := by
  rw [tkE, cif_t h, cif_f (show ¬ kd (T q) = 0 by omega), h2]
  exact (rn_t h h2).symm
/-- a token's end, from its sort and a place in it -/
noncomputable def tkU (T : Int → Int) (L z u : Int) : Int := cif (z = 1) (rn T L 1 u) (cif (z = 2) (rn T L 2 u) u)
theorem tkU_1 {T : Int → Int} {L z u : Int} (h : z = 1) : tkU T L z u = rn T L 1 u := cif_t h
theorem tkU_2 {T : Int → Int} {L z u : Int} (h : z = 2) : tkU T L z u = rn T L 2 u := (cif_f (show ¬ z = 1 by omega)).trans (cif_t h)
theorem tkU_o {T : Int → Int} {L z u : Int} (h : z ≠ 1) (k : z ≠ 2) : tkU T L z u = u := (cif_f h).trans (cif_f k)
def isNb (T : Int → Int) (L s : Int) : Prop := s < L ∧ kd (T s) = 2 ∧ tkE T L s - s < 5 ∧ (tkE T L s - s = 1 ∨ T s ≠ 48)
theorem num_t {T : Int → Int} {L s : Int} (h : isNb T L s) : numC T L s = val T s (tkE T L s) := cif_t h
theorem num_f {T : Int → Int} {L s : Int} (h : ¬ isNb T L s) : numC T L s = -1 := cif_f h
theorem num_nn {T : Int → Int} {L s : Int} (hs : 0 ≤ s ∧ s ≤ L) (h : isNb T L s) : ¬ numC T L s = -1 := by
  obtain ⟨t1, t2, t3, t4, t5⟩ := tk_r (T := T) hs.2
  rw [num_t h]
  have := numC_r (T := T) hs (tkE T L s - s).toNat (fun x x0 x1 => (t4 x x0 (by omega)).trans h.2.1)
  show ¬ valN T s _ = -1
  omega
