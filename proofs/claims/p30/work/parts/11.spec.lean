/-! 11: what a stadium is, in numbers: S kind i slot (0 blocks, 1 floor, 3 holds, 5 stadium, 6 tickets, 13 what chairs are, 14 which stages lie over them) -/
noncomputable def bi (p : Prop) : Int := @ite Int p (Classical.propDecidable p) 1 0
noncomputable def cif {α : Type} (p : Prop) (a b : α) : α := @ite α p (Classical.propDecidable p) a b
theorem bi_t {p : Prop} (h : p) : bi p = 1 := if_pos h
theorem bi_f {p : Prop} (h : ¬ p) : bi p = 0 := if_neg h
theorem cif_t {α : Type} {p : Prop} {a b : α} (h : p) : cif p a b = a := if_pos h
theorem cif_f {α : Type} {p : Prop} {a b : α} (h : ¬ p) : cif p a b = b := if_neg h
theorem bi_01 (p : Prop) : bi p = 0 ∨ bi p = 1 := by
  by_cases h : p
  · exact Or.inr (bi_t h)
  · exact Or.inl (bi_f h)
theorem bi_iff {p q : Prop} (h : p ↔ q) : bi p = bi q := by rw [propext h]
theorem bi_eq1 {p : Prop} : bi p = 1 ↔ p := ⟨fun h => by
  by_cases q : p
  · exact q
  · rw [bi_f q] at h; omega, bi_t⟩
theorem bi_eq0 {p : Prop} : bi p = 0 ↔ ¬ p := ⟨fun h q => by rw [bi_t q] at h; omega, bi_f⟩
theorem bi_ge (p : Prop) : 0 ≤ bi p := by rcases bi_01 p with h | h <;> omega
theorem bi_le (p : Prop) : bi p ≤ 1 := by rcases bi_01 p with h | h <;> omega
theorem is1 {p : Prop} (h : p) : (1 : Int) = bi p := (bi_t h).symm
theorem is0 {p : Prop} (h : ¬ p) : (0 : Int) = bi p := (bi_f h).symm
theorem bA_t {A B : Prop} (a : A) (b : ¬ B) : bi (A ∧ ¬ B) = 1 := bi_t ⟨a, b⟩
theorem bA_1 {A B : Prop} (a : ¬ A) : bi (A ∧ ¬ B) = 0 := bi_f (fun z => a z.1)
theorem bA_2 {A B : Prop} (b : B) : bi (A ∧ ¬ B) = 0 := bi_f (fun z => z.2 b)
theorem cA_t {α : Type} {A B : Prop} {x y : α} (a : A) (b : B) : cif (A ∧ B) x y = x := cif_t ⟨a, b⟩
theorem cA_1 {α : Type} {A B : Prop} {x y : α} (a : ¬ A) : cif (A ∧ B) x y = y := cif_f (fun z => a z.1)
theorem cA_2 {α : Type} {A B : Prop} {x y : α} (b : ¬ B) : cif (A ∧ B) x y = y := cif_f (fun z => b z.2)
theorem bO_1 {A B : Prop} (a : A) : bi (A ∨ B) = 1 := bi_t (Or.inl a)
theorem bO_2 {A B : Prop} (b : B) : bi (A ∨ B) = 1 := bi_t (Or.inr b)
theorem bO_f {A B : Prop} (a : ¬ A) (b : ¬ B) : bi (A ∨ B) = 0 := bi_f (fun z => z.elim a b)
theorem rint {v w : Int} (h : v = w) : (some (.inl v) : Option U) = some (.inl w) := by rw [h]
theorem ev_clp {X : XI} {e : ME} {pc z : Nat} {ls : List (Option U)} {st as rest : List U} {v : U} {M : NM} {Q : Option U → NM → Prop} (h : stS X e (pc, ls, st, M) = (none, some (.inr (.inl (z, as, rest))))) (hc : HT X z as M (fun r M' => r = some v ∧ M' = M)) (k : EvI X e (pc + 3, ls, v :: rest, M) Q) : EvI X e (pc, ls, st, M) Q :=
  ev_cl h hc (fun r M' q => by obtain ⟨rfl, rfl⟩ := q; exact k)
theorem ev_ifb {X : XI} {e : ME} {c : Prop} {t f : Nat} {ls : List (Option U)} {st : List U} {M : NM} {Q : Option U → NM → Prop} (a : ¬ c → EvI X e (t, ls, st, M) Q) (b : c → EvI X e (f, ls, st, M) Q) : EvI X e (if bi c = 0 then t else f, ls, st, M) Q := by
  by_cases h : c
  · rw [bi_t h, if_neg (by decide)]; exact b h
  · rw [bi_f h, if_pos rfl]; exact a h
abbrev Sl : Type := Nat → Int → Int → Int
/-! sums -/
def sm (f : Int → Int) : Nat → Int
  | 0 => 0
  | n + 1 => sm f n + f (n : Int)
theorem sm_step {f : Int → Int} {o : Int} (h : 0 ≤ o) : sm f (o + 1).toNat = sm f o.toNat + f o := by
  rw [show (o + 1).toNat = o.toNat + 1 by omega, sm, Int.toNat_of_nonneg h]
theorem sm_congr {f g : Int → Int} : ∀ {n : Nat}, (∀ k, 0 ≤ k → k < (n : Int) → f k = g k) → sm f n = sm g n := by
  intro n
  induction n with
  | zero => intro _; rfl
  | succ n ih => intro h; rw [sm, sm, ih (fun k h0 h1 => h k h0 (by omega)), h n (by omega) (by omega)]
theorem sm_bnd {f : Int → Int} {c : Int} (hf : ∀ k, 0 ≤ f k ∧ f k ≤ c) : ∀ n : Nat, 0 ≤ sm f n ∧ sm f n ≤ c * n := by
  intro n
  induction n with
  | zero => exact ⟨Int.le_refl _, by rw [sm]; omega⟩
  | succ n ih =>
    have := hf n
    rw [sm, show ((n + 1 : Nat) : Int) = (n : Int) + 1 from rfl, Int.mul_add]
    omega
theorem sm_bndr {f : Int → Int} {c : Int} : ∀ {n : Nat}, (∀ k, 0 ≤ k → k < (n : Int) → 0 ≤ f k ∧ f k ≤ c) → 0 ≤ sm f n ∧ sm f n ≤ c * n := by
  intro n
  induction n with
  | zero => intro _; exact ⟨Int.le_refl _, by rw [sm]; omega⟩
  | succ n ih =>
    intro hf
    have := hf n (by omega) (by omega)
    have := ih (fun k a b => hf k a (by omega))
    rw [sm, show ((n + 1 : Nat) : Int) = (n : Int) + 1 from rfl, Int.mul_add]
    omega
theorem acc {a s x y : Int} (h : x = y) : a + s + x = a + (s + y) := by rw [h]; omega
theorem acc0 {s x y : Int} (h : x = y) : s + x = s + y := by rw [h]
theorem smb_bnd (p : Int → Prop) (n : Nat) : 0 ≤ sm (fun k => bi (p k)) n ∧ sm (fun k => bi (p k)) n ≤ n := by
  have := sm_bnd (f := fun k => bi (p k)) (c := 1) (fun k => ⟨bi_ge _, bi_le _⟩) n
  omega
theorem sm_add {f g : Int → Int} : ∀ n : Nat, sm (fun k => f k + g k) n = sm f n + sm g n := by
  intro n
  induction n with
  | zero => rfl
  | succ n ih => rw [sm, sm, sm, ih]; omega
theorem sm_app {f : Int → Int} (n : Nat) : ∀ m : Nat, sm f (n + m) = sm f n + sm (fun k => f (n + k)) m := by
  intro m
  induction m with
  | zero => rw [Nat.add_zero, sm]; omega
  | succ m ih =>
    rw [show n + (m + 1) = (n + m) + 1 from rfl, sm, sm, ih, show ((n + m : Nat) : Int) = (n : Int) + m by omega]
    omega
theorem sm_zero {f : Int → Int} : ∀ {n : Nat}, (∀ k, 0 ≤ k → k < (n : Int) → f k = 0) → sm f n = 0 := by
  intro n
  induction n with
  | zero => intro _; rfl
  | succ n ih => intro h; rw [sm, ih (fun k h0 h1 => h k h0 (by omega)), h n (by omega) (by omega)]; rfl
theorem sm_pos {f : Int → Int} {k : Int} (hf : ∀ k, 0 ≤ f k) : ∀ {n : Nat}, 0 ≤ k → k < (n : Int) → f k ≤ sm f n := by
  intro n
  induction n with
  | zero => intro h0 h1; omega
  | succ n ih =>
    intro h0 h1
    have h2 : 0 ≤ sm f n := by
      have : ∀ n : Nat, 0 ≤ sm f n := by
        intro n
        induction n with
        | zero => exact Int.le_refl _
        | succ n ih => have := hf n; rw [sm]; omega
      exact this n
    have h3 := hf n
    rw [sm]
    by_cases q : k = n
    · subst q; omega
    · have := ih h0 (by omega); omega
/-- one place of a sum is changed -/
theorem sm_upd {f g : Int → Int} {k : Int} : ∀ {n : Nat}, 0 ≤ k → k < (n : Int) → (∀ i, 0 ≤ i → i < (n : Int) → i ≠ k → g i = f i) → sm g n = sm f n - f k + g k := by
  intro n
  induction n with
  | zero => intro h0 h1; omega
  | succ n ih =>
    intro h0 h1 h
    rw [sm, sm]
    by_cases q : k = n
    · subst q
      rw [sm_congr (f := g) (g := f) (fun i a b => h i a (by omega) (by omega))]
      omega
    · rw [ih h0 (by omega) (fun i a b c => h i a (by omega) c), h n (by omega) (by omega) (Ne.symm q)]
      omega
/-! words of the stadium -/
noncomputable def rk (S : Sl) (b : Int) : Int := sm (fun o => bi (S 0 o 2 < S 0 b 2)) (S 1 0 3).toNat
def isCh (S : Sl) (c : Int) : Prop := 0 ≤ c ∧ c / 100 < S 1 0 3 ∧ c / 10 % 10 < S 0 (c / 100) 0 ∧ c % 10 < S 0 (c / 100) 1
def kl (S : Sl) (c : Int) : Prop := andI (S 14 0 c) (S 1 0 5) ≠ 0
def upP (S : Sl) (s : Int) : Prop := andI (shrI (S 1 0 5) s) 1 = 1
def fo (S : Sl) (s c : Int) : Prop := andI (shrI (S 14 0 c) s) 1 = 1
def opn (S : Sl) (row c : Int) : Prop := (0 ≤ c ∧ c ≤ 9) ∧ isCh S (row + c) ∧ S 13 0 (row + c) = 0 ∧ ¬ kl S (row + c)
def are (S : Sl) (row c n : Int) : Prop := ∀ k, 0 ≤ k → k < n → opn S row (c + k)
noncomputable def la (S : Sl) (row c n : Int) : Int := bi (opn S row (c - 1) ∧ ¬ opn S row (c - 2)) + bi (opn S row (c + n) ∧ ¬ opn S row (c + n + 1))
noncomputable def plC (S : Sl) (row n : Int) (p : Int × Int) : Nat → Int × Int
  | 0 => p
  | c + 1 => cif (are S row c n ∧ la S row c n < (plC S row n p c).2) (row + c, la S row c n) (plC S row n p c)
noncomputable def plR (S : Sl) (b n i0 : Int) : Nat → Int × Int
  | 0 => (-9, i0)
  | r + 1 => plC S (100 * b + 10 * r) n (plR S b n i0 r) (S 0 b 1).toNat
noncomputable def pl (S : Sl) (b n : Int) : Int := (plR S b n 3 (S 0 b 0).toNat).1
noncomputable def gN (S : Sl) (b : Int) : Nat → Int
  | 0 => 0
  | n + 1 => cif (pl S b ((n : Int) + 1) ≠ -9) ((n : Int) + 1) (gN S b n)
noncomputable def isN (S : Sl) (c : Int) : Int := cif (0 < S 13 0 c) (1 + S 13 0 c) (cif (kl S c) 1 5)
noncomputable def ctR (P : Int → Prop) (row : Int) (n : Nat) : Int := sm (fun c => bi (P (row + c))) n
noncomputable def ct (S : Sl) (b : Int) (P : Int → Prop) : Int := sm (fun r => ctR P (100 * b + 10 * r) (S 0 b 1).toNat) (S 0 b 0).toNat
noncomputable def ctA (S : Sl) (P : Int → Prop) : Int := sm (fun b => ct S b P) (S 1 0 3).toNat
noncomputable def upF (S : Sl) (f n : Int) : Nat → Int
  | 0 => -9
  | b + 1 => cif ((rk S f < rk S b ∧ pl S b n ≠ -9) ∧ (upF S f n b = -9 ∨ rk S (upF S f n b) < rk S b)) (b : Int) (upF S f n b)
noncomputable def ff (P : Int → Prop) : Nat → Int → Int
  | 0, _ => -9
  | n + 1, k => cif (P k) k (ff P n (k + 1))
noncomputable def whN (S : Sl) (t : Int) : Int := cif (¬ (0 ≤ t ∧ t < S 5 0 4)) (-1) (cif (S 6 t 0 ≠ 0) (-2) 0)
/-- a group's chairs: in one row of a block -/
def HO (S : Sl) (f n : Int) : Prop := 0 ≤ f ∧ 1 ≤ n ∧ n ≤ 10 ∧ f / 100 < S 1 0 3 ∧ f / 10 % 10 < S 0 (f / 100) 0 ∧ f % 10 + n ≤ S 0 (f / 100) 1
def Iv0 (m : Int) (S : Sl) : Prop := (0 ≤ m ∧ m ≤ 62000) ∧ (0 ≤ S 1 0 3 ∧ S 1 0 3 ≤ 6) ∧ (0 ≤ S 1 0 4 ∧ S 1 0 4 ≤ 4) ∧ (0 ≤ S 1 0 5 ∧ S 1 0 5 < 16) ∧ (0 ≤ S 5 0 3 ∧ S 5 0 3 ≤ 20) ∧ (0 ≤ S 5 0 4 ∧ S 5 0 4 ≤ 20) ∧ (0 ≤ S 5 0 5 ∧ S 5 0 5 ≤ 9999) ∧ (S 5 0 6 = 0 ∨ S 5 0 6 = 1) ∧ (0 ≤ S 5 0 7 ∧ S 5 0 7 ≤ 5000 * m) ∧ (0 ≤ S 5 0 8 ∧ S 5 0 8 ≤ 5000 * m) ∧ (0 ≤ S 5 0 9 ∧ S 5 0 9 ≤ 20 * m)
def IvB (S : Sl) : Prop := ∀ b, 0 ≤ b → b < S 1 0 3 → (1 ≤ S 0 b 0 ∧ S 0 b 0 ≤ 6) ∧ (1 ≤ S 0 b 1 ∧ S 0 b 1 ≤ 10) ∧ (1 ≤ S 0 b 2 ∧ S 0 b 2 ≤ 500)
def IvC (S : Sl) : Prop := ∀ c, 0 ≤ c → c < 600 → (0 ≤ S 13 0 c ∧ S 13 0 c ≤ 3) ∧ (0 ≤ S 14 0 c ∧ S 14 0 c < 16) ∧ (¬ isCh S c → S 13 0 c = 0 ∧ S 14 0 c = 0) ∧ (kl S c → S 13 0 c = 0)
def IvH (S : Sl) : Prop := ∀ h, 0 ≤ h → h < S 5 0 3 → HO S (S 3 h 1) (S 3 h 2) ∧ (0 ≤ S 3 h 0 ∧ S 3 h 0 ≤ 3) ∧ (1 ≤ S 3 h 3 ∧ S 3 h 3 ≤ 10998)
def IvT (m : Int) (S : Sl) : Prop := ∀ t, 0 ≤ t → t < S 5 0 4 → HO S (S 6 t 1) (S 6 t 2) ∧ (0 ≤ S 6 t 0 ∧ S 6 t 0 ≤ 3) ∧ (0 ≤ S 6 t 3 ∧ S 6 t 3 ≤ 5000) ∧ (0 ≤ S 6 t 4 ∧ S 6 t 4 ≤ 20 * m)
/-- who has which chairs: of kind K (holds 3, tickets 6), whose state is 0, numbered below n: what their chairs are; no two have one -/
def IvO (S : Sl) (K : Nat) (n w : Int) : Prop := ∀ h, 0 ≤ h → h < n → S K h 0 = 0 → (∀ c, S K h 1 ≤ c → c < S K h 1 + S K h 2 → S 13 0 c = w) ∧ ∀ h', 0 ≤ h' → h' < n → S K h' 0 = 0 → h' ≠ h → S K h 1 + S K h 2 ≤ S K h' 1 ∨ S K h' 1 + S K h' 2 ≤ S K h 1
def Inv (m : Int) (S : Sl) : Prop := Iv0 m S ∧ IvB S ∧ IvC S ∧ IvH S ∧ IvT m S ∧ IvO S 3 (S 5 0 3) 1 ∧ IvO S 6 (S 5 0 4) 2 ∧ sm (fun h => bi (S 3 h 0 = 1)) (S 5 0 3).toNat = S 5 0 4
def Iw (m : Int) (S : Sl) : Prop := Iv0 m S ∧ IvB S
theorem Iw_of {m : Int} {S : Sl} (h : Inv m S) : Iw m S := ⟨h.1, h.2.1⟩
/-- the reference's row of numbers -/
def RR (a : Int → Int) (S : Sl) : Prop :=
  (a 0 = S 5 0 5 ∧ a 1 = S 5 0 6 ∧ a 2 = S 5 0 7 ∧ a 3 = S 5 0 8 ∧ True ∧ a 5 = S 5 0 9 ∧ a 6 = S 1 0 3 ∧ a 7 = S 1 0 4 ∧ a 8 = S 5 0 3 ∧ a 9 = S 5 0 4 ∧ a 10 = S 1 0 5)
  ∧ (∀ b w, 0 ≤ b → b < 6 → 0 ≤ w → w < 3 → a (11 + 3 * b + w) = S 0 b w)
  ∧ (∀ c, 0 ≤ c → c < 600 → c % 100 < 60 → a (29 + 60 * (c / 100) + c % 100) = S 13 0 c + 4 * S 14 0 c)
  ∧ (∀ h w, 0 ≤ h → h < 20 → 0 ≤ w → w < 5 → a (389 + 5 * h + w) = S 3 h w)
  ∧ (∀ t w, 0 ≤ t → t < 20 → 0 ≤ w → w < 5 → a (489 + 5 * t + w) = S 6 t w)
def RW (m : Int) (M : NM) (S : Sl) : Prop := RR (M 17 0 0) S ∧ Inv m S
/-! bits, case by case -/
theorem fin_and3 : ∀ w, w < 4 → ∀ s, s < 16 → andI ((w : Nat) + 4 * (s : Nat)) 3 = (w : Nat) := by decide +kernel
theorem fin_shr2 : ∀ w, w < 4 → ∀ s, s < 16 → shrI ((w : Nat) + 4 * (s : Nat)) 2 = (s : Nat) := by decide +kernel
theorem fin_shrs : ∀ w, w < 4 → ∀ s, s < 16 → ∀ g, g < 4 → shrI ((w : Nat) + 4 * (s : Nat)) (2 + (g : Nat)) = shrI (s : Nat) (g : Nat) := by decide +kernel
theorem b_and3 {w s : Int} (hw : 0 ≤ w ∧ w ≤ 3) (hs : 0 ≤ s ∧ s < 16) : andI (w + 4 * s) 3 = w := by
  obtain ⟨w, rfl⟩ := Int.eq_ofNat_of_zero_le hw.1
  obtain ⟨s, rfl⟩ := Int.eq_ofNat_of_zero_le hs.1
  exact fin_and3 w (by omega) s (by omega)
theorem b_shr2 {w s : Int} (hw : 0 ≤ w ∧ w ≤ 3) (hs : 0 ≤ s ∧ s < 16) : shrI (w + 4 * s) 2 = s := by
  obtain ⟨w, rfl⟩ := Int.eq_ofNat_of_zero_le hw.1
  obtain ⟨s, rfl⟩ := Int.eq_ofNat_of_zero_le hs.1
  exact fin_shr2 w (by omega) s (by omega)
theorem b_shrs {w s g : Int} (hw : 0 ≤ w ∧ w ≤ 3) (hs : 0 ≤ s ∧ s < 16) (hg : 0 ≤ g ∧ g < 4) : shrI (w + 4 * s) (2 + g) = shrI s g := by
  obtain ⟨w, rfl⟩ := Int.eq_ofNat_of_zero_le hw.1
  obtain ⟨s, rfl⟩ := Int.eq_ofNat_of_zero_le hs.1
  obtain ⟨g, rfl⟩ := Int.eq_ofNat_of_zero_le hg.1
  exact fin_shrs w (by omega) s (by omega) g (by omega)
theorem isCh_r {m : Int} {S : Sl} (hI : Inv m S) {c : Int} (h : isCh S c) : 0 ≤ c ∧ c < 600 ∧ c % 100 < 60 := by
  obtain ⟨h0, h1, h2, h3⟩ := h
  have q := hI.1.2.1
  have q2 := hI.2.1 (c / 100) (by omega) h1
  omega
theorem chR {m : Int} {M : NM} {S : Sl} (hW : RW m M S) {c : Int} (h : 0 ≤ c ∧ c < 600 ∧ c % 100 < 60) : M 17 0 0 (29 + 60 * (c / 100) + c % 100) = S 13 0 c + 4 * S 14 0 c ∧ (0 ≤ S 13 0 c ∧ S 13 0 c ≤ 3) ∧ (0 ≤ S 14 0 c ∧ S 14 0 c < 16) := by
  have q := hW.2.2.2.1 c h.1 h.2.1
  exact ⟨hW.1.2.2.1 c h.1 h.2.1 h.2.2, q.1, q.2.1⟩
theorem la_2 (S : Sl) (row c n : Int) : 0 ≤ la S row c n ∧ la S row c n ≤ 2 := by
  unfold la
  have h1 := bi_ge (opn S row (c - 1) ∧ ¬ opn S row (c - 2))
  have h2 := bi_le (opn S row (c - 1) ∧ ¬ opn S row (c - 2))
  have h3 := bi_ge (opn S row (c + n) ∧ ¬ opn S row (c + n + 1))
  have h4 := bi_le (opn S row (c + n) ∧ ¬ opn S row (c + n + 1))
  omega
theorem rk_r {m : Int} {S : Sl} (hI : Inv m S) (b : Int) : 0 ≤ rk S b ∧ rk S b ≤ 6 := by
  have q := hI.1.2.1
  have q2 := smb_bnd (fun o => S 0 o 2 < S 0 b 2) (S 1 0 3).toNat
  unfold rk
  omega
theorem isN_1 {S : Sl} {c : Int} (h : 0 < S 13 0 c) : isN S c = 1 + S 13 0 c := cif_t h
theorem isN_2 {S : Sl} {c : Int} (h : ¬ 0 < S 13 0 c) (k : kl S c) : isN S c = 1 := by unfold isN; rw [cif_f h, cif_t k]
theorem isN_3 {S : Sl} {c : Int} (h : ¬ 0 < S 13 0 c) (k : ¬ kl S c) : isN S c = 5 := by unfold isN; rw [cif_f h, cif_f k]
theorem ctR_bnd (P : Int → Prop) (row : Int) (n : Nat) : 0 ≤ ctR P row n ∧ ctR P row n ≤ n := smb_bnd _ n
theorem ctS_bnd (P : Int → Prop) (b : Int) {C : Nat} (hC : C ≤ 10) (n : Nat) : 0 ≤ sm (fun r => ctR P (100 * b + 10 * r) C) n ∧ sm (fun r => ctR P (100 * b + 10 * r) C) n ≤ 10 * n :=
  sm_bnd (fun k => by have := ctR_bnd P (100 * b + 10 * k) C; omega) n
theorem ct_bnd {m : Int} {S : Sl} (hI : Inv m S) (P : Int → Prop) {b : Int} (h : 0 ≤ b ∧ b < S 1 0 3) : 0 ≤ ct S b P ∧ ct S b P ≤ 60 := by
  have q := hI.2.1 b h.1 h.2
  have := ctS_bnd P b (C := (S 0 b 1).toNat) (by omega) (S 0 b 0).toNat
  unfold ct
  omega
theorem ctA_bnd {m : Int} {S : Sl} (hI : Inv m S) (P : Int → Prop) {n : Nat} (h : (n : Int) ≤ S 1 0 3) : 0 ≤ sm (fun b => ct S b P) n ∧ sm (fun b => ct S b P) n ≤ 360 := by
  have q := hI.1.2.1
  have := sm_bndr (f := fun b => ct S b P) (c := 60) (n := n) (fun k a b => ct_bnd hI P ⟨a, by omega⟩)
  omega
theorem upF_step {S : Sl} {f n b : Int} (h : 0 ≤ b) : upF S f n (b + 1).toNat = cif ((rk S f < rk S b ∧ pl S b n ≠ -9) ∧ (upF S f n b.toNat = -9 ∨ rk S (upF S f n b.toNat) < rk S b)) b (upF S f n b.toNat) := by
  rw [show (b + 1).toNat = b.toNat + 1 by omega, upF, Int.toNat_of_nonneg h]
theorem upF_r (S : Sl) (f n : Int) : ∀ k : Nat, upF S f n k = -9 ∨ (0 ≤ upF S f n k ∧ upF S f n k < k) := by
  intro k
  induction k with
  | zero => exact Or.inl rfl
  | succ k ih =>
    rw [upF]
    by_cases h : (rk S f < rk S k ∧ pl S k n ≠ -9) ∧ (upF S f n k = -9 ∨ rk S (upF S f n k) < rk S k)
    · rw [cif_t h]; omega
    · rw [cif_f h]; omega
theorem gN_step {S : Sl} {b n : Int} (h : 1 ≤ n) : gN S b n.toNat = cif (pl S b n ≠ -9) n (gN S b (n - 1).toNat) := by
  have e : n.toNat = (n - 1).toNat + 1 := by omega
  have e2 : ((n - 1).toNat : Int) + 1 = n := by omega
  rw [e, gN, e2]
theorem ff_step {P : Int → Prop} {N k : Int} (h : k < N) : ff P (N - k).toNat k = cif (P k) k (ff P (N - (k + 1)).toNat (k + 1)) := by
  rw [show (N - k).toNat = (N - (k + 1)).toNat + 1 by omega, ff]
theorem ff_end {P : Int → Prop} {N k : Int} (h : ¬ k < N) : ff P (N - k).toNat k = -9 := by
  rw [show (N - k).toNat = 0 by omega, ff]
def isPc (S : Sl) (f t : Int) : Prop := isCh S f ∧ isCh S t ∧ f / 100 = t / 100 ∧ f / 10 ≤ t / 10 ∧ f % 10 ≤ t % 10
/-! words for the class's side -/
abbrev sl (M : NM) (j : Int) : Sl := fun K i s => M K j i s
def fr (S : Sl) (c : Int) : Prop := isCh S c ∧ S 13 0 c = 0 ∧ ¬ kl S c
noncomputable def chN (S : Sl) (n : Int) : Nat → Int
  | 0 => -9
  | b + 1 => cif (pl S b n ≠ -9 ∧ (chN S n b = -9 ∨ S 0 b 2 < S 0 (chN S n b) 2)) (b : Int) (chN S n b)
theorem chN_step {S : Sl} {n b : Int} (h : 0 ≤ b) : chN S n (b + 1).toNat = cif (pl S b n ≠ -9 ∧ (chN S n b.toNat = -9 ∨ S 0 b 2 < S 0 (chN S n b.toNat) 2)) b (chN S n b.toNat) := by
  rw [show (b + 1).toNat = b.toNat + 1 by omega, chN, Int.toNat_of_nonneg h]
theorem chN_r (S : Sl) (n : Int) : ∀ k : Nat, chN S n k = -9 ∨ (0 ≤ chN S n k ∧ chN S n k < k) := by
  intro k
  induction k with
  | zero => exact Or.inl rfl
  | succ k ih =>
    rw [chN]
    by_cases h : pl S k n ≠ -9 ∧ (chN S n k = -9 ∨ S 0 k 2 < S 0 (chN S n k) 2)
    · rw [cif_t h]; omega
    · rw [cif_f h]; omega
noncomputable def chS (S : Sl) (c : Int) : Int := cif (isCh S c) (S 13 0 c + cif (kl S c) 10 0) (-1)
theorem isCh_mk {S : Sl} {b r c : Int} (hb0 : 0 ≤ b) (hb : b < S 1 0 3) (hr0 : 0 ≤ r) (hr : r < S 0 b 0) (hr2 : r < 6) (hc0 : 0 ≤ c) (hc : c < S 0 b 1) (hc2 : c < 10) : isCh S (100 * b + 10 * r + c) := by
  unfold isCh
  rw [show (100 * b + 10 * r + c) / 100 = b by omega, show (100 * b + 10 * r + c) / 10 % 10 = r by omega, show (100 * b + 10 * r + c) % 10 = c by omega]
  exact ⟨by omega, hb, hr, hc⟩
theorem plC_stop {S : Sl} {row n : Int} {p : Int × Int} {c : Nat} (h : ∀ c' : Int, c ≤ c' → ¬ are S row c' n) : ∀ d : Nat, plC S row n p (c + d) = plC S row n p c := by
  intro d
  induction d with
  | zero => rfl
  | succ d ih =>
    rw [show c + (d + 1) = (c + d) + 1 from rfl, plC, cA_1 (h _ (by omega)), ih]
theorem plC_1 {S : Sl} {row n : Int} {p p' : Int × Int} (h1 : p.1 = p'.1) (h2 : p.2 = p'.2 ∨ (2 < p.2 ∧ 2 < p'.2)) : ∀ k, (plC S row n p k).1 = (plC S row n p' k).1 ∧ ((plC S row n p k).2 = (plC S row n p' k).2 ∨ (2 < (plC S row n p k).2 ∧ 2 < (plC S row n p' k).2)) := by
  intro k
  induction k with
  | zero => exact ⟨h1, h2⟩
  | succ k ih =>
    rw [plC, plC]
    have hl := la_2 S row k n
    by_cases q : are S row k n
    · by_cases q2 : la S row k n < (plC S row n p k).2
      · rw [cA_t q q2, cA_t q (by omega)]; exact ⟨rfl, Or.inl rfl⟩
      · rw [cA_2 q2, cA_2 (by omega)]; exact ih
    · rw [cA_1 q, cA_1 q]; exact ih
theorem plR_i0 {S : Sl} {b n : Int} : ∀ k, (plR S b n 10 k).1 = (plR S b n 3 k).1 ∧ ((plR S b n 10 k).2 = (plR S b n 3 k).2 ∨ (2 < (plR S b n 10 k).2 ∧ 2 < (plR S b n 3 k).2)) := by
  intro k
  induction k with
  | zero => exact ⟨rfl, Or.inr ⟨by show (2 : Int) < 10; decide, by show (2 : Int) < 3; decide⟩⟩
  | succ k ih => rw [plR, plR]; exact plC_1 ih.1 ih.2 _
theorem ctR_opn {S : Sl} {row : Int} {C : Nat} (h : C ≤ 10) : sm (fun c => bi (opn S row c)) C = ctR (fr S) row C :=
  sm_congr (fun k h0 h1 => bi_iff ⟨fun z => z.2, fun z => ⟨⟨h0, by omega⟩, z⟩⟩)
noncomputable def neN (S : Sl) : Nat → Int
  | 0 => -9
  | h + 1 => cif (S 3 h 0 = 0 ∧ (neN S h = -9 ∨ S 3 h 3 - S 5 0 5 < neN S h)) (S 3 h 3 - S 5 0 5) (neN S h)
theorem neN_step {S : Sl} {h : Int} (q : 0 ≤ h) : neN S (h + 1).toNat = cif (S 3 h 0 = 0 ∧ (neN S h.toNat = -9 ∨ S 3 h 3 - S 5 0 5 < neN S h.toNat)) (S 3 h 3 - S 5 0 5) (neN S h.toNat) := by
  rw [show (h + 1).toNat = h.toNat + 1 by omega, neN, Int.toNat_of_nonneg q]
/-- how many were no-shows -/
def SHo (a : Int → Int) (S : Sl) : Prop := a 4 = sm (fun t => bi (S 6 t 0 = 3)) (S 5 0 4).toNat
/-! states that are changed -/
def st (S : Sl) (K : Nat) (i s v : Int) : Sl := fun K' i' s' => if K' = K ∧ i' = i ∧ s' = s then v else S K' i' s'
def bec (S : Sl) (f n w : Int) : Sl := fun K i s => if K = 13 ∧ i = 0 ∧ f ≤ s ∧ s < f + n then w else S K i s
def bcM (M : NM) (j f n w : Int) : NM := fun K j' i s => if K = 13 ∧ j' = j ∧ i = 0 ∧ f ≤ s ∧ s < f + n then w else M K j' i s
def ua (a : Int → Int) (p v : Int) : Int → Int := fun k => if k = p then v else a k
theorem sl_wri {M : NM} {K : Nat} {j i s v : Int} : sl (wri M K j i s v) j = st (sl M j) K i s v := by
  funext K' i' s'
  show (if K' = K ∧ j = j ∧ i' = i ∧ s' = s then v else M K' j i' s') = if K' = K ∧ i' = i ∧ s' = s then v else M K' j i' s'
  simp only [true_and]
theorem sl_bcM {M : NM} {j f n w : Int} : sl (bcM M j f n w) j = bec (sl M j) f n w := by
  funext K i s
  show (if K = 13 ∧ j = j ∧ i = 0 ∧ f ≤ s ∧ s < f + n then w else M K j i s) = if K = 13 ∧ i = 0 ∧ f ≤ s ∧ s < f + n then w else M K j i s
  simp only [true_and]
theorem wri_K {M : NM} {K K' : Nat} {j i s v : Int} (h : K' ≠ K) : wri M K j i s v K' = M K' := by
  funext j' i' s'
  exact if_neg (fun z => h z.1)
theorem wri_eq {M : NM} {K : Nat} {j i s v : Int} : wri M K j i s v K j i s = v := if_pos ⟨rfl, rfl, rfl, rfl⟩
theorem wri_nes {M : NM} {K : Nat} {j i s v j' i' s' : Int} (h : s' ≠ s) : wri M K j i s v K j' i' s' = M K j' i' s' := if_neg (fun z => h z.2.2.2)
theorem wri_nei {M : NM} {K : Nat} {j i s v j' i' s' : Int} (h : i' ≠ i) : wri M K j i s v K j' i' s' = M K j' i' s' := if_neg (fun z => h z.2.2.1)
theorem wri_nej {M : NM} {K : Nat} {j i s v j' i' s' : Int} (h : j' ≠ j) : wri M K j i s v K j' i' s' = M K j' i' s' := if_neg (fun z => h z.2.1)
theorem wri_17 {M : NM} {p v : Int} : wri M 17 0 0 p v 17 0 0 = ua (M 17 0 0) p v := by
  funext s'
  show (if 17 = 17 ∧ (0 : Int) = 0 ∧ (0 : Int) = 0 ∧ s' = p then v else M 17 0 0 s') = if s' = p then v else M 17 0 0 s'
  simp only [true_and]
theorem bcM_K {M : NM} {j f n w : Int} {K' : Nat} (h : K' ≠ 13) : bcM M j f n w K' = M K' := by
  funext j' i' s'
  exact if_neg (fun z => h z.1)
theorem bcM_0 {M : NM} {j f w : Int} : M = bcM M j f 0 w := by
  funext K j' i s
  exact (if_neg (fun z => by omega)).symm
theorem bcM_s {M : NM} {j f k w : Int} (h : 0 ≤ k) : wri (bcM M j f k w) 13 j 0 (f + k) w = bcM M j f (k + 1) w := by
  funext K j' i s
  unfold wri bcM
  by_cases z : K = 13 ∧ j' = j ∧ i = 0 ∧ s = f + k
  · rw [if_pos z, if_pos ⟨z.1, z.2.1, z.2.2.1, by omega, by omega⟩]
  · rw [if_neg z]
    by_cases y : K = 13 ∧ j' = j ∧ i = 0 ∧ f ≤ s ∧ s < f + k
    · rw [if_pos y, if_pos ⟨y.1, y.2.1, y.2.2.1, by omega, by omega⟩]
    · rw [if_neg y, if_neg (fun x => by
        by_cases q : s = f + k
        · exact z ⟨x.1, x.2.1, x.2.2.1, q⟩
        · exact y ⟨x.1, x.2.1, x.2.2.1, x.2.2.2.1, by omega⟩)]
def stK (K : Nat) : Prop := K = 0 ∨ K = 1 ∨ K = 3 ∨ K = 5 ∨ K = 6 ∨ K = 13 ∨ K = 14
/-- only the stadium j is changed -/
def FR (j : Int) (M M' : NM) : Prop := ∀ K j' i s, (j' ≠ j ∨ ¬ stK K) → M' K j' i s = M K j' i s
theorem FR_rf {j : Int} {M : NM} : FR j M M := fun _ _ _ _ _ => rfl
theorem FR_tr {j : Int} {M M1 M2 : NM} (h : FR j M M1) (k : FR j M1 M2) : FR j M M2 := fun K j' i s q => (k K j' i s q).trans (h K j' i s q)
theorem FR_wri {j : Int} {M M1 : NM} {K : Nat} {i s v : Int} (hK : stK K) (h : FR j M M1) : FR j M (wri M1 K j i s v) := fun K' j' i' s' q => by
  show (if K' = K ∧ j' = j ∧ i' = i ∧ s' = s then v else M1 K' j' i' s') = _
  rw [if_neg (fun z => q.elim (fun y => y z.2.1) (fun y => y (by rw [z.1]; exact hK)))]
  exact h _ _ _ _ q
theorem FR_bc {j : Int} {M M1 : NM} {f n w : Int} (h : FR j M M1) : FR j M (bcM M1 j f n w) := fun K' j' i' s' q => by
  show (if K' = 13 ∧ j' = j ∧ i' = 0 ∧ f ≤ s' ∧ s' < f + n then w else M1 K' j' i' s') = _
  rw [if_neg (fun z => q.elim (fun y => y z.2.1) (fun y => y (by rw [z.1]; unfold stK; omega)))]
  exact h _ _ _ _ q
theorem FR_sl {j j' : Int} {M M' : NM} (h : FR j M M') (q : j' ≠ j) : sl M' j' = sl M j' := by
  funext K i s; exact h K j' i s (Or.inl q)
theorem FR_K {j : Int} {M M' : NM} {K : Nat} (h : FR j M M') (q : ¬ stK K) : M' K = M K := by
  funext j' i s; exact h K j' i s (Or.inr q)
theorem stK_0 : stK 0 := Or.inl rfl
theorem stK_1 : stK 1 := Or.inr (Or.inl rfl)
theorem stK_3 : stK 3 := Or.inr (Or.inr (Or.inl rfl))
theorem stK_5 : stK 5 := Or.inr (Or.inr (Or.inr (Or.inl rfl)))
theorem stK_6 : stK 6 := Or.inr (Or.inr (Or.inr (Or.inr (Or.inl rfl))))
theorem stK_14 : stK 14 := Or.inr (Or.inr (Or.inr (Or.inr (Or.inr (Or.inr rfl)))))
/-! what an order does, and what it answers -/
def holdS (S : Sl) (f n w : Int) : Sl := st (bec (st (st (st (st (st S 3 (S 5 0 3) 0 0) 3 (S 5 0 3) 1 f) 3 (S 5 0 3) 2 n) 3 (S 5 0 3) 3 (S 5 0 5 + w)) 3 (S 5 0 3) 4 (-9)) f n 1) 5 0 3 (S 5 0 3 + 1)
noncomputable def opHold (S : Sl) (b n w : Int) : Int × Sl := cif (¬ ((0 ≤ b ∧ b < S 1 0 3) ∧ (1 ≤ n ∧ n ≤ 10) ∧ (1 ≤ w ∧ w ≤ 999))) (-1, S) (cif (pl S b n = -9) (-2, S) (cif (S 5 0 3 = 20) (-3, S) (S 5 0 3, holdS S (pl S b n) n w)))
noncomputable def buyS (S : Sl) (h : Int) : Sl :=
  st (st (st (bec (st (st (st (st (st (st S 6 (S 5 0 4) 0 (cif (S 5 0 6 = 0) 0 2)) 6 (S 5 0 4) 1 (S 3 h 1)) 6 (S 5 0 4) 2 (S 3 h 2)) 6 (S 5 0 4) 3 (S 3 h 2 * S 0 (S 3 h 1 / 100) 2)) 6 (S 5 0 4) 4 0) 5 0 7 (S 5 0 7 + S 3 h 2 * S 0 (S 3 h 1 / 100) 2)) (S 3 h 1) (S 3 h 2) (cif (S 5 0 6 = 0) 2 3)) 3 h 0 1) 3 h 4 (S 5 0 4)) 5 0 4 (S 5 0 4 + 1)
noncomputable def opBuy (S : Sl) (h : Int) : Int × Sl := cif (¬ (0 ≤ h ∧ h < S 5 0 3)) (-1, S) (cif (S 3 h 0 ≠ 0) (-2, S) (S 5 0 4, buyS S h))
noncomputable def opDrop (S : Sl) (h : Int) : Int × Sl := cif (¬ (0 ≤ h ∧ h < S 5 0 3)) (-1, S) (cif (S 3 h 0 ≠ 0) (-2, S) (S 3 h 2, bec (st S 3 h 0 2) (S 3 h 1) (S 3 h 2) 0))
noncomputable def opBack (S : Sl) (t : Int) : Int × Sl := cif (¬ (0 ≤ t ∧ t < S 5 0 4)) (-1, S) (cif (S 6 t 0 ≠ 0) (-2, S) (S 6 t 3 * 3 / 4, bec (st (st S 6 t 0 1) 5 0 8 (S 5 0 8 + S 6 t 3 * 3 / 4)) (S 6 t 1) (S 6 t 2) 0))
noncomputable def inS (S : Sl) (t : Int) : Sl := bec (st S 6 t 0 2) (S 6 t 1) (S 6 t 2) 3
noncomputable def opIn (S : Sl) (t : Int) : Int × Sl := cif (¬ (0 ≤ t ∧ t < S 5 0 4)) (-1, S) (cif (S 6 t 0 ≠ 0) (-2, S) (ctA (inS S t) (fun c => inS S t 13 0 c = 3), inS S t))
noncomputable def exN (S : Sl) (m : Int) : Nat → Sl
  | 0 => S
  | h + 1 => cif (S 3 h 0 = 0 ∧ S 3 h 3 ≤ m) (bec (st (exN S m h) 3 h 0 3) (S 3 h 1) (S 3 h 2) 0) (exN S m h)
noncomputable def opPass (S : Sl) (w : Int) : Int × Sl := cif (¬ (1 ≤ w ∧ w ≤ 999)) (-1, S) (cif (9999 < S 5 0 5 + w) (-2, S) (sm (fun h => bi (S 3 h 0 = 0 ∧ S 3 h 3 ≤ S 5 0 5 + w)) (S 5 0 3).toNat, exN (st S 5 0 5 (S 5 0 5 + w)) (S 5 0 5 + w) (S 5 0 3).toNat))
noncomputable def noN (S : Sl) : Nat → Sl
  | 0 => S
  | t + 1 => cif (S 6 t 0 = 0) (bec (st (noN S t) 6 t 0 3) (S 6 t 1) (S 6 t 2) 0) (noN S t)
noncomputable def opClose (S : Sl) : Int × Sl := cif (S 5 0 6 ≠ 0) (-2, S) (sm (fun t => cif (S 6 t 0 = 0) (S 6 t 2) 0) (S 5 0 4).toNat, noN (st S 5 0 6 1) (S 5 0 4).toNat)
def upS (S : Sl) (s : Int) : Sl := st S 1 0 5 (orI (S 1 0 5) (shlI 1 s))
noncomputable def opUp (S : Sl) (s : Int) : Int × Sl := cif (¬ (0 ≤ s ∧ s < S 1 0 4)) (-1, S) (cif (upP S s ∨ ∃ c : Int, 0 ≤ c ∧ c < 600 ∧ andI (S 14 0 c) (shlI 1 s) ≠ 0 ∧ S 13 0 c ≠ 0) (-2, S) (sm (fun c => bi (andI (S 14 0 c) (upS S s 1 0 5) ≠ 0)) 600, upS S s))
def dnS (S : Sl) (s : Int) : Sl := st S 1 0 5 (andI (S 1 0 5) (xorI (shlI 1 s) (-1)))
noncomputable def opDown (S : Sl) (s : Int) : Int × Sl := cif (¬ (0 ≤ s ∧ s < S 1 0 4)) (-1, S) (cif (¬ upP S s) (-2, S) (sm (fun c => bi (andI (S 14 0 c) (dnS S s 1 0 5) ≠ 0)) 600, dnS S s))
def pcI (f t c : Int) : Prop := f ≤ c ∧ c ≤ t ∧ f % 10 ≤ c % 10 ∧ c % 10 ≤ t % 10
noncomputable def pcS (S : Sl) (s f t : Int) : Sl := fun K i c => cif (K = 14 ∧ i = 0 ∧ pcI f t c) (orI (S 14 0 c) (shlI 1 s)) (S K i c)
noncomputable def opPiece (S : Sl) (s f t : Int) : Int × Sl := cif (¬ ((0 ≤ s ∧ s < S 1 0 4) ∧ isPc S f t)) (-1, S) (cif (upP S s) (-2, S) (sm (fun c => bi (andI (pcS S s f t 14 0 c) (shlI 1 s) ≠ 0)) 600, pcS S s f t))
def blkS (S : Sl) (x y z : Int) : Sl := st (st (st (st S 0 (S 1 0 3) 0 x) 0 (S 1 0 3) 1 y) 0 (S 1 0 3) 2 z) 1 0 3 (S 1 0 3 + 1)
noncomputable def opBlock (S : Sl) (x y z : Int) : Int × Sl := cif (¬ ((1 ≤ x ∧ x ≤ 6) ∧ (1 ≤ y ∧ y ≤ 10) ∧ (1 ≤ z ∧ z ≤ 500))) (-1, S) (cif (S 1 0 3 = 6) (-3, S) (S 1 0 3, blkS S x y z))
noncomputable def opStage (S : Sl) : Int × Sl := cif (S 1 0 4 = 4) (-3, S) (S 1 0 4, st S 1 0 4 (S 1 0 4 + 1))
noncomputable def pcM (M : NM) (j s f t k : Int) : NM := fun K j' i c => cif (K = 14 ∧ j' = j ∧ i = 0 ∧ pcI f t c ∧ c < k) (orI (M 14 j 0 c) (shlI 1 s)) (M K j' i c)
theorem pcM_0 {M : NM} {j s f t : Int} : M = pcM M j s f t f := by
  funext K j' i c
  exact (cif_f (fun z => by have := z.2.2.2.1.1; omega)).symm
theorem pcM_t {M : NM} {j s f t k : Int} (h : pcI f t k) : wri (pcM M j s f t k) 14 j 0 k (orI (pcM M j s f t k 14 j 0 k) (shlI 1 s)) = pcM M j s f t (k + 1) := by
  have e0 : pcM M j s f t k 14 j 0 k = M 14 j 0 k := cif_f (fun z => by omega)
  rw [e0]
  funext K j' i c
  unfold wri
  by_cases z : K = 14 ∧ j' = j ∧ i = 0 ∧ c = k
  · rw [if_pos z]
    obtain ⟨rfl, rfl, rfl, rfl⟩ := z
    exact (cif_t ⟨rfl, rfl, rfl, h, by omega⟩).symm
  · rw [if_neg z]
    unfold pcM
    by_cases y : K = 14 ∧ j' = j ∧ i = 0 ∧ pcI f t c ∧ c < k
    · rw [cif_t y, cif_t ⟨y.1, y.2.1, y.2.2.1, y.2.2.2.1, by omega⟩]
    · rw [cif_f y, cif_f (fun x => by
        by_cases q : c = k
        · exact z ⟨x.1, x.2.1, x.2.2.1, q⟩
        · exact y ⟨x.1, x.2.1, x.2.2.1, x.2.2.2.1, by omega⟩)]
theorem pcM_f {M : NM} {j s f t k : Int} (h : ¬ pcI f t k) : pcM M j s f t (k + 1) = pcM M j s f t k := by
  funext K j' i c
  unfold pcM
  by_cases y : K = 14 ∧ j' = j ∧ i = 0 ∧ pcI f t c ∧ c < k
  · rw [cif_t y, cif_t ⟨y.1, y.2.1, y.2.2.1, y.2.2.2.1, by omega⟩]
  · rw [cif_f y, cif_f (fun x => by
      by_cases q : c = k
      · exact h (by rw [← q]; exact x.2.2.2.1)
      · exact y ⟨x.1, x.2.1, x.2.2.1, x.2.2.2.1, by omega⟩)]
theorem sl_pcM {M : NM} {j s f t : Int} {k : Int} (hk : t < k) : sl (pcM M j s f t k) j = pcS (sl M j) s f t := by
  funext K i c
  show cif (K = 14 ∧ j = j ∧ i = 0 ∧ pcI f t c ∧ c < k) (orI (M 14 j 0 c) (shlI 1 s)) (M K j i c) = cif (K = 14 ∧ i = 0 ∧ pcI f t c) (orI (M 14 j 0 c) (shlI 1 s)) (M K j i c)
  by_cases y : K = 14 ∧ i = 0 ∧ pcI f t c
  · rw [cif_t y, cif_t ⟨y.1, rfl, y.2.1, y.2.2, by have := y.2.2.2.1; omega⟩]
  · rw [cif_f y, cif_f (fun x => y ⟨x.1, x.2.2.1, x.2.2.2.1⟩)]
theorem FR_pcM {M : NM} {j s f t k : Int} : FR j M (pcM M j s f t k) := fun K j' i c q => cif_f (fun z => q.elim (fun y => y z.2.1) (fun y => y (by rw [z.1]; exact stK_14)))
theorem exN_step {S : Sl} {m h : Int} (q : 0 ≤ h) : exN S m (h + 1).toNat = cif (S 3 h 0 = 0 ∧ S 3 h 3 ≤ m) (bec (st (exN S m h.toNat) 3 h 0 3) (S 3 h 1) (S 3 h 2) 0) (exN S m h.toNat) := by
  rw [show (h + 1).toNat = h.toNat + 1 by omega, exN, Int.toNat_of_nonneg q]
theorem noN_step {S : Sl} {t : Int} (q : 0 ≤ t) : noN S (t + 1).toNat = cif (S 6 t 0 = 0) (bec (st (noN S t.toNat) 6 t 0 3) (S 6 t 1) (S 6 t 2) 0) (noN S t.toNat) := by
  rw [show (t + 1).toNat = t.toNat + 1 by omega, noN, Int.toNat_of_nonneg q]
theorem exN_o {S : Sl} {m : Int} : ∀ (n : Nat) (K : Nat) (x s : Int), K ≠ 13 → (K = 3 → (n : Int) ≤ x) → exN S m n K x s = S K x s := by
  intro n
  induction n with
  | zero => intro K x s _ _; rfl
  | succ n ih =>
    intro K x s h1 h2
    rw [exN]
    by_cases q : S 3 n 0 = 0 ∧ S 3 n 3 ≤ m
    · rw [cif_t q]
      show (if K = 13 ∧ x = 0 ∧ S 3 n 1 ≤ s ∧ s < S 3 n 1 + S 3 n 2 then 0 else st (exN S m n) 3 n 0 3 K x s) = _
      rw [if_neg (fun z => h1 z.1)]
      show (if K = 3 ∧ x = n ∧ s = 0 then 3 else exN S m n K x s) = _
      rw [if_neg (fun z => by have := h2 z.1; omega)]
      exact ih K x s h1 (fun z => by have := h2 z; omega)
    · rw [cif_f q]; exact ih K x s h1 (fun z => by have := h2 z; omega)
theorem noN_o {S : Sl} : ∀ (n : Nat) (K : Nat) (x s : Int), K ≠ 13 → (K = 6 → (n : Int) ≤ x) → noN S n K x s = S K x s := by
  intro n
  induction n with
  | zero => intro K x s _ _; rfl
  | succ n ih =>
    intro K x s h1 h2
    rw [noN]
    by_cases q : S 6 n 0 = 0
    · rw [cif_t q]
      show (if K = 13 ∧ x = 0 ∧ S 6 n 1 ≤ s ∧ s < S 6 n 1 + S 6 n 2 then 0 else st (noN S n) 6 n 0 3 K x s) = _
      rw [if_neg (fun z => h1 z.1)]
      show (if K = 6 ∧ x = n ∧ s = 0 then 3 else noN S n K x s) = _
      rw [if_neg (fun z => by have := h2 z.1; omega)]
      exact ih K x s h1 (fun z => by have := h2 z; omega)
    · rw [cif_f q]; exact ih K x s h1 (fun z => by have := h2 z; omega)
theorem FR_cpi {j : Int} {M M1 : NM} {K : Nat} {j1 i1 i sp dp n : Int} (hK : stK K) (h : FR j M M1) : FR j M (cpi M1 K j1 i1 K j i sp dp n) := fun K' j' i' s' q => by
  show (if K' = K ∧ j' = j ∧ i' = i ∧ dp ≤ s' ∧ s' < dp + n then M1 K j1 i1 (sp + (s' - dp)) else M1 K' j' i' s') = _
  rw [if_neg (fun z => q.elim (fun y => y z.2.1) (fun y => y (by rw [z.1]; exact hK)))]
  exact h _ _ _ _ q
theorem stK_13 : stK 13 := Or.inr (Or.inr (Or.inr (Or.inr (Or.inr (Or.inl rfl)))))
/-- two stadiums are alike in all that counts -/
def SEf (S S' : Sl) : Prop := (∀ b w, 0 ≤ b → b < 6 → 0 ≤ w → w < 3 → S' 0 b w = S 0 b w) ∧ (∀ c, 0 ≤ c → c < 600 → S' 13 0 c = S 13 0 c) ∧ (∀ c, 0 ≤ c → c < 600 → S' 14 0 c = S 14 0 c) ∧ S' 1 0 3 = S 1 0 3 ∧ S' 1 0 4 = S 1 0 4 ∧ S' 1 0 5 = S 1 0 5
def SE (S S' : Sl) : Prop := SEf S S' ∧ (∀ h w, 0 ≤ h → h < 20 → 0 ≤ w → w < 5 → S' 3 h w = S 3 h w) ∧ (∀ h w, 0 ≤ h → h < 20 → 0 ≤ w → w < 5 → S' 6 h w = S 6 h w) ∧ ∀ s, 3 ≤ s → s < 10 → S' 5 0 s = S 5 0 s
/-- a row of n fields is copied -/
def CPY (K : Nat) (j j2 b n : Int) (M MM : NM) : Prop := (∀ s, 0 ≤ s → s < n → MM K j b s = M K j2 b s) ∧ ∀ K' j' i' s, ¬ (K' = K ∧ j' = j ∧ i' = b) → MM K' j' i' s = M K' j' i' s
theorem plC_step {S : Sl} {row n c : Int} {p : Int × Int} (h : 0 ≤ c) : plC S row n p (c + 1).toNat = cif (are S row c n ∧ la S row c n < (plC S row n p c.toNat).2) (row + c, la S row c n) (plC S row n p c.toNat) := by
  rw [show (c + 1).toNat = c.toNat + 1 by omega, plC, Int.toNat_of_nonneg h]
theorem plR_step {S : Sl} {b n i0 r : Int} (h : 0 ≤ r) : plR S b n i0 (r + 1).toNat = plC S (100 * b + 10 * r) n (plR S b n i0 r.toNat) (S 0 b 1).toNat := by
  rw [show (r + 1).toNat = r.toNat + 1 by omega, plR, Int.toNat_of_nonneg h]
