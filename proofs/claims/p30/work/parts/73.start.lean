/-! 73: the start: the world of all zeros, its cells -/
theorem okM_0 : okM MN0 := fun _ _ _ _ => i32_0
def KM : List Key := [(17, 9, 0), (18, 9, 0), (19, 9, 0), (20, 9, 0), (21, 9, 0)]
def KAll : List Key := KB ++ KM
set_option maxRecDepth 100000 in
theorem AK_in : ∀ k ∈ AK, k ∈ KAll := by decide +kernel
abbrev kdB (K : Nat) : Prop := K ≤ 16 ∧ K ≠ 8
set_option maxRecDepth 100000 in
theorem KB_k : ∀ k ∈ KB, kdB k.1 := by decide +kernel
theorem ent_kB {dA : Nat → ClassId} {ad ac : Key → Nat} (h : ∀ k : Key, kdB k.1 → ad k = ac k) {k : Key} (hk : kdB k.1) : ent dA ad MZ k = ent dA ac MZ k := by
  obtain ⟨K, j, i⟩ := k
  have hK : K ≤ 16 ∧ K ≠ 8 := hk
  have h0 : K = 0 ∨ K = 1 ∨ K = 2 ∨ K = 3 ∨ K = 4 ∨ K = 5 ∨ K = 6 ∨ K = 7 ∨ K = 9 ∨ K = 10 ∨ K = 11 ∨ K = 12 ∨ K = 13 ∨ K = 14 ∨ K = 15 ∨ K = 16 := by omega
  rcases h0 with rfl | rfl | rfl | rfl | rfl | rfl | rfl | rfl | rfl | rfl | rfl | rfl | rfl | rfl | rfl | rfl
  · rfl
  · show (Sum.inr (1, [Value.ref (ad (9, j, 0)), Value.ref (ad (13, j, 0)), Value.ref (ad (14, j, 0)), .int 0, .int 0, .int 0]) : va_E) = Sum.inr (1, [Value.ref (ac (9, j, 0)), Value.ref (ac (13, j, 0)), Value.ref (ac (14, j, 0)), .int 0, .int 0, .int 0])
    rw [h (9, j, 0) (by decide : kdB 9), h (13, j, 0) (by decide : kdB 13), h (14, j, 0) (by decide : kdB 14)]
  · show (Sum.inr (2, [Value.ref (ad (12, 0, 0)), .int 0, .int 0]) : va_E) = Sum.inr (2, [Value.ref (ac (12, 0, 0)), .int 0, .int 0])
    rw [h (12, 0, 0) (by decide : kdB 12)]
  · rfl
  · show (Sum.inr (4, [Value.ref (ad (15, 0, 0)), Value.ref (ad (16, 0, 0)), .int 0, .int 0, .int 0]) : va_E) = Sum.inr (4, [Value.ref (ac (15, 0, 0)), Value.ref (ac (16, 0, 0)), .int 0, .int 0, .int 0])
    rw [h (15, 0, 0) (by decide : kdB 15), h (16, 0, 0) (by decide : kdB 16)]
  · show (Sum.inr (5, [Value.ref (ad (1, j, 0)), Value.ref (ad (10, j, 0)), Value.ref (ad (11, j, 0)), .int 0, .int 0, .int 0, .int 0, .int 0, .int 0, .int 0]) : va_E) = Sum.inr (5, [Value.ref (ac (1, j, 0)), Value.ref (ac (10, j, 0)), Value.ref (ac (11, j, 0)), .int 0, .int 0, .int 0, .int 0, .int 0, .int 0, .int 0])
    rw [h (1, j, 0) (by decide : kdB 1), h (10, j, 0) (by decide : kdB 10), h (11, j, 0) (by decide : kdB 11)]
  · rfl
  · show (Sum.inr (7, [Value.ref (ad (5, 0, 0)), Value.ref (ad (5, 1, 0)), Value.ref (ad (2, 0, 0)), Value.ref (ad (4, 0, 0))]) : va_E) = Sum.inr (7, [Value.ref (ac (5, 0, 0)), Value.ref (ac (5, 1, 0)), Value.ref (ac (2, 0, 0)), Value.ref (ac (4, 0, 0))])
    rw [h (5, 0, 0) (by decide : kdB 5), h (5, 1, 0) (by decide : kdB 5), h (2, 0, 0) (by decide : kdB 2), h (4, 0, 0) (by decide : kdB 4)]
  · show (Sum.inl (dA 2, 6, .inr (.inr (.inr (.inr (fun n => some (ad (0, j, n))))))) : va_E) = Sum.inl (dA 2, 6, .inr (.inr (.inr (.inr (fun n => some (ac (0, j, n)))))))
    rw [show (fun n => some (ad (0, j, n))) = fun n => some (ac (0, j, n)) from funext fun n => by rw [h (0, j, n) (by decide : kdB 0)]]
  · show (Sum.inl (dA 3, 20, .inr (.inr (.inr (.inr (fun n => some (ad (3, j, n))))))) : va_E) = Sum.inl (dA 3, 20, .inr (.inr (.inr (.inr (fun n => some (ac (3, j, n)))))))
    rw [show (fun n => some (ad (3, j, n))) = fun n => some (ac (3, j, n)) from funext fun n => by rw [h (3, j, n) (by decide : kdB 3)]]
  · show (Sum.inl (dA 4, 20, .inr (.inr (.inr (.inr (fun n => some (ad (6, j, n))))))) : va_E) = Sum.inl (dA 4, 20, .inr (.inr (.inr (.inr (fun n => some (ac (6, j, n)))))))
    rw [show (fun n => some (ad (6, j, n))) = fun n => some (ac (6, j, n)) from funext fun n => by rw [h (6, j, n) (by decide : kdB 6)]]
  · show (Sum.inl (dA 5, 6, .inr (.inr (.inr (.inr (fun n => some (ad (5, 2 + n, 0))))))) : va_E) = Sum.inl (dA 5, 6, .inr (.inr (.inr (.inr (fun n => some (ac (5, 2 + n, 0)))))))
    rw [show (fun n => some (ad (5, 2 + n, 0))) = fun n => some (ac (5, 2 + n, 0)) from funext fun n => by rw [h (5, 2 + n, 0) (by decide : kdB 5)]]
  · rfl
  · rfl
  · rfl
  · rfl
theorem WL_KB {dA : Nat → ClassId} {ad ac : Key → Nat} (h : ∀ k : Key, kdB k.1 → ad k = ac k) : WL dA ad KB = WL dA ac KB := WL_cg (fun k hk => ⟨h k (KB_k k hk), ent_kB h (KB_k k hk)⟩)
/-- out of the cells that the constructors made: the machine's cells -/
theorem WS_of {D : va_G} {dA : Nat → ClassId} {ad : Key → Nat} {H : Heap} (h : va_P D vwCl (WL dA ad KAll) H) : va_P D vwCl (WS dA ad (cM MN0)) H := by
  refine vP_mem.mpr (fun q hq => ?_)
  obtain ⟨k, hk, rfl⟩ := List.mem_map.mp hq
  exact vP_mem.mp h (ad k, ent dA ad MZ k) (List.mem_map.mpr ⟨k, AK_in k hk, rfl⟩)
theorem AA_of {A : Nat → Prop} {dA : Nat → ClassId} {ad : Key → Nat} (h : va_D A (WL dA ad KAll)) {q : Nat} (hq : AA ad q) : A q := by
  obtain ⟨k, hk, rfl⟩ := hq
  obtain ⟨i, hi⟩ := List.getElem?_of_mem (AK_in k hk)
  exact h.2 i (ad k, ent dA ad MZ k) (by unfold WL; rw [List.getElem?_map, hi]; rfl)
theorem DD_of {A : Nat → Prop} {dA : Nat → ClassId} {ad : Key → Nat} (h : va_D A (WL dA ad KAll)) (M : Mem) : va_D (AA ad) (WS dA ad M) := by
  have key : ∀ (i : Nat) (p : Nat × va_E), (WS dA ad M)[i]? = some p → ∃ k, AK[i]? = some k ∧ p = (ad k, ent dA ad M k) := by
    intro i p hp
    unfold WS at hp
    rw [List.getElem?_map] at hp
    cases hk : AK[i]? with
    | none => rw [hk] at hp; cases hp
    | some k => rw [hk] at hp; exact ⟨k, rfl, (Option.some.inj hp).symm⟩
  refine ⟨fun i j p q hi hj hpq => ?_, fun i p hp => ?_⟩
  · obtain ⟨k1, a1, rfl⟩ := key i p hi
    obtain ⟨k2, a2, rfl⟩ := key j q hj
    have e0 : ad k1 = ad k2 := hpq
    obtain ⟨i1, b1⟩ := List.getElem?_of_mem (AK_in k1 (List.mem_of_getElem? a1))
    obtain ⟨i2, b2⟩ := List.getElem?_of_mem (AK_in k2 (List.mem_of_getElem? a2))
    have c1 : (WL dA ad KAll)[i1]? = some (ad k1, ent dA ad MZ k1) := by unfold WL; rw [List.getElem?_map, b1]; rfl
    have c2 : (WL dA ad KAll)[i2]? = some (ad k2, ent dA ad MZ k2) := by unfold WL; rw [List.getElem?_map, b2]; rfl
    have e1 := h.1 i1 i2 _ _ c1 c2 e0
    subst e1
    obtain rfl : k1 = k2 := Option.some.inj (b1.symm.trans b2)
    exact nodupB_inj AK AK_nodup i j k1 a1 a2
  · obtain ⟨k, a1, rfl⟩ := key i p hp
    exact ⟨k, List.mem_of_getElem? a1, rfl⟩
theorem m_t {w : Jvm.Cond} (k : Nat) (h : tables_1[k]? = some w) (g : goodWord w = true := by rfl) : w ∈ gtbl := mem_t h g
theorem lw_m {w : Jvm.Cond} (k : Nat) (h : tables_1[k]? = some w) : w ∈ lw_tbl := List.mem_append_right _ (List.mem_of_getElem? h)
theorem start_N {s : State} {args : Array Value} (hts0 : ∀ w ∈ lw_tbl, w.before args s = true) : Nst s := ⟨⟨va_Nw.of rfl (hts0 _ (lw_m 34 (by decide +kernel))), va_Nw.of rfl (hts0 _ (lw_m 78 (by decide +kernel))), va_Nw.of rfl (hts0 _ (lw_m 104 (by decide +kernel)))⟩, va_AO.of (hts0 _ (lw_m 32 (by decide +kernel))), va_AO.of (hts0 _ (lw_m 74 (by decide +kernel))), va_AO.of (hts0 _ (lw_m 76 (by decide +kernel))), va_AO.of (hts0 _ (lw_m 168 (by decide +kernel)))⟩
theorem inst_w : ∀ K, K < 8 → Cond.instantiable (clC K) (clN K) ∈ gtbl := by
  intro K hK
  have h0 : K = 0 ∨ K = 1 ∨ K = 2 ∨ K = 3 ∨ K = 4 ∨ K = 5 ∨ K = 6 ∨ K = 7 := by omega
  rcases h0 with rfl | rfl | rfl | rfl | rfl | rfl | rfl | rfl
  · exact m_t 33 (by decide +kernel)
  · exact m_t 26 (by decide +kernel)
  · exact m_t 162 (by decide +kernel)
  · exact m_t 77 (by decide +kernel)
  · exact m_t 182 (by decide +kernel)
  · exact m_t 20 (by decide +kernel)
  · exact m_t 103 (by decide +kernel)
  · exact m_t 12 (by decide +kernel)
theorem start_K {s : State} {args : Array Value} (hts : ∀ w ∈ gtbl, w.before args s = true) (hN : Nst s) : ∃ (D : va_G) (dA : Nat → ClassId), va_K D vwCl (tysA dA) s := by
  have hc : ∀ k, k < 8 → ∃ (cC : ClassId) (iS : Nat → Nat), u_Kn s (clC k) (clT k) (clN k) cC iS := fun k hk => u_known hts (cl_in k hk) (hts _ (inst_w k hk))
  have hc2 : ∀ k : Nat, ∃ q : ClassId × (Nat → Nat), k < 8 → u_Kn s (clC k) (clT k) (clN k) q.1 q.2 := by
    intro k
    by_cases hk : k < 8
    · obtain ⟨cC, iS, hh⟩ := hc k hk
      exact ⟨(cC, iS), fun _ => hh⟩
    · obtain ⟨cC, iS, _⟩ := hc 0 (by decide)
      exact ⟨(cC, iS), fun z => absurd z hk⟩
  obtain ⟨fK, hfK⟩ := Classical.axiomOfChoice hc2
  obtain ⟨c0, k0, m0, i1, i2, i3⟩ := Cond.arrayClass_spec (hts _ (m_t 72 (by decide +kernel) : Cond.arrayClass .int ∈ gtbl))
  obtain ⟨c1, k1, m1, j1, j2, j3⟩ := Cond.arrayClass_spec (hts _ (m_t 201 (by decide +kernel) : Cond.arrayClass .char ∈ gtbl))
  obtain ⟨m2, c2, k2, o1, _, o3, o4, o5⟩ := Cond.arrayOver_spec hN.2.1
  obtain ⟨m3, c3, k3, p1, _, p3, p4, p5⟩ := Cond.arrayOver_spec hN.2.2.1
  obtain ⟨m4, c4, k4, q1, _, q3, q4, q5⟩ := Cond.arrayOver_spec hN.2.2.2.1
  obtain ⟨m5, c5, k5, r1, _, r3, r4, r5⟩ := Cond.arrayOver_spec hN.2.2.2.2
  refine ⟨(fun k => (fK k).1, fun k => (fK k).2), fun k => match k with | 0 => c0 | 1 => c1 | 2 => c2 | 3 => c3 | 4 => c4 | _ => c5, fun k q hq => ?_, fun k q hq => ?_⟩
  · have hk : k < 8 := (List.getElem?_eq_some_iff.mp hq).1
    have e0 := cl_at k hk
    rw [hq] at e0
    obtain rfl := Option.some.inj e0
    exact hfK k hk
  · match k, hq with
    | 0, hq => cases hq; exact ⟨fun N z => ⟨fun k h => (by cases h), k0, i2, m0, i3⟩, i1⟩
    | 1, hq => cases hq; exact ⟨fun N z => ⟨fun k h => (by cases h), k1, j2, m1, j3⟩, j1⟩
    | 2, hq => cases hq; exact ⟨fun N z => ⟨fun k h => (by cases h), k2, o3, m2, o4⟩, k2, m2, o3, o4, o1, o5⟩
    | 3, hq => cases hq; exact ⟨fun N z => ⟨fun k h => (by cases h), k3, p3, m3, p4⟩, k3, m3, p3, p4, p1, p5⟩
    | 4, hq => cases hq; exact ⟨fun N z => ⟨fun k h => (by cases h), k4, q3, m4, q4⟩, k4, m4, q3, q4, q1, q5⟩
    | 5, hq => cases hq; exact ⟨fun N z => ⟨fun k h => (by cases h), k5, r3, m5, r4⟩, k5, m5, r3, r4, r1, r5⟩
    | k + 6, hq => simp [tysA] at hq
