/-! 07: soundness of runs: calls and returns -/
theorem len_ok : ∀ e ∈ MT, (eI e).all (fun q => lenOK q.2.1 q.2.2) = true := by decide +kernel
theorem MT_len : MT.length = 108 := by decide +kernel
/-- the decode rows of a method of the table that is called, or is the law -/
theorem dec_at {z : Nat} (hz : z < 99 ∨ z = 107) {e : ME} (he : nth MT z = some e) : ∀ q ∈ eI e, decode (eB e) q.1 = .ok q.2 := by
  rcases hz with hz | rfl
  · exact (mw_at z hz e he).2.2
  · have h2 : nth MT 107 = some E_L_law := rfl
    rw [h2] at he
    cases he
    exact dc_L_law
def RetK (e : ME) (r : Option V) (I : Instr) : Prop :=
  (∃ v, r = some (.inl v) ∧ I = .ireturn ∧ (eR e = some .int ∨ (eR e = some .boolean ∧ isb v = true))) ∨ (∃ v, r = some (.inr (.inl v)) ∧ I = .lreturn ∧ eR e = some .long) ∨ (∃ v nm, r = some (.inr (.inr v)) ∧ I = .areturn ∧ eR e = some (.object nm)) ∨ (r = none ∧ I = .return_ ∧ eR e = none)
def vokO : Option V → Prop
  | some v => vok v
  | none => True
theorem doCall_spec {X : SX} {e0 : ME} {z pc z' : Nat} {virt : Bool} {ls : List (Option V)} {st as rest : List V} {M : Mem} (h : doCall X e0 z virt pc ls st M = some (.inr (.inl (z', as, rest)))) :
    z' = z ∧ ∃ e, nth MT z = some e ∧ (eF e + 1 ≤ eF e0 ∧ 8 + (eL e + 11) + eW e ≤ eW e0) ∧ catS rest ≤ 8 ∧ (argS as).length ≤ eL e ∧ (eG e = false → (argS as).length = as.length) ∧
      ((virt = true ∧ eS e = false ∧ ∃ (k : Key) (as0 : List V), as = .inr (.inr (some k)) :: as0 ∧ k.1 = eO e ∧ st = as0.reverse ++ .inr (.inr (some k)) :: rest ∧ as0.length = eN e) ∨ (virt = false ∧ eS e = true ∧ st = as.reverse ++ rest ∧ as.length = eN e)) := by
  unfold doCall at h
  cases h0 : Nat.beq z 1000 with
  | true =>
    rw [h0, cond_true] at h
    split at h
    · split at h
      · replace h := (gd_some h).2; cases h
      · cases h
    · cases h
  | false =>
    rw [h0, cond_false] at h
    cases h1 : Nat.beq z 1001 with
    | true =>
      rw [h1, cond_true] at h
      split at h
      · split at h
        · replace h := (gd_some h).2; cases h
        · cases h
      · cases h
    | false =>
      rw [h1, cond_false] at h
      cases h2 : Nat.beq z 1002 with
      | true =>
        rw [h2, cond_true] at h
        split at h
        · split at h
          · replace h := (gd_some h).2; cases h
          · cases h
        · cases h
      | false =>
        rw [h2, cond_false] at h
        split at h
        · cases h
        · next e he =>
          split at h
          · cases h
          · next as1 rest1 hp =>
            obtain ⟨e1, e2⟩ := popN_spec _ _ _ _ hp
            cases virt with
            | true =>
              rw [cond_true] at h
              split at h
              · next k rest2 =>
                have hg := (gd_some h).1; replace h := (gd_some h).2
                cases h
                simp only [Bool.and_eq_true, Bool.not_eq_true', Bool.or_eq_true, Nat.beq_eq] at hg
                obtain ⟨⟨⟨⟨⟨⟨g1, g2⟩, g3⟩, g4⟩, g5⟩, g6⟩, g7⟩ := hg
                refine ⟨rfl, e, he, ⟨Nat.le_of_ble_eq_true g1, Nat.le_of_ble_eq_true g2⟩, Nat.le_of_ble_eq_true g5, Nat.le_of_ble_eq_true g6, fun hG => ?_, Or.inl ⟨rfl, g4, k, as1, rfl, g3, e1, e2⟩⟩
                rcases g7 with g7 | g7
                · rw [hG] at g7; cases g7
                · rw [g7, List.length_cons]
              · cases h
            | false =>
              rw [cond_false] at h
              have hg := (gd_some h).1; replace h := (gd_some h).2
              cases h
              simp only [Bool.and_eq_true, Bool.or_eq_true, Nat.beq_eq] at hg
              obtain ⟨⟨⟨⟨⟨g1, g2⟩, g4⟩, g5⟩, g6⟩, g7⟩ := hg
              refine ⟨rfl, e, he, ⟨Nat.le_of_ble_eq_true g1, Nat.le_of_ble_eq_true g2⟩, Nat.le_of_ble_eq_true g5, Nat.le_of_ble_eq_true g6, fun hG => ?_, Or.inr ⟨rfl, g4, e1, e2⟩⟩
              rcases g7 with g7 | g7
              · rw [hG] at g7; cases g7
              · exact g7
theorem doCall_noret {X : SX} {e0 : ME} {z pc : Nat} {virt : Bool} {ls : List (Option V)} {st : List V} {M : Mem} {r : Option V} (h : doCall X e0 z virt pc ls st M = some (.inr (.inr r))) : False := by
  unfold doCall at h
  cases h0 : Nat.beq z 1000 with
  | true =>
    rw [h0, cond_true] at h
    split at h
    · split at h
      · replace h := (gd_some h).2; cases h
      · cases h
    · cases h
  | false =>
    rw [h0, cond_false] at h
    cases h1 : Nat.beq z 1001 with
    | true =>
      rw [h1, cond_true] at h
      split at h
      · split at h
        · replace h := (gd_some h).2; cases h
        · cases h
      · cases h
    | false =>
      rw [h1, cond_false] at h
      cases h2 : Nat.beq z 1002 with
      | true =>
        rw [h2, cond_true] at h
        split at h
        · split at h
          · replace h := (gd_some h).2; cases h
          · cases h
        · cases h
      | false =>
        rw [h2, cond_false] at h
        split at h
        · cases h
        · split at h
          · cases h
          · cases virt with
            | true =>
              rw [cond_true] at h
              split at h
              · replace h := (gd_some h).2; cases h
              · cases h
            | false =>
              rw [cond_false] at h
              replace h := (gd_some h).2; cases h
set_option maxHeartbeats 4000000 in
theorem stepI_call {X : SX} {e : ME} {I : Instr} {n pc z' : Nat} {ls : List (Option V)} {st as rest : List V} {M : Mem} (h : stepI X e I n pc ls st M = some (.inr (.inl (z', as, rest)))) :
    ∃ (ix z pl : Nat) (virt : Bool), I = (if virt = true then .invokevirtual ix else .invokestatic ix) ∧ fnd2 CTab (eO e) ix = some (z, pl) ∧ doCall X e z virt pc ls st M = some (.inr (.inl (z', as, rest))) := by
  cases I with
  | invokevirtual ix =>
    simp only [stepI] at h
    split at h
    · next z pl hf => exact ⟨ix, z, pl, true, rfl, hf, h⟩
    · cases h
  | invokestatic ix =>
    simp only [stepI] at h
    split at h
    · next z pl hf => exact ⟨ix, z, pl, false, rfl, hf, h⟩
    · cases h
  | _ =>
    exfalso
    simp only [stepI, reduceCtorEq] at h
    repeat' split at h
    all_goals first | (cases h; done) | (replace h := (gd_some h).2; cases h; done) | (replace h := (gd_some h).2; first | (split at h <;> first | (cases h; done) | (replace h := (gd_some h).2; cases h; done)) | (replace h := (gd_some h).2; cases h; done))
set_option maxHeartbeats 4000000 in
theorem stepI_ret {X : SX} {e : ME} {I : Instr} {n pc : Nat} {ls : List (Option V)} {st : List V} {M : Mem} {r : Option V} (h : stepI X e I n pc ls st M = some (.inr (.inr r))) : st = pushR r [] ∧ RetK e r I ∧ lenI I = 1 := by
  cases I with
  | ireturn =>
    simp only [stepI] at h
    split at h
    · next v hr => cases h; exact ⟨rfl, Or.inl ⟨v, rfl, rfl, Or.inl hr⟩, rfl⟩
    · next v hr =>
      have hg := (gd_some h).1; replace h := (gd_some h).2
      cases h; exact ⟨rfl, Or.inl ⟨v, rfl, rfl, Or.inr ⟨hr, hg⟩⟩, rfl⟩
    · cases h
  | lreturn =>
    simp only [stepI] at h
    split at h
    · next v hr => cases h; exact ⟨rfl, Or.inr (Or.inl ⟨v, rfl, rfl, hr⟩), rfl⟩
    · cases h
  | areturn =>
    simp only [stepI] at h
    split at h
    · next v nm hr => cases h; exact ⟨rfl, Or.inr (Or.inr (Or.inl ⟨v, nm, rfl, rfl, hr⟩)), rfl⟩
    · cases h
  | return_ =>
    simp only [stepI] at h
    split at h
    · next hr => cases h; exact ⟨rfl, Or.inr (Or.inr (Or.inr ⟨rfl, rfl, hr⟩)), rfl⟩
    · cases h
  | invokevirtual ix =>
    exfalso
    simp only [stepI] at h
    split at h
    · exact doCall_noret h
    · cases h
  | invokestatic ix =>
    exfalso
    simp only [stepI] at h
    split at h
    · exact doCall_noret h
    · cases h
  | _ =>
    exfalso
    simp only [stepI, reduceCtorEq] at h
    repeat' split at h
    all_goals first | (cases h; done) | (replace h := (gd_some h).2; cases h; done) | (replace h := (gd_some h).2; first | (split at h <;> first | (cases h; done) | (replace h := (gd_some h).2; cases h; done)) | (replace h := (gd_some h).2; cases h; done))
section
variable {l : Launch} {D : va_G} {dA : Nat → ClassId} {ad : Key → Nat} {X : SX}
def rmOf (e : ME) : Room := { frames := eF e, cells := 0, slots := 0, locals := eW e }
def PcZ (D : va_G) (dA : Nat → ClassId) (ad : Key → Nat) (X : SX) (as : List V) (M : Mem) : Array Value → State → Prop := fun a U => a = (as.map (cv ad)).toArray ∧ va_P D vwCl (WS dA ad M) U.heap ∧ Cx D dA ad X U
def QcZ (D : va_G) (dA : Nat → ClassId) (ad : Key → Nat) (r : Option V) (M' : Mem) : Array Value → State → Outcome → State → Prop := fun _ st oc t => vokO r ∧ oc = .returned (r.map (cv ad)) ∧ va_P D vwCl (WS dA ad M') t.heap ∧ va_F (AA ad) st t
theorem PcZ_blind {as : List V} {M : Mem} : FrameBlind (PcZ D dA ad X as M) := by
  intro a U g mk ⟨h1, h2, h3, h4, h5, h6, h7⟩
  refine ⟨h1, h2, va_K.moved (u := U) (U := U.calling g mk a) (Vm.Alike.refl U.vm) h3, va_X.moved (u := U) (U := U.calling g mk a) (Vm.Alike.refl U.vm) h4, h5, h6, ?_⟩
  exact trivial
/-- what a run gives, for the caller's own walk -/
def Snd (l : Launch) (D : va_G) (dA : Nat → ClassId) (ad : Key → Nat) (X : SX) (e : ME) (s0 : St) (r : Option V) (M' : Mem) : Prop :=
  ∀ {p : Program} {env : Env} {R : Room} {s : State} {m : MethodId} {args : Array Value} {below : List Frame} {meth : Method} {c : Code} {cells slots : Nat} {Q : State → Prop},
    (eF e ≤ R.frames ∧ eW e ≤ R.locals ∧ cells ≤ R.cells ∧ slots ≤ R.slots) → HY p s m args c D dA ad X e →
    (∀ (pc : Nat) (I : Instr) (H : Heap) (locs : List Loc) (als : Array Slot), vokO r → decode (eB e) pc = .ok (I, 1) → RetK e r I → va_P D vwCl (WS dA ad M') H → va_S (AA ad) s.heap H locs → W p l env R s m args below meth c H locs cells slots Q (F0 m pc als ((pushR r []).map (cv ad)))) →
    Gs p l env R s m args below meth c cells slots Q D dA ad e s0
theorem met_of {e : ME} {as : List V} {M M' : Mem} {r : Option V} (hM : MW e) (hlen : (argS as).length ≤ eL e) (hG : eG e = false → (argS as).length = as.length) (h : Snd l D dA ad X e (0, initL (eL e) as, [], M) r M') :
    Met l (eY e) (wsP (eY e) (eB e) (eL e) (eR e)) (rmOf e) (PcZ D dA ad X as M) (QcZ D dA ad r M') 0 0 (AA ad) := by
  refine Met.ofW (cc := eB e) (maxL := eL e) (ret := eR e) hM.1.1 rfl ?_
  intro p env s m args below meth c s₁ B hml hv
  obtain ⟨rfl, hP, hCx⟩ := hv
  have hts := atoms_spec (ws := wsP (eY e) (eB e) (eL e) (eR e)) B.pre
  have hown : s.vm.findClass (eY e).cls = some m.cls := findClass_of_methodNamed B.named
  rw [hM.1.2.1] at hown
  have hlocks := B.notSynchronized
  have hr := B.returns
  rw [lg_entry_eq]
  have hnl : eG e = false → ∀ v ∈ as, (cv ad v).category ≠ 2 := by
    intro hg v hv h2
    have h3 := hG hg
    have key : ∀ l : List V, (argS l).length = l.length → ∀ v ∈ l, isLong (some v) = false := by
      intro l
      have ge : ∀ l : List V, l.length ≤ (argS l).length := by
        intro l
        induction l with
        | nil => exact Nat.le_refl _
        | cons w l ih =>
          match w with
          | .inl a => simp [argS]; exact ih
          | .inr (.inl a) => simp [argS]; omega
          | .inr (.inr a) => simp [argS]; exact ih
      induction l with
      | nil => intro _ v hv; cases hv
      | cons w l ih =>
        intro hl v hv
        match w, hl, hv with
        | .inl a, hl, hv =>
          rcases List.mem_cons.mp hv with rfl | hv
          · rfl
          · exact ih (by simpa [argS] using hl) v hv
        | .inr (.inl a), hl, hv =>
          have := ge l
          simp [argS] at hl
          omega
        | .inr (.inr a), hl, hv =>
          rcases List.mem_cons.mp hv with rfl | hv
          · rfl
          · exact ih (by simpa [argS] using hl) v hv
    have h4 := key as h3 v hv
    rw [isLong_cat h2] at h4
    cases h4
  refine h (R := (headSpec (wsP (eY e) (eB e) (eL e) (eR e)) (rmOf e)).room) ⟨Nat.le_refl _, Nat.le_refl _, Nat.le_refl _, Nat.le_refl _⟩ ⟨B.exec, B.bytes, hml, hown, fun w hw => hts w (List.mem_cons_of_mem _ hw), hCx⟩ ?_ s.heap [] _ (LR_init hlen hnl) hP va_S.rf
  intro pc I H locs als hvr hd hK hP1 hS1
  rcases hK with ⟨v, rfl, rfl, hR⟩ | ⟨v, rfl, rfl, hR⟩ | ⟨v, nm, rfl, rfl, hR⟩ | ⟨rfl, rfl, hR⟩
  · rcases hR with hR | ⟨hR, hb⟩
    · exact W.iret (v := v) B.exec B.bytes (hr.trans hR) (fun t ht hW => ⟨hvr, rfl, by rw [ht]; exact hP1, hS1.F ht⟩) hS1.2.2 hd
    · exact W.zret (v := v) (ty := .boolean) B.exec B.bytes (hr.trans hR) (by rcases isb_spec hb with rfl | rfl <;> rfl) (fun t ht hW => ⟨hvr, rfl, by rw [ht]; exact hP1, hS1.F ht⟩) hS1.2.2 hd
  · exact W.lret (v := v) B.exec B.bytes (hr.trans hR) (fun t ht hW => ⟨hvr, rfl, by rw [ht]; exact hP1, hS1.F ht⟩) hS1.2.2 hd
  · exact W.aret (v := cv ad (.inr (.inr v))) B.exec B.bytes (hr.trans hR) (Or.inl ⟨nm, rfl⟩) (by cases v with
      | none => exact Or.inl rfl
      | some k => exact Or.inr ⟨_, rfl⟩) (fun t ht hW => ⟨hvr, rfl, by rw [ht]; exact hP1, hS1.F ht⟩) hS1.2.2 hd
  · exact W.vret B.exec B.bytes (hr.trans hR) (fun t ht hW => ⟨hvr, rfl, by rw [ht]; exact hP1, hS1.F ht⟩) hS1.2.2 hd
theorem W_call {p : Program} {env : Env} {R : Room} {s : State} {m : MethodId} {args : Array Value} {below : List Frame} {meth : Method} {c : Code} {cells slots : Nat} {Q : State → Prop} {H : Heap} {locs : List Loc} {als : Array Slot} {pc : Nat} {st0 rest : List Value} {r : Option V} {M' : Mem} {a : Array Value}
    (hr : va_Run p l env R s m args below meth c H locs cells slots 0 0 (F0 m pc als st0) rest (QcZ D dA ad r M' a) (AA ad)) (hS : va_S (AA ad) s.heap H locs)
    (kk : ∀ (H1 : Heap) (locs1 : List Loc), vokO r → va_P D vwCl (WS dA ad M') H1 → va_S (AA ad) s.heap H1 locs1 → W p l env R s m args below meth c H1 locs1 cells slots Q (F0 m (pc + 3) als ((r.map (cv ad)).toList ++ rest))) : W p l env R s m args below meth c H locs cells slots Q (F0 m pc als st0) := by
  intro T hT X1
  obtain ⟨v, st₀, t, T', L, h0, X', hL, e1, e2, ⟨hvr, hv, hP1, hz, hk⟩, st⟩ := hr T hT X1
  obtain rfl := Outcome.returned.inj hv
  rw [h0] at hz hk
  obtain ⟨t2, a1, b1⟩ := kk T'.heap (locs ++ L) hvr (by rw [e1]; exact hP1) ⟨Nat.le_trans hS.1 (by rw [e1]; exact hz), fun q h1 h2 => by rw [e1, hk q (Nat.lt_of_lt_of_le h1 hS.1) h2]; exact hS.2.1 q h1 h2, fun q hq => by
      rcases List.mem_append.mp hq with h | h
      · exact hS.2.2 q h
      · exact hL q h⟩ T' rfl X'
  exact ⟨t2, st t2 a1, b1⟩
theorem sound (hLn : HLn l ad) (hCh : HCh l ad) (hDD : ∀ M, va_D (AA ad) (WS dA ad M)) : ∀ (n z : Nat) (s0 : St) (r : Option V) (M' : Mem), run X n z s0 = some (r, M') → ∀ e, nth MT z = some e → (z < 99 ∨ z = 107) → vls s0.2.1 → vst s0.2.2.1 → Snd l D dA ad X e s0 r M' := by
  intro n
  induction n with
  | zero => intro z s0 r M' h; simp [run] at h
  | succ n ih =>
    intro z s0 r M' h e he hz hvl hvs
    obtain ⟨pc, ls, st, M⟩ := s0
    simp only at hvl hvs
    rw [run] at h
    cases hs : stepS X z (pc, ls, st, M) with
    | none => rw [hs] at h; cases h
    | some res =>
      rw [hs] at h
      have hs2 := hs
      unfold stepS at hs2
      rw [he] at hs2
      simp only at hs2
      split at hs2
      · cases hs2
      · next q hq =>
        obtain ⟨I, k⟩ := q
        have hmem := fnd_mem _ _ _ hq
        have hd := dec_at hz he _ hmem
        have hlen := List.all_eq_true.mp (len_ok e (by rw [nth_get] at he; exact List.mem_of_getElem? he)) _ hmem
        simp only at hd hlen hs2
        match res, h, hs2 with
        | .inl s', h, hs2 =>
          simp only at h
          intro p env R s m args below meth c cells slots Q hR hy hK
          obtain ⟨⟨v1, v2⟩, hgo⟩ := one_sound (p := p) (env := env) (R := R) (s := s) (m := m) (args := args) (below := below) (meth := meth) (c := c) (cells := cells) (slots := slots) (Q := Q) (D := D) hLn hCh hDD hR hs2 hd hlen hvl hvs
          exact hgo hy (ih z s' r M' h e he hz v1 v2 hR hy hK)
        | .inr (.inl (z', as, rest)), h, hs2 =>
          simp only at h
          obtain ⟨ix, z1, pl, virt, rfl, hf, hc⟩ := stepI_call hs2
          obtain ⟨rfl, e', he', ⟨hrf, hrw⟩, hcat, hla, hlg, hv⟩ := doCall_spec hc
          rw [he'] at h
          simp only at h
          split at h
          · cases h
          · next r1 M1 hr1 =>
            have hcm := ct_ok _ (fnd2_mem _ _ _ _ hf)
            simp only [he'] at hcm
            have hz' : z' < 99 ∧ tables_1[pl]? = some (.methodLink (ownS (eO e)) ix (eY e')) := by
              rcases hcm with hcm | hcm
              · exact ⟨hcm.1, of_decide_eq_true hcm.2⟩
              · have h3 := (List.getElem?_eq_some_iff.mp (by rw [← nth_get]; exact he')).1
                rw [MT_len] at h3
                omega
            obtain ⟨hz1, hlink⟩ := hz'
            have hMW := mw_at z' hz1 e' he'
            have hva : vst as ∧ vst rest := by
              rcases hv with ⟨-, -, k, as0, rfl, -, rfl, -⟩ | ⟨-, -, rfl, -⟩
              · refine ⟨vst_cons (hvs _ (List.mem_append_right _ List.mem_cons_self)) (fun w hw => hvs w (List.mem_append_left _ (List.mem_reverse.mpr hw))), fun w hw => hvs w (List.mem_append_right _ (List.mem_cons_of_mem _ hw))⟩
              · exact ⟨fun w hw => hvs w (List.mem_append_left _ (List.mem_reverse.mpr hw)), fun w hw => hvs w (List.mem_append_right _ hw)⟩
            have hsn : Snd l D dA ad X e' (0, initL (eL e') as, [], M) r1 M1 := @ih z' (0, initL (eL e') as, [], M) r1 M1 hr1 e' he' (Or.inl hz1) (vls_init hva.1) (fun w hw => by cases hw)
            intro p env R s m args below meth c cells slots Q hR hy hK
            have hG : vokO r1 → Gs p l env R s m args below meth c cells slots Q D dA ad e (pc + 3, ls, pushR r1 rest, M1) := fun hvr => ih z (pc + 3, ls, pushR r1 rest, M1) r M' h e he hz hvl (by
              cases r1 with
              | none => exact hva.2
              | some v => exact vst_cons hvr hva.2) hR hy hK
            intro H locs als hL hP hS
            obtain ⟨hx, hb, hml, hown, hts, hCx⟩ := hy
            have hMet := met_of (l := l) hMW hla hlg hsn
            have hpush : ∀ rest' : List V, (pushR r1 rest').map (cv ad) = (r1.map (cv ad)).toList ++ rest'.map (cv ad) := by
              intro rest'
              cases r1 <;> rfl
            have hdd := lenOK_eq hlen (by cases virt <;> simp [lenI])
            have hpre : ∀ U : State, U.heap = H → s.WarmedH U.vm → PcZ D dA ad X as M (as.map (cv ad)).toArray U := fun U hU hW => ⟨rfl, by rw [hU]; exact hP, Cx_to hCx hS hU hW⟩
            rcases hv with ⟨rfl, hSt, k, as0, rfl, hk1, rfl, hN⟩ | ⟨rfl, hSt, rfl, hN⟩
            · rw [if_pos rfl] at hd hdd
              simp only [lenI] at hdd
              subst hdd
              have hw1 := hMW.1.2.2.2.2
              rw [if_neg (by rw [hSt]; decide)] at hw1
              have hGood := good_code (b := eB e') (n := eL e') (r := eR e') (own := ownS (eO e)) (ix := ix) (mem_t hlink) hw1.1 hw1.2 hMW.1.2.2.2.1 hMW.2.1
              have hkA : k ∈ AK := vok_small (hvs _ (List.mem_append_right _ List.mem_cons_self)) (by
                have hh : ∀ z, z < 99 → ∀ e ∈ nth MT z, eS e = false → eO e < 22 := by decide +kernel
                rw [hk1]; exact hh z' hz1 e' he' hSt)
              obtain ⟨ci, hci⟩ := List.getElem?_of_mem hkA
              have hkN : k.1 < NC := by
                have hh : ∀ z, z < 99 → ∀ e ∈ nth MT z, eS e = false → eO e < NC := by decide +kernel
                rw [hk1]; exact hh z' hz1 e' he' hSt
              have hCk : (eY e').cls = clC k.1 := by
                have hh : ∀ K, K < NC → ownS K = clC K := by decide +kernel
                rw [hMW.1.2.1, ← hk1]; exact hh _ hkN
              have hrecv : ∃ cell : Cell, H[ad k]? = some cell ∧ cell.vm.isStatics = false ∧ s.vm.findClass (eY e').cls = some cell.cls := by
                rw [hCk]
                exact va_recv (D := D) hCx.1 hP (ci := k.1) (q0 := ci) (q := (clC k.1, clT k.1, clN k.1)) (cl_at k.1 hkN) (by rw [WS_at hci]; exact congrArg (fun x => some (ad k, x)) (ent_o hkN))
              refine W_call (va_runV (As := as0.map (cv ad)) (rest := rest.map (cv ad)) (C := (eY e').cls) ⟨hx, hb, hml, hown, hts⟩ hMet (cwV (eN e') hts hGood rfl rfl rfl ⟨rfl, hMW.1.2.2.1⟩ ⟨Nat.le_trans hrf hR.1, Nat.le_trans hrw hR.2.1⟩) ⟨PcZ_blind, hrecv, hpre⟩ rfl (by rw [List.length_map, hN]) hL.2.1 (by rw [List.map_append, List.map_reverse]; rfl) (lv_room (by rw [cat_S]; exact hcat)) hd ⟨hR.2.2.1, hR.2.2.2⟩) hS (fun H1 locs1 hvr hP1 hS1 => ?_)
              rw [← hpush]
              exact hG hvr H1 locs1 als hL hP1 hS1
            · rw [if_neg (by decide)] at hd hdd
              simp only [lenI] at hdd
              subst hdd
              have hw1 := hMW.1.2.2.2.2
              rw [if_pos hSt] at hw1
              have hGood := good_codeS (b := eB e') (n := eL e') (r := eR e') (own := ownS (eO e)) (ix := ix) (mem_t hlink) hw1 hMW.1.2.2.2.1 hMW.2.1
              refine W_call (va_runS (As := as.map (cv ad)) (rest := rest.map (cv ad)) ⟨hx, hb, hml, hown, hts⟩ hMet (va_cwS (eN e') hts hGood rfl rfl rfl hMW.1.2.2.1 ⟨Nat.le_trans hrf hR.1, Nat.le_trans hrw hR.2.1⟩) ⟨PcZ_blind, hpre⟩ rfl (by rw [List.length_map, hN]) hL.2.1 (by rw [List.map_append, List.map_reverse]) (lv_room (by rw [cat_S]; exact hcat)) hd ⟨hR.2.2.1, hR.2.2.2⟩) hS (fun H1 locs1 hvr hP1 hS1 => ?_)
              rw [← hpush]
              exact hG hvr H1 locs1 als hL hP1 hS1
        | .inr (.inr r1), h, hs2 =>
          simp only [Option.some.injEq, Prod.mk.injEq] at h
          obtain ⟨rfl, rfl⟩ := h
          obtain ⟨rfl, hRK, hl1⟩ := stepI_ret hs2
          have hdd := lenOK_eq hlen (by rw [hl1]; decide)
          rw [hl1] at hdd
          subst hdd
          intro p env R s m args below meth c cells slots Q hR hy hK H locs als hL hP hS
          exact hK pc I H locs als (by
            cases r1 with
            | none => trivial
            | some v => exact hvs v List.mem_cons_self) hd hRK hP hS
end
