/-! 10: one instruction; runs -/
def okG (M : NM) (o : OI) (r' : Option Res) : Prop := ∀ (G : Option Prop) (r : RI), o = (G, some r) → gP G → r' = some (cR r) ∧ okR M r
theorem okG_no {M : NM} {r' : Option Res} : okG M no r' := by
  intro G r h; cases h
theorem okG_go {M0 : NM} {pc : Nat} {ls : List (Option U)} {st : List U} {M : NM} {r' : Option Res} (h : r' = some (.inl (pc, cL ls, cT st, cM M))) (h1 : okL ls) (h2 : okT st) (h3 : okM M) : okG M0 (go pc ls st M) r' := by
  intro G r q _; cases q; exact ⟨h, h1, h2, h3⟩
theorem okG_gg {M0 : NM} {g : Prop} {pc : Nat} {ls : List (Option U)} {st : List U} {M : NM} {r' : Option Res} (h : g → r' = some (.inl (pc, cL ls, cT st, cM M)) ∧ okL ls ∧ okT st ∧ okM M) : okG M0 (gg g pc ls st M) r' := by
  intro G r q hg; cases q; exact ⟨(h hg).1, (h hg).2⟩
theorem okG_bb {M0 : NM} {b : Bool} {o : OI} {r' : Option Res} (h : b = true → okG M0 o r') : okG M0 (bb b o) r' := by
  cases b with
  | true => exact h rfl
  | false => exact okG_no
theorem gd_t {α : Type} {b : Bool} {y : Option α} (h : b = true) : gd b y = y := by subst h; rfl
section
variable {X : XI} {e : ME} {n pc : Nat} {ls : List (Option U)} {M : NM}
theorem okU_i {a : Int} (h : okU (.inl a)) : i32 a := h
theorem cl_ok (hX : okX X) {z : Nat} {virt : Bool} {st : List U} (hl : okL ls) (ht : okT st) (hM : okM M) : okG M (clI e z virt pc ls st M X) (doCall (cX X) e z virt pc (cL ls) (cT st) (cM M)) := by
  unfold clI doCall
  cases h0 : Nat.beq z 1000 with
  | true =>
    simp only [cond_true]
    split
    · next nn dp K2 j2 i2 sp K j i st' =>
      split
      · next n1 n2 hn1 hn2 =>
        refine okG_bb (fun hb => okG_gg (fun hg => ?_))
        simp only [Bool.and_eq_true, Bool.not_eq_true'] at hb
        obtain ⟨⟨⟨⟨b1, b2⟩, b3⟩, b4⟩, b5⟩ := hb
        have t1 := okT_hd ht
        have t2 := okT_hd (okT_tl ht)
        have t3 := okT_hd (okT_tl (okT_tl ht))
        have t4 := okT_hd (okT_tl (okT_tl (okT_tl ht)))
        have t5 := okT_hd (okT_tl (okT_tl (okT_tl (okT_tl ht))))
        have t6 := okT_tl (okT_tl (okT_tl (okT_tl (okT_tl ht))))
        have g1 := al_nn hX hn1
        have g2 := al_nn hX hn2
        have a1 : aln (cX X) K = some (n1.toNat, false) := by rw [al_c, hn1]; rfl
        have a2 : aln (cX X) K2 = some (n2.toNat, false) := by rw [al_c, hn2]; rfl
        have c1 : cpOK (Int32.ofInt sp) (Int32.ofInt nn) n1.toNat = true := by
          unfold cpOK
          have e1 : ¬ Int32.ofInt sp < 0 := by rw [show (0 : Int32) = Int32.ofInt 0 from rfl, oi_lt t4 i32_0]; omega
          have e2 : ¬ Int32.ofInt nn < 0 := by rw [show (0 : Int32) = Int32.ofInt 0 from rfl, oi_lt t1 i32_0]; omega
          rw [decide_eq_false e1, decide_eq_false e2, oi_clamp t4, oi_clamp t1, decide_eq_true (by omega)]; rfl
        have c2 : cpOK (Int32.ofInt dp) (Int32.ofInt nn) n2.toNat = true := by
          unfold cpOK
          have e1 : ¬ Int32.ofInt dp < 0 := by rw [show (0 : Int32) = Int32.ofInt 0 from rfl, oi_lt t2 i32_0]; omega
          have e2 : ¬ Int32.ofInt nn < 0 := by rw [show (0 : Int32) = Int32.ofInt 0 from rfl, oi_lt t1 i32_0]; omega
          rw [decide_eq_false e1, decide_eq_false e2, oi_clamp t2, oi_clamp t1, decide_eq_true (by omega)]; rfl
        refine ⟨?_, hl, t6, okM_cpi hM⟩
        show (match aln (cX X) K, aln (cX X) K2 with
          | some (n1, false), some (n2, false) => gd (Nat.ble 1 (eF e) && Nat.ble 40 (eW e) && !(Nat.beq K 30) && !(Nat.beq K2 30) && cpOK (Int32.ofInt sp) (Int32.ofInt nn) n1 && cpOK (Int32.ofInt dp) (Int32.ofInt nn) n2 && Nat.ble (catS (cT st')) 8) (nx (pc + 3) (cL ls) (cT st') (cpA (cM M) K j.toNat i.toNat K2 j2.toNat i2.toNat (Int32.ofInt sp).toNatClampNeg (Int32.ofInt dp).toNatClampNeg (Int32.ofInt nn).toNatClampNeg))
          | _, _ => none) = _
        rw [a1, a2]
        simp only
        rw [gd_t (by rw [c1, c2, cat_c, b1, b2, b3, b4, b5]; rfl), oi_clamp t4, oi_clamp t2, oi_clamp t1, nx, cM_cpi t5.1 t5.2 t3.1 t3.2 (by omega) (by omega) (by omega)]
      · exact okG_no
    · exact okG_no
  | false =>
    simp only [cond_false]
    cases h1 : Nat.beq z 1001 with
    | true =>
      simp only [cond_true]
      split
      · next i i2 st' =>
        split
        · next s hs =>
          refine okG_bb (fun hb => ?_)
          simp only [Bool.and_eq_true] at hb
          obtain ⟨⟨⟨b1, b2⟩, b3⟩, b4⟩ := hb
          have b5 := Nat.le_of_ble_eq_true b4
          refine okG_go ?_ hl (okT_cons (by show i32 (Int.ofNat s.length); show -2147483648 ≤ (s.length : Int) ∧ (s.length : Int) < 2147483648; omega) (okT_tl ht)) hM
          show (match nth strT i.toNat with
            | some s => gd (Nat.ble 2 (eF e) && Nat.ble 40 (eW e) && Nat.ble (catS (cT st')) 8) (nx (pc + 3) (cL ls) (.inl (nI s.length) :: cT st') (cM M))
            | none => none) = _
          rw [hs]
          simp only
          rw [gd_t (by rw [cat_c, b1, b2, b3]; rfl)]
          rfl
        · exact okG_no
      · exact okG_no
    | false =>
      simp only [cond_false]
      cases h2 : Nat.beq z 1002 with
      | true =>
        simp only [cond_true]
        split
        · next k i i2 st' =>
          split
          · next s hs =>
            refine okG_bb (fun hb => okG_gg (fun hg => ?_))
            simp only [Bool.and_eq_true] at hb
            obtain ⟨⟨⟨b1, b2⟩, b3⟩, b4⟩ := hb
            have hk : k < (s.length : Int) := hg.2
            have b5 : s.getD k.toNat 0 ≤ 255 := by
              rw [List.getD_eq_getElem?_getD, List.getElem?_eq_getElem (by omega), Option.getD_some]
              exact Nat.le_of_ble_eq_true (List.all_eq_true.mp b4 _ (List.getElem_mem _))
            have t1 := okT_hd ht
            refine ⟨?_, hl, okT_cons (by show i32 (Int.ofNat _); show -2147483648 ≤ ((s.getD k.toNat 0 : Nat) : Int) ∧ ((s.getD k.toNat 0 : Nat) : Int) < 2147483648; omega) (okT_tl (okT_tl ht)), hM⟩
            show (match nth strT i.toNat with
              | some s => gd (inb (Int32.ofInt k) s.length && Nat.ble 5 (eF e) && Nat.ble 106 (eW e) && Nat.ble (catS (cT st')) 8) (nx (pc + 3) (cL ls) (.inl (nI (s.getD (Int32.ofInt k).toNatClampNeg 0)) :: cT st') (cM M))
              | none => none) = _
            rw [hs]
            simp only
            have hin : inb (Int32.ofInt k) s.length = true := by
              have := inb_c (N := (s.length : Int)) t1 hg.1 hg.2
              rwa [Int.toNat_natCast] at this
            rw [gd_t (by rw [cat_c, b1, b2, b3, hin]; rfl), oi_clamp t1]
            rfl
          · exact okG_no
        · exact okG_no
      | false =>
        simp only [cond_false]
        cases he : nth MT z with
        | none => exact okG_no
        | some e' =>
          simp only
          rw [pop_c]
          cases hp : popU (eN e') st with
          | none => exact okG_no
          | some q =>
            obtain ⟨as, rest⟩ := q
            have hok : okT as ∧ okT rest := by
              have key : ∀ (n : Nat) (st as rest : List U), popU n st = some (as, rest) → okT st → okT as ∧ okT rest := by
                intro n
                induction n with
                | zero => intro st as rest h ht; cases h; exact ⟨fun v hv => (List.not_mem_nil hv).elim, ht⟩
                | succ n ih =>
                  intro st as rest h ht
                  cases st with
                  | nil => cases h
                  | cons v st =>
                    rw [popU] at h
                    split at h
                    · next q hq =>
                      cases h
                      obtain ⟨a1, a2⟩ := ih _ _ _ hq (okT_tl ht)
                      exact ⟨fun w hw => by
                        rcases List.mem_append.mp hw with hw | hw
                        · exact a1 w hw
                        · rw [List.mem_singleton.mp hw]; exact okT_hd ht, a2⟩
                    · cases h
              exact key _ _ _ _ hp ht
            simp only [Option.map_some]
            cases virt with
            | true =>
              simp only [cond_true]
              split
              · next k rest' =>
                refine okG_bb (fun hb => ?_)
                intro G r q _
                cases q
                refine ⟨?_, okT_cons (okT_hd hok.2) hok.1, okT_tl hok.2⟩
                show gd (Nat.ble (eF e' + 1) (eF e) && Nat.ble (8 + (eL e' + 11) + eW e') (eW e) && Nat.beq k.1 (eO e') && !(eS e') && Nat.ble (catS (cT rest')) 8 && Nat.ble (argS (cT (Sum.inr (Sum.inr (some k)) :: as : List U))).length (eL e') && (eG e' || Nat.beq (argS (cT (Sum.inr (Sum.inr (some k)) :: as : List U))).length ((cT as).length + 1))) (some (Sum.inr (Sum.inl (z, cT (Sum.inr (Sum.inr (some k)) :: as : List U), cT rest'))) : Option Res) = _
                rw [gd_t (by rw [cat_c, arg_c, len_c, lenT_c]; exact hb)]
                rfl
              · exact okG_no
            | false =>
              simp only [cond_false]
              refine okG_bb (fun hb => ?_)
              intro G r q _
              cases q
              refine ⟨?_, hok.1, hok.2⟩
              rw [gd_t (by rw [cat_c, arg_c, len_c, lenT_c]; exact hb)]
              rfl
set_option maxHeartbeats 4000000 in
theorem stI_ok (hX : okX X) {I : Instr} {st : List U} (hl : okL ls) (ht : okT st) (hM : okM M) : okG M (stI X e I n pc ls st M) (stepI (cX X) e I n pc (cL ls) (cT st) (cM M)) := by
  cases I with
  | iconst k =>
    refine okG_bb (fun hb => okG_go rfl hl (okT_cons ?_ ht) hM)
    simp only [Bool.and_eq_true, decide_eq_true_eq] at hb
    exact ⟨by omega, by omega⟩
  | bipush k =>
    refine okG_bb (fun hb => ?_)
    simp only [Bool.and_eq_true, decide_eq_true_eq] at hb
    refine okG_go ?_ hl (okT_cons ⟨by omega, by omega⟩ ht) hM
    have e1 : (Int8.ofInt k).toInt32 = Int32.ofInt k := by
      apply Int32.toInt_inj.mp
      rw [Int8.toInt_toInt32, ofInt_toInt (by omega) (by omega), Int8.toInt_ofInt]
      show Int.bmod k 256 = k
      unfold Int.bmod
      simp only
      split <;> omega
    show nx _ _ (.inl (Int8.ofInt k).toInt32 :: _) _ = _
    rw [e1]; rfl
  | sipush k =>
    refine okG_bb (fun hb => ?_)
    simp only [Bool.and_eq_true, decide_eq_true_eq] at hb
    refine okG_go ?_ hl (okT_cons ⟨by omega, by omega⟩ ht) hM
    have e1 : (Int16.ofInt k).toInt32 = Int32.ofInt k := by
      apply Int32.toInt_inj.mp
      rw [Int16.toInt_toInt32, ofInt_toInt (by omega) (by omega), Int16.toInt_ofInt]
      show Int.bmod k 65536 = k
      unfold Int.bmod
      simp only
      split <;> omega
    show nx _ _ (.inl (Int16.ofInt k).toInt32 :: _) _ = _
    rw [e1]; rfl
  | lconst k =>
    refine okG_go rfl hl (okT_cons ?_ ht) hM
    have := k.isLt
    show -9223372036854775808 ≤ (k.val : Int) ∧ (k.val : Int) < 9223372036854775808
    omega
  | aconst_null => exact okG_go rfl hl (okT_cons True.intro ht) hM
  | iload_n k =>
    simp only [stI, stepI]
    split
    · next v hv =>
      refine okG_go ?_ hl (okT_cons (okL_get hl hv) ht) hM
      rw [getL_c, hv]; rfl
    · exact okG_no
  | iload k =>
    simp only [stI, stepI]
    split
    · next v hv =>
      refine okG_bb (fun hb => okG_go ?_ hl (okT_cons (okL_get hl hv) ht) hM)
      rw [getL_c, hv]; exact gd_t hb
    · exact okG_no
  | lload_n k =>
    simp only [stI, stepI]
    split
    · next v hv =>
      refine okG_go ?_ hl (okT_cons (okL_get hl hv) ht) hM
      rw [getL_c, hv]; rfl
    · exact okG_no
  | aload_n k =>
    simp only [stI, stepI]
    split
    · next v hv =>
      refine okG_go ?_ hl (okT_cons (okL_get hl hv) ht) hM
      rw [getL_c, hv]; cases v <;> rfl
    · exact okG_no
  | aload k =>
    simp only [stI, stepI]
    split
    · next v hv =>
      refine okG_bb (fun hb => okG_go ?_ hl (okT_cons (okL_get hl hv) ht) hM)
      rw [getL_c, hv]; cases v <;> exact gd_t hb
    · exact okG_no
  | istore_n k =>
    simp only [stI]
    split
    · next v st =>
      refine okG_bb (fun hb => okG_go ?_ (okL_s1 hl (okT_hd ht)) (okT_tl ht) hM)
      rw [← len_c] at hb
      rw [← st1_c]
      exact gd_t hb
    · exact okG_no
  | istore k =>
    simp only [stI]
    split
    · next v st =>
      refine okG_bb (fun hb => okG_go ?_ (okL_s1 hl (okT_hd ht)) (okT_tl ht) hM)
      rw [← len_c] at hb
      rw [← st1_c]
      exact gd_t hb
    · exact okG_no
  | lstore_n k =>
    simp only [stI]
    split
    · next v st =>
      refine okG_bb (fun hb => okG_go ?_ (okL_s2 hl (okT_hd ht)) (okT_tl ht) hM)
      rw [← len_c] at hb
      rw [← st2_c]
      exact gd_t hb
    · exact okG_no
  | astore_n k =>
    simp only [stI]
    split
    · next v st =>
      refine okG_bb (fun hb => okG_go ?_ (okL_s1 hl (okT_hd ht)) (okT_tl ht) hM)
      rw [← len_c] at hb
      rw [← st1_c]
      cases v <;> exact gd_t hb
    · exact okG_no
  | astore k =>
    simp only [stI]
    split
    · next v st =>
      refine okG_bb (fun hb => okG_go ?_ (okL_s1 hl (okT_hd ht)) (okT_tl ht) hM)
      rw [← len_c] at hb
      rw [← st1_c]
      cases v <;> exact gd_t hb
    · exact okG_no
  | iinc k d =>
    simp only [stI, stepI]
    split
    · next v hv =>
      refine okG_bb (fun hb => okG_gg (fun hg => ⟨?_, okL_s1 hl hg, ht, hM⟩))
      simp only [Bool.and_eq_true] at hb
      rw [getL_c, hv, ← st1_c, ← len_c] at *
      show gd _ (nx _ (st1 _ _ _ (.inl (Int32.ofInt v + Int32.ofInt d))) _ _) = _
      rw [gd_t (by rw [hb.1.1.1, hb.1.1.2]; rfl), ← Int32.ofInt_add]
      rfl
    · exact okG_no
  | iadd =>
    simp only [stI]
    split
    · next b a st =>
      refine okG_gg (fun hg => ⟨?_, hl, okT_cons hg (okT_tl (okT_tl ht)), hM⟩)
      show nx _ _ (.inl (Int32.ofInt a + Int32.ofInt b) :: _) _ = _
      rw [← Int32.ofInt_add]; rfl
    · exact okG_no
  | isub =>
    simp only [stI]
    split
    · next b a st =>
      refine okG_gg (fun hg => ⟨?_, hl, okT_cons hg (okT_tl (okT_tl ht)), hM⟩)
      show nx _ _ (.inl (Int32.ofInt a - Int32.ofInt b) :: _) _ = _
      rw [← Int32.ofInt_sub]; rfl
    · exact okG_no
  | imul =>
    simp only [stI]
    split
    · next b a st =>
      cases hq : (Nat.beq (eO e) 9 && Nat.beq (eL e) 2) with
      | true =>
        rw [cond_true]
        refine okG_go ?_ hl (okT_cons (i32_toInt _) (okT_tl (okT_tl ht))) hM
        show nx _ _ (.inl (Int32.ofInt a * Int32.ofInt b) :: _) _ = nx _ _ (.inl (Int32.ofInt (wrI (a * b))) :: _) _
        unfold wrI
        rw [Int32.ofInt_toInt, Int32.ofInt_mul]
      | false =>
        rw [cond_false]
        refine okG_gg (fun hg => ⟨?_, hl, okT_cons hg (okT_tl (okT_tl ht)), hM⟩)
        show nx _ _ (.inl (Int32.ofInt a * Int32.ofInt b) :: _) _ = _
        rw [← Int32.ofInt_mul]; rfl
    · exact okG_no
  | idiv =>
    simp only [stI]
    split
    · next b a st =>
      have hb := okU_i (okT_hd ht)
      have ha := okU_i (okT_hd (okT_tl ht))
      refine okG_gg (fun hg => ⟨?_, hl, okT_cons (div_i32 ha hg.1 hg.2) (okT_tl (okT_tl ht)), hM⟩)
      show gd _ (nx _ _ (.inl (Int32.ofInt a / Int32.ofInt b) :: _) _) = _
      rw [gd_t (by rw [show (0 : Int32) = Int32.ofInt 0 from rfl, decide_eq_false (fun q => by rw [oi_eq hb i32_0] at q; omega)]; rfl), oi_div ha hb hg.1 hg.2]
      rfl
    · exact okG_no
  | irem =>
    simp only [stI]
    split
    · next b a st =>
      have hb := okU_i (okT_hd ht)
      have ha := okU_i (okT_hd (okT_tl ht))
      refine okG_gg (fun hg => ⟨?_, hl, okT_cons (mod_i32 hb hg.2) (okT_tl (okT_tl ht)), hM⟩)
      show gd _ (nx _ _ (.inl (Int32.ofInt a - Int32.ofInt a / Int32.ofInt b * Int32.ofInt b) :: _) _) = _
      rw [gd_t (by rw [show (0 : Int32) = Int32.ofInt 0 from rfl, decide_eq_false (fun q => by rw [oi_eq hb i32_0] at q; omega)]; rfl), oi_div ha hb hg.1 hg.2, ← Int32.ofInt_mul, ← Int32.ofInt_sub, show a - a / b * b = a % b by rw [Int.emod_def, Int.mul_comm]]
      rfl
    · exact okG_no
  | iand =>
    simp only [stI]
    split
    · next b a st =>
      refine okG_go ?_ hl (okT_cons (i32_toInt _) (okT_tl (okT_tl ht))) hM
      show nx _ _ (.inl (Int32.ofInt a &&& Int32.ofInt b) :: _) _ = nx _ _ (.inl (Int32.ofInt (andI a b)) :: _) _
      unfold andI
      rw [Int32.ofInt_toInt]
    · exact okG_no
  | ior =>
    simp only [stI]
    split
    · next b a st =>
      refine okG_go ?_ hl (okT_cons (i32_toInt _) (okT_tl (okT_tl ht))) hM
      show nx _ _ (.inl (Int32.ofInt a ||| Int32.ofInt b) :: _) _ = nx _ _ (.inl (Int32.ofInt (orI a b)) :: _) _
      unfold orI
      rw [Int32.ofInt_toInt]
    · exact okG_no
  | ixor =>
    simp only [stI]
    split
    · next b a st =>
      refine okG_go ?_ hl (okT_cons (i32_toInt _) (okT_tl (okT_tl ht))) hM
      show nx _ _ (.inl (Int32.ofInt a ^^^ Int32.ofInt b) :: _) _ = nx _ _ (.inl (Int32.ofInt (xorI a b)) :: _) _
      unfold xorI
      rw [Int32.ofInt_toInt]
    · exact okG_no
  | ishl =>
    simp only [stI]
    split
    · next b a st =>
      refine okG_go ?_ hl (okT_cons (i32_toInt _) (okT_tl (okT_tl ht))) hM
      show nx _ _ (.inl (Int32.ofInt a <<< (Int32.ofInt b &&& 31)) :: _) _ = nx _ _ (.inl (Int32.ofInt (shlI a b)) :: _) _
      unfold shlI
      rw [Int32.ofInt_toInt]
    · exact okG_no
  | ishr =>
    simp only [stI]
    split
    · next b a st =>
      refine okG_go ?_ hl (okT_cons (i32_toInt _) (okT_tl (okT_tl ht))) hM
      show nx _ _ (.inl (Int32.ofInt a >>> (Int32.ofInt b &&& 31)) :: _) _ = nx _ _ (.inl (Int32.ofInt (shrI a b)) :: _) _
      unfold shrI
      rw [Int32.ofInt_toInt]
    · exact okG_no
  | iushr =>
    simp only [stI]
    split
    · next b a st =>
      refine okG_go ?_ hl (okT_cons (i32_toInt _) (okT_tl (okT_tl ht))) hM
      show nx _ _ (.inl (((Int32.ofInt a).toUInt32 >>> ((Int32.ofInt b).toUInt32 &&& Int32.toUInt32 31)).toInt32) :: _) _ = nx _ _ (.inl (Int32.ofInt (ushI a b)) :: _) _
      unfold ushI
      rw [Int32.ofInt_toInt]
    · exact okG_no
  | i2c =>
    simp only [stI]
    split
    · next a st =>
      refine okG_gg (fun hg => ⟨?_, hl, ht, hM⟩)
      show nx _ _ (.inl ((Int32.ofInt a).toUInt32 % 65536).toInt32 :: _) _ = _
      rw [oi_char hg.1 hg.2]; rfl
    · exact okG_no
  | i2l =>
    simp only [stI]
    split
    · next a st =>
      have ha := okU_i (okT_hd ht)
      have h64 : i64 a := by obtain ⟨_, _⟩ := ha; constructor <;> omega
      refine okG_go ?_ hl (okT_cons h64 (okT_tl ht)) hM
      show nx _ _ (.inr (.inl (Int32.ofInt a).toInt64) :: _) _ = _
      have e1 : (Int32.ofInt a).toInt64 = Int64.ofInt a := by
        apply Int64.toInt_inj.mp
        rw [Int32.toInt_toInt64, ofInt_toInt ha.1 ha.2, oj_toInt h64]
      rw [e1]; rfl
    · exact okG_no
  | lshl =>
    simp only [stI]
    split
    · next b a st =>
      refine okG_go ?_ hl (okT_cons (i64_toInt _) (okT_tl (okT_tl ht))) hM
      show nx _ _ (.inr (.inl (Int64.ofInt a <<< ((Int32.ofInt b).toInt64 &&& 63))) :: _) _ = nx _ _ (.inr (.inl (Int64.ofInt (lshlI a b))) :: _) _
      unfold lshlI
      rw [Int64.ofInt_toInt]
    · exact okG_no
  | lor =>
    simp only [stI]
    split
    · next b a st =>
      refine okG_go ?_ hl (okT_cons (i64_toInt _) (okT_tl (okT_tl ht))) hM
      show nx _ _ (.inr (.inl (Int64.ofInt a ||| Int64.ofInt b)) :: _) _ = nx _ _ (.inr (.inl (Int64.ofInt (lorI a b))) :: _) _
      unfold lorI
      rw [Int64.ofInt_toInt]
    · exact okG_no
  | lcmp =>
    simp only [stI]
    split
    · next b a st =>
      refine okG_go ?_ hl (okT_cons (lcmI_32 _ _) (okT_tl (okT_tl ht))) hM
      show nx _ _ (.inl (lcm (Int64.ofInt a) (Int64.ofInt b)) :: _) _ = _
      rw [oi_lcm (okT_hd (okT_tl ht)) (okT_hd ht)]; rfl
    · exact okG_no
  | dup =>
    simp only [stI]
    split
    · exact okG_go rfl hl (okT_cons (okT_hd ht) ht) hM
    · next a st =>
      refine okG_go ?_ hl (okT_cons (okT_hd ht) ht) hM
      cases a <;> rfl
    · exact okG_no
  | pop =>
    simp only [stI]
    split
    · exact okG_go rfl hl (okT_tl ht) hM
    · next a st =>
      refine okG_go ?_ hl (okT_tl ht) hM
      cases a <;> rfl
    · exact okG_no
  | dup2 =>
    simp only [stI]
    split
    · next b a st =>
      refine okG_go ?_ hl (okT_cons (okT_hd ht) (okT_cons (okT_hd (okT_tl ht)) ht)) hM
      cases a <;> rfl
    · exact okG_no
  | goto o =>
    simp only [stI, stepI]
    split
    · next t h => exact okG_go (by rw [h]; rfl) hl ht hM
    · exact okG_no
  | ifCond c o =>
    simp only [stI]
    split
    · next a st t h =>
      refine okG_go ?_ hl (okT_tl ht) hM
      rw [← oi_bz (okT_hd ht)]
      show (match (cT (Sum.inl a :: st) : List V), tg pc o with
        | .inl a :: st, some t => nx (brZ c a t (pc + 3)) (cL ls) st (cM M)
        | _, _ => none) = _
      rw [h]; rfl
    · exact okG_no
  | if_icmp c o =>
    simp only [stI]
    split
    · next b a st t h =>
      refine okG_go ?_ hl (okT_tl (okT_tl ht)) hM
      rw [← oi_b2 (okT_hd (okT_tl ht)) (okT_hd ht)]
      show (match (cT (Sum.inl b :: Sum.inl a :: st) : List V), tg pc o with
        | .inl b :: .inl a :: st, some t => nx (br2 c a b t (pc + 3)) (cL ls) st (cM M)
        | _, _ => none) = _
      rw [h]; rfl
    · exact okG_no
  | ifnull o =>
    simp only [stI, stepI]
    split
    · next st t h => refine okG_go ?_ hl (okT_tl ht) hM; rw [h]; rfl
    · next k st t h => refine okG_go ?_ hl (okT_tl ht) hM; rw [h]; rfl
    · exact okG_no
  | ifnonnull o =>
    simp only [stI, stepI]
    split
    · next st t h => refine okG_go ?_ hl (okT_tl ht) hM; rw [h]; rfl
    · next k st t h => refine okG_go ?_ hl (okT_tl ht) hM; rw [h]; rfl
    · exact okG_no
  | tableswitch d lo hi os =>
    simp only [stI, stepI]
    split
    · next a st t l h1 h2 =>
      refine okG_bb (fun hb => okG_go ?_ hl (okT_tl ht) hM)
      have hb2 := hb
      simp only [Bool.and_eq_true, decide_eq_true_eq] at hb2
      have h3 := tgs_len h2
      rw [h1, h2, ← oi_sw (okT_hd ht) l lo t (by omega) (by omega)]
      exact gd_t hb
    · exact okG_no
  | getfield ix =>
    simp only [stI, stepI]
    split
    · next K j i st =>
      have hk := okT_hd ht
      split
      · next K' s p hf =>
        refine okG_bb (fun hb => ?_)
        have e1 := (sh_c K s j i).1
        split
        · next k hs =>
          refine okG_go ?_ hl (okT_cons ((sh_c K s j i).2 hk.1 k hs) (okT_tl ht)) hM
          rw [hs] at e1
          show (match fnd2 FTab (eO e) ix with
            | some (K', s, _) => gd (Nat.beq K K') (match shp K s j.toNat with
              | some k => nx (pc + 3) (cL ls) (.inr (.inr (some k)) :: cT st) (cM M)
              | none => nx (pc + 3) (cL ls) (.inl (cM M K j.toNat i.toNat s) :: cT st) (cM M))
            | none => none) = _
          rw [hf]
          show gd (Nat.beq K K') (match shp K s j.toNat with
            | some k => nx (pc + 3) (cL ls) (.inr (.inr (some k)) :: cT st) (cM M)
            | none => nx (pc + 3) (cL ls) (.inl (cM M K j.toNat i.toNat s) :: cT st) (cM M)) = _
          rw [e1, gd_t hb]; rfl
        · next hs =>
          refine okG_go ?_ hl (okT_cons (hM _ _ _ _) (okT_tl ht)) hM
          rw [hs] at e1
          show (match fnd2 FTab (eO e) ix with
            | some (K', s, _) => gd (Nat.beq K K') (match shp K s j.toNat with
              | some k => nx (pc + 3) (cL ls) (.inr (.inr (some k)) :: cT st) (cM M)
              | none => nx (pc + 3) (cL ls) (.inl (cM M K j.toNat i.toNat s) :: cT st) (cM M))
            | none => none) = _
          rw [hf]
          show gd (Nat.beq K K') (match shp K s j.toNat with
            | some k => nx (pc + 3) (cL ls) (.inr (.inr (some k)) :: cT st) (cM M)
            | none => nx (pc + 3) (cL ls) (.inl (cM M K j.toNat i.toNat s) :: cT st) (cM M)) = _
          rw [e1, gd_t hb]
          simp only [Option.map_none]
          rw [cM_rdf hk.1 hk.2]; rfl
      · exact okG_no
    · exact okG_no
  | putfield ix =>
    simp only [stI, stepI]
    split
    · next v K j i st =>
      have hv := okU_i (okT_hd ht)
      have hk := okT_hd (okT_tl ht)
      split
      · next K' s p hf =>
        refine okG_bb (fun hb => ?_)
        have e1 := (sh_c K s j i).1
        split
        · exact okG_no
        · next hs =>
          rw [hs] at e1
          have key : (fZ K s = true → v = 0 ∨ v = 1) → (match fnd2 FTab (eO e) ix with
            | some (K', s, _) => gd (Nat.beq K K') (match shp K s j.toNat with
              | some _ => none
              | none => gd (bif fZ K s then isb (Int32.ofInt v) else true) (nx (pc + 3) (cL ls) (cT st) (wr (cM M) K j.toNat i.toNat s (Int32.ofInt v))))
            | none => none) = some (.inl (pc + 3, cL ls, cT st, cM (wri M K j i (Int.ofNat s) v))) := by
            intro hz
            rw [hf]
            simp only
            rw [e1, gd_t hb]
            simp only [Option.map_none]
            have h2 : (bif fZ K s then isb (Int32.ofInt v) else true) = true := by
              cases hq : fZ K s with
              | true => exact isb_c (hz hq)
              | false => rfl
            have h3 : cM (wri M K j i (Int.ofNat s) v) = wr (cM M) K j.toNat i.toNat s (Int32.ofInt v) := cM_wri (j := j) (i := i) hk.1 hk.2 (show (0 : Int) ≤ Int.ofNat s from Int.natCast_nonneg s)
            rw [gd_t h2, h3]
            rfl
          cases hz : fZ K s with
          | true =>
            rw [cond_true]
            exact okG_gg (fun hg => ⟨key (fun _ => hg), hl, okT_tl (okT_tl ht), okM_wri hM hv⟩)
          | false =>
            rw [cond_false]
            exact okG_go (key (fun q => by rw [hz] at q; cases q)) hl (okT_tl (okT_tl ht)) (okM_wri hM hv)
      · exact okG_no
    · exact okG_no
  | iaload =>
    simp only [stI, stepI]
    split
    · next v K j i st =>
      have hv := okU_i (okT_hd ht)
      have hk := okT_hd (okT_tl ht)
      split
      · next N ha =>
        refine okG_gg (fun hg => ⟨?_, hl, okT_cons (ar_ok hX hM) (okT_tl (okT_tl ht)), hM⟩)
        have e1 := al_c X K
        rw [ha] at e1
        show (match aln (cX X) K with
          | some (N, false) => gd (inb (Int32.ofInt v) N) (nx (pc + 1) (cL ls) (.inl (ard (cX X) (cM M) K j.toNat i.toNat (Int32.ofInt v).toNatClampNeg) :: cT st) (cM M))
          | _ => none) = _
        rw [e1]
        simp only [Option.map_some]
        rw [gd_t (inb_c hv hg.1 hg.2), oi_clamp hv, ar_c hk.1 hk.2 hg.1]; rfl
      · exact okG_no
    · exact okG_no
  | caload =>
    simp only [stI, stepI]
    split
    · next v K j i st =>
      have hv := okU_i (okT_hd ht)
      have hk := okT_hd (okT_tl ht)
      split
      · next N ha =>
        refine okG_gg (fun hg => ⟨?_, hl, okT_cons (hM _ _ _ _) (okT_tl (okT_tl ht)), hM⟩)
        have e1 := al_c X K
        rw [ha] at e1
        show (match aln (cX X) K with
          | some (N, true) => gd (inb (Int32.ofInt v) N) (nx (pc + 1) (cL ls) (.inl (cM M K j.toNat i.toNat (Int32.ofInt v).toNatClampNeg) :: cT st) (cM M))
          | _ => none) = _
        rw [e1]
        simp only [Option.map_some]
        rw [gd_t (inb_c hv hg.1 hg.2), oi_clamp hv, cM_rd hk.1 hk.2 hg.1]; rfl
      · exact okG_no
    · exact okG_no
  | iastore =>
    simp only [stI, stepI]
    split
    · next w v K j i st =>
      have hw := okU_i (okT_hd ht)
      have hv := okU_i (okT_hd (okT_tl ht))
      have hk := okT_hd (okT_tl (okT_tl ht))
      split
      · next N ha =>
        refine okG_bb (fun hb => okG_gg (fun hg => ⟨?_, hl, okT_tl (okT_tl (okT_tl ht)), okM_wri hM hw⟩))
        have e1 := al_c X K
        rw [ha] at e1
        show (match aln (cX X) K with
          | some (N, false) => gd (!(Nat.beq K 30) && inb (Int32.ofInt v) N) (nx (pc + 1) (cL ls) (cT st) (wr (cM M) K j.toNat i.toNat (Int32.ofInt v).toNatClampNeg (Int32.ofInt w)))
          | _ => none) = _
        rw [e1]
        simp only [Option.map_some]
        rw [gd_t (by rw [hb, inb_c hv hg.1 hg.2]; rfl), oi_clamp hv, cM_wri hk.1 hk.2 hg.1]; rfl
      · exact okG_no
    · exact okG_no
  | castore =>
    simp only [stI, stepI]
    split
    · next w v K j i st =>
      have hw := okU_i (okT_hd ht)
      have hv := okU_i (okT_hd (okT_tl ht))
      have hk := okT_hd (okT_tl (okT_tl ht))
      split
      · next N ha =>
        refine okG_bb (fun hb => okG_gg (fun hg => ⟨?_, hl, okT_tl (okT_tl (okT_tl ht)), okM_wri hM hw⟩))
        have e1 := al_c X K
        rw [ha] at e1
        show (match aln (cX X) K with
          | some (N, true) => gd (inb (Int32.ofInt v) N) (nx (pc + 1) (cL ls) (cT st) (wr (cM M) K j.toNat i.toNat (Int32.ofInt v).toNatClampNeg (vp_nar .char (Int32.ofInt w))))
          | _ => none) = _
        rw [e1]
        simp only [Option.map_some]
        rw [gd_t (inb_c hv hg.1.1 hg.1.2), oi_clamp hv, oi_nar hg.2.1 hg.2.2, cM_wri hk.1 hk.2 hg.1.1]; rfl
      · exact okG_no
    · exact okG_no
  | aaload =>
    simp only [stI, stepI]
    split
    · next v K j i st =>
      have hv := okU_i (okT_hd ht)
      have hk := okT_hd (okT_tl ht)
      split
      · next N ha =>
        refine okG_gg (fun hg => ⟨?_, hl, okT_cons (ae_ok hk.1 hg.1) (okT_tl (okT_tl ht)), hM⟩)
        have e1 := rl_c K
        rw [ha] at e1
        show (match rln K with
          | some N => gd (inb (Int32.ofInt v) N) (nx (pc + 1) (cL ls) (.inr (.inr (some (ael K j.toNat (Int32.ofInt v).toNatClampNeg))) :: cT st) (cM M))
          | none => none) = _
        rw [e1]
        simp only [Option.map_some]
        rw [gd_t (inb_c hv hg.1 hg.2), oi_clamp hv, ae_c hg.1]; rfl
      · exact okG_no
    · exact okG_no
  | arraylength =>
    simp only [stI, stepI]
    split
    · next j i st =>
      refine okG_go ?_ hl (okT_cons ⟨by have := hX.1; omega, hX.2.1⟩ (okT_tl ht)) hM
      show nx _ _ (.inl (nI X.1.toNat) :: _) _ = _
      rw [← oi_nat hX.1]; rfl
    · exact okG_no
  | ldc ix =>
    simp only [stI, stepI]
    split
    · next v h =>
      obtain ⟨w, k, h1, rfl, h2⟩ := ktab _ _ _ h
      refine okG_go ?_ hl (okT_cons h2 ht) hM
      rw [h1]; rfl
    · exact okG_no
  | ldc_w ix =>
    simp only [stI, stepI]
    split
    · next v h =>
      obtain ⟨w, k, h1, rfl, h2⟩ := ktab _ _ _ h
      refine okG_go ?_ hl (okT_cons h2 ht) hM
      rw [h1]; rfl
    · exact okG_no
  | ldc2_w ix =>
    simp only [stI, stepI]
    split
    · next v h =>
      obtain ⟨w, k, h1, rfl, h2⟩ := jtab _ _ _ h
      refine okG_go ?_ hl (okT_cons h2 ht) hM
      rw [h1]; rfl
    · exact okG_no
  | invokevirtual ix =>
    simp only [stI, stepI]
    split
    · next h => rw [h]; exact cl_ok hX hl ht hM
    · exact okG_no
  | invokestatic ix =>
    simp only [stI, stepI]
    split
    · next h => rw [h]; exact cl_ok hX hl ht hM
    · exact okG_no
  | ireturn =>
    simp only [stI, stepI]
    split
    · next v hr =>
      intro G r q hg
      cases q
      rw [hr]
      exact ⟨rfl, okT_hd ht⟩
    · next v hr =>
      intro G r q hg
      cases q
      rw [hr]
      exact ⟨gd_t (isb_c hg), okT_hd ht⟩
    · exact okG_no
  | lreturn =>
    simp only [stI, stepI]
    split
    · next v hr =>
      intro G r q hg
      cases q
      rw [hr]
      exact ⟨rfl, okT_hd ht⟩
    · exact okG_no
  | areturn =>
    simp only [stI, stepI]
    split
    · next v nm hr =>
      intro G r q hg
      cases q
      rw [hr]
      cases v <;> exact ⟨rfl, okT_hd ht⟩
    · exact okG_no
  | return_ =>
    simp only [stI, stepI]
    split
    · next hr =>
      intro G r q hg
      cases q
      rw [hr]
      exact ⟨rfl, True.intro⟩
    · exact okG_no
  | _ => exact okG_no
end
theorem wp_run {X : XI} (hX : okX X) : ∀ (n z : Nat) (e : ME) (s : SI) (Q : Option U → NM → Prop), nth MT z = some e → wpI X n e s Q → okS s → ∃ r M', run (cX X) n z (cS s) = some (cO r, cM M') ∧ Q r M' ∧ okO r ∧ okM M' := by
  intro n
  induction n with
  | zero => intro z e s Q _ h; exact absurd h id
  | succ n ih =>
    intro z e s Q he h hs
    rw [wpI] at h
    have hst : ∀ (G : Option Prop) (r : RI), stS X e s = (G, some r) → gP G → stepS (cX X) z (cS s) = some (cR r) ∧ okR s.2.2.2 r := by
      intro G r h2 hg
      unfold stS at h2
      have e1 : stepS (cX X) z (cS s) = match fnd (eI e) s.1 with
          | none => none
          | some q => stepI (cX X) e q.1 q.2 s.1 (cL s.2.1) (cT s.2.2.1) (cM s.2.2.2) := by
        unfold stepS
        rw [he]
        rfl
      rw [e1]
      cases hf : fnd (eI e) s.1 with
      | none => rw [hf] at h2; cases h2
      | some q =>
        rw [hf] at h2
        exact stI_ok hX hs.1 hs.2.1 hs.2.2 G r h2 hg
    split at h
    · next G s' hq =>
      have hg : gP G ∧ wpI X n e s' Q := by
        cases G with
        | none => exact ⟨True.intro, h⟩
        | some G => exact h
      obtain ⟨h1, h2⟩ := hst _ _ hq hg.1
      obtain ⟨r, M', a, b⟩ := ih z e s' Q he hg.2 h2
      exact ⟨r, M', by rw [run, h1]; exact a, b⟩
    · next G z' as rest hq =>
      have hg : gP G ∧ (match nth MT z' with
        | some e' => wpI X n e' (0, initU (eL e') as, [], s.2.2.2) (fun r M' => wpI X n e (s.1 + 3, s.2.1, pushU r rest, M') Q)
        | none => False) := by
        cases G with
        | none => exact ⟨True.intro, h⟩
        | some G => exact h
      obtain ⟨hg, h⟩ := hg
      obtain ⟨h1, h2⟩ := hst _ _ hq hg
      cases he' : nth MT z' with
      | none => rw [he'] at h; exact absurd h id
      | some e' =>
        rw [he'] at h
        have hok0 : okL (initU (eL e') as) := by
          have k1 : okL (argU as) := by
            have : ∀ l : List U, okT l → okL (argU l) := by
              intro l
              induction l with
              | nil => intro _ v hv; exact (List.not_mem_nil hv).elim
              | cons w l ih2 =>
                intro hl v hv
                match w, hl, hv with
                | .inl a, hl, hv =>
                  rcases List.mem_cons.mp hv with rfl | hv
                  · exact okT_hd hl
                  · exact ih2 (okT_tl hl) v hv
                | .inr (.inl a), hl, hv =>
                  rcases List.mem_cons.mp hv with rfl | hv
                  · exact okT_hd hl
                  · rcases List.mem_cons.mp hv with rfl | hv
                    · exact True.intro
                    · exact ih2 (okT_tl hl) v hv
                | .inr (.inr a), hl, hv =>
                  rcases List.mem_cons.mp hv with rfl | hv
                  · exact okT_hd hl
                  · exact ih2 (okT_tl hl) v hv
            exact this as h2.1
          have k2 : ∀ (n : Nat) (l : List (Option U)), okL l → okL (padU n l) := by
            intro n
            induction n with
            | zero => intro l _ v hv; exact (List.not_mem_nil hv).elim
            | succ n ih2 =>
              intro l hl v hv
              cases l with
              | nil =>
                rcases List.mem_cons.mp hv with rfl | hv
                · exact True.intro
                · exact ih2 [] hl v hv
              | cons a l =>
                rcases List.mem_cons.mp hv with rfl | hv
                · exact hl _ List.mem_cons_self
                · exact ih2 l (fun w hw => hl w (List.mem_cons_of_mem _ hw)) v hv
          exact k2 _ _ k1
        obtain ⟨r1, M1, a1, a2, a3, a4⟩ := ih z' e' _ _ he' h ⟨hok0, fun v hv => (List.not_mem_nil hv).elim, hs.2.2⟩
        have hok1 : okS (s.1 + 3, s.2.1, pushU r1 rest, M1) := ⟨hs.1, by
          cases r1 with
          | none => exact h2.2
          | some v => exact okT_cons a3 h2.2, a4⟩
        obtain ⟨r, M', b1, b2⟩ := ih z e _ Q he a2 hok1
        refine ⟨r, M', ?_, b2⟩
        rw [run, h1]
        show (match nth MT z' with
          | none => none
          | some e => match run (cX X) n z' (0, initL (eL e) (cT as), [], cM s.2.2.2) with
            | none => none
            | some (r, M') => run (cX X) n z (s.1 + 3, cL s.2.1, pushR r (cT rest), M')) = _
        rw [he']
        have a5 : run (cX X) n z' (0, initL (eL e') (cT as), [], cM s.2.2.2) = some (cO r1, cM M1) := by
          rw [init_c]; exact a1
        simp only [a5]
        rw [push_c]; exact b1
    · next G r hq =>
      have hg : gP G ∧ Q r s.2.2.2 := by
        cases G with
        | none => exact ⟨True.intro, h⟩
        | some G => exact h
      obtain ⟨h1, h2⟩ := hst _ _ hq hg.1
      exact ⟨r, s.2.2.2, by rw [run, h1]; rfl, hg.2, h2, hs.2.2⟩
    · exact absurd h id
