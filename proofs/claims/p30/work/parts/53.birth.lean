/-! 53: births: a constructor on the newest cell -/
def MZ : Mem := fun _ _ _ _ => 0
def WL (dA : Nat → ClassId) (ad : Key → Nat) (KL : List Key) : va_W := KL.map fun k => (ad k, ent dA ad MZ k)
theorem vP_mem {D : va_G} {cl : List vw_C} {ws : va_W} {H : Heap} : va_P D cl ws H ↔ ∀ q ∈ ws, va_at D cl q H := ⟨fun h q hq => by
  obtain ⟨k, hk⟩ := List.getElem?_of_mem hq
  exact h k q hk, fun h k q hk => h q (List.mem_of_getElem? hk)⟩
theorem vP_comm {D : va_G} {cl : List vw_C} {wa wb : va_W} {H : Heap} (h : va_P D cl (wa ++ wb) H) : va_P D cl (wb ++ wa) H := vP_mem.mpr fun q hq => vP_mem.mp h q (by
  rcases List.mem_append.mp hq with z | z
  · exact List.mem_append_right _ z
  · exact List.mem_append_left _ z)
theorem vD_comm {A : Nat → Prop} {wa wb : va_W} (h : va_D A (wa ++ wb)) : va_D A (wb ++ wa) := by
  have key : ∀ (i : Nat) (p : Nat × va_E), (wb ++ wa)[i]? = some p → (wa ++ wb)[if i < wb.length then wa.length + i else i - wb.length]? = some p ∧ i < wb.length + wa.length := by
    intro i p hp
    have hl : i < wb.length + wa.length := by
      have h0 := (List.getElem?_eq_some_iff.mp hp).1
      rwa [List.length_append] at h0
    by_cases q : i < wb.length
    · rw [if_pos q, List.getElem?_append_right (by omega), show wa.length + i - wa.length = i by omega]
      rw [List.getElem?_append_left q] at hp
      exact ⟨hp, hl⟩
    · rw [if_neg q, List.getElem?_append_left (by omega)]
      rw [List.getElem?_append_right (by omega)] at hp
      exact ⟨hp, hl⟩
  refine ⟨fun i j p q hi hj ee => ?_, fun k q hk => h.2 _ q (key k q hk).1⟩
  obtain ⟨x1, x2⟩ := key i p hi
  obtain ⟨y1, y2⟩ := key j q hj
  have z := h.1 _ _ p q x1 y1 ee
  by_cases u : i < wb.length
  · by_cases v : j < wb.length
    · rw [if_pos u, if_pos v] at z; omega
    · rw [if_pos u, if_neg v] at z; omega
  · by_cases v : j < wb.length
    · rw [if_neg u, if_pos v] at z; omega
    · rw [if_neg u, if_neg v] at z; omega
theorem vD_one {A : Nat → Prop} {q : Nat} {ee : va_E} (h : A q) : va_D A [(q, ee)] := by
  have key : ∀ (i : Nat) (p : Nat × va_E), [(q, ee)][i]? = some p → i = 0 ∧ p = (q, ee) := by
    intro i p hp
    have h0 : i < 1 := (List.getElem?_eq_some_iff.mp hp).1
    obtain rfl : i = 0 := by omega
    exact ⟨rfl, (Option.some.inj hp).symm⟩
  refine ⟨fun i j p r hi hj _ => (key i p hi).1.trans (key j r hj).1.symm, fun k r hk => ?_⟩
  rw [(key k r hk).2]; exact h
theorem arrV_cg {cI : ClassId} {N : Nat} {f g : Nat → Value} (h : ∀ j, j < N → f j = g j) : arrV cI N f = arrV cI N g := by
  unfold arrV
  congr 2
  funext j
  exact h j.val j.isLt
/-- an array of references: what lies behind its end doesn't count -/
theorem vP_q {D : va_G} {cl : List vw_C} {A : Nat → Prop} {ws : va_W} {H : Heap} {k a N : Nat} {cA : ClassId} {f g : Nat → Option Nat} (hP : va_P D cl ws H) (hD : va_D A ws) (hk : ws[k]? = some (a, .inl (cA, N, .inr (.inr (.inr (.inr f)))))) (h : ∀ n, n < N → f n = g n) : va_P D cl (ws.set k (a, .inl (cA, N, .inr (.inr (.inr (.inr g)))))) H := by
  refine hP.set hD hk ?_ (fun _ _ => rfl)
  have h0 := hP k _ hk
  show H[a]? = some (vp_cell cA (N, .inr (.inr (.inr (.inr g)))))
  have h1 : H[a]? = some (vp_cell cA (N, .inr (.inr (.inr (.inr f))))) := h0
  rw [h1, vp_cell_q, vp_cell_q]
  exact congrArg some (arrV_cg (fun j hj => by rw [h j hj]))
/-- words of the tables that don't ride with a method: private constructors of nest mates, arrays of objects -/
def Nst (U : State) : Prop := (va_Nw (.methodLinkNest RX1 17 yX0_init RX7) U ∧ va_Nw (.methodLinkNest RX5 30 yX3_init RX7) U ∧ va_Nw (.methodLinkNest RX5 31 yX6_init RX7) U) ∧ va_AO RX0 U ∧ va_AO RX3 U ∧ va_AO RX6 U ∧ va_AO RX5 U
theorem Nst_warm {s U : State} (hW : s.WarmedH U.vm) (h : Nst s) : Nst U := ⟨⟨va_Nw.warmM hW h.1.1, va_Nw.warmM hW h.1.2.1, va_Nw.warmM hW h.1.2.2⟩, va_AO.moved hW.alike h.2.1, va_AO.moved hW.alike h.2.2.1, va_AO.moved hW.alike h.2.2.2.1, va_AO.moved hW.alike h.2.2.2.2⟩
theorem Nst_same {U V : State} (hv : U.vm = V.vm) (h : Nst U) : Nst V := by
  have ha : U.vm.Alike V.vm := by rw [← hv]; exact Vm.Alike.refl U.vm
  exact ⟨⟨va_tabs rfl hv h.1.1, va_tabs rfl hv h.1.2.1, va_tabs rfl hv h.1.2.2⟩, va_AO.moved ha h.2.1, va_AO.moved ha h.2.2.1, va_AO.moved ha h.2.2.2.1, va_AO.moved ha h.2.2.2.2⟩
theorem cls_eq {D : va_G} {dA : Nat → ClassId} {s : State} {i : Nat} {cA : ClassId} {ty : FieldType} (h : (tysA dA)[i]? = some (dA i, ty)) (hK : va_K D vwCl (tysA dA ++ [(cA, ty)]) s) : cA = dA i := by
  have hi : i < (tysA dA).length := (List.getElem?_eq_some_iff.mp h).1
  have h0 := (hK.2 i (dA i, ty) (by rw [List.getElem?_append_left hi]; exact h)).2
  have h1 := (hK.2 6 (cA, ty) rfl).2
  cases ty with
  | object C =>
    obtain ⟨_, _, _, _, _, g0⟩ := h0
    obtain ⟨_, _, _, _, _, g1⟩ := h1
    exact Option.some.inj (g1.symm.trans g0)
  | _ =>
    have g0 : s.vm.findClass _ = some (dA i) := h0
    have g1 : s.vm.findClass _ = some cA := h1
    exact Option.some.inj (g1.symm.trans g0)
def CtPre (D : va_G) (dA : Nat → ClassId) (K : Nat) (fs : List Value) (q sz : Nat) : State → Prop := fun U => U.heap.size = sz ∧ va_P D vwCl [(q, .inr (K, fs))] U.heap ∧ va_K D vwCl (tysA dA) U ∧ va_D (fun _ => True) [(q, .inr (K, fs))] ∧ Nst U
def CtB (D : va_G) (dA : Nat → ClassId) (A : Nat → Prop) (KL : List Key) : (Key → Nat) → State → Prop := fun ad t => va_P D vwCl (WL dA ad KL) t.heap ∧ va_K D vwCl (tysA dA) t ∧ va_D A (WL dA ad KL)
def Ctor (l : Launch) (D : va_G) (dA : Nat → ClassId) (y : MethodName) (b : ByteArray) (n : Nat) (rm : Room) (K : Nat) (fs : List Value) (KL : List Key) (mc ms : Nat) : Prop := ∀ q sz : Nat, Met l y (wsP y b n none) rm (va_Pc [.ref q] (CtPre D dA K fs q sz)) (va_Qv (fun ad : Key → Nat => ad (K, 0, 0) = q) (CtB D dA (va_A [(q, .inr (K, fs))] sz) KL) (va_A [(q, .inr (K, fs))] sz)) mc ms (va_A [(q, .inr (K, fs))] sz)
theorem good_ct {y : MethodName} {b : ByteArray} {n : Nat} {r : Option FieldType} (h5 : Cond.code y b n r ∈ gtbl) : GoodIn gtbl (wsP y b n r) := by
  intro w hw
  unfold wsP at hw
  rcases List.mem_cons.mp hw with rfl | hw
  · exact ⟨h5, Or.inl (by rfl)⟩
  · exact gtbl_good w hw
section
variable {p : Program} {l : Launch} {e : Env} {R : Room} {s : State} {m : MethodId} {args : Array Value} {below : List Frame} {meth : Method} {c : Code} {H : Heap} {locs : List Loc} {cells slots : Nat} {Q : State → Prop} {D : va_G} {dA : Nat → ClassId} {A : Nat → Prop}
theorem ctor_ev {pc K q mc ms : Nat} {ls : Array Slot} {st0 rest : List Value} {fs : List Value} {KL : List Key} {wl : va_W} {av : Array Value}
    (hr : va_Run p l e R s m args below meth c H locs cells slots mc ms (F0 m pc ls st0) rest (va_Qv (fun ad : Key → Nat => ad (K, 0, 0) = q) (CtB D dA (va_A [(q, .inr (K, fs))] H.size) KL) (va_A [(q, .inr (K, fs))] H.size) av) (va_A [(q, .inr (K, fs))] H.size))
    (hP : va_P D vwCl (wl ++ [(q, .inr (K, fs))]) H) (hD : va_D A (wl ++ [(q, .inr (K, fs))])) (hS : va_S A s.heap H locs) (hA : ∀ x : Nat, s.heap.size ≤ x → A x)
    (kk : ∀ (ad : Key → Nat) (H1 : Heap) (locs1 : List Loc), ad (K, 0, 0) = q → va_P D vwCl (wl ++ WL dA ad KL) H1 → va_D A (wl ++ WL dA ad KL) → va_S A s.heap H1 locs1 → W p l e R s m args below meth c H1 locs1 (cells + mc) (slots + ms) Q (F0 m (pc + 3) ls rest)) : W p l e R s m args below meth c H locs cells slots Q (F0 m pc ls st0) := by
  have hq : A q := hD.2 wl.length (q, .inr (K, fs)) (by simp)
  have hF : ∀ x, va_A [(q, .inr (K, fs))] H.size x → A x := by
    intro x h
    rcases h with ⟨k, ee, hk⟩ | h
    · have h0 : k < 1 := (List.getElem?_eq_some_iff.mp hk).1
      obtain rfl : k = 0 := by omega
      cases hk
      exact hq
    · exact hA x (Nat.le_trans hS.1 h)
  refine va_callv hr hS (fun x _ h => hF x h) hF (fun ad t H1 locs1 ht hvm hw hB hz1 hk1 hS1 => ?_)
  obtain ⟨hP1, hK1, hD1⟩ := hB
  rw [ht] at hP1
  obtain ⟨hP2, hD2⟩ := va_joinQ (wr := []) (w1 := WL dA ad KL) (pl := wl) (X := [(q, .inr (K, fs))]) (cx := [(q, .inr (K, fs))]) (vP_comm hP) (vD_comm hD) [0] [] rfl rfl rfl (fun i hi => absurd hi List.not_mem_nil) hk1 hF hP1 hD1
  exact kk ad H1 locs1 hw (vP_comm hP2) (vD_comm hD2) hS1
theorem ctor_pre {K q : Nat} {fs : List Value} {wl : va_W} (hK : va_K D vwCl (tysA dA) s) (hN : Nst s) (hP : va_P D vwCl (wl ++ [(q, .inr (K, fs))]) H) : PreS s H (va_Pc [.ref q] (CtPre D dA K fs q H.size)) [.ref q] := by
  refine ⟨fun a U g mk qq => ?_, fun U hU hW => ?_⟩
  · obtain ⟨q0, q1, qP, qK, qD, qN⟩ := qq
    exact ⟨q0, q1, qP, va_K.moved (u := U) (U := U.calling g mk a) (Vm.Alike.refl U.vm) qK, qD, Nst_same (U := U) (V := U.calling g mk a) rfl qN⟩
  · have hPc := (vP_comm hP).sub (ws' := [(q, .inr (K, fs))]) [0] rfl
    exact ⟨rfl, by rw [hU], by rw [hU]; exact hPc, va_K.moved hW.alike hK, vD_one True.intro, Nst_warm hW hN⟩
theorem ctor_I {cc b : ByteArray} {nL n index pc K q mc ms : Nat} {own : String} {y : MethodName} {rm : Room} {ls : Array Slot} {rest : List Value} {fs : List Value} {KL : List Key} {wl : va_W} (hC : Ctor l D dA y b n rm K fs KL mc ms) (S0 : CallFix p m c cc nL s args gtbl own) (hini : Cond.initialized y.cls ∈ gtbl) (hl : Cond.methodLink own index y ∈ gtbl) (hin : Cond.instanceMethod y ∈ gtbl) (hc : Cond.code y b n none ∈ gtbl) (hy1 : y.name = "<init>") (hd : y.cls ≠ "java/lang/invoke/MethodHandle" ∧ y.cls ≠ "java/lang/invoke/VarHandle" ∧ (parseMethodDescriptor y.desc).map (fun d => d.parameters.length) = some 0) (hrc : rm.cells = mc) (hrs : rm.slots = ms) (hR : rm.frames + 1 ≤ R.frames ∧ 8 + (n + 11) + rm.locals ≤ R.locals)
    (hK : va_K D vwCl (tysA dA) s) (hN : Nst s) (hP : va_P D vwCl (wl ++ [(q, .inr (K, fs))]) H) (hD : va_D A (wl ++ [(q, .inr (K, fs))])) (hS : va_S A s.heap H locs) (hA : ∀ x : Nat, s.heap.size ≤ x → A x) (hsz : ls.size = nL) (hroom : (rest.map fun v => v.category).sum ≤ 8) (hdg : decode cc pc = .ok (.invokespecial index, 3)) (hf : cells + mc ≤ R.cells ∧ slots + ms ≤ R.slots)
    (kk : ∀ (ad : Key → Nat) (H1 : Heap) (locs1 : List Loc), ad (K, 0, 0) = q → va_P D vwCl (wl ++ WL dA ad KL) H1 → va_D A (wl ++ WL dA ad KL) → va_S A s.heap H1 locs1 → W p l e R s m args below meth c H1 locs1 (cells + mc) (slots + ms) Q (F0 m (pc + 3) ls rest)) : W p l e R s m args below meth c H locs cells slots Q (F0 m pc ls (.ref q :: rest)) :=
  ctor_ev (va_runI (As := []) (rest := rest) S0 (hC q H.size) (cwI 0 S0.2.2.2.2 (good_ct hc) rfl hrc hrs (S0.2.2.2.2 _ hini) (S0.2.2.2.2 _ hl) (S0.2.2.2.2 _ hin) hy1 hd hR) (ctor_pre hK hN hP) rfl rfl hsz rfl (lv_room hroom) hdg hf) hP hD hS hA kk
theorem ctor_N {cc b : ByteArray} {nL n index pc K q mc ms : Nat} {own host : String} {y : MethodName} {rm : Room} {ls : Array Slot} {rest : List Value} {fs : List Value} {KL : List Key} {wl : va_W} (hC : Ctor l D dA y b n rm K fs KL mc ms) (S0 : CallFix p m c cc nL s args gtbl own) (hini : Cond.initialized y.cls ∈ gtbl) (hl : va_Nw (.methodLinkNest own index y host) s) (hin : Cond.instanceMethod y ∈ gtbl) (hc : Cond.code y b n none ∈ gtbl) (hy1 : y.name = "<init>") (hd : y.cls ≠ "java/lang/invoke/MethodHandle" ∧ y.cls ≠ "java/lang/invoke/VarHandle" ∧ (parseMethodDescriptor y.desc).map (fun d => d.parameters.length) = some 0) (hrc : rm.cells = mc) (hrs : rm.slots = ms) (hR : rm.frames + 1 ≤ R.frames ∧ 8 + (n + 11) + rm.locals ≤ R.locals)
    (hK : va_K D vwCl (tysA dA) s) (hN : Nst s) (hP : va_P D vwCl (wl ++ [(q, .inr (K, fs))]) H) (hD : va_D A (wl ++ [(q, .inr (K, fs))])) (hS : va_S A s.heap H locs) (hA : ∀ x : Nat, s.heap.size ≤ x → A x) (hsz : ls.size = nL) (hroom : (rest.map fun v => v.category).sum ≤ 8) (hdg : decode cc pc = .ok (.invokespecial index, 3)) (hf : cells + mc ≤ R.cells ∧ slots + ms ≤ R.slots)
    (kk : ∀ (ad : Key → Nat) (H1 : Heap) (locs1 : List Loc), ad (K, 0, 0) = q → va_P D vwCl (wl ++ WL dA ad KL) H1 → va_D A (wl ++ WL dA ad KL) → va_S A s.heap H1 locs1 → W p l e R s m args below meth c H1 locs1 (cells + mc) (slots + ms) Q (F0 m (pc + 3) ls rest)) : W p l e R s m args below meth c H locs cells slots Q (F0 m pc ls (.ref q :: rest)) :=
  ctor_ev (va_runIN (As := []) (rest := rest) S0 (hC q H.size) ⟨va_cnB 0 S0.2.2.2.2 (good_ct hc) rfl hrc hrs hl (S0.2.2.2.2 _ hini) hd hR, hy1, S0.2.2.2.2 _ hin⟩ (ctor_pre hK hN hP) rfl rfl hsz rfl (lv_room hroom) hdg hf) hP hD hS hA kk
end
