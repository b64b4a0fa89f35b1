/-! contracts: from the world w with these arguments method y comes back; what comes and the world then are told by Q -/
def rmd (D mc ms : Nat) : Room := { frames := D, cells := mc, slots := ms, locals := 39 * D }
def QV (Q : Option Value → Wd → Prop) (g : GG) (B : Nat) : Array Value → State → Outcome → State → Prop := fun _ st oc t => (∃ (v : Option Value) (w : Wd), oc = .returned v ∧ Q v w ∧ wR g B w t.heap) ∧ va_F (fun q => B ≤ q) st t
def PV (args : List Value) (w : Wd) (g : GG) (B : Nat) : Array Value → State → Prop := va_Pc args (fun U => kK g U ∧ wR g B w U.heap)
def Con (y : MethodName) (cc : ByteArray) (mL : Nat) (rt : Option FieldType) (D mc ms : Nat) (args : List Value) (w : Wd) (Q : Option Value → Wd → Prop) : Prop :=
  ∀ (l : Launch) (g : GG) (B : Nat), Met l y (.code y cc mL rt :: GW) (rmd D mc ms) (PV args w g B) (QV Q g B) mc ms (fun q => B ≤ q)
def Rx (X : CX) (rt : Option FieldType) (Q : Option Value → Wd → Prop) (mc ms : Nat) : Prop := X.Q = MQ X.below (QV Q X.g X.B) X.args X.s mc ms (fun q => X.B ≤ q) ∧ X.meth.sig.returnType = rt ∧ X.meth.locks = false
theorem Con.mk {y : MethodName} {cc : ByteArray} {mL : Nat} {rt : Option FieldType} {D mc ms : Nat} {args : List Value} {w : Wd} {Q : Option Value → Wd → Prop} (lv : List (Option Value)) (hy : plainName y.cls = true) (hlv : lvl 0 lv = lv_args 0 args) (hlen : lv.length = mL) (hsl : (lg_sl args).length ≤ mL)
    (body : ∀ X : CX, Cx X cc y.cls D mc ms → Rx X rt Q mc ms → X.meth.name = y.name → V X 0 0 0 lv [] w) : Con y cc mL rt D mc ms args w Q := by
  intro l g B
  refine Met.ofW (cc := cc) (maxL := mL) (ret := rt) hy rfl ?_
  intro p e s m args' below meth c s₁ Bd hml hv
  obtain ⟨rfl, hK, hw⟩ := hv
  have hts := atoms_spec (ws := _) Bd.pre
  have hl := lv_entry args (n := mL) hsl
  rw [lg_entry_eq]
  exact body (p, l, e, rmd D mc ms, s, m, args.toArray, below, meth, c, g, B, MQ below (QV Q g B) args.toArray s mc ms (fun q => B ≤ q))
    ⟨Bd.exec, Bd.bytes, findClass_of_methodNamed Bd.named, fun q hq => hts q (List.mem_cons_of_mem _ hq), hK, hw.2.1, Nat.le_refl _, Nat.le_refl _, Nat.le_refl _, Nat.le_refl _⟩
    ⟨rfl, Bd.returns, Bd.notSynchronized⟩ (name_of_methodNamed Bd.named Bd.method).1 s.heap [] _ hw va_S.rf ⟨by rw [hlen]; exact hml.symm, by rw [hlv]; show lv_has _ c.maxLocals _; rw [hml]; exact hl⟩
theorem Con.weaken {y : MethodName} {cc : ByteArray} {mL : Nat} {rt : Option FieldType} {D mc ms : Nat} {args : List Value} {w : Wd} {Q Q' : Option Value → Wd → Prop} (h : Con y cc mL rt D mc ms args w Q) (hq : ∀ v w', Q v w' → Q' v w') : Con y cc mL rt D mc ms args w Q' := by
  intro l g B p e ha hc hk s m args' below hf
  intro hap hP hT
  obtain ⟨k, o, h1, h2, h3, ⟨⟨⟨v, w1, e1, e2, e3⟩, e4⟩, h5⟩⟩ := h l g B p e ha hc hk s m args' below hf hap hP hT
  exact ⟨k, o, h1, h2, h3, ⟨⟨⟨v, w1, e1, hq _ _ e2, e3⟩, e4⟩, h5⟩⟩
theorem gw_good {ws : List Cond} (hw : ∀ w ∈ ws, w ∈ GW) : GoodIn GW ws := fun w h => ⟨hw w h, good_of_word (List.mem_filter.mp (hw w h)).2⟩
theorem PV.blind {args : List Value} {w : Wd} {g : GG} {B : Nat} : FrameBlind (PV args w g B) := fun a U g mk q => ⟨q.1, kK.same (s := U) (U := U.calling g mk a) rfl q.2.1, q.2.2⟩
section VC
variable {X : CX} {cc : ByteArray} {own : String} {D mcT msT kc ks pc : Nat} {lv : List (Option Value)} {st : List Value} {w : Wd}
theorem V.iret {Q : Option Value → Wd → Prop} (h : Cx X cc own D mcT msT) (hR : Rx X (some .int) Q kc ks) {x : Int32} (d : decode cc pc = .ok (.ireturn, 1)) (hq : Q (some (.int x)) w) : V X kc ks pc lv [.int x] w := by
  intro H locs ls hw hS hl
  rw [hR.1]
  exact W.iret (hlocks := hR.2.2) h.1 h.2.1 hR.2.1 (fun t ht hW => ⟨⟨_, w, rfl, hq, by rw [ht]; exact hw⟩, hS.F ht⟩) hS.2.2 d
theorem V.zret {Q : Option Value → Wd → Prop} {ty : FieldType} (h : Cx X cc own D mcT msT) (hR : Rx X (some ty) Q kc ks) {x : Int32} (hn : narrow ty (.int x) = .int x) (d : decode cc pc = .ok (.ireturn, 1)) (hq : Q (some (.int x)) w) : V X kc ks pc lv [.int x] w := by
  intro H locs ls hw hS hl
  rw [hR.1]
  exact W.zret (hlocks := hR.2.2) h.1 h.2.1 hR.2.1 hn (fun t ht hW => ⟨⟨_, w, rfl, hq, by rw [ht]; exact hw⟩, hS.F ht⟩) hS.2.2 d
theorem V.lret {Q : Option Value → Wd → Prop} (h : Cx X cc own D mcT msT) (hR : Rx X (some .long) Q kc ks) {x : Int64} (d : decode cc pc = .ok (.lreturn, 1)) (hq : Q (some (.long x)) w) : V X kc ks pc lv [.long x] w := by
  intro H locs ls hw hS hl
  rw [hR.1]
  exact W.lret (hlocks := hR.2.2) h.1 h.2.1 hR.2.1 (fun t ht hW => ⟨⟨_, w, rfl, hq, by rw [ht]; exact hw⟩, hS.F ht⟩) hS.2.2 d
theorem V.vret {Q : Option Value → Wd → Prop} (h : Cx X cc own D mcT msT) (hR : Rx X none Q kc ks) (d : decode cc pc = .ok (.return_, 1)) (hq : Q none w) : V X kc ks pc lv [] w := by
  intro H locs ls hw hS hl
  rw [hR.1]
  exact W.vret (hlocks := hR.2.2) h.1 h.2.1 hR.2.1 (fun t ht hW => ⟨⟨_, w, rfl, hq, by rw [ht]; exact hw⟩, hS.F ht⟩) hS.2.2 d
/-- behind a call -/
theorem V.back {Q : Option Value → Wd → Prop} {mc ms : Nat} {a : Array Value} {H : Heap} {locs : List Loc} {ls : Array Slot} {st0 : List Value} {pc1 : Nat} (hp : pc + 3 = pc1)
    (hr : va_Run X.p X.l X.e X.R X.s X.m X.args X.below X.meth X.c H locs kc ks mc ms (F0 X.m pc ls st0) st (QV Q X.g X.B a) (fun q => X.B ≤ q)) (hS : va_S (fun q => X.B ≤ q) X.s.heap H locs) (hl : LV ls X.c.maxLocals lv)
    (k : ∀ v w1, Q v w1 → V X (kc + mc) (ks + ms) pc1 lv (v.toList ++ st) w1) : W X.p X.l X.e X.R X.s X.m X.args X.below X.meth X.c H locs kc ks X.Q (F0 X.m pc ls st0) := by
  subst hp
  intro T hT Y
  obtain ⟨v, st₀, t, T', L, h0, X', hL, e1, e2, ⟨⟨v', w1, hv, hQ, hw1⟩, hz, hk⟩, stp⟩ := hr T hT Y
  cases hv
  rw [h0] at hz hk
  obtain ⟨t2, a1, b1⟩ := k v w1 hQ T'.heap (locs ++ L) ls (by rw [e1]; exact hw1)
    ⟨Nat.le_trans hS.1 (by rw [e1]; exact hz), fun q h1 h2 => by rw [e1, hk q (Nat.lt_of_lt_of_le h1 hS.1) h2]; exact hS.2.1 q h1 h2, fun q hq => by
      rcases List.mem_append.mp hq with h | h
      · exact hS.2.2 q h
      · exact hL q h⟩ hl T' rfl X'
  exact ⟨t2, stp t2 a1, b1⟩
theorem V.callV {y : MethodName} {cy : ByteArray} {mL dd mc ms index b ci : Nat} {rt : Option FieldType} {As : List Value} {Q : Option Value → Wd → Prop} {st0 : List Value} {fs : List Value} {q : vw_C} (h : Cx X cc own D mcT msT) (pc1 : Nat) (d : decode cc pc = .ok (.invokevirtual index, 3)) (hp : pc + 3 = pc1)
    (hcode : Cond.code y cy mL rt ∈ GW) (hlink : Cond.methodLink own index y ∈ GW) (hinst : Cond.instanceMethod y ∈ GW) (hsel : Cond.selects y.cls y y ∈ GW) (hini : Cond.initialized y.cls ∈ GW)
    (hd : y.cls ≠ "java/lang/invoke/MethodHandle" ∧ y.cls ≠ "java/lang/invoke/VarHandle" ∧ (parseMethodDescriptor y.desc).map (fun d => d.parameters.length) = some As.length)
    (hroom : dd + 1 ≤ D ∧ mL ≤ 20 ∧ kc + mc ≤ mcT ∧ ks + ms ≤ msT) (hq : vwCl[ci]? = some q) (hqc : q.1 = y.cls) (hb : w.2 b = some (.inr (ci, fs))) (hcat : (st.map fun v => v.category).sum ≤ 8) (hC : Con y cy mL rt dd mc ms (.ref b :: As) w Q)
    (hst : st0 = As.reverse ++ .ref b :: st)
    (k : ∀ v w1, Q v w1 → V X (kc + mc) (ks + ms) pc1 lv (v.toList ++ st) w1) : V X kc ks pc lv st0 w := by
  subst hst; intro H locs ls hw hS hl
  have hts := h.2.2.2.1
  have hG : GoodIn GW (wsV own index y.cls y (.code y cy mL rt :: GW)) := gw_good (fun x hx => by
    simp only [wsV, List.mem_append, List.mem_cons, List.not_mem_nil, or_false] at hx
    rcases hx with (rfl | rfl | rfl | rfl) | rfl | hx
    · exact hlink
    · exact hinst
    · exact hsel
    · exact hini
    · exact hcode
    · exact hx)
  have hR1 := h.2.2.2.2.2.2.1
  have hR2 := h.2.2.2.2.2.2.2.1
  have cw : CallW X.R X.s X.args own y.cls index y cy mL rt (.code y cy mL rt :: GW) (rmd dd mc ms) mc ms As.length := cwV As.length hts hG rfl rfl rfl ⟨rfl, hd⟩ ⟨by show dd + 1 ≤ _; omega, by show 8 + (mL + 11) + 39 * dd ≤ _; omega⟩
  obtain ⟨L, F, q0, hP, hD, hW, hL, hq0⟩ := hw.at hb
  have hrc := va_recv h.2.2.2.2.1.1 hP hq hq0
  rw [hqc] at hrc
  exact V.back hp (va_runV (As := As) (rest := st) ⟨h.1, h.2.1, rfl, h.2.2.1, hts⟩ (hC X.l X.g X.B) cw ⟨PV.blind, hrc, fun U hU hW => ⟨rfl, kK.moved hW h.2.2.2.2.1, by rw [hU]; exact hw⟩⟩ rfl rfl hl.2.1 rfl (lv_room hcat) d ⟨Nat.le_trans hroom.2.2.1 h.2.2.2.2.2.2.2.2.1, Nat.le_trans hroom.2.2.2 h.2.2.2.2.2.2.2.2.2⟩) hS hl k
theorem V.callN {y : MethodName} {cy : ByteArray} {mL dd mc ms index b ci : Nat} {host : String} {rt : Option FieldType} {As : List Value} {Q : Option Value → Wd → Prop} {st0 : List Value} {fs : List Value} {q : vw_C} (h : Cx X cc own D mcT msT) (pc1 : Nat) (d : decode cc pc = .ok (.invokevirtual index, 3)) (hp : pc + 3 = pc1)
    (hcode : Cond.code y cy mL rt ∈ GW) (hlink : Cond.methodLinkNest own index y host ∈ lw_tbl) (hinst : Cond.instanceMethod y ∈ GW) (hsel : Cond.selects y.cls y y ∈ GW) (hini : Cond.initialized y.cls ∈ GW)
    (hd : y.cls ≠ "java/lang/invoke/MethodHandle" ∧ y.cls ≠ "java/lang/invoke/VarHandle" ∧ (parseMethodDescriptor y.desc).map (fun d => d.parameters.length) = some As.length)
    (hroom : dd + 1 ≤ D ∧ mL ≤ 20 ∧ kc + mc ≤ mcT ∧ ks + ms ≤ msT) (hq : vwCl[ci]? = some q) (hqc : q.1 = y.cls) (hb : w.2 b = some (.inr (ci, fs))) (hcat : (st.map fun v => v.category).sum ≤ 8) (hC : Con y cy mL rt dd mc ms (.ref b :: As) w Q)
    (hst : st0 = As.reverse ++ .ref b :: st)
    (k : ∀ v w1, Q v w1 → V X (kc + mc) (ks + ms) pc1 lv (v.toList ++ st) w1) : V X kc ks pc lv st0 w := by
  subst hst; intro H locs ls hw hS hl
  have hts := h.2.2.2.1
  have hR1 := h.2.2.2.2.2.2.1
  have hR2 := h.2.2.2.2.2.2.2.1
  have hG : GoodIn GW (.code y cy mL rt :: GW) := gw_good (fun x hx => by
    rcases List.mem_cons.mp hx with rfl | hx
    · exact hcode
    · exact hx)
  have cw := va_cnB (R := X.R) (args := X.args) (own := own) (index := index) (mc := mc) (ms := ms) (rm := rmd dd mc ms) As.length hts hG rfl rfl rfl (h.2.2.2.2.1.2.2 _ hlink rfl) (hts _ hini) hd ⟨by show dd + 1 ≤ _; omega, by show 8 + (mL + 11) + 39 * dd ≤ _; omega⟩
  obtain ⟨L, F, q0, hP, hD, hW, hL, hq0⟩ := hw.at hb
  have hrc := va_recv h.2.2.2.2.1.1 hP hq hq0
  rw [hqc] at hrc
  exact V.back hp (va_runVN (As := As) (rest := st) ⟨h.1, h.2.1, rfl, h.2.2.1, hts⟩ (hC X.l X.g X.B) ⟨cw, hts _ hinst, hts _ hsel⟩ ⟨PV.blind, hrc, fun U hU hW => ⟨rfl, kK.moved hW h.2.2.2.2.1, by rw [hU]; exact hw⟩⟩ rfl rfl hl.2.1 rfl (lv_room hcat) d ⟨Nat.le_trans hroom.2.2.1 h.2.2.2.2.2.2.2.2.1, Nat.le_trans hroom.2.2.2 h.2.2.2.2.2.2.2.2.2⟩) hS hl k
theorem V.callS {y : MethodName} {cy : ByteArray} {mL dd mc ms index : Nat} {rt : Option FieldType} {As : List Value} {Q : Option Value → Wd → Prop} {st0 : List Value} (h : Cx X cc own D mcT msT) (pc1 : Nat) (d : decode cc pc = .ok (.invokestatic index, 3)) (hp : pc + 3 = pc1)
    (hcode : Cond.code y cy mL rt ∈ GW) (hlink : Cond.methodLink own index y ∈ GW) (hstat : Cond.static y ∈ GW) (hini : Cond.initialized y.cls ∈ GW)
    (hd : y.cls ≠ "java/lang/invoke/MethodHandle" ∧ y.cls ≠ "java/lang/invoke/VarHandle" ∧ (parseMethodDescriptor y.desc).map (fun d => d.parameters.length) = some As.length)
    (hroom : dd + 1 ≤ D ∧ mL ≤ 20 ∧ kc + mc ≤ mcT ∧ ks + ms ≤ msT) (hcat : (st.map fun v => v.category).sum ≤ 8) (hC : Con y cy mL rt dd mc ms As w Q)
    (hst : st0 = As.reverse ++ st)
    (k : ∀ v w1, Q v w1 → V X (kc + mc) (ks + ms) pc1 lv (v.toList ++ st) w1) : V X kc ks pc lv st0 w := by
  subst hst; intro H locs ls hw hS hl
  have hts := h.2.2.2.1
  have hR1 := h.2.2.2.2.2.2.1
  have hR2 := h.2.2.2.2.2.2.2.1
  have hG : GoodIn GW (va_wsS own index y (.code y cy mL rt :: GW)) := gw_good (fun x hx => by
    simp only [va_wsS, List.mem_append, List.mem_cons, List.not_mem_nil, or_false] at hx
    rcases hx with (rfl | rfl | rfl) | rfl | hx
    · exact hlink
    · exact hstat
    · exact hini
    · exact hcode
    · exact hx)
  have cw := va_cwS (R := X.R) (mc := mc) (ms := ms) (rm := rmd dd mc ms) As.length hts hG rfl rfl rfl hd ⟨by show dd + 1 ≤ _; omega, by show 8 + (mL + 11) + 39 * dd ≤ _; omega⟩
  exact V.back hp (va_runS (As := As) (rest := st) ⟨h.1, h.2.1, rfl, h.2.2.1, hts⟩ (hC X.l X.g X.B) cw ⟨PV.blind, fun U hU hW => ⟨rfl, kK.moved hW h.2.2.2.2.1, by rw [hU]; exact hw⟩⟩ rfl rfl hl.2.1 rfl (lv_room hcat) d ⟨Nat.le_trans hroom.2.2.1 h.2.2.2.2.2.2.2.2.1, Nat.le_trans hroom.2.2.2 h.2.2.2.2.2.2.2.2.2⟩) hS hl k
theorem V.callI {y : MethodName} {cy : ByteArray} {mL dd mc ms index b : Nat} {As : List Value} {Q : Option Value → Wd → Prop} {st0 : List Value} (h : Cx X cc own D mcT msT) (pc1 : Nat) (d : decode cc pc = .ok (.invokespecial index, 3)) (hp : pc + 3 = pc1)
    (hcode : Cond.code y cy mL none ∈ GW) (hlink : Cond.methodLink own index y ∈ GW) (hinst : Cond.instanceMethod y ∈ GW) (hini : Cond.initialized y.cls ∈ GW) (hy1 : y.name = "<init>")
    (hd : y.cls ≠ "java/lang/invoke/MethodHandle" ∧ y.cls ≠ "java/lang/invoke/VarHandle" ∧ (parseMethodDescriptor y.desc).map (fun d => d.parameters.length) = some As.length)
    (hroom : dd + 1 ≤ D ∧ mL ≤ 20 ∧ kc + mc ≤ mcT ∧ ks + ms ≤ msT) (hcat : (st.map fun v => v.category).sum ≤ 8) (hC : Con y cy mL none dd mc ms (.ref b :: As) w Q)
    (hst : st0 = As.reverse ++ .ref b :: st)
    (k : ∀ v w1, Q v w1 → V X (kc + mc) (ks + ms) pc1 lv (v.toList ++ st) w1) : V X kc ks pc lv st0 w := by
  subst hst; intro H locs ls hw hS hl
  have hts := h.2.2.2.1
  have hR1 := h.2.2.2.2.2.2.1
  have hR2 := h.2.2.2.2.2.2.2.1
  have hG : GoodIn GW (.code y cy mL none :: GW) := gw_good (fun x hx => by
    rcases List.mem_cons.mp hx with rfl | hx
    · exact hcode
    · exact hx)
  have cw := cwI (R := X.R) (own := own) (index := index) (mc := mc) (ms := ms) (rm := rmd dd mc ms) As.length hts hG rfl rfl rfl (hts _ hini) (hts _ hlink) (hts _ hinst) hy1 hd ⟨by show dd + 1 ≤ _; omega, by show 8 + (mL + 11) + 39 * dd ≤ _; omega⟩
  exact V.back hp (va_runI (As := As) (rest := st) ⟨h.1, h.2.1, rfl, h.2.2.1, hts⟩ (hC X.l X.g X.B) cw ⟨PV.blind, fun U hU hW => ⟨rfl, kK.moved hW h.2.2.2.2.1, by rw [hU]; exact hw⟩⟩ rfl rfl hl.2.1 rfl (lv_room hcat) d ⟨Nat.le_trans hroom.2.2.1 h.2.2.2.2.2.2.2.2.1, Nat.le_trans hroom.2.2.2 h.2.2.2.2.2.2.2.2.2⟩) hS hl k
theorem V.callIN {y : MethodName} {cy : ByteArray} {mL dd mc ms index b : Nat} {host : String} {As : List Value} {Q : Option Value → Wd → Prop} {st0 : List Value} (h : Cx X cc own D mcT msT) (pc1 : Nat) (d : decode cc pc = .ok (.invokespecial index, 3)) (hp : pc + 3 = pc1)
    (hcode : Cond.code y cy mL none ∈ GW) (hlink : Cond.methodLinkNest own index y host ∈ lw_tbl) (hinst : Cond.instanceMethod y ∈ GW) (hini : Cond.initialized y.cls ∈ GW) (hy1 : y.name = "<init>")
    (hd : y.cls ≠ "java/lang/invoke/MethodHandle" ∧ y.cls ≠ "java/lang/invoke/VarHandle" ∧ (parseMethodDescriptor y.desc).map (fun d => d.parameters.length) = some As.length)
    (hroom : dd + 1 ≤ D ∧ mL ≤ 20 ∧ kc + mc ≤ mcT ∧ ks + ms ≤ msT) (hcat : (st.map fun v => v.category).sum ≤ 8) (hC : Con y cy mL none dd mc ms (.ref b :: As) w Q)
    (hst : st0 = As.reverse ++ .ref b :: st)
    (k : ∀ v w1, Q v w1 → V X (kc + mc) (ks + ms) pc1 lv (v.toList ++ st) w1) : V X kc ks pc lv st0 w := by
  subst hst; intro H locs ls hw hS hl
  have hts := h.2.2.2.1
  have hR1 := h.2.2.2.2.2.2.1
  have hR2 := h.2.2.2.2.2.2.2.1
  have hG : GoodIn GW (.code y cy mL none :: GW) := gw_good (fun x hx => by
    rcases List.mem_cons.mp hx with rfl | hx
    · exact hcode
    · exact hx)
  have cw := va_cnB (R := X.R) (args := X.args) (own := own) (index := index) (mc := mc) (ms := ms) (rm := rmd dd mc ms) As.length hts hG rfl rfl rfl (h.2.2.2.2.1.2.2 _ hlink rfl) (hts _ hini) hd ⟨by show dd + 1 ≤ _; omega, by show 8 + (mL + 11) + 39 * dd ≤ _; omega⟩
  exact V.back hp (va_runIN (As := As) (rest := st) ⟨h.1, h.2.1, rfl, h.2.2.1, hts⟩ (hC X.l X.g X.B) ⟨cw, hy1, hts _ hinst⟩ ⟨PV.blind, fun U hU hW => ⟨rfl, kK.moved hW h.2.2.2.2.1, by rw [hU]; exact hw⟩⟩ rfl rfl hl.2.1 rfl (lv_room hcat) d ⟨Nat.le_trans hroom.2.2.1 h.2.2.2.2.2.2.2.2.1, Nat.le_trans hroom.2.2.2 h.2.2.2.2.2.2.2.2.2⟩) hS hl k
theorem V.objInit (h : Cx X cc own D mcT msT) {index a : Nat} (pc1 : Nat) (d : decode cc pc = .ok (.invokespecial index, 3)) (hp : pc + 3 = pc1) (hlink : Cond.methodLink own index objectInit ∈ GW) (hD : 1 ≤ D) (hcat : (st.map fun v => v.category).sum ≤ 8) (k : V X kc ks pc1 lv st w) : V X kc ks pc lv (.ref a :: st) w := by
  subst hp; intro H locs ls hw hS hl
  have hts := h.2.2.2.1
  have hR1 := h.2.2.2.2.2.2.1
  have hR2 := h.2.2.2.2.2.2.2.1
  exact W.objInit h.1 h.2.1 h.2.2.1 (hts _ hlink) (hts _ k15) (hts _ k16) rfl hl.2.1 rfl d (by omega) (by have := lv_room (m := X.m) (pc := pc) (ls := ls) (rest := (.ref a :: st)) hcat; omega) (k H locs ls hw hS hl)
/-! the law's script -/
theorem V.sld (h : Cx X cc own D mcT msT) {b L : Nat} {xs : Nat → Int32} {i : Int32} (pc1 : Nat) (d : decode cc pc = .ok (.iaload, 1)) (hp : pc + 1 = pc1) (hX : va_X b L xs X.s X.s.heap) (hbl : b < X.s.heap.size) (hb : b < X.B) (hin : vp_in i L) (k : V X kc ks pc1 lv (.int (xs i.toNatClampNeg) :: st) w) : V X kc ks pc lv (.int i :: .ref b :: st) w := by
  subst hp; intro H locs ls hw hS hl
  exact va_sld h.1 h.2.1 hX hbl (show ¬ X.B ≤ b by omega) hS hin d (k H locs ls hw hS hl)
theorem V.slen (h : Cx X cc own D mcT msT) {b L : Nat} {xs : Nat → Int32} (pc1 : Nat) (d : decode cc pc = .ok (.arraylength, 1)) (hp : pc + 1 = pc1) (hX : va_X b L xs X.s X.s.heap) (hbl : b < X.s.heap.size) (hb : b < X.B) (k : V X kc ks pc1 lv (.int (Int32.ofNat L) :: st) w) : V X kc ks pc lv (.ref b :: st) w := by
  subst hp; intro H locs ls hw hS hl
  exact va_slen h.1 h.2.1 hX hbl (show ¬ X.B ≤ b by omega) hS d (k H locs ls hw hS hl)
/-- other words for the world: what V asks of it is told by its cells alone -/
theorem V.at (w1 : Wd) (hw : w = w1) (k : V X kc ks pc lv st w1) : V X kc ks pc lv st w := hw ▸ k
/-- the value on top gets another name -/
theorem V.top {x : Int32} (y : Int32) (e : x = y) (k : V X kc ks pc lv (.int y :: st) w) : V X kc ks pc lv (.int x :: st) w := e ▸ k
theorem V.topL {x : Int64} (y : Int64) (e : x = y) (k : V X kc ks pc lv (.long y :: st) w) : V X kc ks pc lv (.long x :: st) w := e ▸ k
end VC
