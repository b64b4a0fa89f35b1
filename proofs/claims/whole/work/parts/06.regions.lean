theorem ic1_m1 : Int32.ofInt (-1) = (-1 : Int32) := by decide
theorem ic1_0 : Int32.ofInt (0) = (0 : Int32) := by decide
theorem ic1_1 : Int32.ofInt (1) = (1 : Int32) := by decide
theorem ic1_2 : Int32.ofInt (2) = (2 : Int32) := by decide
theorem ic1_3 : Int32.ofInt (3) = (3 : Int32) := by decide
theorem ic1_4 : Int32.ofInt (4) = (4 : Int32) := by decide
theorem ic1_5 : Int32.ofInt (5) = (5 : Int32) := by decide
theorem ic2_m4 : (Int8.ofInt (-4)).toInt32 = (-4 : Int32) := by decide
theorem ic2_m3 : (Int8.ofInt (-3)).toInt32 = (-3 : Int32) := by decide
theorem ic2_m2 : (Int8.ofInt (-2)).toInt32 = (-2 : Int32) := by decide
theorem ic2_6 : (Int8.ofInt (6)).toInt32 = (6 : Int32) := by decide
theorem ic2_7 : (Int8.ofInt (7)).toInt32 = (7 : Int32) := by decide
theorem ic2_8 : (Int8.ofInt (8)).toInt32 = (8 : Int32) := by decide
theorem ic2_9 : (Int8.ofInt (9)).toInt32 = (9 : Int32) := by decide
theorem ic2_10 : (Int8.ofInt (10)).toInt32 = (10 : Int32) := by decide
theorem ic2_11 : (Int8.ofInt (11)).toInt32 = (11 : Int32) := by decide
theorem ic2_12 : (Int8.ofInt (12)).toInt32 = (12 : Int32) := by decide
theorem ic2_13 : (Int8.ofInt (13)).toInt32 = (13 : Int32) := by decide
theorem ic2_16 : (Int8.ofInt (16)).toInt32 = (16 : Int32) := by decide
theorem ic2_20 : (Int8.ofInt (20)).toInt32 = (20 : Int32) := by decide
theorem ic2_29 : (Int8.ofInt (29)).toInt32 = (29 : Int32) := by decide
theorem ic2_31 : (Int8.ofInt (31)).toInt32 = (31 : Int32) := by decide
theorem ic2_32 : (Int8.ofInt (32)).toInt32 = (32 : Int32) := by decide
theorem ic2_44 : (Int8.ofInt (44)).toInt32 = (44 : Int32) := by decide
theorem ic2_48 : (Int8.ofInt (48)).toInt32 = (48 : Int32) := by decide
theorem ic2_57 : (Int8.ofInt (57)).toInt32 = (57 : Int32) := by decide
theorem ic2_59 : (Int8.ofInt (59)).toInt32 = (59 : Int32) := by decide
theorem ic2_63 : (Int8.ofInt (63)).toInt32 = (63 : Int32) := by decide
theorem ic2_80 : (Int8.ofInt (80)).toInt32 = (80 : Int32) := by decide
theorem ic2_99 : (Int8.ofInt (99)).toInt32 = (99 : Int32) := by decide
theorem ic2_100 : (Int8.ofInt (100)).toInt32 = (100 : Int32) := by decide
theorem ic2_103 : (Int8.ofInt (103)).toInt32 = (103 : Int32) := by decide
theorem ic2_104 : (Int8.ofInt (104)).toInt32 = (104 : Int32) := by decide
theorem ic2_112 : (Int8.ofInt (112)).toInt32 = (112 : Int32) := by decide
theorem ic2_119 : (Int8.ofInt (119)).toInt32 = (119 : Int32) := by decide
theorem ic2_125 : (Int8.ofInt (125)).toInt32 = (125 : Int32) := by decide
theorem ic2_126 : (Int8.ofInt (126)).toInt32 = (126 : Int32) := by decide
theorem ic3_375 : (Int16.ofInt (375)).toInt32 = (375 : Int32) := by decide
theorem ic3_500 : (Int16.ofInt (500)).toInt32 = (500 : Int32) := by decide
theorem ic3_999 : (Int16.ofInt (999)).toInt32 = (999 : Int32) := by decide
theorem ic3_4096 : (Int16.ofInt (4096)).toInt32 = (4096 : Int32) := by decide
/-! what a contract says when the answer and the world are told exactly -/
def RI (r : Int32) (w' : Wd) : Option Value → Wd → Prop := fun v u => v = some (.int r) ∧ u = w'
def RLg (r : Int64) (w' : Wd) : Option Value → Wd → Prop := fun v u => v = some (.long r) ∧ u = w'
def RV (w' : Wd) : Option Value → Wd → Prop := fun v u => v = none ∧ u = w'
/-- the answer exactly, of the world a fact -/
def RE (r : Int32) (S : Wd → Prop) : Option Value → Wd → Prop := fun v u => v = some (.int r) ∧ S u
def RVE (S : Wd → Prop) : Option Value → Wd → Prop := fun v u => v = none ∧ S u
def RLE (r : Int64) (S : Wd → Prop) : Option Value → Wd → Prop := fun v u => v = some (.long r) ∧ S u
theorem nI_inc (i : Nat) : nI i + Int32.ofInt 1 = nI (i + 1) := (nI_succ i).symm
section V6
variable {X : CX} {cc : ByteArray} {own : String} {D mcT msT kc ks pc : Nat} {lv : List (Option Value)} {st : List Value} {w : Wd}
theorem V.bif_eq (h : Cx X cc own D mcT msT) {b : Bool} {off : Int} (tgt pc1 : Nat) (d : decode cc pc = .ok (.ifCond .eq off, 3)) (ht : (pc : Int) + off = (tgt : Int)) (hp : pc + 3 = pc1) (kt : b = false → V X kc ks tgt lv st w) (kf : b = true → V X kc ks pc1 lv st w) : V X kc ks pc lv (.int (bI b) :: st) w :=
  V.if_eq h tgt pc1 d ht hp (fun q => kt ((bI_0 b).mp q)) (fun q => kf ((bI_n0 b).mp q))
theorem V.bif_ne (h : Cx X cc own D mcT msT) {b : Bool} {off : Int} (tgt pc1 : Nat) (d : decode cc pc = .ok (.ifCond .ne off, 3)) (ht : (pc : Int) + off = (tgt : Int)) (hp : pc + 3 = pc1) (kt : b = true → V X kc ks tgt lv st w) (kf : b = false → V X kc ks pc1 lv st w) : V X kc ks pc lv (.int (bI b) :: st) w :=
  V.if_ne h tgt pc1 d ht hp (fun q => kt ((bI_n0 b).mp q)) (fun q => kf ((bI_0 b).mp q))
theorem V.incN0 (h : Cx X cc own D mcT msT) {t : List (Option Value)} {x : Nat} (pc1 : Nat) (d : decode cc pc = .ok (.iinc 0 1, 3)) (hp : pc + 3 = pc1) (hc : okst (some (.int (nI x)) :: t) 0 = true) (k : V X kc ks pc1 (some (.int (nI (x + 1))) :: t) st w) : V X kc ks pc (some (.int (nI x)) :: t) st w :=
  V.iinc0 h pc1 d hp (nI_inc x) hc k
theorem V.incN1 (h : Cx X cc own D mcT msT) {u0 : Option Value} {t : List (Option Value)} {x : Nat} (pc1 : Nat) (d : decode cc pc = .ok (.iinc 1 1, 3)) (hp : pc + 3 = pc1) (hc : okst (u0 :: some (.int (nI x)) :: t) 1 = true) (k : V X kc ks pc1 (u0 :: some (.int (nI (x + 1))) :: t) st w) : V X kc ks pc (u0 :: some (.int (nI x)) :: t) st w :=
  V.iinc1 h pc1 d hp (nI_inc x) hc k
theorem V.incN2 (h : Cx X cc own D mcT msT) {u0 u1 : Option Value} {t : List (Option Value)} {x : Nat} (pc1 : Nat) (d : decode cc pc = .ok (.iinc 2 1, 3)) (hp : pc + 3 = pc1) (hc : okst (u0 :: u1 :: some (.int (nI x)) :: t) 2 = true) (k : V X kc ks pc1 (u0 :: u1 :: some (.int (nI (x + 1))) :: t) st w) : V X kc ks pc (u0 :: u1 :: some (.int (nI x)) :: t) st w :=
  V.iinc2 h pc1 d hp (nI_inc x) hc k
theorem V.incN3 (h : Cx X cc own D mcT msT) {u0 u1 u2 : Option Value} {t : List (Option Value)} {x : Nat} (pc1 : Nat) (d : decode cc pc = .ok (.iinc 3 1, 3)) (hp : pc + 3 = pc1) (hc : okst (u0 :: u1 :: u2 :: some (.int (nI x)) :: t) 3 = true) (k : V X kc ks pc1 (u0 :: u1 :: u2 :: some (.int (nI (x + 1))) :: t) st w) : V X kc ks pc (u0 :: u1 :: u2 :: some (.int (nI x)) :: t) st w :=
  V.iinc3 h pc1 d hp (nI_inc x) hc k
theorem V.incN4 (h : Cx X cc own D mcT msT) {u0 u1 u2 u3 : Option Value} {t : List (Option Value)} {x : Nat} (pc1 : Nat) (d : decode cc pc = .ok (.iinc 4 1, 3)) (hp : pc + 3 = pc1) (hc : okst (u0 :: u1 :: u2 :: u3 :: some (.int (nI x)) :: t) 4 = true) (k : V X kc ks pc1 (u0 :: u1 :: u2 :: u3 :: some (.int (nI (x + 1))) :: t) st w) : V X kc ks pc (u0 :: u1 :: u2 :: u3 :: some (.int (nI x)) :: t) st w :=
  V.iinc4 h pc1 d hp (nI_inc x) hc k
theorem V.incN5 (h : Cx X cc own D mcT msT) {u0 u1 u2 u3 u4 : Option Value} {t : List (Option Value)} {x : Nat} (pc1 : Nat) (d : decode cc pc = .ok (.iinc 5 1, 3)) (hp : pc + 3 = pc1) (hc : okst (u0 :: u1 :: u2 :: u3 :: u4 :: some (.int (nI x)) :: t) 5 = true) (k : V X kc ks pc1 (u0 :: u1 :: u2 :: u3 :: u4 :: some (.int (nI (x + 1))) :: t) st w) : V X kc ks pc (u0 :: u1 :: u2 :: u3 :: u4 :: some (.int (nI x)) :: t) st w :=
  V.iinc5 h pc1 d hp (nI_inc x) hc k
theorem V.incN6 (h : Cx X cc own D mcT msT) {u0 u1 u2 u3 u4 u5 : Option Value} {t : List (Option Value)} {x : Nat} (pc1 : Nat) (d : decode cc pc = .ok (.iinc 6 1, 3)) (hp : pc + 3 = pc1) (hc : okst (u0 :: u1 :: u2 :: u3 :: u4 :: u5 :: some (.int (nI x)) :: t) 6 = true) (k : V X kc ks pc1 (u0 :: u1 :: u2 :: u3 :: u4 :: u5 :: some (.int (nI (x + 1))) :: t) st w) : V X kc ks pc (u0 :: u1 :: u2 :: u3 :: u4 :: u5 :: some (.int (nI x)) :: t) st w :=
  V.iinc6 h pc1 d hp (nI_inc x) hc k
theorem V.incN7 (h : Cx X cc own D mcT msT) {u0 u1 u2 u3 u4 u5 u6 : Option Value} {t : List (Option Value)} {x : Nat} (pc1 : Nat) (d : decode cc pc = .ok (.iinc 7 1, 3)) (hp : pc + 3 = pc1) (hc : okst (u0 :: u1 :: u2 :: u3 :: u4 :: u5 :: u6 :: some (.int (nI x)) :: t) 7 = true) (k : V X kc ks pc1 (u0 :: u1 :: u2 :: u3 :: u4 :: u5 :: u6 :: some (.int (nI (x + 1))) :: t) st w) : V X kc ks pc (u0 :: u1 :: u2 :: u3 :: u4 :: u5 :: u6 :: some (.int (nI x)) :: t) st w :=
  V.iinc7 h pc1 d hp (nI_inc x) hc k
theorem V.incN8 (h : Cx X cc own D mcT msT) {u0 u1 u2 u3 u4 u5 u6 u7 : Option Value} {t : List (Option Value)} {x : Nat} (pc1 : Nat) (d : decode cc pc = .ok (.iinc 8 1, 3)) (hp : pc + 3 = pc1) (hc : okst (u0 :: u1 :: u2 :: u3 :: u4 :: u5 :: u6 :: u7 :: some (.int (nI x)) :: t) 8 = true) (k : V X kc ks pc1 (u0 :: u1 :: u2 :: u3 :: u4 :: u5 :: u6 :: u7 :: some (.int (nI (x + 1))) :: t) st w) : V X kc ks pc (u0 :: u1 :: u2 :: u3 :: u4 :: u5 :: u6 :: u7 :: some (.int (nI x)) :: t) st w :=
  V.iinc8 h pc1 d hp (nI_inc x) hc k
theorem V.ialdN (h : Cx X cc own D mcT msT) {a n i : Nat} {f : Nat → Int32} (pc1 : Nat) (d : decode cc pc = .ok (.iaload, 1)) (hp : pc + 1 = pc1) (he : w.2 a = some (.inl (0, n, .inl f))) (hin : i < n) (hn : n < 2 ^ 31 := by decide) (kk : V X kc ks pc1 lv (.int (f i) :: st) w) : V X kc ks pc lv (.int (nI i) :: .ref a :: st) w := by
  refine V.iald h pc1 d hp he (vp_in_nI hin hn) ?_
  rw [nI_clamp (by omega)]
  exact kk
theorem V.caldN (h : Cx X cc own D mcT msT) {a n i : Nat} {f : Nat → Int32} (pc1 : Nat) (d : decode cc pc = .ok (.caload, 1)) (hp : pc + 1 = pc1) (he : w.2 a = some (.inl (2, n, .inl f))) (hin : i < n) (hn : n < 2 ^ 31 := by decide) (kk : V X kc ks pc1 lv (.int (f i) :: st) w) : V X kc ks pc lv (.int (nI i) :: .ref a :: st) w := by
  refine V.cald h pc1 d hp he (vp_in_nI hin hn) ?_
  rw [nI_clamp (by omega)]
  exact kk
theorem V.laldN (h : Cx X cc own D mcT msT) {a n i : Nat} {f : Nat → Int64} (pc1 : Nat) (d : decode cc pc = .ok (.laload, 1)) (hp : pc + 1 = pc1) (he : w.2 a = some (.inl (1, n, .inr (.inl f)))) (hin : i < n) (hn : n < 2 ^ 31 := by decide) (kk : V X kc ks pc1 lv (.long (f i) :: st) w) : V X kc ks pc lv (.int (nI i) :: .ref a :: st) w := by
  refine V.lald h pc1 d hp he (vp_in_nI hin hn) ?_
  rw [nI_clamp (by omega)]
  exact kk
theorem V.aaldN (h : Cx X cc own D mcT msT) {a n i : Nat} {f : Nat → Option Nat} (pc1 : Nat) (d : decode cc pc = .ok (.aaload, 1)) (hp : pc + 1 = pc1) (he : w.2 a = some (.inl (3, n, .inr (.inr (.inr (.inr f)))))) (hin : i < n) (hn : n < 2 ^ 31 := by decide) (kk : V X kc ks pc1 lv (va_rf (f i) :: st) w) : V X kc ks pc lv (.int (nI i) :: .ref a :: st) w := by
  refine V.aald h pc1 d hp he (vp_in_nI hin hn) ?_
  rw [nI_clamp (by omega)]
  exact kk
theorem V.iastN (h : Cx X cc own D mcT msT) {a n i : Nat} {f : Nat → Int32} {x : Int32} (pc1 : Nat) (d : decode cc pc = .ok (.iastore, 1)) (hp : pc + 1 = pc1) (he : w.2 a = some (.inl (0, n, .inl f))) (hin : i < n) (hn : n < 2 ^ 31 := by decide) (kk : V X kc ks pc1 lv st (wset w a (.inl (0, n, .inl (upd f i x))))) : V X kc ks pc lv (.int x :: .int (nI i) :: .ref a :: st) w := by
  refine V.iast h pc1 d hp he (vp_in_nI hin hn) ?_
  rw [nI_clamp (by omega)]
  exact kk
theorem V.castN (h : Cx X cc own D mcT msT) {a n i : Nat} {f : Nat → Int32} {x : Int32} (pc1 : Nat) (d : decode cc pc = .ok (.castore, 1)) (hp : pc + 1 = pc1) (he : w.2 a = some (.inl (2, n, .inl f))) (hin : i < n) (hn : n < 2 ^ 31 := by decide) (kk : V X kc ks pc1 lv st (wset w a (.inl (2, n, .inl (upd f i (vp_nar .char x)))))) : V X kc ks pc lv (.int x :: .int (nI i) :: .ref a :: st) w := by
  refine V.cast h pc1 d hp he (vp_in_nI hin hn) ?_
  rw [nI_clamp (by omega)]
  exact kk
theorem V.lastN (h : Cx X cc own D mcT msT) {a n i : Nat} {f : Nat → Int64} {x : Int64} (pc1 : Nat) (d : decode cc pc = .ok (.lastore, 1)) (hp : pc + 1 = pc1) (he : w.2 a = some (.inl (1, n, .inr (.inl f)))) (hin : i < n) (hn : n < 2 ^ 31 := by decide) (kk : V X kc ks pc1 lv st (wset w a (.inl (1, n, .inr (.inl (va_up f i x)))))) : V X kc ks pc lv (.long x :: .int (nI i) :: .ref a :: st) w := by
  refine V.last h pc1 d hp he (vp_in_nI hin hn) ?_
  rw [nI_clamp (by omega)]
  exact kk
theorem V.aastN (h : Cx X cc own D mcT msT) {a n v ci i : Nat} {r : vw_C} {vs : List Value} {f : Nat → Option Nat} (pc1 : Nat) (d : decode cc pc = .ok (.aastore, 1)) (hp : pc + 1 = pc1) (he : w.2 a = some (.inl (3, n, .inr (.inr (.inr (.inr f)))))) (hv : w.2 v = some (.inr (ci, vs))) (hc : vwCl[ci]? = some r) (hr : r.1 = RX2) (hin : i < n) (hn : n < 2 ^ 31 := by decide) (kk : V X kc ks pc1 lv st (wset w a (.inl (3, n, .inr (.inr (.inr (.inr (va_up f i (some v))))))))) : V X kc ks pc lv (.ref v :: .int (nI i) :: .ref a :: st) w := by
  refine V.aast h pc1 d hp he hv hc hr (vp_in_nI hin hn) ?_
  rw [nI_clamp (by omega)]
  exact kk
theorem V.callVf {y : MethodName} {cy : ByteArray} {mL dd index b ci : Nat} {rt : Option FieldType} {As : List Value} {r : Int32} {w1 : Wd} {st0 : List Value} {fs : List Value} {q : vw_C} (h : Cx X cc own D mcT msT) (pc1 : Nat) (d : decode cc pc = .ok (.invokevirtual index, 3)) (hp : pc + 3 = pc1) (hcode : Cond.code y cy mL rt ∈ GW) (hlink : Cond.methodLink own index y ∈ GW) (hinst : Cond.instanceMethod y ∈ GW) (hsel : Cond.selects y.cls y y ∈ GW) (hini : Cond.initialized y.cls ∈ GW) (hd : y.cls ≠ "java/lang/invoke/MethodHandle" ∧ y.cls ≠ "java/lang/invoke/VarHandle" ∧ (parseMethodDescriptor y.desc).map (fun d => d.parameters.length) = some As.length) (hroom : dd + 1 ≤ D ∧ mL ≤ 20) (hcat : (st.map fun v => v.category).sum ≤ 8) (hb : w.2 b = some (.inr (ci, fs))) (hq : vwCl[ci]? = some q) (hqc : q.1 = y.cls) (hkm : kc ≤ mcT ∧ ks ≤ msT) (hC : Con y cy mL rt dd 0 0 (.ref b :: As) w (RI r w1)) (hst : st0 = As.reverse ++ .ref b :: st) (k : V X kc ks pc1 lv (.int r :: st) w1) : V X kc ks pc lv st0 w :=
  V.callV h pc1 d hp hcode hlink hinst hsel hini hd ⟨hroom.1, hroom.2, hkm.1, hkm.2⟩ hq hqc hb hcat hC hst (fun v u hv => by rcases hv with ⟨rfl, rfl⟩; exact k)
theorem V.callVfv {y : MethodName} {cy : ByteArray} {mL dd index b ci : Nat} {rt : Option FieldType} {As : List Value} {w1 : Wd} {st0 : List Value} {fs : List Value} {q : vw_C} (h : Cx X cc own D mcT msT) (pc1 : Nat) (d : decode cc pc = .ok (.invokevirtual index, 3)) (hp : pc + 3 = pc1) (hcode : Cond.code y cy mL rt ∈ GW) (hlink : Cond.methodLink own index y ∈ GW) (hinst : Cond.instanceMethod y ∈ GW) (hsel : Cond.selects y.cls y y ∈ GW) (hini : Cond.initialized y.cls ∈ GW) (hd : y.cls ≠ "java/lang/invoke/MethodHandle" ∧ y.cls ≠ "java/lang/invoke/VarHandle" ∧ (parseMethodDescriptor y.desc).map (fun d => d.parameters.length) = some As.length) (hroom : dd + 1 ≤ D ∧ mL ≤ 20) (hcat : (st.map fun v => v.category).sum ≤ 8) (hb : w.2 b = some (.inr (ci, fs))) (hq : vwCl[ci]? = some q) (hqc : q.1 = y.cls) (hkm : kc ≤ mcT ∧ ks ≤ msT) (hC : Con y cy mL rt dd 0 0 (.ref b :: As) w (RV w1)) (hst : st0 = As.reverse ++ .ref b :: st) (k : V X kc ks pc1 lv st w1) : V X kc ks pc lv st0 w :=
  V.callV h pc1 d hp hcode hlink hinst hsel hini hd ⟨hroom.1, hroom.2, hkm.1, hkm.2⟩ hq hqc hb hcat hC hst (fun v u hv => by rcases hv with ⟨rfl, rfl⟩; exact k)
theorem V.callVfl {y : MethodName} {cy : ByteArray} {mL dd index b ci : Nat} {rt : Option FieldType} {As : List Value} {rl : Int64} {w1 : Wd} {st0 : List Value} {fs : List Value} {q : vw_C} (h : Cx X cc own D mcT msT) (pc1 : Nat) (d : decode cc pc = .ok (.invokevirtual index, 3)) (hp : pc + 3 = pc1) (hcode : Cond.code y cy mL rt ∈ GW) (hlink : Cond.methodLink own index y ∈ GW) (hinst : Cond.instanceMethod y ∈ GW) (hsel : Cond.selects y.cls y y ∈ GW) (hini : Cond.initialized y.cls ∈ GW) (hd : y.cls ≠ "java/lang/invoke/MethodHandle" ∧ y.cls ≠ "java/lang/invoke/VarHandle" ∧ (parseMethodDescriptor y.desc).map (fun d => d.parameters.length) = some As.length) (hroom : dd + 1 ≤ D ∧ mL ≤ 20) (hcat : (st.map fun v => v.category).sum ≤ 8) (hb : w.2 b = some (.inr (ci, fs))) (hq : vwCl[ci]? = some q) (hqc : q.1 = y.cls) (hkm : kc ≤ mcT ∧ ks ≤ msT) (hC : Con y cy mL rt dd 0 0 (.ref b :: As) w (RLg rl w1)) (hst : st0 = As.reverse ++ .ref b :: st) (k : V X kc ks pc1 lv (.long rl :: st) w1) : V X kc ks pc lv st0 w :=
  V.callV h pc1 d hp hcode hlink hinst hsel hini hd ⟨hroom.1, hroom.2, hkm.1, hkm.2⟩ hq hqc hb hcat hC hst (fun v u hv => by rcases hv with ⟨rfl, rfl⟩; exact k)
theorem V.callVe {y : MethodName} {cy : ByteArray} {mL dd index b ci : Nat} {rt : Option FieldType} {As : List Value} {r : Int32} {S : Wd → Prop} {st0 : List Value} {fs : List Value} {q : vw_C} (h : Cx X cc own D mcT msT) (pc1 : Nat) (d : decode cc pc = .ok (.invokevirtual index, 3)) (hp : pc + 3 = pc1) (hcode : Cond.code y cy mL rt ∈ GW) (hlink : Cond.methodLink own index y ∈ GW) (hinst : Cond.instanceMethod y ∈ GW) (hsel : Cond.selects y.cls y y ∈ GW) (hini : Cond.initialized y.cls ∈ GW) (hd : y.cls ≠ "java/lang/invoke/MethodHandle" ∧ y.cls ≠ "java/lang/invoke/VarHandle" ∧ (parseMethodDescriptor y.desc).map (fun d => d.parameters.length) = some As.length) (hroom : dd + 1 ≤ D ∧ mL ≤ 20) (hcat : (st.map fun v => v.category).sum ≤ 8) (hb : w.2 b = some (.inr (ci, fs))) (hq : vwCl[ci]? = some q) (hqc : q.1 = y.cls) (hkm : kc ≤ mcT ∧ ks ≤ msT) (hC : Con y cy mL rt dd 0 0 (.ref b :: As) w (RE r S)) (hst : st0 = As.reverse ++ .ref b :: st) (k : ∀ u, S u → V X kc ks pc1 lv (.int r :: st) u) : V X kc ks pc lv st0 w :=
  V.callV h pc1 d hp hcode hlink hinst hsel hini hd ⟨hroom.1, hroom.2, hkm.1, hkm.2⟩ hq hqc hb hcat hC hst (fun v u hv => by rcases hv with ⟨rfl, hv⟩; exact k _ hv)
theorem V.callVev {y : MethodName} {cy : ByteArray} {mL dd index b ci : Nat} {rt : Option FieldType} {As : List Value} {S : Wd → Prop} {st0 : List Value} {fs : List Value} {q : vw_C} (h : Cx X cc own D mcT msT) (pc1 : Nat) (d : decode cc pc = .ok (.invokevirtual index, 3)) (hp : pc + 3 = pc1) (hcode : Cond.code y cy mL rt ∈ GW) (hlink : Cond.methodLink own index y ∈ GW) (hinst : Cond.instanceMethod y ∈ GW) (hsel : Cond.selects y.cls y y ∈ GW) (hini : Cond.initialized y.cls ∈ GW) (hd : y.cls ≠ "java/lang/invoke/MethodHandle" ∧ y.cls ≠ "java/lang/invoke/VarHandle" ∧ (parseMethodDescriptor y.desc).map (fun d => d.parameters.length) = some As.length) (hroom : dd + 1 ≤ D ∧ mL ≤ 20) (hcat : (st.map fun v => v.category).sum ≤ 8) (hb : w.2 b = some (.inr (ci, fs))) (hq : vwCl[ci]? = some q) (hqc : q.1 = y.cls) (hkm : kc ≤ mcT ∧ ks ≤ msT) (hC : Con y cy mL rt dd 0 0 (.ref b :: As) w (RVE S)) (hst : st0 = As.reverse ++ .ref b :: st) (k : ∀ u, S u → V X kc ks pc1 lv st u) : V X kc ks pc lv st0 w :=
  V.callV h pc1 d hp hcode hlink hinst hsel hini hd ⟨hroom.1, hroom.2, hkm.1, hkm.2⟩ hq hqc hb hcat hC hst (fun v u hv => by rcases hv with ⟨rfl, hv⟩; exact k _ hv)
theorem V.callVel {y : MethodName} {cy : ByteArray} {mL dd index b ci : Nat} {rt : Option FieldType} {As : List Value} {rl : Int64} {S : Wd → Prop} {st0 : List Value} {fs : List Value} {q : vw_C} (h : Cx X cc own D mcT msT) (pc1 : Nat) (d : decode cc pc = .ok (.invokevirtual index, 3)) (hp : pc + 3 = pc1) (hcode : Cond.code y cy mL rt ∈ GW) (hlink : Cond.methodLink own index y ∈ GW) (hinst : Cond.instanceMethod y ∈ GW) (hsel : Cond.selects y.cls y y ∈ GW) (hini : Cond.initialized y.cls ∈ GW) (hd : y.cls ≠ "java/lang/invoke/MethodHandle" ∧ y.cls ≠ "java/lang/invoke/VarHandle" ∧ (parseMethodDescriptor y.desc).map (fun d => d.parameters.length) = some As.length) (hroom : dd + 1 ≤ D ∧ mL ≤ 20) (hcat : (st.map fun v => v.category).sum ≤ 8) (hb : w.2 b = some (.inr (ci, fs))) (hq : vwCl[ci]? = some q) (hqc : q.1 = y.cls) (hkm : kc ≤ mcT ∧ ks ≤ msT) (hC : Con y cy mL rt dd 0 0 (.ref b :: As) w (RLE rl S)) (hst : st0 = As.reverse ++ .ref b :: st) (k : ∀ u, S u → V X kc ks pc1 lv (.long rl :: st) u) : V X kc ks pc lv st0 w :=
  V.callV h pc1 d hp hcode hlink hinst hsel hini hd ⟨hroom.1, hroom.2, hkm.1, hkm.2⟩ hq hqc hb hcat hC hst (fun v u hv => by rcases hv with ⟨rfl, hv⟩; exact k _ hv)
theorem V.callNf {y : MethodName} {cy : ByteArray} {mL dd index b ci : Nat} {host : String} {rt : Option FieldType} {As : List Value} {r : Int32} {w1 : Wd} {st0 : List Value} {fs : List Value} {q : vw_C} (h : Cx X cc own D mcT msT) (pc1 : Nat) (d : decode cc pc = .ok (.invokevirtual index, 3)) (hp : pc + 3 = pc1) (hcode : Cond.code y cy mL rt ∈ GW) (hlink : Cond.methodLinkNest own index y host ∈ lw_tbl) (hinst : Cond.instanceMethod y ∈ GW) (hsel : Cond.selects y.cls y y ∈ GW) (hini : Cond.initialized y.cls ∈ GW) (hd : y.cls ≠ "java/lang/invoke/MethodHandle" ∧ y.cls ≠ "java/lang/invoke/VarHandle" ∧ (parseMethodDescriptor y.desc).map (fun d => d.parameters.length) = some As.length) (hroom : dd + 1 ≤ D ∧ mL ≤ 20) (hcat : (st.map fun v => v.category).sum ≤ 8) (hb : w.2 b = some (.inr (ci, fs))) (hq : vwCl[ci]? = some q) (hqc : q.1 = y.cls) (hkm : kc ≤ mcT ∧ ks ≤ msT) (hC : Con y cy mL rt dd 0 0 (.ref b :: As) w (RI r w1)) (hst : st0 = As.reverse ++ .ref b :: st) (k : V X kc ks pc1 lv (.int r :: st) w1) : V X kc ks pc lv st0 w :=
  V.callN h pc1 d hp hcode hlink hinst hsel hini hd ⟨hroom.1, hroom.2, hkm.1, hkm.2⟩ hq hqc hb hcat hC hst (fun v u hv => by rcases hv with ⟨rfl, rfl⟩; exact k)
theorem V.callNfv {y : MethodName} {cy : ByteArray} {mL dd index b ci : Nat} {host : String} {rt : Option FieldType} {As : List Value} {w1 : Wd} {st0 : List Value} {fs : List Value} {q : vw_C} (h : Cx X cc own D mcT msT) (pc1 : Nat) (d : decode cc pc = .ok (.invokevirtual index, 3)) (hp : pc + 3 = pc1) (hcode : Cond.code y cy mL rt ∈ GW) (hlink : Cond.methodLinkNest own index y host ∈ lw_tbl) (hinst : Cond.instanceMethod y ∈ GW) (hsel : Cond.selects y.cls y y ∈ GW) (hini : Cond.initialized y.cls ∈ GW) (hd : y.cls ≠ "java/lang/invoke/MethodHandle" ∧ y.cls ≠ "java/lang/invoke/VarHandle" ∧ (parseMethodDescriptor y.desc).map (fun d => d.parameters.length) = some As.length) (hroom : dd + 1 ≤ D ∧ mL ≤ 20) (hcat : (st.map fun v => v.category).sum ≤ 8) (hb : w.2 b = some (.inr (ci, fs))) (hq : vwCl[ci]? = some q) (hqc : q.1 = y.cls) (hkm : kc ≤ mcT ∧ ks ≤ msT) (hC : Con y cy mL rt dd 0 0 (.ref b :: As) w (RV w1)) (hst : st0 = As.reverse ++ .ref b :: st) (k : V X kc ks pc1 lv st w1) : V X kc ks pc lv st0 w :=
  V.callN h pc1 d hp hcode hlink hinst hsel hini hd ⟨hroom.1, hroom.2, hkm.1, hkm.2⟩ hq hqc hb hcat hC hst (fun v u hv => by rcases hv with ⟨rfl, rfl⟩; exact k)
theorem V.callNfl {y : MethodName} {cy : ByteArray} {mL dd index b ci : Nat} {host : String} {rt : Option FieldType} {As : List Value} {rl : Int64} {w1 : Wd} {st0 : List Value} {fs : List Value} {q : vw_C} (h : Cx X cc own D mcT msT) (pc1 : Nat) (d : decode cc pc = .ok (.invokevirtual index, 3)) (hp : pc + 3 = pc1) (hcode : Cond.code y cy mL rt ∈ GW) (hlink : Cond.methodLinkNest own index y host ∈ lw_tbl) (hinst : Cond.instanceMethod y ∈ GW) (hsel : Cond.selects y.cls y y ∈ GW) (hini : Cond.initialized y.cls ∈ GW) (hd : y.cls ≠ "java/lang/invoke/MethodHandle" ∧ y.cls ≠ "java/lang/invoke/VarHandle" ∧ (parseMethodDescriptor y.desc).map (fun d => d.parameters.length) = some As.length) (hroom : dd + 1 ≤ D ∧ mL ≤ 20) (hcat : (st.map fun v => v.category).sum ≤ 8) (hb : w.2 b = some (.inr (ci, fs))) (hq : vwCl[ci]? = some q) (hqc : q.1 = y.cls) (hkm : kc ≤ mcT ∧ ks ≤ msT) (hC : Con y cy mL rt dd 0 0 (.ref b :: As) w (RLg rl w1)) (hst : st0 = As.reverse ++ .ref b :: st) (k : V X kc ks pc1 lv (.long rl :: st) w1) : V X kc ks pc lv st0 w :=
  V.callN h pc1 d hp hcode hlink hinst hsel hini hd ⟨hroom.1, hroom.2, hkm.1, hkm.2⟩ hq hqc hb hcat hC hst (fun v u hv => by rcases hv with ⟨rfl, rfl⟩; exact k)
theorem V.callNe {y : MethodName} {cy : ByteArray} {mL dd index b ci : Nat} {host : String} {rt : Option FieldType} {As : List Value} {r : Int32} {S : Wd → Prop} {st0 : List Value} {fs : List Value} {q : vw_C} (h : Cx X cc own D mcT msT) (pc1 : Nat) (d : decode cc pc = .ok (.invokevirtual index, 3)) (hp : pc + 3 = pc1) (hcode : Cond.code y cy mL rt ∈ GW) (hlink : Cond.methodLinkNest own index y host ∈ lw_tbl) (hinst : Cond.instanceMethod y ∈ GW) (hsel : Cond.selects y.cls y y ∈ GW) (hini : Cond.initialized y.cls ∈ GW) (hd : y.cls ≠ "java/lang/invoke/MethodHandle" ∧ y.cls ≠ "java/lang/invoke/VarHandle" ∧ (parseMethodDescriptor y.desc).map (fun d => d.parameters.length) = some As.length) (hroom : dd + 1 ≤ D ∧ mL ≤ 20) (hcat : (st.map fun v => v.category).sum ≤ 8) (hb : w.2 b = some (.inr (ci, fs))) (hq : vwCl[ci]? = some q) (hqc : q.1 = y.cls) (hkm : kc ≤ mcT ∧ ks ≤ msT) (hC : Con y cy mL rt dd 0 0 (.ref b :: As) w (RE r S)) (hst : st0 = As.reverse ++ .ref b :: st) (k : ∀ u, S u → V X kc ks pc1 lv (.int r :: st) u) : V X kc ks pc lv st0 w :=
  V.callN h pc1 d hp hcode hlink hinst hsel hini hd ⟨hroom.1, hroom.2, hkm.1, hkm.2⟩ hq hqc hb hcat hC hst (fun v u hv => by rcases hv with ⟨rfl, hv⟩; exact k _ hv)
theorem V.callNev {y : MethodName} {cy : ByteArray} {mL dd index b ci : Nat} {host : String} {rt : Option FieldType} {As : List Value} {S : Wd → Prop} {st0 : List Value} {fs : List Value} {q : vw_C} (h : Cx X cc own D mcT msT) (pc1 : Nat) (d : decode cc pc = .ok (.invokevirtual index, 3)) (hp : pc + 3 = pc1) (hcode : Cond.code y cy mL rt ∈ GW) (hlink : Cond.methodLinkNest own index y host ∈ lw_tbl) (hinst : Cond.instanceMethod y ∈ GW) (hsel : Cond.selects y.cls y y ∈ GW) (hini : Cond.initialized y.cls ∈ GW) (hd : y.cls ≠ "java/lang/invoke/MethodHandle" ∧ y.cls ≠ "java/lang/invoke/VarHandle" ∧ (parseMethodDescriptor y.desc).map (fun d => d.parameters.length) = some As.length) (hroom : dd + 1 ≤ D ∧ mL ≤ 20) (hcat : (st.map fun v => v.category).sum ≤ 8) (hb : w.2 b = some (.inr (ci, fs))) (hq : vwCl[ci]? = some q) (hqc : q.1 = y.cls) (hkm : kc ≤ mcT ∧ ks ≤ msT) (hC : Con y cy mL rt dd 0 0 (.ref b :: As) w (RVE S)) (hst : st0 = As.reverse ++ .ref b :: st) (k : ∀ u, S u → V X kc ks pc1 lv st u) : V X kc ks pc lv st0 w :=
  V.callN h pc1 d hp hcode hlink hinst hsel hini hd ⟨hroom.1, hroom.2, hkm.1, hkm.2⟩ hq hqc hb hcat hC hst (fun v u hv => by rcases hv with ⟨rfl, hv⟩; exact k _ hv)
theorem V.callNel {y : MethodName} {cy : ByteArray} {mL dd index b ci : Nat} {host : String} {rt : Option FieldType} {As : List Value} {rl : Int64} {S : Wd → Prop} {st0 : List Value} {fs : List Value} {q : vw_C} (h : Cx X cc own D mcT msT) (pc1 : Nat) (d : decode cc pc = .ok (.invokevirtual index, 3)) (hp : pc + 3 = pc1) (hcode : Cond.code y cy mL rt ∈ GW) (hlink : Cond.methodLinkNest own index y host ∈ lw_tbl) (hinst : Cond.instanceMethod y ∈ GW) (hsel : Cond.selects y.cls y y ∈ GW) (hini : Cond.initialized y.cls ∈ GW) (hd : y.cls ≠ "java/lang/invoke/MethodHandle" ∧ y.cls ≠ "java/lang/invoke/VarHandle" ∧ (parseMethodDescriptor y.desc).map (fun d => d.parameters.length) = some As.length) (hroom : dd + 1 ≤ D ∧ mL ≤ 20) (hcat : (st.map fun v => v.category).sum ≤ 8) (hb : w.2 b = some (.inr (ci, fs))) (hq : vwCl[ci]? = some q) (hqc : q.1 = y.cls) (hkm : kc ≤ mcT ∧ ks ≤ msT) (hC : Con y cy mL rt dd 0 0 (.ref b :: As) w (RLE rl S)) (hst : st0 = As.reverse ++ .ref b :: st) (k : ∀ u, S u → V X kc ks pc1 lv (.long rl :: st) u) : V X kc ks pc lv st0 w :=
  V.callN h pc1 d hp hcode hlink hinst hsel hini hd ⟨hroom.1, hroom.2, hkm.1, hkm.2⟩ hq hqc hb hcat hC hst (fun v u hv => by rcases hv with ⟨rfl, hv⟩; exact k _ hv)
theorem V.callSf {y : MethodName} {cy : ByteArray} {mL dd index : Nat} {rt : Option FieldType} {As : List Value} {r : Int32} {w1 : Wd} {st0 : List Value} (h : Cx X cc own D mcT msT) (pc1 : Nat) (d : decode cc pc = .ok (.invokestatic index, 3)) (hp : pc + 3 = pc1) (hcode : Cond.code y cy mL rt ∈ GW) (hlink : Cond.methodLink own index y ∈ GW) (hstat : Cond.static y ∈ GW) (hini : Cond.initialized y.cls ∈ GW) (hd : y.cls ≠ "java/lang/invoke/MethodHandle" ∧ y.cls ≠ "java/lang/invoke/VarHandle" ∧ (parseMethodDescriptor y.desc).map (fun d => d.parameters.length) = some As.length) (hroom : dd + 1 ≤ D ∧ mL ≤ 20) (hcat : (st.map fun v => v.category).sum ≤ 8) (hkm : kc ≤ mcT ∧ ks ≤ msT) (hC : Con y cy mL rt dd 0 0 As w (RI r w1)) (hst : st0 = As.reverse ++ st) (k : V X kc ks pc1 lv (.int r :: st) w1) : V X kc ks pc lv st0 w :=
  V.callS h pc1 d hp hcode hlink hstat hini hd ⟨hroom.1, hroom.2, hkm.1, hkm.2⟩ hcat hC hst (fun v u hv => by rcases hv with ⟨rfl, rfl⟩; exact k)
theorem V.gX0 (h : Cx X cc own D mcT msT) {index a : Nat} {fs : List Value} {v : Value} (k pc1 : Nat) (d : decode cc pc = .ok (.getfield index, 3)) (hp : pc + 3 = pc1) (hk : Nat.blt k 2 = true) (hl : Cond.fieldLink own index (TX0 k).1 (TX0 k).2.1 (TX0 k).2.2.1 ∈ GW) (he : w.2 a = some (.inr (0, fs))) (hv : fs[k]? = some v) (kk : V X kc ks pc1 lv (v :: st) w) : V X kc ks pc lv (.ref a :: st) w :=
  V.getf (ref := "") h k pc1 d hp inX0 (ci := 0) rfl (Nat.blt_eq.mp hk) hl he hv kk
theorem V.sX0 (h : Cx X cc own D mcT msT) {index a : Nat} {fs : List Value} {v : Value} (k pc1 : Nat) (d : decode cc pc = .ok (.putfield index, 3)) (hp : pc + 3 = pc1) (hk : Nat.blt k 2 = true) (hl : Cond.fieldLink own index (TX0 k).1 (TX0 k).2.1 (TX0 k).2.2.1 ∈ GW) (hfin : (TX0 k).2.2.2 = false) (hn : narrow (tyX0 k) v = v) (hfit : fits (tyX0 k) v = true) (he : w.2 a = some (.inr (0, fs))) (hlen : Nat.blt k fs.length = true) (kk : V X kc ks pc1 lv st (wset w a (.inr (0, fs.set k v)))) : V X kc ks pc lv (v :: .ref a :: st) w :=
  V.putf h k pc1 d hp inX0 (ci := 0) rfl tyX0_ok nmX0 (Nat.blt_eq.mp hk) hl hfin hn hfit he (Nat.blt_eq.mp hlen) kk
theorem V.gX0N (h : Cx X cc own D mcT msT) {host : String} {index a : Nat} {fs : List Value} {v : Value} (k pc1 : Nat) (d : decode cc pc = .ok (.getfield index, 3)) (hp : pc + 3 = pc1) (hk : Nat.blt k 2 = true) (hl : Cond.fieldLinkNest own index (TX0 k).1 (TX0 k).2.1 (TX0 k).2.2.1 host ∈ lw_tbl) (he : w.2 a = some (.inr (0, fs))) (hv : fs[k]? = some v) (kk : V X kc ks pc1 lv (v :: st) w) : V X kc ks pc lv (.ref a :: st) w :=
  V.getN (ref := "") h k pc1 d hp inX0 (ci := 0) rfl (Nat.blt_eq.mp hk) hl he hv kk
theorem V.sX0N (h : Cx X cc own D mcT msT) {host : String} {index a : Nat} {fs : List Value} {v : Value} (k pc1 : Nat) (d : decode cc pc = .ok (.putfield index, 3)) (hp : pc + 3 = pc1) (hk : Nat.blt k 2 = true) (hl : Cond.fieldLinkNest own index (TX0 k).1 (TX0 k).2.1 (TX0 k).2.2.1 host ∈ lw_tbl) (hfin : (TX0 k).2.2.2 = false) (hn : narrow (tyX0 k) v = v) (hfit : fits (tyX0 k) v = true) (he : w.2 a = some (.inr (0, fs))) (hlen : Nat.blt k fs.length = true) (kk : V X kc ks pc1 lv st (wset w a (.inr (0, fs.set k v)))) : V X kc ks pc lv (v :: .ref a :: st) w :=
  V.putN h k pc1 d hp inX0 (ci := 0) rfl tyX0_ok nmX0 (Nat.blt_eq.mp hk) hl hfin hn hfit he (Nat.blt_eq.mp hlen) kk
theorem V.fX0 (h : Cx X cc RX0 D mcT msT) {index a : Nat} {fs : List Value} {v : Value} (k pc1 : Nat) (d : decode cc pc = .ok (.putfield index, 3)) (hp : pc + 3 = pc1) (hinit : X.meth.name = "<init>") (hk : Nat.blt k 2 = true) (hl : Cond.fieldLink RX0 index (TX0 k).1 (TX0 k).2.1 (TX0 k).2.2.1 ∈ GW) (hfin : (TX0 k).2.2.2 = true) (hdecl : (TX0 k).1 = RX0) (hn : narrow (tyX0 k) v = v) (hfit : fits (tyX0 k) v = true) (he : w.2 a = some (.inr (0, fs))) (hlen : Nat.blt k fs.length = true) (kk : V X kc ks pc1 lv st (wset w a (.inr (0, fs.set k v)))) : V X kc ks pc lv (v :: .ref a :: st) w :=
  V.putF h k pc1 d hp hinit inX0 (ci := 0) rfl tyX0_ok nmX0 (Nat.blt_eq.mp hk) hl hfin hdecl hn hfit he (Nat.blt_eq.mp hlen) kk
theorem V.gX1 (h : Cx X cc own D mcT msT) {index a : Nat} {fs : List Value} {v : Value} (k pc1 : Nat) (d : decode cc pc = .ok (.getfield index, 3)) (hp : pc + 3 = pc1) (hk : Nat.blt k 4 = true) (hl : Cond.fieldLink own index (TX1 k).1 (TX1 k).2.1 (TX1 k).2.2.1 ∈ GW) (he : w.2 a = some (.inr (1, fs))) (hv : fs[k]? = some v) (kk : V X kc ks pc1 lv (v :: st) w) : V X kc ks pc lv (.ref a :: st) w :=
  V.getf (ref := "") h k pc1 d hp inX1 (ci := 1) rfl (Nat.blt_eq.mp hk) hl he hv kk
theorem V.sX1 (h : Cx X cc own D mcT msT) {index a : Nat} {fs : List Value} {v : Value} (k pc1 : Nat) (d : decode cc pc = .ok (.putfield index, 3)) (hp : pc + 3 = pc1) (hk : Nat.blt k 4 = true) (hl : Cond.fieldLink own index (TX1 k).1 (TX1 k).2.1 (TX1 k).2.2.1 ∈ GW) (hfin : (TX1 k).2.2.2 = false) (hn : narrow (tyX1 k) v = v) (hfit : fits (tyX1 k) v = true) (he : w.2 a = some (.inr (1, fs))) (hlen : Nat.blt k fs.length = true) (kk : V X kc ks pc1 lv st (wset w a (.inr (1, fs.set k v)))) : V X kc ks pc lv (v :: .ref a :: st) w :=
  V.putf h k pc1 d hp inX1 (ci := 1) rfl tyX1_ok nmX1 (Nat.blt_eq.mp hk) hl hfin hn hfit he (Nat.blt_eq.mp hlen) kk
theorem V.gX1N (h : Cx X cc own D mcT msT) {host : String} {index a : Nat} {fs : List Value} {v : Value} (k pc1 : Nat) (d : decode cc pc = .ok (.getfield index, 3)) (hp : pc + 3 = pc1) (hk : Nat.blt k 4 = true) (hl : Cond.fieldLinkNest own index (TX1 k).1 (TX1 k).2.1 (TX1 k).2.2.1 host ∈ lw_tbl) (he : w.2 a = some (.inr (1, fs))) (hv : fs[k]? = some v) (kk : V X kc ks pc1 lv (v :: st) w) : V X kc ks pc lv (.ref a :: st) w :=
  V.getN (ref := "") h k pc1 d hp inX1 (ci := 1) rfl (Nat.blt_eq.mp hk) hl he hv kk
theorem V.sX1N (h : Cx X cc own D mcT msT) {host : String} {index a : Nat} {fs : List Value} {v : Value} (k pc1 : Nat) (d : decode cc pc = .ok (.putfield index, 3)) (hp : pc + 3 = pc1) (hk : Nat.blt k 4 = true) (hl : Cond.fieldLinkNest own index (TX1 k).1 (TX1 k).2.1 (TX1 k).2.2.1 host ∈ lw_tbl) (hfin : (TX1 k).2.2.2 = false) (hn : narrow (tyX1 k) v = v) (hfit : fits (tyX1 k) v = true) (he : w.2 a = some (.inr (1, fs))) (hlen : Nat.blt k fs.length = true) (kk : V X kc ks pc1 lv st (wset w a (.inr (1, fs.set k v)))) : V X kc ks pc lv (v :: .ref a :: st) w :=
  V.putN h k pc1 d hp inX1 (ci := 1) rfl tyX1_ok nmX1 (Nat.blt_eq.mp hk) hl hfin hn hfit he (Nat.blt_eq.mp hlen) kk
theorem V.fX1 (h : Cx X cc RX1 D mcT msT) {index a : Nat} {fs : List Value} {v : Value} (k pc1 : Nat) (d : decode cc pc = .ok (.putfield index, 3)) (hp : pc + 3 = pc1) (hinit : X.meth.name = "<init>") (hk : Nat.blt k 4 = true) (hl : Cond.fieldLink RX1 index (TX1 k).1 (TX1 k).2.1 (TX1 k).2.2.1 ∈ GW) (hfin : (TX1 k).2.2.2 = true) (hdecl : (TX1 k).1 = RX1) (hn : narrow (tyX1 k) v = v) (hfit : fits (tyX1 k) v = true) (he : w.2 a = some (.inr (1, fs))) (hlen : Nat.blt k fs.length = true) (kk : V X kc ks pc1 lv st (wset w a (.inr (1, fs.set k v)))) : V X kc ks pc lv (v :: .ref a :: st) w :=
  V.putF h k pc1 d hp hinit inX1 (ci := 1) rfl tyX1_ok nmX1 (Nat.blt_eq.mp hk) hl hfin hdecl hn hfit he (Nat.blt_eq.mp hlen) kk
theorem V.gX2 (h : Cx X cc own D mcT msT) {index a : Nat} {fs : List Value} {v : Value} (k pc1 : Nat) (d : decode cc pc = .ok (.getfield index, 3)) (hp : pc + 3 = pc1) (hk : Nat.blt k 17 = true) (hl : Cond.fieldLink own index (TX2 k).1 (TX2 k).2.1 (TX2 k).2.2.1 ∈ GW) (he : w.2 a = some (.inr (2, fs))) (hv : fs[k]? = some v) (kk : V X kc ks pc1 lv (v :: st) w) : V X kc ks pc lv (.ref a :: st) w :=
  V.getf (ref := "") h k pc1 d hp inX2 (ci := 2) rfl (Nat.blt_eq.mp hk) hl he hv kk
theorem V.sX2 (h : Cx X cc own D mcT msT) {index a : Nat} {fs : List Value} {v : Value} (k pc1 : Nat) (d : decode cc pc = .ok (.putfield index, 3)) (hp : pc + 3 = pc1) (hk : Nat.blt k 17 = true) (hl : Cond.fieldLink own index (TX2 k).1 (TX2 k).2.1 (TX2 k).2.2.1 ∈ GW) (hfin : (TX2 k).2.2.2 = false) (hn : narrow (tyX2 k) v = v) (hfit : fits (tyX2 k) v = true) (he : w.2 a = some (.inr (2, fs))) (hlen : Nat.blt k fs.length = true) (kk : V X kc ks pc1 lv st (wset w a (.inr (2, fs.set k v)))) : V X kc ks pc lv (v :: .ref a :: st) w :=
  V.putf h k pc1 d hp inX2 (ci := 2) rfl tyX2_ok nmX2 (Nat.blt_eq.mp hk) hl hfin hn hfit he (Nat.blt_eq.mp hlen) kk
theorem V.gX2N (h : Cx X cc own D mcT msT) {host : String} {index a : Nat} {fs : List Value} {v : Value} (k pc1 : Nat) (d : decode cc pc = .ok (.getfield index, 3)) (hp : pc + 3 = pc1) (hk : Nat.blt k 17 = true) (hl : Cond.fieldLinkNest own index (TX2 k).1 (TX2 k).2.1 (TX2 k).2.2.1 host ∈ lw_tbl) (he : w.2 a = some (.inr (2, fs))) (hv : fs[k]? = some v) (kk : V X kc ks pc1 lv (v :: st) w) : V X kc ks pc lv (.ref a :: st) w :=
  V.getN (ref := "") h k pc1 d hp inX2 (ci := 2) rfl (Nat.blt_eq.mp hk) hl he hv kk
theorem V.sX2N (h : Cx X cc own D mcT msT) {host : String} {index a : Nat} {fs : List Value} {v : Value} (k pc1 : Nat) (d : decode cc pc = .ok (.putfield index, 3)) (hp : pc + 3 = pc1) (hk : Nat.blt k 17 = true) (hl : Cond.fieldLinkNest own index (TX2 k).1 (TX2 k).2.1 (TX2 k).2.2.1 host ∈ lw_tbl) (hfin : (TX2 k).2.2.2 = false) (hn : narrow (tyX2 k) v = v) (hfit : fits (tyX2 k) v = true) (he : w.2 a = some (.inr (2, fs))) (hlen : Nat.blt k fs.length = true) (kk : V X kc ks pc1 lv st (wset w a (.inr (2, fs.set k v)))) : V X kc ks pc lv (v :: .ref a :: st) w :=
  V.putN h k pc1 d hp inX2 (ci := 2) rfl tyX2_ok nmX2 (Nat.blt_eq.mp hk) hl hfin hn hfit he (Nat.blt_eq.mp hlen) kk
theorem V.fX2 (h : Cx X cc RX2 D mcT msT) {index a : Nat} {fs : List Value} {v : Value} (k pc1 : Nat) (d : decode cc pc = .ok (.putfield index, 3)) (hp : pc + 3 = pc1) (hinit : X.meth.name = "<init>") (hk : Nat.blt k 17 = true) (hl : Cond.fieldLink RX2 index (TX2 k).1 (TX2 k).2.1 (TX2 k).2.2.1 ∈ GW) (hfin : (TX2 k).2.2.2 = true) (hdecl : (TX2 k).1 = RX2) (hn : narrow (tyX2 k) v = v) (hfit : fits (tyX2 k) v = true) (he : w.2 a = some (.inr (2, fs))) (hlen : Nat.blt k fs.length = true) (kk : V X kc ks pc1 lv st (wset w a (.inr (2, fs.set k v)))) : V X kc ks pc lv (v :: .ref a :: st) w :=
  V.putF h k pc1 d hp hinit inX2 (ci := 2) rfl tyX2_ok nmX2 (Nat.blt_eq.mp hk) hl hfin hdecl hn hfit he (Nat.blt_eq.mp hlen) kk
theorem V.gX3 (h : Cx X cc own D mcT msT) {index a : Nat} {fs : List Value} {v : Value} (k pc1 : Nat) (d : decode cc pc = .ok (.getfield index, 3)) (hp : pc + 3 = pc1) (hk : Nat.blt k 9 = true) (hl : Cond.fieldLink own index (TX3 k).1 (TX3 k).2.1 (TX3 k).2.2.1 ∈ GW) (he : w.2 a = some (.inr (3, fs))) (hv : fs[k]? = some v) (kk : V X kc ks pc1 lv (v :: st) w) : V X kc ks pc lv (.ref a :: st) w :=
  V.getf (ref := "") h k pc1 d hp inX3 (ci := 3) rfl (Nat.blt_eq.mp hk) hl he hv kk
theorem V.sX3 (h : Cx X cc own D mcT msT) {index a : Nat} {fs : List Value} {v : Value} (k pc1 : Nat) (d : decode cc pc = .ok (.putfield index, 3)) (hp : pc + 3 = pc1) (hk : Nat.blt k 9 = true) (hl : Cond.fieldLink own index (TX3 k).1 (TX3 k).2.1 (TX3 k).2.2.1 ∈ GW) (hfin : (TX3 k).2.2.2 = false) (hn : narrow (tyX3 k) v = v) (hfit : fits (tyX3 k) v = true) (he : w.2 a = some (.inr (3, fs))) (hlen : Nat.blt k fs.length = true) (kk : V X kc ks pc1 lv st (wset w a (.inr (3, fs.set k v)))) : V X kc ks pc lv (v :: .ref a :: st) w :=
  V.putf h k pc1 d hp inX3 (ci := 3) rfl tyX3_ok nmX3 (Nat.blt_eq.mp hk) hl hfin hn hfit he (Nat.blt_eq.mp hlen) kk
theorem V.gX3N (h : Cx X cc own D mcT msT) {host : String} {index a : Nat} {fs : List Value} {v : Value} (k pc1 : Nat) (d : decode cc pc = .ok (.getfield index, 3)) (hp : pc + 3 = pc1) (hk : Nat.blt k 9 = true) (hl : Cond.fieldLinkNest own index (TX3 k).1 (TX3 k).2.1 (TX3 k).2.2.1 host ∈ lw_tbl) (he : w.2 a = some (.inr (3, fs))) (hv : fs[k]? = some v) (kk : V X kc ks pc1 lv (v :: st) w) : V X kc ks pc lv (.ref a :: st) w :=
  V.getN (ref := "") h k pc1 d hp inX3 (ci := 3) rfl (Nat.blt_eq.mp hk) hl he hv kk
theorem V.sX3N (h : Cx X cc own D mcT msT) {host : String} {index a : Nat} {fs : List Value} {v : Value} (k pc1 : Nat) (d : decode cc pc = .ok (.putfield index, 3)) (hp : pc + 3 = pc1) (hk : Nat.blt k 9 = true) (hl : Cond.fieldLinkNest own index (TX3 k).1 (TX3 k).2.1 (TX3 k).2.2.1 host ∈ lw_tbl) (hfin : (TX3 k).2.2.2 = false) (hn : narrow (tyX3 k) v = v) (hfit : fits (tyX3 k) v = true) (he : w.2 a = some (.inr (3, fs))) (hlen : Nat.blt k fs.length = true) (kk : V X kc ks pc1 lv st (wset w a (.inr (3, fs.set k v)))) : V X kc ks pc lv (v :: .ref a :: st) w :=
  V.putN h k pc1 d hp inX3 (ci := 3) rfl tyX3_ok nmX3 (Nat.blt_eq.mp hk) hl hfin hn hfit he (Nat.blt_eq.mp hlen) kk
theorem V.fX3 (h : Cx X cc RX3 D mcT msT) {index a : Nat} {fs : List Value} {v : Value} (k pc1 : Nat) (d : decode cc pc = .ok (.putfield index, 3)) (hp : pc + 3 = pc1) (hinit : X.meth.name = "<init>") (hk : Nat.blt k 9 = true) (hl : Cond.fieldLink RX3 index (TX3 k).1 (TX3 k).2.1 (TX3 k).2.2.1 ∈ GW) (hfin : (TX3 k).2.2.2 = true) (hdecl : (TX3 k).1 = RX3) (hn : narrow (tyX3 k) v = v) (hfit : fits (tyX3 k) v = true) (he : w.2 a = some (.inr (3, fs))) (hlen : Nat.blt k fs.length = true) (kk : V X kc ks pc1 lv st (wset w a (.inr (3, fs.set k v)))) : V X kc ks pc lv (v :: .ref a :: st) w :=
  V.putF h k pc1 d hp hinit inX3 (ci := 3) rfl tyX3_ok nmX3 (Nat.blt_eq.mp hk) hl hfin hdecl hn hfit he (Nat.blt_eq.mp hlen) kk
theorem V.gX4 (h : Cx X cc own D mcT msT) {index a : Nat} {fs : List Value} {v : Value} (k pc1 : Nat) (d : decode cc pc = .ok (.getfield index, 3)) (hp : pc + 3 = pc1) (hk : Nat.blt k 7 = true) (hl : Cond.fieldLink own index (TX4 k).1 (TX4 k).2.1 (TX4 k).2.2.1 ∈ GW) (he : w.2 a = some (.inr (4, fs))) (hv : fs[k]? = some v) (kk : V X kc ks pc1 lv (v :: st) w) : V X kc ks pc lv (.ref a :: st) w :=
  V.getf (ref := "") h k pc1 d hp inX4 (ci := 4) rfl (Nat.blt_eq.mp hk) hl he hv kk
theorem V.sX4 (h : Cx X cc own D mcT msT) {index a : Nat} {fs : List Value} {v : Value} (k pc1 : Nat) (d : decode cc pc = .ok (.putfield index, 3)) (hp : pc + 3 = pc1) (hk : Nat.blt k 7 = true) (hl : Cond.fieldLink own index (TX4 k).1 (TX4 k).2.1 (TX4 k).2.2.1 ∈ GW) (hfin : (TX4 k).2.2.2 = false) (hn : narrow (tyX4 k) v = v) (hfit : fits (tyX4 k) v = true) (he : w.2 a = some (.inr (4, fs))) (hlen : Nat.blt k fs.length = true) (kk : V X kc ks pc1 lv st (wset w a (.inr (4, fs.set k v)))) : V X kc ks pc lv (v :: .ref a :: st) w :=
  V.putf h k pc1 d hp inX4 (ci := 4) rfl tyX4_ok nmX4 (Nat.blt_eq.mp hk) hl hfin hn hfit he (Nat.blt_eq.mp hlen) kk
theorem V.gX4N (h : Cx X cc own D mcT msT) {host : String} {index a : Nat} {fs : List Value} {v : Value} (k pc1 : Nat) (d : decode cc pc = .ok (.getfield index, 3)) (hp : pc + 3 = pc1) (hk : Nat.blt k 7 = true) (hl : Cond.fieldLinkNest own index (TX4 k).1 (TX4 k).2.1 (TX4 k).2.2.1 host ∈ lw_tbl) (he : w.2 a = some (.inr (4, fs))) (hv : fs[k]? = some v) (kk : V X kc ks pc1 lv (v :: st) w) : V X kc ks pc lv (.ref a :: st) w :=
  V.getN (ref := "") h k pc1 d hp inX4 (ci := 4) rfl (Nat.blt_eq.mp hk) hl he hv kk
theorem V.sX4N (h : Cx X cc own D mcT msT) {host : String} {index a : Nat} {fs : List Value} {v : Value} (k pc1 : Nat) (d : decode cc pc = .ok (.putfield index, 3)) (hp : pc + 3 = pc1) (hk : Nat.blt k 7 = true) (hl : Cond.fieldLinkNest own index (TX4 k).1 (TX4 k).2.1 (TX4 k).2.2.1 host ∈ lw_tbl) (hfin : (TX4 k).2.2.2 = false) (hn : narrow (tyX4 k) v = v) (hfit : fits (tyX4 k) v = true) (he : w.2 a = some (.inr (4, fs))) (hlen : Nat.blt k fs.length = true) (kk : V X kc ks pc1 lv st (wset w a (.inr (4, fs.set k v)))) : V X kc ks pc lv (v :: .ref a :: st) w :=
  V.putN h k pc1 d hp inX4 (ci := 4) rfl tyX4_ok nmX4 (Nat.blt_eq.mp hk) hl hfin hn hfit he (Nat.blt_eq.mp hlen) kk
theorem V.fX4 (h : Cx X cc RX4 D mcT msT) {index a : Nat} {fs : List Value} {v : Value} (k pc1 : Nat) (d : decode cc pc = .ok (.putfield index, 3)) (hp : pc + 3 = pc1) (hinit : X.meth.name = "<init>") (hk : Nat.blt k 7 = true) (hl : Cond.fieldLink RX4 index (TX4 k).1 (TX4 k).2.1 (TX4 k).2.2.1 ∈ GW) (hfin : (TX4 k).2.2.2 = true) (hdecl : (TX4 k).1 = RX4) (hn : narrow (tyX4 k) v = v) (hfit : fits (tyX4 k) v = true) (he : w.2 a = some (.inr (4, fs))) (hlen : Nat.blt k fs.length = true) (kk : V X kc ks pc1 lv st (wset w a (.inr (4, fs.set k v)))) : V X kc ks pc lv (v :: .ref a :: st) w :=
  V.putF h k pc1 d hp hinit inX4 (ci := 4) rfl tyX4_ok nmX4 (Nat.blt_eq.mp hk) hl hfin hdecl hn hfit he (Nat.blt_eq.mp hlen) kk
theorem V.gX5 (h : Cx X cc own D mcT msT) {index a : Nat} {fs : List Value} {v : Value} (k pc1 : Nat) (d : decode cc pc = .ok (.getfield index, 3)) (hp : pc + 3 = pc1) (hk : Nat.blt k 15 = true) (hl : Cond.fieldLink own index (TX5 k).1 (TX5 k).2.1 (TX5 k).2.2.1 ∈ GW) (he : w.2 a = some (.inr (5, fs))) (hv : fs[k]? = some v) (kk : V X kc ks pc1 lv (v :: st) w) : V X kc ks pc lv (.ref a :: st) w :=
  V.getf (ref := "") h k pc1 d hp inX5 (ci := 5) rfl (Nat.blt_eq.mp hk) hl he hv kk
theorem V.sX5 (h : Cx X cc own D mcT msT) {index a : Nat} {fs : List Value} {v : Value} (k pc1 : Nat) (d : decode cc pc = .ok (.putfield index, 3)) (hp : pc + 3 = pc1) (hk : Nat.blt k 15 = true) (hl : Cond.fieldLink own index (TX5 k).1 (TX5 k).2.1 (TX5 k).2.2.1 ∈ GW) (hfin : (TX5 k).2.2.2 = false) (hn : narrow (tyX5 k) v = v) (hfit : fits (tyX5 k) v = true) (he : w.2 a = some (.inr (5, fs))) (hlen : Nat.blt k fs.length = true) (kk : V X kc ks pc1 lv st (wset w a (.inr (5, fs.set k v)))) : V X kc ks pc lv (v :: .ref a :: st) w :=
  V.putf h k pc1 d hp inX5 (ci := 5) rfl tyX5_ok nmX5 (Nat.blt_eq.mp hk) hl hfin hn hfit he (Nat.blt_eq.mp hlen) kk
theorem V.gX5N (h : Cx X cc own D mcT msT) {host : String} {index a : Nat} {fs : List Value} {v : Value} (k pc1 : Nat) (d : decode cc pc = .ok (.getfield index, 3)) (hp : pc + 3 = pc1) (hk : Nat.blt k 15 = true) (hl : Cond.fieldLinkNest own index (TX5 k).1 (TX5 k).2.1 (TX5 k).2.2.1 host ∈ lw_tbl) (he : w.2 a = some (.inr (5, fs))) (hv : fs[k]? = some v) (kk : V X kc ks pc1 lv (v :: st) w) : V X kc ks pc lv (.ref a :: st) w :=
  V.getN (ref := "") h k pc1 d hp inX5 (ci := 5) rfl (Nat.blt_eq.mp hk) hl he hv kk
theorem V.sX5N (h : Cx X cc own D mcT msT) {host : String} {index a : Nat} {fs : List Value} {v : Value} (k pc1 : Nat) (d : decode cc pc = .ok (.putfield index, 3)) (hp : pc + 3 = pc1) (hk : Nat.blt k 15 = true) (hl : Cond.fieldLinkNest own index (TX5 k).1 (TX5 k).2.1 (TX5 k).2.2.1 host ∈ lw_tbl) (hfin : (TX5 k).2.2.2 = false) (hn : narrow (tyX5 k) v = v) (hfit : fits (tyX5 k) v = true) (he : w.2 a = some (.inr (5, fs))) (hlen : Nat.blt k fs.length = true) (kk : V X kc ks pc1 lv st (wset w a (.inr (5, fs.set k v)))) : V X kc ks pc lv (v :: .ref a :: st) w :=
  V.putN h k pc1 d hp inX5 (ci := 5) rfl tyX5_ok nmX5 (Nat.blt_eq.mp hk) hl hfin hn hfit he (Nat.blt_eq.mp hlen) kk
theorem V.fX5 (h : Cx X cc RX5 D mcT msT) {index a : Nat} {fs : List Value} {v : Value} (k pc1 : Nat) (d : decode cc pc = .ok (.putfield index, 3)) (hp : pc + 3 = pc1) (hinit : X.meth.name = "<init>") (hk : Nat.blt k 15 = true) (hl : Cond.fieldLink RX5 index (TX5 k).1 (TX5 k).2.1 (TX5 k).2.2.1 ∈ GW) (hfin : (TX5 k).2.2.2 = true) (hdecl : (TX5 k).1 = RX5) (hn : narrow (tyX5 k) v = v) (hfit : fits (tyX5 k) v = true) (he : w.2 a = some (.inr (5, fs))) (hlen : Nat.blt k fs.length = true) (kk : V X kc ks pc1 lv st (wset w a (.inr (5, fs.set k v)))) : V X kc ks pc lv (v :: .ref a :: st) w :=
  V.putF h k pc1 d hp hinit inX5 (ci := 5) rfl tyX5_ok nmX5 (Nat.blt_eq.mp hk) hl hfin hdecl hn hfit he (Nat.blt_eq.mp hlen) kk
end V6
/-! a block of cells, at addresses one behind another -/
def rs (w : Wd) (b n : Nat) (c : Nat → Ce) : Wd := (w.1, fun q => if b ≤ q ∧ q < b + n then some (c (q - b)) else w.2 q)
def cu (c : Nat → Ce) (k : Nat) (e : Ce) : Nat → Ce := fun i => if i = k then e else c i
def RA (w : Wd) (b n : Nat) (c : Nat → Ce) : Prop := ∀ k, k < n → w.2 (b + k) = some (c k)
theorem rs_in {w : Wd} {b n : Nat} {c : Nat → Ce} {k : Nat} (h : k < n) : (rs w b n c).2 (b + k) = some (c k) := by
  unfold rs
  dsimp only
  rw [if_pos ⟨by omega, by omega⟩]
  congr 2
  omega
theorem rs_out {w : Wd} {b n : Nat} {c : Nat → Ce} {q : Nat} (h : q < b ∨ b + n ≤ q) : (rs w b n c).2 q = w.2 q := by
  unfold rs
  dsimp only
  rw [if_neg (by omega)]
theorem wset_self (w : Wd) (a : Nat) (e : Ce) : (wset w a e).2 a = some e := by unfold wset; dsimp only; rw [if_pos rfl]
theorem wset_ne {w : Wd} {a q : Nat} {e : Ce} (h : q ≠ a) : (wset w a e).2 q = w.2 q := by unfold wset; dsimp only; rw [if_neg h]
theorem wd_ext {w w' : Wd} (h1 : w.1 = w'.1) (h2 : ∀ q, w.2 q = w'.2 q) : w = w' := Prod.ext h1 (funext h2)
theorem wset_rs {w : Wd} {b n : Nat} {c : Nat → Ce} {k : Nat} (h : k < n) (e : Ce) : wset (rs w b n c) (b + k) e = rs w b n (cu c k e) := by
  refine wd_ext rfl fun q => ?_
  by_cases hq : q = b + k
  · subst hq
    rw [wset_self, rs_in h]
    unfold cu
    rw [if_pos rfl]
  · rw [wset_ne hq]
    by_cases h1 : b ≤ q ∧ q < b + n
    · obtain ⟨j, rfl⟩ : ∃ j, q = b + j := ⟨q - b, by omega⟩
      rw [rs_in (by omega), rs_in (by omega)]
      unfold cu
      rw [if_neg (by omega)]
    · rw [rs_out (by omega), rs_out (by omega)]
theorem wset_rs_out {w : Wd} {b n : Nat} {c : Nat → Ce} {a : Nat} (h : a < b ∨ b + n ≤ a) (e : Ce) : wset (rs w b n c) a e = rs (wset w a e) b n c := by
  refine wd_ext rfl fun q => ?_
  by_cases hq : q = a
  · subst hq
    rw [wset_self, rs_out h, wset_self]
  · rw [wset_ne hq]
    by_cases h1 : b ≤ q ∧ q < b + n
    · obtain ⟨j, rfl⟩ : ∃ j, q = b + j := ⟨q - b, by omega⟩
      rw [rs_in (by omega), rs_in (by omega)]
    · rw [rs_out (by omega), rs_out (by omega), wset_ne hq]
theorem rs_rs {w : Wd} {b n : Nat} {c c' : Nat → Ce} : rs (rs w b n c) b n c' = rs w b n c' := by
  refine wd_ext rfl fun q => ?_
  by_cases h1 : b ≤ q ∧ q < b + n
  · obtain ⟨j, rfl⟩ : ∃ j, q = b + j := ⟨q - b, by omega⟩
    rw [rs_in (by omega), rs_in (by omega)]
  · rw [rs_out (by omega), rs_out (by omega), rs_out (by omega)]
theorem rs_comm {w : Wd} {b n b' n' : Nat} {c c' : Nat → Ce} (h : b + n ≤ b' ∨ b' + n' ≤ b) : rs (rs w b n c) b' n' c' = rs (rs w b' n' c') b n c := by
  refine wd_ext rfl fun q => ?_
  by_cases h1 : b ≤ q ∧ q < b + n
  · obtain ⟨j, rfl⟩ : ∃ j, q = b + j := ⟨q - b, by omega⟩
    rw [rs_out (by omega), rs_in (by omega), rs_in (by omega)]
  · by_cases h2 : b' ≤ q ∧ q < b' + n'
    · obtain ⟨j, rfl⟩ : ∃ j, q = b' + j := ⟨q - b', by omega⟩
      rw [rs_in (by omega), rs_out (by omega), rs_in (by omega)]
    · rw [rs_out (by omega), rs_out (by omega), rs_out (by omega), rs_out (by omega)]
theorem RA_rs {w : Wd} {b n : Nat} {c : Nat → Ce} : RA (rs w b n c) b n c := fun _ h => rs_in h
theorem RA.rs {w : Wd} {b n b' n' : Nat} {c c' : Nat → Ce} (h : RA w b n c) (hd : b + n ≤ b' ∨ b' + n' ≤ b) : RA (rs w b' n' c') b n c := fun k hk => by rw [rs_out (by omega)]; exact h k hk
theorem RA.wset {w : Wd} {b n a : Nat} {c : Nat → Ce} {e : Ce} (h : RA w b n c) (hd : a < b ∨ b + n ≤ a) : RA (wset w a e) b n c := fun k hk => by rw [wset_ne (by omega)]; exact h k hk
theorem RA.id {w : Wd} {b n : Nat} {c : Nat → Ce} (h : RA w b n c) : _root_.Jvm.Pilot.CPledgeTipsLaw_law_r3089_549eb5.rs w b n c = w := by
  refine wd_ext rfl fun q => ?_
  by_cases h1 : b ≤ q ∧ q < b + n
  · obtain ⟨j, rfl⟩ : ∃ j, q = b + j := ⟨q - b, by omega⟩
    rw [rs_in (by omega), h j (by omega)]
  · rw [rs_out (by omega)]
abbrev Pl : Type := Nat → Nat → Int32
def us (P : Pl) (f : Nat) (v : Int32) : Pl := fun i => if i = f then (fun _ => v) else P i
def ua (P : Pl) (f : Nat) (g : Nat → Int32) : Pl := fun i => if i = f then g else P i
abbrev ints (n : Nat) (f : Nat → Int32) : Ce := .inl (0, n, .inl f)

def mfl (b : Nat) (M : Pl) : List Value := [.ref (b + 1), .ref (b + 2), .ref (b + 3), .int (M 3 0), .ref (b + 4), .int (M 5 0), .int (M 6 0), .int (M 7 0), .ref (b + 5), .int (M 9 0), .int (M 10 0), .int (M 11 0), .int (M 12 0), .int (M 13 0), .ref (b + 6)]
def mcl (b : Nat) (M : Pl) : Nat → Ce := fun i => match i with
  | 0 => .inr (5, mfl b M)
  | 1 => ints 125 (M 0)
  | 2 => ints 125 (M 1)
  | 3 => ints 500 (M 2)
  | 4 => ints 80 (M 4)
  | 5 => ints 12 (M 8)
  | 6 => ints 5 (M 14)
  | _ => .inr (0, [])
def ms (w : Wd) (b : Nat) (M : Pl) : Wd := rs w b 7 (mcl b M)
section MS
variable {w : Wd} {b : Nat} {M : Pl}
theorem mo : (ms w b M).2 b = some (.inr (5, mfl b M)) := rs_in (k := 0) (by decide)
theorem ma1 : (ms w b M).2 (b + 1) = some (ints 125 (M 0)) := rs_in (k := 1) (by decide)
theorem ma2 : (ms w b M).2 (b + 2) = some (ints 125 (M 1)) := rs_in (k := 2) (by decide)
theorem ma3 : (ms w b M).2 (b + 3) = some (ints 500 (M 2)) := rs_in (k := 3) (by decide)
theorem ma4 : (ms w b M).2 (b + 4) = some (ints 80 (M 4)) := rs_in (k := 4) (by decide)
theorem ma5 : (ms w b M).2 (b + 5) = some (ints 12 (M 8)) := rs_in (k := 5) (by decide)
theorem ma6 : (ms w b M).2 (b + 6) = some (ints 5 (M 14)) := rs_in (k := 6) (by decide)
theorem mp3 {v : Int32} : wset (ms w b M) b (.inr (5, (mfl b M).set 3 (.int v))) = ms w b (us M 3 v) := by
  unfold ms; refine (wset_rs (k := 0) (by decide) _).trans ?_; congr 1; funext i; match i with
  | 0 => rfl
  | 1 => rfl
  | 2 => rfl
  | 3 => rfl
  | 4 => rfl
  | 5 => rfl
  | 6 => rfl
  | n + 7 => rfl
theorem mp5 {v : Int32} : wset (ms w b M) b (.inr (5, (mfl b M).set 5 (.int v))) = ms w b (us M 5 v) := by
  unfold ms; refine (wset_rs (k := 0) (by decide) _).trans ?_; congr 1; funext i; match i with
  | 0 => rfl
  | 1 => rfl
  | 2 => rfl
  | 3 => rfl
  | 4 => rfl
  | 5 => rfl
  | 6 => rfl
  | n + 7 => rfl
theorem mp6 {v : Int32} : wset (ms w b M) b (.inr (5, (mfl b M).set 6 (.int v))) = ms w b (us M 6 v) := by
  unfold ms; refine (wset_rs (k := 0) (by decide) _).trans ?_; congr 1; funext i; match i with
  | 0 => rfl
  | 1 => rfl
  | 2 => rfl
  | 3 => rfl
  | 4 => rfl
  | 5 => rfl
  | 6 => rfl
  | n + 7 => rfl
theorem mp7 {v : Int32} : wset (ms w b M) b (.inr (5, (mfl b M).set 7 (.int v))) = ms w b (us M 7 v) := by
  unfold ms; refine (wset_rs (k := 0) (by decide) _).trans ?_; congr 1; funext i; match i with
  | 0 => rfl
  | 1 => rfl
  | 2 => rfl
  | 3 => rfl
  | 4 => rfl
  | 5 => rfl
  | 6 => rfl
  | n + 7 => rfl
theorem mp9 {v : Int32} : wset (ms w b M) b (.inr (5, (mfl b M).set 9 (.int v))) = ms w b (us M 9 v) := by
  unfold ms; refine (wset_rs (k := 0) (by decide) _).trans ?_; congr 1; funext i; match i with
  | 0 => rfl
  | 1 => rfl
  | 2 => rfl
  | 3 => rfl
  | 4 => rfl
  | 5 => rfl
  | 6 => rfl
  | n + 7 => rfl
theorem mp10 {v : Int32} : wset (ms w b M) b (.inr (5, (mfl b M).set 10 (.int v))) = ms w b (us M 10 v) := by
  unfold ms; refine (wset_rs (k := 0) (by decide) _).trans ?_; congr 1; funext i; match i with
  | 0 => rfl
  | 1 => rfl
  | 2 => rfl
  | 3 => rfl
  | 4 => rfl
  | 5 => rfl
  | 6 => rfl
  | n + 7 => rfl
theorem mp11 {v : Int32} : wset (ms w b M) b (.inr (5, (mfl b M).set 11 (.int v))) = ms w b (us M 11 v) := by
  unfold ms; refine (wset_rs (k := 0) (by decide) _).trans ?_; congr 1; funext i; match i with
  | 0 => rfl
  | 1 => rfl
  | 2 => rfl
  | 3 => rfl
  | 4 => rfl
  | 5 => rfl
  | 6 => rfl
  | n + 7 => rfl
theorem mp12 {v : Int32} : wset (ms w b M) b (.inr (5, (mfl b M).set 12 (.int v))) = ms w b (us M 12 v) := by
  unfold ms; refine (wset_rs (k := 0) (by decide) _).trans ?_; congr 1; funext i; match i with
  | 0 => rfl
  | 1 => rfl
  | 2 => rfl
  | 3 => rfl
  | 4 => rfl
  | 5 => rfl
  | 6 => rfl
  | n + 7 => rfl
theorem mp13 {v : Int32} : wset (ms w b M) b (.inr (5, (mfl b M).set 13 (.int v))) = ms w b (us M 13 v) := by
  unfold ms; refine (wset_rs (k := 0) (by decide) _).trans ?_; congr 1; funext i; match i with
  | 0 => rfl
  | 1 => rfl
  | 2 => rfl
  | 3 => rfl
  | 4 => rfl
  | 5 => rfl
  | 6 => rfl
  | n + 7 => rfl
theorem mw1 {f : Nat → Int32} : wset (ms w b M) (b + 1) (ints 125 f) = ms w b (ua M 0 f) := by
  unfold ms; refine (wset_rs (k := 1) (by decide) _).trans ?_; congr 1; funext i; match i with
  | 0 => rfl
  | 1 => rfl
  | 2 => rfl
  | 3 => rfl
  | 4 => rfl
  | 5 => rfl
  | 6 => rfl
  | n + 7 => rfl
theorem mw2 {f : Nat → Int32} : wset (ms w b M) (b + 2) (ints 125 f) = ms w b (ua M 1 f) := by
  unfold ms; refine (wset_rs (k := 2) (by decide) _).trans ?_; congr 1; funext i; match i with
  | 0 => rfl
  | 1 => rfl
  | 2 => rfl
  | 3 => rfl
  | 4 => rfl
  | 5 => rfl
  | 6 => rfl
  | n + 7 => rfl
theorem mw3 {f : Nat → Int32} : wset (ms w b M) (b + 3) (ints 500 f) = ms w b (ua M 2 f) := by
  unfold ms; refine (wset_rs (k := 3) (by decide) _).trans ?_; congr 1; funext i; match i with
  | 0 => rfl
  | 1 => rfl
  | 2 => rfl
  | 3 => rfl
  | 4 => rfl
  | 5 => rfl
  | 6 => rfl
  | n + 7 => rfl
theorem mw4 {f : Nat → Int32} : wset (ms w b M) (b + 4) (ints 80 f) = ms w b (ua M 4 f) := by
  unfold ms; refine (wset_rs (k := 4) (by decide) _).trans ?_; congr 1; funext i; match i with
  | 0 => rfl
  | 1 => rfl
  | 2 => rfl
  | 3 => rfl
  | 4 => rfl
  | 5 => rfl
  | 6 => rfl
  | n + 7 => rfl
theorem mw5 {f : Nat → Int32} : wset (ms w b M) (b + 5) (ints 12 f) = ms w b (ua M 8 f) := by
  unfold ms; refine (wset_rs (k := 5) (by decide) _).trans ?_; congr 1; funext i; match i with
  | 0 => rfl
  | 1 => rfl
  | 2 => rfl
  | 3 => rfl
  | 4 => rfl
  | 5 => rfl
  | 6 => rfl
  | n + 7 => rfl
theorem mw6 {f : Nat → Int32} : wset (ms w b M) (b + 6) (ints 5 f) = ms w b (ua M 14 f) := by
  unfold ms; refine (wset_rs (k := 6) (by decide) _).trans ?_; congr 1; funext i; match i with
  | 0 => rfl
  | 1 => rfl
  | 2 => rfl
  | 3 => rfl
  | 4 => rfl
  | 5 => rfl
  | 6 => rfl
  | n + 7 => rfl
end MS
def pfl (p : Nat) (P : Pl) : List Value := [.int (P 0 0), .ref (p + 1), .int (P 2 0), .int (P 3 0), .ref (p + 2), .ref (p + 3), .int (P 6 0), .int (P 7 0), .ref (p + 4), .ref (p + 5), .ref (p + 6), .ref (p + 7), .ref (p + 8), .ref (p + 9), .int (P 14 0), .int (P 15 0), .int (P 16 0)]
def pcl (p : Nat) (P : Pl) : Nat → Ce := fun i => match i with
  | 0 => .inr (2, pfl p P)
  | 1 => ints 4 (P 1)
  | 2 => ints 8 (P 4)
  | 3 => ints 8 (P 5)
  | 4 => ints 13 (P 8)
  | 5 => ints 13 (P 9)
  | 6 => ints 13 (P 10)
  | 7 => ints 13 (P 11)
  | 8 => ints 13 (P 12)
  | 9 => ints 13 (P 13)
  | _ => .inr (0, [])
abbrev PlaceAt (w : Wd) (p : Nat) (P : Pl) : Prop := RA w p 10 (pcl p P)
def ps (w : Wd) (p : Nat) (P : Pl) : Wd := rs w p 10 (pcl p P)
section PS
variable {w : Wd} {p : Nat} {P : Pl}
theorem RA.po (h : PlaceAt w p P) : w.2 p = some (.inr (2, pfl p P)) := h 0 (by decide)
theorem RA.pa1 (h : PlaceAt w p P) : w.2 (p + 1) = some (ints 4 (P 1)) := h 1 (by decide)
theorem RA.pa2 (h : PlaceAt w p P) : w.2 (p + 2) = some (ints 8 (P 4)) := h 2 (by decide)
theorem RA.pa3 (h : PlaceAt w p P) : w.2 (p + 3) = some (ints 8 (P 5)) := h 3 (by decide)
theorem RA.pa4 (h : PlaceAt w p P) : w.2 (p + 4) = some (ints 13 (P 8)) := h 4 (by decide)
theorem RA.pa5 (h : PlaceAt w p P) : w.2 (p + 5) = some (ints 13 (P 9)) := h 5 (by decide)
theorem RA.pa6 (h : PlaceAt w p P) : w.2 (p + 6) = some (ints 13 (P 10)) := h 6 (by decide)
theorem RA.pa7 (h : PlaceAt w p P) : w.2 (p + 7) = some (ints 13 (P 11)) := h 7 (by decide)
theorem RA.pa8 (h : PlaceAt w p P) : w.2 (p + 8) = some (ints 13 (P 12)) := h 8 (by decide)
theorem RA.pa9 (h : PlaceAt w p P) : w.2 (p + 9) = some (ints 13 (P 13)) := h 9 (by decide)
theorem pp0 {v : Int32} : wset (ps w p P) p (.inr (2, (pfl p P).set 0 (.int v))) = ps w p (us P 0 v) := by
  unfold ps; refine (wset_rs (k := 0) (by decide) _).trans ?_; congr 1; funext i; match i with
  | 0 => rfl
  | 1 => rfl
  | 2 => rfl
  | 3 => rfl
  | 4 => rfl
  | 5 => rfl
  | 6 => rfl
  | 7 => rfl
  | 8 => rfl
  | 9 => rfl
  | n + 10 => rfl
theorem pp2 {v : Int32} : wset (ps w p P) p (.inr (2, (pfl p P).set 2 (.int v))) = ps w p (us P 2 v) := by
  unfold ps; refine (wset_rs (k := 0) (by decide) _).trans ?_; congr 1; funext i; match i with
  | 0 => rfl
  | 1 => rfl
  | 2 => rfl
  | 3 => rfl
  | 4 => rfl
  | 5 => rfl
  | 6 => rfl
  | 7 => rfl
  | 8 => rfl
  | 9 => rfl
  | n + 10 => rfl
theorem pp3 {v : Int32} : wset (ps w p P) p (.inr (2, (pfl p P).set 3 (.int v))) = ps w p (us P 3 v) := by
  unfold ps; refine (wset_rs (k := 0) (by decide) _).trans ?_; congr 1; funext i; match i with
  | 0 => rfl
  | 1 => rfl
  | 2 => rfl
  | 3 => rfl
  | 4 => rfl
  | 5 => rfl
  | 6 => rfl
  | 7 => rfl
  | 8 => rfl
  | 9 => rfl
  | n + 10 => rfl
theorem pp6 {v : Int32} : wset (ps w p P) p (.inr (2, (pfl p P).set 6 (.int v))) = ps w p (us P 6 v) := by
  unfold ps; refine (wset_rs (k := 0) (by decide) _).trans ?_; congr 1; funext i; match i with
  | 0 => rfl
  | 1 => rfl
  | 2 => rfl
  | 3 => rfl
  | 4 => rfl
  | 5 => rfl
  | 6 => rfl
  | 7 => rfl
  | 8 => rfl
  | 9 => rfl
  | n + 10 => rfl
theorem pp7 {v : Int32} : wset (ps w p P) p (.inr (2, (pfl p P).set 7 (.int v))) = ps w p (us P 7 v) := by
  unfold ps; refine (wset_rs (k := 0) (by decide) _).trans ?_; congr 1; funext i; match i with
  | 0 => rfl
  | 1 => rfl
  | 2 => rfl
  | 3 => rfl
  | 4 => rfl
  | 5 => rfl
  | 6 => rfl
  | 7 => rfl
  | 8 => rfl
  | 9 => rfl
  | n + 10 => rfl
theorem pp14 {v : Int32} : wset (ps w p P) p (.inr (2, (pfl p P).set 14 (.int v))) = ps w p (us P 14 v) := by
  unfold ps; refine (wset_rs (k := 0) (by decide) _).trans ?_; congr 1; funext i; match i with
  | 0 => rfl
  | 1 => rfl
  | 2 => rfl
  | 3 => rfl
  | 4 => rfl
  | 5 => rfl
  | 6 => rfl
  | 7 => rfl
  | 8 => rfl
  | 9 => rfl
  | n + 10 => rfl
theorem pp15 {v : Int32} : wset (ps w p P) p (.inr (2, (pfl p P).set 15 (.int v))) = ps w p (us P 15 v) := by
  unfold ps; refine (wset_rs (k := 0) (by decide) _).trans ?_; congr 1; funext i; match i with
  | 0 => rfl
  | 1 => rfl
  | 2 => rfl
  | 3 => rfl
  | 4 => rfl
  | 5 => rfl
  | 6 => rfl
  | 7 => rfl
  | 8 => rfl
  | 9 => rfl
  | n + 10 => rfl
theorem pp16 {v : Int32} : wset (ps w p P) p (.inr (2, (pfl p P).set 16 (.int v))) = ps w p (us P 16 v) := by
  unfold ps; refine (wset_rs (k := 0) (by decide) _).trans ?_; congr 1; funext i; match i with
  | 0 => rfl
  | 1 => rfl
  | 2 => rfl
  | 3 => rfl
  | 4 => rfl
  | 5 => rfl
  | 6 => rfl
  | 7 => rfl
  | 8 => rfl
  | 9 => rfl
  | n + 10 => rfl
theorem pw1 {f : Nat → Int32} : wset (ps w p P) (p + 1) (ints 4 f) = ps w p (ua P 1 f) := by
  unfold ps; refine (wset_rs (k := 1) (by decide) _).trans ?_; congr 1; funext i; match i with
  | 0 => rfl
  | 1 => rfl
  | 2 => rfl
  | 3 => rfl
  | 4 => rfl
  | 5 => rfl
  | 6 => rfl
  | 7 => rfl
  | 8 => rfl
  | 9 => rfl
  | n + 10 => rfl
theorem pw2 {f : Nat → Int32} : wset (ps w p P) (p + 2) (ints 8 f) = ps w p (ua P 4 f) := by
  unfold ps; refine (wset_rs (k := 2) (by decide) _).trans ?_; congr 1; funext i; match i with
  | 0 => rfl
  | 1 => rfl
  | 2 => rfl
  | 3 => rfl
  | 4 => rfl
  | 5 => rfl
  | 6 => rfl
  | 7 => rfl
  | 8 => rfl
  | 9 => rfl
  | n + 10 => rfl
theorem pw3 {f : Nat → Int32} : wset (ps w p P) (p + 3) (ints 8 f) = ps w p (ua P 5 f) := by
  unfold ps; refine (wset_rs (k := 3) (by decide) _).trans ?_; congr 1; funext i; match i with
  | 0 => rfl
  | 1 => rfl
  | 2 => rfl
  | 3 => rfl
  | 4 => rfl
  | 5 => rfl
  | 6 => rfl
  | 7 => rfl
  | 8 => rfl
  | 9 => rfl
  | n + 10 => rfl
theorem pw4 {f : Nat → Int32} : wset (ps w p P) (p + 4) (ints 13 f) = ps w p (ua P 8 f) := by
  unfold ps; refine (wset_rs (k := 4) (by decide) _).trans ?_; congr 1; funext i; match i with
  | 0 => rfl
  | 1 => rfl
  | 2 => rfl
  | 3 => rfl
  | 4 => rfl
  | 5 => rfl
  | 6 => rfl
  | 7 => rfl
  | 8 => rfl
  | 9 => rfl
  | n + 10 => rfl
theorem pw5 {f : Nat → Int32} : wset (ps w p P) (p + 5) (ints 13 f) = ps w p (ua P 9 f) := by
  unfold ps; refine (wset_rs (k := 5) (by decide) _).trans ?_; congr 1; funext i; match i with
  | 0 => rfl
  | 1 => rfl
  | 2 => rfl
  | 3 => rfl
  | 4 => rfl
  | 5 => rfl
  | 6 => rfl
  | 7 => rfl
  | 8 => rfl
  | 9 => rfl
  | n + 10 => rfl
theorem pw6 {f : Nat → Int32} : wset (ps w p P) (p + 6) (ints 13 f) = ps w p (ua P 10 f) := by
  unfold ps; refine (wset_rs (k := 6) (by decide) _).trans ?_; congr 1; funext i; match i with
  | 0 => rfl
  | 1 => rfl
  | 2 => rfl
  | 3 => rfl
  | 4 => rfl
  | 5 => rfl
  | 6 => rfl
  | 7 => rfl
  | 8 => rfl
  | 9 => rfl
  | n + 10 => rfl
theorem pw7 {f : Nat → Int32} : wset (ps w p P) (p + 7) (ints 13 f) = ps w p (ua P 11 f) := by
  unfold ps; refine (wset_rs (k := 7) (by decide) _).trans ?_; congr 1; funext i; match i with
  | 0 => rfl
  | 1 => rfl
  | 2 => rfl
  | 3 => rfl
  | 4 => rfl
  | 5 => rfl
  | 6 => rfl
  | 7 => rfl
  | 8 => rfl
  | 9 => rfl
  | n + 10 => rfl
theorem pw8 {f : Nat → Int32} : wset (ps w p P) (p + 8) (ints 13 f) = ps w p (ua P 12 f) := by
  unfold ps; refine (wset_rs (k := 8) (by decide) _).trans ?_; congr 1; funext i; match i with
  | 0 => rfl
  | 1 => rfl
  | 2 => rfl
  | 3 => rfl
  | 4 => rfl
  | 5 => rfl
  | 6 => rfl
  | 7 => rfl
  | 8 => rfl
  | 9 => rfl
  | n + 10 => rfl
theorem pw9 {f : Nat → Int32} : wset (ps w p P) (p + 9) (ints 13 f) = ps w p (ua P 13 f) := by
  unfold ps; refine (wset_rs (k := 9) (by decide) _).trans ?_; congr 1; funext i; match i with
  | 0 => rfl
  | 1 => rfl
  | 2 => rfl
  | 3 => rfl
  | 4 => rfl
  | 5 => rfl
  | 6 => rfl
  | 7 => rfl
  | 8 => rfl
  | 9 => rfl
  | n + 10 => rfl
theorem PlaceAt_ps : PlaceAt (ps w p P) p P := RA_rs
theorem ps_ps {P1 : Pl} : ps (ps w p P) p P1 = ps w p P1 := rs_rs
end PS
def jfl (p j : Nat) (J : Pl) : List Value := [.ref p, .ref (j + 1), .ref (j + 2), .int (J 3 0)]
def jcl (p j : Nat) (J : Pl) : Nat → Ce := fun i => match i with
  | 0 => .inr (1, jfl p j J)
  | 1 => ints 4 (J 1)
  | 2 => ints 4 (J 2)
  | _ => .inr (0, [])
abbrev JudgeAt (w : Wd) (p j : Nat) (J : Pl) : Prop := RA w j 3 (jcl p j J)
def js (w : Wd) (p j : Nat) (J : Pl) : Wd := rs w j 3 (jcl p j J)
section JS
variable {w : Wd} {p j : Nat} {J : Pl}
theorem jo : (js w p j J).2 j = some (.inr (1, jfl p j J)) := rs_in (k := 0) (by decide)
theorem ja1 : (js w p j J).2 (j + 1) = some (ints 4 (J 1)) := rs_in (k := 1) (by decide)
theorem ja2 : (js w p j J).2 (j + 2) = some (ints 4 (J 2)) := rs_in (k := 2) (by decide)
theorem jp3 {v : Int32} : wset (js w p j J) j (.inr (1, (jfl p j J).set 3 (.int v))) = js w p j (us J 3 v) := by
  unfold js; refine (wset_rs (k := 0) (by decide) _).trans ?_; congr 1; funext i; match i with
  | 0 => rfl
  | 1 => rfl
  | 2 => rfl
  | n + 3 => rfl
theorem jw1 {f : Nat → Int32} : wset (js w p j J) (j + 1) (ints 4 f) = js w p j (ua J 1 f) := by
  unfold js; refine (wset_rs (k := 1) (by decide) _).trans ?_; congr 1; funext i; match i with
  | 0 => rfl
  | 1 => rfl
  | 2 => rfl
  | n + 3 => rfl
theorem jw2 {f : Nat → Int32} : wset (js w p j J) (j + 2) (ints 4 f) = js w p j (ua J 2 f) := by
  unfold js; refine (wset_rs (k := 2) (by decide) _).trans ?_; congr 1; funext i; match i with
  | 0 => rfl
  | 1 => rfl
  | 2 => rfl
  | n + 3 => rfl
theorem js_js {J1 : Pl} : js (js w p j J) p j J1 = js w p j J1 := rs_rs
theorem JudgeAt_js : JudgeAt (js w p j J) p j J := RA_rs
theorem PlaceAt_js {P : Pl} (h : PlaceAt w p P) (hd : p + 10 ≤ j ∨ j + 3 ≤ p) : PlaceAt (js w p j J) p P := RA.rs h hd
end JS
