/-! new cells behind one another -/
def wb (w : Wd) (p m : Nat) (C : Nat → Ce) : Wd := (p + m, fun q => if p ≤ q ∧ q < p + m then some (C (q - p)) else w.2 q)
theorem cu_self {C : Nat → Ce} {k : Nat} {e : Ce} : cu C k e k = e := by unfold cu; rw [if_pos rfl]
theorem cu_ne {C : Nat → Ce} {k i : Nat} {e : Ce} (h : i ≠ k) : cu C k e i = C i := by unfold cu; rw [if_neg h]
theorem cu_id {C : Nat → Ce} {k : Nat} {e : Ce} (h : C k = e) : cu C k e = C := by
  funext i; unfold cu
  by_cases hi : i = k
  · rw [if_pos hi, hi, h]
  · rw [if_neg hi]
theorem cu_cu {C : Nat → Ce} {k : Nat} {e e' : Ce} : cu (cu C k e) k e' = cu C k e' := by
  funext i; unfold cu
  by_cases hi : i = k
  · rw [if_pos hi, if_pos hi]
  · rw [if_neg hi, if_neg hi, if_neg hi]
theorem cu_comm {C : Nat → Ce} {k j : Nat} {e e' : Ce} (h : k ≠ j) : cu (cu C k e) j e' = cu (cu C j e') k e := by
  funext i; unfold cu
  by_cases hi : i = k
  · rw [if_pos hi, if_neg (by omega), if_pos hi]
  · rw [if_neg hi]
    by_cases hj : i = j
    · rw [if_pos hj, if_neg hi]
    · rw [if_neg hj, if_neg hi]
section WB
variable {w : Wd} {p m k : Nat} {C A : Nat → Ce} {o e : Ce}
theorem wb_in (h : k < m) : (wb w p m C).2 (p + k) = some (C k) := by
  unfold wb; dsimp only
  rw [if_pos ⟨by omega, by omega⟩, show p + k - p = k by omega]
theorem wb_out {q : Nat} (h : q < p ∨ p + m ≤ q) : (wb w p m C).2 q = w.2 q := by
  unfold wb; dsimp only
  rw [if_neg (by omega)]
theorem wb_new : wnew (wb w p m C) e = wb w p (m + 1) (cu C m e) := by
  refine wd_ext rfl fun q => ?_
  show (if q = p + m then some e else (wb w p m C).2 q) = _
  by_cases h : q = p + m
  · rw [if_pos h, h, wb_in (Nat.lt_succ_self m), cu_self]
  · rw [if_neg h]
    by_cases h2 : p ≤ q ∧ q < p + m
    · obtain ⟨j, rfl⟩ : ∃ j, q = p + j := ⟨q - p, by omega⟩
      rw [wb_in (by omega), wb_in (by omega), cu_ne (by omega)]
    · rw [wb_out (by omega), wb_out (by omega)]
theorem wb_set (h : k < m) : wset (wb w p m C) (p + k) e = wb w p m (cu C k e) := by
  refine wd_ext rfl fun q => ?_
  by_cases hq : q = p + k
  · rw [hq, wset_self, wb_in h, cu_self]
  · rw [wset_ne hq]
    by_cases h2 : p ≤ q ∧ q < p + m
    · obtain ⟨j, rfl⟩ : ∃ j, q = p + j := ⟨q - p, by omega⟩
      rw [wb_in (by omega), wb_in (by omega), cu_ne (by omega)]
    · rw [wb_out (by omega), wb_out (by omega)]
theorem wb_o (h : k < m) : (wb w p m (cu A k o)).2 (p + k) = some o := by rw [wb_in h, cu_self]
theorem wb_p (h : k < m) : wset (wb w p m (cu A k o)) (p + k) e = wb w p m (cu A k e) := by rw [wb_set h, cu_cu]
theorem wb_n (h : k < m) : wnew (wb w p m (cu A k o)) e = wb w p (m + 1) (cu (cu A m e) k o) := by rw [wb_new, cu_comm (by omega)]
end WB
section VB
variable {X : CX} {cc : ByteArray} {own : String} {D mcT msT kc ks pc : Nat} {lv : List (Option Value)} {st : List Value} {w : Wd} {p m k : Nat} {A : Nat → Ce} {o : Ce}
theorem V.bai (h : Cx X cc own D mcT msT) {n : Int32} (N m1 pc1 : Nat) (d : decode cc pc = .ok (.newarray .int, 2)) (hp : pc + 2 = pc1) (hm : m + 1 = m1) (hkm : k < m) (hn : ¬ n < 0) (hN : n.toNatClampNeg = N) (hby : N * componentBytes (newarray.typeOf .int) ≤ 536870912) (hkc : kc + 1 ≤ mcT) (hks : ks + N ≤ msT) (kk : V X (kc + 1) (ks + N) pc1 lv (.ref (p + m) :: st) (wb w p m1 (cu (cu A m (.inl (0, N, .inl (fun _ => 0)))) k o))) : V X kc ks pc lv (.int n :: st) (wb w p m (cu A k o)) := by
  subst hm
  refine V.newa h (atype := .int) 0 N (N, .inl (fun _ => 0)) pc1 d hp k119 (fun _ => rfl) (fun _ _ => rfl) (fun _ => rfl) hn hN hby hkc hks ?_
  rw [wb_n hkm]
  exact kk
theorem V.bac (h : Cx X cc own D mcT msT) {n : Int32} (N m1 pc1 : Nat) (d : decode cc pc = .ok (.newarray .char, 2)) (hp : pc + 2 = pc1) (hm : m + 1 = m1) (hkm : k < m) (hn : ¬ n < 0) (hN : n.toNatClampNeg = N) (hby : N * componentBytes (newarray.typeOf .char) ≤ 536870912) (hkc : kc + 1 ≤ mcT) (hks : ks + N ≤ msT) (kk : V X (kc + 1) (ks + N) pc1 lv (.ref (p + m) :: st) (wb w p m1 (cu (cu A m (.inl (2, N, .inl (fun _ => 0)))) k o))) : V X kc ks pc lv (.int n :: st) (wb w p m (cu A k o)) := by
  subst hm
  refine V.newa h (atype := .char) 2 N (N, .inl (fun _ => 0)) pc1 d hp k198 (fun _ => rfl) (fun _ _ => rfl) (fun _ => rfl) hn hN hby hkc hks ?_
  rw [wb_n hkm]
  exact kk
theorem V.bal (h : Cx X cc own D mcT msT) {n : Int32} (N m1 pc1 : Nat) (d : decode cc pc = .ok (.newarray .long, 2)) (hp : pc + 2 = pc1) (hm : m + 1 = m1) (hkm : k < m) (hn : ¬ n < 0) (hN : n.toNatClampNeg = N) (hby : N * componentBytes (newarray.typeOf .long) ≤ 536870912) (hkc : kc + 1 ≤ mcT) (hks : ks + N ≤ msT) (kk : V X (kc + 1) (ks + N) pc1 lv (.ref (p + m) :: st) (wb w p m1 (cu (cu A m (.inl (1, N, .inr (.inl (fun _ => 0))))) k o))) : V X kc ks pc lv (.int n :: st) (wb w p m (cu A k o)) := by
  subst hm
  refine V.newa h (atype := .long) 1 N (N, .inr (.inl (fun _ => 0))) pc1 d hp k222 (fun _ => rfl) (fun _ _ => rfl) (fun _ => rfl) hn hN hby hkc hks ?_
  rw [wb_n hkm]
  exact kk
theorem V.bap (h : Cx X cc own D mcT msT) {index : Nat} {n : Int32} (N m1 pc1 : Nat) (d : decode cc pc = .ok (.anewarray index, 3)) (hp : pc + 3 = pc1) (hm : m + 1 = m1) (hkm : k < m) (hcl : Cond.classLink own index RX2 ∈ GW) (hn : ¬ n < 0) (hN : n.toNatClampNeg = N) (hby : N * 4 ≤ 536870912) (hkc : kc + 1 ≤ mcT) (hks : ks + N ≤ msT) (kk : V X (kc + 1) (ks + N) pc1 lv (.ref (p + m) :: st) (wb w p m1 (cu (cu A m (.inl (3, N, .inr (.inr (.inr (.inr (fun _ => none))))))) k o))) : V X kc ks pc lv (.int n :: st) (wb w p m (cu A k o)) := by
  subst hm
  refine V.anew h N pc1 d hp hcl hn hN hby hkc hks ?_
  rw [wb_n hkm]
  exact kk
def df0 : List Value := [.null, .null]
theorem df0_ok : ∀ j, j < 2 → defaultValue (tyX0 j) = vp_V df0 j := fun j hj => match j, hj with
  | 0, _ => rfl
  | 1, _ => rfl
  | j + 2, hj => absurd hj (by omega)
theorem V.bnX0 (h : Cx X cc own D mcT msT) {index : Nat} (m1 pc1 : Nat) (d : decode cc pc = .ok (.new index, 3)) (hp : pc + 3 = pc1) (hm : m + 1 = m1) (hkm : k < m) (hcl : Cond.classLink own index RX0 ∈ GW) (hkc : kc + 1 ≤ mcT) (hks : ks + 2 ≤ msT) (kk : V X (kc + 1) (ks + 2) pc1 lv (.ref (p + m) :: st) (wb w p m1 (cu (cu A m (.inr (0, df0))) k o))) : V X kc ks pc lv st (wb w p m (cu A k o)) := by
  subst hm
  refine V.new h df0 pc1 d hp inX0 (ci := 0) rfl tyX0_ok hcl k140 k4 df0_ok hkc hks ?_
  rw [wb_n hkm]
  exact kk
def df1 : List Value := [.null, .null, .null, .int 0]
theorem df1_ok : ∀ j, j < 4 → defaultValue (tyX1 j) = vp_V df1 j := fun j hj => match j, hj with
  | 0, _ => rfl
  | 1, _ => rfl
  | 2, _ => rfl
  | 3, _ => rfl
  | j + 4, hj => absurd hj (by omega)
theorem V.bnX1 (h : Cx X cc own D mcT msT) {index : Nat} (m1 pc1 : Nat) (d : decode cc pc = .ok (.new index, 3)) (hp : pc + 3 = pc1) (hm : m + 1 = m1) (hkm : k < m) (hcl : Cond.classLink own index RX1 ∈ GW) (hkc : kc + 1 ≤ mcT) (hks : ks + 4 ≤ msT) (kk : V X (kc + 1) (ks + 4) pc1 lv (.ref (p + m) :: st) (wb w p m1 (cu (cu A m (.inr (1, df1))) k o))) : V X kc ks pc lv st (wb w p m (cu A k o)) := by
  subst hm
  refine V.new h df1 pc1 d hp inX1 (ci := 1) rfl tyX1_ok hcl k121 k3 df1_ok hkc hks ?_
  rw [wb_n hkm]
  exact kk
def df2 : List Value := [.int 0, .null, .int 0, .int 0, .null, .null, .int 0, .int 0, .null, .null, .null, .null, .null, .null, .int 0, .int 0, .int 0]
theorem df2_ok : ∀ j, j < 17 → defaultValue (tyX2 j) = vp_V df2 j := fun j hj => match j, hj with
  | 0, _ => rfl
  | 1, _ => rfl
  | 2, _ => rfl
  | 3, _ => rfl
  | 4, _ => rfl
  | 5, _ => rfl
  | 6, _ => rfl
  | 7, _ => rfl
  | 8, _ => rfl
  | 9, _ => rfl
  | 10, _ => rfl
  | 11, _ => rfl
  | 12, _ => rfl
  | 13, _ => rfl
  | 14, _ => rfl
  | 15, _ => rfl
  | 16, _ => rfl
  | j + 17, hj => absurd hj (by omega)
theorem V.bnX2 (h : Cx X cc own D mcT msT) {index : Nat} (m1 pc1 : Nat) (d : decode cc pc = .ok (.new index, 3)) (hp : pc + 3 = pc1) (hm : m + 1 = m1) (hkm : k < m) (hcl : Cond.classLink own index RX2 ∈ GW) (hkc : kc + 1 ≤ mcT) (hks : ks + 17 ≤ msT) (kk : V X (kc + 1) (ks + 17) pc1 lv (.ref (p + m) :: st) (wb w p m1 (cu (cu A m (.inr (2, df2))) k o))) : V X kc ks pc lv st (wb w p m (cu A k o)) := by
  subst hm
  refine V.new h df2 pc1 d hp inX2 (ci := 2) rfl tyX2_ok hcl k18 k2 df2_ok hkc hks ?_
  rw [wb_n hkm]
  exact kk
def df3 : List Value := [.null, .int 0, .null, .null, .null, .int 0, .int 0, .int 0, .int 0]
theorem df3_ok : ∀ j, j < 9 → defaultValue (tyX3 j) = vp_V df3 j := fun j hj => match j, hj with
  | 0, _ => rfl
  | 1, _ => rfl
  | 2, _ => rfl
  | 3, _ => rfl
  | 4, _ => rfl
  | 5, _ => rfl
  | 6, _ => rfl
  | 7, _ => rfl
  | 8, _ => rfl
  | j + 9, hj => absurd hj (by omega)
theorem V.bnX3 (h : Cx X cc own D mcT msT) {index : Nat} (m1 pc1 : Nat) (d : decode cc pc = .ok (.new index, 3)) (hp : pc + 3 = pc1) (hm : m + 1 = m1) (hkm : k < m) (hcl : Cond.classLink own index RX3 ∈ GW) (hkc : kc + 1 ≤ mcT) (hks : ks + 9 ≤ msT) (kk : V X (kc + 1) (ks + 9) pc1 lv (.ref (p + m) :: st) (wb w p m1 (cu (cu A m (.inr (3, df3))) k o))) : V X kc ks pc lv st (wb w p m (cu A k o)) := by
  subst hm
  refine V.new h df3 pc1 d hp inX3 (ci := 3) rfl tyX3_ok hcl k153 k5 df3_ok hkc hks ?_
  rw [wb_n hkm]
  exact kk
def df4 : List Value := [.null, .null, .null, .null, .null, .int 0, .null]
theorem df4_ok : ∀ j, j < 7 → defaultValue (tyX4 j) = vp_V df4 j := fun j hj => match j, hj with
  | 0, _ => rfl
  | 1, _ => rfl
  | 2, _ => rfl
  | 3, _ => rfl
  | 4, _ => rfl
  | 5, _ => rfl
  | 6, _ => rfl
  | j + 7, hj => absurd hj (by omega)
theorem V.bnX4 (h : Cx X cc own D mcT msT) {index : Nat} (m1 pc1 : Nat) (d : decode cc pc = .ok (.new index, 3)) (hp : pc + 3 = pc1) (hm : m + 1 = m1) (hkm : k < m) (hcl : Cond.classLink own index RX4 ∈ GW) (hkc : kc + 1 ≤ mcT) (hks : ks + 7 ≤ msT) (kk : V X (kc + 1) (ks + 7) pc1 lv (.ref (p + m) :: st) (wb w p m1 (cu (cu A m (.inr (4, df4))) k o))) : V X kc ks pc lv st (wb w p m (cu A k o)) := by
  subst hm
  refine V.new h df4 pc1 d hp inX4 (ci := 4) rfl tyX4_ok hcl k10 k1 df4_ok hkc hks ?_
  rw [wb_n hkm]
  exact kk
def df5 : List Value := [.null, .null, .null, .int 0, .null, .int 0, .int 0, .int 0, .null, .int 0, .int 0, .int 0, .int 0, .int 0, .null]
theorem df5_ok : ∀ j, j < 15 → defaultValue (tyX5 j) = vp_V df5 j := fun j hj => match j, hj with
  | 0, _ => rfl
  | 1, _ => rfl
  | 2, _ => rfl
  | 3, _ => rfl
  | 4, _ => rfl
  | 5, _ => rfl
  | 6, _ => rfl
  | 7, _ => rfl
  | 8, _ => rfl
  | 9, _ => rfl
  | 10, _ => rfl
  | 11, _ => rfl
  | 12, _ => rfl
  | 13, _ => rfl
  | 14, _ => rfl
  | j + 15, hj => absurd hj (by omega)
theorem V.bnX5 (h : Cx X cc own D mcT msT) {index : Nat} (m1 pc1 : Nat) (d : decode cc pc = .ok (.new index, 3)) (hp : pc + 3 = pc1) (hm : m + 1 = m1) (hkm : k < m) (hcl : Cond.classLink own index RX5 ∈ GW) (hkc : kc + 1 ≤ mcT) (hks : ks + 15 ≤ msT) (kk : V X (kc + 1) (ks + 15) pc1 lv (.ref (p + m) :: st) (wb w p m1 (cu (cu A m (.inr (5, df5))) k o))) : V X kc ks pc lv st (wb w p m (cu A k o)) := by
  subst hm
  refine V.new h df5 pc1 d hp inX5 (ci := 5) rfl tyX5_ok hcl k539 k6 df5_ok hkc hks ?_
  rw [wb_n hkm]
  exact kk
theorem V.callIev {y : MethodName} {cy : ByteArray} {mL dd mc ms index b : Nat} {As : List Value} {S : Wd → Prop} {st0 : List Value} (h : Cx X cc own D mcT msT) (pc1 : Nat) (d : decode cc pc = .ok (.invokespecial index, 3)) (hp : pc + 3 = pc1) (hcode : Cond.code y cy mL none ∈ GW) (hlink : Cond.methodLink own index y ∈ GW) (hinst : Cond.instanceMethod y ∈ GW) (hini : Cond.initialized y.cls ∈ GW) (hy1 : y.name = "<init>") (hd : y.cls ≠ "java/lang/invoke/MethodHandle" ∧ y.cls ≠ "java/lang/invoke/VarHandle" ∧ (parseMethodDescriptor y.desc).map (fun d => d.parameters.length) = some As.length) (hroom : dd + 1 ≤ D ∧ mL ≤ 20 ∧ kc + mc ≤ mcT ∧ ks + ms ≤ msT) (hcat : (st.map fun v => v.category).sum ≤ 8) (hC : Con y cy mL none dd mc ms (.ref b :: As) w (RVE S)) (hst : st0 = As.reverse ++ .ref b :: st) (kk : ∀ u, S u → V X (kc + mc) (ks + ms) pc1 lv st u) : V X kc ks pc lv st0 w :=
  V.callI h pc1 d hp hcode hlink hinst hini hy1 hd hroom hcat hC hst (fun v u hv => by rcases hv with ⟨rfl, hv⟩; exact kk _ hv)
theorem V.callINev {y : MethodName} {cy : ByteArray} {mL dd mc ms index b : Nat} {host : String} {As : List Value} {S : Wd → Prop} {st0 : List Value} (h : Cx X cc own D mcT msT) (pc1 : Nat) (d : decode cc pc = .ok (.invokespecial index, 3)) (hp : pc + 3 = pc1) (hcode : Cond.code y cy mL none ∈ GW) (hlink : Cond.methodLinkNest own index y host ∈ lw_tbl) (hinst : Cond.instanceMethod y ∈ GW) (hini : Cond.initialized y.cls ∈ GW) (hy1 : y.name = "<init>") (hd : y.cls ≠ "java/lang/invoke/MethodHandle" ∧ y.cls ≠ "java/lang/invoke/VarHandle" ∧ (parseMethodDescriptor y.desc).map (fun d => d.parameters.length) = some As.length) (hroom : dd + 1 ≤ D ∧ mL ≤ 20 ∧ kc + mc ≤ mcT ∧ ks + ms ≤ msT) (hcat : (st.map fun v => v.category).sum ≤ 8) (hC : Con y cy mL none dd mc ms (.ref b :: As) w (RVE S)) (hst : st0 = As.reverse ++ .ref b :: st) (kk : ∀ u, S u → V X (kc + mc) (ks + ms) pc1 lv st u) : V X kc ks pc lv st0 w :=
  V.callIN h pc1 d hp hcode hlink hinst hini hy1 hd hroom hcat hC hst (fun v u hv => by rcases hv with ⟨rfl, hv⟩; exact kk _ hv)
end VB
