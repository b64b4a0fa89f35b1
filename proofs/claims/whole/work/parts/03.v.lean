/-! worlds: cells by address, with the number of the next one; classes of arrays by a small number: 0 int, 1 long, 2 char, 3 Place -/
abbrev Ce : Type := (Nat × vp_A) ⊕ (Nat × List Value)
abbrev Wd : Type := Nat × (Nat → Option Ce)
abbrev GG : Type := va_G × (Nat → ClassId)
def tysG (g : GG) : List (ClassId × FieldType) := [(g.2 0, .int), (g.2 1, .long), (g.2 2, .char), (g.2 3, .object RX2)]
def ceE (g : GG) (c : Ce) : va_E := match c with
  | .inl x => .inl (g.2 x.1, x.2)
  | .inr x => .inr x
def wR (g : GG) (B : Nat) (w : Wd) (H : Heap) : Prop := H.size = w.1 ∧ B ≤ H.size ∧ ∃ (L : List Nat) (F : Nat → va_E), va_P g.1 vwCl (va_pl L F) H ∧ va_D (fun q => B ≤ q) (va_pl L F) ∧ ∀ a e, w.2 a = some e → a ∈ L ∧ F a = ceE g e
def wset (w : Wd) (a : Nat) (e : Ce) : Wd := (w.1, fun q => if q = a then some e else w.2 q)
def wnew (w : Wd) (e : Ce) : Wd := (w.1 + 1, fun q => if q = w.1 then some e else w.2 q)
def isNest (w : Cond) : Bool := match w with
  | .fieldLinkNest _ _ _ _ _ _ => true
  | .methodLinkNest _ _ _ _ => true
  | _ => false
def kK (g : GG) (U : State) : Prop := va_K g.1 vwCl (tysG g) U ∧ va_AO RX2 U ∧ ∀ w ∈ lw_tbl, isNest w = true → va_Nw w U
theorem kK.moved {g : GG} {s U : State} (hW : s.WarmedH U.vm) (h : kK g s) : kK g U := by
  refine ⟨va_K.moved hW.alike h.1, va_AO.moved hW.alike h.2.1, fun w hw hn => ?_⟩
  have h1 := h.2.2 w hw hn
  cases w with
  | fieldLinkNest a i b n d q => exact va_Nw.warmF hW h1
  | methodLinkNest a i x q => exact va_Nw.warmM hW h1
  | _ => cases hn
theorem kK.same {g : GG} {s U : State} (hv : s.vm = U.vm) (h : kK g s) : kK g U := by
  have ha : s.vm.Alike U.vm := by rw [hv]; exact Vm.Alike.refl U.vm
  refine ⟨va_K.moved ha h.1, va_AO.moved ha h.2.1, fun w hw hn => ?_⟩
  have h1 := h.2.2 w hw hn
  cases w with
  | fieldLinkNest a i b n d q => exact va_Nw.same rfl hv h1
  | methodLinkNest a i x q => exact va_Nw.same rfl hv h1
  | _ => cases hn
theorem wR.at {g : GG} {B : Nat} {w : Wd} {H : Heap} (h : wR g B w H) {a : Nat} {e : Ce} (ha : w.2 a = some e) : ∃ (L : List Nat) (F : Nat → va_E) (k : Nat), va_P g.1 vwCl (va_pl L F) H ∧ va_D (fun q => B ≤ q) (va_pl L F) ∧ (∀ a e, w.2 a = some e → a ∈ L ∧ F a = ceE g e) ∧ a ∈ L ∧ (va_pl L F)[k]? = some (a, ceE g e) := by
  obtain ⟨-, -, L, F, hP, hD, hw⟩ := h
  obtain ⟨hL, hF⟩ := hw a e ha
  obtain ⟨k, hk⟩ := va_pl_get (X := []) (f := F) hL
  exact ⟨L, F, k, hP, hD, hw, hL, by rw [← hF]; exact hk⟩
theorem wR.set {g : GG} {B : Nat} {w : Wd} {H H1 : Heap} (h : wR g B w H) {L : List Nat} {F : Nat → va_E} {k a : Nat} {e e1 : Ce} (hz : H1.size = H.size) (hD : va_D (fun q => B ≤ q) (va_pl L F)) (hw : ∀ a e, w.2 a = some e → a ∈ L ∧ F a = ceE g e) (hL : a ∈ L) (ha : w.2 a = some e) (hk : (va_pl L F)[k]? = some (a, ceE g e)) (hP1 : va_P g.1 vwCl ((va_pl L F).set k (a, ceE g e1)) H1) (hD1 : va_D (fun q => B ≤ q) ((va_pl L F).set k (a, ceE g e1))) : wR g B (wset w a e1) H1 := by
  have hs : (va_pl L F).set k (a, ceE g e1) = va_pl L (va_up F a (ceE g e1)) := va_pl_set (X := []) (A := fun q => B ≤ q) hD hL (by rw [(hw a e ha).2]; exact hk)
  rw [hs] at hP1 hD1
  refine ⟨hz.trans h.1, by rw [hz]; exact h.2.1, L, _, hP1, hD1, fun q c hq => ?_⟩
  unfold wset at hq
  dsimp only at hq
  by_cases hqa : q = a
  · subst hqa
    rw [if_pos rfl] at hq
    cases hq
    exact ⟨hL, va_up_self _ _ _⟩
  · rw [if_neg hqa] at hq
    exact ⟨(hw q c hq).1, by rw [va_up_ne _ _ hqa]; exact (hw q c hq).2⟩
theorem wR.push {g : GG} {B : Nat} {w : Wd} {H H1 : Heap} (h : wR g B w H) {L : List Nat} {F : Nat → va_E} {e1 : Ce} (hz : H1.size = H.size + 1) (hP : va_P g.1 vwCl (va_pl L F) H) (hw : ∀ a e, w.2 a = some e → a ∈ L ∧ F a = ceE g e) (hP1 : va_P g.1 vwCl (va_pl L F ++ [(H.size, ceE g e1)]) H1) (hD1 : va_D (fun q => B ≤ q) (va_pl L F ++ [(H.size, ceE g e1)])) : wR g B (wnew w e1) H1 := by
  have hn : H.size ∉ L := va_pl_fresh (X := []) (D := g.1) (cl := vwCl) (f := F) hP (Nat.le_refl _)
  rw [va_pl_push hn] at hP1 hD1
  refine ⟨by rw [hz, h.1]; rfl, by have := h.2.1; omega, L ++ [H.size], _, hP1, hD1, fun q c hq => ?_⟩
  unfold wnew at hq
  dsimp only at hq
  by_cases hqa : q = w.1
  · rw [if_pos hqa] at hq
    cases hq
    rw [← h.1] at hqa
    subst hqa
    exact ⟨List.mem_append_right _ List.mem_cons_self, va_up_self _ _ _⟩
  · rw [if_neg hqa] at hq
    rw [← h.1] at hqa
    exact ⟨List.mem_append_left _ (hw q c hq).1, by rw [va_up_ne _ _ hqa]; exact (hw q c hq).2⟩
/-! locals: a list, a place each -/
def lvl : Nat → List (Option Value) → List (Nat × Value)
  | _, [] => []
  | i, none :: t => lvl (i + 1) t
  | i, some v :: t => (i, v) :: lvl (i + 1) t
theorem lvl_mem (q : Nat × Value) : ∀ (l : List (Option Value)) (i : Nat), q ∈ lvl i l ↔ ∃ k, l[k]? = some (some q.2) ∧ q.1 = i + k
  | [], i => by simp [lvl]
  | none :: t, i => by
    rw [lvl, lvl_mem q t (i + 1)]
    constructor
    · rintro ⟨k, h1, h2⟩
      exact ⟨k + 1, by simpa using h1, by omega⟩
    · rintro ⟨k, h1, h2⟩
      cases k with
      | zero => simp at h1
      | succ k => exact ⟨k, by simpa using h1, by omega⟩
  | some v :: t, i => by
    rw [lvl, List.mem_cons, lvl_mem q t (i + 1)]
    constructor
    · rintro (h | ⟨k, h1, h2⟩)
      · subst h
        exact ⟨0, rfl, rfl⟩
      · exact ⟨k + 1, by simpa using h1, by omega⟩
    · rintro ⟨k, h1, h2⟩
      cases k with
      | zero =>
        left
        simp at h1
        obtain ⟨a, b⟩ := q
        dsimp only at h1 h2
        subst h1
        subst h2
        rfl
      | succ k => exact Or.inr ⟨k, by simpa using h1, by omega⟩
def LV (ls : Array Slot) (n : Nat) (l : List (Option Value)) : Prop := l.length = n ∧ lv_has ls n (lvl 0 l)
theorem LV.at {ls : Array Slot} {n : Nat} {l : List (Option Value)} (h : LV ls n l) {i : Nat} {v : Value} (hi : l[i]? = some (some v)) : ls[i]? = some (.val v) :=
  h.2.2.2 (i, v) ((lvl_mem _ _ _).mpr ⟨i, hi, (Nat.zero_add i).symm⟩)
def okst (l : List (Option Value)) (i : Nat) : Bool := match i with
  | 0 => true
  | j + 1 => match l[j]? with
    | some (some u) => u.category == 1
    | _ => true
theorem LV.put {ls : Array Slot} {n : Nat} {l : List (Option Value)} {i : Nat} {v : Value} (hlen : l.length = n) (hi : i < l.length) (hc : okst l i = true) (h1 : lv_has ls n ((i, v) :: (lvl 0 l).filter (fun q => !(q.1 == i) && !(q.1 + 1 == i && q.2.category == 2)))) : LV ls n (l.set i (some v)) := by
  refine ⟨by rw [List.length_set]; exact hlen, h1.1, h1.2.1, fun q hq => h1.2.2 q ?_⟩
  obtain ⟨k, e1, e2⟩ := (lvl_mem _ _ _).mp hq
  rw [Nat.zero_add] at e2
  by_cases hk : i = k
  · subst hk
    rw [List.getElem?_set_self hi] at e1
    cases e1
    rw [List.mem_cons]
    left
    obtain ⟨a, b⟩ := q
    dsimp only at e2
    subst e2
    rfl
  · rw [List.getElem?_set_ne hk] at e1
    refine List.mem_cons_of_mem _ (List.mem_filter.mpr ⟨(lvl_mem _ _ _).mpr ⟨k, e1, by omega⟩, ?_⟩)
    have a1 : (q.1 == i) = false := by simp; omega
    have a2 : (q.1 + 1 == i && q.2.category == 2) = false := by
      cases hh : (q.1 + 1 == i) with
      | false => rfl
      | true =>
        have : i = k + 1 := by
          have := eq_of_beq hh
          omega
        subst this
        unfold okst at hc
        dsimp only at hc
        rw [e1] at hc
        dsimp only at hc
        have := eq_of_beq hc
        simp [this]
    rw [a1, a2]
    rfl
/-! the walk of a method: everything fixed in one tuple -/
abbrev CX : Type := Program × Launch × Env × Room × State × MethodId × Array Value × List Frame × Method × Code × GG × Nat × (State → Prop)
abbrev CX.p (X : CX) : Program := X.1
abbrev CX.l (X : CX) : Launch := X.2.1
abbrev CX.e (X : CX) : Env := X.2.2.1
abbrev CX.R (X : CX) : Room := X.2.2.2.1
abbrev CX.s (X : CX) : State := X.2.2.2.2.1
abbrev CX.m (X : CX) : MethodId := X.2.2.2.2.2.1
abbrev CX.args (X : CX) : Array Value := X.2.2.2.2.2.2.1
abbrev CX.below (X : CX) : List Frame := X.2.2.2.2.2.2.2.1
abbrev CX.meth (X : CX) : Method := X.2.2.2.2.2.2.2.2.1
abbrev CX.c (X : CX) : Code := X.2.2.2.2.2.2.2.2.2.1
abbrev CX.g (X : CX) : GG := X.2.2.2.2.2.2.2.2.2.2.1
abbrev CX.B (X : CX) : Nat := X.2.2.2.2.2.2.2.2.2.2.2.1
abbrev CX.Q (X : CX) : State → Prop := X.2.2.2.2.2.2.2.2.2.2.2.2
def V (X : CX) (kc ks pc : Nat) (lv : List (Option Value)) (st : List Value) (w : Wd) : Prop :=
  ∀ (H : Heap) (locs : List Loc) (ls : Array Slot), wR X.g X.B w H → va_S (fun q => X.B ≤ q) X.s.heap H locs → LV ls X.c.maxLocals lv → W X.p X.l X.e X.R X.s X.m X.args X.below X.meth X.c H locs kc ks X.Q (F0 X.m pc ls st)
/-- cc: the bytes; own: the class; D: how many calls deep it may go; mc, ms: the cells and slots that it may make -/
def Cx (X : CX) (cc : ByteArray) (own : String) (D mc ms : Nat) : Prop := X.p.tables.exec = Jvm.exec ∧ X.c.code = cc ∧ X.s.vm.findClass own = some X.m.cls ∧ (∀ w ∈ GW, w.before X.args X.s = true) ∧ kK X.g X.s ∧ X.B ≤ X.s.heap.size ∧ D ≤ X.R.frames ∧ 39 * D ≤ X.R.locals ∧ mc ≤ X.R.cells ∧ ms ≤ X.R.slots

section VR
variable {X : CX} {cc : ByteArray} {own : String} {D mcT msT kc ks pc : Nat} {lv : List (Option Value)} {st : List Value} {w : Wd}
theorem V.iconst (h : Cx X cc own D mcT msT) {n : Int} {v : Int32} (pc1 : Nat) (d : decode cc pc = .ok (.iconst n, 1)) (hp : pc + 1 = pc1) (hv : Int32.ofInt n = v) (k : V X kc ks pc1 lv (.int v :: st) w) : V X kc ks pc lv (st) w := by
  subst hp; intro H locs ls hw hS hl; exact lv_iconst h.1 h.2.1 d hv (k H locs ls hw hS hl)
theorem V.bipush (h : Cx X cc own D mcT msT) {n : Int} {v : Int32} (pc1 : Nat) (d : decode cc pc = .ok (.bipush n, 2)) (hp : pc + 2 = pc1) (hv : (Int8.ofInt n).toInt32 = v) (k : V X kc ks pc1 lv (.int v :: st) w) : V X kc ks pc lv (st) w := by
  subst hp; intro H locs ls hw hS hl; exact lv_bipush h.1 h.2.1 d hv (k H locs ls hw hS hl)
theorem V.sipush (h : Cx X cc own D mcT msT) {n : Int} {v : Int32} (pc1 : Nat) (d : decode cc pc = .ok (.sipush n, 3)) (hp : pc + 3 = pc1) (hv : (Int16.ofInt n).toInt32 = v) (k : V X kc ks pc1 lv (.int v :: st) w) : V X kc ks pc lv (st) w := by
  subst hp; intro H locs ls hw hS hl; exact lv_sipush h.1 h.2.1 d hv (k H locs ls hw hS hl)
theorem V.iadd (h : Cx X cc own D mcT msT) {x y : Int32} (pc1 : Nat) (d : decode cc pc = .ok (.iadd, 1)) (hp : pc + 1 = pc1) (k : V X kc ks pc1 lv (.int (x + y) :: st) w) : V X kc ks pc lv (.int y :: .int x :: st) w := by
  subst hp; intro H locs ls hw hS hl; exact lv_iadd h.1 h.2.1 d (k H locs ls hw hS hl)
theorem V.isub (h : Cx X cc own D mcT msT) {x y : Int32} (pc1 : Nat) (d : decode cc pc = .ok (.isub, 1)) (hp : pc + 1 = pc1) (k : V X kc ks pc1 lv (.int (x - y) :: st) w) : V X kc ks pc lv (.int y :: .int x :: st) w := by
  subst hp; intro H locs ls hw hS hl; exact lv_isub h.1 h.2.1 d (k H locs ls hw hS hl)
theorem V.imul (h : Cx X cc own D mcT msT) {x y : Int32} (pc1 : Nat) (d : decode cc pc = .ok (.imul, 1)) (hp : pc + 1 = pc1) (k : V X kc ks pc1 lv (.int (x * y) :: st) w) : V X kc ks pc lv (.int y :: .int x :: st) w := by
  subst hp; intro H locs ls hw hS hl; exact lv_imul h.1 h.2.1 d (k H locs ls hw hS hl)
theorem V.iand (h : Cx X cc own D mcT msT) {x y : Int32} (pc1 : Nat) (d : decode cc pc = .ok (.iand, 1)) (hp : pc + 1 = pc1) (k : V X kc ks pc1 lv (.int (x &&& y) :: st) w) : V X kc ks pc lv (.int y :: .int x :: st) w := by
  subst hp; intro H locs ls hw hS hl; exact lv_iand h.1 h.2.1 d (k H locs ls hw hS hl)
theorem V.ior (h : Cx X cc own D mcT msT) {x y : Int32} (pc1 : Nat) (d : decode cc pc = .ok (.ior, 1)) (hp : pc + 1 = pc1) (k : V X kc ks pc1 lv (.int (x ||| y) :: st) w) : V X kc ks pc lv (.int y :: .int x :: st) w := by
  subst hp; intro H locs ls hw hS hl; exact lv_ior h.1 h.2.1 d (k H locs ls hw hS hl)
theorem V.ixor (h : Cx X cc own D mcT msT) {x y : Int32} (pc1 : Nat) (d : decode cc pc = .ok (.ixor, 1)) (hp : pc + 1 = pc1) (k : V X kc ks pc1 lv (.int (x ^^^ y) :: st) w) : V X kc ks pc lv (.int y :: .int x :: st) w := by
  subst hp; intro H locs ls hw hS hl; exact lv_ixor h.1 h.2.1 d (k H locs ls hw hS hl)
theorem V.ishl (h : Cx X cc own D mcT msT) {x y : Int32} (pc1 : Nat) (d : decode cc pc = .ok (.ishl, 1)) (hp : pc + 1 = pc1) (k : V X kc ks pc1 lv (.int (x <<< (y &&& 31)) :: st) w) : V X kc ks pc lv (.int y :: .int x :: st) w := by
  subst hp; intro H locs ls hw hS hl; exact lv_ishl h.1 h.2.1 d (k H locs ls hw hS hl)
theorem V.ishr (h : Cx X cc own D mcT msT) {x y : Int32} (pc1 : Nat) (d : decode cc pc = .ok (.ishr, 1)) (hp : pc + 1 = pc1) (k : V X kc ks pc1 lv (.int (x >>> (y &&& 31)) :: st) w) : V X kc ks pc lv (.int y :: .int x :: st) w := by
  subst hp; intro H locs ls hw hS hl; exact lv_ishr h.1 h.2.1 d (k H locs ls hw hS hl)
theorem V.iushr (h : Cx X cc own D mcT msT) {x y : Int32} (pc1 : Nat) (d : decode cc pc = .ok (.iushr, 1)) (hp : pc + 1 = pc1) (k : V X kc ks pc1 lv (.int ((x.toUInt32 >>> (y.toUInt32 &&& Int32.toUInt32 31)).toInt32) :: st) w) : V X kc ks pc lv (.int y :: .int x :: st) w := by
  subst hp; intro H locs ls hw hS hl; exact lv_iushr h.1 h.2.1 d rfl (k H locs ls hw hS hl)
theorem V.i2l (h : Cx X cc own D mcT msT) {x : Int32} (pc1 : Nat) (d : decode cc pc = .ok (.i2l, 1)) (hp : pc + 1 = pc1) (k : V X kc ks pc1 lv (.long x.toInt64 :: st) w) : V X kc ks pc lv (.int x :: st) w := by
  subst hp; intro H locs ls hw hS hl; exact lv_i2l h.1 h.2.1 d rfl (k H locs ls hw hS hl)
theorem V.i2c (h : Cx X cc own D mcT msT) {x : Int32} (pc1 : Nat) (d : decode cc pc = .ok (.i2c, 1)) (hp : pc + 1 = pc1) (k : V X kc ks pc1 lv (.int (x.toUInt32 % 65536).toInt32 :: st) w) : V X kc ks pc lv (.int x :: st) w := by
  subst hp; intro H locs ls hw hS hl; exact lv_i2c h.1 h.2.1 d rfl (k H locs ls hw hS hl)
theorem V.ladd (h : Cx X cc own D mcT msT) {x y : Int64} (pc1 : Nat) (d : decode cc pc = .ok (.ladd, 1)) (hp : pc + 1 = pc1) (k : V X kc ks pc1 lv (.long (x + y) :: st) w) : V X kc ks pc lv (.long y :: .long x :: st) w := by
  subst hp; intro H locs ls hw hS hl; exact lv_ladd h.1 h.2.1 d (k H locs ls hw hS hl)
theorem V.lmul (h : Cx X cc own D mcT msT) {x y : Int64} (pc1 : Nat) (d : decode cc pc = .ok (.lmul, 1)) (hp : pc + 1 = pc1) (k : V X kc ks pc1 lv (.long (x * y) :: st) w) : V X kc ks pc lv (.long y :: .long x :: st) w := by
  subst hp; intro H locs ls hw hS hl; exact lv_lmul h.1 h.2.1 d (k H locs ls hw hS hl)
theorem V.lor (h : Cx X cc own D mcT msT) {x y : Int64} (pc1 : Nat) (d : decode cc pc = .ok (.lor, 1)) (hp : pc + 1 = pc1) (k : V X kc ks pc1 lv (.long (x ||| y) :: st) w) : V X kc ks pc lv (.long y :: .long x :: st) w := by
  subst hp; intro H locs ls hw hS hl; exact lv_lor h.1 h.2.1 d (k H locs ls hw hS hl)
theorem V.lshl (h : Cx X cc own D mcT msT) {x : Int64} {y : Int32} (pc1 : Nat) (d : decode cc pc = .ok (.lshl, 1)) (hp : pc + 1 = pc1) (k : V X kc ks pc1 lv (.long (x <<< (y.toInt64 &&& 63)) :: st) w) : V X kc ks pc lv (.int y :: .long x :: st) w := by
  subst hp; intro H locs ls hw hS hl; exact lv_lshl h.1 h.2.1 d rfl (k H locs ls hw hS hl)
theorem V.lcmp (h : Cx X cc own D mcT msT) {x y : Int64} (pc1 : Nat) (d : decode cc pc = .ok (.lcmp, 1)) (hp : pc + 1 = pc1) (k : V X kc ks pc1 lv (.int (lg_cmp x y) :: st) w) : V X kc ks pc lv (.long y :: .long x :: st) w := by
  subst hp; intro H locs ls hw hS hl; exact W.lcmp h.1 h.2.1 d (k H locs ls hw hS hl)
theorem V.dup (h : Cx X cc own D mcT msT) {v : Value} (pc1 : Nat) (d : decode cc pc = .ok (.dup, 1)) (hp : pc + 1 = pc1) (hv : v.category = 1) (k : V X kc ks pc1 lv (v :: v :: st) w) : V X kc ks pc lv (v :: st) w := by
  subst hp; intro H locs ls hw hS hl; exact lv_dup h.1 h.2.1 d hv (k H locs ls hw hS hl)
theorem V.dup2 (h : Cx X cc own D mcT msT) {a b : Value} (pc1 : Nat) (d : decode cc pc = .ok (.dup2, 1)) (hp : pc + 1 = pc1) (ha : a.category = 1) (hb : b.category = 1) (k : V X kc ks pc1 lv (a :: b :: a :: b :: st) w) : V X kc ks pc lv (a :: b :: st) w := by
  subst hp; intro H locs ls hw hS hl; exact lv_dup2_11 h.1 h.2.1 d ha hb (k H locs ls hw hS hl)
theorem V.ldc2 (h : Cx X cc own D mcT msT) {index : Nat} {v : Int64} (pc1 : Nat) (d : decode cc pc = .ok (.ldc2_w index, 3)) (hp : pc + 3 = pc1) (hv : Cond.constantLong own index v ∈ GW) (k : V X kc ks pc1 lv (.long v :: st) w) : V X kc ks pc lv (st) w := by
  subst hp; intro H locs ls hw hS hl; exact lv_ldc2 h.1 h.2.1 h.2.2.1 (h.2.2.2.1 _ hv) d (k H locs ls hw hS hl)
theorem V.ldcw (h : Cx X cc own D mcT msT) {index : Nat} {v : Int32} (pc1 : Nat) (d : decode cc pc = .ok (.ldc_w index, 3)) (hp : pc + 3 = pc1) (hv : Cond.constant own index v ∈ GW) (k : V X kc ks pc1 lv (.int v :: st) w) : V X kc ks pc lv (st) w := by
  subst hp; intro H locs ls hw hS hl; exact lv_ldcw h.1 h.2.1 h.2.2.1 (h.2.2.2.1 _ hv) d (k H locs ls hw hS hl)
theorem V.goto (h : Cx X cc own D mcT msT) {off : Int} (tgt : Nat) (d : decode cc pc = .ok (.goto off, 3)) (ht : (pc : Int) + off = (tgt : Int)) (k : V X kc ks tgt lv st w) : V X kc ks pc lv st w := by
  intro H locs ls hw hS hl; exact lv_goto h.1 h.2.1 d ht (k H locs ls hw hS hl)
theorem V.if_eq (h : Cx X cc own D mcT msT) {x : Int32} {off : Int} (tgt pc1 : Nat) (d : decode cc pc = .ok (.ifCond .eq off, 3)) (ht : (pc : Int) + off = (tgt : Int)) (hp : pc + 3 = pc1) (kt : x = 0 → V X kc ks tgt lv st w) (kf : ¬ x = 0 → V X kc ks pc1 lv st w) : V X kc ks pc lv (.int x :: st) w := by
  subst hp; intro H locs ls hw hS hl; exact lv_if_eq h.1 h.2.1 d ht (fun q => kt q H locs ls hw hS hl) (fun q => kf q H locs ls hw hS hl)
theorem V.if_ne (h : Cx X cc own D mcT msT) {x : Int32} {off : Int} (tgt pc1 : Nat) (d : decode cc pc = .ok (.ifCond .ne off, 3)) (ht : (pc : Int) + off = (tgt : Int)) (hp : pc + 3 = pc1) (kt : ¬ x = 0 → V X kc ks tgt lv st w) (kf : x = 0 → V X kc ks pc1 lv st w) : V X kc ks pc lv (.int x :: st) w := by
  subst hp; intro H locs ls hw hS hl; exact lv_if_ne h.1 h.2.1 d ht (fun q => kt q H locs ls hw hS hl) (fun q => kf q H locs ls hw hS hl)
theorem V.if_lt (h : Cx X cc own D mcT msT) {x : Int32} {off : Int} (tgt pc1 : Nat) (d : decode cc pc = .ok (.ifCond .lt off, 3)) (ht : (pc : Int) + off = (tgt : Int)) (hp : pc + 3 = pc1) (kt : x < 0 → V X kc ks tgt lv st w) (kf : ¬ x < 0 → V X kc ks pc1 lv st w) : V X kc ks pc lv (.int x :: st) w := by
  subst hp; intro H locs ls hw hS hl; exact lv_if_lt h.1 h.2.1 d ht (fun q => kt q H locs ls hw hS hl) (fun q => kf q H locs ls hw hS hl)
theorem V.if_ge (h : Cx X cc own D mcT msT) {x : Int32} {off : Int} (tgt pc1 : Nat) (d : decode cc pc = .ok (.ifCond .ge off, 3)) (ht : (pc : Int) + off = (tgt : Int)) (hp : pc + 3 = pc1) (kt : 0 ≤ x → V X kc ks tgt lv st w) (kf : ¬ 0 ≤ x → V X kc ks pc1 lv st w) : V X kc ks pc lv (.int x :: st) w := by
  subst hp; intro H locs ls hw hS hl; exact lv_if_ge h.1 h.2.1 d ht (fun q => kt q H locs ls hw hS hl) (fun q => kf q H locs ls hw hS hl)
theorem V.if_gt (h : Cx X cc own D mcT msT) {x : Int32} {off : Int} (tgt pc1 : Nat) (d : decode cc pc = .ok (.ifCond .gt off, 3)) (ht : (pc : Int) + off = (tgt : Int)) (hp : pc + 3 = pc1) (kt : 0 < x → V X kc ks tgt lv st w) (kf : ¬ 0 < x → V X kc ks pc1 lv st w) : V X kc ks pc lv (.int x :: st) w := by
  subst hp; intro H locs ls hw hS hl; exact lv_if_gt h.1 h.2.1 d ht (fun q => kt q H locs ls hw hS hl) (fun q => kf q H locs ls hw hS hl)
theorem V.if_le (h : Cx X cc own D mcT msT) {x : Int32} {off : Int} (tgt pc1 : Nat) (d : decode cc pc = .ok (.ifCond .le off, 3)) (ht : (pc : Int) + off = (tgt : Int)) (hp : pc + 3 = pc1) (kt : x ≤ 0 → V X kc ks tgt lv st w) (kf : ¬ x ≤ 0 → V X kc ks pc1 lv st w) : V X kc ks pc lv (.int x :: st) w := by
  subst hp; intro H locs ls hw hS hl; exact lv_if_le h.1 h.2.1 d ht (fun q => kt q H locs ls hw hS hl) (fun q => kf q H locs ls hw hS hl)
theorem V.icmp_eq (h : Cx X cc own D mcT msT) {x y : Int32} {off : Int} (tgt pc1 : Nat) (d : decode cc pc = .ok (.if_icmp .eq off, 3)) (ht : (pc : Int) + off = (tgt : Int)) (hp : pc + 3 = pc1) (kt : x = y → V X kc ks tgt lv st w) (kf : ¬ x = y → V X kc ks pc1 lv st w) : V X kc ks pc lv (.int y :: .int x :: st) w := by
  subst hp; intro H locs ls hw hS hl; exact lv_icmp_eq h.1 h.2.1 d ht (fun q => kt q H locs ls hw hS hl) (fun q => kf q H locs ls hw hS hl)
theorem V.icmp_ne (h : Cx X cc own D mcT msT) {x y : Int32} {off : Int} (tgt pc1 : Nat) (d : decode cc pc = .ok (.if_icmp .ne off, 3)) (ht : (pc : Int) + off = (tgt : Int)) (hp : pc + 3 = pc1) (kt : ¬ x = y → V X kc ks tgt lv st w) (kf : x = y → V X kc ks pc1 lv st w) : V X kc ks pc lv (.int y :: .int x :: st) w := by
  subst hp; intro H locs ls hw hS hl; exact lv_icmp_ne h.1 h.2.1 d ht (fun q => kt q H locs ls hw hS hl) (fun q => kf q H locs ls hw hS hl)
theorem V.icmp_lt (h : Cx X cc own D mcT msT) {x y : Int32} {off : Int} (tgt pc1 : Nat) (d : decode cc pc = .ok (.if_icmp .lt off, 3)) (ht : (pc : Int) + off = (tgt : Int)) (hp : pc + 3 = pc1) (kt : x < y → V X kc ks tgt lv st w) (kf : ¬ x < y → V X kc ks pc1 lv st w) : V X kc ks pc lv (.int y :: .int x :: st) w := by
  subst hp; intro H locs ls hw hS hl; exact lv_icmp_lt h.1 h.2.1 d ht (fun q => kt q H locs ls hw hS hl) (fun q => kf q H locs ls hw hS hl)
theorem V.icmp_ge (h : Cx X cc own D mcT msT) {x y : Int32} {off : Int} (tgt pc1 : Nat) (d : decode cc pc = .ok (.if_icmp .ge off, 3)) (ht : (pc : Int) + off = (tgt : Int)) (hp : pc + 3 = pc1) (kt : y ≤ x → V X kc ks tgt lv st w) (kf : ¬ y ≤ x → V X kc ks pc1 lv st w) : V X kc ks pc lv (.int y :: .int x :: st) w := by
  subst hp; intro H locs ls hw hS hl; exact lv_icmp_ge h.1 h.2.1 d ht (fun q => kt q H locs ls hw hS hl) (fun q => kf q H locs ls hw hS hl)
theorem V.icmp_gt (h : Cx X cc own D mcT msT) {x y : Int32} {off : Int} (tgt pc1 : Nat) (d : decode cc pc = .ok (.if_icmp .gt off, 3)) (ht : (pc : Int) + off = (tgt : Int)) (hp : pc + 3 = pc1) (kt : y < x → V X kc ks tgt lv st w) (kf : ¬ y < x → V X kc ks pc1 lv st w) : V X kc ks pc lv (.int y :: .int x :: st) w := by
  subst hp; intro H locs ls hw hS hl; exact lv_icmp_gt h.1 h.2.1 d ht (fun q => kt q H locs ls hw hS hl) (fun q => kf q H locs ls hw hS hl)
theorem V.icmp_le (h : Cx X cc own D mcT msT) {x y : Int32} {off : Int} (tgt pc1 : Nat) (d : decode cc pc = .ok (.if_icmp .le off, 3)) (ht : (pc : Int) + off = (tgt : Int)) (hp : pc + 3 = pc1) (kt : x ≤ y → V X kc ks tgt lv st w) (kf : ¬ x ≤ y → V X kc ks pc1 lv st w) : V X kc ks pc lv (.int y :: .int x :: st) w := by
  subst hp; intro H locs ls hw hS hl; exact lv_icmp_le h.1 h.2.1 d ht (fun q => kt q H locs ls hw hS hl) (fun q => kf q H locs ls hw hS hl)
theorem V.tcase (h : Cx X cc own D mcT msT) {x : Int32} {dflt lo hi off : Int} {offs : Array Int} {len : Nat} (c : Int32) (tgt : Nat) (d : decode cc pc = .ok (.tableswitch dflt lo hi offs, len)) (h1 : lo ≤ c.toInt ∧ c.toInt ≤ hi) (ho : offs[(c.toInt - lo).toNat]? = some off) (ht : (pc : Int) + off = (tgt : Int)) (kt : x = c → V X kc ks tgt lv st w) (kf : ¬ x = c → V X kc ks pc lv (.int x :: st) w) : V X kc ks pc lv (.int x :: st) w := by
  by_cases hx : x = c
  · intro H locs ls hw hS hl
    subst hx
    exact lv_tableIn h.1 h.2.1 d (by omega) (by omega) ho ht (kt rfl H locs ls hw hS hl)
  · exact kf hx
theorem V.tdflt (h : Cx X cc own D mcT msT) {x : Int32} {dflt lo hi : Int} {offs : Array Int} {len : Nat} (tgt : Nat) (d : decode cc pc = .ok (.tableswitch dflt lo hi offs, len)) (ho : x.toInt < lo ∨ hi < x.toInt) (ht : (pc : Int) + dflt = (tgt : Int)) (k : V X kc ks tgt lv st w) : V X kc ks pc lv (.int x :: st) w := by
  intro H locs ls hw hS hl
  exact lv_tableOut h.1 h.2.1 d ho ht (k H locs ls hw hS hl)
theorem V.lcase (h : Cx X cc own D mcT msT) {x : Int32} {dflt off : Int} {ps : Array (Int × Int)} {len : Nat} (c : Int32) (tgt : Nat) (d : decode cc pc = .ok (.lookupswitch dflt ps, len)) (hp : (ps.toList.zip (ps.toList.drop 1)).all (fun (a, next) => a.1 < next.1) = true) (ho : Op.lookupswitch.offset ps.toList dflt c.toInt = off) (ht : (pc : Int) + off = (tgt : Int)) (kt : x = c → V X kc ks tgt lv st w) (kf : ¬ x = c → V X kc ks pc lv (.int x :: st) w) : V X kc ks pc lv (.int x :: st) w := by
  by_cases hx : x = c
  · intro H locs ls hw hS hl
    subst hx
    exact lv_lookup h.1 h.2.1 d hp ho ht (kt rfl H locs ls hw hS hl)
  · exact kf hx
theorem V.ldflt (h : Cx X cc own D mcT msT) {x : Int32} {dflt : Int} {ps : Array (Int × Int)} {len : Nat} (tgt : Nat) (d : decode cc pc = .ok (.lookupswitch dflt ps, len)) (hp : (ps.toList.zip (ps.toList.drop 1)).all (fun (a, next) => a.1 < next.1) = true) (ho : Op.lookupswitch.offset ps.toList dflt x.toInt = dflt) (ht : (pc : Int) + dflt = (tgt : Int)) (k : V X kc ks tgt lv st w) : V X kc ks pc lv (.int x :: st) w := by
  intro H locs ls hw hS hl
  exact lv_lookup h.1 h.2.1 d hp ho ht (k H locs ls hw hS hl)
theorem V.iload0 (h : Cx X cc own D mcT msT) {t : List (Option Value)} {x : Int32} (pc1 : Nat) (d : decode cc pc = .ok (.iload_n 0, 1)) (hp : pc + 1 = pc1) (k : V X kc ks pc1 (some (.int x) :: t) (.int x :: st) w) : V X kc ks pc (some (.int x) :: t) st w := by
  subst hp; intro H locs ls hw hS hl; exact lv_iload_n h.1 h.2.1 d rfl (hl.at rfl) (k H locs ls hw hS hl)
theorem V.aload0 (h : Cx X cc own D mcT msT) {t : List (Option Value)} {x : Nat} (pc1 : Nat) (d : decode cc pc = .ok (.aload_n 0, 1)) (hp : pc + 1 = pc1) (k : V X kc ks pc1 (some (.ref x) :: t) (.ref x :: st) w) : V X kc ks pc (some (.ref x) :: t) st w := by
  subst hp; intro H locs ls hw hS hl; exact lv_aload_n h.1 h.2.1 d rfl (hl.at rfl) (k H locs ls hw hS hl)
theorem V.istore0 (h : Cx X cc own D mcT msT) {t : List (Option Value)} {y : Option Value} {x : Int32} (pc1 : Nat) (d : decode cc pc = .ok (.istore_n 0, 1)) (hp : pc + 1 = pc1) (hc : okst (y :: t) 0 = true) (k : V X kc ks pc1 (some (.int x) :: t) st w) : V X kc ks pc (y :: t) (.int x :: st) w := by
  subst hp; intro H locs ls hw hS hl
  have hn : 0 < (y :: t).length := by simp only [List.length_cons]; omega
  exact lv_istore_n h.1 h.2.1 d rfl hl.2 (by rw [← hl.1]; exact hn) rfl (fun ls1 h1 => k H locs ls1 hw hS (LV.put hl.1 hn hc h1))
theorem V.astore0 (h : Cx X cc own D mcT msT) {t : List (Option Value)} {y : Option Value} {x : Nat} (pc1 : Nat) (d : decode cc pc = .ok (.astore_n 0, 1)) (hp : pc + 1 = pc1) (hc : okst (y :: t) 0 = true) (k : V X kc ks pc1 (some (.ref x) :: t) st w) : V X kc ks pc (y :: t) (.ref x :: st) w := by
  subst hp; intro H locs ls hw hS hl
  have hn : 0 < (y :: t).length := by simp only [List.length_cons]; omega
  exact lv_astore_n h.1 h.2.1 d rfl hl.2 (by rw [← hl.1]; exact hn) rfl (fun ls1 h1 => k H locs ls1 hw hS (LV.put hl.1 hn hc h1))
theorem V.iload1 (h : Cx X cc own D mcT msT) {u0 : Option Value} {t : List (Option Value)} {x : Int32} (pc1 : Nat) (d : decode cc pc = .ok (.iload_n 1, 1)) (hp : pc + 1 = pc1) (k : V X kc ks pc1 (u0 :: some (.int x) :: t) (.int x :: st) w) : V X kc ks pc (u0 :: some (.int x) :: t) st w := by
  subst hp; intro H locs ls hw hS hl; exact lv_iload_n h.1 h.2.1 d rfl (hl.at rfl) (k H locs ls hw hS hl)
theorem V.aload1 (h : Cx X cc own D mcT msT) {u0 : Option Value} {t : List (Option Value)} {x : Nat} (pc1 : Nat) (d : decode cc pc = .ok (.aload_n 1, 1)) (hp : pc + 1 = pc1) (k : V X kc ks pc1 (u0 :: some (.ref x) :: t) (.ref x :: st) w) : V X kc ks pc (u0 :: some (.ref x) :: t) st w := by
  subst hp; intro H locs ls hw hS hl; exact lv_aload_n h.1 h.2.1 d rfl (hl.at rfl) (k H locs ls hw hS hl)
theorem V.istore1 (h : Cx X cc own D mcT msT) {u0 : Option Value} {t : List (Option Value)} {y : Option Value} {x : Int32} (pc1 : Nat) (d : decode cc pc = .ok (.istore_n 1, 1)) (hp : pc + 1 = pc1) (hc : okst (u0 :: y :: t) 1 = true) (k : V X kc ks pc1 (u0 :: some (.int x) :: t) st w) : V X kc ks pc (u0 :: y :: t) (.int x :: st) w := by
  subst hp; intro H locs ls hw hS hl
  have hn : 1 < (u0 :: y :: t).length := by simp only [List.length_cons]; omega
  exact lv_istore_n h.1 h.2.1 d rfl hl.2 (by rw [← hl.1]; exact hn) rfl (fun ls1 h1 => k H locs ls1 hw hS (LV.put hl.1 hn hc h1))
theorem V.astore1 (h : Cx X cc own D mcT msT) {u0 : Option Value} {t : List (Option Value)} {y : Option Value} {x : Nat} (pc1 : Nat) (d : decode cc pc = .ok (.astore_n 1, 1)) (hp : pc + 1 = pc1) (hc : okst (u0 :: y :: t) 1 = true) (k : V X kc ks pc1 (u0 :: some (.ref x) :: t) st w) : V X kc ks pc (u0 :: y :: t) (.ref x :: st) w := by
  subst hp; intro H locs ls hw hS hl
  have hn : 1 < (u0 :: y :: t).length := by simp only [List.length_cons]; omega
  exact lv_astore_n h.1 h.2.1 d rfl hl.2 (by rw [← hl.1]; exact hn) rfl (fun ls1 h1 => k H locs ls1 hw hS (LV.put hl.1 hn hc h1))
theorem V.iload2 (h : Cx X cc own D mcT msT) {u0 u1 : Option Value} {t : List (Option Value)} {x : Int32} (pc1 : Nat) (d : decode cc pc = .ok (.iload_n 2, 1)) (hp : pc + 1 = pc1) (k : V X kc ks pc1 (u0 :: u1 :: some (.int x) :: t) (.int x :: st) w) : V X kc ks pc (u0 :: u1 :: some (.int x) :: t) st w := by
  subst hp; intro H locs ls hw hS hl; exact lv_iload_n h.1 h.2.1 d rfl (hl.at rfl) (k H locs ls hw hS hl)
theorem V.aload2 (h : Cx X cc own D mcT msT) {u0 u1 : Option Value} {t : List (Option Value)} {x : Nat} (pc1 : Nat) (d : decode cc pc = .ok (.aload_n 2, 1)) (hp : pc + 1 = pc1) (k : V X kc ks pc1 (u0 :: u1 :: some (.ref x) :: t) (.ref x :: st) w) : V X kc ks pc (u0 :: u1 :: some (.ref x) :: t) st w := by
  subst hp; intro H locs ls hw hS hl; exact lv_aload_n h.1 h.2.1 d rfl (hl.at rfl) (k H locs ls hw hS hl)
theorem V.istore2 (h : Cx X cc own D mcT msT) {u0 u1 : Option Value} {t : List (Option Value)} {y : Option Value} {x : Int32} (pc1 : Nat) (d : decode cc pc = .ok (.istore_n 2, 1)) (hp : pc + 1 = pc1) (hc : okst (u0 :: u1 :: y :: t) 2 = true) (k : V X kc ks pc1 (u0 :: u1 :: some (.int x) :: t) st w) : V X kc ks pc (u0 :: u1 :: y :: t) (.int x :: st) w := by
  subst hp; intro H locs ls hw hS hl
  have hn : 2 < (u0 :: u1 :: y :: t).length := by simp only [List.length_cons]; omega
  exact lv_istore_n h.1 h.2.1 d rfl hl.2 (by rw [← hl.1]; exact hn) rfl (fun ls1 h1 => k H locs ls1 hw hS (LV.put hl.1 hn hc h1))
theorem V.astore2 (h : Cx X cc own D mcT msT) {u0 u1 : Option Value} {t : List (Option Value)} {y : Option Value} {x : Nat} (pc1 : Nat) (d : decode cc pc = .ok (.astore_n 2, 1)) (hp : pc + 1 = pc1) (hc : okst (u0 :: u1 :: y :: t) 2 = true) (k : V X kc ks pc1 (u0 :: u1 :: some (.ref x) :: t) st w) : V X kc ks pc (u0 :: u1 :: y :: t) (.ref x :: st) w := by
  subst hp; intro H locs ls hw hS hl
  have hn : 2 < (u0 :: u1 :: y :: t).length := by simp only [List.length_cons]; omega
  exact lv_astore_n h.1 h.2.1 d rfl hl.2 (by rw [← hl.1]; exact hn) rfl (fun ls1 h1 => k H locs ls1 hw hS (LV.put hl.1 hn hc h1))
theorem V.iload3 (h : Cx X cc own D mcT msT) {u0 u1 u2 : Option Value} {t : List (Option Value)} {x : Int32} (pc1 : Nat) (d : decode cc pc = .ok (.iload_n 3, 1)) (hp : pc + 1 = pc1) (k : V X kc ks pc1 (u0 :: u1 :: u2 :: some (.int x) :: t) (.int x :: st) w) : V X kc ks pc (u0 :: u1 :: u2 :: some (.int x) :: t) st w := by
  subst hp; intro H locs ls hw hS hl; exact lv_iload_n h.1 h.2.1 d rfl (hl.at rfl) (k H locs ls hw hS hl)
theorem V.aload3 (h : Cx X cc own D mcT msT) {u0 u1 u2 : Option Value} {t : List (Option Value)} {x : Nat} (pc1 : Nat) (d : decode cc pc = .ok (.aload_n 3, 1)) (hp : pc + 1 = pc1) (k : V X kc ks pc1 (u0 :: u1 :: u2 :: some (.ref x) :: t) (.ref x :: st) w) : V X kc ks pc (u0 :: u1 :: u2 :: some (.ref x) :: t) st w := by
  subst hp; intro H locs ls hw hS hl; exact lv_aload_n h.1 h.2.1 d rfl (hl.at rfl) (k H locs ls hw hS hl)
theorem V.istore3 (h : Cx X cc own D mcT msT) {u0 u1 u2 : Option Value} {t : List (Option Value)} {y : Option Value} {x : Int32} (pc1 : Nat) (d : decode cc pc = .ok (.istore_n 3, 1)) (hp : pc + 1 = pc1) (hc : okst (u0 :: u1 :: u2 :: y :: t) 3 = true) (k : V X kc ks pc1 (u0 :: u1 :: u2 :: some (.int x) :: t) st w) : V X kc ks pc (u0 :: u1 :: u2 :: y :: t) (.int x :: st) w := by
  subst hp; intro H locs ls hw hS hl
  have hn : 3 < (u0 :: u1 :: u2 :: y :: t).length := by simp only [List.length_cons]; omega
  exact lv_istore_n h.1 h.2.1 d rfl hl.2 (by rw [← hl.1]; exact hn) rfl (fun ls1 h1 => k H locs ls1 hw hS (LV.put hl.1 hn hc h1))
theorem V.astore3 (h : Cx X cc own D mcT msT) {u0 u1 u2 : Option Value} {t : List (Option Value)} {y : Option Value} {x : Nat} (pc1 : Nat) (d : decode cc pc = .ok (.astore_n 3, 1)) (hp : pc + 1 = pc1) (hc : okst (u0 :: u1 :: u2 :: y :: t) 3 = true) (k : V X kc ks pc1 (u0 :: u1 :: u2 :: some (.ref x) :: t) st w) : V X kc ks pc (u0 :: u1 :: u2 :: y :: t) (.ref x :: st) w := by
  subst hp; intro H locs ls hw hS hl
  have hn : 3 < (u0 :: u1 :: u2 :: y :: t).length := by simp only [List.length_cons]; omega
  exact lv_astore_n h.1 h.2.1 d rfl hl.2 (by rw [← hl.1]; exact hn) rfl (fun ls1 h1 => k H locs ls1 hw hS (LV.put hl.1 hn hc h1))
theorem V.iload4 (h : Cx X cc own D mcT msT) {u0 u1 u2 u3 : Option Value} {t : List (Option Value)} {x : Int32} (pc1 : Nat) (d : decode cc pc = .ok (.iload 4, 2)) (hp : pc + 2 = pc1) (k : V X kc ks pc1 (u0 :: u1 :: u2 :: u3 :: some (.int x) :: t) (.int x :: st) w) : V X kc ks pc (u0 :: u1 :: u2 :: u3 :: some (.int x) :: t) st w := by
  subst hp; intro H locs ls hw hS hl; exact lv_iload h.1 h.2.1 d (hl.at rfl) (k H locs ls hw hS hl)
theorem V.aload4 (h : Cx X cc own D mcT msT) {u0 u1 u2 u3 : Option Value} {t : List (Option Value)} {x : Nat} (pc1 : Nat) (d : decode cc pc = .ok (.aload 4, 2)) (hp : pc + 2 = pc1) (k : V X kc ks pc1 (u0 :: u1 :: u2 :: u3 :: some (.ref x) :: t) (.ref x :: st) w) : V X kc ks pc (u0 :: u1 :: u2 :: u3 :: some (.ref x) :: t) st w := by
  subst hp; intro H locs ls hw hS hl; exact lv_aload h.1 h.2.1 d (hl.at rfl) (k H locs ls hw hS hl)
theorem V.istore4 (h : Cx X cc own D mcT msT) {u0 u1 u2 u3 : Option Value} {t : List (Option Value)} {y : Option Value} {x : Int32} (pc1 : Nat) (d : decode cc pc = .ok (.istore 4, 2)) (hp : pc + 2 = pc1) (hc : okst (u0 :: u1 :: u2 :: u3 :: y :: t) 4 = true) (k : V X kc ks pc1 (u0 :: u1 :: u2 :: u3 :: some (.int x) :: t) st w) : V X kc ks pc (u0 :: u1 :: u2 :: u3 :: y :: t) (.int x :: st) w := by
  subst hp; intro H locs ls hw hS hl
  have hn : 4 < (u0 :: u1 :: u2 :: u3 :: y :: t).length := by simp only [List.length_cons]; omega
  exact lv_istore h.1 h.2.1 d hl.2 (by rw [← hl.1]; exact hn) rfl (fun ls1 h1 => k H locs ls1 hw hS (LV.put hl.1 hn hc h1))
theorem V.astore4 (h : Cx X cc own D mcT msT) {u0 u1 u2 u3 : Option Value} {t : List (Option Value)} {y : Option Value} {x : Nat} (pc1 : Nat) (d : decode cc pc = .ok (.astore 4, 2)) (hp : pc + 2 = pc1) (hc : okst (u0 :: u1 :: u2 :: u3 :: y :: t) 4 = true) (k : V X kc ks pc1 (u0 :: u1 :: u2 :: u3 :: some (.ref x) :: t) st w) : V X kc ks pc (u0 :: u1 :: u2 :: u3 :: y :: t) (.ref x :: st) w := by
  subst hp; intro H locs ls hw hS hl
  have hn : 4 < (u0 :: u1 :: u2 :: u3 :: y :: t).length := by simp only [List.length_cons]; omega
  exact lv_astore h.1 h.2.1 d hl.2 (by rw [← hl.1]; exact hn) rfl (fun ls1 h1 => k H locs ls1 hw hS (LV.put hl.1 hn hc h1))
theorem V.iload5 (h : Cx X cc own D mcT msT) {u0 u1 u2 u3 u4 : Option Value} {t : List (Option Value)} {x : Int32} (pc1 : Nat) (d : decode cc pc = .ok (.iload 5, 2)) (hp : pc + 2 = pc1) (k : V X kc ks pc1 (u0 :: u1 :: u2 :: u3 :: u4 :: some (.int x) :: t) (.int x :: st) w) : V X kc ks pc (u0 :: u1 :: u2 :: u3 :: u4 :: some (.int x) :: t) st w := by
  subst hp; intro H locs ls hw hS hl; exact lv_iload h.1 h.2.1 d (hl.at rfl) (k H locs ls hw hS hl)
theorem V.aload5 (h : Cx X cc own D mcT msT) {u0 u1 u2 u3 u4 : Option Value} {t : List (Option Value)} {x : Nat} (pc1 : Nat) (d : decode cc pc = .ok (.aload 5, 2)) (hp : pc + 2 = pc1) (k : V X kc ks pc1 (u0 :: u1 :: u2 :: u3 :: u4 :: some (.ref x) :: t) (.ref x :: st) w) : V X kc ks pc (u0 :: u1 :: u2 :: u3 :: u4 :: some (.ref x) :: t) st w := by
  subst hp; intro H locs ls hw hS hl; exact lv_aload h.1 h.2.1 d (hl.at rfl) (k H locs ls hw hS hl)
theorem V.istore5 (h : Cx X cc own D mcT msT) {u0 u1 u2 u3 u4 : Option Value} {t : List (Option Value)} {y : Option Value} {x : Int32} (pc1 : Nat) (d : decode cc pc = .ok (.istore 5, 2)) (hp : pc + 2 = pc1) (hc : okst (u0 :: u1 :: u2 :: u3 :: u4 :: y :: t) 5 = true) (k : V X kc ks pc1 (u0 :: u1 :: u2 :: u3 :: u4 :: some (.int x) :: t) st w) : V X kc ks pc (u0 :: u1 :: u2 :: u3 :: u4 :: y :: t) (.int x :: st) w := by
  subst hp; intro H locs ls hw hS hl
  have hn : 5 < (u0 :: u1 :: u2 :: u3 :: u4 :: y :: t).length := by simp only [List.length_cons]; omega
  exact lv_istore h.1 h.2.1 d hl.2 (by rw [← hl.1]; exact hn) rfl (fun ls1 h1 => k H locs ls1 hw hS (LV.put hl.1 hn hc h1))
theorem V.astore5 (h : Cx X cc own D mcT msT) {u0 u1 u2 u3 u4 : Option Value} {t : List (Option Value)} {y : Option Value} {x : Nat} (pc1 : Nat) (d : decode cc pc = .ok (.astore 5, 2)) (hp : pc + 2 = pc1) (hc : okst (u0 :: u1 :: u2 :: u3 :: u4 :: y :: t) 5 = true) (k : V X kc ks pc1 (u0 :: u1 :: u2 :: u3 :: u4 :: some (.ref x) :: t) st w) : V X kc ks pc (u0 :: u1 :: u2 :: u3 :: u4 :: y :: t) (.ref x :: st) w := by
  subst hp; intro H locs ls hw hS hl
  have hn : 5 < (u0 :: u1 :: u2 :: u3 :: u4 :: y :: t).length := by simp only [List.length_cons]; omega
  exact lv_astore h.1 h.2.1 d hl.2 (by rw [← hl.1]; exact hn) rfl (fun ls1 h1 => k H locs ls1 hw hS (LV.put hl.1 hn hc h1))
theorem V.iload6 (h : Cx X cc own D mcT msT) {u0 u1 u2 u3 u4 u5 : Option Value} {t : List (Option Value)} {x : Int32} (pc1 : Nat) (d : decode cc pc = .ok (.iload 6, 2)) (hp : pc + 2 = pc1) (k : V X kc ks pc1 (u0 :: u1 :: u2 :: u3 :: u4 :: u5 :: some (.int x) :: t) (.int x :: st) w) : V X kc ks pc (u0 :: u1 :: u2 :: u3 :: u4 :: u5 :: some (.int x) :: t) st w := by
  subst hp; intro H locs ls hw hS hl; exact lv_iload h.1 h.2.1 d (hl.at rfl) (k H locs ls hw hS hl)
theorem V.aload6 (h : Cx X cc own D mcT msT) {u0 u1 u2 u3 u4 u5 : Option Value} {t : List (Option Value)} {x : Nat} (pc1 : Nat) (d : decode cc pc = .ok (.aload 6, 2)) (hp : pc + 2 = pc1) (k : V X kc ks pc1 (u0 :: u1 :: u2 :: u3 :: u4 :: u5 :: some (.ref x) :: t) (.ref x :: st) w) : V X kc ks pc (u0 :: u1 :: u2 :: u3 :: u4 :: u5 :: some (.ref x) :: t) st w := by
  subst hp; intro H locs ls hw hS hl; exact lv_aload h.1 h.2.1 d (hl.at rfl) (k H locs ls hw hS hl)
theorem V.istore6 (h : Cx X cc own D mcT msT) {u0 u1 u2 u3 u4 u5 : Option Value} {t : List (Option Value)} {y : Option Value} {x : Int32} (pc1 : Nat) (d : decode cc pc = .ok (.istore 6, 2)) (hp : pc + 2 = pc1) (hc : okst (u0 :: u1 :: u2 :: u3 :: u4 :: u5 :: y :: t) 6 = true) (k : V X kc ks pc1 (u0 :: u1 :: u2 :: u3 :: u4 :: u5 :: some (.int x) :: t) st w) : V X kc ks pc (u0 :: u1 :: u2 :: u3 :: u4 :: u5 :: y :: t) (.int x :: st) w := by
  subst hp; intro H locs ls hw hS hl
  have hn : 6 < (u0 :: u1 :: u2 :: u3 :: u4 :: u5 :: y :: t).length := by simp only [List.length_cons]; omega
  exact lv_istore h.1 h.2.1 d hl.2 (by rw [← hl.1]; exact hn) rfl (fun ls1 h1 => k H locs ls1 hw hS (LV.put hl.1 hn hc h1))
theorem V.astore6 (h : Cx X cc own D mcT msT) {u0 u1 u2 u3 u4 u5 : Option Value} {t : List (Option Value)} {y : Option Value} {x : Nat} (pc1 : Nat) (d : decode cc pc = .ok (.astore 6, 2)) (hp : pc + 2 = pc1) (hc : okst (u0 :: u1 :: u2 :: u3 :: u4 :: u5 :: y :: t) 6 = true) (k : V X kc ks pc1 (u0 :: u1 :: u2 :: u3 :: u4 :: u5 :: some (.ref x) :: t) st w) : V X kc ks pc (u0 :: u1 :: u2 :: u3 :: u4 :: u5 :: y :: t) (.ref x :: st) w := by
  subst hp; intro H locs ls hw hS hl
  have hn : 6 < (u0 :: u1 :: u2 :: u3 :: u4 :: u5 :: y :: t).length := by simp only [List.length_cons]; omega
  exact lv_astore h.1 h.2.1 d hl.2 (by rw [← hl.1]; exact hn) rfl (fun ls1 h1 => k H locs ls1 hw hS (LV.put hl.1 hn hc h1))
theorem V.iload7 (h : Cx X cc own D mcT msT) {u0 u1 u2 u3 u4 u5 u6 : Option Value} {t : List (Option Value)} {x : Int32} (pc1 : Nat) (d : decode cc pc = .ok (.iload 7, 2)) (hp : pc + 2 = pc1) (k : V X kc ks pc1 (u0 :: u1 :: u2 :: u3 :: u4 :: u5 :: u6 :: some (.int x) :: t) (.int x :: st) w) : V X kc ks pc (u0 :: u1 :: u2 :: u3 :: u4 :: u5 :: u6 :: some (.int x) :: t) st w := by
  subst hp; intro H locs ls hw hS hl; exact lv_iload h.1 h.2.1 d (hl.at rfl) (k H locs ls hw hS hl)
theorem V.aload7 (h : Cx X cc own D mcT msT) {u0 u1 u2 u3 u4 u5 u6 : Option Value} {t : List (Option Value)} {x : Nat} (pc1 : Nat) (d : decode cc pc = .ok (.aload 7, 2)) (hp : pc + 2 = pc1) (k : V X kc ks pc1 (u0 :: u1 :: u2 :: u3 :: u4 :: u5 :: u6 :: some (.ref x) :: t) (.ref x :: st) w) : V X kc ks pc (u0 :: u1 :: u2 :: u3 :: u4 :: u5 :: u6 :: some (.ref x) :: t) st w := by
  subst hp; intro H locs ls hw hS hl; exact lv_aload h.1 h.2.1 d (hl.at rfl) (k H locs ls hw hS hl)
theorem V.istore7 (h : Cx X cc own D mcT msT) {u0 u1 u2 u3 u4 u5 u6 : Option Value} {t : List (Option Value)} {y : Option Value} {x : Int32} (pc1 : Nat) (d : decode cc pc = .ok (.istore 7, 2)) (hp : pc + 2 = pc1) (hc : okst (u0 :: u1 :: u2 :: u3 :: u4 :: u5 :: u6 :: y :: t) 7 = true) (k : V X kc ks pc1 (u0 :: u1 :: u2 :: u3 :: u4 :: u5 :: u6 :: some (.int x) :: t) st w) : V X kc ks pc (u0 :: u1 :: u2 :: u3 :: u4 :: u5 :: u6 :: y :: t) (.int x :: st) w := by
  subst hp; intro H locs ls hw hS hl
  have hn : 7 < (u0 :: u1 :: u2 :: u3 :: u4 :: u5 :: u6 :: y :: t).length := by simp only [List.length_cons]; omega
  exact lv_istore h.1 h.2.1 d hl.2 (by rw [← hl.1]; exact hn) rfl (fun ls1 h1 => k H locs ls1 hw hS (LV.put hl.1 hn hc h1))
theorem V.astore7 (h : Cx X cc own D mcT msT) {u0 u1 u2 u3 u4 u5 u6 : Option Value} {t : List (Option Value)} {y : Option Value} {x : Nat} (pc1 : Nat) (d : decode cc pc = .ok (.astore 7, 2)) (hp : pc + 2 = pc1) (hc : okst (u0 :: u1 :: u2 :: u3 :: u4 :: u5 :: u6 :: y :: t) 7 = true) (k : V X kc ks pc1 (u0 :: u1 :: u2 :: u3 :: u4 :: u5 :: u6 :: some (.ref x) :: t) st w) : V X kc ks pc (u0 :: u1 :: u2 :: u3 :: u4 :: u5 :: u6 :: y :: t) (.ref x :: st) w := by
  subst hp; intro H locs ls hw hS hl
  have hn : 7 < (u0 :: u1 :: u2 :: u3 :: u4 :: u5 :: u6 :: y :: t).length := by simp only [List.length_cons]; omega
  exact lv_astore h.1 h.2.1 d hl.2 (by rw [← hl.1]; exact hn) rfl (fun ls1 h1 => k H locs ls1 hw hS (LV.put hl.1 hn hc h1))
theorem V.iload8 (h : Cx X cc own D mcT msT) {u0 u1 u2 u3 u4 u5 u6 u7 : Option Value} {t : List (Option Value)} {x : Int32} (pc1 : Nat) (d : decode cc pc = .ok (.iload 8, 2)) (hp : pc + 2 = pc1) (k : V X kc ks pc1 (u0 :: u1 :: u2 :: u3 :: u4 :: u5 :: u6 :: u7 :: some (.int x) :: t) (.int x :: st) w) : V X kc ks pc (u0 :: u1 :: u2 :: u3 :: u4 :: u5 :: u6 :: u7 :: some (.int x) :: t) st w := by
  subst hp; intro H locs ls hw hS hl; exact lv_iload h.1 h.2.1 d (hl.at rfl) (k H locs ls hw hS hl)
theorem V.aload8 (h : Cx X cc own D mcT msT) {u0 u1 u2 u3 u4 u5 u6 u7 : Option Value} {t : List (Option Value)} {x : Nat} (pc1 : Nat) (d : decode cc pc = .ok (.aload 8, 2)) (hp : pc + 2 = pc1) (k : V X kc ks pc1 (u0 :: u1 :: u2 :: u3 :: u4 :: u5 :: u6 :: u7 :: some (.ref x) :: t) (.ref x :: st) w) : V X kc ks pc (u0 :: u1 :: u2 :: u3 :: u4 :: u5 :: u6 :: u7 :: some (.ref x) :: t) st w := by
  subst hp; intro H locs ls hw hS hl; exact lv_aload h.1 h.2.1 d (hl.at rfl) (k H locs ls hw hS hl)
theorem V.istore8 (h : Cx X cc own D mcT msT) {u0 u1 u2 u3 u4 u5 u6 u7 : Option Value} {t : List (Option Value)} {y : Option Value} {x : Int32} (pc1 : Nat) (d : decode cc pc = .ok (.istore 8, 2)) (hp : pc + 2 = pc1) (hc : okst (u0 :: u1 :: u2 :: u3 :: u4 :: u5 :: u6 :: u7 :: y :: t) 8 = true) (k : V X kc ks pc1 (u0 :: u1 :: u2 :: u3 :: u4 :: u5 :: u6 :: u7 :: some (.int x) :: t) st w) : V X kc ks pc (u0 :: u1 :: u2 :: u3 :: u4 :: u5 :: u6 :: u7 :: y :: t) (.int x :: st) w := by
  subst hp; intro H locs ls hw hS hl
  have hn : 8 < (u0 :: u1 :: u2 :: u3 :: u4 :: u5 :: u6 :: u7 :: y :: t).length := by simp only [List.length_cons]; omega
  exact lv_istore h.1 h.2.1 d hl.2 (by rw [← hl.1]; exact hn) rfl (fun ls1 h1 => k H locs ls1 hw hS (LV.put hl.1 hn hc h1))
theorem V.astore8 (h : Cx X cc own D mcT msT) {u0 u1 u2 u3 u4 u5 u6 u7 : Option Value} {t : List (Option Value)} {y : Option Value} {x : Nat} (pc1 : Nat) (d : decode cc pc = .ok (.astore 8, 2)) (hp : pc + 2 = pc1) (hc : okst (u0 :: u1 :: u2 :: u3 :: u4 :: u5 :: u6 :: u7 :: y :: t) 8 = true) (k : V X kc ks pc1 (u0 :: u1 :: u2 :: u3 :: u4 :: u5 :: u6 :: u7 :: some (.ref x) :: t) st w) : V X kc ks pc (u0 :: u1 :: u2 :: u3 :: u4 :: u5 :: u6 :: u7 :: y :: t) (.ref x :: st) w := by
  subst hp; intro H locs ls hw hS hl
  have hn : 8 < (u0 :: u1 :: u2 :: u3 :: u4 :: u5 :: u6 :: u7 :: y :: t).length := by simp only [List.length_cons]; omega
  exact lv_astore h.1 h.2.1 d hl.2 (by rw [← hl.1]; exact hn) rfl (fun ls1 h1 => k H locs ls1 hw hS (LV.put hl.1 hn hc h1))
theorem V.iinc0 (h : Cx X cc own D mcT msT) {t : List (Option Value)} {n : Int} {x v : Int32} (pc1 : Nat) (d : decode cc pc = .ok (.iinc 0 n, 3)) (hp : pc + 3 = pc1) (hv : x + Int32.ofInt n = v) (hc : okst (some (.int x) :: t) 0 = true) (k : V X kc ks pc1 (some (.int v) :: t) st w) : V X kc ks pc (some (.int x) :: t) st w := by
  subst hp; intro H locs ls hw hS hl
  have hn : 0 < (some (.int x) :: t).length := by simp only [List.length_cons]; omega
  obtain ⟨k0, hk0⟩ := List.getElem?_of_mem ((lvl_mem (0, .int x) (some (.int x) :: t) 0).mpr ⟨0, rfl, rfl⟩)
  exact lv_iinc h.1 h.2.1 d hl.2 hk0 hv (by rw [← hl.1]; exact hn) rfl (fun ls1 h1 => k H locs ls1 hw hS (LV.put hl.1 hn hc h1))
theorem V.iinc1 (h : Cx X cc own D mcT msT) {u0 : Option Value} {t : List (Option Value)} {n : Int} {x v : Int32} (pc1 : Nat) (d : decode cc pc = .ok (.iinc 1 n, 3)) (hp : pc + 3 = pc1) (hv : x + Int32.ofInt n = v) (hc : okst (u0 :: some (.int x) :: t) 1 = true) (k : V X kc ks pc1 (u0 :: some (.int v) :: t) st w) : V X kc ks pc (u0 :: some (.int x) :: t) st w := by
  subst hp; intro H locs ls hw hS hl
  have hn : 1 < (u0 :: some (.int x) :: t).length := by simp only [List.length_cons]; omega
  obtain ⟨k0, hk0⟩ := List.getElem?_of_mem ((lvl_mem (1, .int x) (u0 :: some (.int x) :: t) 0).mpr ⟨1, rfl, rfl⟩)
  exact lv_iinc h.1 h.2.1 d hl.2 hk0 hv (by rw [← hl.1]; exact hn) rfl (fun ls1 h1 => k H locs ls1 hw hS (LV.put hl.1 hn hc h1))
theorem V.iinc2 (h : Cx X cc own D mcT msT) {u0 u1 : Option Value} {t : List (Option Value)} {n : Int} {x v : Int32} (pc1 : Nat) (d : decode cc pc = .ok (.iinc 2 n, 3)) (hp : pc + 3 = pc1) (hv : x + Int32.ofInt n = v) (hc : okst (u0 :: u1 :: some (.int x) :: t) 2 = true) (k : V X kc ks pc1 (u0 :: u1 :: some (.int v) :: t) st w) : V X kc ks pc (u0 :: u1 :: some (.int x) :: t) st w := by
  subst hp; intro H locs ls hw hS hl
  have hn : 2 < (u0 :: u1 :: some (.int x) :: t).length := by simp only [List.length_cons]; omega
  obtain ⟨k0, hk0⟩ := List.getElem?_of_mem ((lvl_mem (2, .int x) (u0 :: u1 :: some (.int x) :: t) 0).mpr ⟨2, rfl, rfl⟩)
  exact lv_iinc h.1 h.2.1 d hl.2 hk0 hv (by rw [← hl.1]; exact hn) rfl (fun ls1 h1 => k H locs ls1 hw hS (LV.put hl.1 hn hc h1))
theorem V.iinc3 (h : Cx X cc own D mcT msT) {u0 u1 u2 : Option Value} {t : List (Option Value)} {n : Int} {x v : Int32} (pc1 : Nat) (d : decode cc pc = .ok (.iinc 3 n, 3)) (hp : pc + 3 = pc1) (hv : x + Int32.ofInt n = v) (hc : okst (u0 :: u1 :: u2 :: some (.int x) :: t) 3 = true) (k : V X kc ks pc1 (u0 :: u1 :: u2 :: some (.int v) :: t) st w) : V X kc ks pc (u0 :: u1 :: u2 :: some (.int x) :: t) st w := by
  subst hp; intro H locs ls hw hS hl
  have hn : 3 < (u0 :: u1 :: u2 :: some (.int x) :: t).length := by simp only [List.length_cons]; omega
  obtain ⟨k0, hk0⟩ := List.getElem?_of_mem ((lvl_mem (3, .int x) (u0 :: u1 :: u2 :: some (.int x) :: t) 0).mpr ⟨3, rfl, rfl⟩)
  exact lv_iinc h.1 h.2.1 d hl.2 hk0 hv (by rw [← hl.1]; exact hn) rfl (fun ls1 h1 => k H locs ls1 hw hS (LV.put hl.1 hn hc h1))
theorem V.iinc4 (h : Cx X cc own D mcT msT) {u0 u1 u2 u3 : Option Value} {t : List (Option Value)} {n : Int} {x v : Int32} (pc1 : Nat) (d : decode cc pc = .ok (.iinc 4 n, 3)) (hp : pc + 3 = pc1) (hv : x + Int32.ofInt n = v) (hc : okst (u0 :: u1 :: u2 :: u3 :: some (.int x) :: t) 4 = true) (k : V X kc ks pc1 (u0 :: u1 :: u2 :: u3 :: some (.int v) :: t) st w) : V X kc ks pc (u0 :: u1 :: u2 :: u3 :: some (.int x) :: t) st w := by
  subst hp; intro H locs ls hw hS hl
  have hn : 4 < (u0 :: u1 :: u2 :: u3 :: some (.int x) :: t).length := by simp only [List.length_cons]; omega
  obtain ⟨k0, hk0⟩ := List.getElem?_of_mem ((lvl_mem (4, .int x) (u0 :: u1 :: u2 :: u3 :: some (.int x) :: t) 0).mpr ⟨4, rfl, rfl⟩)
  exact lv_iinc h.1 h.2.1 d hl.2 hk0 hv (by rw [← hl.1]; exact hn) rfl (fun ls1 h1 => k H locs ls1 hw hS (LV.put hl.1 hn hc h1))
theorem V.iinc5 (h : Cx X cc own D mcT msT) {u0 u1 u2 u3 u4 : Option Value} {t : List (Option Value)} {n : Int} {x v : Int32} (pc1 : Nat) (d : decode cc pc = .ok (.iinc 5 n, 3)) (hp : pc + 3 = pc1) (hv : x + Int32.ofInt n = v) (hc : okst (u0 :: u1 :: u2 :: u3 :: u4 :: some (.int x) :: t) 5 = true) (k : V X kc ks pc1 (u0 :: u1 :: u2 :: u3 :: u4 :: some (.int v) :: t) st w) : V X kc ks pc (u0 :: u1 :: u2 :: u3 :: u4 :: some (.int x) :: t) st w := by
  subst hp; intro H locs ls hw hS hl
  have hn : 5 < (u0 :: u1 :: u2 :: u3 :: u4 :: some (.int x) :: t).length := by simp only [List.length_cons]; omega
  obtain ⟨k0, hk0⟩ := List.getElem?_of_mem ((lvl_mem (5, .int x) (u0 :: u1 :: u2 :: u3 :: u4 :: some (.int x) :: t) 0).mpr ⟨5, rfl, rfl⟩)
  exact lv_iinc h.1 h.2.1 d hl.2 hk0 hv (by rw [← hl.1]; exact hn) rfl (fun ls1 h1 => k H locs ls1 hw hS (LV.put hl.1 hn hc h1))
theorem V.iinc6 (h : Cx X cc own D mcT msT) {u0 u1 u2 u3 u4 u5 : Option Value} {t : List (Option Value)} {n : Int} {x v : Int32} (pc1 : Nat) (d : decode cc pc = .ok (.iinc 6 n, 3)) (hp : pc + 3 = pc1) (hv : x + Int32.ofInt n = v) (hc : okst (u0 :: u1 :: u2 :: u3 :: u4 :: u5 :: some (.int x) :: t) 6 = true) (k : V X kc ks pc1 (u0 :: u1 :: u2 :: u3 :: u4 :: u5 :: some (.int v) :: t) st w) : V X kc ks pc (u0 :: u1 :: u2 :: u3 :: u4 :: u5 :: some (.int x) :: t) st w := by
  subst hp; intro H locs ls hw hS hl
  have hn : 6 < (u0 :: u1 :: u2 :: u3 :: u4 :: u5 :: some (.int x) :: t).length := by simp only [List.length_cons]; omega
  obtain ⟨k0, hk0⟩ := List.getElem?_of_mem ((lvl_mem (6, .int x) (u0 :: u1 :: u2 :: u3 :: u4 :: u5 :: some (.int x) :: t) 0).mpr ⟨6, rfl, rfl⟩)
  exact lv_iinc h.1 h.2.1 d hl.2 hk0 hv (by rw [← hl.1]; exact hn) rfl (fun ls1 h1 => k H locs ls1 hw hS (LV.put hl.1 hn hc h1))
theorem V.iinc7 (h : Cx X cc own D mcT msT) {u0 u1 u2 u3 u4 u5 u6 : Option Value} {t : List (Option Value)} {n : Int} {x v : Int32} (pc1 : Nat) (d : decode cc pc = .ok (.iinc 7 n, 3)) (hp : pc + 3 = pc1) (hv : x + Int32.ofInt n = v) (hc : okst (u0 :: u1 :: u2 :: u3 :: u4 :: u5 :: u6 :: some (.int x) :: t) 7 = true) (k : V X kc ks pc1 (u0 :: u1 :: u2 :: u3 :: u4 :: u5 :: u6 :: some (.int v) :: t) st w) : V X kc ks pc (u0 :: u1 :: u2 :: u3 :: u4 :: u5 :: u6 :: some (.int x) :: t) st w := by
  subst hp; intro H locs ls hw hS hl
  have hn : 7 < (u0 :: u1 :: u2 :: u3 :: u4 :: u5 :: u6 :: some (.int x) :: t).length := by simp only [List.length_cons]; omega
  obtain ⟨k0, hk0⟩ := List.getElem?_of_mem ((lvl_mem (7, .int x) (u0 :: u1 :: u2 :: u3 :: u4 :: u5 :: u6 :: some (.int x) :: t) 0).mpr ⟨7, rfl, rfl⟩)
  exact lv_iinc h.1 h.2.1 d hl.2 hk0 hv (by rw [← hl.1]; exact hn) rfl (fun ls1 h1 => k H locs ls1 hw hS (LV.put hl.1 hn hc h1))
theorem V.iinc8 (h : Cx X cc own D mcT msT) {u0 u1 u2 u3 u4 u5 u6 u7 : Option Value} {t : List (Option Value)} {n : Int} {x v : Int32} (pc1 : Nat) (d : decode cc pc = .ok (.iinc 8 n, 3)) (hp : pc + 3 = pc1) (hv : x + Int32.ofInt n = v) (hc : okst (u0 :: u1 :: u2 :: u3 :: u4 :: u5 :: u6 :: u7 :: some (.int x) :: t) 8 = true) (k : V X kc ks pc1 (u0 :: u1 :: u2 :: u3 :: u4 :: u5 :: u6 :: u7 :: some (.int v) :: t) st w) : V X kc ks pc (u0 :: u1 :: u2 :: u3 :: u4 :: u5 :: u6 :: u7 :: some (.int x) :: t) st w := by
  subst hp; intro H locs ls hw hS hl
  have hn : 8 < (u0 :: u1 :: u2 :: u3 :: u4 :: u5 :: u6 :: u7 :: some (.int x) :: t).length := by simp only [List.length_cons]; omega
  obtain ⟨k0, hk0⟩ := List.getElem?_of_mem ((lvl_mem (8, .int x) (u0 :: u1 :: u2 :: u3 :: u4 :: u5 :: u6 :: u7 :: some (.int x) :: t) 0).mpr ⟨8, rfl, rfl⟩)
  exact lv_iinc h.1 h.2.1 d hl.2 hk0 hv (by rw [← hl.1]; exact hn) rfl (fun ls1 h1 => k H locs ls1 hw hS (LV.put hl.1 hn hc h1))
theorem V.lload1 (h : Cx X cc own D mcT msT) {a : Option Value} {t : List (Option Value)} {x : Int64} (pc1 : Nat) (d : decode cc pc = .ok (.lload_n 1, 1)) (hp : pc + 1 = pc1) (k : V X kc ks pc1 (a :: some (.long x) :: t) (.long x :: st) w) : V X kc ks pc (a :: some (.long x) :: t) st w := by
  subst hp; intro H locs ls hw hS hl; exact lv_lload_n h.1 h.2.1 d rfl (hl.at rfl) (k H locs ls hw hS hl)
theorem V.getf (h : Cx X cc own D mcT msT) {C ref : String} {T : u_T} {N ci index a : Nat} {fs : List Value} {v : Value} (k : Nat) (pc1 : Nat) (d : decode cc pc = .ok (.getfield index, 3)) (hp : pc + 3 = pc1) (hin : ∀ q ∈ u_ws C T N, q ∈ GW) (hc : vwCl[ci]? = some (C, T, N)) (hk : k < N) (hl : Cond.fieldLink own index (T k).1 (T k).2.1 (T k).2.2.1 ∈ GW) (he : w.2 a = some (.inr (ci, fs))) (hv : fs[k]? = some v) (kk : V X kc ks pc1 lv (v :: st) w) : V X kc ks pc lv (.ref a :: st) w := by
  subst hp; intro H locs ls hw hS hlv
  obtain ⟨L, F, q0, hP, hD, hW, hL, hq⟩ := hw.at he
  exact va_get (T := T) h.1 h.2.1 h.2.2.2.1 hin h.2.2.1 h.2.2.2.2.1.1 hP q0 hq hc k hk (h.2.2.2.1 _ hl) (fun _ h => h) hv d (kk H locs ls hw hS hlv)
theorem V.getN (h : Cx X cc own D mcT msT) {C ref host : String} {T : u_T} {N ci index a : Nat} {fs : List Value} {v : Value} (k : Nat) (pc1 : Nat) (d : decode cc pc = .ok (.getfield index, 3)) (hp : pc + 3 = pc1) (hin : ∀ q ∈ u_ws C T N, q ∈ GW) (hc : vwCl[ci]? = some (C, T, N)) (hk : k < N) (hl : Cond.fieldLinkNest own index (T k).1 (T k).2.1 (T k).2.2.1 host ∈ lw_tbl) (he : w.2 a = some (.inr (ci, fs))) (hv : fs[k]? = some v) (kk : V X kc ks pc1 lv (v :: st) w) : V X kc ks pc lv (.ref a :: st) w := by
  subst hp; intro H locs ls hw hS hlv
  obtain ⟨L, F, q0, hP, hD, hW, hL, hq⟩ := hw.at he
  exact va_getN (T := T) h.1 h.2.1 h.2.2.2.1 hin h.2.2.1 h.2.2.2.2.1.1 hP q0 hq hc k hk (va_Nw.use rfl (h.2.2.2.2.1.2.2 _ hl rfl)) (fun _ h => h) hv d (kk H locs ls hw hS hlv)
theorem wR.upd {g : GG} {B : Nat} {w : Wd} {H H1 : Heap} (h : wR g B w H) {a : Nat} {e e1 : Ce} (ha : w.2 a = some e) (hz : H1.size = H.size) (oq : ∀ q : Nat, q ≠ a → H1[q]? = H[q]?) (hat : va_at g.1 vwCl (a, ceE g e1) H1) : wR g B (wset w a e1) H1 := by
  obtain ⟨L, F, q0, hP, hD, hW, hL, hq⟩ := h.at ha
  exact h.set hz hD hW hL ha hq (hP.set hD hq hat oq) (hD.set hq)
theorem wR.lo {g : GG} {B : Nat} {w : Wd} {H : Heap} (h : wR g B w H) {a : Nat} {e : Ce} (ha : w.2 a = some e) : B ≤ a ∧ va_at g.1 vwCl (a, ceE g e) H := by
  obtain ⟨L, F, q0, hP, hD, hW, hL, hq⟩ := h.at ha
  exact ⟨hD.2 q0 _ hq, hP q0 _ hq⟩
theorem V.putf (h : Cx X cc own D mcT msT) {C : String} {T : u_T} {N ci index a : Nat} {fs : List Value} {v : Value} {ty0 : Nat → FieldType} (k : Nat) (pc1 : Nat) (d : decode cc pc = .ok (.putfield index, 3)) (hp : pc + 3 = pc1) (hin : ∀ q ∈ u_ws C T N, q ∈ GW) (hc : vwCl[ci]? = some (C, T, N)) (hty : ∀ k, k < N → parseFieldDescriptor (T k).2.2.1 = some (ty0 k)) (hnm : ∀ a, a < N → ∀ b, b < N → a ≠ b → (T a).2.1 ≠ (T b).2.1) (hk : k < N) (hl : Cond.fieldLink own index (T k).1 (T k).2.1 (T k).2.2.1 ∈ GW) (hfin : (T k).2.2.2 = false) (hn : narrow (ty0 k) v = v) (hfit : fits (ty0 k) v = true) (he : w.2 a = some (.inr (ci, fs))) (hlen : k < fs.length) (kk : V X kc ks pc1 lv st (wset w a (.inr (ci, fs.set k v)))) : V X kc ks pc lv (v :: .ref a :: st) w := by
  subst hp; intro H locs ls hw hS hlv
  have hts := h.2.2.2.1
  have hK := h.2.2.2.2.1.1
  have hap := va_apart (own := own) hts hin ty0 hty hnm hK hc
  obtain ⟨hBa, r, h1, cell, q1, q2, q3, q4⟩ := hw.lo he
  have hr : r = (C, T, N) := Option.some.inj (h1.symm.trans hc)
  subst hr
  obtain ⟨hsl0, hfc, kC, hkC, hkind⟩ := hK.1 ci _ hc
  obtain ⟨cf, kf, fi, f, hi, hsl⟩ := hsl0 k hk
  have hlay := hts _ (hin _ (u_in_lay hk))
  unfold u_lay at hlay
  rw [if_neg (by rw [hfin]; decide)] at hlay
  have hst := (u_facts hfc hkC (u_lays hts hin hk) hi).1
  have h6 := u_store hfc hkC hkind hlay hi (hty k hk) hn hfit
  refine W.putK h.1 h.2.1 (f := f) ⟨h.2.2.1, hts _ hl, ⟨_, _, _, hi⟩, hst⟩ (by rw [q2]; exact h6) q1 q3 (by rw [hsl]; exact k2_hasslot (q4 k hk)) rfl rfl d fun H1 e1 e2 e3 => ?_
  rw [hsl] at e1 ⊢
  exact kk H1 _ ls (hw.upd he e2 e3 ⟨_, hc, t_OB.to (V := updV (vp_V fs) k v) ⟨_, e1, q2, q3, t_set q4 hap hk v⟩ (fun j _ => vp_updV_set hlen v j)⟩) (hS.put e2 e3 hBa) hlv
theorem V.putN (h : Cx X cc own D mcT msT) {C host : String} {T : u_T} {N ci index a : Nat} {fs : List Value} {v : Value} {ty0 : Nat → FieldType} (k : Nat) (pc1 : Nat) (d : decode cc pc = .ok (.putfield index, 3)) (hp : pc + 3 = pc1) (hin : ∀ q ∈ u_ws C T N, q ∈ GW) (hc : vwCl[ci]? = some (C, T, N)) (hty : ∀ k, k < N → parseFieldDescriptor (T k).2.2.1 = some (ty0 k)) (hnm : ∀ a, a < N → ∀ b, b < N → a ≠ b → (T a).2.1 ≠ (T b).2.1) (hk : k < N) (hl : Cond.fieldLinkNest own index (T k).1 (T k).2.1 (T k).2.2.1 host ∈ lw_tbl) (hfin : (T k).2.2.2 = false) (hn : narrow (ty0 k) v = v) (hfit : fits (ty0 k) v = true) (he : w.2 a = some (.inr (ci, fs))) (hlen : k < fs.length) (kk : V X kc ks pc1 lv st (wset w a (.inr (ci, fs.set k v)))) : V X kc ks pc lv (v :: .ref a :: st) w := by
  subst hp; intro H locs ls hw hS hlv
  have hts := h.2.2.2.1
  have hK := h.2.2.2.2.1.1
  have hap := va_apart (own := own) hts hin ty0 hty hnm hK hc
  obtain ⟨hBa, r, h1, cell, q1, q2, q3, q4⟩ := hw.lo he
  have hr : r = (C, T, N) := Option.some.inj (h1.symm.trans hc)
  subst hr
  obtain ⟨hsl0, hfc, kC, hkC, hkind⟩ := hK.1 ci _ hc
  obtain ⟨cf, kf, fi, f, hi, hsl⟩ := hsl0 k hk
  have hlay := hts _ (hin _ (u_in_lay hk))
  unfold u_lay at hlay
  rw [if_neg (by rw [hfin]; decide)] at hlay
  have hst := (u_facts hfc hkC (u_lays hts hin hk) hi).1
  have h6 := u_store hfc hkC hkind hlay hi (hty k hk) hn hfit
  refine va_WputK h.1 h.2.1 (f := f) h.2.2.1 (va_Nw.use rfl (h.2.2.2.2.1.2.2 _ hl rfl)) hi hst (by rw [q2]; exact h6) q1 q3 (by rw [hsl]; exact k2_hasslot (q4 k hk)) rfl rfl d fun H1 e1 e2 e3 => ?_
  rw [hsl] at e1 ⊢
  exact kk H1 _ ls (hw.upd he e2 e3 ⟨_, hc, t_OB.to (V := updV (vp_V fs) k v) ⟨_, e1, q2, q3, t_set q4 hap hk v⟩ (fun j _ => vp_updV_set hlen v j)⟩) (hS.put e2 e3 hBa) hlv
theorem V.putF (h : Cx X cc own D mcT msT) {C : String} {T : u_T} {N ci index a : Nat} {fs : List Value} {v : Value} {ty0 : Nat → FieldType} (k : Nat) (pc1 : Nat) (d : decode cc pc = .ok (.putfield index, 3)) (hp : pc + 3 = pc1) (hinit : X.meth.name = "<init>") (hin : ∀ q ∈ u_ws C T N, q ∈ GW) (hc : vwCl[ci]? = some (C, T, N)) (hty : ∀ k, k < N → parseFieldDescriptor (T k).2.2.1 = some (ty0 k)) (hnm : ∀ a, a < N → ∀ b, b < N → a ≠ b → (T a).2.1 ≠ (T b).2.1) (hk : k < N) (hl : Cond.fieldLink own index (T k).1 (T k).2.1 (T k).2.2.1 ∈ GW) (hfin : (T k).2.2.2 = true) (hdecl : (T k).1 = own) (hn : narrow (ty0 k) v = v) (hfit : fits (ty0 k) v = true) (he : w.2 a = some (.inr (ci, fs))) (hlen : k < fs.length) (kk : V X kc ks pc1 lv st (wset w a (.inr (ci, fs.set k v)))) : V X kc ks pc lv (v :: .ref a :: st) w := by
  subst hp; intro H locs ls hw hS hlv
  have hts := h.2.2.2.1
  have hK := h.2.2.2.2.1.1
  have hap := va_apart (own := own) hts hin ty0 hty hnm hK hc
  obtain ⟨hBa, r, h1, cell, q1, q2, q3, q4⟩ := hw.lo he
  have hr : r = (C, T, N) := Option.some.inj (h1.symm.trans hc)
  subst hr
  obtain ⟨hsl0, hfc, kC, hkC, hkind⟩ := hK.1 ci _ hc
  obtain ⟨cf, kf, fi, f, hi, hsl⟩ := hsl0 k hk
  have hlay := hts _ (hin _ (u_in_lay hk))
  unfold u_lay at hlay
  rw [if_pos hfin] at hlay
  have hst := (u_facts hfc hkC (u_lays hts hin hk) hi).1
  have hcf : X.m.cls = cf := by
    obtain ⟨_, _, c', _, _, _, -, -, hf', -, -, -, hown2, -⟩ := Cond.laysFinal_spec hlay
    have e1 : c' = cf := by have := hi.symm.trans hf'; simp at this; exact this.1.symm
    rw [hdecl] at hown2
    rw [← e1]; exact Option.some.inj (h.2.2.1.symm.trans hown2)
  have h6 := u_fits hfc hkC hkind (Or.inr hlay) hi (hty k hk) hn hfit
  refine W.putFinK h.1 h.2.1 h.2.2.1 (hts _ hl) hi hst hcf hinit (by rw [q2]; exact h6) q1 q3 (by rw [hsl]; exact k2_hasslot (q4 k hk)) rfl rfl d fun H1 e1 e2 e3 => ?_
  rw [hsl] at e1 ⊢
  exact kk H1 _ ls (hw.upd he e2 e3 ⟨_, hc, t_OB.to (V := updV (vp_V fs) k v) ⟨_, e1, q2, q3, t_set q4 hap hk v⟩ (fun j _ => vp_updV_set hlen v j)⟩) (hS.put e2 e3 hBa) hlv
/-! arrays -/
theorem V.iald (h : Cx X cc own D mcT msT) {a n : Nat} {f : Nat → Int32} {i : Int32} (pc1 : Nat) (d : decode cc pc = .ok (.iaload, 1)) (hp : pc + 1 = pc1) (he : w.2 a = some (.inl (0, n, .inl f))) (hin : vp_in i n) (kk : V X kc ks pc1 lv (.int (f i.toNatClampNeg) :: st) w) : V X kc ks pc lv (.int i :: .ref a :: st) w := by
  subst hp; intro H locs ls hw hS hlv
  obtain ⟨L, F, q0, hP, hD, hW, hL, hq⟩ := hw.at he
  exact va_iald h.1 h.2.1 h.2.2.2.2.1.1 hP q0 0 hq rfl hin d (kk H locs ls hw hS hlv)
theorem V.cald (h : Cx X cc own D mcT msT) {a n : Nat} {f : Nat → Int32} {i : Int32} (pc1 : Nat) (d : decode cc pc = .ok (.caload, 1)) (hp : pc + 1 = pc1) (he : w.2 a = some (.inl (2, n, .inl f))) (hin : vp_in i n) (kk : V X kc ks pc1 lv (.int (f i.toNatClampNeg) :: st) w) : V X kc ks pc lv (.int i :: .ref a :: st) w := by
  subst hp; intro H locs ls hw hS hlv
  obtain ⟨L, F, q0, hP, hD, hW, hL, hq⟩ := hw.at he
  exact va_cald h.1 h.2.1 h.2.2.2.2.1.1 hP q0 2 hq rfl hin d (kk H locs ls hw hS hlv)
theorem V.lald (h : Cx X cc own D mcT msT) {a n : Nat} {f : Nat → Int64} {i : Int32} (pc1 : Nat) (d : decode cc pc = .ok (.laload, 1)) (hp : pc + 1 = pc1) (he : w.2 a = some (.inl (1, n, .inr (.inl f)))) (hin : vp_in i n) (kk : V X kc ks pc1 lv (.long (f i.toNatClampNeg) :: st) w) : V X kc ks pc lv (.int i :: .ref a :: st) w := by
  subst hp; intro H locs ls hw hS hlv
  obtain ⟨L, F, q0, hP, hD, hW, hL, hq⟩ := hw.at he
  exact va_lald h.1 h.2.1 h.2.2.2.2.1.1 hP q0 1 hq rfl hin d (kk H locs ls hw hS hlv)
theorem V.aald (h : Cx X cc own D mcT msT) {a n : Nat} {f : Nat → Option Nat} {i : Int32} (pc1 : Nat) (d : decode cc pc = .ok (.aaload, 1)) (hp : pc + 1 = pc1) (he : w.2 a = some (.inl (3, n, .inr (.inr (.inr (.inr f)))))) (hin : vp_in i n) (kk : V X kc ks pc1 lv (va_rf (f i.toNatClampNeg) :: st) w) : V X kc ks pc lv (.int i :: .ref a :: st) w := by
  subst hp; intro H locs ls hw hS hlv
  obtain ⟨L, F, q0, hP, hD, hW, hL, hq⟩ := hw.at he
  exact va_aldq h.1 h.2.1 h.2.2.2.2.1.1 hP q0 3 hq rfl hin d (kk H locs ls hw hS hlv)
theorem V.iast (h : Cx X cc own D mcT msT) {a n : Nat} {f : Nat → Int32} {i x : Int32} (pc1 : Nat) (d : decode cc pc = .ok (.iastore, 1)) (hp : pc + 1 = pc1) (he : w.2 a = some (.inl (0, n, .inl f))) (hin : vp_in i n) (kk : V X kc ks pc1 lv st (wset w a (.inl (0, n, .inl (upd f i.toNatClampNeg x))))) : V X kc ks pc lv (.int x :: .int i :: .ref a :: st) w := by
  subst hp; intro H locs ls hw hS hlv
  obtain ⟨hBa, hat⟩ := hw.lo he
  refine W.iast h.1 h.2.1 hat ((h.2.2.2.2.1.1.2 0 _ rfl).1 n (fun j => .int (f j))) (fun q => by cases q) (by show ¬ (i < 0 ∨ (arrV _ _ _).slots.size ≤ _); rw [arrV_size]; exact hin) rfl rfl d fun H1 e z oq => ?_
  refine kk H1 _ ls (hw.upd he z oq ?_) (hS.put z oq hBa) hlv
  show H1[a]? = some (vp_cell _ _)
  rw [e]
  show some ((vp_cell _ _).setSlot _ _) = _
  rw [vp_cell_i, vp_cell_i, arrV_store]
  congr 2
  funext q
  by_cases hq : q = i.toNatClampNeg
  · subst hq
    simp [updV, upd]
  · simp [updV, upd, hq]
theorem V.cast (h : Cx X cc own D mcT msT) {a n : Nat} {f : Nat → Int32} {i x : Int32} (pc1 : Nat) (d : decode cc pc = .ok (.castore, 1)) (hp : pc + 1 = pc1) (he : w.2 a = some (.inl (2, n, .inl f))) (hin : vp_in i n) (kk : V X kc ks pc1 lv st (wset w a (.inl (2, n, .inl (upd f i.toNatClampNeg (vp_nar .char x)))))) : V X kc ks pc lv (.int x :: .int i :: .ref a :: st) w := by
  subst hp; intro H locs ls hw hS hlv
  obtain ⟨hBa, hat⟩ := hw.lo he
  refine W.cast h.1 h.2.1 hat ((h.2.2.2.2.1.1.2 2 _ rfl).1 n (fun j => .int (f j))) (fun q => by cases q) (by show ¬ (i < 0 ∨ (arrV _ _ _).slots.size ≤ _); rw [arrV_size]; exact hin) rfl rfl d fun H1 e z oq => ?_
  refine kk H1 _ ls (hw.upd he z oq ?_) (hS.put z oq hBa) hlv
  show H1[a]? = some (vp_cell _ _)
  rw [e]
  show some ((vp_cell _ _).setSlot _ _) = _
  rw [vp_cell_i, vp_cell_i, arrV_store]
  congr 2
  funext q
  by_cases hq : q = i.toNatClampNeg
  · subst hq
    simp [updV, upd, vp_nar]
    try rfl
  · simp [updV, upd, hq]
theorem V.last (h : Cx X cc own D mcT msT) {a n : Nat} {f : Nat → Int64} {i : Int32} {x : Int64} (pc1 : Nat) (d : decode cc pc = .ok (.lastore, 1)) (hp : pc + 1 = pc1) (he : w.2 a = some (.inl (1, n, .inr (.inl f)))) (hin : vp_in i n) (kk : V X kc ks pc1 lv st (wset w a (.inl (1, n, .inr (.inl (va_up f i.toNatClampNeg x)))))) : V X kc ks pc lv (.long x :: .int i :: .ref a :: st) w := by
  subst hp; intro H locs ls hw hS hlv
  obtain ⟨hBa, hat⟩ := hw.lo he
  refine W.last h.1 h.2.1 hat ((h.2.2.2.2.1.1.2 1 _ rfl).1 n (fun j => .long (f j))) (fun q => by cases q) (by show ¬ (i < 0 ∨ (arrV _ _ _).slots.size ≤ _); rw [arrV_size]; exact hin) rfl rfl d fun H1 e z oq => ?_
  refine kk H1 _ ls (hw.upd he z oq ?_) (hS.put z oq hBa) hlv
  show H1[a]? = some (vp_cell _ _)
  rw [e]
  show some ((vp_cell _ _).setSlot _ _) = _
  rw [vp_cell_l, vp_cell_l, arrV_store]
  congr 2
  funext q
  by_cases hq : q = i.toNatClampNeg
  · subst hq
    simp [updV, va_up]
  · simp [updV, va_up, hq]
theorem V.aast (h : Cx X cc own D mcT msT) {a n v ci : Nat} {r : vw_C} {vs : List Value} {f : Nat → Option Nat} {i : Int32} (pc1 : Nat) (d : decode cc pc = .ok (.aastore, 1)) (hp : pc + 1 = pc1) (he : w.2 a = some (.inl (3, n, .inr (.inr (.inr (.inr f)))))) (hv : w.2 v = some (.inr (ci, vs))) (hc : vwCl[ci]? = some r) (hr : r.1 = RX2) (hin : vp_in i n) (kk : V X kc ks pc1 lv st (wset w a (.inl (3, n, .inr (.inr (.inr (.inr (va_up f i.toNatClampNeg (some v)))))))) ) : V X kc ks pc lv (.ref v :: .int i :: .ref a :: st) w := by
  subst hp; intro H locs ls hw hS hlv
  obtain ⟨hBa, hat⟩ := hw.lo he
  obtain ⟨-, r', hr', cellV, g1, g2, g3, -⟩ := hw.lo hv
  have hlt : i.toNatClampNeg < n := Nat.not_le.mp fun q => hin (Or.inr q)
  have h0 : ¬ i < 0 := fun q => hin (Or.inl q)
  have hK := h.2.2.2.2.1.1
  have hcls := (hK.1 ci r hc).2
  obtain ⟨kA, comp, k1, k2, k3, -⟩ := (hK.2 3 _ rfl).2
  rw [hr] at hcls
  have hcomp : comp = X.g.1.1 ci := Option.some.inj (k3.symm.trans hcls.1)
  subst hcomp
  obtain ⟨kC, hkC, -⟩ := hcls.2
  refine W.aast h.1 h.2.1 hat (fun q h => by cases h) (fun h => by cases h) k1 k2 rfl hkC ⟨h0, by show _ < (arrV _ _ _).slots.size; rw [arrV_size]; exact hlt⟩ g1 (fun q h => by rw [g3] at h; cases h) (by rw [g2]; exact hkC) (by rw [g2]; exact va_assign hcls) rfl rfl d fun H1 e z oq => ?_
  refine kk H1 _ ls (hw.upd he z oq ?_) (hS.put z oq hBa) hlv
  show H1[a]? = some (vp_cell _ _)
  rw [e]
  show some ((vp_cell _ _).setSlot _ _) = _
  rw [vp_cell_q, vp_cell_q, arrV_store]
  congr 2
  funext q
  by_cases hq : q = i.toNatClampNeg
  · subst hq
    simp [updV, va_up, va_rf]
  · simp [updV, va_up, hq]
theorem V.copyi (h : Cx X cc own D mcT msT) {a0 a1 n0 n1 index : Nat} {f g : Nat → Int32} {n : Int32} (N : Nat) (pc1 : Nat) (d : decode cc pc = .ok (.invokestatic index, 3)) (hp : pc + 3 = pc1) (hl : Cond.methodLink own index arraycopyName ∈ GW) (he0 : w.2 a0 = some (.inl (0, n0, .inl f))) (he1 : w.2 a1 = some (.inl (0, n1, .inl g))) (h3 : ¬ n < 0) (hN : n.toNatClampNeg = N) (h4 : N ≤ n0) (h5 : N ≤ n1) (hD : 1 ≤ D) (hst : (st.map fun v => v.category).sum ≤ 2) (kk : V X kc ks pc1 lv st (wset w a1 (.inl (0, n1, .inl (va_cpy f g 0 0 N))))) : V X kc ks pc lv (.int n :: .int 0 :: .ref a1 :: .int 0 :: .ref a0 :: st) w := by
  subst hp; subst hN; intro H locs ls hw hS hlv
  have hts := h.2.2.2.1
  have hK := h.2.2.2.2.1.1
  intro T hT Y
  obtain ⟨-, hc0⟩ := hw.lo he0
  obtain ⟨hBa, hc1⟩ := hw.lo he1
  have hc0 : H[a0]? = some (vp_cell (X.g.2 0) (n0, .inl f)) := hc0
  have hc1 : H[a1]? = some (vp_cell (X.g.2 0) (n1, .inl g)) := hc1
  obtain ⟨-, k0, hk0, cm0, hkk0⟩ := (hK.2 0 _ rfl).1 n0 (fun j => .int (f j))
  obtain ⟨-, k1, hk1, cm1, hkk1⟩ := (hK.2 0 _ rfl).1 n1 (fun j => .int (g j))
  have nn : n.toInt = (n.toNatClampNeg : Int) := by
    have hz0 : (0 : Int) ≤ n.toInt := by
      have := Int32.not_lt.mp h3
      simpa using Int32.le_iff_toInt_le.mp this
    show n.toInt = ((n.toInt.toNat : Nat) : Int)
    omega
  have z0 : (0 : Int32).toNatClampNeg = 0 := rfl
  obtain ⟨vm', X', step⟩ := Y.arraycopy h.1 h.2.2.1 (hts _ hl) (hts _ k237) (hts _ k236) (hts _ k7) (src := a0) (dst := a1) (cs := vp_cell (X.g.2 0) (n0, .inl f)) (cd := vp_cell (X.g.2 0) (n1, .inl g)) (srcPos := 0) (destPos := 0) (n := n) (by rw [hT]; exact hc0) (by rw [hT]; exact hc1)
    (fun _ h => by cases h) (fun _ h => by cases h) (fun h => by cases h) (fun h => by cases h) hk0 hk1 hkk0 hkk1 (by simp [refKind]) (by decide) (by decide) h3
    (by rw [nn]; show ¬ _ > ((arrV _ n0 (fun j => .int (f j))).slots.size : Int); rw [arrV_size]; simp; omega)
    (by rw [nn]; show ¬ _ > ((arrV _ n1 (fun j => .int (g j))).slots.size : Int); rw [arrV_size]; simp; omega)
    (fun vm₁ _ i hi => by
      have e : (vp_cell (X.g.2 0) (n0, .inl f)).slots.getD ((0 : Int32).toNatClampNeg + i) .null = .int (f ((0 : Int32).toNatClampNeg + i)) := by
        show (arrV _ n0 (fun j => .int (f j))).slots.getD _ _ = _
        rw [Array.getD_eq_getD_getElem?, arrV_read _ _ (by rw [z0]; omega)]
        rfl
      refine ⟨?_, ?_⟩
      · rw [e]
        rfl
      · rw [e]
        exact trivial)
    (g := F0 X.m pc ls (.int n :: .int 0 :: .ref a1 :: .int 0 :: .ref a0 :: st)) rfl (by rw [hlv.2.1]) (rest := st) rfl (by rw [h.2.1]; exact d) (by have := h.2.2.2.2.2.2.1; omega) (by
      have h8 := h.2.2.2.2.2.2.2.1
      have h9 : nativeFrameWords "java/lang/System" "arraycopy" 5 + 11 ≤ 37 := by decide
      show 2 * 0 + _ + _ ≤ _
      omega)
  have e1 : copied (vp_cell (X.g.2 0) (n0, .inl f)) (vp_cell (X.g.2 0) (n1, .inl g)) 0 0 n = vp_cell (X.g.2 0) (n1, .inl (va_cpy f g 0 0 n.toNatClampNeg)) := va_copied (sp := 0) (dp := 0) (fun z => .int z) (X.g.2 0) (X.g.2 0) f g (show 0 + n.toNatClampNeg ≤ n0 by omega)
  rw [e1] at X' step
  have hl1 : a1 < H.size := (Array.getElem?_eq_some_iff.mp hc1).1
  have hheap : ((T.setVm vm').setCell a1 (vp_cell (X.g.2 0) (n1, .inl (va_cpy f g 0 0 n.toNatClampNeg)))).heap = H.setIfInBounds a1 (vp_cell (X.g.2 0) (n1, .inl (va_cpy f g 0 0 n.toNatClampNeg))) := by rw [← hT]; rfl
  have oq : ∀ q : Nat, q ≠ a1 → (H.setIfInBounds a1 (vp_cell (X.g.2 0) (n1, .inl (va_cpy f g 0 0 n.toNatClampNeg))))[q]? = H[q]? := fun q hq => by simp [Array.getElem?_setIfInBounds, Ne.symm hq]
  obtain ⟨t, a2, b2⟩ := kk _ _ ls (hw.upd (e1 := .inl (0, n1, .inl (va_cpy f g 0 0 n.toNatClampNeg))) he1 (by simp) oq (show (H.setIfInBounds a1 _)[a1]? = some _ by simp [Array.getElem?_setIfInBounds, hl1])) ⟨by simp; exact hS.1, fun q g1 g2 => by
      rw [oq q (fun e => g2 (by rw [e]; exact hBa))]
      exact hS.2.1 q g1 g2, fun q hq => by
      rcases List.mem_append.mp hq with h | h
      · exact hS.2.2 q h
      · obtain ⟨z, -, hz⟩ := List.mem_map.mp h
        rw [← hz]
        exact hBa⟩ hlv _ hheap X'
  exact ⟨t, step t a2, b2⟩
/-! making -/
theorem V.newa (h : Cx X cc own D mcT msT) {atype : ArrayType} {n : Int32} (t N : Nat) (a0 : vp_A) (pc1 : Nat) (d : decode cc pc = .ok (.newarray atype, 2)) (hp : pc + 2 = pc1) (harr : Cond.arrayClass (newarray.typeOf atype) ∈ GW) (ht : ∀ g : GG, (tysG g)[t]? = some (g.2 t, newarray.typeOf atype)) (hRA : ∀ U cA, va_RA U cA (newarray.typeOf atype) = (U.vm.findClass ("[" ++ (newarray.typeOf atype).toString) = some cA)) (ha : ∀ cA : ClassId, vp_cell cA a0 = arrV cA N (fun _ => defaultValue (newarray.typeOf atype))) (hn : ¬ n < 0) (hN : n.toNatClampNeg = N) (hby : N * componentBytes (newarray.typeOf atype) ≤ 536870912) (hkc : kc + 1 ≤ mcT) (hks : ks + N ≤ msT) (kk : V X (kc + 1) (ks + N) pc1 lv (.ref w.1 :: st) (wnew w (.inl (t, a0)))) : V X kc ks pc lv (.int n :: st) w := by
  subst hp; intro H locs ls hw hS hlv
  refine va_newaK h.1 h.2.1 (h.2.2.2.1 _ harr) rfl d rfl hn hN hby (Nat.le_trans hkc h.2.2.2.2.2.2.2.2.1) (Nat.le_trans hks h.2.2.2.2.2.2.2.2.2) (h := w.1) hw.1 fun H1 cA e1 z1 o1 hAr hNm => ?_
  have hcA : X.g.2 t = cA := by
    have h5 := (h.2.2.2.2.1.1.2 t _ (ht X.g)).2
    rw [hRA] at h5
    exact Option.some.inj (h5.symm.trans hNm)
  obtain ⟨hz, hB, L, F, hP, hD, hW⟩ := id hw
  rw [← hz] at e1 z1 o1
  have hk : ∀ (k : Nat) (x : Nat × va_E), (va_pl L F)[k]? = some x → H1[x.1]? = H[x.1]? := fun k x hx => o1 x.1 ((hP k x hx).lt)
  refine kk H1 _ ls (hw.push z1 hP hW (e1 := .inl (t, a0)) ((hP.kept hk).app (fun k x hx => ?_)) (hD.push hP rfl (hB))) ⟨Nat.le_trans hS.1 (by omega), fun x h1 h2 => (o1 x (Nat.lt_of_lt_of_le h1 hS.1)).trans (hS.2.1 x h1 h2), hS.2.2⟩ hlv
  have hz2 : k < 1 := (List.getElem?_eq_some_iff.mp hx).1
  rw [show k = 0 by omega] at hx
  cases hx
  show H1[H.size]? = some (vp_cell _ _)
  rw [ha, e1]
  show _ = some (arrV (X.g.2 t) _ _)
  rw [hcA]
theorem V.new (h : Cx X cc own D mcT msT) {C : String} {T : u_T} {N ci index : Nat} {ty : Nat → FieldType} (fs : List Value) (pc1 : Nat) (d : decode cc pc = .ok (.new index, 3)) (hp : pc + 3 = pc1) (hin : ∀ q ∈ u_ws C T N, q ∈ GW) (hc : vwCl[ci]? = some (C, T, N)) (hty : ∀ k, k < N → parseFieldDescriptor (T k).2.2.1 = some (ty k)) (hcl : Cond.classLink own index C ∈ GW) (hinst : Cond.instantiable C N ∈ GW) (hini : Cond.initialized C ∈ GW) (hfs : ∀ j, j < N → defaultValue (ty j) = vp_V fs j) (hkc : kc + 1 ≤ mcT) (hks : ks + N ≤ msT) (kk : V X (kc + 1) (ks + N) pc1 lv (.ref w.1 :: st) (wnew w (.inr (ci, fs)))) : V X kc ks pc lv st w := by
  subst hp; intro H locs ls hw hS hlv
  have hts := h.2.2.2.1
  have hKn := h.2.2.2.2.1.1.1 ci _ hc
  refine W.newcK h.1 h.2.1 h.2.2.1 (hts _ hcl) (hts _ hinst) (hts _ hini) rfl d (Nat.le_trans hkc h.2.2.2.2.2.2.2.2.1) (Nat.le_trans hks h.2.2.2.2.2.2.2.2.2) hKn.2.1 (h := w.1) hw.1 fun H1 kC hkC e1 z1 o1 => ?_
  obtain ⟨hz, hB, L, F, hP, hD, hW⟩ := id hw
  rw [← hz] at e1 z1 o1
  have hk : ∀ (k : Nat) (x : Nat × va_E), (va_pl L F)[k]? = some x → H1[x.1]? = H[x.1]? := fun k x hx => o1 x.1 ((hP k x hx).lt)
  refine kk H1 _ ls (hw.push z1 hP hW (e1 := .inr (ci, fs)) ((hP.kept hk).app (fun k x hx => ?_)) (hD.push hP rfl (hB))) ⟨Nat.le_trans hS.1 (by omega), fun x h1 h2 => (o1 x (Nat.lt_of_lt_of_le h1 hS.1)).trans (hS.2.1 x h1 h2), hS.2.2⟩ hlv
  have hz2 : k < 1 := (List.getElem?_eq_some_iff.mp hx).1
  rw [show k = 0 by omega] at hx
  cases hx
  exact ⟨_, hc, (u_born ty hts hin hKn hkC e1 hty).to hfs⟩
theorem V.anew (h : Cx X cc own D mcT msT) {index : Nat} {n : Int32} (N : Nat) (pc1 : Nat) (d : decode cc pc = .ok (.anewarray index, 3)) (hp : pc + 3 = pc1) (hcl : Cond.classLink own index RX2 ∈ GW) (hn : ¬ n < 0) (hN : n.toNatClampNeg = N) (hby : N * 4 ≤ 536870912) (hkc : kc + 1 ≤ mcT) (hks : ks + N ≤ msT) (kk : V X (kc + 1) (ks + N) pc1 lv (.ref w.1 :: st) (wnew w (.inl (3, N, .inr (.inr (.inr (.inr (fun _ => none)))))))) : V X kc ks pc lv (.int n :: st) w := by
  subst hp; subst hN; intro H locs ls hw hS hlv
  refine W.anew h.1 h.2.1 h.2.2.1 (h.2.2.2.1 _ hcl) (va_AO.use h.2.2.2.2.1.2.1) rfl d rfl hn hby (Nat.le_trans hkc h.2.2.2.2.2.2.2.2.1) (Nat.le_trans hks h.2.2.2.2.2.2.2.2.2) fun cA kA comp f1 f2 f3 f4 => ?_
  have hcA : X.g.2 3 = cA := by
    obtain ⟨kA', comp', k1, k2, k3, k4⟩ := (h.2.2.2.2.1.1.2 3 _ rfl).2
    exact Option.some.inj (k4.symm.trans f1)
  generalize hH1 : H.push ({ cls := cA, slots := Array.replicate n.toNatClampNeg .null, vm := .none } : Cell) = H1
  have z1 : H1.size = H.size + 1 := by rw [← hH1, Array.size_push]
  have e1 : H1[H.size]? = some (arrV cA n.toNatClampNeg (fun _ => .null)) := by rw [← hH1, Array.getElem?_push_size, ← arrV_new]
  have o1 : ∀ q : Nat, q < H.size → H1[q]? = H[q]? := fun q hq => by rw [← hH1, Array.getElem?_push, if_neg (Nat.ne_of_lt hq)]
  obtain ⟨hz, hB, L, F, hP, hD, hW⟩ := id hw
  have hk : ∀ (k : Nat) (x : Nat × va_E), (va_pl L F)[k]? = some x → H1[x.1]? = H[x.1]? := fun k x hx => o1 x.1 ((hP k x hx).lt)
  rw [hz]
  refine kk H1 _ ls (hw.push z1 hP hW (e1 := .inl (3, n.toNatClampNeg, .inr (.inr (.inr (.inr (fun _ => none)))))) ((hP.kept hk).app (fun k x hx => ?_)) (hD.push hP rfl (hB))) ⟨Nat.le_trans hS.1 (by omega), fun x h1 h2 => (o1 x (Nat.lt_of_lt_of_le h1 hS.1)).trans (hS.2.1 x h1 h2), hS.2.2⟩ hlv
  have hz2 : k < 1 := (List.getElem?_eq_some_iff.mp hx).1
  rw [show k = 0 by omega] at hx
  cases hx
  show H1[H.size]? = some (vp_cell _ _)
  rw [e1]
  show _ = some (vp_cell (X.g.2 3) _)
  rw [hcA, vp_cell_q]
  rfl
end VR
