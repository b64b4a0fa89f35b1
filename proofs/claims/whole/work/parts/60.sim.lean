/-! the record of the class and the row of the reference -/
def SL (P : Pl) (s : Nat → Int32) (k : Nat) : Prop := P 8 k = sF s k 1 ∧ P 9 k = sF s k 2 ∧ P 10 k = sF s k 3 ∧ P 11 k = sF s k 4 ∧ P 12 k = sF s k 5 ∧ P 13 k = sF s k 7
def Sim (P : Pl) (s : Nat → Int32) : Prop :=
  (P 0 0 = s 0 ∧ P 2 0 = vP s 2 0 ∧ P 3 0 = s 1 ∧ P 6 0 = vP s 6 0 ∧ P 7 0 = vP s 7 0 ∧ P 14 0 = s 2 ∧ P 15 0 = s 3 ∧ P 16 0 = s 4) ∧ (∀ k, k < 4 → P 1 k = s (5 + 2 * k)) ∧ (∀ k, k < 8 → P 4 k = s (13 + 2 * k) ∧ P 5 k = s (13 + 2 * k + 1)) ∧ ∀ k, k < 12 → sThere s k = true → SL P s k
/-- a condition as it can be made -/
def KC (s : Nat → Int32) (k : Nat) : Prop := sF s k 4 = 0 ∨ sF s k 4 = 1 ∨ sF s k 4 = 2 ∨ (sF s k 4 = 3 ∧ ∃ v, v < 8 ∧ sF s k 5 = nI v) ∨ (sF s k 4 = 4 ∧ ∃ v, v < 4 ∧ sF s k 5 = nI v)
/-- a pledge that there is -/
def PKt (s : Nat → Int32) (np nq mm : Nat) (τ : Nat → Nat) (k : Nat) : Prop :=
  (∃ i, i < nq ∧ sF s k 1 = nI i) ∧ (∃ j, j < np ∧ sF s k 2 = nI j ∧ sCalled s k = decide (s (5 + 2 * j + 1) = 1)) ∧ (∃ a, 1 ≤ a ∧ a ≤ 999 ∧ sF s k 3 = nI a) ∧ KC s k ∧ sF s k 7 = nI (τ k) ∧ τ k < mm
def Inv (s : Nat → Int32) (mm : Nat) : Prop := ∃ np nq τ, np ≤ 4 ∧ nq ≤ 8 ∧ s 0 = nI np ∧ s 1 = nI nq ∧ s 2 = nI mm ∧ (∀ j, j < np → ∃ G, 1 ≤ G ∧ G ≤ 999 ∧ s (5 + 2 * j) = nI G) ∧
  (∀ k, k < 12 → sThere s k = false → sF s k 0 = 0) ∧ (∀ k, k < 12 → sThere s k = true → PKt s np nq mm τ k) ∧ ∀ k j, k < 12 → j < 12 → sThere s k = true → sThere s j = true → τ k = τ j → k = j
theorem KC.c {s : Nat → Int32} {k : Nat} (h : KC s k) : cOKc (vP s) k := h
theorem Inv.ok {s : Nat → Int32} {mm : Nat} (h : Inv s mm) : sOK s := by
  obtain ⟨np, nq, τ, -, -, -, -, -, -, -, h8, -⟩ := h
  intro k hk hb
  rw [open_bt s hk, Bool.and_eq_true] at hb
  exact (h8 k hk hb.1).2.2.2.1.c.k
section SIM
variable {P : Pl} {s : Nat → Int32} {mm : Nat}
theorem Sim.live (h : Sim P s) : live P = _root_.Jvm.Pilot.CPledgeTipsLaw_law_r3089_549eb5.live (vP s) := by
  show P 6 0 ||| P 7 0 = vP s 6 0 ||| vP s 7 0
  rw [h.1.2.2.2.1, h.1.2.2.2.2.1]
theorem Sim.cg (h : Sim P s) : Cg P (vP s) (_root_.Jvm.Pilot.CPledgeTipsLaw_law_r3089_549eb5.live P) := by
  refine ⟨fun k hk => h.2.1 k hk, fun k hk hb => ?_⟩
  rw [h.live, live_bt s hk] at hb
  obtain ⟨a, b, c, d, e, -⟩ := h.2.2.2 k hk hb
  exact ⟨a, b, c, d, e⟩
theorem Sim.lb (h : Sim P s) {k : Nat} (hk : k < 12) : Bt (_root_.Jvm.Pilot.CPledgeTipsLaw_law_r3089_549eb5.live P) k = sThere s k := by rw [h.live, live_bt s hk]
theorem Sim.pok (h : Sim P s) (hI : Inv s mm) : POK P := by
  obtain ⟨np, nq, τ, h4, h8, -, -, -, -, -, hp, -⟩ := hI
  refine ⟨by rw [h.live]; exact live_lo s, fun k hk hb => ?_⟩
  rw [h.lb hk] at hb
  obtain ⟨⟨i, hi, ei⟩, ⟨j, hj, ej, -⟩, -, hc, -⟩ := hp k hk hb
  obtain ⟨a, b, c, d, e, -⟩ := h.2.2.2 k hk hb
  refine ⟨⟨j, by omega, b.trans ej⟩, ⟨i, by omega, a.trans ei⟩, ?_⟩
  unfold cOKc; rw [d, e]; exact hc
theorem sb_lv (h : Sim P s) {S : Int32} (hS : sb S (_root_.Jvm.Pilot.CPledgeTipsLaw_law_r3089_549eb5.live P)) : ∀ k, k < 12 → Bt S k = true → Bt (_root_.Jvm.Pilot.CPledgeTipsLaw_law_r3089_549eb5.live (vP s)) k = true := fun k hk hb => by rw [← h.live]; exact hS k hb
end SIM
/-! one more pledge for nobody -/
def Wk (P : Pl) (S : Int32) : Prop := ∀ k, k < 12 → Bt S k = true → (∃ t, t < 4 ∧ P 9 k = nI t) ∧ kOK P k
section NX
variable {P : Pl} {x : Ex}
theorem mny_nx (hx : x.1 = -1) {S j : Int32} (hj : ∃ t, t < 4 ∧ j = nI t) : mny P x S j = mny P noX S j := by
  obtain ⟨t, ht, rfl⟩ := hj
  unfold mny
  rw [hx, show noX.1 = (-1 : Int32) from rfl, if_neg (m1_ne (by omega)), if_neg (m1_ne (by omega))]
theorem mnn_nx (hx : x.1 = -1) {S j : Int32} (hj : ∃ t, t < 4 ∧ j = nI t) : mnn P x S j = mnn P noX S j := by
  obtain ⟨t, ht, rfl⟩ := hj
  unfold mnn
  rw [hx, show noX.1 = (-1 : Int32) from rfl, if_neg (m1_ne (by omega))]
theorem hld_nx (hx : x.1 = -1) {S : Int32} {k : Nat} (ht : ∃ t, t < 4 ∧ P 9 k = nI t) (hc : kOK P k) : hld P x k S = hld P noX k S := by
  unfold hld
  rw [mny_nx hx ht, mnn_nx hx ht]
  by_cases h0 : P 11 k = 0
  · rw [if_pos h0, if_pos h0]
  by_cases h1 : P 11 k = 1
  · rw [if_neg h0, if_neg h0, if_pos h1, if_pos h1]
  by_cases h2 : P 11 k = 2
  · rw [if_neg h0, if_neg h0, if_neg h1, if_neg h1, if_pos h2, if_pos h2]
  by_cases h3 : P 11 k = 3
  · rw [if_neg h0, if_neg h0, if_neg h1, if_neg h1, if_neg h2, if_neg h2, if_pos h3, if_pos h3]
  · rw [if_neg h0, if_neg h0, if_neg h1, if_neg h1, if_neg h2, if_neg h2, if_neg h3, if_neg h3]
    have h4 : ∃ j, j < 4 ∧ P 12 k = nI j := by
      rcases hc with q | q | q | q | q
      · exact absurd q h0
      · exact absurd q h1
      · exact absurd q h2
      · exact absurd q h3
      · exact q
    rw [mny_nx hx h4]
theorem fal_nx (hx : x.1 = -1) {S C : Int32} (hW : Wk P S) : fal P x S C = fal P noX S C := by
  unfold fal
  refine mk_congr fun k hk => ?_
  cases hb : Bt S k
  · simp
  · rw [hld_nx hx (hW k hk hb).1 (hW k hk hb).2]
theorem Wk.gs {S C : Int32} (h : Wk P S) (n : Nat) : Wk P (_root_.Jvm.Pilot.CPledgeTipsLaw_law_r3089_549eb5.gs P x C n S) := fun k hk hb => h k hk (gs_sub n hb)
theorem gs_nx (hx : x.1 = -1) {S C : Int32} (hW : Wk P S) : ∀ n, gs P x C n S = gs P noX C n S
  | 0 => rfl
  | n + 1 => by rw [gs_s, gs_s, ← gs_nx hx hW n, fal_nx hx (hW.gs n)]
theorem grt_nx (hx : x.1 = -1) {S C : Int32} (hW : Wk P S) : grt P x S C = grt P noX S C := gs_nx hx hW 12
theorem nw_nx (hx : x.1 = -1) {S C : Int32} (hW : Wk P S) : ∀ n, nw P x S C n = nw P noX S C n
  | 0 => rfl
  | n + 1 => by rw [nw, nw, nw_nx hx hW n, ← gs_nx hx hW n, fal_nx hx (hW.gs n)]
theorem wvm_nx (hx : x.1 = -1) {S C : Int32} {old : Nat → Int32} (hW : Wk P S) : ∀ n, wvm P x S C old n = wvm P noX S C old n
  | 0 => rfl
  | n + 1 => by rw [wvm, wvm, wvm_nx hx hW n, ← gs_nx hx hW n, fal_nx hx (hW.gs n)]
end NX
/-! the same of both -/
section SAME
variable {P : Pl} {s : Nat → Int32} {x : Ex} {mm : Nat}
theorem Sim.wk (h : Sim P s) (hI : Inv s mm) {S : Int32} (hS : sb S (_root_.Jvm.Pilot.CPledgeTipsLaw_law_r3089_549eb5.live P)) : Wk (vP s) S := fun k hk hb => by
  have h1 := h.pok hI
  obtain ⟨⟨t, ht, e⟩, -, hc⟩ := h1.2 k hk (hS k hb)
  obtain ⟨-, e9, -, e11, e12⟩ := h.cg.2 k hk (hS k hb)
  refine ⟨⟨t, ht, by rw [← e9]; exact e⟩, ?_⟩
  have := hc.k
  unfold kOK at *
  rw [← e11, ← e12]; exact this
theorem Sim.k (h : Sim P s) (hI : Inv s mm) {S : Int32} (hS : sb S (_root_.Jvm.Pilot.CPledgeTipsLaw_law_r3089_549eb5.live P)) : ∀ k, k < 12 → Bt S k = true → kOK P k := (h.pok hI).k hS
theorem fal_sm (h : Sim P s) (hI : Inv s mm) (hx : x.1 = -1) {S C : Int32} (hS : sb S (live P)) (hC : sb C (live P)) : fal (vP s) x S C = fal P noX S C := by
  rw [fal_nx hx (h.wk hI hS), fal_cg h.cg (h.k hI hS) b12.rf hS.s12 hC.s12]
theorem grt_sm (h : Sim P s) (hI : Inv s mm) (hx : x.1 = -1) {S C : Int32} (hS : sb S (live P)) (hC : sb C (live P)) : grt (vP s) x S C = grt P noX S C := by
  rw [grt_nx hx (h.wk hI hS), grt_cg h.cg (h.k hI hS) b12.rf hS.s12 hC.s12]
theorem nw_sm (h : Sim P s) (hI : Inv s mm) (hx : x.1 = -1) {S C : Int32} (hS : sb S (live P)) (hC : sb C (live P)) (n : Nat) : nw (vP s) x S C n = nw P noX S C n := by
  rw [nw_nx hx (h.wk hI hS), nw_cg h.cg (h.k hI hS) b12.rf hS.s12 hC.s12]
theorem wvm_sm (h : Sim P s) (hI : Inv s mm) (hx : x.1 = -1) {S C : Int32} {old : Nat → Int32} (hS : sb S (live P)) (hC : sb C (live P)) (n : Nat) : wvm (vP s) x S C old n = wvm P noX S C old n := by
  rw [wvm_nx hx (h.wk hI hS), wvm_cg h.cg (h.k hI hS) b12.rf hS.s12 hC.s12]
theorem std_sm (h : Sim P s) (hI : Inv s mm) (hx : x.1 = -1) (g : Int32) : std (vP s) x g = std P noX g := by
  unfold std
  rw [← h.1.2.2.2.1, ← h.1.2.2.2.2.1, grt_sm h hI hx (sb_and _ (sb_op P)) (sb_ca P)]
theorem hasG_sm (h : Sim P s) (hx : x.1 = -1) {S : Int32} (hS : sb S (live P)) {j : Nat} (hj : j < 4) : hasG (vP s) x S (nI j) = hasG P noX S (nI j) := by
  rw [hasG_cg h.cg hj hS.s12]
  unfold hasG
  rw [mny_nx hx ⟨j, hj, rfl⟩]
theorem amt_sm (h : Sim P s) {S : Int32} (hS : sb S (live P)) : amt (vP s) S = amt P S := (amt_cg h.cg hS.s12).symm
theorem forP_sm (h : Sim P s) (j : Int32) : forP (vP s) j = forP P j := (forP_cg h.cg h.live j).symm
theorem ofP_sm (h : Sim P s) (j : Int32) : ofP (vP s) j = ofP P j := (ofP_cg h.cg h.live j).symm
theorem sb_for {j : Int32} : sb (forP P j) (live P) := fun k hk => by
  unfold forP at hk
  rw [bt_mk _ _ _ (by decide), Bool.and_eq_true, Bool.and_eq_true] at hk
  exact hk.2.1
theorem sb_of' {j : Int32} : sb (ofP P j) (live P) := fun k hk => by
  unfold ofP at hk
  rw [bt_mk _ _ _ (by decide), Bool.and_eq_true, Bool.and_eq_true] at hk
  exact hk.2.1
end SAME
