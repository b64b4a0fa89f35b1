/-! more pledges, or a greater push, never do less -/
def ns (g : Nat → Nat) : Nat → Nat
  | 0 => 0
  | n + 1 => ns g n + g n
theorem sm_ns {f : Nat → Int32} {g : Nat → Nat} : ∀ {n : Nat}, (∀ k, k < n → f k = nI (g k)) → sm f n = nI (ns g n)
  | 0, _ => rfl
  | n + 1, h => by rw [sm_s, ns, sm_ns (fun k hk => h k (by omega)), h n (by omega), nI_add]
theorem ns_le {f g : Nat → Nat} : ∀ {n : Nat}, (∀ k, k < n → f k ≤ g k) → ns f n ≤ ns g n
  | 0, _ => Nat.le_refl _
  | n + 1, h => by
    have h1 := ns_le (n := n) (fun k hk => h k (by omega))
    have h2 := h n (by omega)
    rw [ns, ns]; omega
theorem ns_bd {g : Nat → Nat} {b : Nat} : ∀ {n : Nat}, (∀ k, k < n → g k ≤ b) → ns g n ≤ n * b
  | 0, _ => by rw [ns]; omega
  | n + 1, h => by
    have h1 := ns_bd (n := n) (fun k hk => h k (by omega))
    have h2 := h n (by omega)
    rw [ns, Nat.succ_mul]; omega
/-- amounts of the live -/
def AM (P : Pl) (am : Nat → Nat) : Prop := ∀ k, k < 12 → Bt (live P) k = true → P 10 k = nI (am k) ∧ am k ≤ 999
theorem mny_ns {P : Pl} {am : Nat → Nat} (hA : AM P am) {j0 a : Nat} {x : Ex} (hx : x = noX ∨ x = (nI j0, nI a)) (ha : a ≤ 999) {S : Int32} (hS : s12 S (live P)) {j : Nat} (hj : j < 4) :
    ∃ e, e ≤ 999 ∧ (x = (nI j0, nI a) → e ≤ a) ∧ (x = (nI j, nI a) → e = a) ∧ (if x.1 = nI j then x.2 else 0) = nI e := by
  rcases hx with rfl | rfl
  · exact ⟨0, by omega, fun _ => Nat.zero_le _, fun q => absurd (congrArg Prod.fst q) (m1_ne (by omega)), by rw [show noX.1 = (-1 : Int32) from rfl, if_neg (m1_ne (by omega))]; rfl⟩
  · by_cases h : nI j0 = nI j
    · exact ⟨a, ha, fun _ => Nat.le_refl _, fun _ => rfl, if_pos h⟩
    · exact ⟨0, by omega, fun _ => Nat.zero_le _, fun q => absurd (congrArg Prod.fst q) h, if_neg h⟩
/-- one push is at most another one -/
def Xle (x x' : Ex) : Prop := x = x' ∨ ∃ j a a', j < 4 ∧ a ≤ a' ∧ a' ≤ 999 ∧ x = (nI j, nI a) ∧ x' = (nI j, nI a')
def Xok (x : Ex) : Prop := x = noX ∨ ∃ j a, j < 4 ∧ a ≤ 999 ∧ x = (nI j, nI a)
theorem Xok.e {x : Ex} (h : Xok x) {j : Nat} (hj : j < 4) : ∃ e, e ≤ 999 ∧ (if x.1 = nI j then x.2 else 0) = nI e := by
  rcases h with rfl | ⟨j0, a, h0, ha, rfl⟩
  · exact ⟨0, by omega, by rw [show noX.1 = (-1 : Int32) from rfl, if_neg (m1_ne (by omega))]; rfl⟩
  · by_cases h : nI j0 = nI j
    · exact ⟨a, ha, if_pos h⟩
    · exact ⟨0, by omega, if_neg h⟩
theorem Xle.e {x x' : Ex} (h : Xle x x') (h1 : Xok x) {j : Nat} (hj : j < 4) : ∃ e e', e ≤ e' ∧ e' ≤ 999 ∧ (if x.1 = nI j then x.2 else 0) = nI e ∧ (if x'.1 = nI j then x'.2 else 0) = nI e' := by
  rcases h with rfl | ⟨j0, a, a', h0, ha, ha', rfl, rfl⟩
  · obtain ⟨e, he, h2⟩ := h1.e hj
    exact ⟨e, e, Nat.le_refl _, he, h2, h2⟩
  · by_cases h : nI j0 = nI j
    · exact ⟨a, a', ha, ha', if_pos h, if_pos h⟩
    · exact ⟨0, 0, by omega, by omega, if_neg h, if_neg h⟩
theorem mny_le {P : Pl} {am : Nat → Nat} (hA : AM P am) {x x' : Ex} (hx : Xle x x') (h1 : Xok x) {S S' : Int32} (hS : s12 S S') (hS' : s12 S' (live P)) {j : Nat} (hj : j < 4) : mny P x S (nI j) ≤ mny P x' S' (nI j) := by
  obtain ⟨e, e', h2, h3, h4, h5⟩ := hx.e h1 hj
  have f1 : ∀ T : Int32, s12 T (live P) → sm (fun k => if (Bt T k && decide (P 9 k = nI j)) = true then P 10 k else 0) 12 = nI (ns (fun k => if (Bt T k && decide (P 9 k = nI j)) = true then am k else 0) 12) := fun T hT => sm_ns fun k hk => by
    cases hb : Bt T k
    · simp; rfl
    · rw [Bool.true_and]
      by_cases h9 : P 9 k = nI j
      · rw [decide_eq_true h9, if_pos rfl, if_pos rfl]; exact (hA k hk (hT k hk hb)).1
      · rw [decide_eq_false h9]; rfl
  have bd : ∀ T : Int32, s12 T (live P) → ns (fun k => if (Bt T k && decide (P 9 k = nI j)) = true then am k else 0) 12 ≤ 12 * 999 := fun T hT => ns_bd fun k hk => by
    cases hb : Bt T k
    · simp
    · have := (hA k hk (hT k hk hb)).2
      split <;> omega
  have le : ns (fun k => if (Bt S k && decide (P 9 k = nI j)) = true then am k else 0) 12 ≤ ns (fun k => if (Bt S' k && decide (P 9 k = nI j)) = true then am k else 0) 12 := ns_le fun k hk => by
    cases hb : Bt S k
    · simp
    · rw [hS k hk hb]; exact Nat.le_refl _
  have hSl : s12 S (live P) := fun k hk hb => hS' k hk (hS k hk hb)
  unfold mny
  rw [h4, h5, f1 S hSl, f1 S' hS', nI_add, nI_add]
  have := bd S' hS'
  exact nI_le (by omega) (by omega)
theorem mnn_le {P : Pl} {x x' : Ex} (hx : Xle x x') (h1 : Xok x) {S S' : Int32} (hS : s12 S S') {j : Nat} (hj : j < 4) : mnn P x S (nI j) ≤ mnn P x' S' (nI j) := by
  have h2 : ∀ {x : Ex}, (if x.1 = nI j then (1 : Int32) else 0) = nI (if x.1 = nI j then 1 else 0) := by
    intro x; by_cases h : x.1 = nI j
    · rw [if_pos h, if_pos h]; rfl
    · rw [if_neg h, if_neg h]; rfl
  have h3 : (if x.1 = nI j then 1 else 0) ≤ (if x'.1 = nI j then 1 else 0) := by
    rcases hx with rfl | ⟨j0, a, a', -, -, -, rfl, rfl⟩
    · exact Nat.le_refl _
    · exact Nat.le_refl _
  have h4 : (if x'.1 = nI j then 1 else 0) ≤ 1 := by split <;> omega
  have f1 : ∀ T : Int32, sm (fun k => if (Bt T k && decide (P 9 k = nI j)) = true then 1 else 0) 12 = nI (ns (fun k => if (Bt T k && decide (P 9 k = nI j)) = true then 1 else 0) 12) := fun T => sm_ns fun k hk => by
    by_cases h : (Bt T k && decide (P 9 k = nI j)) = true
    · rw [if_pos h, if_pos h]; rfl
    · rw [if_neg h, if_neg h]; rfl
  have bd : ns (fun k => if (Bt S' k && decide (P 9 k = nI j)) = true then 1 else 0) 12 ≤ 12 * 1 := ns_bd fun k hk => by split <;> omega
  have le : ns (fun k => if (Bt S k && decide (P 9 k = nI j)) = true then 1 else 0) 12 ≤ ns (fun k => if (Bt S' k && decide (P 9 k = nI j)) = true then 1 else 0) 12 := ns_le fun k hk => by
    cases hb : Bt S k
    · simp
    · rw [hS k hk hb]; exact Nat.le_refl _
  unfold mnn
  rw [h2, h2, f1, f1, nI_add, nI_add]
  exact nI_le (by omega) (by omega)
theorem isO_le {P : Pl} {S S' i : Int32} (hS : s12 S S') (h : isO P S i = true) : isO P S' i = true := by
  unfold isO at h ⊢
  rw [anyb_iff] at h ⊢
  obtain ⟨k, hk, h2⟩ := h
  rw [Bool.and_eq_true] at h2
  exact ⟨k, hk, by rw [hS k hk h2.1, h2.2]; rfl⟩
theorem wo_le {S S' : Int32} (hS : s12 S S') {i : Nat} (hi : i < 12) : s12 (wo S i) (wo S' i) := fun k hk hb => by
  rw [wo_bt _ (by omega) (by omega), Bool.and_eq_true] at hb
  rw [wo_bt _ (by omega) (by omega), hS k hk hb.1, hb.2]; rfl
theorem hld_le {P : Pl} {am : Nat → Nat} (hA : AM P am) {x x' : Ex} (hx : Xle x x') (h1 : Xok x) {S S' : Int32} (hS : s12 S S') (hS' : s12 S' (live P)) {k : Nat} (hk : k < 12) (ht : ∃ t, t < 4 ∧ P 9 k = nI t) (hc : kOK P k) (h : hld P x k S = true) : hld P x' k S' = true := by
  obtain ⟨t, ht4, e9⟩ := ht
  unfold hld at h ⊢
  rw [e9] at h ⊢
  by_cases h0 : P 11 k = 0
  · rw [if_pos h0]
  by_cases h1' : P 11 k = 1
  · rw [if_neg h0, if_pos h1'] at h ⊢
    exact decide_eq_true (Int32.le_trans (of_decide_eq_true h) (mny_le hA hx h1 (wo_le hS hk) (hS'.wo hk) ht4))
  by_cases h2 : P 11 k = 2
  · rw [if_neg h0, if_neg h1', if_pos h2] at h ⊢
    exact decide_eq_true (Int32.le_trans (of_decide_eq_true h) (mnn_le hx h1 (wo_le hS hk) ht4))
  by_cases h3 : P 11 k = 3
  · rw [if_neg h0, if_neg h1', if_neg h2, if_pos h3] at h ⊢
    exact isO_le hS h
  · rw [if_neg h0, if_neg h1', if_neg h2, if_neg h3] at h ⊢
    obtain ⟨v, hv, e⟩ : ∃ j, j < 4 ∧ P 12 k = nI j := by
      rcases hc with q | q | q | q | q
      · exact absurd q h0
      · exact absurd q h1'
      · exact absurd q h2
      · exact absurd q h3
      · exact q
    rw [e] at h ⊢
    exact decide_eq_true (Int32.le_trans (of_decide_eq_true h) (mny_le hA hx h1 hS hS' hv))
/-- what holds in itself is part of what is left -/
theorem keep {P : Pl} {am : Nat → Nat} (hA : AM P am) {x x' : Ex} (hx : Xle x x') (h1 : Xok x) {T S C : Int32} (hTS : s12 T S) (hS : s12 S (live P)) (hC : s12 C (live P)) (hW : Wk P S) (hf : fal P x T C = 0) : ∀ n, s12 T (gs P x' C n S)
  | 0 => hTS
  | n + 1 => fun k hk hb => by
    have ih := keep hA hx h1 hTS hS hC hW hf n
    have h2 := ih k hk hb
    rw [gs_s, bt_and, h2, Bool.true_and, bt_not _ (by omega), fal_bt, decide_eq_true hk, h2, Bool.true_and, Bool.true_and, Bool.not_not]
    have h3 : Bt (fal P x T C) k = false := by rw [hf, bt_0]
    rw [fal_bt, decide_eq_true hk, hb, Bool.true_and, Bool.true_and] at h3
    refine hld_le hA hx h1 (fun i hi hbi => ?_) (fun i hi hbi => ?_) hk (hW k hk (hTS k hk hb)).1 (hW k hk (hTS k hk hb)).2 (by simpa using h3)
    · rw [bt_or, Bool.or_eq_true] at hbi ⊢
      exact hbi.imp (ih i hi) (fun z => z)
    · rw [bt_or, Bool.or_eq_true] at hbi
      exact hbi.elim (fun z => hS i hi (gs_sub n z)) (hC i hi)
theorem keep_grt {P : Pl} {am : Nat → Nat} (hA : AM P am) {x x' : Ex} (hx : Xle x x') (h1 : Xok x) {T S C : Int32} (hTS : s12 T S) (hS : s12 S (live P)) (hC : s12 C (live P)) (hW : Wk P S) (hf : fal P x T C = 0) : s12 T (grt P x' S C) := keep hA hx h1 hTS hS hC hW hf 12
theorem grt_le {P : Pl} {am : Nat → Nat} (hA : AM P am) {x x' : Ex} (hx : Xle x x') (h1 : Xok x) {S C : Int32} (hS : s12 S (live P)) (hC : s12 C (live P)) (hW : Wk P S) : s12 (grt P x S C) (grt P x' S C) :=
  keep_grt hA hx h1 (fun k _ hb => gs_sub 12 hb) hS hC hW fal_end
theorem Wk.of {P : Pl} (hO : POK P) {S : Int32} (hS : sb S (live P)) : Wk P S := fun k hk hb => ⟨(hO.2 k hk (hS k hb)).1, (hO.2 k hk (hS k hb)).2.2.k⟩
theorem pdo_le {P : Pl} {am : Nat → Nat} (hA : AM P am) (hO : POK P) {j a a' : Nat} (hj : j < 4) (ha : a ≤ a') (h9 : a' ≤ 999) (h : pdo P j (nI a) = true) : pdo P j (nI a') = true := by
  have hx : Xle (nI j, nI a) (nI j, nI a') := Or.inr ⟨j, a, a', hj, ha, h9, rfl, rfl⟩
  have h1 : Xok (nI j, nI a) := Or.inr ⟨j, a, hj, by omega, rfl⟩
  unfold pdo hasG at h ⊢
  refine decide_eq_true (Int32.le_trans (of_decide_eq_true h) (mny_le hA hx h1 ?_ std_sb.s12 hj))
  intro k hk hb
  unfold std at hb ⊢
  rw [bt_or, Bool.or_eq_true] at hb ⊢
  exact hb.imp (grt_le hA hx h1 (sb_and _ (sb_op P)).s12 (sb_ca P).s12 (Wk.of hO (sb_and _ (sb_op P))) k hk) (fun z => z)
theorem pdo_G {P : Pl} {am : Nat → Nat} (hA : AM P am) {j G : Nat} (hj : j < 4) (hG : P 1 j = nI G) (h9 : G ≤ 999) : pdo P j (nI G) = true := by
  unfold pdo hasG
  rw [nI_tn (by omega), hG, mny_x (by omega)]
  refine decide_eq_true ?_
  have f1 : mny P noX (std P (nI j, nI G) 0) (nI j) = nI (ns (fun k => if (Bt (std P (nI j, nI G) 0) k && decide (P 9 k = nI j)) = true then am k else 0) 12) := by
    unfold mny
    rw [show noX.1 = (-1 : Int32) from rfl, if_neg (m1_ne (by omega)), Int32.zero_add]
    refine sm_ns fun k hk => ?_
    cases hb : Bt (std P (nI j, nI G) 0) k
    · simp; rfl
    · rw [Bool.true_and]
      by_cases h9 : P 9 k = nI j
      · rw [decide_eq_true h9, if_pos rfl, if_pos rfl]; exact (hA k hk (std_sb k hb)).1
      · rw [decide_eq_false h9]; rfl
  have bd : ns (fun k => if (Bt (std P (nI j, nI G) 0) k && decide (P 9 k = nI j)) = true then am k else 0) 12 ≤ 12 * 999 := ns_bd fun k hk => by
    cases hb : Bt (std P (nI j, nI G) 0) k
    · simp
    · have := (hA k hk (std_sb k hb)).2
      split <;> omega
  rw [f1, nI_add]
  exact nI_le (by omega) (by omega)
theorem least (p : Nat → Bool) : ∀ G, p G = true → ∃ m, m ≤ G ∧ p m = true ∧ ∀ k, k < m → p k = false := by
  intro G
  induction G using Nat.strongRecOn with
  | _ G ih =>
    intro h
    by_cases h2 : ∃ k, k < G ∧ p k = true
    · obtain ⟨k, hk, h3⟩ := h2
      obtain ⟨m, hm, h4⟩ := ih k hk h3
      exact ⟨m, by omega, h4⟩
    · refine ⟨G, Nat.le_refl _, h, fun k hk => ?_⟩
      cases h3 : p k
      · rfl
      · exact absurd ⟨k, hk, h3⟩ h2
/-- the least push -/
theorem push_ex {P : Pl} {am : Nat → Nat} (hA : AM P am) (hO : POK P) {j G : Nat} (hj : j < 4) (hG : P 1 j = nI G) (h1 : 1 ≤ G) (h9 : G ≤ 999) : ∃ m, 1 ≤ m ∧ m ≤ G ∧ pdo P j (nI m) = true ∧ (∀ k, 1 ≤ k → k < m → pdo P j (nI k) = false) ∧ ∀ k, m ≤ k → k ≤ G → pdo P j (nI k) = true := by
  obtain ⟨m, hm, h2, h3⟩ := least (fun k => decide (1 ≤ k) && pdo P j (nI k)) G (by rw [decide_eq_true h1, pdo_G hA hj hG h9]; rfl)
  rw [Bool.and_eq_true] at h2
  refine ⟨m, of_decide_eq_true h2.1, hm, h2.2, fun k hk1 hk => ?_, fun k hk hkG => pdo_le hA hO hj hk (by omega) h2.2⟩
  have := h3 k hk
  rw [decide_eq_true hk1, Bool.true_and] at this
  exact this
theorem Sim.am {P : Pl} {s : Nat → Int32} {mm : Nat} (h : Sim P s) (hI : Inv s mm) : ∃ am, AM P am := by
  obtain ⟨np, nq, τ, -, -, -, -, -, -, -, hp, -⟩ := hI
  have h1 : ∀ k, ∃ a, k < 12 → sThere s k = true → P 10 k = nI a ∧ a ≤ 999 := by
    intro k
    by_cases hk : k < 12 ∧ sThere s k = true
    · obtain ⟨a, -, h9, e⟩ := (hp k hk.1 hk.2).2.2.1
      exact ⟨a, fun _ _ => ⟨(h.2.2.2 k hk.1 hk.2).2.2.1.trans e, h9⟩⟩
    · exact ⟨0, fun a b => absurd ⟨a, b⟩ hk⟩
  refine ⟨fun k => Classical.choose (h1 k), fun k hk hb => ?_⟩
  rw [h.lb hk] at hb
  exact Classical.choose_spec (h1 k) hk hb
/-- sets that hold lie within what stands -/
theorem sets_sm {P : Pl} {s : Nat → Int32} {x : Ex} {mm : Nat} (h : Sim P s) (hI : Inv s mm) (hx : x.1 = -1) (n : Nat) : (if (decide (nI n &&& (vP s 6 0 ^^^ (-1)) = 0) && decide (fal (vP s) x (nI n) (vP s 7 0) = 0)) = true then (1 : Int32) else 0) = qSt1 P (grt P noX (P 6 0) (P 7 0)) n := by
  obtain ⟨am, hA⟩ := h.am hI
  have hO := h.pok hI
  unfold qSt1
  rw [← h.1.2.2.2.1, ← h.1.2.2.2.2.1]
  by_cases h1 : nI n &&& (P 6 0 ^^^ (-1)) = 0
  · have hs := sb_of h1
    have hsl := sb_tr hs (sb_op P)
    rw [fal_sm h hI hx hsl (sb_ca P), decide_eq_true h1]
    by_cases h2 : fal P noX (nI n) (P 7 0) = 0
    · have h3 : nI n &&& (grt P noX (P 6 0) (P 7 0) ^^^ (-1)) = 0 := by
        have h4 := keep_grt hA (Or.inl rfl) (Or.inl rfl) hs.s12 (sb_op P).s12 (sb_ca P).s12 (Wk.of hO (sb_op P)) h2
        apply bt_ext; intro k hk
        rw [bt_and, bt_not _ hk, bt_0]
        cases hb : Bt (nI n) k
        · rfl
        · have hk12 : k < 12 := by
            apply Classical.byContradiction
            intro q
            have := sb_lo hsl hO.1 k (by omega)
            rw [hb] at this; cases this
          rw [h4 k hk12 hb]; rfl
      rw [decide_eq_true h2, decide_eq_true h3]
    · rw [decide_eq_false h2, Bool.and_false, Bool.and_false]
  · have h3 : ¬ nI n &&& (grt P noX (P 6 0) (P 7 0) ^^^ (-1)) = 0 := by
      intro q
      apply h1
      have h4 := sb_of q
      apply bt_ext; intro k hk
      rw [bt_and, bt_not _ hk, bt_0]
      cases hb : Bt (nI n) k
      · rfl
      · rw [gs_sub 12 (h4 k hb)]; rfl
    rw [decide_eq_false h1, decide_eq_false h3, Bool.false_and, Bool.false_and]
