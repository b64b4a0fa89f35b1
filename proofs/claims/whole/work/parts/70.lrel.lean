/-! the law: what holds between two calls -/
theorem Sim.e12 {P P' : Pl} {s : Nat → Int32} (hE : E12 P P') (h : Sim P s) : Sim P' s := by
  obtain ⟨⟨s0, s2, s3, s6, s7, s14, s15, s16⟩, q1, q4, q8⟩ := h
  have e : ∀ f, P' f 0 = P f 0 := fun f => hE f 0 (by decide)
  refine ⟨⟨(e 0).trans s0, (e 2).trans s2, (e 3).trans s3, (e 6).trans s6, (e 7).trans s7, (e 14).trans s14, (e 15).trans s15, (e 16).trans s16⟩, fun k hk => (hE 1 k (by omega)).trans (q1 k hk), fun k hk => ⟨(hE 4 k (by omega)).trans (q4 k hk).1, (hE 5 k (by omega)).trans (q4 k hk).2⟩, fun k hk ht => ?_⟩
  obtain ⟨a, b, c, d, f, g⟩ := q8 k hk ht
  exact ⟨(hE 8 k (by omega)).trans a, (hE 9 k (by omega)).trans b, (hE 10 k (by omega)).trans c, (hE 11 k (by omega)).trans d, (hE 12 k (by omega)).trans f, (hE 13 k (by omega)).trans g⟩
def SI (P : Pl) (s : Nat → Int32) (B : Nat) : Prop := Sim P s ∧ Fl s ∧ ∃ mm, mm ≤ B ∧ Inv s mm
theorem SI.le {P : Pl} {s : Nat → Int32} {B B' : Nat} (h : SI P s B) (hB : B ≤ B') : SI P s B' := by
  obtain ⟨a, b, mm, c, d⟩ := h
  exact ⟨a, b, mm, by omega, d⟩
/-- what lies behind the row's end doesn't count -/
theorem SI.cg {P : Pl} {s s' : Nat → Int32} {B : Nat} (hs : ∀ q, q < 125 → s' q = s q) (h : SI P s B) : SI P s' B := by
  have hF : ∀ k f, k < 12 → f < 8 → sF s' k f = sF s k f := fun k f hk hf => hs _ (by omega)
  have hth : ∀ k, k < 12 → sThere s' k = sThere s k := fun k hk => by unfold sThere; rw [hF k 0 hk (by decide)]
  obtain ⟨⟨⟨s0, s2, s3, s6, s7, s14, s15, s16⟩, q1, q4, q8⟩, hFl, mm, hm, np, nq, τ, h4, h8, e0, e1, e2, hG, hz, hp, hj⟩ := h
  have hv := vP67_cg (s := s) (s' := s') fun k hk => ⟨hF k 0 hk (by decide), hF k 6 hk (by decide)⟩
  refine ⟨⟨⟨s0.trans (hs 0 (by decide)).symm, s2.trans (vP2_cg fun j hj => hs _ (by omega)).symm, s3.trans (hs 1 (by decide)).symm, s6.trans hv.1.symm, s7.trans hv.2.symm, s14.trans (hs 2 (by decide)).symm, s15.trans (hs 3 (by decide)).symm, s16.trans (hs 4 (by decide)).symm⟩, fun k hk => (q1 k hk).trans (hs _ (by omega)).symm, fun k hk => ⟨(q4 k hk).1.trans (hs _ (by omega)).symm, (q4 k hk).2.trans (hs _ (by omega)).symm⟩, fun k hk ht => ?_⟩, fun k hk => ?_, mm, hm, np, nq, τ, h4, h8, (hs 0 (by decide)).trans e0, (hs 1 (by decide)).trans e1, (hs 2 (by decide)).trans e2, fun j hjn => ?_, fun k hk ht => ?_, fun k hk ht => ?_, fun k j hk hj' ht ht' => ?_⟩
  · unfold SL
    rw [hF k 1 hk (by decide), hF k 2 hk (by decide), hF k 3 hk (by decide), hF k 4 hk (by decide), hF k 5 hk (by decide), hF k 7 hk (by decide)]
    exact q8 k hk (by rw [← hth k hk]; exact ht)
  · rw [hF k 6 hk (by decide)]; exact hFl k hk
  · rw [hs _ (by omega)]; exact hG j hjn
  · rw [hF k 0 hk (by decide)]; exact hz k hk (by rw [← hth k hk]; exact ht)
  · exact PKt.cg (fun f hf => hF k f hk hf) (fun j hjn => hs _ (by omega)) (Nat.le_refl _) (Nat.le_refl _) (hp k hk (by rw [← hth k hk]; exact ht))
  · exact hj k j hk hj' (by rw [← hth k hk]; exact ht) (by rw [← hth j hj']; exact ht')
theorem CI.ag {w u : Wd} {c n : Nat} {P S : Pl} {σ : Nat → Nat} {H : Nat → Pl} (h : CI w c n P S σ H) (ha : ∀ q, q < c + 84 → u.2 q = w.2 q) : CI u c n P S σ H := by
  obtain ⟨h1, h2, ⟨f', g', v', h3⟩, h4, h5, ⟨Px', h6⟩, h7, ⟨f'', g'', v'', h8⟩, h9, h10, h11, h12, ⟨K, h13⟩⟩ := h
  have hb : ∀ q, q < c + 84 ∨ (2 ^ 70 + c + 84) ≤ q → q < c + 84 → u.2 q = w.2 q := fun q _ hq => ha q hq
  have ra : ∀ {b m : Nat} {C : Nat → Ce}, RA w b m C → b + m ≤ c + 84 → RA u b m C := fun h hd k hk => by rw [ha _ (by omega)]; exact h k hk
  have hsa : ∀ i, sA c σ i = c + 33 + 10 * σ i := fun i => rfl
  exact ⟨(ha _ (by omega)).trans h1, ra h2 (by omega), ⟨f', g', v', ra h3 (by omega)⟩, (ha _ (by omega)).trans h4, ra h5 (by omega), ⟨Px', ra h6 (by omega)⟩, (ha _ (by omega)).trans h7, ⟨f'', g'', v'', ra h8 (by omega)⟩, (ha _ (by omega)).trans h9, fun i hi => ra (h10 i hi) (by have := hsa i; have := h11 i hi; omega), h11, h12, ⟨K, (ha _ (by omega)).trans h13⟩⟩
abbrev MA (w : Wd) (r : Nat) (M : Pl) (s : Nat → Int32) : Prop := RA w r 7 (mcl r (ua M 0 s))
theorem MA.fr {w u : Wd} {c : Nat} {M : Pl} {s : Nat → Int32} (h : MA w (c + 84) M s) (hF : Fr c w u) : MA u (c + 84) M s := fun k hk => by
  rw [hF.2 _ (by omega)]; exact h k hk
theorem MA.id {w : Wd} {r : Nat} {M : Pl} {s : Nat → Int32} (h : MA w r M s) : w = mz w r M s := (RA.id h).symm
theorem MA_mz {w : Wd} {r : Nat} {M : Pl} {s : Nat → Int32} : MA (mz w r M s) r M s := RA_rs
theorem CJ.mz {u : Wd} {c n : Nat} {P S : Pl} {H : Nat → Pl} {M : Pl} {s : Nat → Int32} (h : CJ u c n P S H) : CJ (mz u (c + 84) M s) c n P S H := by
  obtain ⟨σ, h⟩ := h
  exact ⟨σ, h.ag fun q hq => rs_out (by omega)⟩
/-- texts and history -/
def TM (S M : Pl) (l : Nat) : Prop := TOK S l ∧ M 5 0 = nI l ∧ S 0 = M 4
def HM (H : Nat → Pl) (M : Pl) (n B : Nat) : Prop := n ≤ 4 ∧ M 3 0 = nI n ∧ ∀ h, h < n → SI (H h) (fun k => M 2 (125 * h + k)) B
def LR (w : Wd) (c B : Nat) : Prop := ∃ n P S H M s l, CJ w c n P S H ∧ MA w (c + 84) M s ∧ M 6 0 = -1 ∧ TM S M l ∧ SI P s B ∧ HM H M n B
theorem HM.le {H : Nat → Pl} {M : Pl} {n B B' : Nat} (h : HM H M n B) (hB : B ≤ B') : HM H M n B' := ⟨h.1, h.2.1, fun i hi => (h.2.2 i hi).le hB⟩
theorem HM.cg {H H' : Nat → Pl} {M M' : Pl} {n B : Nat} (h : HM H M n B) (hH : ∀ i, i < n → H' i = H i) (h2 : M' 2 = M 2) (h3 : M' 3 = M 3) : HM H' M' n B := ⟨h.1, by rw [h3]; exact h.2.1, fun i hi => by rw [hH i hi, h2]; exact h.2.2 i hi⟩
theorem HM.chg {H : Nat → Pl} {M M' P : Pl} {s : Nat → Int32} {n B : Nat} {a : Int32} (h : HM H M n B) (hs : SI P s B) (hc : Chg M M' s n a) : HM (nxH n (uH H n P) a) M' (nxN n a) B := by
  unfold Chg at hc
  unfold nxH nxN
  by_cases ha : a < 0
  · rw [if_pos ha] at hc ⊢
    rw [if_pos ha]
    exact h.cg (fun i hi => by unfold uH; rw [if_neg (by omega)]) (hc 2 (by decide) (by decide) (by decide) (by decide) (by decide) (by decide) (by decide) (by decide)) (hc 3 (by decide) (by decide) (by decide) (by decide) (by decide) (by decide) (by decide) (by decide))
  · rw [if_neg ha] at hc ⊢
    rw [if_neg ha]
    obtain ⟨c2, c3, -⟩ := hc
    obtain ⟨h1, h2, h3⟩ := h
    unfold hH
    by_cases h4 : n = 4
    · subst h4
      have e1 : hN 4 = 3 := rfl
      rw [if_pos rfl, e1]
      rw [e1] at c2 c3
      refine ⟨by omega, c3, fun i hi => ?_⟩
      have e2 : rotP (uH H 4 P) i = uH H 4 P (i + 1) := if_pos (by omega)
      rw [e2, c2]
      by_cases hi3 : i = 3
      · subst hi3
        refine SI.cg (s := s) (fun q hq => ?_) (show SI (uH H 4 P 4) s B from hs)
        show hP (hS (M 2) 4) s 3 125 (125 * 3 + q) = s q
        unfold hP
        rw [if_pos (by omega)]
        exact congrArg s (by omega)
      · have e3 : uH H 4 P (i + 1) = H (i + 1) := if_neg (by omega)
        rw [e3]
        refine SI.cg (s := fun k => M 2 (125 * (i + 1) + k)) (fun q hq => ?_) (h3 (i + 1) (by omega))
        show hP (hS (M 2) 4) s 3 125 (125 * i + q) = M 2 (125 * (i + 1) + q)
        unfold hP
        rw [if_neg (by omega)]
        show cp 375 (fun k => M 2 (k + 125)) (M 2) (125 * i + q) = _
        unfold cp
        rw [if_pos (by omega)]
        exact congrArg (M 2) (show 125 * i + q + 125 = 125 * (i + 1) + q by omega)
    · have e1 : hN n = n := by unfold hN; rw [if_neg h4]
      have e4 : hS (M 2) n = M 2 := by unfold hS; rw [if_neg h4]
      rw [if_neg h4, e1]
      rw [e1, e4] at c2
      rw [e1] at c3
      refine ⟨by omega, c3, fun i hi => ?_⟩
      rw [c2]
      by_cases hin : i = n
      · have e2 : uH H n P i = P := if_pos hin
        rw [e2]
        refine SI.cg (s := s) (fun q hq => ?_) hs
        show hP (M 2) s n 125 (125 * i + q) = s q
        unfold hP
        rw [hin, if_pos (by omega)]
        exact congrArg s (by omega)
      · have e2 : uH H n P i = H i := if_neg hin
        rw [e2]
        refine SI.cg (s := fun k => M 2 (125 * i + k)) (fun q hq => ?_) (h3 i (by omega))
        show hP (M 2) s n 125 (125 * i + q) = _
        unfold hP
        rw [if_neg (by omega)]
theorem Chg.keep {M M' : Pl} {s : Nat → Int32} {n : Nat} {a : Int32} (hc : Chg M M' s n a) {g : Nat} (h1 : g = 4 ∨ g = 5 ∨ g = 6) : M' g = M g := by
  unfold Chg at hc
  by_cases ha : a < 0
  · rw [if_pos ha] at hc
    exact hc g (by omega) (by omega) (by omega) (by omega) (by omega) (by omega) (by omega) (by omega)
  · rw [if_neg ha] at hc
    exact hc.2.2 g (by omega) (by omega) (by omega) (by omega) (by omega) (by omega) (by omega) (by omega) (by omega) (by omega)
/-- behind a change -/
theorem LR_chg {w u : Wd} {c n l B B' : Nat} {P P' S M M' : Pl} {H : Nat → Pl} {s s' : Nat → Int32} {a a' : Int32} (hMA : MA w (c + 84) M s) (h6 : M 6 0 = -1) (hT : TM S M l) (hH : HM H M n B) (hS : SI P s B) (hJ : CJ u c (nxN n a) P' S (nxH n (uH H n P) a)) (hc : Chg M M' s n a') (ha : a = a') (hB : B ≤ B') (hS' : SI P' s' B') : LR (mz u (c + 84) M' s') c B' := by
  subst ha
  refine ⟨nxN n a, P', S, nxH n (uH H n P) a, M', s', l, hJ.mz, MA_mz, ?_, ⟨hT.1, ?_, ?_⟩, hS', (hH.chg hS hc).le hB⟩
  · rw [hc.keep (Or.inr (Or.inr rfl))]; exact h6
  · rw [hc.keep (Or.inr (Or.inl rfl))]; exact hT.2.1
  · rw [hc.keep (Or.inl rfl)]; exact hT.2.2
/-- behind a question -/
theorem LR_ask {u : Wd} {c n l B B' : Nat} {P S M M' : Pl} {H : Nat → Pl} {s : Nat → Int32} (h6 : M' 6 0 = -1) (hT : TM S M l) (hH : HM H M n B) (hJ : CJ u c n P S H) (hc : ∀ g, g = 2 ∨ g = 3 ∨ g = 4 ∨ g = 5 → M' g = M g) (hB : B ≤ B') (hS' : SI P s B) : LR (mz u (c + 84) M' s) c B' :=
  ⟨n, P, S, H, M', s, l, hJ.mz, MA_mz, h6, ⟨hT.1, by rw [hc 5 (by omega)]; exact hT.2.1, by rw [hc 4 (by omega)]; exact hT.2.2⟩, hS'.le hB, (hH.cg (fun _ _ => rfl) (hc 2 (by omega)) (hc 3 (by omega))).le hB⟩
/-- places that can be tried -/
def IP (P : Pl) : Prop := ∃ s mm, Sim P s ∧ Inv s mm
def IS (s : Nat → Int32) : Prop := ∃ P mm, Sim P s ∧ Inv s mm
theorem IP.pre (P : Pl) (h : IP P) : cPre P := by obtain ⟨s, mm, a, b⟩ := h; exact a.pre b
theorem IP.st (P : Pl) (c : Int32) (N : Nat → Int32) (h : IP P) : IP (cDo P c N).2 := by
  have h0 := h
  obtain ⟨s, mm, a, b⟩ := h
  by_cases hc : c = 103 ∨ c = 104 ∨ c = 112 ∨ c = 119 ∨ c = 99
  · obtain ⟨-, d2, m', -, d4⟩ := do_sm (x := noX) (N := N) (N' := N) a b rfl hc (fun _ _ => rfl)
    exact ⟨_, m', d2, d4⟩
  · have e : cDo P c N = (-1, P) := by
      unfold cDo
      rw [if_neg (fun q => hc (Or.inl q)), if_neg (fun q => hc (Or.inr (Or.inl q))), if_neg (fun q => hc (Or.inr (Or.inr (Or.inl q)))), if_neg (fun q => hc (Or.inr (Or.inr (Or.inr (Or.inl q))))), if_neg (fun q => hc (Or.inr (Or.inr (Or.inr (Or.inr q)))))]
    rw [e]; exact h0
theorem IS.pre {x : Ex} (s : Nat → Int32) (h : IS s) : sPre s x := by obtain ⟨P, mm, a, b⟩ := h; exact b.pre x
theorem IS.st {x : Ex} (hx : x.1 = -1) (s : Nat → Int32) (c : Int32) (N : Nat → Int32) (h : IS s) : IS (mDo s x c N).2 := by
  obtain ⟨P, mm, a, b⟩ := h
  by_cases hc : c = 103 ∨ c = 104 ∨ c = 112 ∨ c = 119
  · obtain ⟨-, d2, m', -, d4⟩ := do_sm (x := x) (N := N) (N' := N) a b hx (hc.elim Or.inl fun q => Or.inr (q.elim Or.inl fun q => Or.inr (q.elim Or.inl fun q => Or.inr (Or.inl q)))) (fun _ _ => rfl)
    exact ⟨_, m', d2, d4⟩
  · have e : mDo s x c N = mDo s x 99 N := by
      unfold mDo
      rw [if_neg (fun q => hc (Or.inl q)), if_neg (fun q => hc (Or.inr (Or.inl q))), if_neg (fun q => hc (Or.inr (Or.inr (Or.inl q)))), if_neg (fun q => hc (Or.inr (Or.inr (Or.inr q)))), if_neg (by decide), if_neg (by decide), if_neg (by decide), if_neg (by decide)]
    rw [e]
    obtain ⟨-, d2, m', -, d4⟩ := do_sm (x := x) (N := N) (N' := N) a b hx (Or.inr (Or.inr (Or.inr (Or.inr rfl)))) (fun _ _ => rfl)
    exact ⟨_, m', d2, d4⟩
theorem pdo_sm {P : Pl} {s : Nat → Int32} {mm : Nat} (h : Sim P s) (hI : Inv s mm) {j : Nat} (hj : j < 4) (a : Int32) : pdo (vP s) j a = pdo P j a := by
  unfold pdo
  have e1 : std P (nI j, a) 0 = std (vP s) (nI j, a) 0 := std_cg h.cg (h.k hI (sb_op P)) h.1.2.2.2.1 h.1.2.2.2.2.1
  rw [← e1, hasG_cg h.cg hj std_sb.s12]
/-- the push that both find -/
theorem push_m {P : Pl} {s : Nat → Int32} {mm np : Nat} (h : Sim P s) (hI : Inv s mm) (e0 : s 0 = nI np) (h4 : np ≤ 4) (y : Int32) : ∃ m, (∀ j, j < np → y = nI j → ∃ G, P 1 j = nI G ∧ G ≤ 999 ∧ 1 ≤ m ∧ m ≤ G ∧ (∀ k, 1 ≤ k → k < m → pdo P j (nI k) = false) ∧ ∀ k, m ≤ k → k ≤ G → pdo P j (nI k) = true) ∧ ∀ j, j < np → y = nI j → isPush (vP s) y m := by
  by_cases hy : ∃ j, j < np ∧ y = nI j
  · obtain ⟨j, hj, ey⟩ := hy
    obtain ⟨am, hA⟩ := h.am hI
    have hO := h.pok hI
    obtain ⟨G, hG1, hG9, eG⟩ : ∃ G, 1 ≤ G ∧ G ≤ 999 ∧ P 1 j = nI G := by
      obtain ⟨np', nq, τ, hnp', -, e0', -, -, hG, -⟩ := hI
      have : np' = np := nI_inj (by omega) (by omega) (e0'.symm.trans e0)
      obtain ⟨G, a, b, d⟩ := hG j (by omega)
      exact ⟨G, a, b, (h.2.1 j (by omega)).trans d⟩
    obtain ⟨m, m1, m2, m3, m4, m5⟩ := push_ex hA hO (show j < 4 by omega) eG hG1 hG9
    refine ⟨m, fun i hi ei => ?_, fun i hi ei => ?_⟩
    · have : i = j := nI_inj (by omega) (by omega) (ei.symm.trans ey)
      subst this
      exact ⟨G, eG, hG9, m1, m2, m4, m5⟩
    · have : i = j := nI_inj (by omega) (by omega) (ei.symm.trans ey)
      subst this
      rw [ey]
      exact ⟨m1, by omega, (pdo_sm h hI (by omega) _).trans m3, fun k h1 h2 => (pdo_sm h hI (by omega) _).trans (m4 k h1 h2)⟩
  · exact ⟨0, fun j hj e => absurd ⟨j, hj, e⟩ hy, fun j hj e => absurd ⟨j, hj, e⟩ hy⟩
