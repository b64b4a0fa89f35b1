/-! the class: who stands, and what follows -/
def sb (S L : Int32) : Prop := ∀ k, Bt S k = true → Bt L k = true
theorem sb_and {S L : Int32} (T : Int32) (h : sb S L) : sb (S &&& T) L := fun k hk => h k (by rw [bt_and, Bool.and_eq_true] at hk; exact hk.1)
theorem sb_or {S T L : Int32} (h : sb S L) (h' : sb T L) : sb (S ||| T) L := fun k hk => by
  rw [bt_or, Bool.or_eq_true] at hk
  exact hk.elim (h k) (h' k)
theorem sb_lo {S L : Int32} (h : sb S L) (hL : lo12 L) : lo12 S := fun k hk => by
  cases hb : Bt S k
  · rfl
  · exact absurd (h k hb) (by rw [hL k hk]; decide)
theorem sb_op (P : Pl) : sb (P 6 0) (live P) := fun k hk => by unfold live; rw [bt_or, hk]; rfl
theorem sb_ca (P : Pl) : sb (P 7 0) (live P) := fun k hk => by unfold live; rw [bt_or, hk]; simp
/-- what is live can be looked at -/
def POK (P : Pl) : Prop := lo12 (live P) ∧ ∀ k, k < 12 → Bt (live P) k = true → (∃ t, t < 4 ∧ P 9 k = nI t) ∧ (∃ g, g < 8 ∧ P 8 k = nI g) ∧ cOKc P k
theorem POK.W {P : Pl} {S : Int32} (h : POK P) (hS : sb S (live P)) : WFm P S := fun k _ hb => by
  have hk : k < 12 := by
    apply Classical.byContradiction
    intro hn
    exact absurd (hS k hb) (by rw [h.1 k (by omega)]; decide)
  obtain ⟨ht, ⟨g, hg, e⟩, -⟩ := h.2 k hk (hS k hb)
  exact ⟨ht, ⟨g, by omega, e⟩, fun e' => by omega⟩
theorem exC_no {P : Pl} {C : Int32} (h : lo12 C) : exC P C = noX := by
  unfold exC; rw [h 12 (Nat.le_refl _), if_neg (by decide)]
theorem c_X1_failing0 {w : Wd} {p j : Nat} {P : Pl} {f g : Nat → Int32} {v S C : Int32} (hP0 : PlaceAt w p P) (hd : p + 10 ≤ j ∨ j + 3 ≤ p) (hO : POK P) (hS : sb S (live P)) (hC : sb C (live P)) : K_X1_failing [.ref j, .int S, .int C] (jt w p j f g v) (RE (fal P noX S C) (JW w p j)) := by
  have := c_X1_failing (f := f) (g := g) (v := v) hP0 hd (sb_lo hS hO.1) (hO.W (sb_or hS hC)) (fun k hk hb => (hO.2 k hk (hS k hb)).2.2)
  rwa [exC_no (sb_lo hC hO.1)] at this
theorem c_X1_greatest0 {w : Wd} {p j : Nat} {P : Pl} {f g : Nat → Int32} {v S C : Int32} (hP0 : PlaceAt w p P) (hd : p + 10 ≤ j ∨ j + 3 ≤ p) (hO : POK P) (hS : sb S (live P)) (hC : sb C (live P)) : K_X1_greatest [.ref j, .int S, .int C] (jt w p j f g v) (RE (grt P noX S C) (JW w p j)) := by
  have := c_X1_greatest (f := f) (g := g) (v := v) hP0 hd (sb_lo hS hO.1) (hO.W (sb_or hS hC)) (fun k hk hb => (hO.2 k hk (hS k hb)).2.2)
  rwa [exC_no (sb_lo hC hO.1)] at this
theorem c_X1_standWithout {w : Wd} {p j : Nat} {P : Pl} {f g : Nat → Int32} {v G : Int32} (hP0 : PlaceAt w p P) (hd : p + 10 ≤ j ∨ j + 3 ≤ p) (hO : POK P) : K_X1_standWithout [.ref j, .int G] (jt w p j f g v) (RE (std P noX G) (JW w p j)) := by
  refine Con.mk [some (.ref j), some (.int G)] (by decide) rfl rfl (Nat.le_of_ble_eq_true rfl) (fun X h hR hnm => ?_)
  have hP : ∀ f g v, PlaceAt (jt w p j f g v) p P := fun _ _ _ => jt_P hP0 hd
  refine V.aload0 h 1 dX1_standWithout_0 rfl (V.aload0 h 2 dX1_standWithout_1 rfl (V.gX1 h 0 5 dX1_standWithout_2 rfl rfl k126 jto rfl (V.gX2N h 6 8 dX1_standWithout_5 rfl rfl k44 (hP _ _ _).po rfl (V.iload1 h 9 dX1_standWithout_8 rfl (V.iconst h 10 dX1_standWithout_9 rfl ic1_m1 (V.ixor h 11 dX1_standWithout_10 rfl (V.iand h 12 dX1_standWithout_11 rfl ?_)))))))
  refine V.aload0 h 13 dX1_standWithout_12 rfl (V.gX1 h 0 16 dX1_standWithout_13 rfl rfl k126 jto rfl (V.gX2N h 7 19 dX1_standWithout_16 rfl rfl k48 (hP _ _ _).po rfl (V.callVe (As := [.int _, .int _]) (st := []) h 22 dX1_standWithout_19 rfl k314 k352 k313 ks17 k3 hd_X1_greatest ⟨(Nat.le_of_ble_eq_true rfl), (Nat.le_of_ble_eq_true rfl)⟩ (Nat.le_of_ble_eq_true rfl) jto rfl rfl ⟨Nat.zero_le _, Nat.zero_le _⟩ (c_X1_greatest0 hP0 hd hO (sb_and _ (sb_op P)) (sb_ca P)) rfl (fun w19 hw19 => ?_))))
  obtain ⟨f1, g1, v1, rfl⟩ := hw19
  refine V.aload0 h 23 dX1_standWithout_22 rfl (V.gX1 h 0 26 dX1_standWithout_23 rfl rfl k126 jto rfl (V.gX2N h 7 29 dX1_standWithout_26 rfl rfl k48 (hP _ _ _).po rfl (V.ior h 30 dX1_standWithout_29 rfl ?_)))
  refine V.iret h hR dX1_standWithout_30 ?_
  exact ⟨rfl, f1, g1, v1, rfl⟩
theorem c_X1_stand {w : Wd} {p j : Nat} {P : Pl} {f g : Nat → Int32} {v : Int32} (hP0 : PlaceAt w p P) (hd : p + 10 ≤ j ∨ j + 3 ≤ p) (hO : POK P) : K_X1_stand [.ref j] (jt w p j f g v) (RE (std P noX 0) (JW w p j)) := by
  refine Con.mk [some (.ref j)] (by decide) rfl rfl (Nat.le_of_ble_eq_true rfl) (fun X h hR hnm => ?_)
  have hP : ∀ f g v, PlaceAt (jt w p j f g v) p P := fun _ _ _ => jt_P hP0 hd
  refine V.aload0 h 1 dX1_stand_0 rfl (V.iconst h 2 dX1_stand_1 rfl ic1_0 (V.callVe (As := [.int _]) (st := []) h 5 dX1_stand_2 rfl k351 k348 k350 ks24 k3 hd_X1_standWithout ⟨(Nat.le_of_ble_eq_true rfl), (Nat.le_of_ble_eq_true rfl)⟩ (Nat.le_of_ble_eq_true rfl) jto rfl rfl ⟨Nat.zero_le _, Nat.zero_le _⟩ (c_X1_standWithout hP0 hd hO) rfl (fun w2 hw2 => ?_)))
  obtain ⟨f2, g2, v2, rfl⟩ := hw2
  refine V.iret h hR dX1_stand_5 ?_
  exact ⟨rfl, f2, g2, v2, rfl⟩
theorem c_X1_fallenWithout {w : Wd} {p j : Nat} {P : Pl} {f g : Nat → Int32} {v G : Int32} (hP0 : PlaceAt w p P) (hd : p + 10 ≤ j ∨ j + 3 ≤ p) (hO : POK P) : K_X1_fallenWithout [.ref j, .int G] (jt w p j f g v) (RE (std P noX 0 &&& (std P noX G ^^^ (-1))) (JW w p j)) := by
  refine Con.mk [some (.ref j), some (.int G)] (by decide) rfl rfl (Nat.le_of_ble_eq_true rfl) (fun X h hR hnm => ?_)
  have hP : ∀ f g v, PlaceAt (jt w p j f g v) p P := fun _ _ _ => jt_P hP0 hd
  refine V.aload0 h 1 dX1_fallenWithout_0 rfl (V.callVe (As := []) (st := []) h 4 dX1_fallenWithout_1 rfl k347 k369 k346 ks23 k3 hd_X1_stand ⟨(Nat.le_of_ble_eq_true rfl), (Nat.le_of_ble_eq_true rfl)⟩ (Nat.le_of_ble_eq_true rfl) jto rfl rfl ⟨Nat.zero_le _, Nat.zero_le _⟩ (c_X1_stand hP0 hd hO) rfl (fun w1 hw1 => ?_))
  obtain ⟨f1, g1, v1, rfl⟩ := hw1
  refine V.aload0 h 5 dX1_fallenWithout_4 rfl (V.iload1 h 6 dX1_fallenWithout_5 rfl (V.callVe (As := [.int _]) (st := [.int _]) h 9 dX1_fallenWithout_6 rfl k351 k348 k350 ks24 k3 hd_X1_standWithout ⟨(Nat.le_of_ble_eq_true rfl), (Nat.le_of_ble_eq_true rfl)⟩ (Nat.le_of_ble_eq_true rfl) jto rfl rfl ⟨Nat.zero_le _, Nat.zero_le _⟩ (c_X1_standWithout hP0 hd hO) rfl (fun w6 hw6 => ?_)))
  obtain ⟨f2, g2, v2, rfl⟩ := hw6
  refine V.iconst h 10 dX1_fallenWithout_9 rfl ic1_m1 (V.ixor h 11 dX1_fallenWithout_10 rfl (V.iand h 12 dX1_fallenWithout_11 rfl ?_))
  refine V.iret h hR dX1_fallenWithout_12 ?_
  exact ⟨rfl, f2, g2, v2, rfl⟩
theorem wvm_s {P : Pl} {x : Ex} {S C : Int32} {old : Nat → Int32} {n k : Nat} : wvm P x S C old (n + 1) k = if (decide (k < 12) && Bt (fal P x (gs P x C n S) C) k) = true then nI (n + 1) else wvm P x S C old n k := rfl
theorem wvm_no {P : Pl} {x : Ex} {S C : Int32} {old : Nat → Int32} {k : Nat} : ∀ {n : Nat}, (∀ i, i < n → Bt (fal P x (gs P x C i S) C) k = false) → wvm P x S C old n k = old k
  | 0, _ => rfl
  | n + 1, h => by
    rw [wvm_s, h n (by omega), Bool.and_false, if_neg (by decide)]
    exact wvm_no (fun i hi => h i (by omega))
theorem wvm_at {P : Pl} {x : Ex} {S C : Int32} {old : Nat → Int32} {k n : Nat} (hk : k < 12) (h : Bt (fal P x (gs P x C n S) C) k = true) : ∀ m, wvm P x S C old (n + 1 + m) k = nI (n + 1) ∧ Bt (gs P x C (n + 1 + m) S) k = false
  | 0 => ⟨by rw [Nat.add_zero, wvm_s, h, decide_eq_true hk]; rfl, by rw [Nat.add_zero, gs_s, bt_and, bt_not _ (by omega), h]; simp⟩
  | m + 1 => by
    obtain ⟨h1, h2⟩ := wvm_at (old := old) hk h m
    refine ⟨?_, ?_⟩
    · rw [← Nat.add_assoc, wvm_s, fal_bt, h2, Bool.false_and, Bool.and_false, Bool.and_false, if_neg (by decide)]
      exact h1
    · rw [← Nat.add_assoc, gs_s, bt_and, h2]; rfl
theorem sb_gs {P : Pl} {x : Ex} {S C L : Int32} (n : Nat) (h : sb S L) : sb (gs P x C n S) L := fun k hk => h k (gs_sub n hk)
theorem c_X1_waveOf {w : Wd} {p j k : Nat} {P : Pl} {f g : Nat → Int32} {v : Int32} (hP0 : PlaceAt w p P) (hd : p + 10 ≤ j ∨ j + 3 ≤ p) (hO : POK P) (hk : k < 12) : K_X1_waveOf [.ref j, .int (nI k)] (jt w p j f g v) (RE (wvm P noX (P 6 0) (P 7 0) (fun _ => 0) 12 k) (JW w p j)) := by
  refine Con.mk [some (.ref j), some (.int (nI k)), none, none, none] (by decide) rfl rfl (Nat.le_of_ble_eq_true rfl) (fun X h hR hnm => ?_)
  have hP : ∀ f g v, PlaceAt (jt w p j f g v) p P := fun _ _ _ => jt_P hP0 hd
  have L : ∀ (d n : Nat) (u : Option Value) (f g : Nat → Int32) (v : Int32), n + d = 12 → (∀ i, i < n → Bt (fal P noX (gs P noX (P 7 0) i (P 6 0)) (P 7 0)) k = false) → V X 0 0 10 [some (.ref j), some (.int (nI k)), some (.int (gs P noX (P 7 0) n (P 6 0))), some (.int (nI (n + 1))), u] [] (jt w p j f g v) := by
    intro d
    induction d with
    | zero =>
      intro n u f g v hnd hno
      obtain rfl : n = 12 := by omega
      refine V.iload3 h 11 dX1_waveOf_10 rfl (V.bipush h 13 dX1_waveOf_11 rfl ic2_12 ?_)
      refine V.icmp_gt h 54 16 dX1_waveOf_13 rfl rfl (fun _ => ?_) (fun q => absurd (show (12 : Int32) < nI 13 from by decide) q)
      refine V.iconst h 55 dX1_waveOf_54 rfl ic1_0 ?_
      refine V.iret h hR dX1_waveOf_55 ?_
      exact ⟨congrArg (fun z => some (Value.int z)) (wvm_no (old := fun _ => 0) hno).symm, f, g, v, rfl⟩
    | succ d ih =>
      intro n u f g v hnd hno
      refine V.iload3 h 11 dX1_waveOf_10 rfl (V.bipush h 13 dX1_waveOf_11 rfl ic2_12 ?_)
      refine V.icmp_gt h 54 16 dX1_waveOf_13 rfl rfl (fun q => absurd q (le_n (show nI (n + 1) ≤ nI 12 from nI_le (by omega) (by decide)))) (fun _ => ?_)
      refine V.aload0 h 17 dX1_waveOf_16 rfl (V.iload2 h 18 dX1_waveOf_17 rfl (V.aload0 h 19 dX1_waveOf_18 rfl (V.gX1 h 0 22 dX1_waveOf_19 rfl rfl k126 jto rfl (V.gX2N h 7 25 dX1_waveOf_22 rfl rfl k48 (hP _ _ _).po rfl (V.callVe (As := [.int _, .int _]) (st := []) h 28 dX1_waveOf_25 rfl k318 k315 k317 ks18 k3 hd_X1_failing ⟨(Nat.le_of_ble_eq_true rfl), (Nat.le_of_ble_eq_true rfl)⟩ (Nat.le_of_ble_eq_true rfl) jto rfl rfl ⟨Nat.zero_le _, Nat.zero_le _⟩ (c_X1_failing0 hP0 hd hO (sb_gs n (sb_op P)) (sb_ca P)) rfl (fun w25 hw25 => ?_))))))
      obtain ⟨f1, g1, v1, rfl⟩ := hw25
      refine V.istore4 h 30 dX1_waveOf_28 rfl rfl (V.iload4 h 32 dX1_waveOf_30 rfl (V.iload1 h 33 dX1_waveOf_32 rfl (V.ishr h 34 dX1_waveOf_33 rfl (V.iconst h 35 dX1_waveOf_34 rfl ic1_1 (V.iand h 36 dX1_waveOf_35 rfl ?_)))))
      rw [tst _ (show k < 32 by omega)]
      refine V.bif_eq h 41 39 dX1_waveOf_36 rfl rfl (fun c36 => ?_) (fun c36 => ?_)
      · refine V.iload2 h 42 dX1_waveOf_41 rfl (V.iload4 h 44 dX1_waveOf_42 rfl (V.iconst h 45 dX1_waveOf_44 rfl ic1_m1 (V.ixor h 46 dX1_waveOf_45 rfl (V.iand h 47 dX1_waveOf_46 rfl (V.istore2 h 48 dX1_waveOf_47 rfl rfl (V.incN3 h 51 dX1_waveOf_48 rfl rfl (V.goto h 10 dX1_waveOf_51 rfl ?_)))))))
        exact ih (n + 1) _ _ _ _ (by omega) (fun i hi => if h : i = n then h ▸ c36 else hno i (by omega))
      · refine V.iload3 h 40 dX1_waveOf_39 rfl ?_
        refine V.iret h hR dX1_waveOf_40 ?_
        obtain ⟨m, hm⟩ : ∃ m, 12 = n + 1 + m := ⟨12 - (n + 1), by omega⟩
        exact ⟨congrArg (fun z => some (Value.int z)) (by rw [hm]; exact (wvm_at hk c36 m).1.symm), f1, g1, v1, rfl⟩
  refine V.aload0 h 1 dX1_waveOf_0 rfl (V.gX1 h 0 4 dX1_waveOf_1 rfl rfl k126 jto rfl (V.gX2N h 6 7 dX1_waveOf_4 rfl rfl k44 (hP _ _ _).po rfl (V.istore2 h 8 dX1_waveOf_7 rfl rfl (V.iconst h 9 dX1_waveOf_8 rfl ic1_1 (V.istore3 h 10 dX1_waveOf_9 rfl rfl ?_)))))
  exact L 12 0 none f g v rfl (fun i hi => absurd hi (by omega))
theorem c_X1_waves {w : Wd} {p j : Nat} {P : Pl} {f g : Nat → Int32} {v : Int32} (hP0 : PlaceAt w p P) (hd : p + 10 ≤ j ∨ j + 3 ≤ p) (hO : POK P) : K_X1_waves [.ref j] (jt w p j f g v) (RE (nI (nw P noX (P 6 0) (P 7 0) 12)) (JW w p j)) := by
  refine Con.mk [some (.ref j), none, none, none, none] (by decide) rfl rfl (Nat.le_of_ble_eq_true rfl) (fun X h hR hnm => ?_)
  have hP : ∀ f g v, PlaceAt (jt w p j f g v) p P := fun _ _ _ => jt_P hP0 hd
  have L : ∀ (d n : Nat) (u : Option Value) (f g : Nat → Int32) (v : Int32), n + d = 12 → (∀ i, i < n → fal P noX (gs P noX (P 7 0) i (P 6 0)) (P 7 0) ≠ 0) → V X 0 0 12 [some (.ref j), some (.int (gs P noX (P 7 0) n (P 6 0))), some (.int (nI n)), some (.int (nI (n + 1))), u] [] (jt w p j f g v) := by
    intro d
    induction d with
    | zero =>
      intro n u f g v hnd hne
      obtain rfl : n = 12 := by omega
      refine V.iload3 h 13 dX1_waves_12 rfl (V.bipush h 15 dX1_waves_13 rfl ic2_12 ?_)
      refine V.icmp_gt h 55 18 dX1_waves_15 rfl rfl (fun _ => ?_) (fun q => absurd (show (12 : Int32) < nI 13 from by decide) q)
      refine V.iload2 h 56 dX1_waves_55 rfl ?_
      refine V.iret h hR dX1_waves_56 ?_
      exact ⟨by rw [nw_all hne], f, g, v, rfl⟩
    | succ d ih =>
      intro n u f g v hnd hne
      refine V.iload3 h 13 dX1_waves_12 rfl (V.bipush h 15 dX1_waves_13 rfl ic2_12 ?_)
      refine V.icmp_gt h 55 18 dX1_waves_15 rfl rfl (fun q => absurd q (le_n (show nI (n + 1) ≤ nI 12 from nI_le (by omega) (by decide)))) (fun _ => ?_)
      refine V.aload0 h 19 dX1_waves_18 rfl (V.iload1 h 20 dX1_waves_19 rfl (V.aload0 h 21 dX1_waves_20 rfl (V.gX1 h 0 24 dX1_waves_21 rfl rfl k126 jto rfl (V.gX2N h 7 27 dX1_waves_24 rfl rfl k48 (hP _ _ _).po rfl (V.callVe (As := [.int _, .int _]) (st := []) h 30 dX1_waves_27 rfl k318 k315 k317 ks18 k3 hd_X1_failing ⟨(Nat.le_of_ble_eq_true rfl), (Nat.le_of_ble_eq_true rfl)⟩ (Nat.le_of_ble_eq_true rfl) jto rfl rfl ⟨Nat.zero_le _, Nat.zero_le _⟩ (c_X1_failing0 hP0 hd hO (sb_gs n (sb_op P)) (sb_ca P)) rfl (fun w27 hw27 => ?_))))))
      obtain ⟨f1, g1, v1, rfl⟩ := hw27
      refine V.istore4 h 32 dX1_waves_30 rfl rfl (V.iload4 h 34 dX1_waves_32 rfl ?_)
      refine V.if_ne h 40 37 dX1_waves_34 rfl rfl (fun c34 => ?_) (fun c34 => ?_)
      · refine V.iload3 h 41 dX1_waves_40 rfl (V.istore2 h 42 dX1_waves_41 rfl rfl (V.iload1 h 43 dX1_waves_42 rfl (V.iload4 h 45 dX1_waves_43 rfl (V.iconst h 46 dX1_waves_45 rfl ic1_m1 (V.ixor h 47 dX1_waves_46 rfl (V.iand h 48 dX1_waves_47 rfl (V.istore1 h 49 dX1_waves_48 rfl rfl ?_)))))))
        refine V.incN3 h 52 dX1_waves_49 rfl rfl (V.goto h 12 dX1_waves_52 rfl ?_)
        exact ih (n + 1) _ _ _ _ (by omega) (fun i hi => if h : i = n then h ▸ c34 else hne i (by omega))
      · refine V.goto h 55 dX1_waves_37 rfl (V.iload2 h 56 dX1_waves_55 rfl ?_)
        refine V.iret h hR dX1_waves_56 ?_
        obtain ⟨m, hm⟩ : ∃ m, 12 = n + m := ⟨12 - n, by omega⟩
        exact ⟨by rw [hm, nw_end hne c34], f1, g1, v1, rfl⟩
  refine V.aload0 h 1 dX1_waves_0 rfl (V.gX1 h 0 4 dX1_waves_1 rfl rfl k126 jto rfl (V.gX2N h 6 7 dX1_waves_4 rfl rfl k44 (hP _ _ _).po rfl (V.istore1 h 8 dX1_waves_7 rfl rfl (V.iconst h 9 dX1_waves_8 rfl ic1_0 (V.istore2 h 10 dX1_waves_9 rfl rfl (V.iconst h 11 dX1_waves_10 rfl ic1_1 (V.istore3 h 12 dX1_waves_11 rfl rfl ?_)))))))
  exact L 12 0 none f g v rfl (fun i hi => absurd hi (by omega))
