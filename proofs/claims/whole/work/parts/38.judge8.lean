/-! the class: sets that hold, and the tip -/
theorem bt_nIn (m : Nat) {k : Nat} (h : k < 32) : Bt (nI m) k = m.testBit k := by
  unfold Bt
  show (BitVec.ofNat 32 m).getLsbD k = m.testBit k
  rw [BitVec.getLsbD_ofNat, decide_eq_true h, Bool.true_and]
theorem lo12_nat {S : Int32} (h : lo12 S) : ∃ m, m < 4096 ∧ S = nI m := by
  refine ⟨S.toBitVec.toNat, ?_, ?_⟩
  · have : S.toBitVec.toNat < 2 ^ 12 := Nat.lt_pow_two_of_testBit _ fun i hi => h i hi
    exact this
  · apply bt_ext
    intro k hk
    rw [bt_nIn _ hk]
    rfl
theorem sb_le {m n : Nat} (hm : m < 4096) (hn : n < 4096) (h : nI n &&& (nI m ^^^ (-1)) = 0) : n ≤ m := by
  have h1 : n ||| m = m := by
    apply Nat.eq_of_testBit_eq
    intro i
    rw [Nat.testBit_or]
    by_cases hi : i < 32
    · have h2 : Bt (nI n &&& (nI m ^^^ (-1))) i = false := by rw [h, bt_0]
      rw [bt_and, bt_not _ hi, bt_nIn _ hi, bt_nIn _ hi] at h2
      cases h3 : n.testBit i
      · rfl
      · rw [h3, Bool.true_and] at h2
        cases h4 : m.testBit i
        · rw [h4] at h2; cases h2
        · rfl
    · have h5 : n < 2 ^ i := Nat.lt_of_lt_of_le (show n < 2 ^ 12 from hn) (Nat.pow_le_pow_right (by decide) (by omega))
      rw [Nat.testBit_lt_two_pow h5]; rfl
  rw [← h1]
  exact Nat.left_le_or
theorem sb_of {S G : Int32} (h : S &&& (G ^^^ (-1)) = 0) : sb S G := fun k hk => by
  by_cases hi : k < 32
  · have h2 : Bt (S &&& (G ^^^ (-1))) k = false := by rw [h, bt_0]
    rw [bt_and, bt_not _ hi, hk, Bool.true_and] at h2
    cases hb : Bt G k
    · rw [hb] at h2; cases h2
    · rfl
  · rw [bt_big _ (by omega)] at hk; cases hk
theorem sb_tr {S T L : Int32} (h : sb S T) (h' : sb T L) : sb S L := fun k hk => h' k (h k hk)
/-- the sets within G that hold -/
def qSt1 (P : Pl) (G : Int32) (n : Nat) : Int32 := if (decide (nI n &&& (G ^^^ (-1)) = 0) && decide (fal P noX (nI n) (P 7 0) = 0)) = true then 1 else 0
theorem qSt1_0 {P : Pl} {G : Int32} {n : Nat} (h : ¬ nI n &&& (G ^^^ (-1)) = 0) : qSt1 P G n = 0 := by
  unfold qSt1; rw [decide_eq_false h, Bool.false_and, if_neg Bool.false_ne_true]
theorem qSt1_1 {P : Pl} {G : Int32} {n : Nat} (h : nI n &&& (G ^^^ (-1)) = 0) (h' : ¬ fal P noX (nI n) (P 7 0) = 0) : qSt1 P G n = 0 := by
  unfold qSt1; rw [decide_eq_true h, decide_eq_false h', Bool.and_false, if_neg Bool.false_ne_true]
theorem qSt1_2 {P : Pl} {G : Int32} {n : Nat} (h : nI n &&& (G ^^^ (-1)) = 0) (h' : fal P noX (nI n) (P 7 0) = 0) : qSt1 P G n = 1 := by
  unfold qSt1; rw [decide_eq_true h, decide_eq_true h', Bool.and_true, if_pos rfl]
theorem sm_ext {f : Nat → Int32} {a : Nat} : ∀ {d : Nat}, (∀ k, a ≤ k → k < a + d → f k = 0) → sm f (a + d) = sm f a
  | 0, _ => rfl
  | d + 1, h => by
    rw [← Nat.add_assoc, sm_s, sm_ext (fun k h1 h2 => h k h1 (by omega)), h (a + d) (by omega) (by omega), Int32.add_zero]
theorem c_X1_setsThatHold {w : Wd} {p j N : Nat} {P : Pl} {f g : Nat → Int32} {v : Int32} (hP0 : PlaceAt w p P) (hd : p + 10 ≤ j ∨ j + 3 ≤ p) (hO : POK P) (hN : N = 4096) : K_X1_setsThatHold [.ref j] (jt w p j f g v) (RE (sm (qSt1 P (grt P noX (P 6 0) (P 7 0))) N) (JW w p j)) := by
  refine Con.mk [some (.ref j), none, none, none] (by decide) rfl rfl (Nat.le_of_ble_eq_true rfl) (fun X h hR hnm => ?_)
  have hP : ∀ f g v, PlaceAt (jt w p j f g v) p P := fun _ _ _ => jt_P hP0 hd
  obtain ⟨G, hG⟩ : ∃ G, G = grt P noX (P 6 0) (P 7 0) := ⟨_, rfl⟩
  rw [← hG] at hR
  have hGl : sb G (live P) := by rw [hG]; exact sb_grt (sb_op P)
  obtain ⟨m, hm, eG⟩ := lo12_nat (sb_lo hGl hO.1)
  have L : ∀ (d n : Nat) (t : Int32) (f g : Nat → Int32) (v : Int32), n + d = m + 1 → t = sm (qSt1 P G) n → V X 0 0 23 [some (.ref j), some (.int G), some (.int t), some (.int (nI n))] [] (jt w p j f g v) := by
    intro d
    induction d with
    | zero =>
      intro n t f g v hnd ht
      obtain rfl : n = m + 1 := by omega
      have eN : sm (qSt1 P G) N = sm (qSt1 P G) (m + 1) := by
        rw [show N = m + 1 + (N - (m + 1)) by omega]
        refine sm_ext fun k h1 h2 => qSt1_0 fun e => ?_
        rw [eG] at e
        have := sb_le hm (by omega) e
        omega
      refine V.iload3 h 24 dX1_setsThatHold_23 rfl (V.iload1 h 25 dX1_setsThatHold_24 rfl ?_)
      refine V.icmp_gt h 60 28 dX1_setsThatHold_25 rfl rfl (fun _ => ?_) (fun q => absurd (show G < nI (m + 1) by rw [eG]; exact nI_lt (by omega) (by omega)) q)
      refine V.iload2 h 61 dX1_setsThatHold_60 rfl ?_
      refine V.iret h hR dX1_setsThatHold_61 ?_
      exact ⟨by rw [ht, eN], f, g, v, rfl⟩
    | succ d ih =>
      intro n t f g v hnd ht
      refine V.iload3 h 24 dX1_setsThatHold_23 rfl (V.iload1 h 25 dX1_setsThatHold_24 rfl ?_)
      refine V.icmp_gt h 60 28 dX1_setsThatHold_25 rfl rfl (fun q => absurd q (le_n (show nI n ≤ G by rw [eG]; exact nI_le (by omega) (by omega)))) (fun _ => ?_)
      refine V.iload3 h 29 dX1_setsThatHold_28 rfl (V.iload1 h 30 dX1_setsThatHold_29 rfl (V.iconst h 31 dX1_setsThatHold_30 rfl ic1_m1 (V.ixor h 32 dX1_setsThatHold_31 rfl (V.iand h 33 dX1_setsThatHold_32 rfl ?_))))
      refine V.if_ne h 54 36 dX1_setsThatHold_33 rfl rfl (fun c33 => ?_) (fun c33 => ?_)
      · refine V.incN3 h 57 dX1_setsThatHold_54 rfl rfl (V.goto h 23 dX1_setsThatHold_57 rfl ?_)
        first
        | exact ih (n + 1) _ _ _ _ (by omega) (by rw [sm_s, qSt1_0 c33, Int32.add_zero]; exact ht)
        | exact ih (n + 1) _ _ _ _ (by omega) (by rw [sm_s, qSt1_1 c33 c48, Int32.add_zero]; exact ht)
        | exact ih (n + 1) _ _ _ _ (by omega) (by rw [sm_s, qSt1_2 c33 c48, ht, ofI1])
      · refine V.aload0 h 37 dX1_setsThatHold_36 rfl (V.iload3 h 38 dX1_setsThatHold_37 rfl (V.aload0 h 39 dX1_setsThatHold_38 rfl (V.gX1 h 0 42 dX1_setsThatHold_39 rfl rfl k126 jto rfl (V.gX2N h 7 45 dX1_setsThatHold_42 rfl rfl k48 (hP _ _ _).po rfl (V.callVe (As := [.int _, .int _]) (st := []) h 48 dX1_setsThatHold_45 rfl k318 k315 k317 ks18 k3 hd_X1_failing ⟨(Nat.le_of_ble_eq_true rfl), (Nat.le_of_ble_eq_true rfl)⟩ (Nat.le_of_ble_eq_true rfl) jto rfl rfl ⟨Nat.zero_le _, Nat.zero_le _⟩ (c_X1_failing0 hP0 hd hO (sb_tr (sb_of c33) hGl) (sb_ca P)) rfl (fun w45 hw45 => ?_))))))
        obtain ⟨f1, g1, v1, rfl⟩ := hw45
        refine V.if_ne h 54 51 dX1_setsThatHold_48 rfl rfl (fun c48 => ?_) (fun c48 => ?_)
        · refine V.incN3 h 57 dX1_setsThatHold_54 rfl rfl (V.goto h 23 dX1_setsThatHold_57 rfl ?_)
          first
          | exact ih (n + 1) _ _ _ _ (by omega) (by rw [sm_s, qSt1_0 c33, Int32.add_zero]; exact ht)
          | exact ih (n + 1) _ _ _ _ (by omega) (by rw [sm_s, qSt1_1 c33 c48, Int32.add_zero]; exact ht)
          | exact ih (n + 1) _ _ _ _ (by omega) (by rw [sm_s, qSt1_2 c33 c48, ht, ofI1])
        · refine V.iinc2 h 54 dX1_setsThatHold_51 rfl rfl rfl (V.incN3 h 57 dX1_setsThatHold_54 rfl rfl (V.goto h 23 dX1_setsThatHold_57 rfl ?_))
          first
          | exact ih (n + 1) _ _ _ _ (by omega) (by rw [sm_s, qSt1_0 c33, Int32.add_zero]; exact ht)
          | exact ih (n + 1) _ _ _ _ (by omega) (by rw [sm_s, qSt1_1 c33 c48, Int32.add_zero]; exact ht)
          | exact ih (n + 1) _ _ _ _ (by omega) (by rw [sm_s, qSt1_2 c33 c48, ht, ofI1])
  refine V.aload0 h 1 dX1_setsThatHold_0 rfl (V.aload0 h 2 dX1_setsThatHold_1 rfl (V.gX1 h 0 5 dX1_setsThatHold_2 rfl rfl k126 jto rfl (V.gX2N h 6 8 dX1_setsThatHold_5 rfl rfl k44 (hP _ _ _).po rfl (V.aload0 h 9 dX1_setsThatHold_8 rfl (V.gX1 h 0 12 dX1_setsThatHold_9 rfl rfl k126 jto rfl (V.gX2N h 7 15 dX1_setsThatHold_12 rfl rfl k48 (hP _ _ _).po rfl ?_))))))
  refine V.callVe (As := [.int _, .int _]) (st := []) h 18 dX1_setsThatHold_15 rfl k314 k352 k313 ks17 k3 hd_X1_greatest ⟨(Nat.le_of_ble_eq_true rfl), (Nat.le_of_ble_eq_true rfl)⟩ (Nat.le_of_ble_eq_true rfl) jto rfl rfl ⟨Nat.zero_le _, Nat.zero_le _⟩ (c_X1_greatest0 hP0 hd hO (sb_op P) (sb_ca P)) rfl (fun w15 hw15 => ?_)
  obtain ⟨f1, g1, v1, rfl⟩ := hw15
  rw [← hG]
  refine V.istore1 h 19 dX1_setsThatHold_18 rfl rfl (V.iconst h 20 dX1_setsThatHold_19 rfl ic1_0 (V.istore2 h 21 dX1_setsThatHold_20 rfl rfl (V.iconst h 22 dX1_setsThatHold_21 rfl ic1_0 (V.istore3 h 23 dX1_setsThatHold_22 rfl rfl ?_))))
  exact L (m + 1) 0 0 _ _ _ (by omega) rfl
