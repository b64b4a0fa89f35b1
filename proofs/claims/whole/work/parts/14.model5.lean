/-! the reference: pledges made, withdrawn, called in -/
theorem nI_lit (a c : Nat) : nI a + (OfNat.ofNat c : Int32) = nI (a + c) := nI_add a c
theorem sF_fgt {s : Nat → Int32} {v : Int32} {k j f : Nat} (hf : f < 8) (h : j ≠ k) : sF (upd (fgt s k) 3 v) j f = sF s j f := by
  unfold sF upd fgt
  rw [if_neg (by omega), if_neg (by omega)]
theorem sF_fgt0 {s : Nat → Int32} {v : Int32} {k f : Nat} (hf : f < 8) : sF (upd (fgt s k) 3 v) k f = 0 := by
  unfold sF upd fgt
  rw [if_neg (by omega), if_pos (by omega)]
theorem open_bt (s : Nat → Int32) {k : Nat} (hk : k < 12) : Bt (vP s 6 0) k = (sThere s k && !sCalled s k) := by
  show Bt (mk _ 12) k = _
  rw [bt_mk _ _ _ (by decide)]; simp [hk]
theorem called_bt (s : Nat → Int32) {k : Nat} (hk : k < 12) : Bt (vP s 7 0) k = (sThere s k && sCalled s k) := by
  show Bt (mk _ 12) k = _
  rw [bt_mk _ _ _ (by decide)]; simp [hk]
theorem open_lo (s : Nat → Int32) : lo12 (vP s 6 0) := lo12_mk _
theorem called_lo (s : Nat → Int32) : lo12 (vP s 7 0) := lo12_mk _
theorem sOK_fgt {s : Nat → Int32} {k : Nat} {v : Int32} (h : sOK s) : sOK (upd (fgt s k) 3 v) := by
  intro j hj hb
  rw [open_bt _ hj] at hb
  by_cases hjk : j = k
  · subst hjk
    unfold sThere at hb
    rw [sF_fgt0 (by decide)] at hb
    simp at hb
  · have h1 := h j hj (by
      rw [open_bt _ hj]
      unfold sThere sCalled at hb ⊢
      rw [sF_fgt (by decide) hjk, sF_fgt (by decide) hjk] at hb
      exact hb)
    unfold kOK at h1 ⊢
    show sF (upd (fgt s k) 3 v) j 4 = 0 ∨ sF (upd (fgt s k) 3 v) j 4 = 1 ∨ sF (upd (fgt s k) 3 v) j 4 = 2 ∨ sF (upd (fgt s k) 3 v) j 4 = 3 ∨ ∃ q, q < 4 ∧ sF (upd (fgt s k) 3 v) j 5 = nI q
    rw [sF_fgt (by decide) hjk, sF_fgt (by decide) hjk]
    exact h1
def sWdr (s : Nat → Int32) (k : Nat) : Nat → Int32 := upd (fgt s k) 3 (s 3 + 1)
def mWd (s : Nat → Int32) (x : Ex) (v : Int32) : Int32 × (Nat → Int32) :=
  if isPl s v = true then (if sCalled s v.toNatClampNeg = true then (-2, s) else (std (vP s) x 0 &&& (std (vP (sWdr s v.toNatClampNeg)) x 0 ^^^ (-1)), sWdr s v.toNatClampNeg)) else (-1, s)
/-- the same but for the reference's notes of waves -/
def Sc (M M' : Pl) : Prop := ∀ f, f ≠ 8 → f ≠ 9 → M' f = M f
theorem Sc.rf {M : Pl} : Sc M M := fun _ _ _ => rfl
theorem Sc.of_sc {M : Pl} {a : Int32} {f : Nat → Int32} : Sc M (sc M a f) := fun i h8 h9 => by unfold sc us ua; dsimp only; rw [if_neg h8, if_neg h9]
theorem Sc.tr {M M' M'' : Pl} (h : Sc M M') (h' : Sc M' M'') : Sc M M'' := fun f h8 h9 => (h' f h8 h9).trans (h f h8 h9)
theorem Sc.ex {M M' : Pl} (h : Sc M M') : mX M' = mX M := by
  unfold mX
  rw [h 6 (by decide) (by decide), h 7 (by decide) (by decide)]
/-- the answer exactly, the row of numbers exactly, the notes of waves anyhow -/
def RM (q : Int32 × (Nat → Int32)) (w : Wd) (b : Nat) (M : Pl) : Option Value → Wd → Prop := RE q.1 (fun u => ∃ M', Sc M M' ∧ u = mz w b M' q.2)
theorem RM_of {q : Int32 × (Nat → Int32)} {r : Int32} {s1 : Nat → Int32} {w : Wd} {b : Nat} {M M' : Pl} (h : q = (r, s1)) (hs : Sc M M') : RM q w b M (some (.int r)) (mz w b M' s1) := by rw [h]; exact ⟨rfl, M', hs, rfl⟩
theorem c_X5_withdraws {M : Pl} {b : Nat} {s : Nat → Int32} {v : Int32} {w : Wd} (hok : sOK s) : K_X5_withdraws [.ref b, .int v] (mz w b M s) (RM (mWd s (mX M) v) w b M) := by
  refine Con.mk [some (.ref b), some (.int v), none] (by decide) rfl rfl (Nat.le_of_ble_eq_true rfl) (fun X h hR hnm => ?_)
  refine V.aload0 h 1 dX5_withdraws_0 rfl (V.iload1 h 2 dX5_withdraws_1 rfl (V.callVf (As := [.int _]) (st := []) h 5 dX5_withdraws_2 rfl k679 k676 k678 ks69 k6 hd_X5_isPledge ⟨(Nat.le_of_ble_eq_true rfl), (Nat.le_of_ble_eq_true rfl)⟩ (Nat.le_of_ble_eq_true rfl) mo rfl rfl ⟨Nat.zero_le _, Nat.zero_le _⟩ c_X5_isPledge rfl ?_))
  refine V.bif_ne h 10 8 dX5_withdraws_5 rfl rfl (fun c5 => ?_) (fun c5 => ?_)
  · obtain ⟨k, hk, rfl, ht⟩ := isPl_k c5
    have hmw : mWd s (mX M) (nI k) = (if sCalled s k = true then (-2, s) else (std (vP s) (mX M) 0 &&& (std (vP (sWdr s k)) (mX M) 0 ^^^ (-1)), sWdr s k)) := by unfold mWd; rw [c5, if_pos rfl, nI_tn (by omega)]
    refine V.aload0 h 11 dX5_withdraws_10 rfl (V.iload1 h 12 dX5_withdraws_11 rfl (V.bipush h 14 dX5_withdraws_12 rfl ic2_6 (V.callVf (As := [.int _, .int _]) (st := []) h 17 dX5_withdraws_14 rfl k648 k645 k647 ks63 k6 hd_X5_of ⟨(Nat.le_of_ble_eq_true rfl), (Nat.le_of_ble_eq_true rfl)⟩ (Nat.le_of_ble_eq_true rfl) mo rfl rfl ⟨Nat.zero_le _, Nat.zero_le _⟩ (c_of 6 rfl (by omega) (by decide)) rfl (V.iconst h 18 dX5_withdraws_17 rfl ic1_1 ?_))))
    refine V.icmp_ne h 24 21 dX5_withdraws_18 rfl rfl (fun c18 => ?_) (fun c18 => ?_)
    · refine V.aload0 h 25 dX5_withdraws_24 rfl (V.iconst h 26 dX5_withdraws_25 rfl ic1_0 (V.callVf (As := [.int _]) (st := []) h 29 dX5_withdraws_26 rfl k683 k680 k682 ks70 k6 hd_X5_stands ⟨(Nat.le_of_ble_eq_true rfl), (Nat.le_of_ble_eq_true rfl)⟩ (Nat.le_of_ble_eq_true rfl) mo rfl rfl ⟨Nat.zero_le _, Nat.zero_le _⟩ (c_stands hok) rfl (V.istore2 h 30 dX5_withdraws_29 rfl rfl (V.aload0 h 31 dX5_withdraws_30 rfl (V.iload1 h 32 dX5_withdraws_31 rfl (V.callVfv (As := [.int _]) (st := []) h 35 dX5_withdraws_32 rfl k719 k716 k718 ks79 k6 hd_X5_forgets ⟨(Nat.le_of_ble_eq_true rfl), (Nat.le_of_ble_eq_true rfl)⟩ (Nat.le_of_ble_eq_true rfl) mo rfl rfl ⟨Nat.zero_le _, Nat.zero_le _⟩ (c_X5_forgets (by omega)) rfl (V.aload0 h 36 dX5_withdraws_35 rfl ?_)))))))
      refine V.gX5 h 0 39 dX5_withdraws_36 rfl rfl k544 mo rfl (V.iconst h 40 dX5_withdraws_39 rfl ic1_3 (V.dup2 h 41 dX5_withdraws_40 rfl rfl rfl (V.ialdN (i := 3) h 42 dX5_withdraws_41 rfl za1 (by omega) (by decide) (V.iconst h 43 dX5_withdraws_42 rfl ic1_1 (V.iadd h 44 dX5_withdraws_43 rfl (V.iastN (i := 3) h 45 dX5_withdraws_44 rfl za1 (by omega) (by decide) ?_))))))
      have e3 : upd (fgt s k) 3 (fgt s k 3 + 1) = sWdr s k := by unfold sWdr; rw [show fgt s k 3 = s 3 from by unfold fgt; rw [if_neg (by omega)]]
      refine V.at _ zw1 ?_
      rw [e3]
      refine V.iload2 h 46 dX5_withdraws_45 rfl (V.aload0 h 47 dX5_withdraws_46 rfl (V.iconst h 48 dX5_withdraws_47 rfl ic1_0 (V.callVf (As := [.int _]) (st := [.int _]) h 51 dX5_withdraws_48 rfl k683 k680 k682 ks70 k6 hd_X5_stands ⟨(Nat.le_of_ble_eq_true rfl), (Nat.le_of_ble_eq_true rfl)⟩ (Nat.le_of_ble_eq_true rfl) mo rfl rfl ⟨Nat.zero_le _, Nat.zero_le _⟩ (c_stands (sOK_fgt hok)) rfl (V.iconst h 52 dX5_withdraws_51 rfl ic1_m1 (V.ixor h 53 dX5_withdraws_52 rfl (V.iand h 54 dX5_withdraws_53 rfl ?_))))))
      refine V.iret h hR dX5_withdraws_54 ?_
      refine RM_of ?_ (Sc.tr Sc.of_sc Sc.of_sc)
      rw [hmw, if_neg (by unfold sCalled; simpa using c18)]
      rfl
    · refine V.bipush h 23 dX5_withdraws_21 rfl ic2_m2 ?_
      refine V.iret h hR dX5_withdraws_23 ?_
      exact RM_of (by rw [hmw, if_pos (show sCalled s k = true from decide_eq_true c18)]) Sc.rf
  · refine V.iconst h 9 dX5_withdraws_8 rfl ic1_m1 ?_
    refine V.iret h hR dX5_withdraws_9 ?_
    exact RM_of (by unfold mWd; rw [c5]; rfl) Sc.rf
theorem lf_cases (f : Nat → Bool) : ∀ (n i : Nat), lf f i n = -1 ∨ ∃ k, i ≤ k ∧ k < i + n ∧ lf f i n = nI k ∧ f k = true ∧ ∀ j, i ≤ j → j < k → f j = false
  | 0, _ => Or.inl rfl
  | n + 1, i => by
    rw [lf]
    by_cases h : f i = true
    · rw [if_pos h]
      exact Or.inr ⟨i, Nat.le_refl _, by omega, rfl, h, fun j h1 h2 => absurd h2 (by omega)⟩
    · rw [if_neg h]
      rcases lf_cases f n (i + 1) with q | ⟨k, h1, h2, h3, h4, h5⟩
      · exact Or.inl q
      · refine Or.inr ⟨k, by omega, by omega, h3, h4, fun j g1 g2 => ?_⟩
        by_cases hj : j = i
        · subst hj; simpa using h
        · exact h5 j (by omega) g2
def mSt (s : Nat → Int32) (k : Nat) (i j a kd v : Int32) : Nat → Int32 :=
  upd (upd (upd (upd (upd (upd (upd (upd (upd s (29 + 8 * k + 0) 1) (29 + 8 * k + 1) i) (29 + 8 * k + 2) j) (29 + 8 * k + 3) a) (29 + 8 * k + 4) kd) (29 + 8 * k + 5) v) (29 + 8 * k + 6) 0) (29 + 8 * k + 7) (s 2)) 2 (s 2 + 1)
def frees (s : Nat → Int32) : Int32 := lf (fun k => decide (sF s k 0 = 0)) 0 12
def mMk (s : Nat → Int32) (i j a kd v : Int32) : Int32 × (Nat → Int32) :=
  if (rng 0 i (s 1 - 1) && (rng 0 j (s 0 - 1) && (rng 1 a 999 && cOK (s 0) (s 1) i j kd v))) = true then
    (if (decide (s (5 + 2 * j.toNatClampNeg + 1) = 1) || decide (s (13 + 2 * i.toNatClampNeg) < amt (vP s) (ofP (vP s) i &&& vP s 6 0) + a)) = true then (-2, s)
     else if frees s < 0 then (-3, s) else (frees s, mSt s (frees s).toNatClampNeg i j a kd v))
  else (-1, s)
theorem rng_pred {n : Nat} {v : Int32} (hn : n < 2 ^ 31) (h : rng 0 v (nI n - 1) = true) : ∃ k, k < n ∧ v = nI k := by
  cases n with
  | zero =>
    unfold rng at h
    rw [Bool.and_eq_true] at h
    have h0 := of_decide_eq_true h.1
    have h1 := of_decide_eq_true h.2
    exact absurd (Int32.le_trans h0 h1) (by decide)
  | succ n =>
    rw [nI_pred] at h
    obtain ⟨k, hk, rfl⟩ := rng_nat (by omega) h
    exact ⟨k, by omega, rfl⟩
theorem rng_predof {n k : Nat} (hn : n < 2 ^ 31) (h : k < n) : rng 0 (nI k) (nI n - 1) = true := by
  cases n with
  | zero => omega
  | succ n => rw [nI_pred]; exact rng_of (by omega) (by omega)
theorem c_X5_makes {M : Pl} {b np nq : Nat} {s : Nat → Int32} {i j a kd v : Int32} {w : Wd} (hn : s 0 = nI np) (h4 : np ≤ 4) (hq : s 1 = nI nq) (h8 : nq ≤ 8) : K_X5_makes [.ref b, .int i, .int j, .int a, .int kd, .int v] (mz w b M s) (RI (mMk s i j a kd v).1 (mz w b M (mMk s i j a kd v).2)) := by
  refine Con.mk [some (.ref b), some (.int i), some (.int j), some (.int a), some (.int kd), some (.int v), none, none] (by decide) rfl rfl (Nat.le_of_ble_eq_true rfl) (fun X h hR hnm => ?_)
  refine V.aload0 h 1 dX5_makes_0 rfl (V.iload1 h 2 dX5_makes_1 rfl (V.callVf (As := [.int _]) (st := []) h 5 dX5_makes_2 rfl k628 k625 k627 ks58 k6 hd_X5_isPerson ⟨(Nat.le_of_ble_eq_true rfl), (Nat.le_of_ble_eq_true rfl)⟩ (Nat.le_of_ble_eq_true rfl) mo rfl rfl ⟨Nat.zero_le _, Nat.zero_le _⟩ c_isPerson rfl ?_))
  refine V.bif_eq h 40 8 dX5_makes_5 rfl rfl (fun c5 => ?_) (fun c5 => ?_)
  · refine V.iconst h 41 dX5_makes_40 rfl ic1_m1 ?_
    refine V.iret h hR dX5_makes_41 ?_
    first | exact RI_p (by unfold mMk rng; rw [c5]; rfl) | exact RI_p (by unfold mMk rng; rw [c5, c13]; rfl) | exact RI_p (by unfold mMk rng; rw [c5, c13, c24]; rfl) | exact RI_p (by unfold mMk; rw [show rng 0 i (s 1 - 1) = true from c5, show rng 0 j (s 0 - 1) = true from c13, show rng 1 a 999 = true from c24, c37]; rfl)
  · refine V.aload0 h 9 dX5_makes_8 rfl (V.iload2 h 10 dX5_makes_9 rfl (V.callVf (As := [.int _]) (st := []) h 13 dX5_makes_10 rfl k632 k629 k631 ks59 k6 hd_X5_isProject ⟨(Nat.le_of_ble_eq_true rfl), (Nat.le_of_ble_eq_true rfl)⟩ (Nat.le_of_ble_eq_true rfl) mo rfl rfl ⟨Nat.zero_le _, Nat.zero_le _⟩ c_isProject rfl ?_))
    refine V.bif_eq h 40 16 dX5_makes_13 rfl rfl (fun c13 => ?_) (fun c13 => ?_)
    · refine V.iconst h 41 dX5_makes_40 rfl ic1_m1 ?_
      refine V.iret h hR dX5_makes_41 ?_
      first | exact RI_p (by unfold mMk rng; rw [c5]; rfl) | exact RI_p (by unfold mMk rng; rw [c5, c13]; rfl) | exact RI_p (by unfold mMk rng; rw [c5, c13, c24]; rfl) | exact RI_p (by unfold mMk; rw [show rng 0 i (s 1 - 1) = true from c5, show rng 0 j (s 0 - 1) = true from c13, show rng 1 a 999 = true from c24, c37]; rfl)
    · refine V.iload3 h 17 dX5_makes_16 rfl (V.iconst h 18 dX5_makes_17 rfl ic1_1 (V.sipush h 21 dX5_makes_18 rfl ic3_999 (V.callSf (As := [.int _, .int _, .int _]) (st := []) h 24 dX5_makes_21 rfl k604 k602 k603 k6 hd_X5_in ⟨(Nat.le_of_ble_eq_true rfl), (Nat.le_of_ble_eq_true rfl)⟩ (Nat.le_of_ble_eq_true rfl) ⟨Nat.zero_le _, Nat.zero_le _⟩ c_X5_in rfl ?_)))
      refine V.bif_eq h 40 27 dX5_makes_24 rfl rfl (fun c24 => ?_) (fun c24 => ?_)
      · refine V.iconst h 41 dX5_makes_40 rfl ic1_m1 ?_
        refine V.iret h hR dX5_makes_41 ?_
        first | exact RI_p (by unfold mMk rng; rw [c5]; rfl) | exact RI_p (by unfold mMk rng; rw [c5, c13]; rfl) | exact RI_p (by unfold mMk rng; rw [c5, c13, c24]; rfl) | exact RI_p (by unfold mMk; rw [show rng 0 i (s 1 - 1) = true from c5, show rng 0 j (s 0 - 1) = true from c13, show rng 1 a 999 = true from c24, c37]; rfl)
      · refine V.aload0 h 28 dX5_makes_27 rfl (V.iload1 h 29 dX5_makes_28 rfl (V.iload2 h 30 dX5_makes_29 rfl (V.iload4 h 32 dX5_makes_30 rfl (V.iload5 h 34 dX5_makes_32 rfl (V.callVf (As := [.int _, .int _, .int _, .int _]) (st := []) h 37 dX5_makes_34 rfl k636 k633 k635 ks60 k6 hd_X5_isCondition ⟨(Nat.le_of_ble_eq_true rfl), (Nat.le_of_ble_eq_true rfl)⟩ (Nat.le_of_ble_eq_true rfl) mo rfl rfl ⟨Nat.zero_le _, Nat.zero_le _⟩ c_X5_isCondition rfl ?_)))))
        refine V.bif_ne h 42 40 dX5_makes_37 rfl rfl (fun c37 => ?_) (fun c37 => ?_)
        · obtain ⟨ii, hii, rfl⟩ := rng_pred (by omega) (show rng 0 i (nI nq - 1) = true by rw [← hq]; exact c5)
          obtain ⟨jj, hjj, rfl⟩ := rng_pred (by omega) (show rng 0 j (nI np - 1) = true by rw [← hn]; exact c13)
          have hj4 : jj < 4 := by omega
          have hmk : mMk s (nI ii) (nI jj) a kd v = (if (decide (s (5 + 2 * jj + 1) = 1) || decide (s (13 + 2 * ii) < amt (vP s) (ofP (vP s) (nI ii) &&& vP s 6 0) + a)) = true then (-2, s) else if frees s < 0 then (-3, s) else (frees s, mSt s (frees s).toNatClampNeg (nI ii) (nI jj) a kd v)) := by
            unfold mMk
            rw [show rng 0 (nI ii) (s 1 - 1) = true from c5, show rng 0 (nI jj) (s 0 - 1) = true from c13, show rng 1 a 999 = true from c24, c37, nI_tn (by omega), nI_tn (by omega)]
            rfl
          refine V.aload0 h 43 dX5_makes_42 rfl (V.iload2 h 44 dX5_makes_43 rfl (V.callVf (As := [.int _]) (st := []) h 47 dX5_makes_44 rfl k640 k637 k639 ks61 k6 hd_X5_isClosed ⟨(Nat.le_of_ble_eq_true rfl), (Nat.le_of_ble_eq_true rfl)⟩ (Nat.le_of_ble_eq_true rfl) mo rfl rfl ⟨Nat.zero_le _, Nat.zero_le _⟩ (c_isClosed (by assumption)) rfl ?_))
          refine V.bif_ne h 80 50 dX5_makes_47 rfl rfl (fun c47 => ?_) (fun c47 => ?_)
          · refine V.bipush h 82 dX5_makes_80 rfl ic2_m2 ?_
            refine V.iret h hR dX5_makes_82 ?_
            first | exact RI_p (by rw [hmk, if_pos (by rw [c47]; rfl)]) | exact RI_p (by rw [hmk, if_pos (by rw [c47, decide_eq_true (nle c77)]; rfl)])
          · refine V.aload0 h 51 dX5_makes_50 rfl (V.gX5 h 0 54 dX5_makes_51 rfl rfl k544 mo rfl (V.bipush h 56 dX5_makes_54 rfl ic2_13 (V.iconst h 57 dX5_makes_56 rfl ic1_2 (V.iload1 h 58 dX5_makes_57 rfl (V.imul h 59 dX5_makes_58 rfl (V.iadd h 60 dX5_makes_59 rfl ?_))))))
            rw [show (13 : Int32) + 2 * nI ii = nI (13 + 2 * ii) by rw [lit, lit, pk_mul, nI_add]]
            refine V.ialdN h 61 dX5_makes_60 rfl za1 (by omega) (by decide) (V.aload0 h 62 dX5_makes_61 rfl (V.aload0 h 63 dX5_makes_62 rfl (V.iload1 h 64 dX5_makes_63 rfl (V.callVf (As := [.int _]) (st := [.ref _, .int _]) h 67 dX5_makes_64 rfl k644 k641 k643 ks62 k6 hd_X5_ofPerson ⟨(Nat.le_of_ble_eq_true rfl), (Nat.le_of_ble_eq_true rfl)⟩ (Nat.le_of_ble_eq_true rfl) mo rfl rfl ⟨Nat.zero_le _, Nat.zero_le _⟩ c_ofPerson rfl (V.aload0 h 68 dX5_makes_67 rfl (V.callVf (As := []) (st := [.int _, .ref _, .int _]) h 71 dX5_makes_68 rfl k652 k649 k651 ks64 k6 hd_X5_open ⟨(Nat.le_of_ble_eq_true rfl), (Nat.le_of_ble_eq_true rfl)⟩ (Nat.le_of_ble_eq_true rfl) mo rfl rfl ⟨Nat.zero_le _, Nat.zero_le _⟩ c_open rfl (V.iand h 72 dX5_makes_71 rfl ?_)))))))
            refine V.callVf (As := [.int _]) (st := [.int _]) h 75 dX5_makes_72 rfl k660 k657 k659 ks66 k6 hd_X5_amountOf ⟨(Nat.le_of_ble_eq_true rfl), (Nat.le_of_ble_eq_true rfl)⟩ (Nat.le_of_ble_eq_true rfl) mo rfl rfl ⟨Nat.zero_le _, Nat.zero_le _⟩ c_amountOf rfl (V.iload3 h 76 dX5_makes_75 rfl (V.iadd h 77 dX5_makes_76 rfl ?_))
            refine V.icmp_ge h 83 80 dX5_makes_77 rfl rfl (fun c77 => ?_) (fun c77 => ?_)
            · refine V.aload0 h 84 dX5_makes_83 rfl (V.callVf (As := []) (st := []) h 87 dX5_makes_84 rfl k667 k664 k666 ks67 k6 hd_X5_lowestFree ⟨(Nat.le_of_ble_eq_true rfl), (Nat.le_of_ble_eq_true rfl)⟩ (Nat.le_of_ble_eq_true rfl) mo rfl rfl ⟨Nat.zero_le _, Nat.zero_le _⟩ c_X5_lowestFree rfl ?_)
              rw [show lf (fun k => decide (sF s k 0 = 0)) 0 12 = frees s from rfl]
              refine V.istore6 h 89 dX5_makes_87 rfl rfl (V.iload6 h 91 dX5_makes_89 rfl ?_)
              refine V.if_ge h 97 94 dX5_makes_91 rfl rfl (fun c91 => ?_) (fun c91 => ?_)
              · obtain ⟨k, -, hk, hkf, hk1, hk2⟩ : ∃ k, 0 ≤ k ∧ k < 0 + 12 ∧ frees s = nI k ∧ decide (sF s k 0 = 0) = true ∧ ∀ j, 0 ≤ j → j < k → decide (sF s j 0 = 0) = false := by
                  rcases lf_cases (fun k => decide (sF s k 0 = 0)) 12 0 with q | q
                  · exact absurd (show (0 : Int32) ≤ -1 by rw [← q]; exact c91) (by decide)
                  · exact q
                have hmk2 : mMk s (nI ii) (nI jj) a kd v = (nI k, mSt s k (nI ii) (nI jj) a kd v) := by
                  rw [hmk, if_neg (by rw [c47, decide_eq_false (le_n c77)]; decide), if_neg (le_n c91), hkf, nI_tn (by omega)]
                rw [hkf]
                refine V.bipush h 99 dX5_makes_97 rfl ic2_29 (V.bipush h 101 dX5_makes_99 rfl ic2_8 (V.iload6 h 103 dX5_makes_101 rfl (V.imul h 104 dX5_makes_103 rfl (V.iadd h 105 dX5_makes_104 rfl ?_))))
                rw [show (29 : Int32) + 8 * nI k = nI (29 + 8 * k) by rw [lit, lit, pk_mul, nI_add]]
                refine V.istore7 h 107 dX5_makes_105 rfl rfl (V.aload0 h 108 dX5_makes_107 rfl (V.gX5 h 0 111 dX5_makes_108 rfl rfl k544 mo rfl (V.iload7 h 113 dX5_makes_111 rfl (V.iconst h 114 dX5_makes_113 rfl ic1_0 (V.iadd h 115 dX5_makes_114 rfl ?_)))))
                rw [show nI (29 + 8 * k) + (0 : Int32) = nI (29 + 8 * k + 0) from nI_lit _ 0]
                refine V.iconst h 116 dX5_makes_115 rfl ic1_1 (V.iastN h 117 dX5_makes_116 rfl za1 (by omega) (by decide) (V.at _ zw1 (V.aload0 h 118 dX5_makes_117 rfl (V.gX5 h 0 121 dX5_makes_118 rfl rfl k544 mo rfl (V.iload7 h 123 dX5_makes_121 rfl (V.iconst h 124 dX5_makes_123 rfl ic1_1 (V.iadd h 125 dX5_makes_124 rfl ?_)))))))
                rw [show nI (29 + 8 * k) + (1 : Int32) = nI (29 + 8 * k + 1) from nI_lit _ 1]
                refine V.iload1 h 126 dX5_makes_125 rfl (V.iastN h 127 dX5_makes_126 rfl za1 (by omega) (by decide) (V.at _ zw1 (V.aload0 h 128 dX5_makes_127 rfl (V.gX5 h 0 131 dX5_makes_128 rfl rfl k544 mo rfl (V.iload7 h 133 dX5_makes_131 rfl (V.iconst h 134 dX5_makes_133 rfl ic1_2 (V.iadd h 135 dX5_makes_134 rfl ?_)))))))
                rw [show nI (29 + 8 * k) + (2 : Int32) = nI (29 + 8 * k + 2) from nI_lit _ 2]
                refine V.iload2 h 136 dX5_makes_135 rfl (V.iastN h 137 dX5_makes_136 rfl za1 (by omega) (by decide) (V.at _ zw1 (V.aload0 h 138 dX5_makes_137 rfl (V.gX5 h 0 141 dX5_makes_138 rfl rfl k544 mo rfl (V.iload7 h 143 dX5_makes_141 rfl (V.iconst h 144 dX5_makes_143 rfl ic1_3 (V.iadd h 145 dX5_makes_144 rfl ?_)))))))
                rw [show nI (29 + 8 * k) + (3 : Int32) = nI (29 + 8 * k + 3) from nI_lit _ 3]
                refine V.iload3 h 146 dX5_makes_145 rfl (V.iastN h 147 dX5_makes_146 rfl za1 (by omega) (by decide) (V.at _ zw1 (V.aload0 h 148 dX5_makes_147 rfl (V.gX5 h 0 151 dX5_makes_148 rfl rfl k544 mo rfl (V.iload7 h 153 dX5_makes_151 rfl (V.iconst h 154 dX5_makes_153 rfl ic1_4 (V.iadd h 155 dX5_makes_154 rfl ?_)))))))
                refine V.iload4 h 157 dX5_makes_155 rfl ?_
                rw [show nI (29 + 8 * k) + (4 : Int32) = nI (29 + 8 * k + 4) from nI_lit _ 4]
                refine V.iastN h 158 dX5_makes_157 rfl za1 (by omega) (by decide) (V.at _ zw1 (V.aload0 h 159 dX5_makes_158 rfl (V.gX5 h 0 162 dX5_makes_159 rfl rfl k544 mo rfl (V.iload7 h 164 dX5_makes_162 rfl (V.iconst h 165 dX5_makes_164 rfl ic1_5 (V.iadd h 166 dX5_makes_165 rfl ?_))))))
                rw [show nI (29 + 8 * k) + (5 : Int32) = nI (29 + 8 * k + 5) from nI_lit _ 5]
                refine V.iload5 h 168 dX5_makes_166 rfl (V.iastN h 169 dX5_makes_168 rfl za1 (by omega) (by decide) (V.at _ zw1 (V.aload0 h 170 dX5_makes_169 rfl (V.gX5 h 0 173 dX5_makes_170 rfl rfl k544 mo rfl (V.iload7 h 175 dX5_makes_173 rfl (V.bipush h 177 dX5_makes_175 rfl ic2_6 (V.iadd h 178 dX5_makes_177 rfl ?_)))))))
                rw [show nI (29 + 8 * k) + (6 : Int32) = nI (29 + 8 * k + 6) from nI_lit _ 6]
                refine V.iconst h 179 dX5_makes_178 rfl ic1_0 (V.iastN h 180 dX5_makes_179 rfl za1 (by omega) (by decide) (V.at _ zw1 (V.aload0 h 181 dX5_makes_180 rfl (V.gX5 h 0 184 dX5_makes_181 rfl rfl k544 mo rfl (V.iload7 h 186 dX5_makes_184 rfl (V.bipush h 188 dX5_makes_186 rfl ic2_7 (V.iadd h 189 dX5_makes_188 rfl ?_)))))))
                rw [show nI (29 + 8 * k) + (7 : Int32) = nI (29 + 8 * k + 7) from nI_lit _ 7]
                refine V.aload0 h 190 dX5_makes_189 rfl (V.gX5 h 0 193 dX5_makes_190 rfl rfl k544 mo rfl (V.iconst h 194 dX5_makes_193 rfl ic1_2 (V.ialdN (i := 2) h 195 dX5_makes_194 rfl za1 (by omega) (by decide) ?_)))
                have e2 : ∀ (s1 : Nat → Int32) (c : Nat) (x : Int32), upd s1 (29 + 8 * k + c) x 2 = s1 2 := fun s1 c x => by unfold upd; rw [if_neg (by omega)]
                rw [e2, e2, e2, e2, e2, e2, e2]
                refine V.iastN h 196 dX5_makes_195 rfl za1 (by omega) (by decide) (V.at _ zw1 (V.aload0 h 197 dX5_makes_196 rfl (V.gX5 h 0 200 dX5_makes_197 rfl rfl k544 mo rfl (V.iconst h 201 dX5_makes_200 rfl ic1_2 (V.dup2 h 202 dX5_makes_201 rfl rfl rfl (V.ialdN (i := 2) h 203 dX5_makes_202 rfl za1 (by omega) (by decide) ?_))))))
                rw [e2, e2, e2, e2, e2, e2, e2, e2]
                refine V.iconst h 204 dX5_makes_203 rfl ic1_1 (V.iadd h 205 dX5_makes_204 rfl (V.iastN (i := 2) h 206 dX5_makes_205 rfl za1 (by omega) (by decide) (V.at _ zw1 (V.iload6 h 208 dX5_makes_206 rfl ?_))))
                refine V.iret h hR dX5_makes_208 ?_
                exact RI_p (by rw [hmk2]; rfl)
              · refine V.bipush h 96 dX5_makes_94 rfl ic2_m3 ?_
                refine V.iret h hR dX5_makes_96 ?_
                exact RI_p (by rw [hmk, if_neg (by rw [c47, decide_eq_false (le_n c77)]; decide), if_pos (nle c91)])
            · refine V.bipush h 82 dX5_makes_80 rfl ic2_m2 ?_
              refine V.iret h hR dX5_makes_82 ?_
              first | exact RI_p (by rw [hmk, if_pos (by rw [c47]; rfl)]) | exact RI_p (by rw [hmk, if_pos (by rw [c47, decide_eq_true (nle c77)]; rfl)])
        · refine V.iconst h 41 dX5_makes_40 rfl ic1_m1 ?_
          refine V.iret h hR dX5_makes_41 ?_
          first | exact RI_p (by unfold mMk rng; rw [c5]; rfl) | exact RI_p (by unfold mMk rng; rw [c5, c13]; rfl) | exact RI_p (by unfold mMk rng; rw [c5, c13, c24]; rfl) | exact RI_p (by unfold mMk; rw [show rng 0 i (s 1 - 1) = true from c5, show rng 0 j (s 0 - 1) = true from c13, show rng 1 a 999 = true from c24, c37]; rfl)
