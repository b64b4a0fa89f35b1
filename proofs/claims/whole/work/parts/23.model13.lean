/-! the reference: one command, all commands -/
def cmdS (c : Int32) : Bool := decide (c = 103) || (decide (c = 104) || (decide (c = 112) || (decide (c = 119) || decide (c = 99))))
def prP (T : Nat → Int32) (n p : Nat) : Nat → Nat
  | 0 => p
  | k + 1 => prP T n p k + 1 + dgc T n 3 (prP T n p k + 1)
def prF (T : Nat → Int32) (n p : Nat) (c : Int32) : Nat → Bool
  | 0 => cmdS c
  | k + 1 => prF T n p c k && decide (chM T n (prP T n p k) = if k = 0 then c else 44) && decide (0 < dgc T n 3 (prP T n p k + 1))
def prN (T : Nat → Int32) (n p : Nat) (N : Nat → Int32) : Nat → (Nat → Int32)
  | 0 => N
  | k + 1 => upd (prN T n p N k) k (dgv T n 3 (prP T n p k + 1) 0)
theorem prP_le (T : Nat → Int32) (n p : Nat) : ∀ k, prP T n p k ≤ p + 4 * k
  | 0 => Nat.le_refl _
  | k + 1 => by
    have h1 := prP_le T n p k
    have h2 := dgc_le T n 3 (prP T n p k + 1)
    rw [prP]; omega
def cMany (c : Int32) : Nat := if c = 112 then 5 else 1
def cP (T : Nat → Int32) (n p : Nat) : Nat := prP T n p (cMany (chM T n p)) + 1
def cF (T : Nat → Int32) (n p : Nat) : Bool := prF T n p (chM T n p) (cMany (chM T n p)) && decide (chM T n (prP T n p (cMany (chM T n p))) = 59)
def cN (T : Nat → Int32) (n p : Nat) (N : Nat → Int32) : Nat → Int32 := prN T n p N (cMany (chM T n p))
def mDo (s : Nat → Int32) (x : Ex) (c : Int32) (N : Nat → Int32) : Int32 × (Nat → Int32) :=
  if c = 103 then mAdd s (N 0) else if c = 104 then mCome s (N 0) else if c = 112 then mMk s (N 0) (N 1) (N 2) (N 3) (N 4) else if c = 119 then mWd s x (N 0) else mCa s x (N 0)
def mCm (T : Nat → Int32) (n p : Nat) (s : Nat → Int32) (x : Ex) (N : Nat → Int32) : Int32 × (Nat → Int32) := if cF T n p = true then mDo s x (chM T n p) (cN T n p N) else (0, s)
/-- what must be so of a row of numbers for its changes to be walked -/
def sPre (s : Nat → Int32) (x : Ex) : Prop := (∃ np, np ≤ 4 ∧ s 0 = nI np) ∧ (∃ nq, nq ≤ 8 ∧ s 1 = nI nq) ∧ sOK s ∧ ∀ j, gOK s (forP (vP s) (nI j) &&& std (vP s) x 0)
def St5 (M M' : Pl) : Prop := ∀ g, g ≠ 10 → g ≠ 11 → g ≠ 14 → M' g = M g
def St (M M' : Pl) : Prop := ∀ g, g ≠ 8 → g ≠ 9 → g ≠ 10 → g ≠ 11 → g ≠ 14 → M' g = M g
theorem St5.st {M M' : Pl} (h : St5 M M') : St M M' := fun g _ _ a b c => h g a b c
theorem St.sc {M M' M'' : Pl} (h : St M M') (h' : Sc M' M'') : St M M'' := fun g a b c d e => (h' g a b).trans (h g a b c d e)
theorem St5.us {M M' : Pl} (h : St5 M M') (x y : Int32) : St5 M (us (us M' 11 x) 10 y) := fun g a b c => by
  show (if g = 10 then (fun _ => y) else (if g = 11 then (fun _ => x) else M' g)) = M g
  rw [if_neg a, if_neg b]; exact h g a b c
theorem c_X5_command {M : Pl} {b n p : Nat} {s : Nat → Int32} {w : Wd} (h5 : M 5 0 = nI n) (h80 : n ≤ 80) (h10 : M 10 0 = nI p) (hp : p < 500) (hs : sPre s (mX M)) : K_X5_command [.ref b] (mz w b M s) (RE (mCm (M 4) n p s (mX M) (M 14)).1 (fun u => ∃ M', St M M' ∧ M' 10 0 = nI (cP (M 4) n p) ∧ M' 11 0 = bI (cF (M 4) n p) ∧ M' 14 = cN (M 4) n p (M 14) ∧ u = mz w b M' (mCm (M 4) n p s (mX M) (M 14)).2)) := by
  refine Con.mk [some (.ref b), none, none, none] (by decide) rfl rfl (Nat.le_of_ble_eq_true rfl) (fun X h hR hnm => ?_)
  obtain ⟨⟨np, h4, hn⟩, ⟨nq, h8, hq⟩, hok, hg0⟩ := hs
  obtain ⟨c, hc⟩ : ∃ c, c = chM (M 4) n p := ⟨_, rfl⟩
  have hcm : cMany c ≤ 5 := by unfold cMany; split <;> omega
  obtain ⟨ans, hans⟩ : ∃ a, a = mCm (M 4) n p s (mX M) (M 14) := ⟨_, rfl⟩
  rw [← hans] at hR
  unfold mCm cF cN at hans
  unfold cP cF cN at hR
  rw [← hc] at hans hR
  -- behind the numbers
  have E : ∀ (M' : Pl) (u : Option Value), St5 M M' → M' 10 0 = nI (prP (M 4) n p (cMany c)) → M' 11 0 = bI (prF (M 4) n p c (cMany c)) → M' 14 = prN (M 4) n p (M 14) (cMany c) →
      V X 0 0 89 [some (.ref b), some (.int c), some (.int (nI (cMany c))), u] [] (mz w b M' s) := by
    intro M' u hM e10 e11 e14
    have h5' : M' 5 0 = nI n := by rw [hM 5 (by decide) (by decide) (by decide)]; exact h5
    have hT : M' 4 = M 4 := hM 4 (by decide) (by decide) (by decide)
    have hx : mX M' = mX M := by unfold mX; rw [hM 6 (by decide) (by decide) (by decide), hM 7 (by decide) (by decide) (by decide)]
    have hpl := prP_le (M 4) n p (cMany c)
    obtain ⟨f, hf⟩ : ∃ f, f = (prF (M 4) n p c (cMany c) && decide (chM (M 4) n (prP (M 4) n p (cMany c)) = 59)) := ⟨_, rfl⟩
    rw [← hf] at hans hR
    have hm := c_X5_must (w := w) (b := b) (s := s) (c := 59) h5' h80 e10 (by omega) e11
    rw [hT, ← hf] at hm
    have hMM := hM.us (bI f) (nI (prP (M 4) n p (cMany c) + 1))
    obtain ⟨M2, hM2⟩ : ∃ M2, M2 = us (us M' 11 (bI f)) 10 (nI (prP (M 4) n p (cMany c) + 1)) := ⟨_, rfl⟩
    have f10 : M2 10 0 = nI (prP (M 4) n p (cMany c) + 1) := by rw [hM2]; rfl
    have f11 : M2 11 0 = bI f := by rw [hM2]; rfl
    have f14 : M2 14 = prN (M 4) n p (M 14) (cMany c) := by rw [hM2]; exact e14
    rw [← hM2] at hMM hm
    have hx2 : mX M2 = mX M := by unfold mX; rw [hMM 6 (by decide) (by decide) (by decide), hMM 7 (by decide) (by decide) (by decide)]
    have hg : ∀ j, gOK s (forP (vP s) (nI j) &&& std (vP s) (mX M2) 0) := by rw [hx2]; exact hg0
    have fin : ∀ (M3 : Pl) (q : Int32 × (Nat → Int32)), Sc M2 M3 → ans = q → RE ans.1 (fun u => ∃ M', St M M' ∧ M' 10 0 = nI (prP (M 4) n p (cMany c) + 1) ∧ M' 11 0 = bI f ∧ M' 14 = prN (M 4) n p (M 14) (cMany c) ∧ u = mz w b M' ans.2) (some (.int q.1)) (mz w b M3 q.2) := by
      intro M3 q hS hq
      rw [hq]
      refine ⟨rfl, M3, hMM.st.sc hS, ?_, ?_, ?_, rfl⟩
      · rw [hS 10 (by decide) (by decide)]; exact f10
      · rw [hS 11 (by decide) (by decide)]; exact f11
      · rw [hS 14 (by decide) (by decide)]; exact f14
    refine V.aload0 h 90 dX5_command_89 rfl (V.bipush h 92 dX5_command_90 rfl ic2_59 (V.callVfv (As := [.int _]) (st := []) h 95 dX5_command_92 rfl k834 k831 k833 ks95 k6 hd_X5_must ⟨(Nat.le_of_ble_eq_true rfl), (Nat.le_of_ble_eq_true rfl)⟩ (Nat.le_of_ble_eq_true rfl) zo rfl rfl ⟨Nat.zero_le _, Nat.zero_le _⟩ hm rfl (V.aload0 h 96 dX5_command_95 rfl (V.gX5 h 11 99 dX5_command_96 rfl rfl k555 zo rfl ?_))))
    rw [f11]
    refine V.bif_ne h 104 102 dX5_command_99 rfl rfl (fun c99 => ?_) (fun c99 => ?_)
    · refine V.iload1 h 105 dX5_command_104 rfl ?_
      refine V.lcase (off := 43) h (103 : Int32) 148 dX5_command_105 (by decide +kernel) (by decide +kernel) rfl (fun c105_103 => ?_) (fun c105_103 => ?_)
      · refine V.aload0 h 149 dX5_command_148 rfl (V.aload0 h 150 dX5_command_149 rfl (V.gX5 h 14 153 dX5_command_150 rfl rfl k558 zo rfl (V.iconst h 154 dX5_command_153 rfl ic1_0 (V.ialdN (i := 0) h 155 dX5_command_154 rfl za6 (by omega) (by decide) (V.callVf (As := [.int _]) (st := []) h 158 dX5_command_155 rfl k601 k598 k600 ks54 k6 hd_X5_adds ⟨(Nat.le_of_ble_eq_true rfl), (Nat.le_of_ble_eq_true rfl)⟩ (Nat.le_of_ble_eq_true rfl) zo rfl rfl ⟨Nat.zero_le _, Nat.zero_le _⟩ (c_X5_adds hn h4) rfl ?_)))))
        refine V.iret h hR dX5_command_158 ?_
        exact fin M2 _ Sc.rf (by rw [hans, c99, if_pos rfl]; unfold mDo; rw [if_pos c105_103, ← f14])
      refine V.lcase (off := 54) h (104 : Int32) 159 dX5_command_105 (by decide +kernel) (by decide +kernel) rfl (fun c105_104 => ?_) (fun c105_104 => ?_)
      · refine V.aload0 h 160 dX5_command_159 rfl (V.aload0 h 161 dX5_command_160 rfl (V.gX5 h 14 164 dX5_command_161 rfl rfl k558 zo rfl (V.iconst h 165 dX5_command_164 rfl ic1_0 (V.ialdN (i := 0) h 166 dX5_command_165 rfl za6 (by omega) (by decide) (V.callVf (As := [.int _]) (st := []) h 169 dX5_command_166 rfl k616 k613 k615 ks56 k6 hd_X5_comes ⟨(Nat.le_of_ble_eq_true rfl), (Nat.le_of_ble_eq_true rfl)⟩ (Nat.le_of_ble_eq_true rfl) zo rfl rfl ⟨Nat.zero_le _, Nat.zero_le _⟩ (c_X5_comes hq h8) rfl ?_)))))
        refine V.iret h hR dX5_command_169 ?_
        exact fin M2 _ Sc.rf (by rw [hans, c99, if_pos rfl]; unfold mDo; rw [if_neg c105_103, if_pos c105_104, ← f14])
      refine V.lcase (off := 65) h (112 : Int32) 170 dX5_command_105 (by decide +kernel) (by decide +kernel) rfl (fun c105_112 => ?_) (fun c105_112 => ?_)
      · refine V.aload0 h 171 dX5_command_170 rfl (V.aload0 h 172 dX5_command_171 rfl (V.gX5 h 14 175 dX5_command_172 rfl rfl k558 zo rfl (V.iconst h 176 dX5_command_175 rfl ic1_0 (V.ialdN (i := 0) h 177 dX5_command_176 rfl za6 (by omega) (by decide) (V.aload0 h 178 dX5_command_177 rfl (V.gX5 h 14 181 dX5_command_178 rfl rfl k558 zo rfl (V.iconst h 182 dX5_command_181 rfl ic1_1 ?_)))))))
        refine V.ialdN (i := 1) h 183 dX5_command_182 rfl za6 (by omega) (by decide) (V.aload0 h 184 dX5_command_183 rfl (V.gX5 h 14 187 dX5_command_184 rfl rfl k558 zo rfl (V.iconst h 188 dX5_command_187 rfl ic1_2 (V.ialdN (i := 2) h 189 dX5_command_188 rfl za6 (by omega) (by decide) (V.aload0 h 190 dX5_command_189 rfl (V.gX5 h 14 193 dX5_command_190 rfl rfl k558 zo rfl (V.iconst h 194 dX5_command_193 rfl ic1_3 ?_)))))))
        refine V.ialdN (i := 3) h 195 dX5_command_194 rfl za6 (by omega) (by decide) (V.aload0 h 196 dX5_command_195 rfl (V.gX5 h 14 199 dX5_command_196 rfl rfl k558 zo rfl (V.iconst h 200 dX5_command_199 rfl ic1_4 (V.ialdN (i := 4) h 201 dX5_command_200 rfl za6 (by omega) (by decide) (V.callVf (As := [.int _, .int _, .int _, .int _, .int _]) (st := []) h 204 dX5_command_201 rfl k624 k621 k623 ks57 k6 hd_X5_makes ⟨(Nat.le_of_ble_eq_true rfl), (Nat.le_of_ble_eq_true rfl)⟩ (Nat.le_of_ble_eq_true rfl) zo rfl rfl ⟨Nat.zero_le _, Nat.zero_le _⟩ (c_X5_makes hn h4 hq h8) rfl ?_)))))
        refine V.iret h hR dX5_command_204 ?_
        exact fin M2 _ Sc.rf (by rw [hans, c99, if_pos rfl]; unfold mDo; rw [if_neg c105_103, if_neg c105_104, if_pos c105_112, ← f14])
      refine V.lcase (off := 100) h (119 : Int32) 205 dX5_command_105 (by decide +kernel) (by decide +kernel) rfl (fun c105_119 => ?_) (fun c105_119 => ?_)
      · refine V.aload0 h 206 dX5_command_205 rfl (V.aload0 h 207 dX5_command_206 rfl (V.gX5 h 14 210 dX5_command_207 rfl rfl k558 zo rfl (V.iconst h 211 dX5_command_210 rfl ic1_0 (V.ialdN (i := 0) h 212 dX5_command_211 rfl za6 (by omega) (by decide) (V.callVe (As := [.int _]) (st := []) h 215 dX5_command_212 rfl k675 k672 k674 ks68 k6 hd_X5_withdraws ⟨(Nat.le_of_ble_eq_true rfl), (Nat.le_of_ble_eq_true rfl)⟩ (Nat.le_of_ble_eq_true rfl) zo rfl rfl ⟨Nat.zero_le _, Nat.zero_le _⟩ (c_X5_withdraws hok) rfl (fun w212 hw212 => ?_))))))
        obtain ⟨M1, hM1, rfl⟩ := hw212
        refine V.iret h hR dX5_command_215 ?_
        exact fin M1 _ hM1 (by rw [hans, c99, if_pos rfl]; unfold mDo; rw [if_neg c105_103, if_neg c105_104, if_neg c105_112, if_pos c105_119, ← f14, ← hx2])
      refine V.ldflt h 216 dX5_command_105 (by decide +kernel) (by show Op.lookupswitch.offset [(103, 43), (104, 54), (112, 65), (119, 100)] _ _ = _; rw [lv_osw c105_103 (by decide)]; rw [lv_osw c105_104 (by decide)]; rw [lv_osw c105_112 (by decide)]; rw [lv_osw c105_119 (by decide)]; rfl) rfl ?_
      refine V.aload0 h 217 dX5_command_216 rfl (V.aload0 h 218 dX5_command_217 rfl (V.gX5 h 14 221 dX5_command_218 rfl rfl k558 zo rfl (V.iconst h 222 dX5_command_221 rfl ic1_0 (V.ialdN (i := 0) h 223 dX5_command_222 rfl za6 (by omega) (by decide) (V.callVe (As := [.int _]) (st := []) h 226 dX5_command_223 rfl k727 k724 k726 ks80 k6 hd_X5_calls ⟨(Nat.le_of_ble_eq_true rfl), (Nat.le_of_ble_eq_true rfl)⟩ (Nat.le_of_ble_eq_true rfl) zo rfl rfl ⟨Nat.zero_le _, Nat.zero_le _⟩ (c_X5_calls hok hn h4 hg) rfl (fun w223 hw223 => ?_))))))
      obtain ⟨M1, hM1, rfl⟩ := hw223
      refine V.iret h hR dX5_command_226 ?_
      exact fin M1 _ hM1 (by rw [hans, c99, if_pos rfl]; unfold mDo; rw [if_neg c105_103, if_neg c105_104, if_neg c105_112, if_neg c105_119, ← f14, ← hx2])
    · refine V.iconst h 103 dX5_command_102 rfl ic1_0 ?_
      refine V.iret h hR dX5_command_103 ?_
      exact fin M2 (0, s) Sc.rf (by rw [hans, c99]; rfl)
  have L : ∀ (d k : Nat) (M' : Pl), k + d = cMany c → St5 M M' → M' 10 0 = nI (prP (M 4) n p k) → M' 11 0 = bI (prF (M 4) n p c k) → M' 14 = prN (M 4) n p (M 14) k →
      V X 0 0 58 [some (.ref b), some (.int c), some (.int (nI (cMany c))), some (.int (nI k))] [] (mz w b M' s) := by
    intro d
    induction d with
    | zero =>
      intro k M' hk hM e10 e11 e14
      obtain rfl : k = cMany c := by omega
      refine V.iload3 h 59 dX5_command_58 rfl (V.iload2 h 60 dX5_command_59 rfl ?_)
      refine V.icmp_ge h 89 63 dX5_command_60 rfl rfl (fun _ => ?_) (fun q => absurd (lp_out (n := cMany c)) q)
      exact E M' _ hM e10 e11 e14
    | succ d ih =>
      intro k M' hk hM e10 e11 e14
      have h5' : M' 5 0 = nI n := by rw [hM 5 (by decide) (by decide) (by decide)]; exact h5
      have hT : M' 4 = M 4 := hM 4 (by decide) (by decide) (by decide)
      have hpl := prP_le (M 4) n p k
      have hm := fun sg => c_X5_readNumber (w := w) (b := b) (s := s) (c := sg) h5' h80 e10 (by omega) e11
      rw [hT] at hm
      have nx : ∀ sg : Int32, sg = (if k = 0 then c else 44) → V X 0 0 83 [some (.ref b), some (.int c), some (.int (nI (cMany c))), some (.int (nI k))] [] (mz w b (ua (us (us M' 11 (bI (prF (M 4) n p c k && decide (chM (M 4) n (prP (M 4) n p k) = sg) && decide (0 < dgc (M 4) n 3 (prP (M 4) n p k + 1))))) 10 (nI (prP (M 4) n p k + 1 + dgc (M 4) n 3 (prP (M 4) n p k + 1)))) 14 (upd (M' 14) k (dgv (M 4) n 3 (prP (M 4) n p k + 1) 0))) s) := by
        intro sg hsg
        subst hsg
        refine V.incN3 h 86 dX5_command_83 rfl rfl (V.goto h 58 dX5_command_86 rfl ?_)
        refine ih (k + 1) _ (by omega) (fun g a b' c' => ?_) rfl rfl (by rw [e14]; rfl)
        exact (if_neg c').trans ((hM.us _ _) g a b' c')
      by_cases hk0 : k = 0
      · subst hk0
        refine V.iload3 h 59 dX5_command_58 rfl (V.iload2 h 60 dX5_command_59 rfl ?_)
        refine V.icmp_ge h 89 63 dX5_command_60 rfl rfl (fun q => absurd q (lp_in (n := cMany c) (by omega) (by omega))) (fun _ => ?_)
        refine V.aload0 h 64 dX5_command_63 rfl (V.gX5 h 14 67 dX5_command_64 rfl rfl k558 zo rfl (V.iload3 h 68 dX5_command_67 rfl (V.aload0 h 69 dX5_command_68 rfl (V.iload3 h 70 dX5_command_69 rfl ?_))))
        refine V.if_ne h 77 73 dX5_command_70 rfl rfl (fun q => absurd (show nI 0 = 0 from rfl) q) (fun _ => ?_)
        refine V.iload1 h 74 dX5_command_73 rfl (V.goto h 79 dX5_command_74 rfl (V.callVf (As := [.int _]) (st := [.int _, .ref _]) h 82 dX5_command_79 rfl k830 k827 k829 ks94 k6 hd_X5_readNumber ⟨(Nat.le_of_ble_eq_true rfl), (Nat.le_of_ble_eq_true rfl)⟩ (Nat.le_of_ble_eq_true rfl) zo rfl rfl ⟨Nat.zero_le _, Nat.zero_le _⟩ (hm c) rfl (V.iastN h 83 dX5_command_82 rfl za6 (by omega) (by decide) (V.at _ zw6 ?_))))
        exact nx c rfl
      · refine V.iload3 h 59 dX5_command_58 rfl (V.iload2 h 60 dX5_command_59 rfl ?_)
        refine V.icmp_ge h 89 63 dX5_command_60 rfl rfl (fun q => absurd q (lp_in (n := cMany c) (by omega) (by omega))) (fun _ => ?_)
        refine V.aload0 h 64 dX5_command_63 rfl (V.gX5 h 14 67 dX5_command_64 rfl rfl k558 zo rfl (V.iload3 h 68 dX5_command_67 rfl (V.aload0 h 69 dX5_command_68 rfl (V.iload3 h 70 dX5_command_69 rfl ?_))))
        refine V.if_ne h 77 73 dX5_command_70 rfl rfl (fun _ => ?_) (fun q => absurd q (show ¬ nI k = 0 from nI_ne0 (by omega) (by omega)))
        refine V.bipush h 79 dX5_command_77 rfl ic2_44 (V.callVf (As := [.int _]) (st := [.int _, .ref _]) h 82 dX5_command_79 rfl k830 k827 k829 ks94 k6 hd_X5_readNumber ⟨(Nat.le_of_ble_eq_true rfl), (Nat.le_of_ble_eq_true rfl)⟩ (Nat.le_of_ble_eq_true rfl) zo rfl rfl ⟨Nat.zero_le _, Nat.zero_le _⟩ (hm 44) rfl (V.iastN h 83 dX5_command_82 rfl za6 (by omega) (by decide) (V.at _ zw6 ?_)))
        exact nx 44 (by rw [if_neg hk0])
  have K : V X 0 0 44 [some (.ref b), some (.int c), none, none] [] (mz w b (us M 11 (bI (cmdS c))) s) := by
    have hSt : St5 M (us M 11 (bI (cmdS c))) := fun g a b' c' => if_neg b'
    refine V.iload1 h 45 dX5_command_44 rfl (V.bipush h 47 dX5_command_45 rfl ic2_112 ?_)
    refine V.icmp_ne h 54 50 dX5_command_47 rfl rfl (fun c47 => ?_) (fun c47 => ?_)
    · refine V.iconst h 55 dX5_command_54 rfl ic1_1 (V.istore2 h 56 dX5_command_55 rfl rfl (V.iconst h 57 dX5_command_56 rfl ic1_0 (V.istore3 h 58 dX5_command_57 rfl rfl ?_)))
      first
      | (have l := L (cMany c) 0 _ (by omega) hSt h10 rfl rfl; rw [show cMany c = 5 by unfold cMany; rw [if_pos (show c = 112 by simpa using c47)]] at l; exact l)
      | (have l := L (cMany c) 0 _ (by omega) hSt h10 rfl rfl; rw [show cMany c = 1 by unfold cMany; rw [if_neg c47]] at l; exact l)
    · refine V.iconst h 51 dX5_command_50 rfl ic1_5 (V.goto h 55 dX5_command_51 rfl (V.istore2 h 56 dX5_command_55 rfl rfl (V.iconst h 57 dX5_command_56 rfl ic1_0 (V.istore3 h 58 dX5_command_57 rfl rfl ?_))))
      first
      | (have l := L (cMany c) 0 _ (by omega) hSt h10 rfl rfl; rw [show cMany c = 5 by unfold cMany; rw [if_pos (show c = 112 by simpa using c47)]] at l; exact l)
      | (have l := L (cMany c) 0 _ (by omega) hSt h10 rfl rfl; rw [show cMany c = 1 by unfold cMany; rw [if_neg c47]] at l; exact l)
  have one : ∀ (f : Bool), f = cmdS c → V X 0 0 44 [some (.ref b), some (.int c), none, none] [] (mz w b (us M 11 (bI f)) s) := fun f hf => by rw [hf]; exact K
  refine V.aload0 h 1 dX5_command_0 rfl (V.callVf (As := []) (st := []) h 4 dX5_command_1 rfl k826 k823 k825 ks93 k6 hd_X5_here ⟨(Nat.le_of_ble_eq_true rfl), (Nat.le_of_ble_eq_true rfl)⟩ (Nat.le_of_ble_eq_true rfl) zo rfl rfl ⟨Nat.zero_le _, Nat.zero_le _⟩ (c_X5_here h5 h80 h10 (by omega)) rfl ?_)
  rw [← hc]
  refine V.istore1 h 5 dX5_command_4 rfl rfl (V.aload0 h 6 dX5_command_5 rfl (V.iload1 h 7 dX5_command_6 rfl (V.bipush h 9 dX5_command_7 rfl ic2_103 ?_)))
  refine V.icmp_eq h 36 12 dX5_command_9 rfl rfl (fun c9 => ?_) (fun c9 => ?_)
  · refine V.iconst h 37 dX5_command_36 rfl ic1_1 (V.goto h 41 dX5_command_37 rfl (V.sX5 h 11 44 dX5_command_41 rfl rfl k555 rfl (by first | exact bI_z _ | rfl) rfl zo rfl (V.at _ zp11 ?_)))
    clear hc
    first | exact one true (by unfold cmdS; simp [*]; done) | exact one false (by unfold cmdS; simp [*]; done)
  · refine V.iload1 h 13 dX5_command_12 rfl (V.bipush h 15 dX5_command_13 rfl ic2_104 ?_)
    refine V.icmp_eq h 36 18 dX5_command_15 rfl rfl (fun c15 => ?_) (fun c15 => ?_)
    · refine V.iconst h 37 dX5_command_36 rfl ic1_1 (V.goto h 41 dX5_command_37 rfl (V.sX5 h 11 44 dX5_command_41 rfl rfl k555 rfl (by first | exact bI_z _ | rfl) rfl zo rfl (V.at _ zp11 ?_)))
      clear hc
      first | exact one true (by unfold cmdS; simp [*]; done) | exact one false (by unfold cmdS; simp [*]; done)
    · refine V.iload1 h 19 dX5_command_18 rfl (V.bipush h 21 dX5_command_19 rfl ic2_112 ?_)
      refine V.icmp_eq h 36 24 dX5_command_21 rfl rfl (fun c21 => ?_) (fun c21 => ?_)
      · refine V.iconst h 37 dX5_command_36 rfl ic1_1 (V.goto h 41 dX5_command_37 rfl (V.sX5 h 11 44 dX5_command_41 rfl rfl k555 rfl (by first | exact bI_z _ | rfl) rfl zo rfl (V.at _ zp11 ?_)))
        clear hc
        first | exact one true (by unfold cmdS; simp [*]; done) | exact one false (by unfold cmdS; simp [*]; done)
      · refine V.iload1 h 25 dX5_command_24 rfl (V.bipush h 27 dX5_command_25 rfl ic2_119 ?_)
        refine V.icmp_eq h 36 30 dX5_command_27 rfl rfl (fun c27 => ?_) (fun c27 => ?_)
        · refine V.iconst h 37 dX5_command_36 rfl ic1_1 (V.goto h 41 dX5_command_37 rfl (V.sX5 h 11 44 dX5_command_41 rfl rfl k555 rfl (by first | exact bI_z _ | rfl) rfl zo rfl (V.at _ zp11 ?_)))
          clear hc
          first | exact one true (by unfold cmdS; simp [*]; done) | exact one false (by unfold cmdS; simp [*]; done)
        · refine V.iload1 h 31 dX5_command_30 rfl (V.bipush h 33 dX5_command_31 rfl ic2_99 ?_)
          refine V.icmp_ne h 40 36 dX5_command_33 rfl rfl (fun c33 => ?_) (fun c33 => ?_)
          · refine V.iconst h 41 dX5_command_40 rfl ic1_0 (V.sX5 h 11 44 dX5_command_41 rfl rfl k555 rfl (by first | exact bI_z _ | rfl) rfl zo rfl (V.at _ zp11 ?_))
            clear hc
            first | exact one true (by unfold cmdS; simp [*]; done) | exact one false (by unfold cmdS; simp [*]; done)
          · refine V.iconst h 37 dX5_command_36 rfl ic1_1 (V.goto h 41 dX5_command_37 rfl (V.sX5 h 11 44 dX5_command_41 rfl rfl k555 rfl (by first | exact bI_z _ | rfl) rfl zo rfl (V.at _ zp11 ?_)))
            clear hc
            first | exact one true (by unfold cmdS; simp [*]; done) | exact one false (by unfold cmdS; simp [*]; done)
/-- all commands from p on: the answer, the row of numbers, the reason, the cause -/
def mRun (T : Nat → Int32) (n : Nat) (x : Ex) : Nat → Nat → Nat → (Nat → Int32) → (Nat → Int32) → Int32 × (Nat → Int32) × Int32 × Int32
  | 0, _, m, s, _ => (-1 - nI m, s, 0, 0)
  | f + 1, p, m, s, N =>
    if p < n then
      (if cF T n p = false then (nI p, (mCm T n p s x N).2, 1, (mCm T n p s x N).1)
       else if (mCm T n p s x N).1 < 0 then (nI p, (mCm T n p s x N).2, 2, (mCm T n p s x N).1)
       else mRun T n x f (cP T n p) (m + 1) (mCm T n p s x N).2 (cN T n p N))
    else (-1 - nI m, s, 0, 0)
theorem cP_gt (T : Nat → Int32) (n p : Nat) : p < cP T n p ∧ cP T n p ≤ p + 21 := by
  have h1 : ∀ k, p ≤ prP T n p k := fun k => by
    induction k with
    | zero => exact Nat.le_refl _
    | succ k ih => rw [prP]; omega
  have h2 := prP_le T n p (cMany (chM T n p))
  have h3 : cMany (chM T n p) ≤ 5 := by unfold cMany; split <;> omega
  have h4 := h1 (cMany (chM T n p))
  unfold cP
  omega
/-- the same but for what commands note -/
def Su (M M' : Pl) : Prop := ∀ g, g ≠ 8 → g ≠ 9 → g ≠ 10 → g ≠ 11 → g ≠ 12 → g ≠ 13 → g ≠ 14 → M' g = M g
theorem neg1 {m : Nat} (h : m < 2 ^ 29) : ¬ (0 : Int32) ≤ -1 - nI m := by
  have e : (-1 : Int32) - nI m = nI 0 - nI (m + 1) := by
    rw [nI_succ, nI_0]
    apply Int32.toBitVec_inj.mp
    simp only [Int32.toBitVec_sub, Int32.toBitVec_add]
    have h1 : (-1 : Int32).toBitVec = 0#32 - 1#32 := by decide
    have h2 : (0 : Int32).toBitVec = 0#32 := by decide
    have h3 : (1 : Int32).toBitVec = 1#32 := by decide
    rw [h1, h2, h3]
    bv_omega
  rw [e]
  exact lt_n (pk_sneg (by omega) (by omega))
theorem c_X5_does {M : Pl} {b n : Nat} {s : Nat → Int32} {w : Wd} (h5 : M 5 0 = nI n) (h80 : n ≤ 80) (I : (Nat → Int32) → Prop) (hI : ∀ s, I s → sPre s (mX M)) (hst : ∀ s c N, I s → I (mDo s (mX M) c N).2) (hs : I s) : K_X5_does [.ref b] (mz w b M s) (RE (mRun (M 4) n (mX M) (n + 1) 0 0 s (M 14)).1 (fun u => ∃ M', Su M M' ∧ (0 ≤ (mRun (M 4) n (mX M) (n + 1) 0 0 s (M 14)).1 → M' 12 0 = (mRun (M 4) n (mX M) (n + 1) 0 0 s (M 14)).2.2.1 ∧ M' 13 0 = (mRun (M 4) n (mX M) (n + 1) 0 0 s (M 14)).2.2.2) ∧ u = mz w b M' (mRun (M 4) n (mX M) (n + 1) 0 0 s (M 14)).2.1)) := by
  refine Con.mk [some (.ref b), none, none] (by decide) rfl rfl (Nat.le_of_ble_eq_true rfl) (fun X h hR hnm => ?_)
  obtain ⟨r, hr⟩ : ∃ r, r = mRun (M 4) n (mX M) (n + 1) 0 0 s (M 14) := ⟨_, rfl⟩
  rw [← hr] at hR
  have L : ∀ (f p m : Nat) (s : Nat → Int32) (M' : Pl) (u : Option Value), I s → p < 200 → m + n < 200 + p → n < p + f → Su M M' → M' 10 0 = nI p → r = mRun (M 4) n (mX M) f p m s (M' 14) →
      V X 0 0 7 [some (.ref b), some (.int (nI m)), u] [] (mz w b M' s) := by
    intro f
    induction f with
    | zero =>
      intro p m s M' u hIs hp hm hf hM e10 hr
      have h5' : M' 5 0 = nI n := by rw [hM 5 (by decide) (by decide) (by decide) (by decide) (by decide) (by decide) (by decide)]; exact h5
      have e : r = (-1 - nI m, s, 0, 0) := hr
      refine V.aload0 h 8 dX5_does_7 rfl (V.gX5 h 10 11 dX5_does_8 rfl rfl k554 zo rfl (V.aload0 h 12 dX5_does_11 rfl (V.gX5 h 5 15 dX5_does_12 rfl rfl k549 zo rfl ?_)))
      refine V.icmp_ge h 73 18 dX5_does_15 rfl rfl (fun _ => ?_) (fun q => absurd (show M' 5 0 ≤ M' 10 0 by rw [h5', e10]; exact nI_le (by omega) (by omega)) q)
      refine V.iconst h 74 dX5_does_73 rfl ic1_m1 (V.iload1 h 75 dX5_does_74 rfl (V.isub h 76 dX5_does_75 rfl ?_))
      refine V.iret h hR dX5_does_76 ?_
      rw [e]
      exact ⟨rfl, M', hM, fun h => absurd h (neg1 (by omega)), rfl⟩
    | succ f ih =>
      intro p m s M' u hIs hp hm hf hM e10 hr
      rw [mRun] at hr
      have h5' : M' 5 0 = nI n := by rw [hM 5 (by decide) (by decide) (by decide) (by decide) (by decide) (by decide) (by decide)]; exact h5
      have hT : M' 4 = M 4 := hM 4 (by decide) (by decide) (by decide) (by decide) (by decide) (by decide) (by decide)
      have hx : mX M' = mX M := by unfold mX; rw [hM 6 (by decide) (by decide) (by decide) (by decide) (by decide) (by decide) (by decide), hM 7 (by decide) (by decide) (by decide) (by decide) (by decide) (by decide) (by decide)]
      by_cases hpn : p < n
      · rw [if_pos hpn] at hr
        have hc := c_X5_command (w := w) (b := b) (M := M') (s := s) h5' h80 e10 (by omega) (by rw [hx]; exact hI s hIs)
        rw [hT, hx] at hc
        obtain ⟨g1, g2⟩ := cP_gt (M 4) n p
        refine V.aload0 h 8 dX5_does_7 rfl (V.gX5 h 10 11 dX5_does_8 rfl rfl k554 zo rfl (V.aload0 h 12 dX5_does_11 rfl (V.gX5 h 5 15 dX5_does_12 rfl rfl k549 zo rfl ?_)))
        refine V.icmp_ge h 73 18 dX5_does_15 rfl rfl (fun q => absurd q (show ¬ M' 5 0 ≤ M' 10 0 by rw [h5', e10]; exact nI_ge hpn (by omega))) (fun _ => ?_)
        refine V.aload0 h 19 dX5_does_18 rfl (V.gX5 h 10 22 dX5_does_19 rfl rfl k554 zo rfl (V.istore2 h 23 dX5_does_22 rfl rfl (V.aload0 h 24 dX5_does_23 rfl (V.aload0 h 25 dX5_does_24 rfl (V.callVe (As := []) (st := [.ref _]) h 28 dX5_does_25 rfl k822 k819 k821 ks92 k6 hd_X5_command ⟨(Nat.le_of_ble_eq_true rfl), (Nat.le_of_ble_eq_true rfl)⟩ (Nat.le_of_ble_eq_true rfl) zo rfl rfl ⟨Nat.zero_le _, Nat.zero_le _⟩ hc rfl (fun w25 hw25 => ?_))))))
        obtain ⟨M1, hM1, f10, f11, f14, rfl⟩ := hw25
        refine V.sX5 h 13 31 dX5_does_28 rfl rfl k557 rfl rfl rfl zo rfl (V.at _ zp13 (V.aload0 h 32 dX5_does_31 rfl (V.aload0 h 33 dX5_does_32 rfl (V.gX5 h 11 36 dX5_does_33 rfl rfl k555 zo rfl ?_))))
        rw [show (us M1 13 (mCm (M 4) n p s (mX M) (M' 14)).1) 11 0 = bI (cF (M 4) n p) from f11]
        refine V.bif_ne h 43 39 dX5_does_36 rfl rfl (fun c36 => ?_) (fun c36 => ?_)
        · refine V.aload0 h 44 dX5_does_43 rfl (V.gX5 h 13 47 dX5_does_44 rfl rfl k557 zo rfl ?_)
          refine V.if_ge h 54 50 dX5_does_47 rfl rfl (fun c47 => ?_) (fun c47 => ?_)
          · refine V.iconst h 55 dX5_does_54 rfl ic1_0 (V.sX5 h 12 58 dX5_does_55 rfl rfl k556 rfl rfl rfl zo rfl (V.at _ zp12 ?_))
            have hSu : ∀ y, Su M (us (us M1 13 (mCm (M 4) n p s (mX M) (M' 14)).1) 12 y) := fun y g a b' c d e f' g' => (if_neg e).trans ((if_neg f').trans ((hM1 g a b' c d g').trans (hM g a b' c d e f' g')))
            refine V.aload0 h 59 dX5_does_58 rfl (V.gX5 h 12 62 dX5_does_59 rfl rfl k556 zo rfl ?_)
            refine V.if_le h 67 65 dX5_does_62 rfl rfl (fun c62 => ?_) (fun c62 => ?_)
            · refine V.incN1 h 70 dX5_does_67 rfl rfl (V.goto h 7 dX5_does_70 rfl ?_)
              first
              | exact absurd (show (1 : Int32) ≤ 0 from c62) (by decide)
              | exact absurd (show (2 : Int32) ≤ 0 from c62) (by decide)
              | (refine ih (cP (M 4) n p) (m + 1) _ _ _ (by unfold mCm; rw [if_pos c36]; exact hst _ _ _ hIs) (by omega) (by omega) (by omega) (hSu _) f10 ?_; rw [hr, if_neg (fun q => absurd (c36.symm.trans q) (by decide)), if_neg (show ¬ (mCm (M 4) n p s (mX M) (M' 14)).1 < 0 from le_n c47)]; show _ = mRun _ _ _ _ _ _ _ (M1 14); rw [f14])
            · refine V.iload2 h 66 dX5_does_65 rfl ?_
              refine V.iret h hR dX5_does_66 ?_
              first
              | exact absurd (Int32.le_refl _) (show ¬ (0 : Int32) ≤ 0 from c62)
              | (rw [show r = (nI p, (mCm (M 4) n p s (mX M) (M' 14)).2, 1, (mCm (M 4) n p s (mX M) (M' 14)).1) from hr.trans (if_pos c36)]; exact ⟨congrArg (fun z => some (Value.int z)) e10, _, hSu _, fun _ => ⟨rfl, rfl⟩, rfl⟩)
              | (rw [show r = (nI p, (mCm (M 4) n p s (mX M) (M' 14)).2, 2, (mCm (M 4) n p s (mX M) (M' 14)).1) from hr.trans ((if_neg (fun q => absurd (c36.symm.trans q) (by decide))).trans (if_pos (show (mCm (M 4) n p s (mX M) (M' 14)).1 < 0 from nle c47)))]; exact ⟨congrArg (fun z => some (Value.int z)) e10, _, hSu _, fun _ => ⟨rfl, rfl⟩, rfl⟩)
          · refine V.iconst h 51 dX5_does_50 rfl ic1_2 (V.goto h 55 dX5_does_51 rfl (V.sX5 h 12 58 dX5_does_55 rfl rfl k556 rfl rfl rfl zo rfl (V.at _ zp12 ?_)))
            have hSu : ∀ y, Su M (us (us M1 13 (mCm (M 4) n p s (mX M) (M' 14)).1) 12 y) := fun y g a b' c d e f' g' => (if_neg e).trans ((if_neg f').trans ((hM1 g a b' c d g').trans (hM g a b' c d e f' g')))
            refine V.aload0 h 59 dX5_does_58 rfl (V.gX5 h 12 62 dX5_does_59 rfl rfl k556 zo rfl ?_)
            refine V.if_le h 67 65 dX5_does_62 rfl rfl (fun c62 => ?_) (fun c62 => ?_)
            · refine V.incN1 h 70 dX5_does_67 rfl rfl (V.goto h 7 dX5_does_70 rfl ?_)
              first
              | exact absurd (show (1 : Int32) ≤ 0 from c62) (by decide)
              | exact absurd (show (2 : Int32) ≤ 0 from c62) (by decide)
              | (refine ih (cP (M 4) n p) (m + 1) _ _ _ (by unfold mCm; rw [if_pos c36]; exact hst _ _ _ hIs) (by omega) (by omega) (by omega) (hSu _) f10 ?_; rw [hr, if_neg (fun q => absurd (c36.symm.trans q) (by decide)), if_neg (show ¬ (mCm (M 4) n p s (mX M) (M' 14)).1 < 0 from le_n c47)]; show _ = mRun _ _ _ _ _ _ _ (M1 14); rw [f14])
            · refine V.iload2 h 66 dX5_does_65 rfl ?_
              refine V.iret h hR dX5_does_66 ?_
              first
              | exact absurd (Int32.le_refl _) (show ¬ (0 : Int32) ≤ 0 from c62)
              | (rw [show r = (nI p, (mCm (M 4) n p s (mX M) (M' 14)).2, 1, (mCm (M 4) n p s (mX M) (M' 14)).1) from hr.trans (if_pos c36)]; exact ⟨congrArg (fun z => some (Value.int z)) e10, _, hSu _, fun _ => ⟨rfl, rfl⟩, rfl⟩)
              | (rw [show r = (nI p, (mCm (M 4) n p s (mX M) (M' 14)).2, 2, (mCm (M 4) n p s (mX M) (M' 14)).1) from hr.trans ((if_neg (fun q => absurd (c36.symm.trans q) (by decide))).trans (if_pos (show (mCm (M 4) n p s (mX M) (M' 14)).1 < 0 from nle c47)))]; exact ⟨congrArg (fun z => some (Value.int z)) e10, _, hSu _, fun _ => ⟨rfl, rfl⟩, rfl⟩)
        · refine V.iconst h 40 dX5_does_39 rfl ic1_1 (V.goto h 55 dX5_does_40 rfl (V.sX5 h 12 58 dX5_does_55 rfl rfl k556 rfl rfl rfl zo rfl (V.at _ zp12 ?_)))
          have hSu : ∀ y, Su M (us (us M1 13 (mCm (M 4) n p s (mX M) (M' 14)).1) 12 y) := fun y g a b' c d e f' g' => (if_neg e).trans ((if_neg f').trans ((hM1 g a b' c d g').trans (hM g a b' c d e f' g')))
          refine V.aload0 h 59 dX5_does_58 rfl (V.gX5 h 12 62 dX5_does_59 rfl rfl k556 zo rfl ?_)
          refine V.if_le h 67 65 dX5_does_62 rfl rfl (fun c62 => ?_) (fun c62 => ?_)
          · refine V.incN1 h 70 dX5_does_67 rfl rfl (V.goto h 7 dX5_does_70 rfl ?_)
            first
            | exact absurd (show (1 : Int32) ≤ 0 from c62) (by decide)
            | exact absurd (show (2 : Int32) ≤ 0 from c62) (by decide)
            | (refine ih (cP (M 4) n p) (m + 1) _ _ _ (by unfold mCm; rw [if_pos c36]; exact hst _ _ _ hIs) (by omega) (by omega) (by omega) (hSu _) f10 ?_; rw [hr, if_neg (fun q => absurd (c36.symm.trans q) (by decide)), if_neg (show ¬ (mCm (M 4) n p s (mX M) (M' 14)).1 < 0 from le_n c47)]; show _ = mRun _ _ _ _ _ _ _ (M1 14); rw [f14])
          · refine V.iload2 h 66 dX5_does_65 rfl ?_
            refine V.iret h hR dX5_does_66 ?_
            first
            | exact absurd (Int32.le_refl _) (show ¬ (0 : Int32) ≤ 0 from c62)
            | (rw [show r = (nI p, (mCm (M 4) n p s (mX M) (M' 14)).2, 1, (mCm (M 4) n p s (mX M) (M' 14)).1) from hr.trans (if_pos c36)]; exact ⟨congrArg (fun z => some (Value.int z)) e10, _, hSu _, fun _ => ⟨rfl, rfl⟩, rfl⟩)
            | (rw [show r = (nI p, (mCm (M 4) n p s (mX M) (M' 14)).2, 2, (mCm (M 4) n p s (mX M) (M' 14)).1) from hr.trans ((if_neg (fun q => absurd (c36.symm.trans q) (by decide))).trans (if_pos (show (mCm (M 4) n p s (mX M) (M' 14)).1 < 0 from nle c47)))]; exact ⟨congrArg (fun z => some (Value.int z)) e10, _, hSu _, fun _ => ⟨rfl, rfl⟩, rfl⟩)
      · rw [if_neg hpn] at hr
        refine V.aload0 h 8 dX5_does_7 rfl (V.gX5 h 10 11 dX5_does_8 rfl rfl k554 zo rfl (V.aload0 h 12 dX5_does_11 rfl (V.gX5 h 5 15 dX5_does_12 rfl rfl k549 zo rfl ?_)))
        refine V.icmp_ge h 73 18 dX5_does_15 rfl rfl (fun _ => ?_) (fun q => absurd (show M' 5 0 ≤ M' 10 0 by rw [h5', e10]; exact nI_le (by omega) (by omega)) q)
        refine V.iconst h 74 dX5_does_73 rfl ic1_m1 (V.iload1 h 75 dX5_does_74 rfl (V.isub h 76 dX5_does_75 rfl ?_))
        refine V.iret h hR dX5_does_76 ?_
        rw [show r = (-1 - nI m, s, 0, 0) from hr]
        exact ⟨rfl, M', hM, fun h => absurd h (neg1 (by omega)), rfl⟩
  refine V.aload0 h 1 dX5_does_0 rfl (V.iconst h 2 dX5_does_1 rfl ic1_0 (V.sX5 h 10 5 dX5_does_2 rfl rfl k554 rfl rfl rfl zo rfl (V.at _ zp10 (V.iconst h 6 dX5_does_5 rfl ic1_0 (V.istore1 h 7 dX5_does_6 rfl rfl ?_)))))
  exact L (n + 1) 0 0 s (us M 10 0) _ hs (by omega) (by omega) (by omega) (fun g a b' c d e f g' => if_neg c) rfl hr
