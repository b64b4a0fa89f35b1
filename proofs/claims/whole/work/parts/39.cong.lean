/-! records that agree where it counts mean the same -/
/-- agreement of two records on the goals and on the pledges of a set -/
def Cg (P P' : Pl) (L : Int32) : Prop := (∀ k, k < 4 → P 1 k = P' 1 k) ∧ ∀ k, k < 12 → Bt L k = true → P 8 k = P' 8 k ∧ P 9 k = P' 9 k ∧ P 10 k = P' 10 k ∧ P 11 k = P' 11 k ∧ P 12 k = P' 12 k
/-- the same below 12 -/
def b12 (S S' : Int32) : Prop := ∀ k, k < 12 → Bt S k = Bt S' k
def s12 (S L : Int32) : Prop := ∀ k, k < 12 → Bt S k = true → Bt L k = true
theorem b12.rf {S : Int32} : b12 S S := fun _ _ => rfl
theorem b12.orr {S S' T T' : Int32} (h : b12 S S') (h' : b12 T T') : b12 (S ||| T) (S' ||| T') := fun k hk => by rw [bt_or, bt_or, h k hk, h' k hk]
theorem b12.andd {S S' T T' : Int32} (h : b12 S S') (h' : b12 T T') : b12 (S &&& T) (S' &&& T') := fun k hk => by rw [bt_and, bt_and, h k hk, h' k hk]
theorem b12.wo {S S' : Int32} (h : b12 S S') {i : Nat} (hi : i < 12) : b12 (wo S i) (wo S' i) := fun k hk => by rw [wo_bt _ (by omega) (by omega), wo_bt _ (by omega) (by omega), h k hk]
theorem s12.wo {S L : Int32} (h : s12 S L) {i : Nat} (hi : i < 12) : s12 (wo S i) L := fun k hk hb => by
  rw [wo_bt _ (by omega) (by omega), Bool.and_eq_true] at hb
  exact h k hk hb.1
theorem s12.orr {S T L : Int32} (h : s12 S L) (h' : s12 T L) : s12 (S ||| T) L := fun k hk hb => by
  rw [bt_or, Bool.or_eq_true] at hb
  exact hb.elim (h k hk) (h' k hk)
theorem s12.andd {S L : Int32} (T : Int32) (h : s12 S L) : s12 (S &&& T) L := fun k hk hb => by
  rw [bt_and, Bool.and_eq_true] at hb
  exact h k hk hb.1
theorem sb.s12 {S L : Int32} (h : sb S L) : s12 S L := fun k _ hb => h k hb
section CG
variable {P P' : Pl} {L : Int32}
theorem mny_cg (h : Cg P P' L) {x : Ex} {S S' j : Int32} (hS : b12 S S') (hL : s12 S L) : mny P x S j = mny P' x S' j := by
  unfold mny
  refine congrArg (HAdd.hAdd _) (sm_congr fun k hk => ?_)
  rw [← hS k hk]
  cases hb : Bt S k
  · simp
  · obtain ⟨-, e9, e10, -⟩ := h.2 k hk (hL k hk hb)
    rw [e9, e10]
theorem mnn_cg (h : Cg P P' L) {x : Ex} {S S' j : Int32} (hS : b12 S S') (hL : s12 S L) : mnn P x S j = mnn P' x S' j := by
  unfold mnn
  refine congrArg (HAdd.hAdd _) (sm_congr fun k hk => ?_)
  rw [← hS k hk]
  cases hb : Bt S k
  · simp
  · obtain ⟨-, e9, e10, -⟩ := h.2 k hk (hL k hk hb)
    rw [e9]
theorem isO_cg (h : Cg P P' L) {S S' j : Int32} (hS : b12 S S') (hL : s12 S L) : isO P S j = isO P' S' j := by
  unfold isO
  refine anyb_congr fun k hk => ?_
  rw [← hS k hk]
  cases hb : Bt S k
  · simp
  · obtain ⟨e8, -⟩ := h.2 k hk (hL k hk hb)
    rw [e8]
theorem hld_cg (h : Cg P P' L) {x : Ex} {S S' : Int32} {k : Nat} (hk : k < 12) (hk2 : Bt L k = true) (hc : kOK P k) (hS : b12 S S') (hL : s12 S L) : hld P x k S = hld P' x k S' := by
  obtain ⟨-, e9, -, e11, e12⟩ := h.2 k hk hk2
  unfold hld
  rw [← e9, ← e11, ← e12, mny_cg h (hS.wo hk) (hL.wo hk), mnn_cg h (hS.wo hk) (hL.wo hk), isO_cg h hS hL, mny_cg h hS hL]
  by_cases h0 : P 11 k = 0
  · rw [if_pos h0, if_pos h0]
  by_cases h1 : P 11 k = 1
  · rw [if_neg h0, if_neg h0, if_pos h1, if_pos h1]
  by_cases h2 : P 11 k = 2
  · rw [if_neg h0, if_neg h0, if_neg h1, if_neg h1, if_pos h2, if_pos h2]
  by_cases h3 : P 11 k = 3
  · rw [if_neg h0, if_neg h0, if_neg h1, if_neg h1, if_neg h2, if_neg h2, if_pos h3, if_pos h3]
  · rw [if_neg h0, if_neg h0, if_neg h1, if_neg h1, if_neg h2, if_neg h2, if_neg h3, if_neg h3]
    obtain ⟨j, hj, e⟩ : ∃ j, j < 4 ∧ P 12 k = nI j := by
      rcases hc with q | q | q | q | q
      · exact absurd q h0
      · exact absurd q h1
      · exact absurd q h2
      · exact absurd q h3
      · exact q
    rw [e, nI_tn (by omega), h.1 j hj]
theorem fal_cg (h : Cg P P' L) {x : Ex} {S C C' : Int32} (hc : ∀ k, k < 12 → Bt S k = true → kOK P k) (hC : b12 C C') (hL : s12 S L) (hL' : s12 C L) : fal P x S C = fal P' x S C' := by
  unfold fal
  refine mk_congr fun k hk => ?_
  cases hb : Bt S k
  · simp
  · rw [hld_cg h hk (hL k hk hb) (hc k hk hb) (b12.rf.orr hC) (hL.orr hL')]
theorem gs_cg (h : Cg P P' L) {x : Ex} {S C C' : Int32} (hc : ∀ k, k < 12 → Bt S k = true → kOK P k) (hC : b12 C C') (hL : s12 S L) (hL' : s12 C L) : ∀ n, gs P x C n S = gs P' x C' n S
  | 0 => rfl
  | n + 1 => by
    rw [gs_s, gs_s, ← gs_cg h hc hC hL hL' n, fal_cg h (fun k hk hb => hc k hk (gs_sub n hb)) hC (fun k hk hb => hL k hk (gs_sub n hb)) hL']
theorem grt_cg (h : Cg P P' L) {x : Ex} {S C C' : Int32} (hc : ∀ k, k < 12 → Bt S k = true → kOK P k) (hC : b12 C C') (hL : s12 S L) (hL' : s12 C L) : grt P x S C = grt P' x S C' := gs_cg h hc hC hL hL' 12
theorem nw_cg (h : Cg P P' L) {x : Ex} {S C C' : Int32} (hc : ∀ k, k < 12 → Bt S k = true → kOK P k) (hC : b12 C C') (hL : s12 S L) (hL' : s12 C L) : ∀ n, nw P x S C n = nw P' x S C' n
  | 0 => rfl
  | n + 1 => by
    rw [nw, nw, nw_cg h hc hC hL hL' n, ← gs_cg h hc hC hL hL' n, fal_cg h (fun k hk hb => hc k hk (gs_sub n hb)) hC (fun k hk hb => hL k hk (gs_sub n hb)) hL']
theorem wvm_cg (h : Cg P P' L) {x : Ex} {S C C' : Int32} {old : Nat → Int32} (hc : ∀ k, k < 12 → Bt S k = true → kOK P k) (hC : b12 C C') (hL : s12 S L) (hL' : s12 C L) : ∀ n, wvm P x S C old n = wvm P' x S C' old n
  | 0 => rfl
  | n + 1 => by
    rw [wvm, wvm, wvm_cg h hc hC hL hL' n, ← gs_cg h hc hC hL hL' n, fal_cg h (fun k hk hb => hc k hk (gs_sub n hb)) hC (fun k hk hb => hL k hk (gs_sub n hb)) hL']
theorem amt_cg (h : Cg P P' L) {S : Int32} (hL : s12 S L) : amt P S = amt P' S := by
  unfold amt
  refine sm_congr fun k hk => ?_
  cases hb : Bt S k
  · rfl
  · rw [(h.2 k hk (hL k hk hb)).2.2.1]
theorem forP_cg (h : Cg P P' (live P)) (e : live P = live P') (j : Int32) : forP P j = forP P' j := by
  unfold forP
  refine mk_congr fun k hk => ?_
  rw [← e]
  cases hb : Bt (live P) k
  · rfl
  · rw [(h.2 k hk hb).2.1]
theorem ofP_cg (h : Cg P P' (live P)) (e : live P = live P') (j : Int32) : ofP P j = ofP P' j := by
  unfold ofP
  refine mk_congr fun k hk => ?_
  rw [← e]
  cases hb : Bt (live P) k
  · rfl
  · rw [(h.2 k hk hb).1]
theorem hasG_cg (h : Cg P P' L) {x : Ex} {S : Int32} {j : Nat} (hj : j < 4) (hL : s12 S L) : hasG P x S (nI j) = hasG P' x S (nI j) := by
  unfold hasG
  rw [nI_tn (by omega), h.1 j hj, mny_cg h b12.rf hL]
theorem std_cg (h : Cg P P' (live P)) {x : Ex} {g : Int32} (hc : ∀ k, k < 12 → Bt (P 6 0) k = true → kOK P k) (e6 : P 6 0 = P' 6 0) (e7 : P 7 0 = P' 7 0) : std P x g = std P' x g := by
  unfold std
  rw [← e6, ← e7, grt_cg h (fun k hk hb => hc k hk (by rw [bt_and, Bool.and_eq_true] at hb; exact hb.1)) b12.rf ((sb_op P).s12.andd _) (sb_ca P).s12]
end CG
theorem cOKc.k {P : Pl} {k : Nat} (h : cOKc P k) : kOK P k := by
  rcases h with q | q | q | ⟨q, -⟩ | ⟨-, q⟩
  · exact Or.inl q
  · exact Or.inr (Or.inl q)
  · exact Or.inr (Or.inr (Or.inl q))
  · exact Or.inr (Or.inr (Or.inr (Or.inl q)))
  · exact Or.inr (Or.inr (Or.inr (Or.inr q)))
theorem POK.k {P : Pl} (h : POK P) {S : Int32} (hS : sb S (live P)) : ∀ k, k < 12 → Bt S k = true → kOK P k := fun k hk hb => (h.2 k hk (hS k hb)).2.2.k
/-- all but the place of a pledge that is only thought of -/
def E12 (P P' : Pl) : Prop := ∀ f k, k ≠ 12 → P' f k = P f k
theorem E12.rf {P : Pl} : E12 P P := fun _ _ _ => rfl
theorem E12.tr {P P' P'' : Pl} (h : E12 P P') (h' : E12 P' P'') : E12 P P'' := fun f k hk => (h' f k hk).trans (h f k hk)
theorem E12.live {P P' : Pl} (h : E12 P P') : live P = _root_.Jvm.Pilot.CPledgeTipsLaw_law_r3089_549eb5.live P' := by
  show P 6 0 ||| P 7 0 = P' 6 0 ||| P' 7 0
  rw [h 6 0 (by decide), h 7 0 (by decide)]
theorem E12.cg {P P' : Pl} (h : E12 P P') (L : Int32) : Cg P P' L := ⟨fun k hk => (h 1 k (by omega)).symm, fun k hk _ => ⟨(h _ k (by omega)).symm, (h _ k (by omega)).symm, (h _ k (by omega)).symm, (h _ k (by omega)).symm, (h _ k (by omega)).symm⟩⟩
theorem cOKc_cg {P P' : Pl} {k : Nat} (h11 : P' 11 k = P 11 k) (h12 : P' 12 k = P 12 k) (h : cOKc P k) : cOKc P' k := by
  unfold cOKc at *
  rw [h11, h12]; exact h
theorem E12.ok {P P' : Pl} (h : E12 P P') (hO : POK P) : POK P' := by
  refine ⟨by rw [← h.live]; exact hO.1, fun k hk hb => ?_⟩
  rw [← h.live] at hb
  obtain ⟨⟨t, ht, e9⟩, ⟨g, hg, e8⟩, hc⟩ := hO.2 k hk hb
  exact ⟨⟨t, ht, (h 9 k (by omega)).trans e9⟩, ⟨g, hg, (h 8 k (by omega)).trans e8⟩, cOKc_cg (h 11 k (by omega)) (h 12 k (by omega)) hc⟩
