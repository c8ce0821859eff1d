/-! reading word by word; firstError on both sides -/
theorem m_wordAt {v2 : gV} {l p ask i f n : Nat} (ht : TB v2) (hl60 : l ≤ 60) (h : v2 84 55 = nI ask) (hp : p < 14) (ha : ask < 2) (hi : i < 8) (hn : f + n ≤ l) :
    (∃ w q, isW (v2 87) f n w ∧ aft p ask i w = some q ∧ sX6_wordAt 1000 v2 (nI f) (nI n) (nI (stN p)) (putI i) = some (nI w)) ∨ ((∀ w, isW (v2 87) f n w → aft p ask i w = none) ∧ sX6_wordAt 1000 v2 (nI f) (nI n) (nI (stN p)) (putI i) = some (-1)) := by
  have step : ∀ j k, j < 25 → sX6_wordAt_3 1000 (k + 1) v2 (nI f) (nI n) (nI (stN p)) (putI i) (nI j) = if n = lenW j ∧ spA (v2 87) j f n = true ∧ aft p ask i j ≠ none then some (nI j) else sX6_wordAt_3 1000 k v2 (nI f) (nI n) (nI (stN p)) (putI i) (nI (j + 1)) := by
    intro j k hj
    have hl := len_tab j hj
    have htt := (toC_neg hp ha hi hj).2
    conv => lhs; unfold sX6_wordAt_3
    rw [if_neg (show ¬ (25 : Int32) ≤ nI j from nI_ge (b := 25) hj (by decide)), m_len ht hj, ob, nI_1]
    by_cases z : n = lenW j
    · rw [if_pos (show nI (lenW j) = nI n by rw [z]), m_spells ht hl60 hj hn, ob, m_next h hp ha hi hj, ob]
      unfold spB
      rw [show decide (n ≤ lenW j) = true by simp; omega, Bool.true_and]
      cases y : spA (v2 87) j f n with
      | false => rw [if_pos bIf_eq, if_neg (by simp)]
      | true =>
        rw [if_neg bIt_ne]
        by_cases x : aft p ask i j = none
        · rw [if_pos (htt.mpr x), if_neg (fun q => q.2.2 x)]
        · rw [if_neg (fun q => x (htt.mp q)), if_pos ⟨z, rfl, x⟩]
    · rw [if_neg (fun q => z ((nI_eq (by omega) (by omega)).mp q).symm), if_neg (fun q => z q.1)]
  by_cases hex : ∃ w, isW (v2 87) f n w ∧ aft p ask i w ≠ none
  · left
    obtain ⟨w, ⟨hw, e, s⟩, hq⟩ := hex
    obtain ⟨q, hq'⟩ : ∃ q, aft p ask i w = some q := by
      cases e : aft p ask i w with
      | none => exact absurd e hq
      | some q => exact ⟨q, rfl⟩
    refine ⟨w, q, ⟨hw, e, s⟩, hq', ?_⟩
    have L : ∀ d j k, j + d = w → d < k → sX6_wordAt_3 1000 k v2 (nI f) (nI n) (nI (stN p)) (putI i) (nI j) = some (nI w) := by
      intro d
      induction d with
      | zero =>
        intro j k hj hk
        obtain ⟨k, rfl⟩ : ∃ m, k = m + 1 := ⟨k - 1, by omega⟩
        have : j = w := by omega
        subst this
        rw [step j k hw, if_pos ⟨e, s, hq⟩]
      | succ d ih =>
        intro j k hj hk
        obtain ⟨k, rfl⟩ : ∃ m, k = m + 1 := ⟨k - 1, by omega⟩
        rw [step j k (by omega), if_neg (fun q => by have := sp_uniq (by omega) hw q.1 e q.2.1 s; omega)]
        exact ih (j + 1) k (by omega) (by omega)
    exact L w 0 1000 (by omega) (by omega)
  · right
    have hno : ∀ w, isW (v2 87) f n w → aft p ask i w = none := by
      intro w hw
      cases e : aft p ask i w with
      | none => rfl
      | some q => exact absurd ⟨w, hw, by rw [e]; simp⟩ hex
    refine ⟨hno, ?_⟩
    have L : ∀ d j k, j + d = 25 → d < k → sX6_wordAt_3 1000 k v2 (nI f) (nI n) (nI (stN p)) (putI i) (nI j) = some (-1) := by
      intro d
      induction d with
      | zero =>
        intro j k hj hk
        obtain ⟨k, rfl⟩ : ∃ m, k = m + 1 := ⟨k - 1, by omega⟩
        have : j = 25 := by omega
        subst this
        unfold sX6_wordAt_3
        rw [if_pos (by decide)]
      | succ d ih =>
        intro j k hj hk
        obtain ⟨k, rfl⟩ : ∃ m, k = m + 1 := ⟨k - 1, by omega⟩
        rw [step j k (by omega), if_neg (fun q => q.2.2 (hno j ⟨by omega, q.1, q.2.1⟩))]
        exact ih (j + 1) k (by omega) (by omega)
    exact L 25 0 1000 (by omega) (by omega)
theorem k_read {v v2 : gV} {l p ask i f n : Nat} (hB : BR v v2 l) (h : PS v p ask i) (hp : p < 14) (ha : ask < 2) (hi : i < 8) (hn : f + n ≤ l) :
    ∃ x, sX0_wordAt 1000 v (nI f) (nI (f + n)) = some x ∧ ((∃ w q, isW (v2 87) f n w ∧ aft p ask i w = some q ∧ x = nI w ∧ sX2_read v x = (sX1_note v 4 (nI w)).bind fun q_2 => some (1, up q_2 3 1 (nI q))) ∨ ((∀ w, isW (v2 87) f n w → aft p ask i w = none) ∧ sX2_read v x = some (0, v))) := by
  rcases k_wordAt hB hn with ⟨w, hw, e⟩ | ⟨hno, e⟩
  · refine ⟨_, e, ?_⟩
    unfold sX2_read
    rw [k_after h hp ha hi hw.1, ob]
    have htt := (toC_neg hp ha hi hw.1).1
    cases z : aft p ask i w with
    | none =>
      right
      refine ⟨fun w' hw' => ?_, by rw [if_pos (show toC none = -1 from rfl)]⟩
      have := sp_uniq hw'.1 hw.1 hw'.2.1 hw.2.1 hw'.2.2 hw.2.2
      rw [this, z]
    | some q =>
      left
      rw [z] at htt
      refine ⟨w, q, hw, z, rfl, ?_⟩
      rw [if_neg (fun e => by have := htt.mp e; cases this)]
      rfl
  · refine ⟨_, e, Or.inr ⟨fun w hw => absurd hw (hno w), ?_⟩⟩
    unfold sX2_read
    rw [k_afterN h hp ha hi, ob, if_pos rfl]
def idx (i w : Nat) : Nat := if 10 ≤ w ∧ w < 17 then w - 9 else i
theorem has_slot (x : Int32) : (sX1_hasSlot 4 x = some 0) ∨ ∃ s, s < 8 ∧ x = nI s ∧ sX1_hasSlot 4 x = some 1 := by
  unfold sX1_hasSlot
  rcases pk_ix x (n := 8) (by decide) with h | h | ⟨j, hj, e⟩
  · left; rw [if_pos h]
  · left
    by_cases z : x < 0
    · rw [if_pos z]
    · rw [if_neg z, if_pos (show (8 : Int32) ≤ x from h)]
  · right
    refine ⟨j, hj, e, ?_⟩
    rw [e, if_neg (nI_pos (by omega)), if_neg (ge_8 hj)]
theorem note_v {v : gV} {w : Nat} (h : 10 ≤ w ∧ w < 17) : sX1_note v 4 (nI w) = some (up (up v 4 3 (nI (w - 10))) 4 7 1) := by
  unfold sX1_note sX5_isVerbWord
  rw [if_neg (show ¬ nI w < 10 from nI_nlt (b := 10) h.1 (by omega)), if_neg (show ¬ (17 : Int32) ≤ nI w from nI_ge (b := 17) h.2 (by decide)), ob, if_neg one_ne, show nI w - 10 = nI (w - 10) from pk_sub (b := 10) h.1]
  rfl
theorem note_n {v : gV} {w : Nat} (h : w < 6) : sX1_note v 4 (nI w) = (sX1_noteNoun v 4 (nI w)) := by
  unfold sX1_note sX5_isVerbWord sX5_isNoun
  rw [if_pos (show nI w < 10 from nI_lt (b := 10) (by omega) (by decide)), ob, if_pos rfl, if_neg (nI_pos (by omega)), if_neg (show ¬ (6 : Int32) ≤ nI w from nI_ge (b := 6) h (by decide)), ob, if_neg one_ne]
  cases sX1_noteNoun v 4 (nI w) <;> rfl
theorem note_a {v : gV} {w : Nat} (h : 6 ≤ w ∧ w < 10) : sX1_note v 4 (nI w) = (sX1_noteAdjective v 4 (nI (w - 6))) := by
  unfold sX1_note sX5_isVerbWord sX5_isNoun sX5_isAdjectiveWord
  rw [if_pos (show nI w < 10 from nI_lt (b := 10) (by omega) (by decide)), ob, if_pos rfl, if_neg (nI_pos (by omega)), if_pos (show (6 : Int32) ≤ nI w from nI_le (a := 6) h.1 (by omega)), ob, if_pos rfl, if_neg (show ¬ nI w < 6 from nI_nlt (b := 6) h.1 (by omega)), if_neg (show ¬ (10 : Int32) ≤ nI w from nI_ge (b := 10) h.2 (by decide)), ob, if_neg one_ne, show nI w - 6 = nI (w - 6) from pk_sub (b := 6) h.1]
  cases sX1_noteAdjective v 4 (nI (w - 6)) <;> rfl
theorem note_o {v : gV} {w : Nat} (h : 17 ≤ w ∧ w < 25) : sX1_note v 4 (nI w) = (sX1_noteOther v 4 (nI w)) := by
  unfold sX1_note sX5_isVerbWord sX5_isNoun sX5_isAdjectiveWord
  rw [if_neg (show ¬ nI w < 10 from nI_nlt (b := 10) (by omega) (by omega)), if_pos (show (17 : Int32) ≤ nI w from nI_le (a := 17) h.1 (by omega)), ob, if_pos rfl, if_neg (nI_pos (by omega)), if_pos (show (6 : Int32) ≤ nI w from nI_le (a := 6) (by omega) (by omega)), ob, if_pos rfl, if_neg (show ¬ nI w < 6 from nI_nlt (b := 6) (by omega) (by omega)), if_pos (show (10 : Int32) ≤ nI w from nI_le (a := 10) (by omega) (by omega)), ob, if_pos rfl]
  cases sX1_noteOther v 4 (nI w) <;> rfl
theorem no_n {v : gV} {s w : Nat} (hs : s < 8) (h : v 4 7 = nI s) : sX1_noteNoun v 4 (nI w) = some (up (up v 5 s (nI w)) 4 6 (if v 4 6 < nI s then nI s else v 4 6)) := by
  unfold sX1_noteNoun sX1_hasSlot
  rw [h, if_neg (nI_pos (by omega)), if_neg (ge_8 hs), ob, if_neg one_ne, if_pos (in_8 hs), nI_clamp (by omega)]
  simp only [ob]
  rw [up_r _ _ _ _ (by decide : (4 : Nat) ≠ 4 + 1), h]
theorem no_a {v : gV} {s : Nat} {x : Int32} (hs : s < 8) (h : v 4 7 = nI s) : sX1_noteAdjective v 4 x = some (up v 6 s x) := by
  unfold sX1_noteAdjective sX1_hasSlot
  rw [h, if_neg (nI_pos (by omega)), if_neg (ge_8 hs), ob, if_neg one_ne, if_pos (in_8 hs), nI_clamp (by omega)]
  simp only [ob]
theorem no_o (v : gV) : sX1_noteOther v 4 (nI 17) = some (up v 4 4 1) ∧ sX1_noteOther v 4 (nI 18) = some v ∧ sX1_noteOther v 4 (nI 19) = some (up v 4 7 (v 4 7 + 1)) ∧ sX1_noteOther v 4 (nI 20) = some (up v 4 7 0) ∧ sX1_noteOther v 4 (nI 21) = some v ∧ sX1_noteOther v 4 (nI 22) = some (if v 4 7 = 0 then up v 4 5 1 else up v 4 4 2) ∧ sX1_noteOther v 4 (nI 23) = some (up v 4 4 3) ∧ sX1_noteOther v 4 (nI 24) = some v := by
  unfold sX1_noteOther
  refine ⟨rfl, rfl, rfl, rfl, rfl, ?_, rfl, rfl⟩
  rw [if_neg (show ¬ nI 22 = 17 by decide), if_neg (show ¬ nI 22 = 18 by decide), if_neg (show ¬ nI 22 = 19 by decide), if_neg (show ¬ nI 22 = 20 by decide), if_neg (show ¬ nI 22 = 21 by decide), if_pos (show nI 22 = 22 from rfl)]
  by_cases z : v 4 7 = 0
  · rw [if_pos z, if_pos z, ob]
  · rw [if_neg z, if_neg z, ob]
/-- what any note leaves -/
theorem k_note {v : gV} {w : Nat} (hw : w < 25) : ∃ v', sX1_note v 4 (nI w) = some v' ∧ (∀ k, k ≠ 4 → k ≠ 5 → k ≠ 6 → v' k = v k) ∧ v' 4 3 = (if 10 ≤ w ∧ w < 17 then nI (w - 10) else v 4 3) := by
  by_cases h1 : 10 ≤ w ∧ w < 17
  · refine ⟨_, note_v h1, fun k q _ _ => by rw [up_r _ _ _ _ q, up_r _ _ _ _ q], ?_⟩
    rw [if_pos h1, up_c _ _ _ _ (by decide), up_s]
  · rw [if_neg h1]
    by_cases h2 : w < 6
    · rw [note_n h2]
      rcases has_slot (v 4 7) with e | ⟨s, hs, e, _⟩
      · refine ⟨v, ?_, fun _ _ _ _ => rfl, rfl⟩
        unfold sX1_noteNoun
        rw [e, ob, if_pos rfl]
      · refine ⟨_, no_n hs e, fun k q1 q2 _ => by rw [up_r _ _ _ _ q1, up_r _ _ _ _ q2], ?_⟩
        rw [up_c _ _ _ _ (by decide), up_r _ _ _ _ (by decide)]
    · by_cases h3 : w < 10
      · rw [note_a ⟨by omega, h3⟩]
        rcases has_slot (v 4 7) with e | ⟨s, hs, e, _⟩
        · refine ⟨v, ?_, fun _ _ _ _ => rfl, rfl⟩
          unfold sX1_noteAdjective
          rw [e, ob, if_pos rfl]
        · refine ⟨_, no_a hs e, fun k _ _ q => by rw [up_r _ _ _ _ q], ?_⟩
          rw [up_r _ _ _ _ (by decide)]
      · rw [note_o (show 17 ≤ w ∧ w < 25 by omega)]
        obtain ⟨o1, o2, o3, o4, o5, o6, o7, o8⟩ := no_o v
        have hc : w = 17 ∨ w = 18 ∨ w = 19 ∨ w = 20 ∨ w = 21 ∨ w = 22 ∨ w = 23 ∨ w = 24 := by omega
        rcases hc with e | e | e | e | e | e | e | e <;> subst e
        · exact ⟨_, o1, fun k q _ _ => up_r _ _ _ _ q, up_c _ _ _ _ (by decide)⟩
        · exact ⟨_, o2, fun k q _ _ => rfl, rfl⟩
        · exact ⟨_, o3, fun k q _ _ => up_r _ _ _ _ q, up_c _ _ _ _ (by decide)⟩
        · exact ⟨_, o4, fun k q _ _ => up_r _ _ _ _ q, up_c _ _ _ _ (by decide)⟩
        · exact ⟨_, o5, fun k q _ _ => rfl, rfl⟩
        · refine ⟨_, o6, fun k q _ _ => ?_, ?_⟩
          · split <;> exact up_r _ _ _ _ q
          · split <;> exact up_c _ _ _ _ (by decide)
        · exact ⟨_, o7, fun k q _ _ => up_r _ _ _ _ q, up_c _ _ _ _ (by decide)⟩
        · exact ⟨_, o8, fun k q _ _ => rfl, rfl⟩
