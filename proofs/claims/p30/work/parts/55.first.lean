/-! firstError on both sides -/
def fr3 (v v' : gV) : Prop := ∀ k, k ≠ 3 → k ≠ 4 → k ≠ 5 → k ≠ 6 → v' k = v k
def frm (v v' : gV) : Prop := (∀ k, k ≠ 81 → k ≠ 88 → v' k = v k) ∧ ∀ j, j ≠ 10 → j ≠ 11 → v' 81 j = v 81 j
theorem fr3_refl (v : gV) : fr3 v v := fun _ _ _ _ _ => rfl
theorem frm_refl (v : gV) : frm v v := ⟨fun _ _ _ => rfl, fun _ _ _ => rfl⟩
theorem fr3_trans {a b c : gV} (h1 : fr3 a b) (h2 : fr3 b c) : fr3 a c := fun k q1 q2 q3 q4 => (h2 k q1 q2 q3 q4).trans (h1 k q1 q2 q3 q4)
theorem frm_trans {a b c : gV} (h1 : frm a b) (h2 : frm b c) : frm a c := ⟨fun k q r => (h2.1 k q r).trans (h1.1 k q r), fun j q r => (h2.2 j q r).trans (h1.2 j q r)⟩
theorem BR_congr {v v' v2 v2' : gV} {l : Nat} (h : BR v v2 l) (h1 : fr3 v v') (h2 : frm v2 v2') : BR v' v2' l := by
  unfold BR
  rw [h1 1 (by decide) (by decide) (by decide) (by decide), h1 2 (by decide) (by decide) (by decide) (by decide), h2.2 7 (by decide) (by decide), h2.1 87 (by decide) (by decide)]
  exact h
theorem TB_congr {v2 v2' : gV} (h : TB v2) (h2 : frm v2 v2') : TB v2' := by
  unfold TB
  rw [h2.1 82 (by decide) (by decide), h2.1 83 (by decide) (by decide)]
  exact h
/-- the reference pushes a word -/
def psh (v : gV) (m w : Nat) : gV := up (up v 88 m (nI w)) 81 10 (nI (m + 1))
theorem psh_fr (v : gV) (m w : Nat) : frm v (psh v m w) := by
  unfold psh
  exact ⟨fun k q r => by rw [up_r _ _ _ _ q, up_r _ _ _ _ r], fun j q r => by rw [up_c _ _ _ _ q, up_r _ _ _ _ (by decide)]⟩
theorem psh_10 (v : gV) (m w : Nat) : psh v m w 81 10 = nI (m + 1) := up_s _ _ _ _
theorem psh_88 (v : gV) (m w j : Nat) : psh v m w 88 j = if j = m then nI w else v 88 j := by
  unfold psh
  rw [up_r _ _ _ _ (by decide)]
  by_cases e : j = m
  · rw [e, up_s, if_pos rfl]
  · rw [up_c _ _ _ _ e, if_neg e]
def compB (q i : Nat) : Bool := decide (q = 13) || decide (q = 12) || (!decide (i = 3) && (decide (q = 2) || decide (q = 3) || decide (q = 7)))
theorem st_tab : ∀ q, q < 14 → (nI (stN q) = 11 ↔ q = 13) ∧ (nI (stN q) = 13 ↔ q = 12) ∧ (nI (stN q) = 2 ↔ q = 2) ∧ (nI (stN q) = 3 ↔ q = 3) ∧ (nI (stN q) = 6 ↔ q = 7) ∧ stN q < 14 := by decide +kernel
theorem putI_0 (i : Nat) : putI i = 0 ↔ i ≠ 3 := by
  unfold putI
  by_cases e : i = 3
  · rw [if_pos e]; simp [e]
  · rw [if_neg e]; simp [e]
theorem m_231 {v : gV} {q i : Nat} (hq : q < 14) : sX6_read_231 1000 v (nI (stN q)) (putI i) = some (v 81 7, up v 81 11 (bI (compB q i))) := by
  obtain ⟨t1, t2, t3, t4, t5, _⟩ := st_tab q hq
  have e7 : ∀ x, up v 81 11 x 81 7 = v 81 7 := fun x => up_c _ _ _ _ (by decide)
  unfold sX6_read_231 compB
  simp only [ob, e7]
  by_cases h13 : q = 13
  · rw [if_pos (t1.mpr h13)]; simp [h13, bI]
  · rw [if_neg (fun z => h13 (t1.mp z))]
    by_cases h12 : q = 12
    · rw [if_pos (t2.mpr h12)]; simp [h12, bI]
    · rw [if_neg (fun z => h12 (t2.mp z))]
      by_cases hi : i = 3
      · rw [if_neg (fun z => (putI_0 i).mp z hi)]; simp [h12, h13, hi, bI]
      · rw [if_pos ((putI_0 i).mpr hi)]
        by_cases h2 : q = 2
        · rw [if_pos (t3.mpr h2)]; simp [h2, hi, bI]
        · rw [if_neg (fun z => h2 (t3.mp z))]
          by_cases h3 : q = 3
          · rw [if_pos (t4.mpr h3)]; simp [h3, hi, bI]
          · rw [if_neg (fun z => h3 (t4.mp z))]
            by_cases h7 : q = 7
            · rw [if_pos (t5.mpr h7)]; simp [h7, hi, bI]
            · rw [if_neg (fun z => h7 (t5.mp z))]; simp [h12, h13, h2, h3, h7, bI]
theorem tr_of {p ask i w q : Nat} (hp : p < 14) (ha : ask < 2) (hi : i < 8) (hw : w < 25) (h : aft p ask i w = some q) : q < 14 ∧ trB p ask i w q = true := tr_tab p hp ask ha i hi w hw q (by rw [h]; rfl)
theorem tr_verb {p ask i w q : Nat} (hp : p < 14) (ha : ask < 2) (hi : i < 8) (hw : w < 25) (h : aft p ask i w = some q) : q ≠ 0 ∧ (10 ≤ w ∧ w < 17 → p = 0) := by
  have := (tr_of hp ha hi hw h).2
  simp only [trB, Bool.or_eq_true, decide_eq_true_eq] at this
  omega
theorem idx_lt {i w : Nat} (hi : i < 8) : idx i w < 8 := by unfold idx; split <;> omega
theorem put_next {p ask i w q : Nat} (hp : p < 14) (ha : ask < 2) (hi : i < 8) (hw : w < 25) (h : aft p ask i w = some q) (h0 : p = 0 → i = 0) : (if putI i = 0 then (if nI w = 12 then (1 : Int32) else 0) else 1) = putI (idx i w) := by
  have hv := (tr_verb hp ha hi hw h).2
  have e12 : nI w = 12 ↔ w = 12 := nI_eq (b := 12) (by omega) (by decide)
  unfold idx
  by_cases z : 10 ≤ w ∧ w < 17
  · have hi0 := h0 (hv z)
    rw [if_pos z, hi0, if_pos ((putI_0 0).mpr (by decide))]
    unfold putI
    by_cases y : w = 12
    · rw [if_pos (e12.mpr y), if_pos (by omega)]
    · rw [if_neg (fun q => y (e12.mp q)), if_neg (by omega)]
  · rw [if_neg z]
    have y : w ≠ 12 := by omega
    rw [if_neg (fun q => y (e12.mp q))]
    unfold putI
    by_cases x : i = 3
    · rw [if_pos x, if_neg one_ne]
    · rw [if_neg x, if_pos rfl]
theorem m_70 {F : gV → Int32 → Int32 → Int32 → Int32 → Option (Int32 × gV)} {v : gV} {x3 x5 : Int32} {x4 t0 : Int32} : sX6_read_70 1000 F v x3 x4 x5 t0 = sX6_read_88 1000 F v x4 x5 t0 (if x3 = 0 then (if x5 = 12 then 1 else 0) else 1) := by
  unfold sX6_read_70
  by_cases h : x3 = 0
  · rw [if_pos h, if_pos h]
    by_cases h2 : x5 = 12
    · rw [if_pos h2, if_pos h2]
    · rw [if_neg h2, if_neg h2]
  · rw [if_neg h, if_neg h]
/-- the class's and the reference's next step at the end of a word -/
theorem PS_next {v v' : gV} {p ask i w q : Nat} (h : PS v p ask i) (hw : w < 25) (h3 : v' 3 = v 3) (h43 : v' 4 3 = if 10 ≤ w ∧ w < 17 then nI (w - 10) else v 4 3) : PS (up v' 3 1 (nI q)) q ask (idx i w) := by
  refine ⟨up_s _ _ _ _, ?_, ?_⟩
  · rw [up_c _ _ _ _ (by decide), h3]; exact h.2.1
  · rw [up_r _ _ _ _ (by decide), h43]
    unfold idx
    by_cases z : 10 ≤ w ∧ w < 17
    · rw [if_pos z, if_pos z, show w - 9 = (w - 10) + 1 by omega, nI_pred]
    · rw [if_neg z, if_neg z]; exact h.2.2
theorem b_first {ask l : Nat} (ha : ask < 2) : ∀ d at' v v2 p i f m kc km, at' + d = l → f ≤ at' → BR v v2 l → TB v2 → v2 84 55 = nI ask → PS v p ask i → p < 14 → i < 8 → (p = 0 → i = 0) → 3 * m ≤ f → v2 81 10 = nI m → d < kc → d < km →
    ∃ r v' v2', sX5_firstError_18 1000 kc v (nI f) (nI at') = some (r, v') ∧ sX6_read_19 1000 km v2 (nI (stN p)) (nI f) (putI i) (nI at') = some (r, v2') ∧ fr3 v v' ∧ frm v2 v2' := by
  intro d
  induction d with
  | zero =>
    intro at' v v2 p i f m kc km hat hf hB ht h55 hP hp hi h0 hm h10 hk1 hk2
    obtain ⟨kc, rfl⟩ : ∃ n, kc = n + 1 := ⟨kc - 1, by omega⟩
    obtain ⟨km, rfl⟩ : ∃ n, km = n + 1 := ⟨km - 1, by omega⟩
    have hl := hB.1
    have e : at' = l := by omega
    subst e
    unfold sX5_firstError_18 sX6_read_19
    rw [hB.2.1, hB.2.2.1, if_pos (nI_le (Nat.le_refl _) (by omega)), if_pos (nI_le (Nat.le_refl _) (by omega)), pk_sub hf]
    rcases m_wordAt (n := at' - f) (f := f) ht hl h55 hp ha hi (by omega) with ⟨w, q, hw, hq, e⟩ | ⟨hno, e⟩
    · have hq14 := (tr_of hp ha hi hw.1 hq).1
      rw [e, ob, if_neg (nI_pos (by have := hw.1; omega)), h10, if_pos (nI_in (by omega) (by decide)), nI_clamp (by omega)]
      simp only [ob]
      rw [up_r _ _ _ _ (by decide : (81 : Nat) ≠ 88), h10, nI_1]
      have e55 : psh v2 m w 84 55 = nI ask := by rw [(psh_fr v2 m w).1 84 (by decide) (by decide)]; exact h55
      have hn := m_next (v := psh v2 m w) e55 hp ha hi hw.1
      rw [show up (up v2 88 m (nI w)) 81 10 (nI (m + 1)) = psh v2 m w from rfl, hn, hq, ob, show toM (some q) = nI (stN q) from rfl]
      have hpn := put_next hp ha hi hw.1 hq h0
      have e2 : (if putI i = 0 then (if nI w = 12 then sX6_read_231 1000 (psh v2 m w) (nI (stN q)) 1 else sX6_read_231 1000 (psh v2 m w) (nI (stN q)) 0) else sX6_read_231 1000 (psh v2 m w) (nI (stN q)) 1) = sX6_read_231 1000 (psh v2 m w) (nI (stN q)) (putI (idx i w)) := by
        rw [← hpn]
        by_cases z : putI i = 0
        · rw [if_pos z, if_pos z]
          by_cases y : nI w = 12
          · rw [if_pos y, if_pos y]
          · rw [if_neg y, if_neg y]
        · rw [if_neg z, if_neg z]
      rw [e2, m_231 hq14, (psh_fr v2 m w).2 7 (by decide) (by decide), hB.2.2.1]
      exact ⟨_, _, _, rfl, rfl, fr3_refl _, frm_trans (psh_fr v2 m w) ⟨fun k q r => up_r _ _ _ _ q, fun j q r => up_c _ _ _ _ r⟩⟩
    · rw [e, ob, if_pos (by decide)]
      exact ⟨_, _, _, rfl, rfl, fr3_refl _, frm_refl _⟩
  | succ d ih =>
    intro at' v v2 p i f m kc km hat hf hB ht h55 hP hp hi h0 hm h10 hk1 hk2
    obtain ⟨kc, rfl⟩ : ∃ n, kc = n + 1 := ⟨kc - 1, by omega⟩
    obtain ⟨km, rfl⟩ : ∃ n, km = n + 1 := ⟨km - 1, by omega⟩
    have hl := hB.1
    unfold sX5_firstError_18 sX6_read_19
    rw [hB.2.1, hB.2.2.1, if_neg (nI_ge (by omega) (by omega)), if_neg (nI_ge (by omega) (by omega)), if_pos (nI_in (by omega) (by decide)), nI_clamp (by omega), k_space hB (by omega), ob, nI_1]
    by_cases hs : v2 87 at' = 32
    · rw [if_neg (show ¬ bI (decide (v2 87 at' = 32)) = 0 by simp [hs, bI]), if_pos hs, pk_sub hf]
      obtain ⟨x, e1, hx⟩ := k_read (f := f) (n := at' - f) hB hP hp ha hi (by omega)
      rw [show f + (at' - f) = at' by omega] at e1
      rw [e1, ob]
      rcases m_wordAt (n := at' - f) (f := f) ht hl h55 hp ha hi (by omega) with ⟨w, q, hw, hq, e⟩ | ⟨hno, e⟩
      · rcases hx with ⟨w', q', hw', hq', hx1, hx2⟩ | ⟨hno, hx2⟩
        · have hww : w' = w := sp_uniq hw'.1 hw.1 hw'.2.1 hw.2.1 hw'.2.2 hw.2.2
          subst hww
          rw [hq] at hq'
          have hqq : q = q' := Option.some.inj hq'
          subst hqq
          obtain ⟨u, n1, n2, n3⟩ := k_note (v := v) hw.1
          have hq14 := (tr_of hp ha hi hw.1 hq).1
          have htv := tr_verb hp ha hi hw.1 hq
          have hPS := PS_next (q := q) hP hw.1 (n2 3 (by decide) (by decide) (by decide)) n3
          have hlw := len_tab w' hw.1
          have hwl := hw.2.1
          rw [hx2, n1, ob, ob, if_neg one_ne, k_goes hPS hq14 ha (idx_lt hi), ob, e, ob, if_pos (nI_pos' (by have := hw.1; omega)), m_next h55 hp ha hi hw.1, hq, ob, show toM (some q) = nI (stN q) from rfl, m_70, put_next hp ha hi hw.1 hq h0]
          unfold sX6_read_88
          have h14 := (st_tab q hq14).2.2.2.2.2
          rw [if_neg (nI_pos (by omega)), m_goes h55 hq14 ha (idx_lt hi), ob]
          have f3 : fr3 v (up u 3 1 (nI q)) := fun k q1 q2 q3 q4 => by rw [up_r _ _ _ _ q1]; exact n2 k q2 q3 q4
          cases hgo : gO q ask (idx i w') with
          | false =>
            rw [if_pos bIf_eq, if_pos bIf_eq]
            exact ⟨_, _, _, rfl, rfl, f3, frm_refl _⟩
          | true =>
            rw [if_neg bIt_ne, if_neg bIt_ne, h10, if_pos (nI_in (by omega) (by decide)), nI_clamp (by omega)]
            simp only [ob]
            rw [up_r _ _ _ _ (by decide : (81 : Nat) ≠ 88), h10, nI_1, nI_1]
            have fm := psh_fr v2 m w'
            obtain ⟨r, y, y2, j1, j2, j3, j4⟩ := ih (at' + 1) (up u 3 1 (nI q)) (psh v2 m w') q (idx i w') (at' + 1) (m + 1) kc km (by omega) (Nat.le_refl _) (BR_congr hB f3 fm) (TB_congr ht fm) (by rw [fm.1 84 (by decide) (by decide)]; exact h55) hPS hq14 (idx_lt hi) (fun z => absurd z htv.1) (by omega) (psh_10 _ _ _) (by omega) (by omega)
            exact ⟨r, y, y2, j1, j2, fr3_trans f3 j3, frm_trans fm j4⟩
        · exact absurd (hno w hw) (by rw [hq]; simp)
      · rcases hx with ⟨w', q', hw', hq', hx1, hx2⟩ | ⟨_, hx2⟩
        · exact absurd (hno w' hw') (by rw [hq']; simp)
        · rw [hx2, ob, if_pos rfl, e, ob, if_neg (by decide), m_70]
          unfold sX6_read_88
          rw [if_pos (by decide)]
          exact ⟨_, _, _, rfl, rfl, fr3_refl _, frm_refl _⟩
    · rw [if_pos (show bI (decide (v2 87 at' = 32)) = 0 by simp [hs, bI]), if_neg hs, pk_sub (by omega)]
      have h1 := k_next (f := f) (n := at' + 1 - f) hB hP hp ha hi (by omega)
      rw [show f + (at' + 1 - f) = at' + 1 by omega] at h1
      rw [h1, ob, m_can ht hl h55 hp ha hi (by omega), ob]
      by_cases z : cn 25 (fun w => spB (v2 87) w f (at' + 1 - f) && (aft p ask i w).isSome) = 0
      · rw [if_pos (show bI (decide _) = 0 by rw [z]; rfl), if_pos (show bI (decide _) = 0 by rw [z]; rfl)]
        exact ⟨_, _, _, rfl, rfl, fr3_refl _, frm_refl _⟩
      · have e1 : ¬ bI (decide (cn 25 (fun w => spB (v2 87) w f (at' + 1 - f) && (aft p ask i w).isSome) ≠ 0)) = 0 := by
          rw [bI_0]; simp [z]
        rw [if_neg e1, if_neg e1]
        exact ih (at' + 1) v v2 p i f m kc km (by omega) (by omega) hB ht h55 hP hp hi h0 hm h10 (by omega) (by omega)
