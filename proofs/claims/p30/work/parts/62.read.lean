/-! the buffer read whole, both sides -/
theorem fr3_up {v u : gV} {q : Int32} (h : ∀ k, k ≠ 4 → k ≠ 5 → k ≠ 6 → u k = v k) : fr3 v (up u 3 1 q) := fun k q1 q2 q3 q4 => by rw [up_r _ _ _ _ q1]; exact h k q2 q3 q4
theorem tr_J {p ask i w q : Nat} (hp : p < 14) (ha : ask < 2) (hi : i < 8) (hw : w < 25) (h : aft p ask i w = some q) (hJ : i = 0 → p = 0 ∨ ask = 1) (hz : idx i w = 0) : ask = 1 := by
  have ht := (tr_of hp ha hi hw h).2
  simp only [trB, Bool.or_eq_true, decide_eq_true_eq] at ht
  unfold idx at hz
  by_cases y : 10 ≤ w ∧ w < 17
  · rw [if_pos y] at hz
    omega
  · rw [if_neg y] at hz
    rcases hJ hz with e | e
    · omega
    · exact e
theorem b_readL {ask l : Nat} (ha : ask < 2) : ∀ d at' v v2 p i f m kc km, at' + d = l → f ≤ at' → BR v v2 l → TB v2 → v2 84 55 = nI ask → PS v p ask i → p < 14 → i < 8 → (p = 0 → i = 0) → 3 * m ≤ f → v2 81 10 = nI m → v2 81 11 = 0 → PI v (Wm v2 m) p i m f → (i = 0 → p = 0 ∨ ask = 1) → d + 1 < kc → d < km →
    ∃ b r v' v2', sX5_readBuffer_18 1000 kc v (nI f) (nI at') = some (bI b, v') ∧ sX6_read_19 1000 km v2 (nI (stN p)) (nI f) (putI i) (nI at') = some (r, v2') ∧ fr3 v v' ∧ frm v2 v2' ∧ (b = false → v2' 81 11 = 0) ∧ (b = true → r = nI l ∧ v2' 81 11 = 1 ∧ ∃ m', m' ≤ 21 ∧ v2' 81 10 = nI m' ∧ Fin v' (Wm v2' m') m' ∧ (v' 4 3 = -1 → ask = 1)) := by
  intro d
  induction d with
  | zero =>
    intro at' v v2 p i f m kc km hat hf hB ht h55 hP hp hi h0 hm h10 h11 hI hJ hk1 hk2
    obtain ⟨kc, rfl⟩ : ∃ n, kc = n + 1 + 1 := ⟨kc - 2, by omega⟩
    obtain ⟨km, rfl⟩ : ∃ n, km = n + 1 := ⟨km - 1, by omega⟩
    have hl := hB.1
    have e : at' = l := by omega
    subst e
    have eC : sX5_readBuffer_18 1000 (kc + 1 + 1) v (nI f) (nI at') = sX5_readBuffer_51 1000 (sX5_readBuffer_18 1000 (kc + 1)) v (nI f) (nI at') := by
      conv => lhs; unfold sX5_readBuffer_18
      rw [hB.2.1, if_neg (nI_nlt (Nat.le_refl _) (by omega)), if_pos rfl]
    have eE : ∀ (V : gV) (x : Int32) (b : Bool), V 1 1 = nI at' → sX2_isComplete V = some (bI b) → sX5_readBuffer_18 1000 (kc + 1) V x (nI at' + 1) = some (bI b, V) := by
      intro V x b hV hb
      unfold sX5_readBuffer_18
      rw [hV, nI_1, if_pos (nI_lt (by omega) (by omega)), hb, ob, if_pos (bI_m _)]
    obtain ⟨x, e1, hx⟩ := k_read (f := f) (n := at' - f) hB hP hp ha hi (by omega)
    rw [show f + (at' - f) = at' by omega] at e1
    rw [eC]
    unfold sX5_readBuffer_51 sX6_read_19
    rw [e1, ob, hB.2.2.1, if_pos (nI_le (Nat.le_refl _) (by omega)), pk_sub hf]
    rcases m_wordAt (n := at' - f) (f := f) ht hl h55 hp ha hi (by omega) with ⟨w, q, hw, hq, e⟩ | ⟨hno, e⟩
    · have hq14 := (tr_of hp ha hi hw.1 hq).1
      rcases hx with ⟨w', q', hw', hq', hx1, hx2⟩ | ⟨hno, hx2⟩
      · have hww : w' = w := sp_uniq hw'.1 hw.1 hw'.2.1 hw.2.1 hw'.2.2 hw.2.2
        subst hww
        rw [hq] at hq'
        have hqq : q = q' := Option.some.inj hq'
        subst hqq
        obtain ⟨u, n1, n2, n3⟩ := k_note (v := v) hw.1
        have hPS := PS_next (q := q) hP hw.1 (n2 3 (by decide) (by decide) (by decide)) n3
        have hlw := len_tab w' hw.1
        have hwl := hw.2.1
        rw [hx2, n1, ob, ob, if_neg one_ne, e, ob, if_neg (nI_pos (by have := hw.1; omega)), h10, if_pos (nI_in (by omega) (by decide)), nI_clamp (by omega)]
        simp only [ob]
        rw [up_r _ _ _ _ (by decide : (81 : Nat) ≠ 88), h10, nI_1 m]
        have e55 : psh v2 m w' 84 55 = nI ask := by rw [(psh_fr v2 m w').1 84 (by decide) (by decide)]; exact h55
        have hn := m_next (v := psh v2 m w') e55 hp ha hi hw.1
        rw [show up (up v2 88 m (nI w')) 81 10 (nI (m + 1)) = psh v2 m w' from rfl, hn, hq, ob, show toM (some q) = nI (stN q) from rfl]
        have hpn := put_next hp ha hi hw.1 hq h0
        have e2 : (if putI i = 0 then (if nI w' = 12 then sX6_read_231 1000 (psh v2 m w') (nI (stN q)) 1 else sX6_read_231 1000 (psh v2 m w') (nI (stN q)) 0) else sX6_read_231 1000 (psh v2 m w') (nI (stN q)) 1) = sX6_read_231 1000 (psh v2 m w') (nI (stN q)) (putI (idx i w')) := by
          rw [← hpn]
          by_cases z : putI i = 0
          · rw [if_pos z, if_pos z]
            by_cases y : nI w' = 12
            · rw [if_pos y, if_pos y]
            · rw [if_neg y, if_neg y]
          · rw [if_neg z, if_neg z]
        have f3 := fr3_up (q := nI q) n2
        have fm := psh_fr v2 m w'
        rw [e2, m_231 hq14, fm.2 7 (by decide) (by decide), hB.2.2.1]
        rw [eE _ _ _ (by rw [f3 1 (by decide) (by decide) (by decide) (by decide)]; exact hB.2.1) (k_comp hPS hq14 (idx_lt hi))]
        have fm2 : frm v2 (up (psh v2 m w') 81 11 (bI (compB q (idx i w')))) := frm_trans fm ⟨fun k q r => up_r _ _ _ _ q, fun j q r => up_c _ _ _ _ r⟩
        refine ⟨_, _, _, _, rfl, rfl, f3, fm2, fun hb => ?_, fun hb => ⟨rfl, ?_, m + 1, by omega, ?_, ?_, fun h43 => ?_⟩⟩
        · rw [up_s, hb]; rfl
        · rw [up_s, hb]; rfl
        · rw [up_c _ _ _ _ (by decide)]; exact psh_10 _ _ _
        · have eW2 : Wm (up (psh v2 m w') 81 11 (bI (compB q (idx i w')))) (m + 1) = upd (Wm v2 m) m (nI w') := by
            rw [← Wm_psh]
            funext x
            unfold Wm
            rw [up_r _ _ _ _ (by decide)]
          rw [eW2]
          have hS := PI_step (f' := f + lenW w' + 1) hI (eW_Wm v2 m) (tr_of hp ha hi hw.1 hq).2 hw.1 hm (by omega) rfl n1
          have hS2 := PI_congr (v' := up u 3 1 (nI q)) hS (up_r _ _ _ _ (by decide)) (up_r _ _ _ _ (by decide)) (up_r _ _ _ _ (by decide))
          exact PI_comp hS2 (eW_up (eW_Wm v2 m) _) (by omega) hb
        · refine tr_J hp ha hi hw.1 hq hJ ?_
          have e43 := hPS.2.2
          rw [h43] at e43
          refine Classical.byContradiction fun hz => ?_
          rw [show nI (idx i w') - 1 = nI (idx i w' - 1) from pk_sub (b := 1) (by omega)] at e43
          have := idx_lt (w := w') hi
          exact nI_m1 (n := idx i w' - 1) (by omega) e43.symm
      · exact absurd (hno w hw) (by rw [hq]; simp)
    · rcases hx with ⟨w', q', hw', hq', hx1, hx2⟩ | ⟨_, hx2⟩
      · exact absurd (hno w' hw') (by rw [hq']; simp)
      · rw [hx2, ob, if_pos rfl, e, ob, if_pos (by decide)]
        exact ⟨false, _, _, _, rfl, rfl, fr3_refl _, frm_refl _, fun _ => h11, fun q => by cases q⟩
  | succ d ih =>
    intro at' v v2 p i f m kc km hat hf hB ht h55 hP hp hi h0 hm h10 h11 hI hJ hk1 hk2
    obtain ⟨kc, rfl⟩ : ∃ n, kc = n + 1 := ⟨kc - 1, by omega⟩
    obtain ⟨km, rfl⟩ : ∃ n, km = n + 1 := ⟨km - 1, by omega⟩
    have hl := hB.1
    unfold sX5_readBuffer_18 sX6_read_19
    rw [hB.2.1, hB.2.2.1, if_neg (nI_nlt (by omega) (by omega)), if_neg (fun q => by have := (nI_eq (by omega) (by omega)).mp q; omega), if_neg (nI_ge (by omega) (by omega)), if_pos (nI_in (by omega) (by decide)), nI_clamp (by omega), k_space hB (by omega), ob, nI_1]
    by_cases hs : v2 87 at' = 32
    · rw [if_neg (show ¬ bI (decide (v2 87 at' = 32)) = 0 by simp [hs, bI]), if_pos hs, pk_sub hf]
      obtain ⟨x, e1, hx⟩ := k_read (f := f) (n := at' - f) hB hP hp ha hi (by omega)
      rw [show f + (at' - f) = at' by omega] at e1
      unfold sX5_readBuffer_51
      rw [e1, ob]
      rcases m_wordAt (n := at' - f) (f := f) ht hl h55 hp ha hi (by omega) with ⟨w, q, hw, hq, e⟩ | ⟨hno, e⟩
      · rcases hx with ⟨w', q', hw', hq', hx1, hx2⟩ | ⟨hno, hx2⟩
        · have hww : w' = w := sp_uniq hw'.1 hw.1 hw'.2.1 hw.2.1 hw'.2.2 hw.2.2
          subst hww
          rw [hq] at hq'
          have hqq : q = q' := Option.some.inj hq'
          subst hqq
          obtain ⟨u, n1, n2, n3⟩ := k_note (v := v) hw.1
          have hq14 := (tr_of hp ha hi hw.1 hq).1
          have htv := tr_verb hp ha hi hw.1 hq
          have hPS := PS_next (q := q) hP hw.1 (n2 3 (by decide) (by decide) (by decide)) n3
          have hlw := len_tab w' hw.1
          have hwl := hw.2.1
          rw [hx2, n1, ob, ob, if_neg one_ne, e, ob, if_pos (nI_pos' (by have := hw.1; omega)), m_next h55 hp ha hi hw.1, hq, ob, show toM (some q) = nI (stN q) from rfl, m_70, put_next hp ha hi hw.1 hq h0]
          unfold sX6_read_88
          have h14 := (st_tab q hq14).2.2.2.2.2
          have f3 : fr3 v (up u 3 1 (nI q)) := fr3_up (q := nI q) n2
          rw [if_neg (nI_pos (by omega)), m_goes h55 hq14 ha (idx_lt hi), ob, nI_1]
          cases hgo : gO q ask (idx i w') with
          | false =>
            rw [if_pos bIf_eq]
            have hd := k_dead (n0 := 0) (f := at' + 1) (BR_congr hB f3 (frm_refl v2)) hPS hq14 ha (idx_lt hi) (fun w hw hne => absurd (go_no hgo w hw) hne) d (at' + 1) kc (by omega) (by omega) (by omega)
            refine ⟨false, _, _, _, hd, rfl, f3, frm_refl _, fun _ => h11, fun q => by cases q⟩
          | true =>
            rw [if_neg bIt_ne, h10, if_pos (nI_in (by omega) (by decide)), nI_clamp (by omega)]
            simp only [ob]
            rw [up_r _ _ _ _ (by decide : (81 : Nat) ≠ 88), h10, nI_1]
            have fm := psh_fr v2 m w'
            have hS := PI_step (f' := f + lenW w' + 1) hI (eW_Wm v2 m) (tr_of hp ha hi hw.1 hq).2 hw.1 hm (by omega) rfl n1
            have hS2 := PI_congr (v' := up u 3 1 (nI q)) hS (up_r _ _ _ _ (by decide)) (up_r _ _ _ _ (by decide)) (up_r _ _ _ _ (by decide))
            rw [← Wm_psh, show f + lenW w' + 1 = at' + 1 by omega] at hS2
            obtain ⟨b, r, y, y2, j1, j2, j3, j4, j5, j6⟩ := ih (at' + 1) (up u 3 1 (nI q)) (psh v2 m w') q (idx i w') (at' + 1) (m + 1) kc km (by omega) (Nat.le_refl _) (BR_congr hB f3 fm) (TB_congr ht fm) (by rw [fm.1 84 (by decide) (by decide)]; exact h55) hPS hq14 (idx_lt hi) (fun z => absurd z htv.1) (by omega) (psh_10 _ _ _) (by unfold psh; rw [up_c _ _ _ _ (by decide), up_r _ _ _ _ (by decide)]; exact h11) hS2 (fun z => Or.inr (tr_J hp ha hi hw.1 hq hJ z)) (by omega) (by omega)
            exact ⟨b, r, y, y2, j1, j2, fr3_trans f3 j3, frm_trans fm j4, j5, j6⟩
        · exact absurd (hno w hw) (by rw [hq]; simp)
      · rcases hx with ⟨w', q', hw', hq', hx1, hx2⟩ | ⟨_, hx2⟩
        · exact absurd (hno w' hw') (by rw [hq']; simp)
        · rw [hx2, ob, if_pos rfl, e, ob, if_neg (by decide), m_70]
          unfold sX6_read_88
          rw [if_pos (by decide)]
          exact ⟨false, _, _, _, rfl, rfl, fr3_refl _, frm_refl _, fun _ => h11, fun q => by cases q⟩
    · rw [if_pos (show bI (decide (v2 87 at' = 32)) = 0 by simp [hs, bI]), if_neg hs, pk_sub (by omega), m_can ht hl h55 hp ha hi (by omega), ob]
      by_cases z : cn 25 (fun w => spB (v2 87) w f (at' + 1 - f) && (aft p ask i w).isSome) = 0
      · rw [if_pos (show bI (decide _) = 0 by rw [z]; rfl)]
        have hd := k_dead (n0 := at' + 1 - f) hB hP hp ha hi (cn_sp z) d (at' + 1) kc (by omega) (by omega) (by omega)
        exact ⟨false, _, _, _, hd, rfl, fr3_refl _, frm_refl _, fun _ => h11, fun q => by cases q⟩
      · have e1 : ¬ bI (decide (cn 25 (fun w => spB (v2 87) w f (at' + 1 - f) && (aft p ask i w).isSome) ≠ 0)) = 0 := by
          rw [bI_0]; simp [z]
        rw [if_neg e1]
        exact ih (at' + 1) v v2 p i f m kc km (by omega) (by omega) hB ht h55 hP hp hi h0 hm h10 h11 hI hJ (by omega) (by omega)
theorem k_reset (v : gV) : ∃ v', sX1_reset 1000 v 4 = some v' ∧ (∀ k, k < 4 ∨ 7 < k → v' k = v k) ∧ v' 4 3 = -1 ∧ v' 4 4 = 0 ∧ v' 4 5 = 0 ∧ v' 4 6 = 0 ∧ v' 4 7 = 0 ∧ ∀ j, j < 8 → v' 5 j = -1 ∧ v' 6 j = -1 ∧ v' 7 j = 0 := by
  have L : ∀ d i v n, i + d = 8 → (∀ j, j < i → v 5 j = -1 ∧ v 6 j = -1 ∧ v 7 j = 0) → ∃ v', sX1_reset_2 1000 4 (n + 1 + d) v (nI i) = some v' ∧ (∀ k, k < 4 ∨ 7 < k → v' k = v k) ∧ v' 4 3 = -1 ∧ v' 4 4 = 0 ∧ v' 4 5 = 0 ∧ v' 4 6 = 0 ∧ v' 4 7 = 0 ∧ ∀ j, j < 8 → v' 5 j = -1 ∧ v' 6 j = -1 ∧ v' 7 j = 0 := by
    intro d
    induction d with
    | zero =>
      intro i v n hi hj
      have : i = 8 := by omega
      subst this
      unfold sX1_reset_2
      simp only [ob]
      rw [if_pos (show (8 : Int32) ≤ nI 8 by decide)]
      refine ⟨_, rfl, fun k q => ?_, ?_, ?_, ?_, ?_, ?_, fun j q => ?_⟩
      · have : k ≠ 4 := by omega
        simp only [up_r _ _ _ _ this]
      · simp [up]
      · simp [up]
      · simp [up]
      · simp [up]
      · simp [up]
      · simp only [up_r _ _ _ _ (by decide : (5 : Nat) ≠ 4), up_r _ _ _ _ (by decide : (6 : Nat) ≠ 4), up_r _ _ _ _ (by decide : (7 : Nat) ≠ 4)]
        exact hj j q
    | succ d ih =>
      intro i v n hi hj
      rw [show n + 1 + (d + 1) = (n + 1 + d) + 1 from rfl]
      unfold sX1_reset_2
      simp only [ob]
      rw [if_neg (ge_8 (by omega))]
      have hin' : ¬ (nI i < 0 ∨ 8 ≤ i) := fun q => q.elim (nI_pos (by omega)) (by omega)
      simp only [nI_clamp (show i < 2 ^ 31 by omega), if_pos hin']
      rw [nI_1]
      generalize hV : up (up (up v (4 + 1) i (-1)) (4 + 2) i (-1)) (4 + 3) i 0 = V
      have hVk : ∀ k, k < 5 ∨ 7 < k → V k = v k := by
        intro k q
        rw [← hV, up_r _ _ _ _ (by omega), up_r _ _ _ _ (by omega), up_r _ _ _ _ (by omega)]
      obtain ⟨v', g1, g2, g3⟩ := ih (i + 1) V n (by omega) (fun j q => by
        rw [← hV]
        by_cases e : j = i
        · subst e; simp [up]
        · have := hj j (by omega)
          simp [up, e]
          exact this)
      exact ⟨v', g1, fun k q => (g2 k q).trans (hVk k (by omega)), g3⟩
  obtain ⟨v', g⟩ := L 8 0 v 991 (by omega) (fun j q => by omega)
  exact ⟨v', g⟩
theorem k_start (v : gV) {ask : Nat} (ha : ask < 2) : ∃ v', sX2_start 1000 v (nI ask) = some v' ∧ (∀ k, k < 3 ∨ 7 < k → v' k = v k) ∧ PS v' 0 ask 0 ∧ H0 v' 0 ∧ ∀ j, j < 8 → v' 7 j = 0 := by
  obtain ⟨u, g1, g2, g3, g4, g5, g6, g7, g8⟩ := k_reset v
  have hb : nI ask &&& 1 = nI ask := by
    have : ask = 0 ∨ ask = 1 := by omega
    rcases this with e | e <;> subst e <;> decide
  unfold sX2_start
  rw [g1, ob, ob, if_pos hb, ob]
  have hk : ∀ k, k ≠ 3 → up (up u 3 1 0) 3 2 (nI ask) k = u k := fun k q => by rw [up_r _ _ _ _ q, up_r _ _ _ _ q]
  refine ⟨_, rfl, fun k q => by rw [hk k (by omega), g2 k (by omega)], ⟨?_, ?_, ?_⟩, ⟨rfl, ?_, ?_, ?_, ?_, ?_, ?_, fun j q => ?_⟩, fun j q => ?_⟩
  · rw [up_c _ _ _ _ (by decide), up_s]; rfl
  · rw [up_s]
  · rw [hk 4 (by decide), g3]; decide
  · rw [hk 4 (by decide)]; exact g3
  · rw [hk 4 (by decide)]; exact g4
  · rw [hk 4 (by decide)]; exact g5
  · rw [hk 4 (by decide)]; exact g6
  · rw [hk 4 (by decide)]; exact g7
  · rw [hk 5 (by decide)]; exact (g8 0 (by decide)).1
  · rw [hk 6 (by decide)]; exact (g8 j q).2.1
  · rw [hk 7 (by decide)]; exact (g8 j q).2.2
def fr7 (v v' : gV) : Prop := ∀ k, k < 3 ∨ 7 < k → v' k = v k
theorem m_read0 (v2 : gV) : sX6_read 1000 v2 = sX6_read_19 1000 1000 (up (up v2 81 10 0) 81 11 0) (nI (stN 0)) (nI 0) (putI 0) (nI 0) := by
  rw [show nI (stN 0) = 0 by decide, show putI 0 = 0 by decide, show nI 0 = 0 from rfl]
  unfold sX6_read
  rw [ob, ob]
theorem frm_0 (v2 : gV) : frm v2 (up (up v2 81 10 0) 81 11 0) := ⟨fun k q r => by rw [up_r _ _ _ _ q, up_r _ _ _ _ q], fun j q r => by rw [up_c _ _ _ _ r, up_c _ _ _ _ q]⟩
theorem b_read {v v2 : gV} {l ask : Nat} (hB : BR v v2 l) (ht : TB v2) (ha : ask < 2) (h55 : v2 84 55 = nI ask) (hq : sX3_isAsking v 8 = some (nI ask)) :
    ∃ b v' v2', sX5_readBuffer 1000 v = some (bI b, v') ∧ sX6_isPossible 1000 v2 = some (bI b, v2') ∧ fr7 v v' ∧ (∀ j, j < 8 → v' 7 j = 0) ∧ frm v2 v2' ∧ (b = true → ∃ m', m' ≤ 21 ∧ v2' 81 10 = nI m' ∧ Fin v' (Wm v2' m') m' ∧ (v' 4 3 = -1 → ask = 1)) := by
  obtain ⟨u, g1, g2, g3, g4, g5⟩ := k_start v ha
  have f0 := frm_0 v2
  have hB' : BR u (up (up v2 81 10 0) 81 11 0) l := by
    unfold BR
    rw [g2 1 (by decide), g2 2 (by decide), f0.2 7 (by decide) (by decide), f0.1 87 (by decide) (by decide)]
    exact hB
  have hl := hB.1
  obtain ⟨b, r, v', v2', j1, j2, j3, j4, j5, j6⟩ := b_readL ha l 0 u (up (up v2 81 10 0) 81 11 0) 0 0 0 0 1000 1000 (by omega) (Nat.le_refl _) hB' (TB_congr ht f0) (by rw [f0.1 84 (by decide) (by decide)]; exact h55) g3 (by decide) (by decide) (fun _ => rfl) (Nat.le_refl _) (by rw [up_c _ _ _ _ (by decide), up_s]; rfl) (up_s _ _ _ _) (Or.inl ⟨rfl, g4, rfl⟩) (fun _ => Or.inl rfl) (by omega) (by omega)
  refine ⟨b, v', v2', ?_, ?_, fun k q => ?_, fun j q => ?_, frm_trans f0 j4, fun hb => (j6 hb).2.2⟩
  · unfold sX5_readBuffer
    rw [hq, ob, g1, ob]
    exact j1
  · unfold sX6_isPossible
    rw [m_read0, j2, ob]
    show (if r = v2' 81 7 then (if v2' 81 11 = 0 then some ((0 : Int32), v2') else some (1, v2')) else some (0, v2')) = some (bI b, v2')
    have e7 : v2' 81 7 = nI l := by rw [(frm_trans f0 j4).2 7 (by decide) (by decide)]; exact hB.2.2.1
    rw [e7]
    cases b with
    | false =>
      rw [j5 rfl]
      by_cases z : r = nI l
      · rw [if_pos z, if_pos rfl]; rfl
      · rw [if_neg z]; rfl
    | true =>
      obtain ⟨y1, y2, _⟩ := j6 rfl
      rw [if_pos y1, y2, if_neg one_ne]; rfl
  · rw [j3 k (by omega) (by omega) (by omega) (by omega), g2 k q]
  · rw [j3 7 (by decide) (by decide) (by decide) (by decide)]; exact g5 j q
theorem b_firstE {v v2 : gV} {l ask : Nat} (hB : BR v v2 l) (ht : TB v2) (ha : ask < 2) (h55 : v2 84 55 = nI ask) (hq : sX3_isAsking v 8 = some (nI ask)) :
    ∃ r v' v2', sX5_firstError 1000 v = some (r, v') ∧ sX6_read 1000 v2 = some (r, v2') ∧ fr7 v v' ∧ frm v2 v2' := by
  obtain ⟨u, g1, g2, g3, g4, g5⟩ := k_start v ha
  have f0 := frm_0 v2
  have hB' : BR u (up (up v2 81 10 0) 81 11 0) l := by
    unfold BR
    rw [g2 1 (by decide), g2 2 (by decide), f0.2 7 (by decide) (by decide), f0.1 87 (by decide) (by decide)]
    exact hB
  have hl := hB.1
  obtain ⟨r, v', v2', j1, j2, j3, j4⟩ := b_first ha l 0 u (up (up v2 81 10 0) 81 11 0) 0 0 0 0 1000 1000 (by omega) (Nat.le_refl _) hB' (TB_congr ht f0) (by rw [f0.1 84 (by decide) (by decide)]; exact h55) g3 (by decide) (by decide) (fun _ => rfl) (Nat.le_refl _) (by rw [up_c _ _ _ _ (by decide), up_s]; rfl) (by omega) (by omega)
  refine ⟨r, v', v2', ?_, ?_, fun k q => ?_, frm_trans f0 j4⟩
  · unfold sX5_firstError
    rw [hq, ob, g1, ob]
    exact j1
  · rw [m_read0]; exact j2
  · rw [j3 k (by omega) (by omega) (by omega) (by omega), g2 k q]
