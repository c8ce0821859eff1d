/-! a buffer of typed words is read as these words -/
def TYP (B : Nat → Int32) : List Nat → Nat → Nat → Prop
  | [], f, l => f = l + 1
  | w :: ws, f, l => w < 25 ∧ spA B w f (lenW w) = true ∧ f + lenW w ≤ l ∧ (f + lenW w < l → B (f + lenW w) = 32) ∧ TYP B ws (f + lenW w + 1) l
def rn (ask : Nat) : Nat → Nat → List Nat → Option (Nat × Nat)
  | p, i, [] => some (p, i)
  | p, i, w :: ws => match aft p ask i w with
    | none => none
    | some q => rn ask q (idx i w) ws
theorem rn_nil (ask p i : Nat) : rn ask p i [] = some (p, i) := rfl
theorem rn_app (ask : Nat) : ∀ ws ws' p i, rn ask p i (ws ++ ws') = (rn ask p i ws).bind fun r => rn ask r.1 r.2 ws' := by
  intro ws
  induction ws with
  | nil => intro ws' p i; rfl
  | cons w ws ih =>
    intro ws' p i
    show (match aft p ask i w with
      | none => none
      | some q => rn ask q (idx i w) (ws ++ ws')) = (match aft p ask i w with
      | none => none
      | some q => rn ask q (idx i w) ws).bind fun r => rn ask r.1 r.2 ws'
    cases aft p ask i w with
    | none => rfl
    | some q => exact ih ws' q (idx i w)
theorem m_scan {v2 : gV} {l p ask i f w : Nat} (ht : TB v2) (hl60 : l ≤ 60) (h55 : v2 84 55 = nI ask) (h7 : v2 81 7 = nI l) (hp : p < 14) (ha : ask < 2) (hi : i < 8) (hw : w < 25) (hs : spA (v2 87) w f (lenW w) = true) (hfl : f + lenW w ≤ l) (hn : aft p ask i w ≠ none) : ∀ d at' km, at' + d = f + lenW w → f ≤ at' → sX6_read_19 1000 (km + d) v2 (nI (stN p)) (nI f) (putI i) (nI at') = sX6_read_19 1000 km v2 (nI (stN p)) (nI f) (putI i) (nI (f + lenW w)) := by
  have hlw := len_tab w hw
  intro d
  induction d with
  | zero =>
    intro at' km h1 h2
    rw [show at' = f + lenW w by omega]
    rfl
  | succ d ih =>
    intro at' km h1 h2
    obtain ⟨x, hx, hx32, ex⟩ := ltr_tab w hw (at' - f) (by omega) (by omega)
    have eB : v2 87 at' = nI x := by
      have := spA_iff.mp hs (at' - f) (by omega)
      rw [show f + (at' - f) = at' by omega] at this
      rw [this, ex]
    have n32 : ¬ v2 87 at' = 32 := by
      rw [eB]
      intro q
      have := (nI_eq (b := 32) (by omega) (by decide)).mp q
      omega
    rw [← Nat.add_assoc]
    conv => lhs; unfold sX6_read_19
    rw [h7, if_neg (nI_ge (by omega) (by omega)), if_pos (nI_in (by omega) (by decide)), nI_clamp (by omega), if_neg n32, nI_1, pk_sub (by omega), m_can ht hl60 h55 hp ha hi (by omega), ob]
    have z : cn 25 (fun w => spB (v2 87) w f (at' + 1 - f) && (aft p ask i w).isSome) ≠ 0 := by
      refine cn_ge (i := w) hw ?_
      unfold spB
      rw [decide_eq_true (show at' + 1 - f ≤ lenW w by omega), spA_iff.mpr (fun j hj => spA_iff.mp hs j (by omega))]
      cases e : aft p ask i w with
      | none => exact absurd e hn
      | some q => rfl
    rw [if_neg (by rw [bI_0]; simp [z])]
    exact ih (at' + 1) km (by omega) (by omega)
theorem w_at {v2 : gV} {l p ask i f w q : Nat} (ht : TB v2) (hl60 : l ≤ 60) (h55 : v2 84 55 = nI ask) (hp : p < 14) (ha : ask < 2) (hi : i < 8) (hw : w < 25) (hs : spA (v2 87) w f (lenW w) = true) (hfl : f + lenW w ≤ l) (hq : aft p ask i w = some q) : sX6_wordAt 1000 v2 (nI f) (nI (lenW w)) (nI (stN p)) (putI i) = some (nI w) := by
  rcases m_wordAt (n := lenW w) (f := f) ht hl60 h55 hp ha hi hfl with ⟨w0, q0, hw0, _, e⟩ | ⟨hno, _⟩
  · rw [sp_uniq hw0.1 hw hw0.2.1 rfl hw0.2.2 hs] at e
    exact e
  · exact absurd (hno w ⟨hw, rfl, hs⟩) (by rw [hq]; simp)
theorem m_path {ask l : Nat} (ha : ask < 2) (hl60 : l ≤ 60) : ∀ ws w v2 p i f m km q' i', TB v2 → v2 84 55 = nI ask → v2 81 7 = nI l → v2 81 10 = nI m → 3 * m ≤ f → p < 14 → i < 8 → (p = 0 → i = 0) → TYP (v2 87) (w :: ws) f l → rn ask p i (w :: ws) = some (q', i') → compB q' i' = true → l < f + km →
    ∃ v2', sX6_read_19 1000 km v2 (nI (stN p)) (nI f) (putI i) (nI f) = some (nI l, v2') ∧ frm v2 v2' ∧ v2' 81 11 = 1 ∧ v2' 81 10 = nI (m + 1 + ws.length) ∧ (∀ j, j < m → v2' 88 j = v2 88 j) ∧ ∀ j, j < 1 + ws.length → v2' 88 (m + j) = nI ((w :: ws).getD j 0) := by
  intro ws
  induction ws with
  | nil =>
    intro w v2 p i f m km q' i' ht h55 h7 h10 hm hp hi h0 hT hr hc hk
    obtain ⟨hw, hs, hfl, _, hend⟩ := hT
    have hend : f + lenW w + 1 = l + 1 := hend
    have hlw := len_tab w hw
    obtain ⟨q, hq⟩ : ∃ q, aft p ask i w = some q := by
      cases e : aft p ask i w with
      | none =>
        have hr : (match aft p ask i w with
          | none => none
          | some q => rn ask q (idx i w) []) = some (q', i') := hr
        rw [e] at hr
        cases hr
      | some q => exact ⟨q, rfl⟩
    have hr : (match aft p ask i w with
          | none => none
          | some q => rn ask q (idx i w) []) = some (q', i') := hr
    rw [hq] at hr
    have hr2 : (q, idx i w) = (q', i') := Option.some.inj hr
    have e1 : q = q' := congrArg Prod.fst hr2
    have e2 : idx i w = i' := congrArg Prod.snd hr2
    subst e1
    subst e2
    have hq14 := (tr_of hp ha hi hw hq).1
    obtain ⟨km, rfl⟩ : ∃ n, km = n + 1 + lenW w := ⟨km - 1 - lenW w, by omega⟩
    rw [m_scan ht hl60 h55 h7 hp ha hi hw hs hfl (by rw [hq]; simp) (lenW w) f (km + 1) rfl (Nat.le_refl _)]
    unfold sX6_read_19
    rw [h7, if_pos (nI_le (by omega) (by omega)), pk_sub (by omega), show l - f = lenW w by omega, w_at ht hl60 h55 hp ha hi hw hs hfl hq, ob, if_neg (nI_pos (by omega)), h10, if_pos (nI_in (by omega) (by decide)), nI_clamp (by omega)]
    simp only [ob]
    rw [up_r _ _ _ _ (by decide : (81 : Nat) ≠ 88), h10, nI_1 m]
    have e55 : psh v2 m w 84 55 = nI ask := by rw [(psh_fr v2 m w).1 84 (by decide) (by decide)]; exact h55
    have hn := m_next (v := psh v2 m w) e55 hp ha hi hw
    rw [show up (up v2 88 m (nI w)) 81 10 (nI (m + 1)) = psh v2 m w from rfl, hn, hq, ob, show toM (some q) = nI (stN q) from rfl]
    have hpn := put_next hp ha hi hw hq h0
    have e2 : (if putI i = 0 then (if nI w = 12 then sX6_read_231 1000 (psh v2 m w) (nI (stN q)) 1 else sX6_read_231 1000 (psh v2 m w) (nI (stN q)) 0) else sX6_read_231 1000 (psh v2 m w) (nI (stN q)) 1) = sX6_read_231 1000 (psh v2 m w) (nI (stN q)) (putI (idx i w)) := by
      rw [← hpn]
      by_cases z : putI i = 0
      · rw [if_pos z, if_pos z]
        by_cases y : nI w = 12
        · rw [if_pos y, if_pos y]
        · rw [if_neg y, if_neg y]
      · rw [if_neg z, if_neg z]
    have fm := psh_fr v2 m w
    rw [e2, m_231 hq14, fm.2 7 (by decide) (by decide), h7]
    refine ⟨_, rfl, frm_trans fm ⟨fun k q r => up_r _ _ _ _ q, fun j q r => up_c _ _ _ _ r⟩, ?_, ?_, fun j hj => ?_, fun j hj => ?_⟩
    · rw [up_s, hc]; rfl
    · rw [up_c _ _ _ _ (by decide)]; exact psh_10 _ _ _
    · rw [up_r _ _ _ _ (by decide), psh_88, if_neg (by omega)]
    · have : j = 0 := by have : ([] : List Nat).length = 0 := rfl; omega
      subst this
      rw [up_r _ _ _ _ (by decide), psh_88, if_pos (by omega)]
      rfl
  | cons w' ws ih =>
    intro w v2 p i f m km q' i' ht h55 h7 h10 hm hp hi h0 hT hr hc hk
    obtain ⟨hw, hs, hfl, h32, hT2⟩ := hT
    have hT3 := hT2
    obtain ⟨hw', _, hfl', _⟩ := hT3
    have hlw := len_tab w hw
    have hlw' := len_tab w' hw'
    obtain ⟨q, hq⟩ : ∃ q, aft p ask i w = some q := by
      cases e : aft p ask i w with
      | none =>
        have hr : (match aft p ask i w with
          | none => none
          | some q => rn ask q (idx i w) (w' :: ws)) = some (q', i') := hr
        rw [e] at hr
        cases hr
      | some q => exact ⟨q, rfl⟩
    have hr : (match aft p ask i w with
          | none => none
          | some q => rn ask q (idx i w) (w' :: ws)) = some (q', i') := hr
    rw [hq] at hr
    have hr : rn ask q (idx i w) (w' :: ws) = some (q', i') := hr
    have hq14 := (tr_of hp ha hi hw hq).1
    have htv := tr_verb hp ha hi hw hq
    obtain ⟨km, rfl⟩ : ∃ n, km = n + 1 + lenW w := ⟨km - 1 - lenW w, by omega⟩
    rw [m_scan ht hl60 h55 h7 hp ha hi hw hs hfl (by rw [hq]; simp) (lenW w) f (km + 1) rfl (Nat.le_refl _)]
    unfold sX6_read_19
    rw [h7, if_neg (nI_ge (by omega) (by omega)), if_pos (nI_in (by omega) (by decide)), nI_clamp (by omega), if_pos (h32 (by omega)), pk_sub (by omega), show f + lenW w - f = lenW w by omega, w_at ht hl60 h55 hp ha hi hw hs hfl hq, ob, if_pos (nI_pos' (by omega)), m_next h55 hp ha hi hw, hq, ob, show toM (some q) = nI (stN q) from rfl, m_70, put_next hp ha hi hw hq h0]
    unfold sX6_read_88
    have h14 := (st_tab q hq14).2.2.2.2.2
    have hgo : gO q ask (idx i w) = true := by
      unfold gO
      refine decide_eq_true (cn_ge (i := w') hw' ?_)
      cases e : aft q ask (idx i w) w' with
      | none =>
        have hr : (match aft q ask (idx i w) w' with
          | none => none
          | some q => rn ask q (idx (idx i w) w') ws) = some (q', i') := hr
        rw [e] at hr
        cases hr
      | some _ => rfl
    rw [if_neg (nI_pos (by omega)), m_goes h55 hq14 ha (idx_lt hi), ob, nI_1, hgo, if_neg bIt_ne, h10, if_pos (nI_in (by omega) (by decide)), nI_clamp (by omega)]
    simp only [ob]
    rw [up_r _ _ _ _ (by decide : (81 : Nat) ≠ 88), h10, nI_1]
    have fm := psh_fr v2 m w
    obtain ⟨y2, j1, j2, j3, j4, j5, j6⟩ := ih w' (psh v2 m w) q (idx i w) (f + lenW w + 1) (m + 1) km q' i' (TB_congr ht fm) (by rw [fm.1 84 (by decide) (by decide)]; exact h55) (by rw [fm.2 7 (by decide) (by decide)]; exact h7) (psh_10 _ _ _) (by omega) hq14 (idx_lt hi) (fun z => absurd z htv.1) (by rw [fm.1 87 (by decide) (by decide)]; exact hT2) hr hc (by omega)
    refine ⟨y2, j1, frm_trans fm j2, j3, ?_, fun j hj => ?_, fun j hj => ?_⟩
    · rw [j4, List.length_cons]
      exact congrArg nI (by omega)
    · rw [j5 j (by omega), psh_88, if_neg (by omega)]
    · cases j with
      | zero =>
        rw [j5 (m + 0) (by omega), psh_88, if_pos (by omega)]
        rfl
      | succ j =>
        rw [show m + (j + 1) = m + 1 + j by omega, j6 j (by rw [List.length_cons] at hj; omega)]
        rfl
