/-! addObject, enter, ifEntered on both sides -/
theorem SR_idle {v : gV} {s : Nat → Int32} {c : Nat} (h1 : OKs s c) (h2 : CW v 9 s c) (h3 : v 8 2 = s 50) (h4 : v 8 3 = s 51) (h5 : v 8 4 = s 52) (h6 : v 8 5 = s 53) (h7 : v 8 6 = s 54) (h8 : v 8 7 = s 57) (h9 : v 13 5 = 0 ∨ v 13 5 = 1) (q1 : s 55 = 0) (q2 : v 8 8 = -1) (q3 : s 57 = 0) : SR v 8 s := ⟨c, ⟨h1, h2, h3, h4, h5, h6, h7, h8, h9⟩, Or.inl ⟨q1, q2, q3⟩⟩
theorem in_bool {x : Int32} {n : Nat} (hn : n < 2 ^ 31 - 1) : ∃ b : Bool, sX6_in x 0 (nI n) = some (bI b) ∧ (b = true → ∃ k, k ≤ n ∧ x = nI k) ∧ (if x < 0 then (some 0 : Option Int32) else if nI (n + 1) ≤ x then some 0 else some 1) = some (bI b) := by
  rcases m_inN (x := x) hn with ⟨e, q⟩ | ⟨k, hk, e, e2⟩
  · refine ⟨false, e, (fun z => by cases z), ?_⟩
    rcases q with q | q
    · rw [if_pos q]; rfl
    · rw [if_pos q]; split <;> rfl
  · refine ⟨true, e2, fun _ => ⟨k, hk, e⟩, ?_⟩
    rw [e, if_neg (nI_pos (by omega)), if_neg (nI_ge (by omega) (by omega))]; rfl
theorem m_add101 (W : gV) : sX6_addObject_101 1000 W = some (0, up W 81 8 1) := rfl
theorem m_add156 (W : gV) : sX6_addObject_156 1000 W = some (0, up W 81 8 2) := rfl
/-- all checks passed: both add -/
theorem b_added {v w : gV} {a b p : Nat} (h : INV v w) (ha : a < 6) (hb : b < 4) (hcc : ∀ c, OKs (w 84) c → c < 12 ∧ (p < 5 ∨ (5 ≤ p ∧ p - 5 < c)) ∧ (p < 4 ∨ cn c (inB (w 84) (nI p)) < (if p = 4 then 6 else 4)) ∧ (5 ≤ p → cntB (w 84) (p - 5) = true ∧ a ≠ 1 ∧ a ≠ 5) ∧ ∀ k, k < c → ¬ (w 84 (4 * k + 1) = nI a ∧ w 84 (4 * k + 2) = nI b)) : MS v w 0 1 ((sX5_save 1000 v).bind fun q_7 => (sX3_closeQuestion q_7 8).bind fun q_8 => (sX4_add q_8 9 (nI a) (nI b) (nI p)).bind fun q_9 => some (.inr q_9.1, q_9.2)) (sX6_addObject_162 1000 (up w 81 8 0) (nI a) (nI b) (nI p)) := by
  have h0 := h
  have h1 : INV v (up w 81 8 0) := INV_81 h (by decide) (by decide) _
  obtain ⟨⟨l, hB⟩, ht, hS, hR⟩ := id h1
  obtain ⟨v1, w1, s1, s2, s3, s4, s5, s6⟩ := b_save hS hR
  have e84 : w1 84 = up w 81 8 0 84 := s5 84 (by decide) (by decide)
  have e840 : up w 81 8 0 84 = w 84 := u84 _ _ _
  have hS1 : SR v1 8 (w1 84) := by
    rw [e84]
    exact SR_congr hS (fun k q1 q2 => s4 k (by omega) (by omega)) (fun _ _ => rfl)
  obtain ⟨v2, w2, c1, c2, ⟨c, y1, y2, y3, y4, y5, y6, y7, y8, y9⟩, c4, c5, c6, c7, c8, c9⟩ := b_close hS1
  have e2 : ∀ j, j < 55 → w2 84 j = w 84 j := fun j q => by rw [c9 j q, e84, e840]
  obtain ⟨hc, hp, hcap, hXp, hXu⟩ := hcc c (OKs_congr y1 (fun j q => (e2 j (by omega)).symm))
  have hcap2 : p < 4 ∨ cn c (inB (w2 84) (nI p)) < (if p = 4 then 6 else 4) := by
    rw [cn_congr (Q := inB (w 84) (nI p)) (fun k hk => by unfold inB; rw [e2 _ (by omega)])]
    exact hcap
  obtain ⟨f1, f2⟩ := SR_add hc y1 y2 ha hb hp hcap2 (fun q => by rw [cnt_cong (e2 _ (by omega))]; exact hXp q) (fun k hk => by rw [e2 _ (by omega), e2 _ (by omega)]; exact hXu k hk)
  unfold sX6_addObject_162
  rw [s1, ob, c1, ob, k_addO hc y2.1, ob, s2, ob, c2, ob, m_addO hc y1.2.1]
  generalize nI a = x1 at *
  generalize nI b = x2 at *
  generalize nI p = x3 at *
  have ea : ∀ j, 50 ≤ j → adW w2 c x1 x2 x3 84 j = w2 84 j := fun j q => adW_j w2 x1 x2 x3 (by omega) (by omega)
  refine MS_0 (y := nI c) (v' := adV v2 c x1 x2 x3) (w' := adW w2 c x1 x2 x3) rfl rfl (fun k q => ?_) (RF_trans (RF_81 w 8 0) (fun k q => ?_)) ⟨⟨l, BR_of hB ?_ ?_ ?_ ?_⟩, TB_of ht ?_ ?_, SR_idle f1 f2 ?_ ?_ ?_ ?_ ?_ ?_ ?_ ?_ ?_ ?_, RG_of s3 ?_ (fun k q => ?_) ?_ ?_⟩ ?_
  · rw [adV_k _ _ _ _ _ (by omega), c4 k (by omega), s4 k (by omega) (by omega)]
  · rw [adW_k _ _ _ _ _ (by omega), c5 k (by omega), s5 k (by omega) (by omega)]
  · rw [adV_k _ _ _ _ _ (by omega), c4 _ (by decide), s4 _ (by decide) (by decide)]
  · rw [adV_k _ _ _ _ _ (by omega), c4 _ (by decide), s4 _ (by decide) (by decide)]
  · rw [adW_k _ _ _ _ _ (by decide), c5 _ (by decide), s6 _ (by decide)]
  · rw [adW_k _ _ _ _ _ (by decide), c5 _ (by decide), s5 _ (by decide) (by decide)]
  · rw [adW_k _ _ _ _ _ (by decide), c5 _ (by decide), s5 _ (by decide) (by decide)]
  · rw [adW_k _ _ _ _ _ (by decide), c5 _ (by decide), s5 _ (by decide) (by decide)]
  · rw [adV_k _ _ _ _ _ (by omega), ea _ (by decide)]; exact y3
  · rw [adV_k _ _ _ _ _ (by omega), ea _ (by decide)]; exact y4
  · rw [adV_k _ _ _ _ _ (by omega), ea _ (by decide)]; exact y5
  · rw [adV_k _ _ _ _ _ (by omega), ea _ (by decide)]; exact y6
  · rw [adV_k _ _ _ _ _ (by omega), ea _ (by decide)]; exact y7
  · rw [adV_k _ _ _ _ _ (by omega), ea _ (by decide)]; exact y8
  · rw [adV_k _ _ _ _ _ (by omega)]; exact y9
  · rw [ea _ (by decide)]; exact c6
  · rw [adV_k _ _ _ _ _ (by omega)]; exact c7
  · rw [ea _ (by decide)]; exact c8
  · rw [adV_k _ _ _ _ _ (by omega), c4 _ (by decide)]
  · rw [adV_k _ _ _ _ _ (by omega), c4 _ (by omega)]
  · rw [adW_k _ _ _ _ _ (by decide), c5 _ (by decide)]
  · rw [adW_k _ _ _ _ _ (by decide), c5 _ (by decide)]
  · rw [adW_k _ _ _ _ _ (by decide), c5 _ (by decide), s6 _ (by decide), up_s]
theorem b_add60 {v w : gV} {a b p c : Nat} (h : INV v w) (y1 : OKs (w 84) c) (y2 : CW v 9 (w 84) c) (ha : a < 6) (hb : b < 4) (hp : p < 5 ∨ (5 ≤ p ∧ p - 5 < c)) (hXp : 5 ≤ p → cntB (w 84) (p - 5) = true ∧ a ≠ 1 ∧ a ≠ 5) : MS v w 0 1 (tX5_addObject_60 1000 v (nI a) (nI b) (nI p)) (sX6_addObject_107 1000 (up w 81 8 0) (nI a) (nI b) (nI p) (if p < 5 then 0 else 1)) := by
  have hc := y1.1
  have e84 : up w 81 8 0 84 = w 84 := u84 _ _ _
  have z1 : OKs (up w 81 8 0 84) c := by rw [e84]; exact y1
  have huniq : ∀ c', OKs (w 84) c' → c' = c := by
    intro c' hc'
    have e := hc'.2.1.symm.trans y1.2.1
    have := hc'.1
    exact (nI_eq (by omega) (by omega)).mp e
  unfold tX5_addObject_60 tX5_addObject_89 sX6_addObject_107
  rw [y2.1, e84, y1.2.1]
  by_cases hc12 : c = 12
  · rw [if_pos (show (12 : Int32) ≤ nI c by rw [hc12]; decide), if_pos (show nI c = 12 by rw [hc12]; rfl), m_add156]
    exact MS_2 (by decide) h rfl rfl
  · have hp17 : p < 17 := by omega
    rw [if_neg (ge_12 (by omega)), if_neg (show ¬ nI c = 12 from fun q => hc12 ((nI_eq (b := 12) (by omega) (by decide)).mp q)), k_full y2 hc (by omega), ob, k_fit y2 hc, ob, m_fit z1 (nI_m1 (by omega)) (Or.inr (nI_pos (by omega))), ob, e84]
    have hlim := y1.2.2.2.2.2.1 p
    have hat : ∀ x, sX6_at 1000 (up w 81 8 0) x = some (nI (cn c (inB (w 84) x))) := fun x => by rw [m_at z1, e84]
    have hcl := cn_le c (inB (w 84) (nI p))
    generalize hf : (decide (4 ≤ p) && decide ((if p = 4 then 6 else 4) ≤ cn c (inB (w 84) (nI p)))) = f
    have eM : (if nI p = 4 then (sX6_at 1000 (up w 81 8 0) 4).bind fun q_17 => if q_17 = 6 then sX6_addObject_156 1000 (up w 81 8 0) else sX6_addObject_142 1000 (up w 81 8 0) (nI a) (nI b) (nI p) (if p < 5 then 0 else 1) else sX6_addObject_142 1000 (up w 81 8 0) (nI a) (nI b) (nI p) (if p < 5 then 0 else 1)) = if f = true then sX6_addObject_156 1000 (up w 81 8 0) else sX6_addObject_162 1000 (up w 81 8 0) (nI a) (nI b) (nI p) := by
      unfold sX6_addObject_142
      by_cases e4 : p = 4
      · subst e4
        rw [if_pos (show nI 4 = 4 from rfl), show (4 : Int32) = nI 4 from rfl, hat, ob, if_pos (show (4 : Nat) < 5 by decide), if_pos rfl]
        rw [if_pos rfl] at hlim
        by_cases z : cn c (inB (w 84) (nI 4)) = 6
        · have ef : f = true := by rw [← hf, z]; rfl
          rw [if_pos (show nI (cn c (inB (w 84) (nI 4))) = 6 by rw [z]; rfl), if_pos ef]
        · have ef : f = false := by
            rw [← hf]
            have := hlim (by decide) (by decide)
            simp
            omega
          rw [if_neg (show ¬ nI (cn c (inB (w 84) (nI 4))) = 6 from fun q => z ((nI_eq (b := 6) (by omega) (by decide)).mp q)), ef, if_neg (by decide)]
      · rw [if_neg (show ¬ nI p = 4 from fun q => e4 ((nI_eq (b := 4) (by omega) (by decide)).mp q))]
        rw [if_neg e4] at hlim
        by_cases e5 : p < 5
        · have ef : f = false := by
            rw [← hf, decide_eq_false (show ¬ 4 ≤ p by omega)]; rfl
          rw [if_pos e5, if_pos rfl, ef, if_neg (by decide)]
        · rw [if_neg e5, if_neg one_ne, hat, ob]
          by_cases z : cn c (inB (w 84) (nI p)) = 4
          · have ef : f = true := by
              rw [← hf, if_neg e4, z, decide_eq_true (show 4 ≤ p by omega)]; rfl
            rw [if_pos (show nI (cn c (inB (w 84) (nI p))) = 4 by rw [z]; rfl), if_pos ef]
          · have ef : f = false := by
              rw [← hf, if_neg e4]
              have := hlim (by omega) hp17
              simp
              omega
            rw [if_neg (show ¬ nI (cn c (inB (w 84) (nI p))) = 4 from fun q => z ((nI_eq (b := 4) (by omega) (by decide)).mp q)), ef, if_neg (by decide)]
    rw [eM, m_add156]
    cases f with
    | true =>
      rw [if_neg bIt_ne, if_pos rfl]
      have : (if mk c (fitB (w 84) (nI a) (nI b)) = 0 then some ((0 : Int32), up (up w 81 8 0) 81 8 2) else some (0, up (up w 81 8 0) 81 8 2)) = some (0, up (up w 81 8 0) 81 8 2) := by split <;> rfl
      rw [this]
      exact MS_2 (by decide) h rfl rfl
    | false =>
      rw [if_pos bIf_eq, if_neg (show ¬ (false = true) by decide)]
      by_cases z : mk c (fitB (w 84) (nI a) (nI b)) = 0
      · rw [if_pos z, if_pos z]
        refine b_added h ha hb (fun c' hc' => ?_)
        rw [huniq c' hc']
        refine ⟨by omega, hp, ?_, hXp, fun k hk hq => ?_⟩
        rotate_left
        · have h0 := (mk_0 (by omega)).mp z k hk
          unfold fitB at h0
          rw [hq.1, hq.2] at h0
          simp at h0
        refine Classical.byContradiction fun q => ?_
        rw [decide_eq_true (Nat.le_of_not_lt (fun z => q (Or.inl z))), decide_eq_true (Nat.le_of_not_lt (fun z => q (Or.inr z)))] at hf
        exact absurd hf (by decide)
      · rw [if_neg z, if_neg z]
        exact MS_2 (by decide) h rfl rfl
theorem t_addObject {v w : gV} (h : INV v w) (x1 x2 x3 : Int32) : MS v w 0 1 (tX5_addObject 1000 v x1 x2 x3) (sX6_addObject 1000 w x1 x2 x3) := by
  obtain ⟨c, y1, y2, _⟩ := INV_b h
  have hc := y1.1
  have bad : tX5_addObject 1000 v x1 x2 x3 = some (.inl 0, v) → sX6_addObject 1000 w x1 x2 x3 = some (0, up (up w 81 8 0) 81 8 1) → MS v w 0 1 (tX5_addObject 1000 v x1 x2 x3) (sX6_addObject 1000 w x1 x2 x3) := fun e1 e2 => MS_1 h e1 e2
  obtain ⟨b1, i1, j1, k1⟩ := in_bool (x := x1) (n := 5) (by decide)
  obtain ⟨b2, i2, j2, k2⟩ := in_bool (x := x2) (n := 3) (by decide)
  have i1 : sX6_in x1 0 5 = some (bI b1) := i1
  have i2 : sX6_in x2 0 3 = some (bI b2) := i2
  have k1 : sX5_isNoun x1 = some (bI b1) := k1
  have k2 : sX5_isAdjective x2 = some (bI b2) := k2
  have eC : ∀ z, sX4_hasPlace v 9 x3 = some z → (b1 = false ∨ b2 = false ∨ z = 0) → tX5_addObject 1000 v x1 x2 x3 = some (.inl 0, v) := by
    intro z hz hb
    unfold tX5_addObject tX5_addObject_32
    rw [k1, ob, k2, ob, hz, ob]
    cases b1 with
    | false => rw [if_pos bIf_eq]
    | true =>
      rw [if_neg bIt_ne]
      cases b2 with
      | false => rw [if_pos bIf_eq]
      | true =>
        rw [if_neg bIt_ne]
        rcases hb with e | e | e
        · cases e
        · cases e
        · rw [if_pos e]
  have e66 : ∀ W w4 w5 t0, (b1 = false ∨ b2 = false ∨ w5 = 0) → sX6_addObject_66 1000 W x1 x2 x3 w4 w5 t0 = some (0, up W 81 8 1) := by
    intro W w4 w5 t0 hb
    unfold sX6_addObject_66
    rw [i1, ob, i2, ob, m_add101]
    cases b1 with
    | false => rw [if_pos bIf_eq]
    | true =>
      rw [if_neg bIt_ne]
      cases b2 with
      | false => rw [if_pos bIf_eq]
      | true =>
        rw [if_neg bIt_ne]
        rcases hb with e | e | e
        · cases e
        · cases e
        · rw [if_pos e]
  have e49 : ∀ W w4 w5, sX6_addObject_49 1000 W x1 x2 x3 w4 w5 = sX6_addObject_66 1000 W x1 x2 x3 w4 w5 (bI (decide (x1 = 1) || decide (x1 = 5))) := by
    intro W w4 w5
    unfold sX6_addObject_49
    by_cases q1 : x1 = 1
    · rw [if_pos q1]; simp [q1, bI]
    · rw [if_neg q1]
      by_cases q5 : x1 = 5
      · rw [if_pos q5]; simp [q5, bI]
      · rw [if_neg q5]; simp [q1, q5, bI]
  have eN : sX5_isContainerNoun x1 = some (bI (decide (x1 = 1) || decide (x1 = 5))) := by
    unfold sX5_isContainerNoun
    by_cases q1 : x1 = 1
    · rw [if_pos q1]; simp [q1, bI]
    · rw [if_neg q1]
      by_cases q5 : x1 = 5
      · rw [if_pos q5]; simp [q5, bI]
      · rw [if_neg q5]; simp [q1, q5, bI]
  have good : ∀ p, (p < 5 ∨ (5 ≤ p ∧ p - 5 < c)) → (5 ≤ p → cntB (w 84) (p - 5) = true) → x3 = nI p → sX4_hasPlace v 9 x3 = some 1 → sX6_addObject 1000 w x1 x2 x3 = sX6_addObject_49 1000 (up w 81 8 0) x1 x2 x3 (if p < 5 then 0 else 1) 1 → MS v w 0 1 (tX5_addObject 1000 v x1 x2 x3) (sX6_addObject 1000 w x1 x2 x3) := by
    intro p hp hXp e3 hP hM
    by_cases hb : b1 = false ∨ b2 = false
    · refine bad (eC _ hP (by rcases hb with q | q <;> simp [q])) ?_
      rw [hM, e49, e66 _ _ _ _ (by rcases hb with q | q <;> simp [q])]
    · have hb1 : b1 = true := by
        cases b1 with
        | true => rfl
        | false => exact absurd (Or.inl rfl) hb
      have hb2 : b2 = true := by
        cases b2 with
        | true => rfl
        | false => exact absurd (Or.inr rfl) hb
      obtain ⟨a, ha, ea⟩ := j1 hb1
      obtain ⟨b, hb', eb⟩ := j2 hb2
      rw [hM, e49]
      unfold tX5_addObject sX6_addObject_66
      rw [k1, ob, k2, ob, hP, ob, eN, ob, i1, ob, i2, ob, hb1, hb2, if_neg bIt_ne, if_neg bIt_ne, if_neg one_ne, if_neg bIt_ne, if_neg bIt_ne, if_neg one_ne]
      generalize hn : (decide (x1 = 1) || decide (x1 = 5)) = nn
      have b60 : (nn = false ∨ p < 5) → _ := fun hnn => b_add60 (a := a) (b := b) (p := p) h y1 y2 (by omega) (by omega) hp (fun q => by
        refine ⟨hXp q, ?_⟩
        have hf : nn = false := hnn.resolve_right (by omega)
        rw [hf, ea, Bool.or_eq_false_iff, decide_eq_false_iff_not, decide_eq_false_iff_not] at hn
        exact ⟨fun z => hn.1 (by rw [z]; rfl), fun z => hn.2 (by rw [z]; rfl)⟩)
      rw [← ea, ← eb, ← e3] at b60
      by_cases p5 : p < 5
      · rw [if_pos p5] at b60
        rw [if_pos p5, if_pos rfl, if_pos (show x3 < 5 by rw [e3]; exact nI_lt (b := 5) p5 (by decide))]
        have b61 := b60 (Or.inr p5)
        cases nn with
        | false => rw [if_pos bIf_eq]; exact b61
        | true => rw [if_neg bIt_ne]; exact b61
      · rw [if_neg p5] at b60
        rw [if_neg p5, if_neg one_ne, if_neg (show ¬ x3 < 5 by rw [e3]; exact nI_nlt (b := 5) (by omega) (by omega))]
        cases nn with
        | false => rw [if_pos bIf_eq, if_pos bIf_eq]; exact b60 (Or.inl rfl)
        | true =>
          rw [if_neg bIt_ne, if_neg bIt_ne, m_add101]
          exact MS_1 h rfl rfl
  rcases e_place y2 y1 x1 x2 x3 _ rfl with ⟨hP, z, hM⟩ | ⟨p, hp, e3, hP, hM⟩ | ⟨k, hk, e3, hP, hM, hcnt⟩
  · refine bad (eC _ hP (Or.inr (Or.inr rfl))) ?_
    rw [hM, e49, e66 _ _ _ _ (Or.inr (Or.inr rfl))]
  · exact good p (Or.inl hp) (fun q => absurd q (by omega)) e3 hP (by rw [if_pos hp]; exact hM)
  · exact good (5 + k) (Or.inr ⟨by omega, by omega⟩) (fun _ => by rw [show 5 + k - 5 = k by omega]; exact hcnt) e3 hP (by rw [if_neg (by omega)]; exact hM)
theorem b_entered {v w : gV} {a m : Nat} (ha : 8 ≤ a) (hS : SR v a (w 84)) (hm : m ≤ 21) (h10 : w 81 10 = nI m) (hF : Fin v (Wm w m) m) (hch : ∀ j, j < 8 → v 7 j = 0) (hask : v 4 3 = -1 → w 84 55 = 1) :
    ∃ R v' w', sX3_accept 1000 v a 4 = some (R, v') ∧ sX6_entered 1000 w = some (R, w') ∧ SR v' a (w' 84) ∧ (∀ k, k < a ∨ a + 8 < k → v' k = v k) ∧ fr w w' ∧ ((PO R (w 84) (w' 84) ∧ ∃ vb, vb ≤ 6 ∧ w 88 0 = nI (10 + vb)) ∨ ∃ a0 b X, ((w 88 0 = 21 ∧ a0 = 1) ∨ (w 88 0 ≠ 21 ∧ a0 = 0)) ∧ b < 4 ∧ w 88 a0 = nI (b + 6) ∧ ((X = -1 ∧ (m ≤ a0 + 1 ∨ 6 ≤ w 88 (a0 + 1))) ∨ ∃ x, x < 6 ∧ a0 + 1 < m ∧ X = nI x ∧ w 88 (a0 + 1) = nI x) ∧ ((R = -5 ∧ w' = w ∧ ∀ c, OKs (w 84) c → cn c (fun k => bt (w 84 57) k && fitB (w 84) X (nI b) k) ≠ 1) ∨ (PO R (w 84) (w' 84) ∧ ∀ c, OKs (w 84) c → cn c (fun k => bt (w 84 57) k && fitB (w 84) X (nI b) k) = 1))) := by
  have hW : ∀ p, p < m → Wm w m p = w 88 p := fun p hp => by unfold Wm; rw [if_neg (by omega)]
  have hW0 : ∀ p y, Wm w m p = y → y ≠ -1 → p < m := fun p y e hy => W_lt (eW_Wm w m) e hy
  unfold sX6_entered
  rcases hF with ⟨vb, L, P, hC⟩ | ⟨h43, a0, b, X, f1, f2, f3, f4, f5, f6, f7⟩
  · have h0 := hC.2.2.1
    have hvb := hC.1
    have hl := hW0 0 _ h0 (nI_m1 (by omega))
    rw [hW 0 hl] at h0
    rw [h0, in_yes (show ¬ nI (10 + vb) < 10 from nI_nlt (b := 10) (by omega) (by omega)) (show ¬ (16 : Int32) < nI (10 + vb) from nI_nlt (a := 16) (by omega) (by decide)), ob, if_neg one_ne]
    obtain ⟨R, v', w', g1, g2, g3, g4, g5, g6⟩ := b_cmd ha hS (by omega) h10 hC hch
    exact ⟨R, v', w', g1, by rw [g2, ob], g3, g4, g5, Or.inl ⟨g6, vb, hvb, rfl⟩⟩
  · have hm0 : 0 < m := by omega
    rw [hW 0 hm0] at f1
    rw [hW a0 f6] at f3
    have hin : sX6_in (w 88 0) 10 16 = some 0 := by
      rcases f1 with ⟨q, _⟩ | ⟨q, q2⟩
      · rw [q]; exact in_no (Or.inr (by decide))
      · rw [q2] at f3
        rw [f3]
        exact in_no (Or.inl (nI_lt (b := 10) (by omega) (by decide)))
    rw [hin, ob, if_pos rfl]
    have hX9 : (X = -1 ∧ (m ≤ a0 + 1 ∨ 6 ≤ w 88 (a0 + 1))) ∨ ∃ x, x < 6 ∧ a0 + 1 < m ∧ X = nI x ∧ w 88 (a0 + 1) = nI x := by
      rcases f7 with ⟨q1, q2⟩ | ⟨x, q1, q2, q3, q4⟩
      · left
        refine ⟨q1, ?_⟩
        by_cases z : m ≤ a0 + 1
        · exact Or.inl z
        · rcases q2 with q | q
          · exact absurd q z
          · rw [hW _ (by omega)] at q; exact Or.inr q
      · right
        rw [hW _ q2] at q4
        exact ⟨x, q1, q2, q3, q4⟩
    obtain ⟨R, v', w', g1, g2, g3, g4, g5, g6⟩ := b_ans (X := X) ha hS (hask h43) h43 (by omega) h10 f1 f2 f3 f4 f5 hX9
    exact ⟨R, v', w', g1, by rw [g2, ob], g3, g4, g5, Or.inr ⟨a0, b, X, f1, f2, f3, hX9, g6⟩⟩
theorem Fin_congr {v v' : gV} {W : Nat → Int32} {m : Nat} (h : Fin v W m) (h4 : v' 4 = v 4) (h5 : v' 5 = v 5) (h6 : v' 6 = v 6) : Fin v' W m := by
  unfold Fin FinA CmdR at h ⊢
  rw [h4, h5, h6]
  exact h
theorem t_enter {v w : gV} (h : INV v w) : MS v w 0 0 (tX5_enter 1000 v) (sX6_enter 1000 w) := by
  have h1 : INV v (up w 81 8 0) := INV_81 h (by decide) (by decide) _
  obtain ⟨⟨l, hB⟩, ht, hS, hR⟩ := id h1
  obtain ⟨ask, ha, h55, hq⟩ := SR_ask hS
  obtain ⟨b, v1, w1, g1, g2, g3, g4, g5, g6⟩ := b_read hB ht ha h55 hq
  have hI1 : INV v1 w1 := INV_congr h1 (fun k q => g3 k (by omega)) (fun k q => g5.1 k (by omega) (by omega)) (g5.2 5 (by decide) (by decide)) (g5.2 7 (by decide) (by decide))
  have hRF : RF w w1 := RF_trans (RF_81 w 8 0) (fun k q => g5.1 k (by omega) (by omega))
  have h8 : w1 81 8 = 0 := by rw [g5.2 8 (by decide) (by decide), up_s]
  unfold tX5_enter sX6_enter
  rw [g1, ob, ob, g2, ob]
  dsimp only
  cases b with
  | false =>
    rw [if_pos bIf_eq, if_pos bIf_eq, m_thr, ob]
    exact ⟨_, _, _, _, rfl, rfl, fun k q => g3 k (by omega), RF_trans hRF (RF_81 _ _ _), INV_81 hI1 (by decide) (by decide) _, Or.inl ⟨rfl, up_s w1 81 8 1⟩⟩
  | true =>
    obtain ⟨m, hm, h10, hF, hask⟩ := g6 rfl
    rw [if_neg bIt_ne, if_neg bIt_ne]
    obtain ⟨⟨l1, hB1⟩, ht1, hS1, hR1⟩ := id hI1
    obtain ⟨v2, w2, s1, s2, s3, s4, s5, s6⟩ := b_save hS1 hR1
    rw [s1, ob, ob, s2, ob, ob]
    generalize hU : up v2 1 1 0 = U
    generalize hV : up w2 81 7 0 = V
    have hUk : ∀ k, k ≠ 1 → U k = v2 k := fun k q => by rw [← hU, up_r _ _ _ _ q]
    have hVk : ∀ k, k ≠ 81 → V k = w2 k := fun k q => by rw [← hV, up_r _ _ _ _ q]
    have hVj : ∀ j, j ≠ 7 → V 81 j = w2 81 j := fun j q => by rw [← hV, up_c _ _ _ _ q]
    have hU4 : ∀ k, 3 < k → k < 27 → U k = v1 k := fun k q r => by rw [hUk k (by omega), s4 k (by omega) (by omega)]
    have e84 : V 84 = w1 84 := by rw [hVk 84 (by decide), s5 84 (by decide) (by decide)]
    have e88 : V 88 = w1 88 := by rw [hVk 88 (by decide), s5 88 (by decide) (by decide)]
    have eW : Wm V m = Wm w1 m := by funext p; unfold Wm; rw [e88]
    have e55 : w1 84 55 = nI ask := by rw [g5.1 84 (by decide) (by decide)]; exact h55
    obtain ⟨R, v', w', n1, n2, n3, n4, n5, _⟩ := b_entered (v := U) (w := V) (a := 8) (m := m) (by decide) (by
      rw [e84]
      exact SR_congr hS1 (fun k q1 q2 => hU4 k (by omega) (by omega)) (fun _ _ => rfl)) hm (by rw [hVj 10 (by decide), s6 10 (by decide)]; exact h10) (by
      rw [eW]
      exact Fin_congr hF (hU4 4 (by decide) (by decide)) (hU4 5 (by decide) (by decide)) (hU4 6 (by decide) (by decide))) (fun j q => by rw [hU4 7 (by decide) (by decide)]; exact g4 j q) (fun q => by
      rw [hU4 4 (by decide) (by decide)] at q
      rw [e84, e55, hask q]
      rfl)
    rw [n1, ob, n2, ob]
    refine MS_0 (y := R) (v' := v') (w' := w') rfl rfl (fun k q => ?_) (RF_trans hRF (fun k q => ?_)) ⟨⟨0, by omega, ?_, ?_, fun i q => by omega⟩, TB_of ht1 ?_ ?_, n3, RG_of s3 ?_ (fun k q => ?_) ?_ ?_⟩ ?_
    · rw [n4 k (by omega), hUk k (by omega), s4 k (by omega) (by omega), g3 k (by omega)]
    · rw [n5.1 k (by omega) (by omega), hVk k (by omega), s5 k (by omega) (by omega)]
    · rw [n4 1 (by decide), ← hU, up_s]; rfl
    · rw [n5.2 7 (by decide), ← hV, up_s]; rfl
    · rw [n5.1 _ (by decide) (by decide), hVk _ (by decide), s5 _ (by decide) (by decide)]
    · rw [n5.1 _ (by decide) (by decide), hVk _ (by decide), s5 _ (by decide) (by decide)]
    · rw [n4 _ (by decide), hUk _ (by decide)]
    · rw [n4 _ (by omega), hUk _ (by omega)]
    · rw [n5.1 _ (by decide) (by decide), hVk _ (by decide)]
    · rw [n5.2 _ (by decide), hVj _ (by decide)]
    · rw [n5.2 _ (by decide), hVj _ (by decide), s6 _ (by decide)]; exact h8
theorem m_aside (w : gV) : ∃ w', sX6_putAside 1000 w = some w' ∧ (∀ k, k ≠ 85 → w' k = w k) ∧ ∀ j, j < 122 → w' 85 j = w 84 j := by
  have L : ∀ d i w N, i + d = 122 → ∃ w', sX6_putAside_2 1000 (N + 1 + d) w (nI i) = some w' ∧ (∀ k, k ≠ 85 → w' k = w k) ∧ (∀ j, j < i → w' 85 j = w 85 j) ∧ ∀ j, i ≤ j → j < 122 → w' 85 j = w 84 j := by
    intro d
    induction d with
    | zero =>
      intro i w N hi
      have : i = 122 := by omega
      subst this
      unfold sX6_putAside_2
      rw [if_pos (show (122 : Int32) ≤ nI 122 by decide)]
      exact ⟨_, rfl, fun _ _ => rfl, fun _ _ => rfl, fun j q r => by omega⟩
    | succ d ih =>
      intro i w N hi
      obtain ⟨w', g1, g2, g3, g4⟩ := ih (i + 1) (up w 85 i (w 84 i)) N (by omega)
      refine ⟨w', ?_, fun k q => (g2 k q).trans (up_r _ _ _ _ q), fun j q => ?_, fun j q r => ?_⟩
      · rw [← Nat.add_assoc]
        unfold sX6_putAside_2
        rw [if_neg (show ¬ (122 : Int32) ≤ nI i from nI_ge (b := 122) (by omega) (by decide)), if_pos (nI_in (by omega) (by decide)), if_pos (nI_in (by omega) (by decide)), nI_clamp (by omega), ob, nI_1]
        exact g1
      · rw [g3 j (by omega), up_c _ _ _ _ (by omega)]
      · by_cases e : j = i
        · rw [g3 j (by omega), e, up_s]
        · rw [g4 j (by omega) r, up_r _ _ _ _ (by decide)]
  obtain ⟨w', g1, g2, _, g4⟩ := L 122 0 w 877 (by omega)
  exact ⟨w', g1, g2, fun j q => g4 j (by omega) q⟩
theorem m_back (w : gV) : ∃ w', sX6_putBack 1000 w = some w' ∧ (∀ k, k ≠ 84 → w' k = w k) ∧ ∀ j, j < 122 → w' 84 j = w 85 j := by
  have L : ∀ d i w N, i + d = 122 → ∃ w', sX6_putBack_2 1000 (N + 1 + d) w (nI i) = some w' ∧ (∀ k, k ≠ 84 → w' k = w k) ∧ (∀ j, j < i → w' 84 j = w 84 j) ∧ ∀ j, i ≤ j → j < 122 → w' 84 j = w 85 j := by
    intro d
    induction d with
    | zero =>
      intro i w N hi
      have : i = 122 := by omega
      subst this
      unfold sX6_putBack_2
      rw [if_pos (show (122 : Int32) ≤ nI 122 by decide)]
      exact ⟨_, rfl, fun _ _ => rfl, fun _ _ => rfl, fun j q r => by omega⟩
    | succ d ih =>
      intro i w N hi
      obtain ⟨w', g1, g2, g3, g4⟩ := ih (i + 1) (up w 84 i (w 85 i)) N (by omega)
      refine ⟨w', ?_, fun k q => (g2 k q).trans (up_r _ _ _ _ q), fun j q => ?_, fun j q r => ?_⟩
      · rw [← Nat.add_assoc]
        unfold sX6_putBack_2
        rw [if_neg (show ¬ (122 : Int32) ≤ nI i from nI_ge (b := 122) (by omega) (by decide)), if_pos (nI_in (by omega) (by decide)), if_pos (nI_in (by omega) (by decide)), nI_clamp (by omega), ob, nI_1]
        exact g1
      · rw [g3 j (by omega), up_c _ _ _ _ (by omega)]
      · by_cases e : j = i
        · rw [g3 j (by omega), e, up_s]
        · rw [g4 j (by omega) r, up_r _ _ _ _ (by decide)]
  obtain ⟨w', g1, g2, _, g4⟩ := L 122 0 w 877 (by omega)
  exact ⟨w', g1, g2, fun j q => g4 j (by omega) q⟩
theorem t_ifEntered {v w : gV} (h : INV v w) : MS v w 0 0 (tX5_ifEntered 1000 v) (sX6_ifEntered 1000 w) := by
  have h1 : INV v (up w 81 8 0) := INV_81 h (by decide) (by decide) _
  obtain ⟨⟨l, hB⟩, ht, hS, hR⟩ := id h1
  obtain ⟨ask, ha, h55, hq⟩ := SR_ask hS
  obtain ⟨b, v1, w1, g1, g2, g3, g4, g5, g6⟩ := b_read hB ht ha h55 hq
  have hI1 : INV v1 w1 := INV_congr h1 (fun k q => g3 k (by omega)) (fun k q => g5.1 k (by omega) (by omega)) (g5.2 5 (by decide) (by decide)) (g5.2 7 (by decide) (by decide))
  have hRF : RF w w1 := RF_trans (RF_81 w 8 0) (fun k q => g5.1 k (by omega) (by omega))
  have h8 : w1 81 8 = 0 := by rw [g5.2 8 (by decide) (by decide), up_s]
  unfold tX5_ifEntered sX6_ifEntered
  rw [g1, ob, ob, g2, ob]
  dsimp only
  cases b with
  | false =>
    rw [if_pos bIf_eq, if_pos bIf_eq, m_thr, ob]
    exact ⟨_, _, _, _, rfl, rfl, fun k q => g3 k (by omega), RF_trans hRF (RF_81 _ _ _), INV_81 hI1 (by decide) (by decide) _, Or.inl ⟨rfl, up_s w1 81 8 1⟩⟩
  | true =>
    obtain ⟨m, hm, h10, hF, hask⟩ := g6 rfl
    rw [if_neg bIt_ne, if_neg bIt_ne]
    obtain ⟨⟨l1, hB1⟩, ht1, hS1, hR1⟩ := id hI1
    obtain ⟨U, s1, s2, s3⟩ := k_cpyS (a := 17) (b := 8) (by omega) v1 (SR_5 hS1)
    obtain ⟨V, a1, a2, a3⟩ := m_aside w1
    have e84 : V 84 = w1 84 := a2 84 (by decide)
    have e88 : V 88 = w1 88 := a2 88 (by decide)
    have eW : Wm V m = Wm w1 m := by funext p; unfold Wm; rw [e88]
    have e55 : w1 84 55 = nI ask := by rw [g5.1 84 (by decide) (by decide)]; exact h55
    obtain ⟨R, v', w', n1, n2, n3, n4, n5, _⟩ := b_entered (v := U) (w := V) (a := 17) (m := m) (by decide) (by
      rw [e84]
      exact SR_cpy hS1 s3) hm (by rw [a2 81 (by decide)]; exact h10) (by
      rw [eW]
      exact Fin_congr hF (s2 4 (by decide)) (s2 5 (by decide)) (s2 6 (by decide))) (fun j q => by rw [s2 7 (by decide)]; exact g4 j q) (fun q => by
      rw [s2 4 (by decide)] at q
      rw [e84, e55, hask q]
      rfl)
    obtain ⟨X, p1, p2, p3⟩ := m_back w'
    rw [s1, ob, n1, ob, a1, ob, n2, ob, p1, ob]
    have hk : ∀ k, k ≠ 84 → k ≠ 85 → k ≠ 81 → X k = w1 k := fun k q1 q2 q3 => by rw [p2 k q1, n5.1 k q3 q1, a2 k q2]
    have hj : ∀ j, j < 12 → X 81 j = w1 81 j := fun j q => by rw [p2 81 (by decide), n5.2 j q, a2 81 (by decide)]
    refine MS_0 (y := R) (v' := v') (w' := X) rfl rfl (fun k q => ?_) (RF_trans hRF (fun k q => hk k (by omega) (by omega) (by omega))) (INV_cong2 hI1 (fun k q => ?_) (fun k q => hk k (by omega) (by omega) (by omega)) (fun j q => ?_) (hj 5 (by decide)) (hj 7 (by decide))) (by rw [hj 8 (by decide)]; exact h8)
    · rw [n4 k (by omega), s2 k (by omega), g3 k (by omega)]
    · rw [n4 k (by omega), s2 k (by omega)]
    · rw [p3 j q, n5.1 85 (by decide) (by decide), a3 j q]
