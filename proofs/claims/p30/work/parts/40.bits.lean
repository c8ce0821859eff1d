/-! bits of an int, sets as masks, how many, the lowest -/
def bt (x : Int32) (k : Nat) : Bool := x.toBitVec.getLsbD k
theorem bt_ext {x y : Int32} (h : ∀ k, k < 32 → bt x k = bt y k) : x = y := Int32.toBitVec_inj.mp (BitVec.eq_of_getLsbD_eq fun i hi => h i hi)
theorem bt_and (x y : Int32) (k : Nat) : bt (x &&& y) k = (bt x k && bt y k) := by simp [bt]
theorem bt_or (x y : Int32) (k : Nat) : bt (x ||| y) k = (bt x k || bt y k) := by simp [bt]
theorem bt_xor (x y : Int32) (k : Nat) : bt (x ^^^ y) k = (bt x k ^^ bt y k) := by simp [bt]
theorem bt_0 (k : Nat) : bt 0 k = false := by simp [bt]
theorem bt_m1 {k : Nat} (h : k < 32) : bt (-1) k = true := by
  have e : (-1 : Int32).toBitVec = BitVec.allOnes 32 := by decide
  unfold bt
  rw [e, BitVec.getLsbD_allOnes]
  simp [h]
theorem bt_nI (n k : Nat) : bt (nI n) k = (decide (k < 32) && n.testBit k) := by
  unfold bt
  rw [show (nI n).toBitVec = BitVec.ofNat 32 n from rfl, BitVec.getLsbD_ofNat]
def pw (k : Nat) : Int32 := (1 : Int32) <<< (nI k &&& 31)
theorem pw_e (k : Nat) : (1 : Int32) <<< (nI k &&& 31) = pw k := rfl
theorem bt_pw {k : Nat} (hk : k < 32) (j : Nat) : bt (pw k) j = decide (j = k) := by
  have h : (pw k).toBitVec = BitVec.twoPow 32 k := (show ∀ k, k < 32 → (pw k).toBitVec = BitVec.twoPow 32 k by decide +kernel) k hk
  unfold bt
  rw [h, BitVec.getLsbD_twoPow]
  by_cases e : j = k
  · subst e; simp [hk]
  · simp [e, fun h => e (Eq.symm h)]
    intro _ h
    exact e h.symm
/-- the set of the k < n that P holds of -/
def mk : Nat → (Nat → Bool) → Int32
  | 0, _ => 0
  | n + 1, P => if P n = true then mk n P ||| pw n else mk n P
theorem bt_mk {n : Nat} (hn : n ≤ 32) (P : Nat → Bool) (j : Nat) : bt (mk n P) j = (decide (j < n) && P j) := by
  induction n with
  | zero => simp [mk, bt_0]
  | succ n ih =>
    have ih := ih (by omega)
    unfold mk
    by_cases h : P n = true
    · rw [if_pos h, bt_or, ih, bt_pw (by omega)]
      by_cases e : j = n
      · subst e; simp [h]
      · have e2 : (decide (j < n + 1)) = decide (j < n) := by
          rw [decide_eq_decide]; omega
        simp [e, e2]
    · rw [if_neg h, ih]
      by_cases e : j = n
      · subst e; simp [h]
      · have e2 : (decide (j < n + 1)) = decide (j < n) := by
          rw [decide_eq_decide]; omega
        rw [e2]
theorem mk_congr {n : Nat} {P Q : Nat → Bool} (h : ∀ k, k < n → P k = Q k) : mk n P = mk n Q := by
  induction n with
  | zero => rfl
  | succ n ih =>
    unfold mk
    rw [ih (fun k hk => h k (by omega)), h n (by omega)]
theorem mk_and {n : Nat} (hn : n ≤ 32) (P Q : Nat → Bool) : mk n P &&& mk n Q = mk n (fun k => P k && Q k) := by
  refine bt_ext fun k _ => ?_
  rw [bt_and, bt_mk hn, bt_mk hn, bt_mk hn]
  cases decide (k < n) <;> simp
theorem mk_or {n : Nat} (hn : n ≤ 32) (P Q : Nat → Bool) : mk n P ||| mk n Q = mk n (fun k => P k || Q k) := by
  refine bt_ext fun k _ => ?_
  rw [bt_or, bt_mk hn, bt_mk hn, bt_mk hn]
  cases decide (k < n) <;> simp
theorem mk_andn {n : Nat} (hn : n ≤ 32) (P Q : Nat → Bool) : mk n P &&& (mk n Q ^^^ (-1)) = mk n (fun k => P k && !Q k) := by
  refine bt_ext fun k hk => ?_
  rw [bt_and, bt_xor, bt_m1 hk, bt_mk hn, bt_mk hn, bt_mk hn]
  cases decide (k < n) <;> cases P k <;> cases Q k <;> rfl
theorem mk_orp {n k : Nat} (hn : n ≤ 32) (hk : k < n) (P : Nat → Bool) : mk n P ||| pw k = mk n (fun j => P j || decide (j = k)) := by
  refine bt_ext fun j _ => ?_
  rw [bt_or, bt_mk hn, bt_mk hn, bt_pw (by omega)]
  by_cases e : j = k
  · subst e; simp [hk]
  · simp [e]
theorem mk_delp {n k : Nat} (hn : n ≤ 32) (hk : k < n) (P : Nat → Bool) : mk n P &&& (pw k ^^^ (-1)) = mk n (fun j => P j && !decide (j = k)) := by
  refine bt_ext fun j hj => ?_
  rw [bt_and, bt_xor, bt_m1 hj, bt_mk hn, bt_mk hn, bt_pw (by omega)]
  by_cases e : j = k
  · subst e; simp [hk]
  · simp [e]
theorem mk_0 {n : Nat} (hn : n ≤ 32) {P : Nat → Bool} : mk n P = 0 ↔ ∀ k, k < n → P k = false := by
  constructor
  · intro h k hk
    have := bt_mk hn P k
    rw [h, bt_0] at this
    simpa [hk] using this.symm
  · intro h
    refine bt_ext fun k _ => ?_
    rw [bt_mk hn, bt_0]
    by_cases hk : k < n
    · simp [h k hk]
    · simp [hk]
theorem mk_single {n k : Nat} (hn : n ≤ 32) (hk : k < n) : mk n (fun j => decide (j = k)) = pw k := by
  refine bt_ext fun j _ => ?_
  rw [bt_mk hn, bt_pw (by omega)]
  by_cases e : j = k
  · subst e; simp [hk]
  · simp [e]
theorem and_pw {x : Int32} {k : Nat} (hk : k < 32) : (x &&& pw k = 0) ↔ bt x k = false := by
  constructor
  · intro h
    have : bt (x &&& pw k) k = bt 0 k := by rw [h]
    rw [bt_and, bt_pw hk, bt_0] at this
    simpa using this
  · intro h
    refine bt_ext fun j _ => ?_
    rw [bt_and, bt_pw hk, bt_0]
    by_cases e : j = k
    · subst e; simp [h]
    · simp [e]
theorem pw_and {x : Int32} {k : Nat} (hk : k < 32) : (pw k &&& x = 0) ↔ bt x k = false := by
  rw [Int32.and_comm]; exact and_pw hk
theorem mk_tst {n k : Nat} (hn : n ≤ 32) (hk : k < n) (P : Nat → Bool) : (mk n P &&& pw k = 0) ↔ P k = false := by
  rw [and_pw (by omega), bt_mk hn]
  simp [hk]
/-- the number behind a mask -/
def mkN : Nat → (Nat → Bool) → Nat
  | 0, _ => 0
  | n + 1, P => mkN n P + if P n = true then 2 ^ n else 0
theorem mkN_lt (n : Nat) (P : Nat → Bool) : mkN n P < 2 ^ n := by
  induction n with
  | zero => simp [mkN]
  | succ n ih =>
    unfold mkN
    rw [Nat.pow_succ]
    split <;> omega
theorem mk_nI {n : Nat} (hn : n ≤ 31) (P : Nat → Bool) : mk n P = nI (mkN n P) := by
  induction n with
  | zero => rfl
  | succ n ih =>
    have ih := ih (by omega)
    unfold mk mkN
    by_cases h : P n = true
    · rw [if_pos h, if_pos h, ih]
      refine bt_ext fun k hk => ?_
      rw [bt_or, bt_nI, bt_nI, bt_pw (by omega), Nat.add_comm]
      have e := Nat.two_pow_add_eq_or_of_lt (mkN_lt n P) 1
      rw [Nat.mul_one] at e
      rw [e, Nat.testBit_or, Nat.testBit_two_pow]
      simp only [hk, decide_true, Bool.true_and]
      rw [Bool.or_comm]
      congr 1
      rw [decide_eq_decide]
      exact eq_comm
    · rw [if_neg h, if_neg h, ih]
      rfl
theorem mkN_bit {n : Nat} (hn : n ≤ 31) (P : Nat → Bool) {k : Nat} (hk : k < 32) : (mkN n P).testBit k = (decide (k < n) && P k) := by
  have h := bt_mk (by omega : n ≤ 32) P k
  rw [mk_nI hn, bt_nI] at h
  simpa [hk] using h
/-- how many of the k < n -/
def cn : Nat → (Nat → Bool) → Nat
  | 0, _ => 0
  | n + 1, P => cn n P + if P n = true then 1 else 0
theorem cn_congr {n : Nat} {P Q : Nat → Bool} (h : ∀ k, k < n → P k = Q k) : cn n P = cn n Q := by
  induction n with
  | zero => rfl
  | succ n ih =>
    unfold cn
    rw [ih (fun k hk => h k (by omega)), h n (by omega)]
theorem cn_le (n : Nat) (P : Nat → Bool) : cn n P ≤ n := by
  induction n with
  | zero => simp [cn]
  | succ n ih =>
    unfold cn
    split <;> omega
theorem cn_ext {n m : Nat} (h : n ≤ m) {P : Nat → Bool} (hz : ∀ k, n ≤ k → P k = false) : cn m P = cn n P := by
  induction m with
  | zero =>
    have : n = 0 := by omega
    subst this; rfl
  | succ m ih =>
    by_cases e : n = m + 1
    · rw [e]
    · show cn m P + (if P m = true then 1 else 0) = cn n P
      rw [ih (by omega), hz m (by omega)]
      simp
def popN (x : Nat) : Nat := cn 12 (fun k => x.testBit k)
theorem popN_mk {n : Nat} (hn : n ≤ 12) (P : Nat → Bool) : popN (mkN n P) = cn n P := by
  unfold popN
  rw [cn_congr (Q := fun k => decide (k < n) && P k) (fun k hk => mkN_bit (by omega) P (by omega))]
  rw [cn_ext hn (fun k hk => by simp [show ¬ k < n by omega])]
  exact cn_congr fun k hk => by simp [hk]
theorem mkN_12 {n : Nat} (hn : n ≤ 12) (P : Nat → Bool) : mkN n P < 4096 := Nat.lt_of_lt_of_le (mkN_lt n P) (Nat.le_trans (Nat.pow_le_pow_right (by decide) hn) (by decide))
set_option maxRecDepth 100000 in
theorem bitC_tab : ∀ x, x < 4096 → sJ6_bitCount_0f7a4 (nI x) = some (nI (popN x)) := fun x hx => co_dec (N := 4096) (P := fun x => sJ6_bitCount_0f7a4 (nI x) = some (nI (popN x))) (by decide +kernel) hx
theorem bitC {n : Nat} (hn : n ≤ 12) (P : Nat → Bool) : sJ6_bitCount_0f7a4 (mk n P) = some (nI (cn n P)) := by
  rw [mk_nI (by omega), bitC_tab _ (mkN_12 hn P), popN_mk hn]
theorem mk_pos {n : Nat} (hn : n ≤ 12) (P : Nat → Bool) : 0 ≤ mk n P := by
  rw [mk_nI (by omega)]
  exact nI_pos' (Nat.lt_of_lt_of_le (mkN_12 hn P) (by decide))
theorem mk_nlt {n : Nat} (hn : n ≤ 12) (P : Nat → Bool) : ¬ mk n P < 0 := by
  rw [mk_nI (by omega)]
  exact nI_pos (Nat.lt_of_lt_of_le (mkN_12 hn P) (by decide))
theorem cn_0 {n : Nat} {P : Nat → Bool} : cn n P = 0 ↔ ∀ k, k < n → P k = false := by
  induction n with
  | zero => simp [cn]
  | succ n ih =>
    unfold cn
    constructor
    · intro h k hk
      by_cases e : k = n
      · subst e
        by_cases z : P k = true
        · rw [if_pos z] at h; omega
        · simpa using z
      · exact ih.mp (by omega) k (by omega)
    · intro h
      rw [ih.mpr (fun k hk => h k (by omega)), h n (by omega)]
      simp
/-- k is the lowest that P holds of, below n -/
def isLow (n : Nat) (P : Nat → Bool) (k : Nat) : Prop := k < n ∧ P k = true ∧ ∀ j, j < k → P j = false
theorem low_ex {n : Nat} {P : Nat → Bool} (h : ¬ ∀ k, k < n → P k = false) : ∃ k, isLow n P k := by
  have h2 : ∃ k, k < n ∧ P k = true := by
    refine Classical.byContradiction fun q => h fun k hk => ?_
    cases hz : P k with
    | false => rfl
    | true => exact absurd ⟨k, hk, hz⟩ q
  obtain ⟨k, ⟨a, b⟩, c⟩ := pk_least (fun k => k < n ∧ P k = true) h2
  refine ⟨k, a, b, fun j hj => ?_⟩
  cases hz : P j with
  | false => rfl
  | true => exact absurd ⟨by omega, hz⟩ (c j hj)
theorem cn_1 {n k : Nat} {P : Nat → Bool} (h : cn n P = 1) (hk : k < n) (hP : P k = true) : ∀ j, j < n → (P j = true ↔ j = k) := by
  induction n with
  | zero => omega
  | succ n ih =>
    unfold cn at h
    intro j hj
    by_cases z : P n = true
    · rw [if_pos z] at h
      have h0 := cn_0.mp (by omega : cn n P = 0)
      have hkn : k = n := by
        refine Classical.byContradiction fun q => ?_
        have := h0 k (by omega)
        rw [hP] at this
        cases this
      subst hkn
      constructor
      · intro hz
        refine Classical.byContradiction fun q => ?_
        have := h0 j (by omega)
        rw [hz] at this
        cases this
      · intro e; rw [e]; exact hP
    · rw [if_neg z] at h
      have hkn : k ≠ n := fun e => z (by rw [← e]; exact hP)
      by_cases e : j = n
      · subst e
        constructor
        · intro hz; exact absurd hz z
        · intro q; exact absurd q.symm hkn
      · exact ih (by omega) (by omega) j (by omega)
