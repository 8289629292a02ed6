/-! what class and reference answer to one call, side by side -/
theorem w0 (n lo hi : Int32) : (sp_X_isWithin n lo hi = 0) ↔ (n.toInt < lo.toInt ∨ hi.toInt < n.toInt) := by
  unfold sp_X_isWithin
  rw [← Int32.lt_iff_toInt_lt, ← Int32.lt_iff_toInt_lt]
  by_cases h1 : n < lo
  · simp [h1]
  · by_cases h2 : hi < n
    · simp [h1, h2]
    · simp [h1, h2]
theorem p0 (n : Int32) : (sp_M_isProvince n = 0) ↔ (n.toInt < 0 ∨ 3 < n.toInt) := w0 n 0 3
theorem l0 (n : Int32) : (sp_M_isLeg n = 0) ↔ (n.toInt < 0 ∨ 7 < n.toInt) := w0 n 0 7
theorem r0 (n : Int32) : (sp_T_hasRoomFor n = 0) ↔ 250 < n.toInt := by
  unfold sp_T_hasRoomFor
  rw [show (250 : Int) = (250 : Int32).toInt from rfl, ← Int32.lt_iff_toInt_lt]
  by_cases h : (250 : Int32) < n <;> simp [h]
theorem ti0 : (0 : Int32).toInt = 0 := rfl
theorem ti1 : (1 : Int32).toInt = 1 := rfl
theorem ti2 : (2 : Int32).toInt = 2 := rfl
theorem ti3 : (3 : Int32).toInt = 3 := rfl
theorem ti7 : (7 : Int32).toInt = 7 := rfl
theorem ti8 : (8 : Int32).toInt = 8 := rfl
theorem ti12 : (12 : Int32).toInt = 12 := rfl
theorem ti24 : (24 : Int32).toInt = 24 := rfl
theorem ti99 : (99 : Int32).toInt = 99 := rfl
theorem ti250 : (250 : Int32).toInt = 250 := rfl
theorem ti255 : (255 : Int32).toInt = 255 := rfl
theorem eq_candidate (c1 : Int32) : sp_X_candidate c1 = sp_M_candidate c1 := by
  simp only [sp_X_candidate, sp_M_candidate, w0, p0, ti0, ti3]
theorem eq_passed (c1 : Int32) : sp_X_passed c1 = sp_M_passed c1 := by
  simp only [sp_X_passed, sp_M_passed, w0, p0, ti0, ti3]
theorem eq_count (c1 : Int32) : sp_X_count c1 = sp_M_count c1 := rfl
theorem eq_sees (c1 : Int32) : (-1 : Int32) = sp_M_sees c1 := by
  unfold sp_M_sees
  split
  · rfl
  · split <;> rfl
theorem eq_opens (c1 : Int32) : sp_X_opens c1 = sp_M_opens c1 := by
  simp only [sp_X_opens, sp_M_opens, w0, Int32.lt_iff_toInt_lt, Int32.le_iff_toInt_le, ti0, ti255]
  repeat' split
  all_goals first | rfl | (exfalso; omega)
theorem eq_form (c1 : Int32) : sp_X_form c1 = sp_M_form c1 := by
  simp only [sp_X_form, sp_M_form, w0, Int32.lt_iff_toInt_lt, Int32.le_iff_toInt_le, ti1, ti8]
  repeat' split
  all_goals first | rfl | (exfalso; omega)
theorem eq_apart (c1 : Int32) : sp_X_apart c1 = sp_M_apart c1 := by
  simp only [sp_X_apart, sp_M_apart, w0, Int32.lt_iff_toInt_lt, Int32.le_iff_toInt_le, ti0, ti99]
  repeat' split
  all_goals first | rfl | (exfalso; omega)
theorem eq_quota (c1 c2 : Int32) : sp_X_quota c1 c2 = sp_M_quota c1 c2 := by
  simp only [sp_X_quota, sp_M_quota, w0, p0, Int32.lt_iff_toInt_lt, Int32.le_iff_toInt_le, ti0, ti3, ti24]
  repeat' split
  all_goals first | rfl | (exfalso; omega)
theorem eq_rule (c1 c2 : Int32) : sp_X_rule c1 c2 = sp_M_rule c1 c2 := by
  simp only [sp_X_rule, sp_M_rule, w0, Int32.lt_iff_toInt_lt, Int32.le_iff_toInt_le, ti0, ti1, ti2]
  repeat' split
  all_goals first | rfl | (exfalso; omega)
theorem eq_reader (c1 c2 : Int32) : sp_X_reader c1 c2 = sp_M_reader c1 c2 := by
  simp only [sp_X_reader, sp_M_reader, w0, p0, Int32.lt_iff_toInt_lt, Int32.le_iff_toInt_le, ti0, ti3]
  repeat' split
  all_goals first | rfl | (exfalso; omega)
theorem eq_parallel (c1 c2 : Int32) : sp_X_parallel c1 c2 = sp_M_parallel c1 c2 := by
  simp only [sp_X_parallel, sp_M_parallel, w0, l0, ti0, ti7]
theorem eq_measure (c1 c2 c3 : Int32) : sp_X_measure c1 c2 c3 = sp_M_measure c1 c2 c3 := by
  simp only [sp_X_measure, sp_M_measure, w0, l0, Int32.lt_iff_toInt_lt, Int32.le_iff_toInt_le, ti0, ti1, ti7, ti12]
  repeat' split
  all_goals first | rfl | (exfalso; omega)
theorem eq_feed (c2 : Int32) : sp_X_feed c2 = sp_M_feed c2 := by
  simp only [sp_X_feed, sp_M_feed, w0, r0, Int32.zero_add, Int32.lt_iff_toInt_lt, Int32.le_iff_toInt_le, ti1, ti8, ti250]
  repeat' split
  all_goals first | rfl | (exfalso; omega)
-- words
def nw : Nat → Nat → Int32
  | 0, _ => 1
  | j + 1, k => if k = 0 then 1 else if sp_X_isLetter (nI (k % 256)) = 0 then 0 else nw j (k / 256)
theorem lN_0 {k : Nat} (hk : k < 2 ^ 64) : (lN k = 0) ↔ k = 0 := by
  constructor
  · intro h
    have h2 := congrArg (fun x : Int64 => x.toBitVec.toNat) h
    simp only [wb_tn hk] at h2
    simpa using h2
  · rintro rfl
    rfl
theorem cmp0 {k : Nat} (hk : k < 2 ^ 64) : (lg_cmp (lN k) 0 = 0) ↔ k = 0 := by
  rw [← lN_0 hk]
  unfold lg_cmp
  by_cases h1 : (0 : Int64) < lN k
  · rw [if_pos h1]
    constructor
    · intro h
      exact absurd h (by decide)
    · intro h
      rw [h] at h1
      exact (Int64.lt_irrefl h1).elim
  · rw [if_neg h1]
    by_cases h2 : lN k = 0
    · rw [if_pos h2]
      simp [h2]
    · rw [if_neg h2]
      constructor
      · intro h
        exact absurd h (by decide)
      · intro h
        exact absurd h h2
theorem wd_nw : ∀ (j k : Nat), k < 2 ^ 64 → wd j (lN k) = nw j k
  | 0, _, _ => rfl
  | j + 1, k, hk => by
    have e1 : ((lN k &&& 255).toInt32) = nI (k % 256) := by
      rw [show (255 : Int64) = lN (2 ^ 8 - 1) from rfl, wb_mask hk (by decide)]
      exact lN_i _
    have e2 : ((lN k).toUInt64 >>> ((8 : Int32).toInt64.toUInt64 &&& Int64.toUInt64 63)).toInt64 = lN (k / 256) := wb_shr (k := 8) hk (by decide)
    rw [wd, nw, e1, e2, wd_nw j (k / 256) (by omega)]
    by_cases h : k = 0
    · rw [if_pos ((cmp0 hk).mpr h), if_pos h]
    · rw [if_neg (fun q => h ((cmp0 hk).mp q)), if_neg h]
theorem aw_nw : ∀ (j k : Nat), k < 2 ^ 63 → aw j (lN k) = nw j k
  | 0, _, _ => rfl
  | j + 1, k, hk => by
    have e1 : ((lN k - lN k / 256 * 256).toInt32) = nI (k % 256) := by
      rw [show (256 : Int64) = lN 256 from rfl, pk_lRem hk (by decide) (by decide)]
      exact lN_i _
    have e2 : lN k / 256 = lN (k / 256) := pk_lDiv hk (by decide) (by decide)
    rw [aw, nw, e1, e2, aw_nw j (k / 256) (by omega)]
    show (if lg_cmp (lN k) 0 = 0 then 1 else if sp_X_isLetter (nI (k % 256)) = 0 then 0 else nw j (k / 256)) = _
    by_cases h : k = 0
    · rw [if_pos ((cmp0 (by omega)).mpr h), if_pos h]
    · rw [if_neg (fun q => h ((cmp0 (by omega)).mp q)), if_neg h]
theorem nw_top : ∀ (j k : Nat), 128 * 256 ^ j ≤ k → k < 256 ^ (j + 1) → nw (j + 1) k = 0
  | 0, k, h1, h2 => by
    rw [nw, if_neg (by omega)]
    have h3 : k % 256 = k := Nat.mod_eq_of_lt (by omega)
    rw [h3]
    have h4 : sp_X_isLetter (nI k) = 0 := by
      unfold sp_X_isLetter
      have h5 : (122 : Int32) < nI k := (show nI 122 < nI k from nI_lt (by omega) (by omega))
      by_cases h6 : nI k < 97
      · rw [if_pos h6]
      · rw [if_neg h6, if_pos h5]
    rw [if_pos h4]
  | j + 1, k, h1, h2 => by
    have hp : 0 < 256 ^ (j + 1) := Nat.pow_pos (by decide)
    rw [nw, if_neg (by omega)]
    by_cases h : sp_X_isLetter (nI (k % 256)) = 0
    · rw [if_pos h]
    · rw [if_neg h]
      refine nw_top j (k / 256) ?_ ?_
      · rw [Nat.le_div_iff_mul_le (by decide), Nat.mul_assoc, ← Nat.pow_succ]
        exact h1
      · rw [Nat.div_lt_iff_lt_mul (by decide), ← Nat.pow_succ]
        exact h2
theorem eq_isWord (w : Int64) : sp_X_isWord w = sp_M_asWord w := by
  obtain ⟨k, hk, rfl⟩ := wb_of w
  unfold sp_X_isWord sp_M_asWord
  by_cases h0 : k = 0
  · subst h0
    rfl
  · rw [if_neg (fun q => h0 ((cmp0 hk).mp q)), wd_nw 8 k hk]
    by_cases h1 : k < 2 ^ 63
    · have h2 : 0 < lg_cmp (lN k) 0 := by
        unfold lg_cmp
        rw [if_pos (show lN k > 0 from (pk_lLT (a := 0) (by decide) h1).mpr (by omega))]
        decide
      rw [if_pos h2, aw_nw 8 k h1]
    · rw [nw_top 7 k (by omega) (by omega)]
      have h2 : ¬ 0 < lg_cmp (lN k) 0 := by
        intro q
        have h3 := pos_of q
        obtain ⟨j, hj, ej⟩ := pk_lOf (x := lN k) (fun q => Int64.lt_irrefl (Int64.lt_trans q h3))
        have h4 := congrArg (fun x : Int64 => x.toBitVec.toNat) ej
        simp only [wb_tn hk, wb_tn (show j < 2 ^ 64 by omega)] at h4
        omega
      rw [if_neg h2]
theorem eq_bar (c1 : Int64) : sp_X_bar c1 = sp_M_bar c1 := by
  unfold sp_X_bar sp_M_bar
  rw [eq_isWord]
