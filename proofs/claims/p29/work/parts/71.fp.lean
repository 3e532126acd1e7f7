/-! A SHARE LIES BETWEEN 0 AND 1 -/
section
variable {a b : UInt64} {A B : Nat}
theorem fp_parts (ha : Jvm.FP.Core.DInt (A : Int) a) : ∃ s c q, Jvm.FP.Core.val64 a = .fin s c q ∧ Jvm.FP.Core.b64.qmin ≤ q ∧ c * 2 ^ (q - Jvm.FP.Core.b64.qmin).toNat = A * 2 ^ (-Jvm.FP.Core.b64.qmin).toNat ∧ (0 < A → s = false) := by
  have hz := Jvm.FP.Core.whole_zval Jvm.FP.Core.good_b64 (Jvm.FP.Core.val64_fits a) ha
  have hf := Jvm.FP.Core.val64_fits a
  have hw : Jvm.FP.Core.Whole (A : Int) (Jvm.FP.Core.val64 a) := ha
  cases e : Jvm.FP.Core.val64 a with
  | nan => rw [e] at hw; exact hw.elim
  | inf s => rw [e] at hw; exact hw.elim
  | fin s c q =>
    rw [e] at hz hf
    have hz : Jvm.FP.Core.signed s (c * 2 ^ (q - Jvm.FP.Core.b64.qmin).toNat) = (A : Int) * ((2 ^ (-Jvm.FP.Core.b64.qmin).toNat : Nat) : Int) := hz
    have hK := Nat.two_pow_pos (-Jvm.FP.Core.b64.qmin).toNat
    refine ⟨s, c, q, rfl, hf.2.1, ?_, fun hA => ?_⟩
    · generalize c * 2 ^ (q - Jvm.FP.Core.b64.qmin).toNat = x at *
      rw [← Int.natCast_mul] at hz
      generalize A * 2 ^ (-Jvm.FP.Core.b64.qmin).toNat = y at *
      unfold Jvm.FP.Core.signed at hz
      cases s with
      | true => rw [if_pos rfl] at hz; omega
      | false => rw [if_neg (by simp)] at hz; omega
    · have hy : 0 < A * 2 ^ (-Jvm.FP.Core.b64.qmin).toNat := Nat.mul_pos hA hK
      generalize c * 2 ^ (q - Jvm.FP.Core.b64.qmin).toNat = x at *
      rw [← Int.natCast_mul] at hz
      generalize A * 2 ^ (-Jvm.FP.Core.b64.qmin).toNat = y at *
      unfold Jvm.FP.Core.signed at hz
      cases s with
      | true => rw [if_pos rfl] at hz; omega
      | false => rfl
theorem fp_01 (ha : Jvm.FP.Core.DInt (A : Int) a) (hb : Jvm.FP.Core.DInt (B : Int) b) (hB : 0 < B) (h : A ≤ B) : Jvm.FP.Core.val64 (Jvm.FP.Core.ddiv a b) ≠ .nan ∧ 0 ≤ Jvm.FP.Core.zval Jvm.FP.Core.b64 (Jvm.FP.Core.val64 (Jvm.FP.Core.ddiv a b)) ∧ Jvm.FP.Core.zval Jvm.FP.Core.b64 (Jvm.FP.Core.val64 (Jvm.FP.Core.ddiv a b)) ≤ Jvm.FP.Core.zval Jvm.FP.Core.b64 (Jvm.FP.Core.val64 Jvm.FP.Core.dconst1) := by
  obtain ⟨s, c, q, ea, q1, q2, q3⟩ := fp_parts ha
  obtain ⟨t, d, r, eb, r1, r2, r3⟩ := fp_parts hb
  have ht := r3 hB
  subst ht
  have hK := Nat.two_pow_pos (-Jvm.FP.Core.b64.qmin).toNat
  have hd : 0 < d := by
    rcases Nat.eq_zero_or_pos d with z | z
    · rw [z, Nat.zero_mul] at r2
      have := Nat.mul_pos hB hK
      omega
    · exact z
  have eq : Jvm.FP.Core.val64 (Jvm.FP.Core.ddiv a b) = Jvm.FP.Core.roundRatio Jvm.FP.Core.b64 (s != false) c d (q - r) := by
    rw [Jvm.FP.Core.val64_ddiv, ea, eb]
    show (if d = 0 then _ else _) = _
    rw [if_neg (by omega)]
  have f1 := Jvm.FP.Core.val64_fits Jvm.FP.Core.dconst1
  have o1 : Jvm.FP.Core.val64 Jvm.FP.Core.dconst1 ≠ .nan := by rw [Jvm.FP.Core.val64_dconst1]; intro z; cases z
  have z1 : Jvm.FP.Core.zmag Jvm.FP.Core.b64 (Jvm.FP.Core.val64 Jvm.FP.Core.dconst1) = 2 ^ (-Jvm.FP.Core.b64.qmin).toNat := by
    rw [Jvm.FP.Core.val64_dconst1]
    decide +kernel
  have s1 : Jvm.FP.Core.sgn (Jvm.FP.Core.val64 Jvm.FP.Core.dconst1) = false := by rw [Jvm.FP.Core.val64_dconst1]; rfl
  have qn := Jvm.FP.Core.qmin_neg Jvm.FP.Core.good_b64
  have le := Jvm.FP.Core.zmag_roundRatio_le (f := Jvm.FP.Core.b64) (s := s != false) (A := c) (B := d) (e := q - r) (e0 := Jvm.FP.Core.b64.qmin - (r - Jvm.FP.Core.b64.qmin)) Jvm.FP.Core.good_b64 hd f1 o1 (by omega) (by omega) (by
    rw [z1]
    unfold Jvm.FP.Core.inUnits
    rw [show (q - r - (Jvm.FP.Core.b64.qmin - (r - Jvm.FP.Core.b64.qmin))).toNat = (q - Jvm.FP.Core.b64.qmin).toNat + (-Jvm.FP.Core.b64.qmin).toNat by omega, Nat.pow_add, ← Nat.mul_assoc, q2]
    rw [show (Jvm.FP.Core.b64.qmin - (Jvm.FP.Core.b64.qmin - (r - Jvm.FP.Core.b64.qmin))).toNat = (r - Jvm.FP.Core.b64.qmin).toNat by omega]
    generalize 2 ^ (-Jvm.FP.Core.b64.qmin).toNat = K at *
    generalize 2 ^ (r - Jvm.FP.Core.b64.qmin).toNat = R at *
    have e9 : K * R * d = d * R * K := by ac_rfl
    rw [e9, r2]
    exact Nat.mul_le_mul_right _ (Nat.mul_le_mul_right _ h))
  have nn := Jvm.FP.Core.roundRatio_ne_nan Jvm.FP.Core.b64 (s != false) c d (q - r)
  have sg := Jvm.FP.Core.sgn_roundRatio Jvm.FP.Core.b64 (s != false) c d (q - r)
  rw [eq]
  refine ⟨nn, ?_⟩
  unfold Jvm.FP.Core.zval
  rw [sg, s1]
  rcases Nat.eq_zero_or_pos A with z | z
  · have c0 : c = 0 := by
      rw [z, Nat.zero_mul] at q2
      rcases Nat.mul_eq_zero.mp q2 with y | y
      · exact y
      · have := Nat.two_pow_pos (q - Jvm.FP.Core.b64.qmin).toNat
        omega
    have e0 : Jvm.FP.Core.zmag Jvm.FP.Core.b64 (Jvm.FP.Core.roundRatio Jvm.FP.Core.b64 (s != false) c d (q - r)) = 0 := by
      rw [c0]
      unfold Jvm.FP.Core.roundRatio
      rw [if_pos rfl]
      show Jvm.FP.Core.inUnits 0 _ _ = 0
      unfold Jvm.FP.Core.inUnits
      rw [Nat.zero_mul]
    rw [e0]
    unfold Jvm.FP.Core.signed
    constructor
    · split <;> omega
    · rw [if_neg (show ¬ false = true by simp)]
      split <;> omega
  · have hs := q3 z
    subst hs
    unfold Jvm.FP.Core.signed
    rw [if_neg (show ¬ (false != false) = true by simp), if_neg (show ¬ false = true by simp)]
    omega
theorem fil_01 {T O : Nat} (hT : T < 1000000) (hO : O ≤ T) : (Jvm.FP.Core.dcmp (filF (nI T) (nI O)) Jvm.FP.Core.dconst0 = some .gt ∨ Jvm.FP.Core.dcmp (filF (nI T) (nI O)) Jvm.FP.Core.dconst0 = some .eq) ∧ (Jvm.FP.Core.dcmp (filF (nI T) (nI O)) Jvm.FP.Core.dconst1 = some .lt ∨ Jvm.FP.Core.dcmp (filF (nI T) (nI O)) Jvm.FP.Core.dconst1 = some .eq) := by
  have o1 : Jvm.FP.Core.val64 Jvm.FP.Core.dconst1 ≠ .nan := by rw [Jvm.FP.Core.val64_dconst1]; intro z; cases z
  have o0 : Jvm.FP.Core.val64 Jvm.FP.Core.dconst0 ≠ .nan := by rw [Jvm.FP.Core.val64_dconst0]; intro z; cases z
  have z0 : Jvm.FP.Core.zval Jvm.FP.Core.b64 (Jvm.FP.Core.val64 Jvm.FP.Core.dconst0) = 0 := Jvm.FP.Core.zval64_zero
  have z1 : 0 ≤ Jvm.FP.Core.zval Jvm.FP.Core.b64 (Jvm.FP.Core.val64 Jvm.FP.Core.dconst1) := by
    unfold Jvm.FP.Core.zval
    rw [show Jvm.FP.Core.sgn (Jvm.FP.Core.val64 Jvm.FP.Core.dconst1) = false by rw [Jvm.FP.Core.val64_dconst1]; rfl]
    unfold Jvm.FP.Core.signed
    rw [if_neg (by simp)]
    omega
  rw [Jvm.FP.Core.dcmp_ge, Jvm.FP.Core.dcmp_le, z0]
  unfold filF
  split
  · rename_i hp
    rw [nI_ltN (by omega) (by omega)] at hp
    have ha : Jvm.FP.Core.DInt ((T - O : Nat) : Int) (FP.i2d (nI T - nI O)) := by
      have := Jvm.FP.Core.i2d_int (nI (T - O))
      rw [nI_toInt (by omega)] at this
      rw [nI_sub hO]
      exact this
    have hb : Jvm.FP.Core.DInt ((T : Nat) : Int) (FP.i2d (nI T)) := by
      have := Jvm.FP.Core.i2d_int (nI T)
      rw [nI_toInt (by omega)] at this
      exact this
    obtain ⟨x1, x2, x3⟩ := fp_01 ha hb hp (by omega)
    exact ⟨⟨x1, o0, x2⟩, x1, o1, x3⟩
  · exact ⟨⟨o1, o0, z1⟩, o1, o1, Int.le_refl _⟩
end
