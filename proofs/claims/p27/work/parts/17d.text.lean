/-! THE CLASS: fault, enter -/
theorem try_p {d tx : Nat → Int32} {len : Nat} (h : ¬ tryR d tx len = 0) : ¬ fPl d tx len = (-1004) := fun q => h (by unfold tryR; rw [if_pos q]; rfl)
theorem flt_z {d tx : Nat → Int32} {len : Nat} {w : Int32} (hw : inB w (nI 0) (nI 1) = true) (h : tryR d tx len = 0) : (-1004 : Int32) = aFault d tx len w := by
  by_cases q : fPl d tx len = (-1004)
  · unfold aFault; rw [if_pos hw, if_pos q, q]
  · exact absurd h (try_0 q)
theorem flt_p {d tx : Nat → Int32} {len : Nat} {w t9 : Int32} (hw : inB w (nI 0) (nI 1) = true) (h : ¬ tryR d tx len = 0) (hz : w = 0) (ht : ¬ fPl d tx len = (-1004) → t9 = fPl d tx len) : t9 = aFault d tx len w := by
  have q := try_p h
  unfold aFault; rw [if_pos hw, if_neg q, if_pos hz]; exact ht q
theorem flt_r {d tx : Nat → Int32} {len : Nat} {w : Int32} (hw : inB w (nI 0) (nI 1) = true) (h : ¬ tryR d tx len = 0) (hz : ¬ w = 0) : tryR d tx len = aFault d tx len w := by
  have q := try_p h
  unfold aFault; rw [if_pos hw, if_neg q, if_neg hz]
  unfold tryR; rw [if_neg q]
