/-! Quotients of whole numbers are numbers -/
section C51
theorem nn64 {a b : Int} (ha : 0 ≤ a ∧ a ≤ 100000) (hb : 0 < b ∧ b ≤ 100000) : vf_n64 (FP.ddiv (FP.i2d (Int32.ofInt a)) (FP.i2d (Int32.ofInt b))) := by
  have hz : Int32.ofInt b ≠ 0 := fun h => by
    have h1 := congrArg Int32.toInt h
    rw [Int32.toInt_ofInt_of_le (by omega) (by omega)] at h1
    have h2 : (0 : Int32).toInt = 0 := rfl
    omega
  exact Jvm.Free.Fl.ddiv_out (Jvm.Free.Fl.i2d_fin _).noNaN (Jvm.Free.Fl.i2d_fin _) (Jvm.Free.Fl.i2d_nz hz)
theorem nn32 {a b : Int} (ha : 0 ≤ a ∧ a ≤ 100000) (hb : 0 < b ∧ b ≤ 100000) : vf_n32 (FP.fdiv (FP.i2f (Int32.ofInt a)) (FP.i2f (Int32.ofInt b))) := by
  have hz : Int32.ofInt b ≠ 0 := fun h => by
    have h1 := congrArg Int32.toInt h
    rw [Int32.toInt_ofInt_of_le (by omega) (by omega)] at h1
    have h2 : (0 : Int32).toInt = 0 := rfl
    omega
  exact Jvm.Free.Fl.fdiv_out (Jvm.Free.Fl.i2f_fin _).noNaN (Jvm.Free.Fl.i2f_fin _) (Jvm.Free.Fl.i2f_nz hz)
theorem nf2d {a : UInt32} (h : vf_n32 a) : vf_n64 (FP.f2d a) := Jvm.Free.Fl.f2d_out h
end C51
