/-! small numbers as Int32 -/
theorem mi_ti {n : Nat} (h : n < 2147483648) : (Int32.ofNat n).toInt = (n : Int) := Int32.toInt_ofNat_small h
theorem mi_tn {n : Nat} (h : n < 2147483648) : (Int32.ofNat n).toNatClampNeg = n := by
  show (Int32.ofNat n).toInt.toNat = n
  rw [mi_ti h]
  exact Int.toNat_natCast n
theorem mi_lt {a b : Nat} (ha : a < 2147483648) (hb : b < 2147483648) : Int32.ofNat a < Int32.ofNat b ↔ a < b := by
  rw [Int32.lt_iff_toInt_lt, mi_ti ha, mi_ti hb]
  omega
theorem mi_le {a b : Nat} (ha : a < 2147483648) (hb : b < 2147483648) : Int32.ofNat a ≤ Int32.ofNat b ↔ a ≤ b := by
  rw [Int32.le_iff_toInt_le, mi_ti ha, mi_ti hb]
  omega
theorem mi_inj {a b : Nat} (ha : a < 2147483648) (hb : b < 2147483648) (h : Int32.ofNat a = Int32.ofNat b) : a = b := by
  have h1 := congrArg Int32.toInt h
  rw [mi_ti ha, mi_ti hb] at h1
  omega
theorem mi_a1 (n : Nat) : Int32.ofNat n + 1 = Int32.ofNat (n + 1) := (Int32.ofNat_add n 1).symm
theorem mi_s1 (n : Nat) : Int32.ofNat (n + 1) - 1 = Int32.ofNat n := by rw [← mi_a1, Int32.add_sub_cancel]
theorem mi_nn {n : Nat} (h : n < 2147483648) : ¬ Int32.ofNat n < 0 := by
  rw [Int32.lt_iff_toInt_lt, mi_ti h]
  show ¬ (n : Int) < 0
  omega
theorem mi_of {x : Int32} (h : ¬ x < 0) : x = Int32.ofNat x.toNatClampNeg := by
  have h0 : ¬ x.toInt < 0 := fun z => h (Int32.lt_iff_toInt_lt.mpr z)
  have h1 : x.toInt < 2147483648 := Int32.toInt_lt x
  have h2 : x.toNatClampNeg = x.toInt.toNat := rfl
  refine Int32.toInt_inj.mp ?_
  rw [mi_ti (by rw [h2]; omega), h2]
  omega
theorem mi_rg {x : Int32} {n : Nat} (h : ¬ x < 0) (hn : n < 2147483648) (hx : x < Int32.ofNat n) : x.toNatClampNeg < n := by
  rw [Int32.lt_iff_toInt_lt, mi_ti hn] at hx
  have h2 : x.toNatClampNeg = x.toInt.toNat := rfl
  rw [h2]
  have h0 : ¬ x.toInt < 0 := fun z => h (Int32.lt_iff_toInt_lt.mpr z)
  omega
theorem mi_vi {x : Int32} {n : Nat} (h : ¬ x < 0) (hx : x.toNatClampNeg < n) : vp_in x n := fun z => by
  rcases z with z | z
  · exact h z
  · omega
theorem mi_vn {x n : Nat} (hx : x < 2147483648) (h : x < n) : vp_in (Int32.ofNat x) n := mi_vi (mi_nn hx) (by rw [mi_tn hx]; exact h)
