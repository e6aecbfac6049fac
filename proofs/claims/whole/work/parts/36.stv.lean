/-! CALLS ON A READER OF ANY KIND -/
def dvy_1 : Nat → Nat := fun t => if t = 0 then 25 else if t = 2 then 20 else if t = 3 then 25 else if t = 4 then 46 else if t = 5 then 25 else if t = 6 then 46 else if t = 7 then 46 else if t = 9 then 46 else 0
def dvy_2 : Nat → Nat := fun t => if t = 0 then 26 else if t = 2 then 48 else if t = 3 then 26 else if t = 4 then 31 else if t = 5 then 35 else if t = 6 then 41 else if t = 7 then 48 else if t = 9 then 62 else 0
def dvy_3 : Nat → Nat := fun t => if t = 0 then 47 else if t = 2 then 47 else if t = 3 then 47 else if t = 4 then 47 else if t = 5 then 47 else if t = 6 then 40 else if t = 7 then 47 else if t = 9 then 61 else 0
def dvy_4 : Nat → Nat := fun t => if t = 0 then 49 else if t = 2 then 21 else if t = 3 then 49 else if t = 4 then 49 else if t = 5 then 49 else if t = 6 then 49 else if t = 7 then 49 else if t = 9 then 49 else 0
def dvy_5 : Nat → Nat := fun t => if t = 0 then 1 else if t = 2 then 19 else if t = 3 then 24 else if t = 4 then 30 else if t = 5 then 34 else if t = 6 then 39 else if t = 7 then 45 else if t = 9 then 60 else 0
def dvy_6 : Nat → Nat := fun t => if t = 0 then 3 else if t = 2 then 22 else if t = 3 then 28 else if t = 4 then 32 else if t = 5 then 36 else if t = 6 then 42 else if t = 7 then 50 else if t = 9 then 63 else 0
def dvy_7 : Nat → Nat := fun t => if t = 0 then 51 else if t = 2 then 51 else if t = 3 then 51 else if t = 4 then 51 else if t = 5 then 51 else if t = 6 then 51 else if t = 7 then 51 else if t = 9 then 64 else 0
def dvy_8 : Nat → Nat := fun t => if t = 0 then 52 else if t = 2 then 52 else if t = 3 then 52 else if t = 4 then 52 else if t = 5 then 37 else if t = 6 then 43 else if t = 7 then 52 else if t = 9 then 52 else 0
theorem st47_5v {d : Nat} {a0 : Nat} {a1 : Nat} {x2 : Int32} {q0 : Nat} {p1 : Int32} {μ : SMem} (h9 : isRd (tg μ q0) = true) : rn (d + 1) 47 5 [some (Sum.inr (Sum.inl a0)), some (Sum.inr (Sum.inl a1)), some (Sum.inl x2)] [Sum.inr (Sum.inl q0), Sum.inl p1] μ = aft (cl d (dvy_1 (tg μ q0)) [Sum.inr (Sum.inl q0)] μ) fun v μ2 => rn (d + 1) 47 6 [some (Sum.inr (Sum.inl a0)), some (Sum.inr (Sum.inl a1)), some (Sum.inl x2)] (v.toList ++ [Sum.inl p1]) μ2 := by
  rcases isRd_cases h9 with h | h | h | h | h | h | h | h
  · rw [st47_5_t0 h, h]; rfl
  · rw [st47_5_t2 h, h]; rfl
  · rw [st47_5_t3 h, h]; rfl
  · rw [st47_5_t4 h, h]; rfl
  · rw [st47_5_t5 h, h]; rfl
  · rw [st47_5_t6 h, h]; rfl
  · rw [st47_5_t7 h, h]; rfl
  · rw [st47_5_t9 h, h]; rfl
theorem st49_3v {d : Nat} {a0 : Nat} {a1 : Nat} {x2 : Int32} {u3 : Option SV} {p0 : Int32} {q1 : Nat} {q2 : Nat} {μ : SMem} (h9 : isRd (tg μ q2) = true) : rn (d + 1) 49 3 [some (Sum.inr (Sum.inl a0)), some (Sum.inr (Sum.inl a1)), some (Sum.inl x2), u3] [Sum.inl p0, Sum.inr (Sum.inl q1), Sum.inr (Sum.inl q2)] μ = aft (cl d (dvy_2 (tg μ q2)) [Sum.inr (Sum.inl q2), Sum.inr (Sum.inl q1), Sum.inl p0] μ) fun v μ2 => rn (d + 1) 49 4 [some (Sum.inr (Sum.inl a0)), some (Sum.inr (Sum.inl a1)), some (Sum.inl x2), u3] (v.toList ++ []) μ2 := by
  rcases isRd_cases h9 with h | h | h | h | h | h | h | h
  · rw [st49_3_t0 h, h]; rfl
  · rw [st49_3_t2 h, h]; rfl
  · rw [st49_3_t3 h, h]; rfl
  · rw [st49_3_t4 h, h]; rfl
  · rw [st49_3_t5 h, h]; rfl
  · rw [st49_3_t6 h, h]; rfl
  · rw [st49_3_t7 h, h]; rfl
  · rw [st49_3_t9 h, h]; rfl
theorem st72_18v {d : Nat} {a0 : Nat} {x1 : Int32} {x2 : Int32} {a3 : Nat} {a4 : Nat} {u5 : Option SV} {u6 : Option SV} {u7 : Option SV} {p0 : Int32} {q1 : Nat} {q2 : Nat} {μ : SMem} (h9 : isRd (tg μ q2) = true) : rn (d + 1) 72 18 [some (Sum.inr (Sum.inl a0)), some (Sum.inl x1), some (Sum.inl x2), some (Sum.inr (Sum.inl a3)), some (Sum.inr (Sum.inl a4)), u5, u6, u7] [Sum.inl p0, Sum.inr (Sum.inl q1), Sum.inr (Sum.inl q2)] μ = aft (cl d (dvy_3 (tg μ q2)) [Sum.inr (Sum.inl q2), Sum.inr (Sum.inl q1), Sum.inl p0] μ) fun v μ2 => rn (d + 1) 72 19 [some (Sum.inr (Sum.inl a0)), some (Sum.inl x1), some (Sum.inl x2), some (Sum.inr (Sum.inl a3)), some (Sum.inr (Sum.inl a4)), u5, u6, u7] (v.toList ++ []) μ2 := by
  rcases isRd_cases h9 with h | h | h | h | h | h | h | h
  · rw [st72_18_t0 h, h]; rfl
  · rw [st72_18_t2 h, h]; rfl
  · rw [st72_18_t3 h, h]; rfl
  · rw [st72_18_t4 h, h]; rfl
  · rw [st72_18_t5 h, h]; rfl
  · rw [st72_18_t6 h, h]; rfl
  · rw [st72_18_t7 h, h]; rfl
  · rw [st72_18_t9 h, h]; rfl
theorem st72_24v {d : Nat} {a0 : Nat} {x1 : Int32} {x2 : Int32} {a3 : Nat} {a4 : Nat} {x5 : Int32} {u6 : Option SV} {u7 : Option SV} {p0 : Int32} {q1 : Nat} {q2 : Nat} {μ : SMem} (h9 : isRd (tg μ q2) = true) : rn (d + 1) 72 24 [some (Sum.inr (Sum.inl a0)), some (Sum.inl x1), some (Sum.inl x2), some (Sum.inr (Sum.inl a3)), some (Sum.inr (Sum.inl a4)), some (Sum.inl x5), u6, u7] [Sum.inl p0, Sum.inr (Sum.inl q1), Sum.inr (Sum.inl q2)] μ = aft (cl d (dvy_4 (tg μ q2)) [Sum.inr (Sum.inl q2), Sum.inr (Sum.inl q1), Sum.inl p0] μ) fun v μ2 => rn (d + 1) 72 25 [some (Sum.inr (Sum.inl a0)), some (Sum.inl x1), some (Sum.inl x2), some (Sum.inr (Sum.inl a3)), some (Sum.inr (Sum.inl a4)), some (Sum.inl x5), u6, u7] (v.toList ++ []) μ2 := by
  rcases isRd_cases h9 with h | h | h | h | h | h | h | h
  · rw [st72_24_t0 h, h]; rfl
  · rw [st72_24_t2 h, h]; rfl
  · rw [st72_24_t3 h, h]; rfl
  · rw [st72_24_t4 h, h]; rfl
  · rw [st72_24_t5 h, h]; rfl
  · rw [st72_24_t6 h, h]; rfl
  · rw [st72_24_t7 h, h]; rfl
  · rw [st72_24_t9 h, h]; rfl
theorem st81_12v {d : Nat} {a0 : Nat} {x1 : Int32} {x2 : Int32} {a3 : Nat} {q0 : Nat} {μ : SMem} (h9 : isRd (tg μ q0) = true) : rn (d + 1) 81 12 [some (Sum.inr (Sum.inl a0)), some (Sum.inl x1), some (Sum.inl x2), some (Sum.inr (Sum.inl a3))] [Sum.inr (Sum.inl q0)] μ = aft (cl d (dvy_5 (tg μ q0)) [Sum.inr (Sum.inl q0)] μ) fun v μ2 => rn (d + 1) 81 13 [some (Sum.inr (Sum.inl a0)), some (Sum.inl x1), some (Sum.inl x2), some (Sum.inr (Sum.inl a3))] (v.toList ++ []) μ2 := by
  rcases isRd_cases h9 with h | h | h | h | h | h | h | h
  · rw [st81_12_t0 h, h]; rfl
  · rw [st81_12_t2 h, h]; rfl
  · rw [st81_12_t3 h, h]; rfl
  · rw [st81_12_t4 h, h]; rfl
  · rw [st81_12_t5 h, h]; rfl
  · rw [st81_12_t6 h, h]; rfl
  · rw [st81_12_t7 h, h]; rfl
  · rw [st81_12_t9 h, h]; rfl
theorem st83_20v {d : Nat} {a0 : Nat} {x1 : Int32} {x2 : Int32} {a3 : Nat} {a4 : Nat} {p0 : Int32} {q1 : Nat} {q2 : Nat} {μ : SMem} (h9 : isRd (tg μ q2) = true) : rn (d + 1) 83 20 [some (Sum.inr (Sum.inl a0)), some (Sum.inl x1), some (Sum.inl x2), some (Sum.inr (Sum.inl a3)), some (Sum.inr (Sum.inl a4))] [Sum.inl p0, Sum.inr (Sum.inl q1), Sum.inr (Sum.inl q2)] μ = aft (cl d (dvy_3 (tg μ q2)) [Sum.inr (Sum.inl q2), Sum.inr (Sum.inl q1), Sum.inl p0] μ) fun v μ2 => rn (d + 1) 83 21 [some (Sum.inr (Sum.inl a0)), some (Sum.inl x1), some (Sum.inl x2), some (Sum.inr (Sum.inl a3)), some (Sum.inr (Sum.inl a4))] (v.toList ++ []) μ2 := by
  rcases isRd_cases h9 with h | h | h | h | h | h | h | h
  · rw [st83_20_t0 h, h]; rfl
  · rw [st83_20_t2 h, h]; rfl
  · rw [st83_20_t3 h, h]; rfl
  · rw [st83_20_t4 h, h]; rfl
  · rw [st83_20_t5 h, h]; rfl
  · rw [st83_20_t6 h, h]; rfl
  · rw [st83_20_t7 h, h]; rfl
  · rw [st83_20_t9 h, h]; rfl
theorem st84_20v {d : Nat} {a0 : Nat} {x1 : Int32} {x2 : Int32} {a3 : Nat} {a4 : Nat} {p0 : Int32} {q1 : Nat} {q2 : Nat} {μ : SMem} (h9 : isRd (tg μ q2) = true) : rn (d + 1) 84 20 [some (Sum.inr (Sum.inl a0)), some (Sum.inl x1), some (Sum.inl x2), some (Sum.inr (Sum.inl a3)), some (Sum.inr (Sum.inl a4))] [Sum.inl p0, Sum.inr (Sum.inl q1), Sum.inr (Sum.inl q2)] μ = aft (cl d (dvy_2 (tg μ q2)) [Sum.inr (Sum.inl q2), Sum.inr (Sum.inl q1), Sum.inl p0] μ) fun v μ2 => rn (d + 1) 84 21 [some (Sum.inr (Sum.inl a0)), some (Sum.inl x1), some (Sum.inl x2), some (Sum.inr (Sum.inl a3)), some (Sum.inr (Sum.inl a4))] (v.toList ++ []) μ2 := by
  rcases isRd_cases h9 with h | h | h | h | h | h | h | h
  · rw [st84_20_t0 h, h]; rfl
  · rw [st84_20_t2 h, h]; rfl
  · rw [st84_20_t3 h, h]; rfl
  · rw [st84_20_t4 h, h]; rfl
  · rw [st84_20_t5 h, h]; rfl
  · rw [st84_20_t6 h, h]; rfl
  · rw [st84_20_t7 h, h]; rfl
  · rw [st84_20_t9 h, h]; rfl
theorem st96_59v {d : Nat} {a0 : Nat} {x1 : Int32} {x2 : Int32} {x3 : Int32} {a4 : Nat} {a5 : Nat} {x6 : Int32} {x7 : Int32} {x8 : Int32} {x9 : Int32} {x10 : Int32} {a11 : Nat} {p0 : Int32} {q1 : Nat} {q2 : Nat} {μ : SMem} (h9 : isRd (tg μ q2) = true) : rn (d + 1) 96 59 [some (Sum.inr (Sum.inl a0)), some (Sum.inl x1), some (Sum.inl x2), some (Sum.inl x3), some (Sum.inr (Sum.inl a4)), some (Sum.inr (Sum.inl a5)), some (Sum.inl x6), some (Sum.inl x7), some (Sum.inl x8), some (Sum.inl x9), some (Sum.inl x10), some (Sum.inr (Sum.inl a11))] [Sum.inl p0, Sum.inr (Sum.inl q1), Sum.inr (Sum.inl q2)] μ = aft (cl d (dvy_4 (tg μ q2)) [Sum.inr (Sum.inl q2), Sum.inr (Sum.inl q1), Sum.inl p0] μ) fun v μ2 => rn (d + 1) 96 60 [some (Sum.inr (Sum.inl a0)), some (Sum.inl x1), some (Sum.inl x2), some (Sum.inl x3), some (Sum.inr (Sum.inl a4)), some (Sum.inr (Sum.inl a5)), some (Sum.inl x6), some (Sum.inl x7), some (Sum.inl x8), some (Sum.inl x9), some (Sum.inl x10), some (Sum.inr (Sum.inl a11))] (v.toList ++ []) μ2 := by
  rcases isRd_cases h9 with h | h | h | h | h | h | h | h
  · rw [st96_59_t0 h, h]; rfl
  · rw [st96_59_t2 h, h]; rfl
  · rw [st96_59_t3 h, h]; rfl
  · rw [st96_59_t4 h, h]; rfl
  · rw [st96_59_t5 h, h]; rfl
  · rw [st96_59_t6 h, h]; rfl
  · rw [st96_59_t7 h, h]; rfl
  · rw [st96_59_t9 h, h]; rfl
theorem st97_52v {d : Nat} {a0 : Nat} {x1 : Int32} {x2 : Int32} {x3 : Int32} {a4 : Nat} {a5 : Nat} {a6 : Nat} {x7 : Int32} {x8 : Int32} {x9 : Int32} {x10 : Int32} {a11 : Nat} {u12 : Option SV} {p0 : Int32} {q1 : Nat} {q2 : Nat} {μ : SMem} (h9 : isRd (tg μ q2) = true) : rn (d + 1) 97 52 [some (Sum.inr (Sum.inl a0)), some (Sum.inl x1), some (Sum.inl x2), some (Sum.inl x3), some (Sum.inr (Sum.inl a4)), some (Sum.inr (Sum.inl a5)), some (Sum.inr (Sum.inl a6)), some (Sum.inl x7), some (Sum.inl x8), some (Sum.inl x9), some (Sum.inl x10), some (Sum.inr (Sum.inl a11)), u12] [Sum.inl p0, Sum.inr (Sum.inl q1), Sum.inr (Sum.inl q2)] μ = aft (cl d (dvy_3 (tg μ q2)) [Sum.inr (Sum.inl q2), Sum.inr (Sum.inl q1), Sum.inl p0] μ) fun v μ2 => rn (d + 1) 97 53 [some (Sum.inr (Sum.inl a0)), some (Sum.inl x1), some (Sum.inl x2), some (Sum.inl x3), some (Sum.inr (Sum.inl a4)), some (Sum.inr (Sum.inl a5)), some (Sum.inr (Sum.inl a6)), some (Sum.inl x7), some (Sum.inl x8), some (Sum.inl x9), some (Sum.inl x10), some (Sum.inr (Sum.inl a11)), u12] (v.toList ++ []) μ2 := by
  rcases isRd_cases h9 with h | h | h | h | h | h | h | h
  · rw [st97_52_t0 h, h]; rfl
  · rw [st97_52_t2 h, h]; rfl
  · rw [st97_52_t3 h, h]; rfl
  · rw [st97_52_t4 h, h]; rfl
  · rw [st97_52_t5 h, h]; rfl
  · rw [st97_52_t6 h, h]; rfl
  · rw [st97_52_t7 h, h]; rfl
  · rw [st97_52_t9 h, h]; rfl
theorem st97_67v {d : Nat} {a0 : Nat} {x1 : Int32} {x2 : Int32} {x3 : Int32} {a4 : Nat} {a5 : Nat} {a6 : Nat} {x7 : Int32} {x8 : Int32} {x9 : Int32} {x10 : Int32} {a11 : Nat} {x12 : Int32} {p0 : Int32} {q1 : Nat} {q2 : Nat} {p3 : Int32} {μ : SMem} (h9 : isRd (tg μ q2) = true) : rn (d + 1) 97 67 [some (Sum.inr (Sum.inl a0)), some (Sum.inl x1), some (Sum.inl x2), some (Sum.inl x3), some (Sum.inr (Sum.inl a4)), some (Sum.inr (Sum.inl a5)), some (Sum.inr (Sum.inl a6)), some (Sum.inl x7), some (Sum.inl x8), some (Sum.inl x9), some (Sum.inl x10), some (Sum.inr (Sum.inl a11)), some (Sum.inl x12)] [Sum.inl p0, Sum.inr (Sum.inl q1), Sum.inr (Sum.inl q2), Sum.inl p3] μ = aft (cl d (dvy_4 (tg μ q2)) [Sum.inr (Sum.inl q2), Sum.inr (Sum.inl q1), Sum.inl p0] μ) fun v μ2 => rn (d + 1) 97 68 [some (Sum.inr (Sum.inl a0)), some (Sum.inl x1), some (Sum.inl x2), some (Sum.inl x3), some (Sum.inr (Sum.inl a4)), some (Sum.inr (Sum.inl a5)), some (Sum.inr (Sum.inl a6)), some (Sum.inl x7), some (Sum.inl x8), some (Sum.inl x9), some (Sum.inl x10), some (Sum.inr (Sum.inl a11)), some (Sum.inl x12)] (v.toList ++ [Sum.inl p3]) μ2 := by
  rcases isRd_cases h9 with h | h | h | h | h | h | h | h
  · rw [st97_67_t0 h, h]; rfl
  · rw [st97_67_t2 h, h]; rfl
  · rw [st97_67_t3 h, h]; rfl
  · rw [st97_67_t4 h, h]; rfl
  · rw [st97_67_t5 h, h]; rfl
  · rw [st97_67_t6 h, h]; rfl
  · rw [st97_67_t7 h, h]; rfl
  · rw [st97_67_t9 h, h]; rfl
theorem st98_30v {d : Nat} {a0 : Nat} {x1 : Int32} {x2 : Int32} {x3 : Int32} {a4 : Nat} {a5 : Nat} {p0 : Int32} {q1 : Nat} {q2 : Nat} {μ : SMem} (h9 : isRd (tg μ q2) = true) : rn (d + 1) 98 30 [some (Sum.inr (Sum.inl a0)), some (Sum.inl x1), some (Sum.inl x2), some (Sum.inl x3), some (Sum.inr (Sum.inl a4)), some (Sum.inr (Sum.inl a5))] [Sum.inl p0, Sum.inr (Sum.inl q1), Sum.inr (Sum.inl q2)] μ = aft (cl d (dvy_3 (tg μ q2)) [Sum.inr (Sum.inl q2), Sum.inr (Sum.inl q1), Sum.inl p0] μ) fun v μ2 => rn (d + 1) 98 31 [some (Sum.inr (Sum.inl a0)), some (Sum.inl x1), some (Sum.inl x2), some (Sum.inl x3), some (Sum.inr (Sum.inl a4)), some (Sum.inr (Sum.inl a5))] (v.toList ++ []) μ2 := by
  rcases isRd_cases h9 with h | h | h | h | h | h | h | h
  · rw [st98_30_t0 h, h]; rfl
  · rw [st98_30_t2 h, h]; rfl
  · rw [st98_30_t3 h, h]; rfl
  · rw [st98_30_t4 h, h]; rfl
  · rw [st98_30_t5 h, h]; rfl
  · rw [st98_30_t6 h, h]; rfl
  · rw [st98_30_t7 h, h]; rfl
  · rw [st98_30_t9 h, h]; rfl
theorem st98_41v {d : Nat} {a0 : Nat} {x1 : Int32} {x2 : Int32} {x3 : Int32} {a4 : Nat} {a5 : Nat} {p0 : Int32} {q1 : Nat} {q2 : Nat} {p3 : Int32} {μ : SMem} (h9 : isRd (tg μ q2) = true) : rn (d + 1) 98 41 [some (Sum.inr (Sum.inl a0)), some (Sum.inl x1), some (Sum.inl x2), some (Sum.inl x3), some (Sum.inr (Sum.inl a4)), some (Sum.inr (Sum.inl a5))] [Sum.inl p0, Sum.inr (Sum.inl q1), Sum.inr (Sum.inl q2), Sum.inl p3] μ = aft (cl d (dvy_3 (tg μ q2)) [Sum.inr (Sum.inl q2), Sum.inr (Sum.inl q1), Sum.inl p0] μ) fun v μ2 => rn (d + 1) 98 42 [some (Sum.inr (Sum.inl a0)), some (Sum.inl x1), some (Sum.inl x2), some (Sum.inl x3), some (Sum.inr (Sum.inl a4)), some (Sum.inr (Sum.inl a5))] (v.toList ++ [Sum.inl p3]) μ2 := by
  rcases isRd_cases h9 with h | h | h | h | h | h | h | h
  · rw [st98_41_t0 h, h]; rfl
  · rw [st98_41_t2 h, h]; rfl
  · rw [st98_41_t3 h, h]; rfl
  · rw [st98_41_t4 h, h]; rfl
  · rw [st98_41_t5 h, h]; rfl
  · rw [st98_41_t6 h, h]; rfl
  · rw [st98_41_t7 h, h]; rfl
  · rw [st98_41_t9 h, h]; rfl
theorem st111_18v {d : Nat} {a0 : Nat} {x1 : Int32} {a2 : Nat} {x3 : Int32} {q0 : Nat} {μ : SMem} (h9 : isRd (tg μ q0) = true) : rn (d + 1) 111 18 [some (Sum.inr (Sum.inl a0)), some (Sum.inl x1), some (Sum.inr (Sum.inl a2)), some (Sum.inl x3)] [Sum.inr (Sum.inl q0)] μ = aft (cl d (dvy_6 (tg μ q0)) [Sum.inr (Sum.inl q0)] μ) fun v μ2 => rn (d + 1) 111 19 [some (Sum.inr (Sum.inl a0)), some (Sum.inl x1), some (Sum.inr (Sum.inl a2)), some (Sum.inl x3)] (v.toList ++ []) μ2 := by
  rcases isRd_cases h9 with h | h | h | h | h | h | h | h
  · rw [st111_18_t0 h, h]; rfl
  · rw [st111_18_t2 h, h]; rfl
  · rw [st111_18_t3 h, h]; rfl
  · rw [st111_18_t4 h, h]; rfl
  · rw [st111_18_t5 h, h]; rfl
  · rw [st111_18_t6 h, h]; rfl
  · rw [st111_18_t7 h, h]; rfl
  · rw [st111_18_t9 h, h]; rfl
theorem st112_18v {d : Nat} {a0 : Nat} {x1 : Int32} {a2 : Nat} {x3 : Int32} {u4 : Option SV} {q0 : Nat} {μ : SMem} (h9 : isRd (tg μ q0) = true) : rn (d + 1) 112 18 [some (Sum.inr (Sum.inl a0)), some (Sum.inl x1), some (Sum.inr (Sum.inl a2)), some (Sum.inl x3), u4] [Sum.inr (Sum.inl q0)] μ = aftH [(0, 21, 4)] [some (Sum.inr (Sum.inl a0)), some (Sum.inl x1), some (Sum.inr (Sum.inl a2)), some (Sum.inl x3), u4] (cl d (dvy_7 (tg μ q0)) [Sum.inr (Sum.inl q0)] μ) (fun v μ2 => rn (d + 1) 112 19 [some (Sum.inr (Sum.inl a0)), some (Sum.inl x1), some (Sum.inr (Sum.inl a2)), some (Sum.inl x3), u4] (v.toList ++ []) μ2) (fun j L2 μ2 => rn (d + 1) 112 j L2 [] μ2) := by
  rcases isRd_cases h9 with h | h | h | h | h | h | h | h
  · rw [st112_18_t0 h, h]; rfl
  · rw [st112_18_t2 h, h]; rfl
  · rw [st112_18_t3 h, h]; rfl
  · rw [st112_18_t4 h, h]; rfl
  · rw [st112_18_t5 h, h]; rfl
  · rw [st112_18_t6 h, h]; rfl
  · rw [st112_18_t7 h, h]; rfl
  · rw [st112_18_t9 h, h]; rfl
theorem st112_23v {d : Nat} {a0 : Nat} {x1 : Int32} {a2 : Nat} {x3 : Int32} {u4 : Option SV} {q0 : Nat} {μ : SMem} (h9 : isRd (tg μ q0) = true) : rn (d + 1) 112 23 [some (Sum.inr (Sum.inl a0)), some (Sum.inl x1), some (Sum.inr (Sum.inl a2)), some (Sum.inl x3), u4] [Sum.inr (Sum.inl q0)] μ = aft (cl d (dvy_8 (tg μ q0)) [Sum.inr (Sum.inl q0)] μ) fun v μ2 => rn (d + 1) 112 24 [some (Sum.inr (Sum.inl a0)), some (Sum.inl x1), some (Sum.inr (Sum.inl a2)), some (Sum.inl x3), u4] (v.toList ++ []) μ2 := by
  rcases isRd_cases h9 with h | h | h | h | h | h | h | h
  · rw [st112_23_t0 h, h]; rfl
  · rw [st112_23_t2 h, h]; rfl
  · rw [st112_23_t3 h, h]; rfl
  · rw [st112_23_t4 h, h]; rfl
  · rw [st112_23_t5 h, h]; rfl
  · rw [st112_23_t6 h, h]; rfl
  · rw [st112_23_t7 h, h]; rfl
  · rw [st112_23_t9 h, h]; rfl
theorem st122_24v {d : Nat} {a0 : Nat} {a1 : Nat} {x2 : Int32} {a3 : Nat} {u4 : Option SV} {p0 : Int32} {q1 : Nat} {q2 : Nat} {μ : SMem} (h9 : isRd (tg μ q2) = true) : rn (d + 1) 122 24 [some (Sum.inr (Sum.inl a0)), some (Sum.inr (Sum.inl a1)), some (Sum.inl x2), some (Sum.inr (Sum.inl a3)), u4] [Sum.inl p0, Sum.inr (Sum.inl q1), Sum.inr (Sum.inl q2)] μ = aft (cl d (dvy_3 (tg μ q2)) [Sum.inr (Sum.inl q2), Sum.inr (Sum.inl q1), Sum.inl p0] μ) fun v μ2 => rn (d + 1) 122 25 [some (Sum.inr (Sum.inl a0)), some (Sum.inr (Sum.inl a1)), some (Sum.inl x2), some (Sum.inr (Sum.inl a3)), u4] (v.toList ++ []) μ2 := by
  rcases isRd_cases h9 with h | h | h | h | h | h | h | h
  · rw [st122_24_t0 h, h]; rfl
  · rw [st122_24_t2 h, h]; rfl
  · rw [st122_24_t3 h, h]; rfl
  · rw [st122_24_t4 h, h]; rfl
  · rw [st122_24_t5 h, h]; rfl
  · rw [st122_24_t6 h, h]; rfl
  · rw [st122_24_t7 h, h]; rfl
  · rw [st122_24_t9 h, h]; rfl
theorem st122_37v {d : Nat} {a0 : Nat} {a1 : Nat} {x2 : Int32} {a3 : Nat} {x4 : Int32} {p0 : Int32} {q1 : Nat} {q2 : Nat} {p3 : Int32} {p4 : Int32} {q5 : Nat} {μ : SMem} (h9 : isRd (tg μ q2) = true) : rn (d + 1) 122 37 [some (Sum.inr (Sum.inl a0)), some (Sum.inr (Sum.inl a1)), some (Sum.inl x2), some (Sum.inr (Sum.inl a3)), some (Sum.inl x4)] [Sum.inl p0, Sum.inr (Sum.inl q1), Sum.inr (Sum.inl q2), Sum.inl p3, Sum.inl p4, Sum.inr (Sum.inl q5)] μ = aft (cl d (dvy_4 (tg μ q2)) [Sum.inr (Sum.inl q2), Sum.inr (Sum.inl q1), Sum.inl p0] μ) fun v μ2 => rn (d + 1) 122 38 [some (Sum.inr (Sum.inl a0)), some (Sum.inr (Sum.inl a1)), some (Sum.inl x2), some (Sum.inr (Sum.inl a3)), some (Sum.inl x4)] (v.toList ++ [Sum.inl p3, Sum.inl p4, Sum.inr (Sum.inl q5)]) μ2 := by
  rcases isRd_cases h9 with h | h | h | h | h | h | h | h
  · rw [st122_37_t0 h, h]; rfl
  · rw [st122_37_t2 h, h]; rfl
  · rw [st122_37_t3 h, h]; rfl
  · rw [st122_37_t4 h, h]; rfl
  · rw [st122_37_t5 h, h]; rfl
  · rw [st122_37_t6 h, h]; rfl
  · rw [st122_37_t7 h, h]; rfl
  · rw [st122_37_t9 h, h]; rfl
theorem st125_23v {d : Nat} {a0 : Nat} {a1 : Nat} {a2 : Nat} {x3 : Int32} {x4 : Int32} {x5 : Int32} {x6 : Int32} {a7 : Nat} {p0 : Int32} {q1 : Nat} {q2 : Nat} {p3 : Int32} {μ : SMem} (h9 : isRd (tg μ q2) = true) : rn (d + 1) 125 23 [some (Sum.inr (Sum.inl a0)), some (Sum.inr (Sum.inl a1)), some (Sum.inr (Sum.inl a2)), some (Sum.inl x3), some (Sum.inl x4), some (Sum.inl x5), some (Sum.inl x6), some (Sum.inr (Sum.inl a7))] [Sum.inl p0, Sum.inr (Sum.inl q1), Sum.inr (Sum.inl q2), Sum.inl p3] μ = aft (cl d (dvy_3 (tg μ q2)) [Sum.inr (Sum.inl q2), Sum.inr (Sum.inl q1), Sum.inl p0] μ) fun v μ2 => rn (d + 1) 125 24 [some (Sum.inr (Sum.inl a0)), some (Sum.inr (Sum.inl a1)), some (Sum.inr (Sum.inl a2)), some (Sum.inl x3), some (Sum.inl x4), some (Sum.inl x5), some (Sum.inl x6), some (Sum.inr (Sum.inl a7))] (v.toList ++ [Sum.inl p3]) μ2 := by
  rcases isRd_cases h9 with h | h | h | h | h | h | h | h
  · rw [st125_23_t0 h, h]; rfl
  · rw [st125_23_t2 h, h]; rfl
  · rw [st125_23_t3 h, h]; rfl
  · rw [st125_23_t4 h, h]; rfl
  · rw [st125_23_t5 h, h]; rfl
  · rw [st125_23_t6 h, h]; rfl
  · rw [st125_23_t7 h, h]; rfl
  · rw [st125_23_t9 h, h]; rfl
theorem st125_30v {d : Nat} {a0 : Nat} {a1 : Nat} {a2 : Nat} {x3 : Int32} {x4 : Int32} {x5 : Int32} {x6 : Int32} {a7 : Nat} {p0 : Int32} {q1 : Nat} {q2 : Nat} {p3 : Int32} {μ : SMem} (h9 : isRd (tg μ q2) = true) : rn (d + 1) 125 30 [some (Sum.inr (Sum.inl a0)), some (Sum.inr (Sum.inl a1)), some (Sum.inr (Sum.inl a2)), some (Sum.inl x3), some (Sum.inl x4), some (Sum.inl x5), some (Sum.inl x6), some (Sum.inr (Sum.inl a7))] [Sum.inl p0, Sum.inr (Sum.inl q1), Sum.inr (Sum.inl q2), Sum.inl p3] μ = aft (cl d (dvy_4 (tg μ q2)) [Sum.inr (Sum.inl q2), Sum.inr (Sum.inl q1), Sum.inl p0] μ) fun v μ2 => rn (d + 1) 125 31 [some (Sum.inr (Sum.inl a0)), some (Sum.inr (Sum.inl a1)), some (Sum.inr (Sum.inl a2)), some (Sum.inl x3), some (Sum.inl x4), some (Sum.inl x5), some (Sum.inl x6), some (Sum.inr (Sum.inl a7))] (v.toList ++ [Sum.inl p3]) μ2 := by
  rcases isRd_cases h9 with h | h | h | h | h | h | h | h
  · rw [st125_30_t0 h, h]; rfl
  · rw [st125_30_t2 h, h]; rfl
  · rw [st125_30_t3 h, h]; rfl
  · rw [st125_30_t4 h, h]; rfl
  · rw [st125_30_t5 h, h]; rfl
  · rw [st125_30_t6 h, h]; rfl
  · rw [st125_30_t7 h, h]; rfl
  · rw [st125_30_t9 h, h]; rfl
theorem st126_10v {d : Nat} {a0 : Nat} {a1 : Nat} {x2 : Int32} {x3 : Int32} {x4 : Int32} {x5 : Int32} {p0 : Int32} {q1 : Nat} {q2 : Nat} {μ : SMem} (h9 : isRd (tg μ q2) = true) : rn (d + 1) 126 10 [some (Sum.inr (Sum.inl a0)), some (Sum.inr (Sum.inl a1)), some (Sum.inl x2), some (Sum.inl x3), some (Sum.inl x4), some (Sum.inl x5)] [Sum.inl p0, Sum.inr (Sum.inl q1), Sum.inr (Sum.inl q2)] μ = aft (cl d (dvy_3 (tg μ q2)) [Sum.inr (Sum.inl q2), Sum.inr (Sum.inl q1), Sum.inl p0] μ) fun v μ2 => rn (d + 1) 126 11 [some (Sum.inr (Sum.inl a0)), some (Sum.inr (Sum.inl a1)), some (Sum.inl x2), some (Sum.inl x3), some (Sum.inl x4), some (Sum.inl x5)] (v.toList ++ []) μ2 := by
  rcases isRd_cases h9 with h | h | h | h | h | h | h | h
  · rw [st126_10_t0 h, h]; rfl
  · rw [st126_10_t2 h, h]; rfl
  · rw [st126_10_t3 h, h]; rfl
  · rw [st126_10_t4 h, h]; rfl
  · rw [st126_10_t5 h, h]; rfl
  · rw [st126_10_t6 h, h]; rfl
  · rw [st126_10_t7 h, h]; rfl
  · rw [st126_10_t9 h, h]; rfl
theorem st126_18v {d : Nat} {a0 : Nat} {a1 : Nat} {x2 : Int32} {x3 : Int32} {x4 : Int32} {x5 : Int32} {p0 : Int32} {q1 : Nat} {q2 : Nat} {p3 : Int32} {μ : SMem} (h9 : isRd (tg μ q2) = true) : rn (d + 1) 126 18 [some (Sum.inr (Sum.inl a0)), some (Sum.inr (Sum.inl a1)), some (Sum.inl x2), some (Sum.inl x3), some (Sum.inl x4), some (Sum.inl x5)] [Sum.inl p0, Sum.inr (Sum.inl q1), Sum.inr (Sum.inl q2), Sum.inl p3] μ = aft (cl d (dvy_4 (tg μ q2)) [Sum.inr (Sum.inl q2), Sum.inr (Sum.inl q1), Sum.inl p0] μ) fun v μ2 => rn (d + 1) 126 19 [some (Sum.inr (Sum.inl a0)), some (Sum.inr (Sum.inl a1)), some (Sum.inl x2), some (Sum.inl x3), some (Sum.inl x4), some (Sum.inl x5)] (v.toList ++ [Sum.inl p3]) μ2 := by
  rcases isRd_cases h9 with h | h | h | h | h | h | h | h
  · rw [st126_18_t0 h, h]; rfl
  · rw [st126_18_t2 h, h]; rfl
  · rw [st126_18_t3 h, h]; rfl
  · rw [st126_18_t4 h, h]; rfl
  · rw [st126_18_t5 h, h]; rfl
  · rw [st126_18_t6 h, h]; rfl
  · rw [st126_18_t7 h, h]; rfl
  · rw [st126_18_t9 h, h]; rfl
theorem st128_39v {d : Nat} {a0 : Nat} {x1 : Int32} {x2 : Int32} {a3 : Nat} {a4 : Nat} {x5 : Int32} {a6 : Nat} {p0 : Int32} {q1 : Nat} {q2 : Nat} {p3 : Int32} {p4 : Int32} {q5 : Nat} {μ : SMem} (h9 : isRd (tg μ q2) = true) : rn (d + 1) 128 39 [some (Sum.inr (Sum.inl a0)), some (Sum.inl x1), some (Sum.inl x2), some (Sum.inr (Sum.inl a3)), some (Sum.inr (Sum.inl a4)), some (Sum.inl x5), some (Sum.inr (Sum.inl a6))] [Sum.inl p0, Sum.inr (Sum.inl q1), Sum.inr (Sum.inl q2), Sum.inl p3, Sum.inl p4, Sum.inr (Sum.inl q5)] μ = aft (cl d (dvy_3 (tg μ q2)) [Sum.inr (Sum.inl q2), Sum.inr (Sum.inl q1), Sum.inl p0] μ) fun v μ2 => rn (d + 1) 128 40 [some (Sum.inr (Sum.inl a0)), some (Sum.inl x1), some (Sum.inl x2), some (Sum.inr (Sum.inl a3)), some (Sum.inr (Sum.inl a4)), some (Sum.inl x5), some (Sum.inr (Sum.inl a6))] (v.toList ++ [Sum.inl p3, Sum.inl p4, Sum.inr (Sum.inl q5)]) μ2 := by
  rcases isRd_cases h9 with h | h | h | h | h | h | h | h
  · rw [st128_39_t0 h, h]; rfl
  · rw [st128_39_t2 h, h]; rfl
  · rw [st128_39_t3 h, h]; rfl
  · rw [st128_39_t4 h, h]; rfl
  · rw [st128_39_t5 h, h]; rfl
  · rw [st128_39_t6 h, h]; rfl
  · rw [st128_39_t7 h, h]; rfl
  · rw [st128_39_t9 h, h]; rfl
theorem st128_57v {d : Nat} {a0 : Nat} {x1 : Int32} {x2 : Int32} {a3 : Nat} {a4 : Nat} {x5 : Int32} {a6 : Nat} {p0 : Int32} {q1 : Nat} {q2 : Nat} {p3 : Int32} {p4 : Int32} {q5 : Nat} {μ : SMem} (h9 : isRd (tg μ q2) = true) : rn (d + 1) 128 57 [some (Sum.inr (Sum.inl a0)), some (Sum.inl x1), some (Sum.inl x2), some (Sum.inr (Sum.inl a3)), some (Sum.inr (Sum.inl a4)), some (Sum.inl x5), some (Sum.inr (Sum.inl a6))] [Sum.inl p0, Sum.inr (Sum.inl q1), Sum.inr (Sum.inl q2), Sum.inl p3, Sum.inl p4, Sum.inr (Sum.inl q5)] μ = aft (cl d (dvy_4 (tg μ q2)) [Sum.inr (Sum.inl q2), Sum.inr (Sum.inl q1), Sum.inl p0] μ) fun v μ2 => rn (d + 1) 128 58 [some (Sum.inr (Sum.inl a0)), some (Sum.inl x1), some (Sum.inl x2), some (Sum.inr (Sum.inl a3)), some (Sum.inr (Sum.inl a4)), some (Sum.inl x5), some (Sum.inr (Sum.inl a6))] (v.toList ++ [Sum.inl p3, Sum.inl p4, Sum.inr (Sum.inl q5)]) μ2 := by
  rcases isRd_cases h9 with h | h | h | h | h | h | h | h
  · rw [st128_57_t0 h, h]; rfl
  · rw [st128_57_t2 h, h]; rfl
  · rw [st128_57_t3 h, h]; rfl
  · rw [st128_57_t4 h, h]; rfl
  · rw [st128_57_t5 h, h]; rfl
  · rw [st128_57_t6 h, h]; rfl
  · rw [st128_57_t7 h, h]; rfl
  · rw [st128_57_t9 h, h]; rfl
