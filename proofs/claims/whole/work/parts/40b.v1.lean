/-! BOTH SIDES: common divisors -/
def nE : Nat → Nat → Nat → Nat
  | 0, d, _ => d
  | n + 1, d, a => if a = 0 then d else nE n a (d % a)
def fb : Nat → Nat
  | 0 => 0
  | 1 => 1
  | n + 2 => fb (n + 1) + fb n
theorem fb_0 : fb 0 = 0 := rfl
theorem fb_1 : fb 1 = 1 := rfl
theorem fb_2 : fb 2 = 1 := by rw [show fb 2 = fb 1 + fb 0 from rfl, fb_1, fb_0]
theorem fb_3 : fb 3 = 2 := by rw [show fb 3 = fb 2 + fb 1 from rfl, fb_2, fb_1]
theorem fb_4 : fb 4 = 3 := by rw [show fb 4 = fb 3 + fb 2 from rfl, fb_3, fb_2]
theorem fb_5 : fb 5 = 5 := by rw [show fb 5 = fb 4 + fb 3 from rfl, fb_4, fb_3]
theorem fb_6 : fb 6 = 8 := by rw [show fb 6 = fb 5 + fb 4 from rfl, fb_5, fb_4]
theorem fb_7 : fb 7 = 13 := by rw [show fb 7 = fb 6 + fb 5 from rfl, fb_6, fb_5]
theorem fb_8 : fb 8 = 21 := by rw [show fb 8 = fb 7 + fb 6 from rfl, fb_7, fb_6]
theorem fb_9 : fb 9 = 34 := by rw [show fb 9 = fb 8 + fb 7 from rfl, fb_8, fb_7]
theorem fb_10 : fb 10 = 55 := by rw [show fb 10 = fb 9 + fb 8 from rfl, fb_9, fb_8]
theorem fb_11 : fb 11 = 89 := by rw [show fb 11 = fb 10 + fb 9 from rfl, fb_10, fb_9]
theorem fb_12 : fb 12 = 144 := by rw [show fb 12 = fb 11 + fb 10 from rfl, fb_11, fb_10]
theorem fb_13 : fb 13 = 233 := by rw [show fb 13 = fb 12 + fb 11 from rfl, fb_12, fb_11]
theorem fb_14 : fb 14 = 377 := by rw [show fb 14 = fb 13 + fb 12 from rfl, fb_13, fb_12]
theorem fb_15 : fb 15 = 610 := by rw [show fb 15 = fb 14 + fb 13 from rfl, fb_14, fb_13]
theorem fb_16 : fb 16 = 987 := by rw [show fb 16 = fb 15 + fb 14 from rfl, fb_15, fb_14]
theorem fb_17 : fb 17 = 1597 := by rw [show fb 17 = fb 16 + fb 15 from rfl, fb_16, fb_15]
theorem fb_18 : fb 18 = 2584 := by rw [show fb 18 = fb 17 + fb 16 from rfl, fb_17, fb_16]
theorem fb_19 : fb 19 = 4181 := by rw [show fb 19 = fb 18 + fb 17 from rfl, fb_18, fb_17]
theorem fb_20 : fb 20 = 6765 := by rw [show fb 20 = fb 19 + fb 18 from rfl, fb_19, fb_18]
theorem fb_21 : fb 21 = 10946 := by rw [show fb 21 = fb 20 + fb 19 from rfl, fb_20, fb_19]
theorem fb_22 : fb 22 = 17711 := by rw [show fb 22 = fb 21 + fb 20 from rfl, fb_21, fb_20]
theorem fb_23 : fb 23 = 28657 := by rw [show fb 23 = fb 22 + fb 21 from rfl, fb_22, fb_21]
theorem fb_24 : fb 24 = 46368 := by rw [show fb 24 = fb 23 + fb 22 from rfl, fb_23, fb_22]
theorem fb_25 : fb 25 = 75025 := by rw [show fb 25 = fb 24 + fb 23 from rfl, fb_24, fb_23]
theorem fb_26 : fb 26 = 121393 := by rw [show fb 26 = fb 25 + fb 24 from rfl, fb_25, fb_24]
theorem fb_27 : fb 27 = 196418 := by rw [show fb 27 = fb 26 + fb 25 from rfl, fb_26, fb_25]
theorem fb_28 : fb 28 = 317811 := by rw [show fb 28 = fb 27 + fb 26 from rfl, fb_27, fb_26]
theorem fb_29 : fb 29 = 514229 := by rw [show fb 29 = fb 28 + fb 27 from rfl, fb_28, fb_27]
theorem fb_30 : fb 30 = 832040 := by rw [show fb 30 = fb 29 + fb 28 from rfl, fb_29, fb_28]
theorem fb_31 : fb 31 = 1346269 := by rw [show fb 31 = fb 30 + fb 29 from rfl, fb_30, fb_29]
theorem fb_32 : fb 32 = 2178309 := by rw [show fb 32 = fb 31 + fb 30 from rfl, fb_31, fb_30]
theorem fb_33 : fb 33 = 3524578 := by rw [show fb 33 = fb 32 + fb 31 from rfl, fb_32, fb_31]
theorem fb_34 : fb 34 = 5702887 := by rw [show fb 34 = fb 33 + fb 32 from rfl, fb_33, fb_32]
theorem fb_35 : fb 35 = 9227465 := by rw [show fb 35 = fb 34 + fb 33 from rfl, fb_34, fb_33]
theorem fb_36 : fb 36 = 14930352 := by rw [show fb 36 = fb 35 + fb 34 from rfl, fb_35, fb_34]
theorem fb_37 : fb 37 = 24157817 := by rw [show fb 37 = fb 36 + fb 35 from rfl, fb_36, fb_35]
theorem fb_38 : fb 38 = 39088169 := by rw [show fb 38 = fb 37 + fb 36 from rfl, fb_37, fb_36]
theorem fb_39 : fb 39 = 63245986 := by rw [show fb 39 = fb 38 + fb 37 from rfl, fb_38, fb_37]
theorem fb_40 : fb 40 = 102334155 := by rw [show fb 40 = fb 39 + fb 38 from rfl, fb_39, fb_38]
theorem fb_41 : fb 41 = 165580141 := by rw [show fb 41 = fb 40 + fb 39 from rfl, fb_40, fb_39]
theorem fb_42 : fb 42 = 267914296 := by rw [show fb 42 = fb 41 + fb 40 from rfl, fb_41, fb_40]
theorem fb_43 : fb 43 = 433494437 := by rw [show fb 43 = fb 42 + fb 41 from rfl, fb_42, fb_41]
theorem fb_44 : fb 44 = 701408733 := by rw [show fb 44 = fb 43 + fb 42 from rfl, fb_43, fb_42]
theorem fb_45 : fb 45 = 1134903170 := by rw [show fb 45 = fb 44 + fb 43 from rfl, fb_44, fb_43]
theorem fb_46 : fb 46 = 1836311903 := by rw [show fb 46 = fb 45 + fb 44 from rfl, fb_45, fb_44]
theorem fb_47 : fb 47 = 2971215073 := by rw [show fb 47 = fb 46 + fb 45 from rfl, fb_46, fb_45]
theorem fb_48 : fb 48 = 4807526976 := by rw [show fb 48 = fb 47 + fb 46 from rfl, fb_47, fb_46]
theorem fb_49 : fb 49 = 7778742049 := by rw [show fb 49 = fb 48 + fb 47 from rfl, fb_48, fb_47]
theorem fb_50 : fb 50 = 12586269025 := by rw [show fb 50 = fb 49 + fb 48 from rfl, fb_49, fb_48]
theorem fb_51 : fb 51 = 20365011074 := by rw [show fb 51 = fb 50 + fb 49 from rfl, fb_50, fb_49]
theorem fb_52 : fb 52 = 32951280099 := by rw [show fb 52 = fb 51 + fb 50 from rfl, fb_51, fb_50]
theorem fb_53 : fb 53 = 53316291173 := by rw [show fb 53 = fb 52 + fb 51 from rfl, fb_52, fb_51]
theorem fb_54 : fb 54 = 86267571272 := by rw [show fb 54 = fb 53 + fb 52 from rfl, fb_53, fb_52]
theorem fb_55 : fb 55 = 139583862445 := by rw [show fb 55 = fb 54 + fb 53 from rfl, fb_54, fb_53]
theorem fb_56 : fb 56 = 225851433717 := by rw [show fb 56 = fb 55 + fb 54 from rfl, fb_55, fb_54]
theorem fb_57 : fb 57 = 365435296162 := by rw [show fb 57 = fb 56 + fb 55 from rfl, fb_56, fb_55]
theorem fb_58 : fb 58 = 591286729879 := by rw [show fb 58 = fb 57 + fb 56 from rfl, fb_57, fb_56]
theorem fb_59 : fb 59 = 956722026041 := by rw [show fb 59 = fb 58 + fb 57 from rfl, fb_58, fb_57]
theorem fb_60 : fb 60 = 1548008755920 := by rw [show fb 60 = fb 59 + fb 58 from rfl, fb_59, fb_58]
theorem fb_61 : fb 61 = 2504730781961 := by rw [show fb 61 = fb 60 + fb 59 from rfl, fb_60, fb_59]
theorem fb_62 : fb 62 = 4052739537881 := by rw [show fb 62 = fb 61 + fb 60 from rfl, fb_61, fb_60]
theorem fb_63 : fb 63 = 6557470319842 := by rw [show fb 63 = fb 62 + fb 61 from rfl, fb_62, fb_61]
theorem fb_64 : fb 64 = 10610209857723 := by rw [show fb 64 = fb 63 + fb 62 from rfl, fb_63, fb_62]
theorem fb_65 : fb 65 = 17167680177565 := by rw [show fb 65 = fb 64 + fb 63 from rfl, fb_64, fb_63]
theorem fb_66 : fb 66 = 27777890035288 := by rw [show fb 66 = fb 65 + fb 64 from rfl, fb_65, fb_64]
theorem fb_67 : fb 67 = 44945570212853 := by rw [show fb 67 = fb 66 + fb 65 from rfl, fb_66, fb_65]
theorem fb_68 : fb 68 = 72723460248141 := by rw [show fb 68 = fb 67 + fb 66 from rfl, fb_67, fb_66]
theorem fb_69 : fb 69 = 117669030460994 := by rw [show fb 69 = fb 68 + fb 67 from rfl, fb_68, fb_67]
theorem fb_70 : fb 70 = 190392490709135 := by rw [show fb 70 = fb 69 + fb 68 from rfl, fb_69, fb_68]
theorem fb_71 : fb 71 = 308061521170129 := by rw [show fb 71 = fb 70 + fb 69 from rfl, fb_70, fb_69]
theorem fb_72 : fb 72 = 498454011879264 := by rw [show fb 72 = fb 71 + fb 70 from rfl, fb_71, fb_70]
theorem fb_73 : fb 73 = 806515533049393 := by rw [show fb 73 = fb 72 + fb 71 from rfl, fb_72, fb_71]
theorem fb_74 : fb 74 = 1304969544928657 := by rw [show fb 74 = fb 73 + fb 72 from rfl, fb_73, fb_72]
theorem fb_75 : fb 75 = 2111485077978050 := by rw [show fb 75 = fb 74 + fb 73 from rfl, fb_74, fb_73]
theorem fb_76 : fb 76 = 3416454622906707 := by rw [show fb 76 = fb 75 + fb 74 from rfl, fb_75, fb_74]
theorem fb_77 : fb 77 = 5527939700884757 := by rw [show fb 77 = fb 76 + fb 75 from rfl, fb_76, fb_75]
theorem fb_78 : fb 78 = 8944394323791464 := by rw [show fb 78 = fb 77 + fb 76 from rfl, fb_77, fb_76]
theorem fb_79 : fb 79 = 14472334024676221 := by rw [show fb 79 = fb 78 + fb 77 from rfl, fb_78, fb_77]
theorem fb_80 : fb 80 = 23416728348467685 := by rw [show fb 80 = fb 79 + fb 78 from rfl, fb_79, fb_78]
theorem fb_81 : fb 81 = 37889062373143906 := by rw [show fb 81 = fb 80 + fb 79 from rfl, fb_80, fb_79]
theorem fb_82 : fb 82 = 61305790721611591 := by rw [show fb 82 = fb 81 + fb 80 from rfl, fb_81, fb_80]
theorem fb_83 : fb 83 = 99194853094755497 := by rw [show fb 83 = fb 82 + fb 81 from rfl, fb_82, fb_81]
theorem fb_84 : fb 84 = 160500643816367088 := by rw [show fb 84 = fb 83 + fb 82 from rfl, fb_83, fb_82]
theorem fb_85 : fb 85 = 259695496911122585 := by rw [show fb 85 = fb 84 + fb 83 from rfl, fb_84, fb_83]
theorem fb_86 : fb 86 = 420196140727489673 := by rw [show fb 86 = fb 85 + fb 84 from rfl, fb_85, fb_84]
theorem fb_87 : fb 87 = 679891637638612258 := by rw [show fb 87 = fb 86 + fb 85 from rfl, fb_86, fb_85]
theorem fb_88 : fb 88 = 1100087778366101931 := by rw [show fb 88 = fb 87 + fb 86 from rfl, fb_87, fb_86]
theorem fb_89 : fb 89 = 1779979416004714189 := by rw [show fb 89 = fb 88 + fb 87 from rfl, fb_88, fb_87]
theorem fb_90 : fb 90 = 2880067194370816120 := by rw [show fb 90 = fb 89 + fb 88 from rfl, fb_89, fb_88]
theorem fb_91 : fb 91 = 4660046610375530309 := by rw [show fb 91 = fb 90 + fb 89 from rfl, fb_90, fb_89]
theorem fb_92 : fb 92 = 7540113804746346429 := by rw [show fb 92 = fb 91 + fb 90 from rfl, fb_91, fb_90]
theorem fb_93 : fb 93 = 12200160415121876738 := by rw [show fb 93 = fb 92 + fb 91 from rfl, fb_92, fb_91]
theorem fb_94 : fb 94 = 19740274219868223167 := by rw [show fb 94 = fb 93 + fb 92 from rfl, fb_93, fb_92]
theorem fb_95 : fb 95 = 31940434634990099905 := by rw [show fb 95 = fb 94 + fb 93 from rfl, fb_94, fb_93]
theorem fb_96 : fb 96 = 51680708854858323072 := by rw [show fb 96 = fb 95 + fb 94 from rfl, fb_95, fb_94]
theorem fb_97 : fb 97 = 83621143489848422977 := by rw [show fb 97 = fb 96 + fb 95 from rfl, fb_96, fb_95]
theorem fb_98 : fb 98 = 135301852344706746049 := by rw [show fb 98 = fb 97 + fb 96 from rfl, fb_97, fb_96]
theorem fb_99 : fb 99 = 218922995834555169026 := by rw [show fb 99 = fb 98 + fb 97 from rfl, fb_98, fb_97]
theorem fb_100 : fb 100 = 354224848179261915075 := by rw [show fb 100 = fb 99 + fb 98 from rfl, fb_99, fb_98]
theorem nE_lame : ∀ n x y, y < x → (y < fb (n + 1) ∨ x < fb (n + 2)) → nE n x y = Nat.gcd x y
  | 0, x, y, hxy, h => by
    have h1 : fb (0 + 1) = 1 := rfl
    have h2 : fb (0 + 2) = 1 := rfl
    have : y = 0 := by omega
    subst this
    show x = Nat.gcd x 0
    rw [Nat.gcd_zero_right]
  | n + 1, x, y, hxy, h => by
    unfold nE
    by_cases w : y = 0
    · subst w
      rw [if_pos rfl, Nat.gcd_zero_right]
    · rw [if_neg w]
      have hr : x % y < y := Nat.mod_lt x (by omega)
      have hdm := Nat.div_add_mod x y
      have hq : 1 ≤ x / y := (Nat.one_le_div_iff (by omega)).mpr (by omega)
      have hyq : y ≤ y * (x / y) := Nat.le_mul_of_pos_right y (by omega)
      have hs : fb (n + 1 + 2) = fb (n + 2) + fb (n + 1) := rfl
      rw [nE_lame n y (x % y) hr (by
        rcases h with h | h
        · exact Or.inr h
        · rw [hs] at h
          rcases Nat.lt_or_ge (x % y) (fb (n + 1)) with q | q
          · exact Or.inl q
          · exact Or.inr (by omega))]
      rw [Nat.gcd_comm y, ← Nat.gcd_rec, Nat.gcd_comm]
theorem nE_100 {x y : Nat} (hy : y < 2 ^ 63) : nE 100 x y = Nat.gcd x y := by
  show (if y = 0 then x else nE 99 y (x % y)) = _
  by_cases w : y = 0
  · subst w
    rw [if_pos rfl, Nat.gcd_zero_right]
  · rw [if_neg w]
    have hr : x % y < y := Nat.mod_lt x (by omega)
    have h100 : fb (99 + 1) = 354224848179261915075 := fb_100
    rw [nE_lame 99 y (x % y) hr (Or.inl (by omega)), Nat.gcd_comm y, ← Nat.gcd_rec, Nat.gcd_comm]
theorem nE_big : ∀ n x y, y < n → nE n x y = Nat.gcd x y
  | 0, x, y, h => by omega
  | n + 1, x, y, h => by
    unfold nE
    by_cases w : y = 0
    · subst w
      rw [if_pos rfl, Nat.gcd_zero_right]
    · rw [if_neg w]
      have hr : x % y < y := Nat.mod_lt x (by omega)
      rw [nE_big n y (x % y) (by omega), Nat.gcd_comm y, ← Nat.gcd_rec, Nat.gcd_comm]
theorem i64_b (x : Int64) : -2 ^ 63 ≤ x.toInt ∧ x.toInt < 2 ^ 63 := by
  have h1 := Int64.le_toInt x
  have h2 := Int64.toInt_lt x
  omega
theorem i64_bm {z : Int} (h1 : -2 ^ 63 ≤ z) (h2 : z < 2 ^ 63) : z.bmod (2 ^ 64) = z := Int.bmod_eq_of_le (by omega) (by omega)
theorem i64_add {x y : Int64} (h1 : -2 ^ 63 ≤ x.toInt + y.toInt) (h2 : x.toInt + y.toInt < 2 ^ 63) : (x + y).toInt = x.toInt + y.toInt := by rw [Int64.toInt_add]; exact i64_bm h1 h2
theorem i64_sub {x y : Int64} (h1 : -2 ^ 63 ≤ x.toInt - y.toInt) (h2 : x.toInt - y.toInt < 2 ^ 63) : (x - y).toInt = x.toInt - y.toInt := by rw [Int64.toInt_sub]; exact i64_bm h1 h2
theorem i64_mul {x y : Int64} (h1 : -2 ^ 63 ≤ x.toInt * y.toInt) (h2 : x.toInt * y.toInt < 2 ^ 63) : (x * y).toInt = x.toInt * y.toInt := by rw [Int64.toInt_mul]; exact i64_bm h1 h2
theorem i64_neg {x : Int64} (h : -2 ^ 63 < x.toInt) : (-x).toInt = -x.toInt := by
  have := i64_b x
  rw [Int64.toInt_neg]
  exact i64_bm (by omega) (by omega)
theorem i64_div {x y : Int64} (h : -2 ^ 63 < x.toInt) : (x / y).toInt = x.toInt.tdiv y.toInt := by
  have hb := i64_b x
  rw [Int64.toInt_div]
  have : (x.toInt.tdiv y.toInt).natAbs ≤ x.toInt.natAbs := by
    rw [Int.natAbs_tdiv]
    exact Nat.div_le_self _ _
  exact i64_bm (by omega) (by omega)
theorem j64_rem {x y : Int64} (hx : 0 ≤ x.toInt) (hy : 0 < y.toInt) : (x - x / y * y).toInt = x.toInt % y.toInt := by
  have hb := i64_b x
  have hd : (x / y).toInt = x.toInt / y.toInt := by rw [i64_div (by omega), Int.tdiv_eq_ediv_of_nonneg hx]
  have h1 := Int.mul_ediv_add_emod x.toInt y.toInt
  have h2 := Int.emod_nonneg x.toInt (show y.toInt ≠ 0 by omega)
  have h3 := Int.emod_lt_of_pos x.toInt hy
  have h4 : 0 ≤ y.toInt * (x.toInt / y.toInt) := Int.mul_nonneg (by omega) (Int.ediv_nonneg hx (by omega))
  have hm : (x / y * y).toInt = y.toInt * (x.toInt / y.toInt) := by
    rw [i64_mul, hd, Int.mul_comm]
    · rw [hd, Int.mul_comm]; omega
    · rw [hd, Int.mul_comm]; omega
  rw [i64_sub, hm]
  · omega
  · rw [hm]; omega
  · rw [hm]; omega
theorem i64_eq0 {x : Int64} : x = 0 ↔ x.toInt = 0 := by rw [← Int64.toInt_inj]; rfl
theorem gcE_nE : ∀ n (d a : Int64), 0 ≤ d.toInt → 0 ≤ a.toInt → (gcE n d a).toInt = (nE n d.toInt.toNat a.toInt.toNat : Int)
  | 0, d, a, hd, ha => by
    show d.toInt = (d.toInt.toNat : Int)
    omega
  | n + 1, d, a, hd, ha => by
    unfold gcE nE
    by_cases w : a = 0
    · have w2 : a.toInt.toNat = 0 := by rw [w]; rfl
      rw [if_pos w, if_pos w2]
      omega
    · have hp : 0 < a.toInt := by
        rcases Int.lt_or_eq_of_le ha with q | q
        · exact q
        · exact absurd (i64_eq0.mpr q.symm) w
      have w2 : ¬ a.toInt.toNat = 0 := by omega
      have hr := j64_rem hd hp
      have h2 := Int.emod_nonneg d.toInt (show a.toInt ≠ 0 by omega)
      rw [if_neg w, if_neg w2, gcE_nE n a _ ha (by rw [hr]; exact h2), hr]
      congr 2
      rw [Int.toNat_emod hd (by omega)]
theorem ab64_toInt {x : Int64} (h : -2 ^ 63 < x.toInt) : (ab64 x).toInt = (x.toInt.natAbs : Int) := by
  unfold ab64
  by_cases w : x < 0
  · have w2 : x.toInt < 0 := Int64.lt_iff_toInt_lt.mp w
    rw [if_pos w, i64_neg h]
    omega
  · have w2 : ¬ x.toInt < 0 := fun q => w (Int64.lt_iff_toInt_lt.mpr q)
    rw [if_neg w]
    omega
/-- the class's common divisor -/
theorem gcD_gcd {a b : Int64} (ha : -2 ^ 63 < a.toInt) (hb : -2 ^ 63 < b.toInt) : (gcD a b).toInt = (Nat.gcd a.toInt.natAbs b.toInt.natAbs : Int) := by
  unfold gcD
  have h1 := ab64_toInt ha
  have h2 := ab64_toInt hb
  have h3 := i64_b b
  rw [gcE_nE 100 _ _ (by rw [h1]; omega) (by rw [h2]; omega), h1, h2, Int.toNat_natCast, Int.toNat_natCast, nE_100 (by omega)]
/-- the reference's -/
theorem gc64_gcd {d a : Int64} (hd : 0 ≤ d.toInt) (ha : 0 ≤ a.toInt) : (gc64 d a).toInt = (Nat.gcd d.toInt.toNat a.toInt.toNat : Int) := by
  unfold gc64
  have h3 := i64_b a
  rw [gcE_nE _ _ _ hd ha, nE_big _ _ _ (by omega)]
