/-! draws -/
def nL (n : Nat) : Int64 := Int64.ofNat n
theorem nL_toInt {n : Nat} (h : n < 2 ^ 63) : (nL n).toInt = n := by
  unfold nL
  rw [Int64.toInt_ofNat', Int.bmod_def]
  have e : (Int64.size : Nat) = 18446744073709551616 := rfl
  rw [e]
  omega
theorem nL_inj {x : Int64} {n : Nat} (hn : n < 2 ^ 63) (h : x.toInt = n) : x = nL n := by
  apply Int64.toInt_inj.mp
  rw [h, nL_toInt hn]
theorem hm_lmul {x y : Nat} (hx : x < 2 ^ 63) (hy : y < 2 ^ 63) (h : x * y < 2 ^ 63) : nL x * nL y = nL (x * y) := by
  apply nL_inj h
  rw [Int64.toInt_mul, nL_toInt hx, nL_toInt hy, ← Int.natCast_mul, Int.bmod_def]
  omega
theorem hm_ladd {x y : Nat} (h : x + y < 2 ^ 63) : nL x + nL y = nL (x + y) := by
  apply nL_inj h
  rw [Int64.toInt_add, nL_toInt (by omega), nL_toInt (by omega), ← Int.natCast_add, Int.bmod_def]
  omega
theorem hm_lsub {x y : Nat} (hx : x < 2 ^ 63) (h : y ≤ x) : nL x - nL y = nL (x - y) := by
  apply nL_inj (by omega)
  rw [Int64.toInt_sub, nL_toInt hx, nL_toInt (by omega), Int.bmod_def]
  omega
theorem hm_ldiv {x y : Nat} (hx : x < 2 ^ 63) (hy : y < 2 ^ 63) : nL x / nL y = nL (x / y) := by
  have h1 : x / y ≤ x := Nat.div_le_self x y
  apply nL_inj (by omega)
  rw [Int64.toInt_div, nL_toInt hx, nL_toInt hy, ← Int.ofNat_tdiv]
  obtain ⟨z, hz⟩ : ∃ z, x / y = z := ⟨_, rfl⟩
  rw [hz] at h1 ⊢
  rw [Int.bmod_def]
  omega
theorem hm_lrem {x y : Nat} (hx : x < 2 ^ 63) (hy : y < 2 ^ 63) : nL x - nL x / nL y * nL y = nL (x % y) := by
  have h1 : x / y ≤ x := Nat.div_le_self x y
  have h2 := Nat.div_mul_le_self x y
  rw [hm_ldiv hx hy, hm_lmul (by omega) hy (by omega), hm_lsub hx h2]
  congr 1
  have h3 := Nat.mod_add_div x y
  rw [Nat.mul_comm] at h3
  omega
theorem hm_l2i {x : Nat} (hx : x < 2 ^ 31) : (nL x).toInt32 = nI x := by
  apply Int32.toInt_inj.mp
  rw [Int64.toInt_toInt32, nL_toInt (by omega), nI_toInt (by omega), Int.bmod_def]
  omega
theorem hm_i2l {x : Nat} (hx : x < 2 ^ 31) : (nI x).toInt64 = nL x := by
  apply nL_inj (by omega)
  rw [Int32.toInt_toInt64, nI_toInt (by omega)]
def hmDraw (n : Nat) : Nat := (n * 1103515245 + 12345) % 2147483648
theorem hmDraw_lt (n : Nat) : hmDraw n < 2147483648 := Nat.mod_lt _ (by omega)
theorem hm_draw {n : Nat} (hn : n < 2147483648) : (nL n * 1103515245 + 12345) - (nL n * 1103515245 + 12345) / 2147483648 * 2147483648 = nL (hmDraw n) := by
  have e1 : (1103515245 : Int64) = nL 1103515245 := rfl
  have e2 : (12345 : Int64) = nL 12345 := rfl
  have e3 : (2147483648 : Int64) = nL 2147483648 := rfl
  rw [e1, e2, e3, hm_lmul (by omega) (by omega) (by omega), hm_ladd (by omega), hm_lrem (by omega) (by omega)]
  rfl
def hmWhom (k g : Nat) : Nat := g / 65536 % k
theorem hm_whom {k g : Nat} (hg : g < 2147483648) (hk : k ≤ 6) : (nL g / 65536) - (nL g / 65536) / nL k * nL k = nL (hmWhom k g) := by
  have e1 : (65536 : Int64) = nL 65536 := rfl
  have h1 : g / 65536 ≤ g := Nat.div_le_self _ _
  rw [e1, hm_ldiv (by omega) (by omega), hm_lrem (by omega) (by omega)]
  rfl
/-- somebody drawn acts -/
def hmAct (O : hmO) (H : hmH) (n : Nat) : hmH × Nat :=
  if hmN O = 0 then (H, n)
  else if hmCanRing H (hmWhom (hmN O) (hmDraw n)) = true then (hmCome H (hmWhom (hmN O) (hmDraw n)), hmDraw n)
  else if hmWhom (hmN O) (hmDraw n) ∈ hmLine H then
    (if hmWhom 4 (hmDraw (hmDraw n)) = 0 then (hmLeave H (hmWhom (hmN O) (hmDraw n)), hmDraw (hmDraw n)) else (H, hmDraw (hmDraw n)))
  else (H, hmDraw n)
theorem hmWhom_lt {k g : Nat} (hk : 0 < k) : hmWhom k g < k := Nat.mod_lt _ hk
theorem hmAct_ok {O : hmO} {H : hmH} {n : Nat} (hok : hmOk O H) (ho : hmOok O) (hn : n < 2147483648) : hmOk O (hmAct O H n).1 ∧ hmMin (hmAct O H n).1 = hmMin H ∧ (hmAct O H n).2 < 2147483648 := by
  have d1 := hmDraw_lt n
  have d2 := hmDraw_lt (hmDraw n)
  unfold hmAct
  by_cases h0 : hmN O = 0
  · rw [if_pos h0]
    exact ⟨hok, rfl, hn⟩
  · rw [if_neg h0]
    by_cases hr : hmCanRing H (hmWhom (hmN O) (hmDraw n)) = true
    · rw [if_pos hr]
      exact ⟨hmOk_come hok ho (hmWhom_lt (by omega)) hr, rfl, d1⟩
    · rw [if_neg hr]
      split
      · split
        · refine ⟨hmOk_leave hok, ?_, d2⟩
          show hmMin (hmLeave H _) = _
          unfold hmLeave
          split <;> rfl
        · exact ⟨hok, rfl, d2⟩
      · exact ⟨hok, rfl, d1⟩
/-- a run of minutes by draws: the hall, the draws, how many were helped -/
def hmRun (O : hmO) (H : hmH) (s : Nat) : Nat → hmH × Nat × Int32
  | 0 => (H, s, 0)
  | k + 1 => (hmMinute O (hmTk O) (hmAct O (hmRun O H s k).1 (hmRun O H s k).2.1).1, (hmAct O (hmRun O H s k).1 (hmRun O H s k).2.1).2, (hmRun O H s k).2.2 + hmCnt (hmSet (hmMinute O (hmTk O) (hmAct O (hmRun O H s k).1 (hmRun O H s k).2.1).1) &&& (hmSet (hmAct O (hmRun O H s k).1 (hmRun O H s k).2.1).1 ^^^ -1)))
theorem hmRun_ok {O : hmO} {H : hmH} {s : Nat} (hok : hmOk O H) (ho : hmOok O) (hs : s < 2147483648) : ∀ k, hmOk O (hmRun O H s k).1 ∧ hmMin (hmRun O H s k).1 ≤ hmMin H + k ∧ (hmRun O H s k).2.1 < 2147483648 := by
  intro k
  induction k with
  | zero => exact ⟨hok, Nat.le_refl _, hs⟩
  | succ k ih =>
    obtain ⟨h1, h2, h3⟩ := ih
    obtain ⟨a1, a2, a3⟩ := hmAct_ok h1 ho h3
    refine ⟨hmOk_minute a1 ho, ?_, a3⟩
    show hmMin (hmMinute O (hmTk O) _) ≤ _
    rw [hmMinute_min, a2]
    omega
def spDays (O : hmO) (H : hmH) (v u w : Int32) : Int32 :=
  if hmCal 10000 v = true ∧ (hmCal 100 u = true ∧ ¬ u = 0) ∧ hmCal 3 w = true then (if w = 0 then (hmRun O H (hmIx v) (hmIx u)).2.2 else if w = 1 then hmBits (hmLine (hmRun O H (hmIx v) (hmIx u)).1) else hmAll (hmHas (hmRun O H (hmIx v) (hmIx u)).1) (hmN O)) else -1
