/-- what a step on the tape may change -/
def hmSp (a : Nat) (I I' : xI) : Prop := (∀ x, x ≠ a → I' x = I x) ∧ ∀ k, k ≠ 2 → k ≠ 3 → k ≠ 5 → I' a k = I a k
def hmSl (a : Nat) (L L' : xL) : Prop := ∀ x, x ≠ a → L' x = L x
theorem hmSp.rf {a : Nat} {I : xI} : hmSp a I I := ⟨fun _ _ => rfl, fun _ _ _ _ => rfl⟩
theorem hmSp.tr {a : Nat} {I J K : xI} (h1 : hmSp a I J) (h2 : hmSp a J K) : hmSp a I K := ⟨fun x hx => (h2.1 x hx).trans (h1.1 x hx), fun k p q r => (h2.2 k p q r).trans (h1.2 k p q r)⟩
theorem hmSp.up {a : Nat} {I J : xI} (h : hmSp a I J) {r : Nat → Int32} {k : Nat} {v : Int32} (e : J a = r) (hk : k = 2 ∨ k = 3 ∨ k = 5) : hmSp a I (va_up J a (va_up r k v)) := by
  subst e
  exact ⟨fun x hx => by rw [va_up_ne _ _ hx]; exact h.1 x hx, fun q p1 p2 p3 => by rw [va_up_self, va_up_ne _ _ (by omega)]; exact h.2 q p1 p2 p3⟩
theorem hmSl.rf {a : Nat} {L : xL} : hmSl a L L := fun _ _ => rfl
theorem hmSl.tr {a : Nat} {L J K : xL} (h1 : hmSl a L J) (h2 : hmSl a J K) : hmSl a L K := fun x hx => (h2 x hx).trans (h1 x hx)
theorem hmSl.up {a : Nat} {L J : xL} (h : hmSl a L J) {r : Nat → Int64} : hmSl a L (va_up J a r) := fun x hx => by rw [va_up_ne _ _ hx]; exact h x hx
theorem hmTp.sp {a : Nat} {I J : xI} {T : List Nat} (h : hmTp I a T) (hs : hmSp a I J) : hmTp J a T := ⟨h.1, by rw [hs.2 1 (by omega) (by omega) (by omega)]; exact h.2.1, fun i hi => by rw [hs.1 (a + 1) (by omega)]; exact h.2.2 i hi⟩
def hmVt (t : hmTok) (v : Int64) : Prop := (t.1 = 2 → v = hmE256 t.2.1) ∧ (t.1 = 3 → v = nL (hmDec t.2.1)) ∧ (t.1 = 4 → v = nL (t.2.1.getD 0 0))
/-- the tape stands at a token, some tokens behind it -/
def hmAt (I : xI) (L : xL) (a : Nat) (T : List Nat) (t : hmTok) (r : List hmTok) : Prop := I a 2 = nI t.1 ∧ I a 3 = nI t.2.2 ∧ hmVt t (L a 4) ∧ (t.1 = 0 → r = []) ∧ (¬ t.1 = 0 → ∃ q, I a 5 = nI q ∧ hmTsR T r q) ∧ hmTkOk t ∧ t.2.2 ≤ 1000
theorem hmAt.kept {I I' : xI} {L L' : xL} {a : Nat} {T : List Nat} {t : hmTok} {r : List hmTok} (h : hmAt I L a T t r) (e1 : I' a = I a) (e2 : L' a = L a) : hmAt I' L' a T t r := by
  unfold hmAt at h ⊢
  rw [e1, e2]
  exact h
theorem hm_let {c : Nat} (hc : c < 127) : (hmLet c = true ↔ nI 97 ≤ nI c ∧ nI c ≤ nI 122) := by
  unfold hmLet
  rw [decide_eq_true_eq, nI_leI (by omega) (by omega), nI_leI (by omega) (by omega)]
theorem hm_dig {c : Nat} (hc : c < 127) : (hmDig c = true ↔ nI 48 ≤ nI c ∧ nI c ≤ nI 57) := by
  unfold hmDig
  rw [decide_eq_true_eq, nI_leI (by omega) (by omega), nI_leI (by omega) (by omega)]
theorem hm_8 : ((8 : Int32).toInt64 &&& 63) = 8 := by decide
theorem hmTp.c {a : Nat} {I : xI} {T : List Nat} (hT : hmTp I a T) (hc : ∀ x, x ∈ T → x < 127) {i : Nat} (hi : i < T.length) : I (a + 1) i = nI (T.getD i 0) ∧ T.getD i 0 < 127 := ⟨hT.2.2 i hi, hc _ (hm_getD_mem hi)⟩
set_option maxHeartbeats 4000000 in
theorem c_takeWord_loop {d : Nat} {sh : xSh} {R : xR} {L : xL} {I : xI} {Q : xQ} {a : Nat} {T : List Nat} (ha : xTape sh R a) (hT : hmTp I a T) (hc : ∀ x, x ∈ T → x < 127) {pl : Nat} : ∀ n b v J LL, n + b = T.length → pl ≤ b → hmSp a I J → hmSl a L LL → J a 5 = nI b → J a 3 = nI pl → LL a 4 = v → (∀ I' L', hmSp a I I' → hmSl a L L' → I' a 5 = nI (hmEnd hmLet T b) → L' a 4 = (hmCut hmLet T b).foldl (fun (v : Int64) (c : Nat) => (v <<< 8) ||| Int64.ofNat c) v → I' a 2 = nI (if hmEnd hmLet T b - pl ≤ 8 then 2 else 1) → I' a 3 = nI pl → Q none 0 sh R L' I') → Ex d 0 0 MX7_takeWord 0 sh R LL J 0 [some (.ref a)] [] Q := by
  intro n
  induction n with
  | zero =>
    intro b v J LL hn hb gJ gL j5 j3 jv hQ
    have hTJ := hT.sp gJ
    have jl : J a 1 = nI T.length := hTJ.2.1
    have h1000 := hT.1
    refine Ex_aload_n 1 (i := 0) dX7_takeWord_0 rfl rfl rfl ?_
    refine Ex_gI 4 (J a 5) dX7_takeWord_1 fX7_21 ha.1 rfl rfl rfl ?_
    rw [j5]
    refine Ex_aload_n 5 (i := 0) dX7_takeWord_4 rfl rfl rfl ?_
    refine Ex_gI 8 (J a 1) dX7_takeWord_5 fX7_17 ha.1 rfl rfl rfl ?_
    rw [jl]
    refine Ex_icmp_ge 11 74 dX7_takeWord_8 (by decide) rfl (fun c1 => ?_) (fun c1 => absurd c1 (fun q => q (nI_le (by omega) (by omega))))
    refine Ex_aload_n 75 (i := 0) dX7_takeWord_74 rfl rfl rfl ?_
    refine Ex_aload_n 76 (i := 0) dX7_takeWord_75 rfl rfl rfl ?_
    refine Ex_gI 79 (J a 5) dX7_takeWord_76 fX7_21 ha.1 rfl rfl rfl ?_
    rw [j5]
    refine Ex_aload_n 80 (i := 0) dX7_takeWord_79 rfl rfl rfl ?_
    refine Ex_gI 83 (J a 3) dX7_takeWord_80 fX7_34 ha.1 rfl rfl rfl ?_
    rw [j3]
    refine Ex_isub 84 dX7_takeWord_83 rfl ?_
    rw [pk_sub hb]
    refine Ex_bipush 86 (v := 8) dX7_takeWord_84 (by decide) rfl ?_
    refine Ex_icmp_gt 89 93 dX7_takeWord_86 (by decide) rfl (fun c2 => ?_) (fun c2 => ?_)
    · refine Ex_iconst 94 (v := 1) dX7_takeWord_93 (by decide) rfl ?_
      refine Ex_pI 97 (J a) (va_up J a (va_up (J a) 2 1)) dX7_takeWord_94 fX7_27 rfl ha.1 rfl (fun _ => rfl) rfl rfl rfl rfl ?_
      refine Ex_ret0 dX7_takeWord_97 rfl (Or.inl rfl) ?_
      have hbig := (nI_ltI (a := 8) (by omega) (by omega)).mp c2
      rw [hmEnd_no (fun q => absurd q (by omega)), hmCut_no (fun q => absurd q (by omega))] at hQ
      refine hQ _ _ (gJ.up rfl (Or.inl rfl)) gL (by rw [va_up_self, va_up_ne _ _ (by omega)]; exact j5) jv (by rw [va_up_self, va_up_self, if_neg (by omega)]; rfl) (by rw [va_up_self, va_up_ne _ _ (by omega)]; exact j3)
    · refine Ex_iconst 90 (v := 2) dX7_takeWord_89 (by decide) rfl ?_
      refine Ex_goto 94 dX7_takeWord_90 (by decide) ?_
      refine Ex_pI 97 (J a) (va_up J a (va_up (J a) 2 2)) dX7_takeWord_94 fX7_27 rfl ha.1 rfl (fun _ => rfl) rfl rfl rfl rfl ?_
      refine Ex_ret0 dX7_takeWord_97 rfl (Or.inl rfl) ?_
      have hbig : ¬ 8 < b - pl := fun q => c2 ((nI_ltI (a := 8) (by omega) (by omega)).mpr q)
      rw [hmEnd_no (fun q => absurd q (by omega)), hmCut_no (fun q => absurd q (by omega))] at hQ
      refine hQ _ _ (gJ.up rfl (Or.inl rfl)) gL (by rw [va_up_self, va_up_ne _ _ (by omega)]; exact j5) jv (by rw [va_up_self, va_up_self, if_pos (by omega)]; rfl) (by rw [va_up_self, va_up_ne _ _ (by omega)]; exact j3)
  | succ n ih =>
    intro b v J LL hn hb gJ gL j5 j3 jv hQ
    have hTJ := hT.sp gJ
    have jl : J a 1 = nI T.length := hTJ.2.1
    have h1000 := hT.1
    obtain ⟨tc, tb⟩ := hTJ.c hc (show b < T.length by omega)
    refine Ex_aload_n 1 (i := 0) dX7_takeWord_0 rfl rfl rfl ?_
    refine Ex_gI 4 (J a 5) dX7_takeWord_1 fX7_21 ha.1 rfl rfl rfl ?_
    rw [j5]
    refine Ex_aload_n 5 (i := 0) dX7_takeWord_4 rfl rfl rfl ?_
    refine Ex_gI 8 (J a 1) dX7_takeWord_5 fX7_17 ha.1 rfl rfl rfl ?_
    rw [jl]
    refine Ex_icmp_ge 11 74 dX7_takeWord_8 (by decide) rfl (fun c1 => absurd c1 (nI_ge (by omega) (by omega))) (fun c1 => ?_)
    refine Ex_aload_n 12 (i := 0) dX7_takeWord_11 rfl rfl rfl ?_
    refine Ex_getR 15 dX7_takeWord_12 fX7_9 ha.1 rfl ha.2.2 rfl ?_
    refine Ex_aload_n 16 (i := 0) dX7_takeWord_15 rfl rfl rfl ?_
    refine Ex_gI 19 (J a 5) dX7_takeWord_16 fX7_21 ha.1 rfl rfl rfl ?_
    rw [j5]
    refine Ex_aB 20 b (J (a + 1) b) dX7_takeWord_19 ha.2.1 rfl (by omega) (by decide) rfl rfl ?_
    rw [tc]
    refine Ex_bipush 22 (v := 97) dX7_takeWord_20 (by decide) rfl ?_
    refine Ex_icmp_lt 25 74 dX7_takeWord_22 (by decide) rfl (fun c2 => ?_) (fun c2 => ?_)
    · refine Ex_aload_n 75 (i := 0) dX7_takeWord_74 rfl rfl rfl ?_
      refine Ex_aload_n 76 (i := 0) dX7_takeWord_75 rfl rfl rfl ?_
      refine Ex_gI 79 (J a 5) dX7_takeWord_76 fX7_21 ha.1 rfl rfl rfl ?_
      rw [j5]
      refine Ex_aload_n 80 (i := 0) dX7_takeWord_79 rfl rfl rfl ?_
      refine Ex_gI 83 (J a 3) dX7_takeWord_80 fX7_34 ha.1 rfl rfl rfl ?_
      rw [j3]
      refine Ex_isub 84 dX7_takeWord_83 rfl ?_
      rw [pk_sub hb]
      refine Ex_bipush 86 (v := 8) dX7_takeWord_84 (by decide) rfl ?_
      refine Ex_icmp_gt 89 93 dX7_takeWord_86 (by decide) rfl (fun c3 => ?_) (fun c3 => ?_)
      · refine Ex_iconst 94 (v := 1) dX7_takeWord_93 (by decide) rfl ?_
        refine Ex_pI 97 (J a) (va_up J a (va_up (J a) 2 1)) dX7_takeWord_94 fX7_27 rfl ha.1 rfl (fun _ => rfl) rfl rfl rfl rfl ?_
        refine Ex_ret0 dX7_takeWord_97 rfl (Or.inl rfl) ?_
        have hbig := (nI_ltI (a := 8) (by omega) (by omega)).mp c3
        have hno : hmLet (T.getD b 0) = false := by
          cases e : hmLet (T.getD b 0) with
          | false => rfl
          | true => exact absurd ((hm_let tb).mp e).1 (Int32.not_le.mpr c2)
        rw [hmEnd_no (fun q => hno), hmCut_no (fun q => hno)] at hQ
        refine hQ _ _ (gJ.up rfl (Or.inl rfl)) gL (by rw [va_up_self, va_up_ne _ _ (by omega)]; exact j5) jv (by rw [va_up_self, va_up_self, if_neg (by omega)]; rfl) (by rw [va_up_self, va_up_ne _ _ (by omega)]; exact j3)
      · refine Ex_iconst 90 (v := 2) dX7_takeWord_89 (by decide) rfl ?_
        refine Ex_goto 94 dX7_takeWord_90 (by decide) ?_
        refine Ex_pI 97 (J a) (va_up J a (va_up (J a) 2 2)) dX7_takeWord_94 fX7_27 rfl ha.1 rfl (fun _ => rfl) rfl rfl rfl rfl ?_
        refine Ex_ret0 dX7_takeWord_97 rfl (Or.inl rfl) ?_
        have hbig : ¬ 8 < b - pl := fun q => c3 ((nI_ltI (a := 8) (by omega) (by omega)).mpr q)
        have hno : hmLet (T.getD b 0) = false := by
          cases e : hmLet (T.getD b 0) with
          | false => rfl
          | true => exact absurd ((hm_let tb).mp e).1 (Int32.not_le.mpr c2)
        rw [hmEnd_no (fun q => hno), hmCut_no (fun q => hno)] at hQ
        refine hQ _ _ (gJ.up rfl (Or.inl rfl)) gL (by rw [va_up_self, va_up_ne _ _ (by omega)]; exact j5) jv (by rw [va_up_self, va_up_self, if_pos (by omega)]; rfl) (by rw [va_up_self, va_up_ne _ _ (by omega)]; exact j3)
    · refine Ex_aload_n 26 (i := 0) dX7_takeWord_25 rfl rfl rfl ?_
      refine Ex_getR 29 dX7_takeWord_26 fX7_9 ha.1 rfl ha.2.2 rfl ?_
      refine Ex_aload_n 30 (i := 0) dX7_takeWord_29 rfl rfl rfl ?_
      refine Ex_gI 33 (J a 5) dX7_takeWord_30 fX7_21 ha.1 rfl rfl rfl ?_
      rw [j5]
      refine Ex_aB 34 b (J (a + 1) b) dX7_takeWord_33 ha.2.1 rfl (by omega) (by decide) rfl rfl ?_
      rw [tc]
      refine Ex_bipush 36 (v := 122) dX7_takeWord_34 (by decide) rfl ?_
      refine Ex_icmp_gt 39 74 dX7_takeWord_36 (by decide) rfl (fun c4 => ?_) (fun c4 => ?_)
      · refine Ex_aload_n 75 (i := 0) dX7_takeWord_74 rfl rfl rfl ?_
        refine Ex_aload_n 76 (i := 0) dX7_takeWord_75 rfl rfl rfl ?_
        refine Ex_gI 79 (J a 5) dX7_takeWord_76 fX7_21 ha.1 rfl rfl rfl ?_
        rw [j5]
        refine Ex_aload_n 80 (i := 0) dX7_takeWord_79 rfl rfl rfl ?_
        refine Ex_gI 83 (J a 3) dX7_takeWord_80 fX7_34 ha.1 rfl rfl rfl ?_
        rw [j3]
        refine Ex_isub 84 dX7_takeWord_83 rfl ?_
        rw [pk_sub hb]
        refine Ex_bipush 86 (v := 8) dX7_takeWord_84 (by decide) rfl ?_
        refine Ex_icmp_gt 89 93 dX7_takeWord_86 (by decide) rfl (fun c5 => ?_) (fun c5 => ?_)
        · refine Ex_iconst 94 (v := 1) dX7_takeWord_93 (by decide) rfl ?_
          refine Ex_pI 97 (J a) (va_up J a (va_up (J a) 2 1)) dX7_takeWord_94 fX7_27 rfl ha.1 rfl (fun _ => rfl) rfl rfl rfl rfl ?_
          refine Ex_ret0 dX7_takeWord_97 rfl (Or.inl rfl) ?_
          have hbig := (nI_ltI (a := 8) (by omega) (by omega)).mp c5
          have hno : hmLet (T.getD b 0) = false := by
            cases e : hmLet (T.getD b 0) with
            | false => rfl
            | true => exact absurd ((hm_let tb).mp e).2 (Int32.not_le.mpr c4)
          rw [hmEnd_no (fun q => hno), hmCut_no (fun q => hno)] at hQ
          refine hQ _ _ (gJ.up rfl (Or.inl rfl)) gL (by rw [va_up_self, va_up_ne _ _ (by omega)]; exact j5) jv (by rw [va_up_self, va_up_self, if_neg (by omega)]; rfl) (by rw [va_up_self, va_up_ne _ _ (by omega)]; exact j3)
        · refine Ex_iconst 90 (v := 2) dX7_takeWord_89 (by decide) rfl ?_
          refine Ex_goto 94 dX7_takeWord_90 (by decide) ?_
          refine Ex_pI 97 (J a) (va_up J a (va_up (J a) 2 2)) dX7_takeWord_94 fX7_27 rfl ha.1 rfl (fun _ => rfl) rfl rfl rfl rfl ?_
          refine Ex_ret0 dX7_takeWord_97 rfl (Or.inl rfl) ?_
          have hbig : ¬ 8 < b - pl := fun q => c5 ((nI_ltI (a := 8) (by omega) (by omega)).mpr q)
          have hno : hmLet (T.getD b 0) = false := by
            cases e : hmLet (T.getD b 0) with
            | false => rfl
            | true => exact absurd ((hm_let tb).mp e).2 (Int32.not_le.mpr c4)
          rw [hmEnd_no (fun q => hno), hmCut_no (fun q => hno)] at hQ
          refine hQ _ _ (gJ.up rfl (Or.inl rfl)) gL (by rw [va_up_self, va_up_ne _ _ (by omega)]; exact j5) jv (by rw [va_up_self, va_up_self, if_pos (by omega)]; rfl) (by rw [va_up_self, va_up_ne _ _ (by omega)]; exact j3)
      · refine Ex_aload_n 40 (i := 0) dX7_takeWord_39 rfl rfl rfl ?_
        refine Ex_aload_n 41 (i := 0) dX7_takeWord_40 rfl rfl rfl ?_
        refine Ex_gL 44 (LL a 4) dX7_takeWord_41 fX7_30 ha.1 rfl rfl ?_
        rw [jv]
        refine Ex_bipush 46 (v := 8) dX7_takeWord_44 (by decide) rfl ?_
        refine Ex_lshl 47 dX7_takeWord_46 rfl ?_
        rw [hm_8]
        refine Ex_aload_n 48 (i := 0) dX7_takeWord_47 rfl rfl rfl ?_
        refine Ex_getR 51 dX7_takeWord_48 fX7_9 ha.1 rfl ha.2.2 rfl ?_
        refine Ex_aload_n 52 (i := 0) dX7_takeWord_51 rfl rfl rfl ?_
        refine Ex_gI 55 (J a 5) dX7_takeWord_52 fX7_21 ha.1 rfl rfl rfl ?_
        rw [j5]
        refine Ex_aB 56 b (J (a + 1) b) dX7_takeWord_55 ha.2.1 rfl (by omega) (by decide) rfl rfl ?_
        rw [tc]
        refine Ex_i2l 57 dX7_takeWord_56 rfl ?_
        rw [hm_i2l (by omega)]
        refine Ex_lor 58 dX7_takeWord_57 rfl ?_
        refine Ex_pL 61 (LL a) (va_up LL a (va_up (LL a) 4 ((v <<< 8) ||| (nL (T.getD b 0))))) dX7_takeWord_58 fX7_30 rfl ha.1 rfl rfl rfl ?_
        refine Ex_aload_n 62 (i := 0) dX7_takeWord_61 rfl rfl rfl ?_
        refine Ex_dup 63 dX7_takeWord_62 rfl rfl ?_
        refine Ex_gI 66 (J a 5) dX7_takeWord_63 fX7_21 ha.1 rfl rfl rfl ?_
        rw [j5]
        refine Ex_iconst 67 (v := 1) dX7_takeWord_66 (by decide) rfl ?_
        refine Ex_iadd 68 dX7_takeWord_67 rfl ?_
        rw [nI_1]
        refine Ex_pI 71 (J a) (va_up J a (va_up (J a) 5 (nI (b + 1)))) dX7_takeWord_68 fX7_21 rfl ha.1 rfl (fun _ => rfl) rfl rfl rfl rfl ?_
        refine Ex_goto 0 dX7_takeWord_71 (by decide) ?_
        have hyes : hmLet (T.getD b 0) = true := (hm_let tb).mpr ⟨Int32.not_lt.mp c2, Int32.not_lt.mp c4⟩
        rw [hmEnd_yes (by omega) hyes, hmCut_yes (by omega) hyes, List.foldl_cons] at hQ
        exact ih (b + 1) _ _ _ (by omega) (by omega) (gJ.up rfl (Or.inr (Or.inr rfl))) gL.up (by rw [va_up_self, va_up_self]) (by rw [va_up_self, va_up_ne _ _ (by omega)]; exact j3) ((congrFun (va_up_self _ _ _) _).trans (va_up_self _ _ _)) hQ
set_option maxHeartbeats 4000000 in
theorem c_takeNumber_loop {d : Nat} {sh : xSh} {R : xR} {L : xL} {I : xI} {Q : xQ} {a : Nat} {T : List Nat} (ha : xTape sh R a) (hT : hmTp I a T) (hc : ∀ x, x ∈ T → x < 127) {pl : Nat} : ∀ n b v J LL, n + b = T.length → pl ≤ b → hmSp a I J → hmSl a L LL → J a 5 = nI b → J a 3 = nI pl → LL a 4 = v → (∀ I' L', hmSp a I I' → hmSl a L L' → I' a 5 = nI (hmEnd hmDig T b) → L' a 4 = (hmCut hmDig T b).foldl (fun (v : Int64) (c : Nat) => v * 10 + nL (c - 48)) v → I' a 2 = nI (if hmEnd hmDig T b - pl ≤ 4 then 3 else 1) → I' a 3 = nI pl → Q none 0 sh R L' I') → Ex d 0 0 MX7_takeNumber 0 sh R LL J 0 [some (.ref a)] [] Q := by
  intro n
  induction n with
  | zero =>
    intro b v J LL hn hb gJ gL j5 j3 jv hQ
    have hTJ := hT.sp gJ
    have jl : J a 1 = nI T.length := hTJ.2.1
    have h1000 := hT.1
    refine Ex_aload_n 1 (i := 0) dX7_takeNumber_0 rfl rfl rfl ?_
    refine Ex_gI 4 (J a 5) dX7_takeNumber_1 fX7_21 ha.1 rfl rfl rfl ?_
    rw [j5]
    refine Ex_aload_n 5 (i := 0) dX7_takeNumber_4 rfl rfl rfl ?_
    refine Ex_gI 8 (J a 1) dX7_takeNumber_5 fX7_17 ha.1 rfl rfl rfl ?_
    rw [jl]
    refine Ex_icmp_ge 11 78 dX7_takeNumber_8 (by decide) rfl (fun c1 => ?_) (fun c1 => absurd c1 (fun q => q (nI_le (by omega) (by omega))))
    refine Ex_aload_n 79 (i := 0) dX7_takeNumber_78 rfl rfl rfl ?_
    refine Ex_aload_n 80 (i := 0) dX7_takeNumber_79 rfl rfl rfl ?_
    refine Ex_gI 83 (J a 5) dX7_takeNumber_80 fX7_21 ha.1 rfl rfl rfl ?_
    rw [j5]
    refine Ex_aload_n 84 (i := 0) dX7_takeNumber_83 rfl rfl rfl ?_
    refine Ex_gI 87 (J a 3) dX7_takeNumber_84 fX7_34 ha.1 rfl rfl rfl ?_
    rw [j3]
    refine Ex_isub 88 dX7_takeNumber_87 rfl ?_
    rw [pk_sub hb]
    refine Ex_iconst 89 (v := 4) dX7_takeNumber_88 (by decide) rfl ?_
    refine Ex_icmp_gt 92 96 dX7_takeNumber_89 (by decide) rfl (fun c2 => ?_) (fun c2 => ?_)
    · refine Ex_iconst 97 (v := 1) dX7_takeNumber_96 (by decide) rfl ?_
      refine Ex_pI 100 (J a) (va_up J a (va_up (J a) 2 1)) dX7_takeNumber_97 fX7_27 rfl ha.1 rfl (fun _ => rfl) rfl rfl rfl rfl ?_
      refine Ex_ret0 dX7_takeNumber_100 rfl (Or.inl rfl) ?_
      have hbig := (nI_ltI (a := 4) (by omega) (by omega)).mp c2
      rw [hmEnd_no (fun q => absurd q (by omega)), hmCut_no (fun q => absurd q (by omega))] at hQ
      refine hQ _ _ (gJ.up rfl (Or.inl rfl)) gL (by rw [va_up_self, va_up_ne _ _ (by omega)]; exact j5) jv (by rw [va_up_self, va_up_self, if_neg (by omega)]; rfl) (by rw [va_up_self, va_up_ne _ _ (by omega)]; exact j3)
    · refine Ex_iconst 93 (v := 3) dX7_takeNumber_92 (by decide) rfl ?_
      refine Ex_goto 97 dX7_takeNumber_93 (by decide) ?_
      refine Ex_pI 100 (J a) (va_up J a (va_up (J a) 2 3)) dX7_takeNumber_97 fX7_27 rfl ha.1 rfl (fun _ => rfl) rfl rfl rfl rfl ?_
      refine Ex_ret0 dX7_takeNumber_100 rfl (Or.inl rfl) ?_
      have hbig : ¬ 4 < b - pl := fun q => c2 ((nI_ltI (a := 4) (by omega) (by omega)).mpr q)
      rw [hmEnd_no (fun q => absurd q (by omega)), hmCut_no (fun q => absurd q (by omega))] at hQ
      refine hQ _ _ (gJ.up rfl (Or.inl rfl)) gL (by rw [va_up_self, va_up_ne _ _ (by omega)]; exact j5) jv (by rw [va_up_self, va_up_self, if_pos (by omega)]; rfl) (by rw [va_up_self, va_up_ne _ _ (by omega)]; exact j3)
  | succ n ih =>
    intro b v J LL hn hb gJ gL j5 j3 jv hQ
    have hTJ := hT.sp gJ
    have jl : J a 1 = nI T.length := hTJ.2.1
    have h1000 := hT.1
    obtain ⟨tc, tb⟩ := hTJ.c hc (show b < T.length by omega)
    refine Ex_aload_n 1 (i := 0) dX7_takeNumber_0 rfl rfl rfl ?_
    refine Ex_gI 4 (J a 5) dX7_takeNumber_1 fX7_21 ha.1 rfl rfl rfl ?_
    rw [j5]
    refine Ex_aload_n 5 (i := 0) dX7_takeNumber_4 rfl rfl rfl ?_
    refine Ex_gI 8 (J a 1) dX7_takeNumber_5 fX7_17 ha.1 rfl rfl rfl ?_
    rw [jl]
    refine Ex_icmp_ge 11 78 dX7_takeNumber_8 (by decide) rfl (fun c1 => absurd c1 (nI_ge (by omega) (by omega))) (fun c1 => ?_)
    refine Ex_aload_n 12 (i := 0) dX7_takeNumber_11 rfl rfl rfl ?_
    refine Ex_getR 15 dX7_takeNumber_12 fX7_9 ha.1 rfl ha.2.2 rfl ?_
    refine Ex_aload_n 16 (i := 0) dX7_takeNumber_15 rfl rfl rfl ?_
    refine Ex_gI 19 (J a 5) dX7_takeNumber_16 fX7_21 ha.1 rfl rfl rfl ?_
    rw [j5]
    refine Ex_aB 20 b (J (a + 1) b) dX7_takeNumber_19 ha.2.1 rfl (by omega) (by decide) rfl rfl ?_
    rw [tc]
    refine Ex_bipush 22 (v := 48) dX7_takeNumber_20 (by decide) rfl ?_
    refine Ex_icmp_lt 25 78 dX7_takeNumber_22 (by decide) rfl (fun c2 => ?_) (fun c2 => ?_)
    · refine Ex_aload_n 79 (i := 0) dX7_takeNumber_78 rfl rfl rfl ?_
      refine Ex_aload_n 80 (i := 0) dX7_takeNumber_79 rfl rfl rfl ?_
      refine Ex_gI 83 (J a 5) dX7_takeNumber_80 fX7_21 ha.1 rfl rfl rfl ?_
      rw [j5]
      refine Ex_aload_n 84 (i := 0) dX7_takeNumber_83 rfl rfl rfl ?_
      refine Ex_gI 87 (J a 3) dX7_takeNumber_84 fX7_34 ha.1 rfl rfl rfl ?_
      rw [j3]
      refine Ex_isub 88 dX7_takeNumber_87 rfl ?_
      rw [pk_sub hb]
      refine Ex_iconst 89 (v := 4) dX7_takeNumber_88 (by decide) rfl ?_
      refine Ex_icmp_gt 92 96 dX7_takeNumber_89 (by decide) rfl (fun c3 => ?_) (fun c3 => ?_)
      · refine Ex_iconst 97 (v := 1) dX7_takeNumber_96 (by decide) rfl ?_
        refine Ex_pI 100 (J a) (va_up J a (va_up (J a) 2 1)) dX7_takeNumber_97 fX7_27 rfl ha.1 rfl (fun _ => rfl) rfl rfl rfl rfl ?_
        refine Ex_ret0 dX7_takeNumber_100 rfl (Or.inl rfl) ?_
        have hbig := (nI_ltI (a := 4) (by omega) (by omega)).mp c3
        have hno : hmDig (T.getD b 0) = false := by
          cases e : hmDig (T.getD b 0) with
          | false => rfl
          | true => exact absurd ((hm_dig tb).mp e).1 (Int32.not_le.mpr c2)
        rw [hmEnd_no (fun q => hno), hmCut_no (fun q => hno)] at hQ
        refine hQ _ _ (gJ.up rfl (Or.inl rfl)) gL (by rw [va_up_self, va_up_ne _ _ (by omega)]; exact j5) jv (by rw [va_up_self, va_up_self, if_neg (by omega)]; rfl) (by rw [va_up_self, va_up_ne _ _ (by omega)]; exact j3)
      · refine Ex_iconst 93 (v := 3) dX7_takeNumber_92 (by decide) rfl ?_
        refine Ex_goto 97 dX7_takeNumber_93 (by decide) ?_
        refine Ex_pI 100 (J a) (va_up J a (va_up (J a) 2 3)) dX7_takeNumber_97 fX7_27 rfl ha.1 rfl (fun _ => rfl) rfl rfl rfl rfl ?_
        refine Ex_ret0 dX7_takeNumber_100 rfl (Or.inl rfl) ?_
        have hbig : ¬ 4 < b - pl := fun q => c3 ((nI_ltI (a := 4) (by omega) (by omega)).mpr q)
        have hno : hmDig (T.getD b 0) = false := by
          cases e : hmDig (T.getD b 0) with
          | false => rfl
          | true => exact absurd ((hm_dig tb).mp e).1 (Int32.not_le.mpr c2)
        rw [hmEnd_no (fun q => hno), hmCut_no (fun q => hno)] at hQ
        refine hQ _ _ (gJ.up rfl (Or.inl rfl)) gL (by rw [va_up_self, va_up_ne _ _ (by omega)]; exact j5) jv (by rw [va_up_self, va_up_self, if_pos (by omega)]; rfl) (by rw [va_up_self, va_up_ne _ _ (by omega)]; exact j3)
    · refine Ex_aload_n 26 (i := 0) dX7_takeNumber_25 rfl rfl rfl ?_
      refine Ex_getR 29 dX7_takeNumber_26 fX7_9 ha.1 rfl ha.2.2 rfl ?_
      refine Ex_aload_n 30 (i := 0) dX7_takeNumber_29 rfl rfl rfl ?_
      refine Ex_gI 33 (J a 5) dX7_takeNumber_30 fX7_21 ha.1 rfl rfl rfl ?_
      rw [j5]
      refine Ex_aB 34 b (J (a + 1) b) dX7_takeNumber_33 ha.2.1 rfl (by omega) (by decide) rfl rfl ?_
      rw [tc]
      refine Ex_bipush 36 (v := 57) dX7_takeNumber_34 (by decide) rfl ?_
      refine Ex_icmp_gt 39 78 dX7_takeNumber_36 (by decide) rfl (fun c4 => ?_) (fun c4 => ?_)
      · refine Ex_aload_n 79 (i := 0) dX7_takeNumber_78 rfl rfl rfl ?_
        refine Ex_aload_n 80 (i := 0) dX7_takeNumber_79 rfl rfl rfl ?_
        refine Ex_gI 83 (J a 5) dX7_takeNumber_80 fX7_21 ha.1 rfl rfl rfl ?_
        rw [j5]
        refine Ex_aload_n 84 (i := 0) dX7_takeNumber_83 rfl rfl rfl ?_
        refine Ex_gI 87 (J a 3) dX7_takeNumber_84 fX7_34 ha.1 rfl rfl rfl ?_
        rw [j3]
        refine Ex_isub 88 dX7_takeNumber_87 rfl ?_
        rw [pk_sub hb]
        refine Ex_iconst 89 (v := 4) dX7_takeNumber_88 (by decide) rfl ?_
        refine Ex_icmp_gt 92 96 dX7_takeNumber_89 (by decide) rfl (fun c5 => ?_) (fun c5 => ?_)
        · refine Ex_iconst 97 (v := 1) dX7_takeNumber_96 (by decide) rfl ?_
          refine Ex_pI 100 (J a) (va_up J a (va_up (J a) 2 1)) dX7_takeNumber_97 fX7_27 rfl ha.1 rfl (fun _ => rfl) rfl rfl rfl rfl ?_
          refine Ex_ret0 dX7_takeNumber_100 rfl (Or.inl rfl) ?_
          have hbig := (nI_ltI (a := 4) (by omega) (by omega)).mp c5
          have hno : hmDig (T.getD b 0) = false := by
            cases e : hmDig (T.getD b 0) with
            | false => rfl
            | true => exact absurd ((hm_dig tb).mp e).2 (Int32.not_le.mpr c4)
          rw [hmEnd_no (fun q => hno), hmCut_no (fun q => hno)] at hQ
          refine hQ _ _ (gJ.up rfl (Or.inl rfl)) gL (by rw [va_up_self, va_up_ne _ _ (by omega)]; exact j5) jv (by rw [va_up_self, va_up_self, if_neg (by omega)]; rfl) (by rw [va_up_self, va_up_ne _ _ (by omega)]; exact j3)
        · refine Ex_iconst 93 (v := 3) dX7_takeNumber_92 (by decide) rfl ?_
          refine Ex_goto 97 dX7_takeNumber_93 (by decide) ?_
          refine Ex_pI 100 (J a) (va_up J a (va_up (J a) 2 3)) dX7_takeNumber_97 fX7_27 rfl ha.1 rfl (fun _ => rfl) rfl rfl rfl rfl ?_
          refine Ex_ret0 dX7_takeNumber_100 rfl (Or.inl rfl) ?_
          have hbig : ¬ 4 < b - pl := fun q => c5 ((nI_ltI (a := 4) (by omega) (by omega)).mpr q)
          have hno : hmDig (T.getD b 0) = false := by
            cases e : hmDig (T.getD b 0) with
            | false => rfl
            | true => exact absurd ((hm_dig tb).mp e).2 (Int32.not_le.mpr c4)
          rw [hmEnd_no (fun q => hno), hmCut_no (fun q => hno)] at hQ
          refine hQ _ _ (gJ.up rfl (Or.inl rfl)) gL (by rw [va_up_self, va_up_ne _ _ (by omega)]; exact j5) jv (by rw [va_up_self, va_up_self, if_pos (by omega)]; rfl) (by rw [va_up_self, va_up_ne _ _ (by omega)]; exact j3)
      · refine Ex_aload_n 40 (i := 0) dX7_takeNumber_39 rfl rfl rfl ?_
        refine Ex_aload_n 41 (i := 0) dX7_takeNumber_40 rfl rfl rfl ?_
        refine Ex_gL 44 (LL a 4) dX7_takeNumber_41 fX7_30 ha.1 rfl rfl ?_
        rw [jv]
        refine Ex_ldc2 47 (v := 10) dX7_takeNumber_44 kX7_46 rfl ?_
        refine Ex_lmul 48 dX7_takeNumber_47 rfl ?_
        refine Ex_aload_n 49 (i := 0) dX7_takeNumber_48 rfl rfl rfl ?_
        refine Ex_getR 52 dX7_takeNumber_49 fX7_9 ha.1 rfl ha.2.2 rfl ?_
        refine Ex_aload_n 53 (i := 0) dX7_takeNumber_52 rfl rfl rfl ?_
        refine Ex_gI 56 (J a 5) dX7_takeNumber_53 fX7_21 ha.1 rfl rfl rfl ?_
        rw [j5]
        refine Ex_aB 57 b (J (a + 1) b) dX7_takeNumber_56 ha.2.1 rfl (by omega) (by decide) rfl rfl ?_
        rw [tc]
        refine Ex_bipush 59 (v := 48) dX7_takeNumber_57 (by decide) rfl ?_
        refine Ex_isub 60 dX7_takeNumber_59 rfl ?_
        have lo48 := (nI_leI (a := 48) (by omega) (by omega)).mp (Int32.not_lt.mp c2)
        rw [show (48 : Int32) = nI 48 from rfl, pk_sub lo48]
        refine Ex_i2l 61 dX7_takeNumber_60 rfl ?_
        rw [hm_i2l (by omega)]
        refine Ex_ladd 62 dX7_takeNumber_61 rfl ?_
        refine Ex_pL 65 (LL a) (va_up LL a (va_up (LL a) 4 ((v * 10) + (nL (T.getD b 0 - 48))))) dX7_takeNumber_62 fX7_30 rfl ha.1 rfl rfl rfl ?_
        refine Ex_aload_n 66 (i := 0) dX7_takeNumber_65 rfl rfl rfl ?_
        refine Ex_dup 67 dX7_takeNumber_66 rfl rfl ?_
        refine Ex_gI 70 (J a 5) dX7_takeNumber_67 fX7_21 ha.1 rfl rfl rfl ?_
        rw [j5]
        refine Ex_iconst 71 (v := 1) dX7_takeNumber_70 (by decide) rfl ?_
        refine Ex_iadd 72 dX7_takeNumber_71 rfl ?_
        rw [nI_1]
        refine Ex_pI 75 (J a) (va_up J a (va_up (J a) 5 (nI (b + 1)))) dX7_takeNumber_72 fX7_21 rfl ha.1 rfl (fun _ => rfl) rfl rfl rfl rfl ?_
        refine Ex_goto 0 dX7_takeNumber_75 (by decide) ?_
        have hyes : hmDig (T.getD b 0) = true := (hm_dig tb).mpr ⟨Int32.not_lt.mp c2, Int32.not_lt.mp c4⟩
        rw [hmEnd_yes (by omega) hyes, hmCut_yes (by omega) hyes, List.foldl_cons] at hQ
        exact ih (b + 1) _ _ _ (by omega) (by omega) (gJ.up rfl (Or.inr (Or.inr rfl))) gL.up (by rw [va_up_self, va_up_self]) (by rw [va_up_self, va_up_ne _ _ (by omega)]; exact j3) ((congrFun (va_up_self _ _ _) _).trans (va_up_self _ _ _)) hQ
theorem hm_i2c0 : ∀ k, k < 127 → ((nI k).toUInt32 % 65536).toInt32 = nI k := by decide +kernel
theorem hm_i2c {k : Nat} (h : k < 127) : ((nI k).toUInt32 % 65536).toInt32 = nI k := hm_i2c0 k h
set_option maxHeartbeats 4000000 in
theorem c_takeSign {d : Nat} {sh : xSh} {R : xR} {L : xL} {I : xI} {Q : xQ} {a : Nat} {T : List Nat} (ha : xTape sh R a) (hT : hmTp I a T) (hc : ∀ x, x ∈ T → x < 127) {b : Nat} (hb : b < T.length) (j5 : I a 5 = nI b) (hQ : ∀ I' L', hmSp a I I' → hmSl a L L' → I' a 5 = nI (b + 1) → L' a 4 = nL (T.getD b 0) → I' a 2 = nI (if hmSg8 (T.getD b 0) = true then 4 else 1) → I' a 3 = I a 3 → Q none 0 sh R L' I') : Ex (d + 4) 0 0 MX7_takeSign 0 sh R L I 0 [some (.ref a)] [] Q := by
  obtain ⟨tc, tb⟩ := hT.c hc hb
  have h1000 := hT.1
  refine Ex_aload_n 1 (i := 0) dX7_takeSign_0 rfl rfl rfl ?_
  refine Ex_aload_n 2 (i := 0) dX7_takeSign_1 rfl rfl rfl ?_
  refine Ex_getR 5 dX7_takeSign_2 fX7_9 ha.1 rfl ha.2.2 rfl ?_
  refine Ex_aload_n 6 (i := 0) dX7_takeSign_5 rfl rfl rfl ?_
  refine Ex_gI 9 (I a 5) dX7_takeSign_6 fX7_21 ha.1 rfl rfl rfl ?_
  rw [j5]
  refine Ex_aB 10 b (I (a + 1) b) dX7_takeSign_9 ha.2.1 rfl (by omega) (by decide) rfl rfl ?_
  rw [tc]
  refine Ex_i2l 11 dX7_takeSign_10 rfl ?_
  rw [hm_i2l (by omega)]
  refine Ex_pL 14 (L a) (va_up L a (va_up (L a) 4 (nL (T.getD b 0)))) dX7_takeSign_11 fX7_30 rfl ha.1 rfl rfl rfl ?_
  refine Ex_aload_n 15 (i := 0) dX7_takeSign_14 rfl rfl rfl ?_
  refine Ex_dup 16 dX7_takeSign_15 rfl rfl ?_
  refine Ex_gI 19 (I a 5) dX7_takeSign_16 fX7_21 ha.1 rfl rfl rfl ?_
  rw [j5]
  refine Ex_iconst 20 (v := 1) dX7_takeSign_19 (by decide) rfl ?_
  refine Ex_iadd 21 dX7_takeSign_20 rfl ?_
  rw [nI_1]
  refine Ex_pI 24 (I a) (va_up I a (va_up (I a) 5 (nI (b + 1)))) dX7_takeSign_21 fX7_21 rfl ha.1 rfl (fun _ => rfl) rfl rfl rfl rfl ?_
  refine Ex_S (fun sq sv => ?_)
  refine Es_aload_n 25 (i := 0) dX7_takeSign_24 rfl rfl rfl ?_
  refine Es_ldcS 27 dX7_takeSign_25 rfl rfl ?_
  refine Es_aload_n 28 (i := 0) dX7_takeSign_27 rfl rfl rfl ?_
  refine Es_gL 31 (nL (T.getD b 0)) dX7_takeSign_28 fX7_30 ha.1 (by rw [va_up_self, va_up_self]) rfl ?_
  refine Es_l2i 32 dX7_takeSign_31 rfl ?_
  rw [hm_l2i (by omega)]
  refine Es_i2c 33 dX7_takeSign_32 rfl ?_
  rw [hm_i2c tb]
  refine Es_callT (M' := MJ0_indexOf_0f7a4) 36 [.int (nI (T.getD b 0))] (rest := [.ref a]) dX7_takeSign_33 lX7_50 mJ0_indexOf_0f7a4 rfl rfl (Nat.le_of_ble_eq_true rfl) (Nat.le_of_ble_eq_true rfl) rfl ?_
  refine cs_indexOf (show T.getD b 0 < 128 by omega) (fun rr hrr => ?_)
  simp only [Option.toList, List.nil_append, List.cons_append]
  refine Es_w ?_
  refine Ex_if_lt 39 43 dX7_takeSign_36 (by decide) rfl (fun c1 => ?_) (fun c1 => ?_)
  · refine Ex_iconst 44 (v := 1) dX7_takeSign_43 (by decide) rfl ?_
    refine Ex_pI 47 (va_up (I a) 5 (nI (b + 1))) (va_up I a (va_up (va_up (I a) 5 (nI (b + 1))) 2 1)) dX7_takeSign_44 fX7_27 rfl ha.1 rfl (fun _ => rfl) (va_up_self _ _ _) rfl (va_up_up _ _ _ _) rfl ?_
    refine Ex_ret0 dX7_takeSign_47 rfl (Or.inl rfl) ?_
    refine hQ _ _ ((hmSp.rf.up rfl (Or.inr (Or.inr rfl))).up (va_up_self _ _ _) (Or.inl rfl) |> fun q => by rw [va_up_up] at q; exact q) hmSl.rf.up (by rw [va_up_self, va_up_ne _ _ (by omega), va_up_self]) (by rw [va_up_self, va_up_self]) ?_ (by rw [va_up_self, va_up_ne _ _ (by omega), va_up_ne _ _ (by omega)])
    rw [va_up_self, va_up_self, if_neg (by rw [hrr.mp c1]; decide)]
    rfl
  · refine Ex_iconst 40 (v := 4) dX7_takeSign_39 (by decide) rfl ?_
    refine Ex_goto 44 dX7_takeSign_40 (by decide) ?_
    refine Ex_pI 47 (va_up (I a) 5 (nI (b + 1))) (va_up I a (va_up (va_up (I a) 5 (nI (b + 1))) 2 4)) dX7_takeSign_44 fX7_27 rfl ha.1 rfl (fun _ => rfl) (va_up_self _ _ _) rfl (va_up_up _ _ _ _) rfl ?_
    refine Ex_ret0 dX7_takeSign_47 rfl (Or.inl rfl) ?_
    refine hQ _ _ ((hmSp.rf.up rfl (Or.inr (Or.inr rfl))).up (va_up_self _ _ _) (Or.inl rfl) |> fun q => by rw [va_up_up] at q; exact q) hmSl.rf.up (by rw [va_up_self, va_up_ne _ _ (by omega), va_up_self]) (by rw [va_up_self, va_up_self]) ?_ (by rw [va_up_self, va_up_ne _ _ (by omega), va_up_ne _ _ (by omega)])
    have hs8 : hmSg8 (T.getD b 0) = true := by
      cases e : hmSg8 (T.getD b 0) with
      | true => rfl
      | false => exact absurd (hrr.mpr e) c1
    rw [va_up_self, va_up_self, if_pos hs8]
    rfl
theorem hm_spc {c : Nat} (hc : c < 127) : (hmSpc c = true ↔ nI c = 10 ∨ nI c = 32) := by
  unfold hmSpc
  rw [decide_eq_true_eq, show (10 : Int32) = nI 10 from rfl, show (32 : Int32) = nI 32 from rfl, nI_eq (by omega) (by omega), nI_eq (by omega) (by omega)]
set_option maxHeartbeats 4000000 in
theorem c_step_skip {d : Nat} {sh : xSh} {R : xR} {L : xL} {I : xI} {Q : xQ} {a : Nat} {T : List Nat} (ha : xTape sh R a) (hT : hmTp I a T) (hc : ∀ x, x ∈ T → x < 127) {p : Nat} (hk : Ex d 0 0 MX7_step 0 sh R L I 41 [some (.ref a), some (.int (nI (hmEnd hmSpc T p)))] [] Q) : ∀ n at_, n + at_ = T.length → hmEnd hmSpc T p = hmEnd hmSpc T at_ → Ex d 0 0 MX7_step 0 sh R L I 5 [some (.ref a), some (.int (nI at_))] [] Q := by
  intro n
  induction n with
  | zero =>
    intro at_ hn he
    have h1000 := hT.1
    have jl : I a 1 = nI T.length := hT.2.1
    refine Ex_iload_n 6 (i := 1) dX7_step_5 rfl rfl rfl ?_
    refine Ex_aload_n 7 (i := 0) dX7_step_6 rfl rfl rfl ?_
    refine Ex_gI 10 (I a 1) dX7_step_7 fX7_17 ha.1 rfl rfl rfl ?_
    rw [jl]
    refine Ex_icmp_ge 13 41 dX7_step_10 (by decide) rfl (fun c1 => ?_) (fun c1 => absurd c1 (fun q => q (nI_le (by omega) (by omega))))
    rw [he, hmEnd_no (fun q => absurd q (by omega))] at hk
    exact hk
  | succ n ih =>
    intro at_ hn he
    have h1000 := hT.1
    have jl : I a 1 = nI T.length := hT.2.1
    obtain ⟨tc, tb⟩ := hT.c hc (show at_ < T.length by omega)
    refine Ex_iload_n 6 (i := 1) dX7_step_5 rfl rfl rfl ?_
    refine Ex_aload_n 7 (i := 0) dX7_step_6 rfl rfl rfl ?_
    refine Ex_gI 10 (I a 1) dX7_step_7 fX7_17 ha.1 rfl rfl rfl ?_
    rw [jl]
    refine Ex_icmp_ge 13 41 dX7_step_10 (by decide) rfl (fun c1 => absurd c1 (nI_ge (by omega) (by omega))) (fun c1 => ?_)
    refine Ex_aload_n 14 (i := 0) dX7_step_13 rfl rfl rfl ?_
    refine Ex_getR 17 dX7_step_14 fX7_9 ha.1 rfl ha.2.2 rfl ?_
    refine Ex_iload_n 18 (i := 1) dX7_step_17 rfl rfl rfl ?_
    refine Ex_aB 19 at_ (I (a + 1) at_) dX7_step_18 ha.2.1 rfl (by omega) (by decide) rfl rfl ?_
    rw [tc]
    refine Ex_bipush 21 (v := 10) dX7_step_19 (by decide) rfl ?_
    refine Ex_icmp_eq 24 35 dX7_step_21 (by decide) rfl (fun c2 => ?_) (fun c2 => ?_)
    · refine Ex_iinc 38 (v := (nI (at_ + 1))) (ls' := [some (.ref a), some (.int (nI (at_ + 1)))]) dX7_step_35 rfl (xinc _) (Nat.le_of_ble_eq_true rfl) rfl rfl rfl ?_
      refine Ex_goto 5 dX7_step_38 (by decide) ?_
      exact ih (at_ + 1) (by omega) (he.trans (hmEnd_yes (by omega) ((hm_spc tb).mpr (Or.inl c2))))
    · refine Ex_aload_n 25 (i := 0) dX7_step_24 rfl rfl rfl ?_
      refine Ex_getR 28 dX7_step_25 fX7_9 ha.1 rfl ha.2.2 rfl ?_
      refine Ex_iload_n 29 (i := 1) dX7_step_28 rfl rfl rfl ?_
      refine Ex_aB 30 at_ (I (a + 1) at_) dX7_step_29 ha.2.1 rfl (by omega) (by decide) rfl rfl ?_
      rw [tc]
      refine Ex_bipush 32 (v := 32) dX7_step_30 (by decide) rfl ?_
      refine Ex_icmp_ne 35 41 dX7_step_32 (by decide) rfl (fun c3 => ?_) (fun c3 => ?_)
      · rw [he, hmEnd_no (fun _ => by
          cases e : hmSpc (T.getD at_ 0) with
          | false => rfl
          | true => exact absurd ((hm_spc tb).mp e) (fun q => q.elim c2 c3))] at hk
        exact hk
      · refine Ex_iinc 38 (v := (nI (at_ + 1))) (ls' := [some (.ref a), some (.int (nI (at_ + 1)))]) dX7_step_35 rfl (xinc _) (Nat.le_of_ble_eq_true rfl) rfl rfl rfl ?_
        refine Ex_goto 5 dX7_step_38 (by decide) ?_
        exact ih (at_ + 1) (by omega) (he.trans (hmEnd_yes (by omega) ((hm_spc tb).mpr (Or.inr c3))))
theorem hmLx_word {T : List Nat} {p : Nat} (h1 : hmEnd hmSpc T p < T.length) (h2 : hmLet (T.getD (hmEnd hmSpc T p) 0) = true) : hmLx T p = ((if (hmCut hmLet T (hmEnd hmSpc T p)).length ≤ 8 then 2 else 1, hmCut hmLet T (hmEnd hmSpc T p), hmEnd hmSpc T p), hmEnd hmLet T (hmEnd hmSpc T p)) := by
  unfold hmLx
  rw [if_pos h1, if_pos h2]
theorem hmLx_num {T : List Nat} {p : Nat} (h1 : hmEnd hmSpc T p < T.length) (h2 : hmLet (T.getD (hmEnd hmSpc T p) 0) = false) (h3 : hmDig (T.getD (hmEnd hmSpc T p) 0) = true) : hmLx T p = ((if (hmCut hmDig T (hmEnd hmSpc T p)).length ≤ 4 then 3 else 1, hmCut hmDig T (hmEnd hmSpc T p), hmEnd hmSpc T p), hmEnd hmDig T (hmEnd hmSpc T p)) := by
  unfold hmLx
  rw [if_pos h1, if_neg (by rw [h2]; decide), if_pos h3]
theorem hmLx_sgn {T : List Nat} {p : Nat} (h1 : hmEnd hmSpc T p < T.length) (h2 : hmLet (T.getD (hmEnd hmSpc T p) 0) = false) (h3 : hmDig (T.getD (hmEnd hmSpc T p) 0) = false) : hmLx T p = ((if hmSg8 (T.getD (hmEnd hmSpc T p) 0) = true then 4 else 1, [T.getD (hmEnd hmSpc T p) 0], hmEnd hmSpc T p), hmEnd hmSpc T p + 1) := by
  unfold hmLx
  rw [if_pos h1, if_neg (by rw [h2]; decide), if_neg (by rw [h3]; decide)]
theorem hmLx_fin {T : List Nat} {p : Nat} (h1 : ¬ hmEnd hmSpc T p < T.length) : hmLx T p = ((0, [], hmEnd hmSpc T p), hmEnd hmSpc T p) := by
  unfold hmLx
  rw [if_neg h1]
theorem hmTsR_next {T : List Nat} {t : hmTok} {r : List hmTok} {p : Nat} (h : hmTsR T (t :: r) p) (ht : ¬ t.1 = 0) : hmTsR T r (hmLx T p).2 := by
  have h2 := h.2.2
  rw [if_neg ht] at h2
  exact h2
theorem hmTsR_last {T : List Nat} {t : hmTok} {r : List hmTok} {p : Nat} (h : hmTsR T (t :: r) p) (ht : t.1 = 0) : r = [] := by
  have h2 := h.2.2
  rw [if_pos ht] at h2
  exact h2
/-- how the tape stands behind a step -/
theorem hmAt_mk {I : xI} {L : xL} {a : Nat} {T : List Nat} {t : hmTok} {r : List hmTok} {p : Nat} (h : hmTsR T (t :: r) p) (hT : T.length ≤ 1000) (e2 : I a 2 = nI (hmLx T p).1.1) (e3 : I a 3 = nI (hmLx T p).1.2.2) (ev : hmVt (hmLx T p).1 (L a 4)) (e5 : I a 5 = nI (hmLx T p).2) (hpl : (hmLx T p).1.2.2 ≤ T.length) : hmAt I L a T t r := by
  have e := h.2.1
  refine ⟨by rw [e2, e], by rw [e3, e], by rw [← e]; exact ev, fun q => hmTsR_last h q, fun q => ⟨_, e5, hmTsR_next h q⟩, hmTsR_hd h, ?_⟩
  rw [← e]
  omega
set_option maxHeartbeats 4000000 in
theorem c_step {d : Nat} {sh : xSh} {R : xR} {L : xL} {I : xI} {Q : xQ} {a : Nat} {T : List Nat} (ha : xTape sh R a) (hT : hmTp I a T) (hc : ∀ x, x ∈ T → x < 127) {t : hmTok} {r : List hmTok} {p : Nat} (j5 : I a 5 = nI p) (hts : hmTsR T (t :: r) p) (hQ : ∀ I' L', hmSp a I I' → hmSl a L L' → hmAt I' L' a T t r → Q none 0 sh R L' I') : Ex (d + 5) 0 0 MX7_step 0 sh R L I 0 [some (.ref a), none] [] Q := by
  have h1000 := hT.1
  have hp := hts.1
  have hsk := hmEnd_le (f := hmSpc) hp
  refine Ex_aload_n 1 (i := 0) dX7_step_0 rfl rfl rfl ?_
  refine Ex_gI 4 (I a 5) dX7_step_1 fX7_21 ha.1 rfl rfl rfl ?_
  rw [j5]
  refine Ex_istore_n 5 (i := 1) (ls' := [some (.ref a), some (.int (nI p))]) dX7_step_4 rfl (Nat.le_of_ble_eq_true rfl) rfl rfl rfl ?_
  refine c_step_skip ha hT hc (p := p) ?_ (T.length - p) p (by omega) rfl
  refine Ex_aload_n 42 (i := 0) dX7_step_41 rfl rfl rfl ?_
  refine Ex_iload_n 43 (i := 1) dX7_step_42 rfl rfl rfl ?_
  refine Ex_pI 46 (I a) (va_up I a (va_up (I a) 3 (nI (hmEnd hmSpc T p)))) dX7_step_43 fX7_34 rfl ha.1 rfl (fun _ => rfl) rfl rfl rfl rfl ?_
  refine Ex_aload_n 47 (i := 0) dX7_step_46 rfl rfl rfl ?_
  refine Ex_iload_n 48 (i := 1) dX7_step_47 rfl rfl rfl ?_
  refine Ex_pI 51 (va_up (I a) 3 (nI (hmEnd hmSpc T p))) (va_up I a (va_up (va_up (I a) 3 (nI (hmEnd hmSpc T p))) 5 (nI (hmEnd hmSpc T p)))) dX7_step_48 fX7_21 rfl ha.1 rfl (fun _ => rfl) (va_up_self _ _ _) rfl (va_up_up _ _ _ _) rfl ?_
  have gJ : hmSp a I (va_up I a (va_up (va_up (I a) 3 (nI (hmEnd hmSpc T p))) 5 (nI (hmEnd hmSpc T p)))) := ((hmSp.rf (I := I)).up rfl (Or.inr (Or.inl rfl))).up (va_up_self _ _ _) (Or.inr (Or.inr rfl)) |> fun q => by rw [va_up_up] at q; exact q
  refine Ex_aload_n 52 (i := 0) dX7_step_51 rfl rfl rfl ?_
  refine Ex_lconst 53 (v := 0) dX7_step_52 rfl rfl ?_
  refine Ex_pL 56 (L a) (va_up L a (va_up (L a) 4 0)) dX7_step_53 fX7_30 rfl ha.1 rfl rfl rfl ?_
  refine Ex_iload_n 57 (i := 1) dX7_step_56 rfl rfl rfl ?_
  refine Ex_aload_n 58 (i := 0) dX7_step_57 rfl rfl rfl ?_
  refine Ex_gI 61 (I a 1) dX7_step_58 fX7_17 ha.1 rfl (congrFun (va_up_self _ _ _) _) rfl ?_
  rw [hT.2.1]
  refine Ex_icmp_lt 64 72 dX7_step_61 (by decide) rfl (fun c1 => ?_) (fun c1 => ?_)
  · have hlt : (hmEnd hmSpc T p) < T.length := (nI_ltI (by omega) (by omega)).mp c1
    obtain ⟨tc, tb⟩ := hT.c hc hlt
    refine Ex_aload_n 73 (i := 0) dX7_step_72 rfl rfl rfl ?_
    refine Ex_getR 76 dX7_step_73 fX7_9 ha.1 rfl ha.2.2 rfl ?_
    refine Ex_iload_n 77 (i := 1) dX7_step_76 rfl rfl rfl ?_
    refine Ex_aB 78 (hmEnd hmSpc T p) (I (a + 1) (hmEnd hmSpc T p)) dX7_step_77 ha.2.1 rfl (by omega) (by decide) (congrFun (va_up_ne _ _ (by omega)) _) rfl ?_
    rw [tc]
    refine Ex_bipush 80 (v := 97) dX7_step_78 (by decide) rfl ?_
    refine Ex_icmp_lt 83 101 dX7_step_80 (by decide) rfl (fun c2 => ?_) (fun c2 => ?_)
    · refine Ex_aload_n 102 (i := 0) dX7_step_101 rfl rfl rfl ?_
      refine Ex_getR 105 dX7_step_102 fX7_9 ha.1 rfl ha.2.2 rfl ?_
      refine Ex_iload_n 106 (i := 1) dX7_step_105 rfl rfl rfl ?_
      refine Ex_aB 107 (hmEnd hmSpc T p) (I (a + 1) (hmEnd hmSpc T p)) dX7_step_106 ha.2.1 rfl (by omega) (by decide) (congrFun (va_up_ne _ _ (by omega)) _) rfl ?_
      rw [tc]
      refine Ex_bipush 109 (v := 48) dX7_step_107 (by decide) rfl ?_
      refine Ex_icmp_lt 112 130 dX7_step_109 (by decide) rfl (fun c3 => ?_) (fun c3 => ?_)
      · refine Ex_aload_n 131 (i := 0) dX7_step_130 rfl rfl rfl ?_
        refine Ex_callV (M' := MX7_takeSign) 134 [] (rest := []) dX7_step_131 lX7_43 mX7_takeSign rfl ha.1 rfl (Nat.le_of_ble_eq_true rfl) (Nat.le_of_ble_eq_true rfl) rfl ?_
        refine c_takeSign (b := (hmEnd hmSpc T p)) ha (hT.sp gJ) hc hlt (by rw [va_up_self, va_up_self]) (fun I1 L1 k1 k2 k3 k4 k5 k6 => ?_)
        simp only [Option.toList, List.nil_append, List.cons_append]
        refine Ex_ret0 dX7_step_134 rfl (Or.inl rfl) ?_
        have nlet : hmLet (T.getD (hmEnd hmSpc T p) 0) = false := by
          cases e : hmLet (T.getD (hmEnd hmSpc T p) 0) with
          | false => rfl
          | true => exact absurd ((hm_let tb).mp e).1 (Int32.not_le.mpr c2)
        have ndig : hmDig (T.getD (hmEnd hmSpc T p) 0) = false := by
          cases e : hmDig (T.getD (hmEnd hmSpc T p) 0) with
          | false => rfl
          | true => exact absurd ((hm_dig tb).mp e).1 (Int32.not_le.mpr c3)
        have hx := hmLx_sgn hlt nlet ndig
        refine hQ I1 L1 (gJ.tr k1) (hmSl.rf.up.tr k2) (hmAt_mk hts h1000 ?_ ?_ ?_ ?_ ?_)
        · rw [hx, k5]
        · rw [hx, k6, va_up_self, va_up_ne _ _ (by omega), va_up_self]
        · rw [hx, k4]
          refine ⟨fun q => ?_, fun q => ?_, fun _ => rfl⟩
          · by_cases c : hmSg8 (T.getD (hmEnd hmSpc T p) 0) = true
            · simp only [if_pos c] at q
              exact absurd q (by decide)
            · simp only [if_neg c] at q
              exact absurd q (by decide)
          · by_cases c : hmSg8 (T.getD (hmEnd hmSpc T p) 0) = true
            · simp only [if_pos c] at q
              exact absurd q (by decide)
            · simp only [if_neg c] at q
              exact absurd q (by decide)
        · rw [hx, k3]
        · rw [hx]
          exact Nat.le_of_lt hlt
      · refine Ex_aload_n 113 (i := 0) dX7_step_112 rfl rfl rfl ?_
        refine Ex_getR 116 dX7_step_113 fX7_9 ha.1 rfl ha.2.2 rfl ?_
        refine Ex_iload_n 117 (i := 1) dX7_step_116 rfl rfl rfl ?_
        refine Ex_aB 118 (hmEnd hmSpc T p) (I (a + 1) (hmEnd hmSpc T p)) dX7_step_117 ha.2.1 rfl (by omega) (by decide) (congrFun (va_up_ne _ _ (by omega)) _) rfl ?_
        rw [tc]
        refine Ex_bipush 120 (v := 57) dX7_step_118 (by decide) rfl ?_
        refine Ex_icmp_gt 123 130 dX7_step_120 (by decide) rfl (fun c4 => ?_) (fun c4 => ?_)
        · refine Ex_aload_n 131 (i := 0) dX7_step_130 rfl rfl rfl ?_
          refine Ex_callV (M' := MX7_takeSign) 134 [] (rest := []) dX7_step_131 lX7_43 mX7_takeSign rfl ha.1 rfl (Nat.le_of_ble_eq_true rfl) (Nat.le_of_ble_eq_true rfl) rfl ?_
          refine c_takeSign (b := (hmEnd hmSpc T p)) ha (hT.sp gJ) hc hlt (by rw [va_up_self, va_up_self]) (fun I1 L1 k1 k2 k3 k4 k5 k6 => ?_)
          simp only [Option.toList, List.nil_append, List.cons_append]
          refine Ex_ret0 dX7_step_134 rfl (Or.inl rfl) ?_
          have nlet : hmLet (T.getD (hmEnd hmSpc T p) 0) = false := by
            cases e : hmLet (T.getD (hmEnd hmSpc T p) 0) with
            | false => rfl
            | true => exact absurd ((hm_let tb).mp e).1 (Int32.not_le.mpr c2)
          have ndig : hmDig (T.getD (hmEnd hmSpc T p) 0) = false := by
            cases e : hmDig (T.getD (hmEnd hmSpc T p) 0) with
            | false => rfl
            | true => exact absurd ((hm_dig tb).mp e).2 (Int32.not_le.mpr c4)
          have hx := hmLx_sgn hlt nlet ndig
          refine hQ I1 L1 (gJ.tr k1) (hmSl.rf.up.tr k2) (hmAt_mk hts h1000 ?_ ?_ ?_ ?_ ?_)
          · rw [hx, k5]
          · rw [hx, k6, va_up_self, va_up_ne _ _ (by omega), va_up_self]
          · rw [hx, k4]
            refine ⟨fun q => ?_, fun q => ?_, fun _ => rfl⟩
            · by_cases c : hmSg8 (T.getD (hmEnd hmSpc T p) 0) = true
              · simp only [if_pos c] at q
                exact absurd q (by decide)
              · simp only [if_neg c] at q
                exact absurd q (by decide)
            · by_cases c : hmSg8 (T.getD (hmEnd hmSpc T p) 0) = true
              · simp only [if_pos c] at q
                exact absurd q (by decide)
              · simp only [if_neg c] at q
                exact absurd q (by decide)
          · rw [hx, k3]
          · rw [hx]
            exact Nat.le_of_lt hlt
        · refine Ex_aload_n 124 (i := 0) dX7_step_123 rfl rfl rfl ?_
          refine Ex_callV (M' := MX7_takeNumber) 127 [] (rest := []) dX7_step_124 lX7_40 mX7_takeNumber rfl ha.1 rfl (Nat.le_of_ble_eq_true rfl) (Nat.le_of_ble_eq_true rfl) rfl ?_
          refine c_takeNumber_loop (I := (va_up I a (va_up (va_up (I a) 3 (nI (hmEnd hmSpc T p))) 5 (nI (hmEnd hmSpc T p))))) (L := (va_up L a (va_up (L a) 4 0))) ha (hT.sp gJ) hc (pl := (hmEnd hmSpc T p)) (T.length - (hmEnd hmSpc T p)) (hmEnd hmSpc T p) 0 _ _ (by omega) (Nat.le_refl _) hmSp.rf hmSl.rf (by rw [va_up_self, va_up_self]) (by rw [va_up_self, va_up_ne _ _ (by omega), va_up_self]) (by rw [va_up_self, va_up_self]) (fun I1 L1 k1 k2 k3 k4 k5 k6 => ?_)
          simp only [Option.toList, List.nil_append, List.cons_append]
          refine Ex_goto 134 dX7_step_127 (by decide) ?_
          refine Ex_ret0 dX7_step_134 rfl (Or.inl rfl) ?_
          have nlet : hmLet (T.getD (hmEnd hmSpc T p) 0) = false := by
            cases e : hmLet (T.getD (hmEnd hmSpc T p) 0) with
            | false => rfl
            | true => exact absurd ((hm_let tb).mp e).1 (Int32.not_le.mpr c2)
          have ydig : hmDig (T.getD (hmEnd hmSpc T p) 0) = true := (hm_dig tb).mpr ⟨Int32.not_lt.mp c3, Int32.not_lt.mp c4⟩
          have hx := hmLx_num hlt nlet ydig
          have hcl : hmEnd hmDig T (hmEnd hmSpc T p) - (hmEnd hmSpc T p) = (hmCut hmDig T (hmEnd hmSpc T p)).length := by unfold hmEnd; omega
          refine hQ I1 L1 (gJ.tr k1) (hmSl.rf.up.tr k2) (hmAt_mk hts h1000 ?_ ?_ ?_ ?_ ?_)
          · rw [hx, k5, hcl]
          · rw [hx, k6]
          · rw [hx, k4]
            refine ⟨fun q => ?_, fun _ => hmDec64 _ 0, fun q => ?_⟩
            · by_cases c : (hmCut hmDig T (hmEnd hmSpc T p)).length ≤ 4
              · simp only [if_pos c] at q
                exact absurd q (by decide)
              · simp only [if_neg c] at q
                exact absurd q (by decide)
            · by_cases c : (hmCut hmDig T (hmEnd hmSpc T p)).length ≤ 4
              · simp only [if_pos c] at q
                exact absurd q (by decide)
              · simp only [if_neg c] at q
                exact absurd q (by decide)
          · rw [hx, k3]
          · rw [hx]
            exact Nat.le_of_lt hlt
    · refine Ex_aload_n 84 (i := 0) dX7_step_83 rfl rfl rfl ?_
      refine Ex_getR 87 dX7_step_84 fX7_9 ha.1 rfl ha.2.2 rfl ?_
      refine Ex_iload_n 88 (i := 1) dX7_step_87 rfl rfl rfl ?_
      refine Ex_aB 89 (hmEnd hmSpc T p) (I (a + 1) (hmEnd hmSpc T p)) dX7_step_88 ha.2.1 rfl (by omega) (by decide) (congrFun (va_up_ne _ _ (by omega)) _) rfl ?_
      rw [tc]
      refine Ex_bipush 91 (v := 122) dX7_step_89 (by decide) rfl ?_
      refine Ex_icmp_gt 94 101 dX7_step_91 (by decide) rfl (fun c5 => ?_) (fun c5 => ?_)
      · refine Ex_aload_n 102 (i := 0) dX7_step_101 rfl rfl rfl ?_
        refine Ex_getR 105 dX7_step_102 fX7_9 ha.1 rfl ha.2.2 rfl ?_
        refine Ex_iload_n 106 (i := 1) dX7_step_105 rfl rfl rfl ?_
        refine Ex_aB 107 (hmEnd hmSpc T p) (I (a + 1) (hmEnd hmSpc T p)) dX7_step_106 ha.2.1 rfl (by omega) (by decide) (congrFun (va_up_ne _ _ (by omega)) _) rfl ?_
        rw [tc]
        refine Ex_bipush 109 (v := 48) dX7_step_107 (by decide) rfl ?_
        refine Ex_icmp_lt 112 130 dX7_step_109 (by decide) rfl (fun c6 => ?_) (fun c6 => ?_)
        · refine Ex_aload_n 131 (i := 0) dX7_step_130 rfl rfl rfl ?_
          refine Ex_callV (M' := MX7_takeSign) 134 [] (rest := []) dX7_step_131 lX7_43 mX7_takeSign rfl ha.1 rfl (Nat.le_of_ble_eq_true rfl) (Nat.le_of_ble_eq_true rfl) rfl ?_
          refine c_takeSign (b := (hmEnd hmSpc T p)) ha (hT.sp gJ) hc hlt (by rw [va_up_self, va_up_self]) (fun I1 L1 k1 k2 k3 k4 k5 k6 => ?_)
          simp only [Option.toList, List.nil_append, List.cons_append]
          refine Ex_ret0 dX7_step_134 rfl (Or.inl rfl) ?_
          have nlet : hmLet (T.getD (hmEnd hmSpc T p) 0) = false := by
            cases e : hmLet (T.getD (hmEnd hmSpc T p) 0) with
            | false => rfl
            | true => exact absurd ((hm_let tb).mp e).2 (Int32.not_le.mpr c5)
          have ndig : hmDig (T.getD (hmEnd hmSpc T p) 0) = false := by
            cases e : hmDig (T.getD (hmEnd hmSpc T p) 0) with
            | false => rfl
            | true => exact absurd ((hm_dig tb).mp e).1 (Int32.not_le.mpr c6)
          have hx := hmLx_sgn hlt nlet ndig
          refine hQ I1 L1 (gJ.tr k1) (hmSl.rf.up.tr k2) (hmAt_mk hts h1000 ?_ ?_ ?_ ?_ ?_)
          · rw [hx, k5]
          · rw [hx, k6, va_up_self, va_up_ne _ _ (by omega), va_up_self]
          · rw [hx, k4]
            refine ⟨fun q => ?_, fun q => ?_, fun _ => rfl⟩
            · by_cases c : hmSg8 (T.getD (hmEnd hmSpc T p) 0) = true
              · simp only [if_pos c] at q
                exact absurd q (by decide)
              · simp only [if_neg c] at q
                exact absurd q (by decide)
            · by_cases c : hmSg8 (T.getD (hmEnd hmSpc T p) 0) = true
              · simp only [if_pos c] at q
                exact absurd q (by decide)
              · simp only [if_neg c] at q
                exact absurd q (by decide)
          · rw [hx, k3]
          · rw [hx]
            exact Nat.le_of_lt hlt
        · refine Ex_aload_n 113 (i := 0) dX7_step_112 rfl rfl rfl ?_
          refine Ex_getR 116 dX7_step_113 fX7_9 ha.1 rfl ha.2.2 rfl ?_
          refine Ex_iload_n 117 (i := 1) dX7_step_116 rfl rfl rfl ?_
          refine Ex_aB 118 (hmEnd hmSpc T p) (I (a + 1) (hmEnd hmSpc T p)) dX7_step_117 ha.2.1 rfl (by omega) (by decide) (congrFun (va_up_ne _ _ (by omega)) _) rfl ?_
          rw [tc]
          refine Ex_bipush 120 (v := 57) dX7_step_118 (by decide) rfl ?_
          refine Ex_icmp_gt 123 130 dX7_step_120 (by decide) rfl (fun c7 => ?_) (fun c7 => ?_)
          · refine Ex_aload_n 131 (i := 0) dX7_step_130 rfl rfl rfl ?_
            refine Ex_callV (M' := MX7_takeSign) 134 [] (rest := []) dX7_step_131 lX7_43 mX7_takeSign rfl ha.1 rfl (Nat.le_of_ble_eq_true rfl) (Nat.le_of_ble_eq_true rfl) rfl ?_
            refine c_takeSign (b := (hmEnd hmSpc T p)) ha (hT.sp gJ) hc hlt (by rw [va_up_self, va_up_self]) (fun I1 L1 k1 k2 k3 k4 k5 k6 => ?_)
            simp only [Option.toList, List.nil_append, List.cons_append]
            refine Ex_ret0 dX7_step_134 rfl (Or.inl rfl) ?_
            have nlet : hmLet (T.getD (hmEnd hmSpc T p) 0) = false := by
              cases e : hmLet (T.getD (hmEnd hmSpc T p) 0) with
              | false => rfl
              | true => exact absurd ((hm_let tb).mp e).2 (Int32.not_le.mpr c5)
            have ndig : hmDig (T.getD (hmEnd hmSpc T p) 0) = false := by
              cases e : hmDig (T.getD (hmEnd hmSpc T p) 0) with
              | false => rfl
              | true => exact absurd ((hm_dig tb).mp e).2 (Int32.not_le.mpr c7)
            have hx := hmLx_sgn hlt nlet ndig
            refine hQ I1 L1 (gJ.tr k1) (hmSl.rf.up.tr k2) (hmAt_mk hts h1000 ?_ ?_ ?_ ?_ ?_)
            · rw [hx, k5]
            · rw [hx, k6, va_up_self, va_up_ne _ _ (by omega), va_up_self]
            · rw [hx, k4]
              refine ⟨fun q => ?_, fun q => ?_, fun _ => rfl⟩
              · by_cases c : hmSg8 (T.getD (hmEnd hmSpc T p) 0) = true
                · simp only [if_pos c] at q
                  exact absurd q (by decide)
                · simp only [if_neg c] at q
                  exact absurd q (by decide)
              · by_cases c : hmSg8 (T.getD (hmEnd hmSpc T p) 0) = true
                · simp only [if_pos c] at q
                  exact absurd q (by decide)
                · simp only [if_neg c] at q
                  exact absurd q (by decide)
            · rw [hx, k3]
            · rw [hx]
              exact Nat.le_of_lt hlt
          · refine Ex_aload_n 124 (i := 0) dX7_step_123 rfl rfl rfl ?_
            refine Ex_callV (M' := MX7_takeNumber) 127 [] (rest := []) dX7_step_124 lX7_40 mX7_takeNumber rfl ha.1 rfl (Nat.le_of_ble_eq_true rfl) (Nat.le_of_ble_eq_true rfl) rfl ?_
            refine c_takeNumber_loop (I := (va_up I a (va_up (va_up (I a) 3 (nI (hmEnd hmSpc T p))) 5 (nI (hmEnd hmSpc T p))))) (L := (va_up L a (va_up (L a) 4 0))) ha (hT.sp gJ) hc (pl := (hmEnd hmSpc T p)) (T.length - (hmEnd hmSpc T p)) (hmEnd hmSpc T p) 0 _ _ (by omega) (Nat.le_refl _) hmSp.rf hmSl.rf (by rw [va_up_self, va_up_self]) (by rw [va_up_self, va_up_ne _ _ (by omega), va_up_self]) (by rw [va_up_self, va_up_self]) (fun I1 L1 k1 k2 k3 k4 k5 k6 => ?_)
            simp only [Option.toList, List.nil_append, List.cons_append]
            refine Ex_goto 134 dX7_step_127 (by decide) ?_
            refine Ex_ret0 dX7_step_134 rfl (Or.inl rfl) ?_
            have nlet : hmLet (T.getD (hmEnd hmSpc T p) 0) = false := by
              cases e : hmLet (T.getD (hmEnd hmSpc T p) 0) with
              | false => rfl
              | true => exact absurd ((hm_let tb).mp e).2 (Int32.not_le.mpr c5)
            have ydig : hmDig (T.getD (hmEnd hmSpc T p) 0) = true := (hm_dig tb).mpr ⟨Int32.not_lt.mp c6, Int32.not_lt.mp c7⟩
            have hx := hmLx_num hlt nlet ydig
            have hcl : hmEnd hmDig T (hmEnd hmSpc T p) - (hmEnd hmSpc T p) = (hmCut hmDig T (hmEnd hmSpc T p)).length := by unfold hmEnd; omega
            refine hQ I1 L1 (gJ.tr k1) (hmSl.rf.up.tr k2) (hmAt_mk hts h1000 ?_ ?_ ?_ ?_ ?_)
            · rw [hx, k5, hcl]
            · rw [hx, k6]
            · rw [hx, k4]
              refine ⟨fun q => ?_, fun _ => hmDec64 _ 0, fun q => ?_⟩
              · by_cases c : (hmCut hmDig T (hmEnd hmSpc T p)).length ≤ 4
                · simp only [if_pos c] at q
                  exact absurd q (by decide)
                · simp only [if_neg c] at q
                  exact absurd q (by decide)
              · by_cases c : (hmCut hmDig T (hmEnd hmSpc T p)).length ≤ 4
                · simp only [if_pos c] at q
                  exact absurd q (by decide)
                · simp only [if_neg c] at q
                  exact absurd q (by decide)
            · rw [hx, k3]
            · rw [hx]
              exact Nat.le_of_lt hlt
      · refine Ex_aload_n 95 (i := 0) dX7_step_94 rfl rfl rfl ?_
        refine Ex_callV (M' := MX7_takeWord) 98 [] (rest := []) dX7_step_95 lX7_37 mX7_takeWord rfl ha.1 rfl (Nat.le_of_ble_eq_true rfl) (Nat.le_of_ble_eq_true rfl) rfl ?_
        refine c_takeWord_loop (I := (va_up I a (va_up (va_up (I a) 3 (nI (hmEnd hmSpc T p))) 5 (nI (hmEnd hmSpc T p))))) (L := (va_up L a (va_up (L a) 4 0))) ha (hT.sp gJ) hc (pl := (hmEnd hmSpc T p)) (T.length - (hmEnd hmSpc T p)) (hmEnd hmSpc T p) 0 _ _ (by omega) (Nat.le_refl _) hmSp.rf hmSl.rf (by rw [va_up_self, va_up_self]) (by rw [va_up_self, va_up_ne _ _ (by omega), va_up_self]) (by rw [va_up_self, va_up_self]) (fun I1 L1 k1 k2 k3 k4 k5 k6 => ?_)
        simp only [Option.toList, List.nil_append, List.cons_append]
        refine Ex_goto 134 dX7_step_98 (by decide) ?_
        refine Ex_ret0 dX7_step_134 rfl (Or.inl rfl) ?_
        have ylet : hmLet (T.getD (hmEnd hmSpc T p) 0) = true := (hm_let tb).mpr ⟨Int32.not_lt.mp c2, Int32.not_lt.mp c5⟩
        have hx := hmLx_word hlt ylet
        have hcl : hmEnd hmLet T (hmEnd hmSpc T p) - (hmEnd hmSpc T p) = (hmCut hmLet T (hmEnd hmSpc T p)).length := by unfold hmEnd; omega
        refine hQ I1 L1 (gJ.tr k1) (hmSl.rf.up.tr k2) (hmAt_mk hts h1000 ?_ ?_ ?_ ?_ ?_)
        · rw [hx, k5, hcl]
        · rw [hx, k6]
        · rw [hx, k4]
          refine ⟨fun _ => rfl, fun q => ?_, fun q => ?_⟩
          · by_cases c : (hmCut hmLet T (hmEnd hmSpc T p)).length ≤ 8
            · simp only [if_pos c] at q
              exact absurd q (by decide)
            · simp only [if_neg c] at q
              exact absurd q (by decide)
          · by_cases c : (hmCut hmLet T (hmEnd hmSpc T p)).length ≤ 8
            · simp only [if_pos c] at q
              exact absurd q (by decide)
            · simp only [if_neg c] at q
              exact absurd q (by decide)
        · rw [hx, k3]
        · rw [hx]
          exact Nat.le_of_lt hlt
  · refine Ex_aload_n 65 (i := 0) dX7_step_64 rfl rfl rfl ?_
    refine Ex_iconst 66 (v := 0) dX7_step_65 (by decide) rfl ?_
    refine Ex_pI 69 (va_up (va_up (I a) 3 (nI (hmEnd hmSpc T p))) 5 (nI (hmEnd hmSpc T p))) (va_up I a (va_up (va_up (va_up (I a) 3 (nI (hmEnd hmSpc T p))) 5 (nI (hmEnd hmSpc T p))) 2 0)) dX7_step_66 fX7_27 rfl ha.1 rfl (fun _ => rfl) (va_up_self _ _ _) rfl (va_up_up _ _ _ _) rfl ?_
    refine Ex_goto 134 dX7_step_69 (by decide) ?_
    refine Ex_ret0 dX7_step_134 rfl (Or.inl rfl) ?_
    have hnl : ¬ (hmEnd hmSpc T p) < T.length := fun q => c1 ((nI_ltI (by omega) (by omega)).mpr q)
    have hx := hmLx_fin hnl
    refine hQ _ _ (gJ.up (va_up_self _ _ _) (Or.inl rfl) |> fun q => by rw [va_up_up] at q; exact q) hmSl.rf.up (hmAt_mk hts h1000 ?_ ?_ ?_ ?_ ?_)
    · rw [hx, va_up_self, va_up_self]
      rfl
    · rw [hx, va_up_self, va_up_ne _ _ (by omega), va_up_ne _ _ (by omega), va_up_self]
    · rw [hx]
      exact ⟨fun q => absurd (show (0 : Nat) = 2 from q) (by decide), fun q => absurd (show (0 : Nat) = 3 from q) (by decide), fun q => absurd (show (0 : Nat) = 4 from q) (by decide)⟩
    · rw [hx, va_up_self, va_up_ne _ _ (by omega), va_up_self]
    · rw [hx]
      exact hsk.2
set_option maxHeartbeats 4000000 in
theorem c_rewind {d : Nat} {sh : xSh} {R : xR} {L : xL} {I : xI} {Q : xQ} {a : Nat} {T : List Nat} (ha : xTape sh R a) (hT : hmTp I a T) (hc : ∀ x, x ∈ T → x < 127) {t : hmTok} {r : List hmTok} (hts : hmTsR T (t :: r) 0) (hQ : ∀ I' L', hmSp a I I' → hmSl a L L' → hmAt I' L' a T t r → Q none 0 sh R L' I') : Ex (d + 6) 0 0 MX7_rewind 0 sh R L I 0 [some (.ref a)] [] Q := by
  refine Ex_aload_n 1 (i := 0) dX7_rewind_0 rfl rfl rfl ?_
  refine Ex_iconst 2 (v := 0) dX7_rewind_1 (by decide) rfl ?_
  refine Ex_pI 5 (I a) (va_up I a (va_up (I a) 5 0)) dX7_rewind_2 fX7_21 rfl ha.1 rfl (fun _ => rfl) rfl rfl rfl rfl ?_
  refine Ex_aload_n 6 (i := 0) dX7_rewind_5 rfl rfl rfl ?_
  refine Ex_callV (M' := MX7_step) 9 [] (rest := []) dX7_rewind_6 lX7_24 mX7_step rfl ha.1 rfl (Nat.le_of_ble_eq_true rfl) (Nat.le_of_ble_eq_true rfl) rfl ?_
  refine c_step (t := t) (r := r) (p := 0) ha (hT.sp (hmSp.rf.up rfl (Or.inr (Or.inr rfl)))) hc (by rw [va_up_self, va_up_self]; rfl) hts (fun I1 L1 k1 k2 k3 => ?_)
  simp only [Option.toList, List.nil_append, List.cons_append]
  refine Ex_ret0 dX7_rewind_9 rfl (Or.inl rfl) ?_
  exact hQ I1 L1 ((hmSp.rf.up rfl (Or.inr (Or.inr rfl))).tr k1) k2 k3
set_option maxHeartbeats 4000000 in
theorem c_tapeClear {d : Nat} {sh : xSh} {R : xR} {L : xL} {I : xI} {Q : xQ} {a : Nat} (ha : xTape sh R a) (hQ : Q none 0 sh R L (va_up I a (va_up (I a) 1 0))) : Ex d 0 0 MX7_clear 0 sh R L I 0 [some (.ref a)] [] Q := by
  refine Ex_aload_n 1 (i := 0) dX7_clear_0 rfl rfl rfl ?_
  refine Ex_iconst 2 (v := 0) dX7_clear_1 (by decide) rfl ?_
  refine Ex_pI 5 (I a) (va_up I a (va_up (I a) 1 0)) dX7_clear_2 fX7_17 rfl ha.1 rfl (fun _ => rfl) rfl rfl rfl rfl ?_
  refine Ex_ret0 dX7_clear_5 rfl (Or.inl rfl) ?_
  exact hQ
theorem hm_srt {k n : Nat} (hk : k ≤ 4) (hn : n ≤ 4) : (nI k = nI n ↔ k = n) := nI_eq (by omega) (by omega)
theorem hm_lg0 {x y : Int64} : (lg_cmp x y = 0 ↔ x = y) := by
  unfold lg_cmp
  by_cases h1 : y < x
  · rw [if_pos h1]
    constructor
    · intro q
      exact absurd q (by decide)
    · intro q
      rw [q] at h1
      exact absurd h1 (fun z => Int64.lt_irrefl z)
  · rw [if_neg h1]
    by_cases h2 : x = y
    · rw [if_pos h2]
      exact ⟨fun _ => h2, fun _ => rfl⟩
    · rw [if_neg h2]
      exact ⟨fun q => absurd q (by decide), fun q => absurd q h2⟩
set_option maxHeartbeats 4000000 in
theorem c_isWord {d : Nat} {sh : xSh} {R : xR} {L : xL} {I : xI} {Q : xQ} {a : Nat} {T : List Nat} {t : hmTok} {r : List hmTok} (ha : xTape sh R a) (hA : hmAt I L a T t r) {wv : Int64} {l : List Nat} (hw : wv = hmE256 l) (hl : hmWd l) (hQ : Q (some (.int (hmB (hmIsW t l)))) 0 sh R L I) : Ex d 0 0 MX7_isWord 0 sh R L I 0 [some (.ref a), some (.long wv), none] [] Q := by
  obtain ⟨s2, s3, sv, s0, s5, sk, sp⟩ := id hA
  have k4 := sk.2.2.2
  refine Ex_aload_n 1 (i := 0) dX7_isWord_0 rfl rfl rfl ?_
  refine Ex_gI 4 (I a 2) dX7_isWord_1 fX7_27 ha.1 rfl rfl rfl ?_
  rw [s2]
  refine Ex_iconst 5 (v := 2) dX7_isWord_4 (by decide) rfl ?_
  refine Ex_icmp_ne 8 21 dX7_isWord_5 (by decide) rfl (fun c1 => ?_) (fun c1 => ?_)
  · refine Ex_iconst 22 (v := 0) dX7_isWord_21 (by decide) rfl ?_
    refine Ex_iret dX7_isWord_22 rfl (by decide) (Or.inl rfl) ?_
    have e : hmB (hmIsW t l) = 0 := by
      rw [hmB_0]
      unfold hmIsW
      refine decide_eq_false (fun q => c1 ?_)
      rw [q.1]
      rfl
    rw [← e]
    exact hQ
  · refine Ex_aload_n 9 (i := 0) dX7_isWord_8 rfl rfl rfl ?_
    refine Ex_gL 12 (L a 4) dX7_isWord_9 fX7_30 ha.1 rfl rfl ?_
    refine Ex_lload_n 13 (i := 1) dX7_isWord_12 rfl rfl rfl ?_
    refine Ex_lcmp 14 dX7_isWord_13 rfl ?_
    refine Ex_if_ne 17 21 dX7_isWord_14 (by decide) rfl (fun c2 => ?_) (fun c2 => ?_)
    · refine Ex_iconst 22 (v := 0) dX7_isWord_21 (by decide) rfl ?_
      refine Ex_iret dX7_isWord_22 rfl (by decide) (Or.inl rfl) ?_
      have e : hmB (hmIsW t l) = 0 := by
        have t2 : t.1 = 2 := (nI_eq (by omega) (by omega)).mp c1
        rw [hmB_0]
        unfold hmIsW
        refine decide_eq_false (fun q => c2 (hm_lg0.mpr ?_))
        rw [sv.1 t2, hw, q.2]
      rw [← e]
      exact hQ
    · refine Ex_iconst 18 (v := 1) dX7_isWord_17 (by decide) rfl ?_
      refine Ex_goto 22 dX7_isWord_18 (by decide) ?_
      refine Ex_iret dX7_isWord_22 rfl (by decide) (Or.inl rfl) ?_
      have e : hmB (hmIsW t l) = 1 := by
        have t2 : t.1 = 2 := (nI_eq (by omega) (by omega)).mp c1
        have h1 := hm_lg0.mp c2
        rw [sv.1 t2, hw] at h1
        have h2 := sk.1 t2
        rw [hmB_1]
        unfold hmIsW
        exact decide_eq_true ⟨t2, hmE256_inj ⟨h2.1, h2.2.1⟩ hl h1⟩
      rw [← e]
      exact hQ
theorem hm_sg_lt {x : Nat} (h : hmSg8 x = true) : x < 128 := by
  simp only [hmSg8, Bool.or_eq_true, beq_iff_eq] at h
  omega
set_option maxHeartbeats 4000000 in
theorem c_isSign {d : Nat} {sh : xSh} {R : xR} {L : xL} {I : xI} {Q : xQ} {a : Nat} {T : List Nat} {t : hmTok} {r : List hmTok} (ha : xTape sh R a) (hA : hmAt I L a T t r) {c : Nat} (hc : c < 128) (hQ : Q (some (.int (hmB (hmIsS t c)))) 0 sh R L I) : Ex d 0 0 MX7_isSign 0 sh R L I 0 [some (.ref a), some (.int (nI c))] [] Q := by
  obtain ⟨s2, s3, sv, s0, s5, sk, sp⟩ := id hA
  have k4 := sk.2.2.2
  refine Ex_aload_n 1 (i := 0) dX7_isSign_0 rfl rfl rfl ?_
  refine Ex_gI 4 (I a 2) dX7_isSign_1 fX7_27 ha.1 rfl rfl rfl ?_
  rw [s2]
  refine Ex_iconst 5 (v := 4) dX7_isSign_4 (by decide) rfl ?_
  refine Ex_icmp_ne 8 22 dX7_isSign_5 (by decide) rfl (fun c1 => ?_) (fun c1 => ?_)
  · refine Ex_iconst 23 (v := 0) dX7_isSign_22 (by decide) rfl ?_
    refine Ex_iret dX7_isSign_23 rfl (by decide) (Or.inl rfl) ?_
    have e : hmB (hmIsS t c) = 0 := by
      rw [hmB_0]
      unfold hmIsS
      refine decide_eq_false (fun q => c1 ?_)
      rw [q.1]
      rfl
    rw [← e]
    exact hQ
  · refine Ex_aload_n 9 (i := 0) dX7_isSign_8 rfl rfl rfl ?_
    refine Ex_gL 12 (L a 4) dX7_isSign_9 fX7_30 ha.1 rfl rfl ?_
    refine Ex_iload_n 13 (i := 1) dX7_isSign_12 rfl rfl rfl ?_
    refine Ex_i2l 14 dX7_isSign_13 rfl ?_
    rw [hm_i2l (by omega)]
    refine Ex_lcmp 15 dX7_isSign_14 rfl ?_
    refine Ex_if_ne 18 22 dX7_isSign_15 (by decide) rfl (fun c2 => ?_) (fun c2 => ?_)
    · refine Ex_iconst 23 (v := 0) dX7_isSign_22 (by decide) rfl ?_
      refine Ex_iret dX7_isSign_23 rfl (by decide) (Or.inl rfl) ?_
      have e : hmB (hmIsS t c) = 0 := by
        have t2 : t.1 = 4 := (nI_eq (by omega) (by omega)).mp c1
        rw [hmB_0]
        unfold hmIsS
        refine decide_eq_false (fun q => c2 (hm_lg0.mpr ?_))
        rw [sv.2.2 t2, q.2]
        rfl
      rw [← e]
      exact hQ
    · refine Ex_iconst 19 (v := 1) dX7_isSign_18 (by decide) rfl ?_
      refine Ex_goto 23 dX7_isSign_19 (by decide) ?_
      refine Ex_iret dX7_isSign_23 rfl (by decide) (Or.inl rfl) ?_
      have e : hmB (hmIsS t c) = 1 := by
        have t2 : t.1 = 4 := (nI_eq (by omega) (by omega)).mp c1
        have h1 := hm_lg0.mp c2
        rw [sv.2.2 t2] at h1
        obtain ⟨x, hx, hx8⟩ := sk.2.2.1 t2
        have hx9 : x < 128 := hm_sg_lt hx8
        rw [hx] at h1
        have h3 : x = c := nL_inj2 (by omega) (by omega) h1
        rw [hmB_1]
        unfold hmIsS
        exact decide_eq_true ⟨t2, by rw [hx, h3]⟩
      rw [← e]
      exact hQ
