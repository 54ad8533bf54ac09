theorem hm_ix {x y : Nat} : nI x * 6 + nI y = nI (x * 6 + y) := by
  have h1 : nI x * 6 = nI (x * 6) := pk_mul x 6
  rw [h1, nI_add]
def hmFd (a dk : Nat) (I I' : xI) : Prop := ∀ x, ¬ (a ≤ x ∧ x < a + 5) → x ≠ dk + 8 → I' x = I x
theorem hm_talk2 {r : Nat → Int32} {tk : Nat → Nat → Nat} {p q : Nat} (hp : p < 6) (hq : q < 6) (h : ∀ x, x < 6 → ∀ y, y < 6 → r (x * 6 + y) = nI (tk x y)) : ∀ x, x < 6 → ∀ y, y < 6 → va_up (va_up r (p * 6 + q) (nI (tk p q + 1))) (q * 6 + p) (nI (tk p q + 1)) (x * 6 + y) = nI (hmTalk2 tk p q x y) := by
  intro x hx y hy
  unfold hmTalk2
  by_cases h1 : x = p ∧ y = q
  · obtain ⟨rfl, rfl⟩ := h1
    rw [if_pos (Or.inl ⟨rfl, rfl⟩)]
    simp only [va_up]
    split <;> simp
  · by_cases h2 : x = q ∧ y = p
    · obtain ⟨rfl, rfl⟩ := h2
      rw [if_pos (Or.inr ⟨rfl, rfl⟩), va_up_self]
    · rw [if_neg (fun z => z.elim h1 h2), va_up_ne _ _ (by omega), va_up_ne _ _ (by omega)]
      exact h x hx y hy
theorem hm_s10_or {x y : Int32} (hx : hmS10 x) (hy : hmS10 y) : hmS10 (x ||| y) := by
  obtain ⟨k, hk, rfl⟩ := hx
  obtain ⟨j, hj, rfl⟩ := hy
  refine ⟨k ||| j, Nat.or_lt_two_pow (n := 10) hk hj, ?_⟩
  apply Int32.toBitVec_inj.mp
  simp only [Int32.toBitVec_or, nI, Int32.toBitVec_ofNat']
  apply BitVec.eq_of_toNat_eq
  simp only [BitVec.toNat_or, BitVec.toNat_ofNat]
  have h1 : k ||| j < 2 ^ 10 := Nat.or_lt_two_pow hk hj
  rw [Nat.mod_eq_of_lt (by omega), Nat.mod_eq_of_lt (by omega), Nat.mod_eq_of_lt (by omega)]
theorem hm_s10_and {x y : Int32} (hx : hmS10 x) : hmS10 (x &&& y) := by
  obtain ⟨k, hk, rfl⟩ := hx
  refine ⟨k &&& y.toBitVec.toNat, Nat.lt_of_le_of_lt Nat.and_le_left hk, ?_⟩
  apply Int32.toBitVec_inj.mp
  simp only [Int32.toBitVec_and, nI, Int32.toBitVec_ofNat']
  apply BitVec.eq_of_toNat_eq
  simp only [BitVec.toNat_and, BitVec.toNat_ofNat]
  have h1 : k &&& y.toBitVec.toNat ≤ k := Nat.and_le_left
  rw [Nat.mod_eq_of_lt (by omega), Nat.mod_eq_of_lt (by omega)]
theorem hm_said_s10 {O : hmO} {has : Nat → Int32} {fr to : Nat} {bh : Option Nat} (hs : ∀ w, w < 6 → hmS10 (has w)) (hf : fr < 6) (hb : ∀ b, bh = some b → b < 6) : hmS10 (hmSaid O has fr to bh) := by
  unfold hmSaid
  split
  · exact hm_s10_and (hs fr hf)
  · split
    · cases bh with
      | none => exact hs fr hf
      | some b => exact hm_s10_or (hs fr hf) (hs b (hb b rfl))
    · exact hs fr hf
theorem hm_tell_s10 {O : hmO} {has : Nat → Int32} {held : Nat → Nat} {tm fr to : Nat} {bh : Option Nat} (hs : ∀ w, w < 6 → hmS10 (has w)) (hf : fr < 6) (hb : ∀ b, bh = some b → b < 6) : ∀ w, w < 6 → hmS10 (hmTell O has held tm fr to bh w) := by
  intro w hw
  unfold hmTell
  split
  · exact hs w hw
  · by_cases h : w = to
    · subst h
      rw [va_up_self]
      exact hm_s10_or (hs w hw) (hm_said_s10 hs hf hb)
    · rw [va_up_ne _ _ h]
      exact hs w hw
set_option maxHeartbeats 4000000 in
theorem c_put_41 {d : Nat} {sh : xSh} {R : xR} {L : xL} {I : xI} {Q : xQ} {a dk : Nat} {H : hmH} {O : hmO} (hh : xHall sh R a) (hdk : xDesk sh R dk) (hdis : dk + 9 ≤ a ∨ a + 5 ≤ dk) (hH : hmR I a H) (hO : hmD I dk O) (ho : hmOok O) (hok : hmOk O H) {p : Nat} (hp : p + 1 < (hmLine H).length) (hQ : ∀ I', hmFd a dk I I' → hmR I' a (hmPair O H ((hmLine H).getD p 0) ((hmLine H).getD (p + 1) 0) ((hmLine H)[p + 2]?)) → Q none 0 sh R L I') : ∀ u v bh, (hmLine H).getD p 0 = u → (hmLine H).getD (p + 1) 0 = v → (hmLine H)[p + 2]? = bh → u < hmN O → v < hmN O → (∀ b, bh = some b → b < 6) → Ex (d + 2) 0 0 MX1_putThrough 0 sh R L I 41 [some (.ref a), some (.ref dk), some (.int (nI p)), some (.int (nI u)), some (.int (nI v)), some (.int (hmOb bh)), none] [] Q := by
  intro u v bh hue hve hbe hu hv hbb
  obtain ⟨h6, hlen, hset, htak, hmin, hline, hhas, hheld, htalk⟩ := id hH
  obtain ⟨on, otk, ow, olen, olaw⟩ := id hO
  obtain ⟨o6, ot1, ot2, oo, oll, owf⟩ := id ho
  obtain ⟨hnd, hlN, hs10, hs6, ht6, hhh, hhz, hnb, hsym⟩ := id hok
  rw [hue, hve, hbe] at hQ
  refine Ex_aload_n 42 (i := 0) dX1_putThrough_41 rfl rfl rfl ?_
  refine Ex_getR 45 dX1_putThrough_42 fX1_21 hh.1 rfl hh.2.2.2.2.2.2.2.2 rfl ?_
  refine Ex_iload_n 46 (i := 3) dX1_putThrough_45 rfl rfl rfl ?_
  refine Ex_bipush 48 (v := 6) dX1_putThrough_46 (by decide) rfl ?_
  refine Ex_imul 49 dX1_putThrough_48 rfl ?_
  refine Ex_iload 51 dX1_putThrough_49 rfl rfl ?_
  refine Ex_iadd 52 dX1_putThrough_51 rfl ?_
  refine Ex_aI 53 (u * 6 + v) (I (a + 4) (u * 6 + v)) dX1_putThrough_52 hh.2.2.2.2.1 hm_ix (by omega) (by decide) rfl rfl ?_
  rw [htalk u (by omega) v (by omega)]
  refine Ex_iconst 54 (v := 1) dX1_putThrough_53 (by decide) rfl ?_
  refine Ex_iadd 55 dX1_putThrough_54 rfl ?_
  rw [nI_1]
  refine Ex_istore 57 (ls' := [some (.ref a), some (.ref dk), some (.int (nI p)), some (.int (nI u)), some (.int (nI v)), some (.int (hmOb bh)), some (.int (nI (hmTalk H u v + 1)))]) dX1_putThrough_55 (Nat.le_of_ble_eq_true rfl) rfl rfl rfl ?_
  refine Ex_aload_n 58 (i := 0) dX1_putThrough_57 rfl rfl rfl ?_
  refine Ex_getR 61 dX1_putThrough_58 fX1_21 hh.1 rfl hh.2.2.2.2.2.2.2.2 rfl ?_
  refine Ex_iload_n 62 (i := 3) dX1_putThrough_61 rfl rfl rfl ?_
  refine Ex_bipush 64 (v := 6) dX1_putThrough_62 (by decide) rfl ?_
  refine Ex_imul 65 dX1_putThrough_64 rfl ?_
  refine Ex_iload 67 dX1_putThrough_65 rfl rfl ?_
  refine Ex_iadd 68 dX1_putThrough_67 rfl ?_
  refine Ex_iload 70 dX1_putThrough_68 rfl rfl ?_
  refine Ex_sI 71 (u * 6 + v) (I (a + 4)) (va_up I (a + 4) (va_up (I (a + 4)) (u * 6 + v) (nI (hmTalk H u v + 1)))) dX1_putThrough_70 hh.2.2.2.2.1 hm_ix (by omega) (by decide) rfl rfl rfl ?_
  refine Ex_aload_n 72 (i := 0) dX1_putThrough_71 rfl rfl rfl ?_
  refine Ex_getR 75 dX1_putThrough_72 fX1_21 hh.1 rfl hh.2.2.2.2.2.2.2.2 rfl ?_
  refine Ex_iload 77 dX1_putThrough_75 rfl rfl ?_
  refine Ex_bipush 79 (v := 6) dX1_putThrough_77 (by decide) rfl ?_
  refine Ex_imul 80 dX1_putThrough_79 rfl ?_
  refine Ex_iload_n 81 (i := 3) dX1_putThrough_80 rfl rfl rfl ?_
  refine Ex_iadd 82 dX1_putThrough_81 rfl ?_
  refine Ex_iload 84 dX1_putThrough_82 rfl rfl ?_
  refine Ex_sI 85 (v * 6 + u) (va_up (I (a + 4)) (u * 6 + v) (nI (hmTalk H u v + 1))) (va_up I (a + 4) (va_up (va_up (I (a + 4)) (u * 6 + v) (nI (hmTalk H u v + 1))) (v * 6 + u) (nI (hmTalk H u v + 1)))) dX1_putThrough_84 hh.2.2.2.2.1 hm_ix (by omega) (by decide) (va_up_self _ _ _) (va_up_up _ _ _ _) rfl ?_
  refine Ex_aload_n 86 (i := 0) dX1_putThrough_85 rfl rfl rfl ?_
  refine Ex_getR 89 dX1_putThrough_86 fX1_9 hh.1 rfl hh.2.2.2.2.2.1 rfl ?_
  refine Ex_iload 91 dX1_putThrough_89 rfl rfl ?_
  refine Ex_dup2 92 dX1_putThrough_91 rfl rfl rfl ?_
  refine Ex_aI 93 v (I (a + 1) v) dX1_putThrough_92 hh.2.1 rfl (by omega) (by decide) (congrFun (va_up_ne _ _ (by omega)) _) rfl ?_
  rw [hhas v (by omega)]
  refine Ex_aload_n 94 (i := 0) dX1_putThrough_93 rfl rfl rfl ?_
  refine Ex_aload_n 95 (i := 1) dX1_putThrough_94 rfl rfl rfl ?_
  refine Ex_iload_n 96 (i := 3) dX1_putThrough_95 rfl rfl rfl ?_
  refine Ex_iload 98 dX1_putThrough_96 rfl rfl ?_
  refine Ex_iload 100 dX1_putThrough_98 rfl rfl ?_
  refine Ex_iload 102 dX1_putThrough_100 rfl rfl ?_
  obtain ⟨J, hJ⟩ : ∃ J, J = (va_up I (a + 4) (va_up (va_up (I (a + 4)) (u * 6 + v) (nI (hmTalk H u v + 1))) (v * 6 + u) (nI (hmTalk H u v + 1)))) := ⟨_, rfl⟩
  rw [← hJ]
  obtain ⟨H1, hHe1⟩ : ∃ H1 : hmH, H1 = (hmLine H, hmHas H, hmHeld H, hmTalk2 (hmTalk H) u v, hmSet H, hmTak H, hmMin H) := ⟨_, rfl⟩
  have hJr : ∀ x, x ≠ a + 4 → J x = I x := fun x hx => by rw [hJ, va_up_ne _ _ hx]
  have hJ4 : J (a + 4) = va_up (va_up (I (a + 4)) (u * 6 + v) (nI (hmTalk H u v + 1))) (v * 6 + u) (nI (hmTalk H u v + 1)) := by rw [hJ, va_up_self]
  have hH1 : hmR J a H1 := hmR_mk (hJr _ (by omega)) (hJr _ (by omega)) (hJr _ (by omega)) (hJr _ (by omega)) hJ4 (by
    rw [hHe1]
    exact ⟨h6, hlen, hset, htak, hmin, hline, hhas, hheld, hm_talk2 (by omega) (by omega) htalk⟩)
  have hO1 : hmD J dk O := hO.kept (fun x hx1 hx2 => hJr x (by omega))
  have hs1 : ∀ w, w < 6 → hmS10 (hmHas H1 w) := by rw [hHe1]; exact hs10
  refine Ex_callV (M' := MX1_heard) 105 [.ref dk, .int (nI u), .int (nI v), .int (hmOb bh), .int (nI (hmTalk H u v + 1))] (rest := [.int (hmHas H v), .int (nI v), .ref (a + 1)]) dX1_putThrough_102 lX1_85 mX1_heard rfl hh.1 rfl (Nat.le_of_ble_eq_true rfl) (Nat.le_of_ble_eq_true rfl) rfl ?_
  refine c_heard (H := H1) hh hdk hdis hH1 hO1 ho hs1 hu hv hbb (fun J1 hF1 => ?_)
  simp only [Option.toList, List.cons_append, List.nil_append]
  rw [show hmHas H1 = hmHas H by rw [hHe1]; rfl, show hmHeld H1 = hmHeld H by rw [hHe1]; rfl]
  refine Ex_ior 106 dX1_putThrough_105 rfl ?_
  refine Ex_sI 107 v (I (a + 1)) (va_up J1 (a + 1) (va_up (I (a + 1)) v ((hmHas H v) ||| (hmHeard O (hmHas H) (hmHeld H) (hmTalk H u v + 1) u v bh)))) dX1_putThrough_106 hh.2.1 rfl (by omega) (by decide) ((hF1 _ (by omega)).trans (hJr _ (by omega))) rfl rfl ?_
  refine Ex_aload_n 108 (i := 0) dX1_putThrough_107 rfl rfl rfl ?_
  refine Ex_getR 111 dX1_putThrough_108 fX1_9 hh.1 rfl hh.2.2.2.2.2.1 rfl ?_
  refine Ex_iload_n 112 (i := 3) dX1_putThrough_111 rfl rfl rfl ?_
  refine Ex_dup2 113 dX1_putThrough_112 rfl rfl rfl ?_
  refine Ex_aI 114 u ((va_up (I (a + 1)) v ((hmHas H v) ||| (hmHeard O (hmHas H) (hmHeld H) (hmTalk H u v + 1) u v bh))) u) dX1_putThrough_113 hh.2.1 rfl (by omega) (by decide) (congrFun (va_up_self _ _ _) _) rfl ?_
  have hKu : ((va_up (I (a + 1)) v ((hmHas H v) ||| (hmHeard O (hmHas H) (hmHeld H) (hmTalk H u v + 1) u v bh))) u) = hmTell O (hmHas H) (hmHeld H) (hmTalk H u v + 1) u v bh u := by
    rw [← hm_heard_tell]
    by_cases huv : u = v
    · subst huv; rw [va_up_self, va_up_self]
    · rw [va_up_ne _ _ huv, va_up_ne _ _ huv]; exact hhas u (by omega)
  rw [hKu]
  refine Ex_aload_n 115 (i := 0) dX1_putThrough_114 rfl rfl rfl ?_
  refine Ex_aload_n 116 (i := 1) dX1_putThrough_115 rfl rfl rfl ?_
  refine Ex_iload 118 dX1_putThrough_116 rfl rfl ?_
  refine Ex_iload_n 119 (i := 3) dX1_putThrough_118 rfl rfl rfl ?_
  refine Ex_iload 121 dX1_putThrough_119 rfl rfl ?_
  refine Ex_iload 123 dX1_putThrough_121 rfl rfl ?_
  obtain ⟨K, hK⟩ : ∃ K, K = (va_up J1 (a + 1) (va_up (I (a + 1)) v ((hmHas H v) ||| (hmHeard O (hmHas H) (hmHeld H) (hmTalk H u v + 1) u v bh)))) := ⟨_, rfl⟩
  rw [← hK]
  obtain ⟨H2, hHe2⟩ : ∃ H2 : hmH, H2 = (hmLine H, hmTell O (hmHas H) (hmHeld H) (hmTalk H u v + 1) u v bh, hmHeld H, hmTalk2 (hmTalk H) u v, hmSet H, hmTak H, hmMin H) := ⟨_, rfl⟩
  have hKr : ∀ x, x ≠ a + 1 → K x = J1 x := fun x hx => by rw [hK, va_up_ne _ _ hx]
  have hK1 : K (a + 1) = va_up (I (a + 1)) v (hmHas H v ||| hmHeard O (hmHas H) (hmHeld H) (hmTalk H u v + 1) u v bh) := by rw [hK, va_up_self]
  have hJ1r : ∀ q, q < 5 → J1 (a + q) = J (a + q) := fun q hq => hF1 _ (by omega)
  have htel := hm_heard_tell O (hmHas H) (hmHeld H) (hmTalk H u v + 1) u v bh
  have hH2 : hmR K a H2 := hmR_mk ((hKr _ (by omega)).trans ((hF1 _ (by omega)).trans (hJr _ (by omega)))) hK1 ((hKr _ (by omega)).trans ((hF1 _ (by omega)).trans (hJr _ (by omega)))) ((hKr _ (by omega)).trans ((hF1 _ (by omega)).trans (hJr _ (by omega)))) ((hKr _ (by omega)).trans ((hF1 _ (by omega)).trans hJ4)) (by
    rw [hHe2]
    refine ⟨h6, hlen, hset, htak, hmin, hline, fun w hw => ?_, hheld, hm_talk2 (by omega) (by omega) htalk⟩
    show _ = hmTell O (hmHas H) (hmHeld H) (hmTalk H u v + 1) u v bh w
    rw [← htel]
    by_cases hwv : w = v
    · subst hwv; rw [va_up_self, va_up_self]
    · rw [va_up_ne _ _ hwv, va_up_ne _ _ hwv]; exact hhas w hw)
  have hO2 : hmD K dk O := hO1.kept (fun x hx1 hx2 => (hKr x (by omega)).trans (hF1 x (by omega)))
  have hs2 : ∀ w, w < 6 → hmS10 (hmHas H2 w) := by rw [hHe2]; exact hm_tell_s10 hs10 (by omega) hbb
  refine Ex_callV (M' := MX1_heard) 126 [.ref dk, .int (nI v), .int (nI u), .int (hmOb bh), .int (nI (hmTalk H u v + 1))] (rest := [.int (hmTell O (hmHas H) (hmHeld H) (hmTalk H u v + 1) u v bh u), .int (nI u), .ref (a + 1)]) dX1_putThrough_123 lX1_85 mX1_heard rfl hh.1 rfl (Nat.le_of_ble_eq_true rfl) (Nat.le_of_ble_eq_true rfl) rfl ?_
  refine c_heard (H := H2) hh hdk hdis hH2 hO2 ho hs2 hv hu hbb (fun J2 hF2 => ?_)
  simp only [Option.toList, List.cons_append, List.nil_append]
  rw [show hmHas H2 = (hmTell O (hmHas H) (hmHeld H) (hmTalk H u v + 1) u v bh) by rw [hHe2]; rfl, show hmHeld H2 = hmHeld H by rw [hHe2]; rfl]
  refine Ex_ior 127 dX1_putThrough_126 rfl ?_
  refine Ex_sI 128 u (K (a + 1)) (va_up J2 (a + 1) (va_up (K (a + 1)) u ((hmTell O (hmHas H) (hmHeld H) (hmTalk H u v + 1) u v bh u) ||| (hmHeard O (hmTell O (hmHas H) (hmHeld H) (hmTalk H u v + 1) u v bh) (hmHeld H) (hmTalk H u v + 1) v u bh)))) dX1_putThrough_127 hh.2.1 rfl (by omega) (by decide) ((hF2 _ (by omega)).trans rfl) rfl rfl ?_
  refine Ex_ret0 dX1_putThrough_128 rfl (Or.inl rfl) ?_
  refine hQ _ (fun x hx1 hx2 => ?_) ?_
  · rw [va_up_ne _ _ (by omega), hF2 x hx2, hKr x (by omega), hF1 x hx2, hJr x (by omega)]
  · refine hmR_mk ((va_up_ne _ _ (by omega)).trans ((hF2 _ (by omega)).trans (hKr _ (by omega)))) (va_up_self _ _ _) ((va_up_ne _ _ (by omega)).trans ((hF2 _ (by omega)).trans (hKr _ (by omega)))) ((va_up_ne _ _ (by omega)).trans ((hF2 _ (by omega)).trans (hKr _ (by omega)))) ((va_up_ne _ _ (by omega)).trans ((hF2 _ (by omega)).trans (hKr _ (by omega)))) ?_
    have htel2 := hm_heard_tell O (hmTell O (hmHas H) (hmHeld H) (hmTalk H u v + 1) u v bh) (hmHeld H) (hmTalk H u v + 1) v u bh
    obtain ⟨r6, rlen, rset, rtak, rmin, rline, rhas, rheld, rtalk⟩ := id hH2
    rw [hHe2] at rhas
    have e0 : J1 a = I a := (hF1 _ (by omega)).trans (hJr _ (by omega))
    have e2 : J1 (a + 2) = I (a + 2) := (hF1 _ (by omega)).trans (hJr _ (by omega))
    have e3 : J1 (a + 3) = I (a + 3) := (hF1 _ (by omega)).trans (hJr _ (by omega))
    have e4 : J1 (a + 4) = _ := (hF1 _ (by omega)).trans hJ4
    rw [e0, e2, e3, e4]
    refine ⟨h6, hlen, hset, htak, hmin, hline, fun w hw => ?_, hheld, hm_talk2 (by omega) (by omega) htalk⟩
    show _ = hmTell O (hmTell O (hmHas H) (hmHeld H) (hmTalk H u v + 1) u v bh) (hmHeld H) (hmTalk H u v + 1) v u bh w
    rw [← htel2]
    by_cases hwu : w = u
    · subst hwu
      rw [va_up_self, va_up_self]
    · rw [va_up_ne _ _ hwu, va_up_ne _ _ hwu]
      exact rhas w hw
set_option maxHeartbeats 4000000 in
theorem c_putThrough {d : Nat} {sh : xSh} {R : xR} {L : xL} {I : xI} {Q : xQ} {a dk : Nat} {H : hmH} {O : hmO} (hh : xHall sh R a) (hdk : xDesk sh R dk) (hdis : dk + 9 ≤ a ∨ a + 5 ≤ dk) (hH : hmR I a H) (hO : hmD I dk O) (ho : hmOok O) (hok : hmOk O H) {p : Nat} (hp : p + 1 < (hmLine H).length) (hQ : ∀ I', hmFd a dk I I' → hmR I' a (hmPair O H ((hmLine H).getD p 0) ((hmLine H).getD (p + 1) 0) ((hmLine H)[p + 2]?)) → Q none 0 sh R L I') : Ex (d + 2) 0 0 MX1_putThrough 0 sh R L I 0 [some (.ref a), some (.ref dk), some (.int (nI p)), none, none, none, none] [] Q := by
  obtain ⟨h6, hlen, hset, htak, hmin, hline, hhas, hheld, htalk⟩ := id hH
  obtain ⟨on, otk, ow, olen, olaw⟩ := id hO
  obtain ⟨o6, ot1, ot2, oo, oll, owf⟩ := id ho
  obtain ⟨hnd, hlN, hs10, hs6, ht6, hhh, hhz, hnb, hsym⟩ := id hok
  obtain ⟨u, hu, hue⟩ : ∃ u, u < hmN O ∧ (hmLine H).getD p 0 = u := ⟨_, hlN _ (hm_getD_mem (by omega)), rfl⟩
  obtain ⟨v, hv, hve⟩ : ∃ v, v < hmN O ∧ (hmLine H).getD (p + 1) 0 = v := ⟨_, hlN _ (hm_getD_mem (by omega)), rfl⟩
  obtain ⟨bh, hbe⟩ : ∃ bh, (hmLine H)[p + 2]? = bh := ⟨_, rfl⟩
  have hbb : ∀ b, bh = some b → b < 6 := fun b hb => by
    rw [← hbe] at hb
    have := hlN b (List.mem_of_getElem? hb)
    omega
  have hl1 : I (a + 3) p = nI u := by rw [hline p (by omega), hue]
  have hl2 : I (a + 3) (p + 1) = nI v := by rw [hline (p + 1) (by omega), hve]
  rw [hue, hve, hbe] at hQ
  refine Ex_aload_n 1 (i := 0) dX1_putThrough_0 rfl rfl rfl ?_
  refine Ex_getR 4 dX1_putThrough_1 fX1_18 hh.1 rfl hh.2.2.2.2.2.2.2.1 rfl ?_
  refine Ex_iload_n 5 (i := 2) dX1_putThrough_4 rfl rfl rfl ?_
  refine Ex_aI 6 p (I (a + 3) p) dX1_putThrough_5 hh.2.2.2.1 rfl (by omega) (by decide) rfl rfl ?_
  rw [hl1]
  refine Ex_istore_n 7 (i := 3) (ls' := [some (.ref a), some (.ref dk), some (.int (nI p)), some (.int (nI u)), none, none, none]) dX1_putThrough_6 rfl (Nat.le_of_ble_eq_true rfl) rfl rfl rfl ?_
  refine Ex_aload_n 8 (i := 0) dX1_putThrough_7 rfl rfl rfl ?_
  refine Ex_getR 11 dX1_putThrough_8 fX1_18 hh.1 rfl hh.2.2.2.2.2.2.2.1 rfl ?_
  refine Ex_iload_n 12 (i := 2) dX1_putThrough_11 rfl rfl rfl ?_
  refine Ex_iconst 13 (v := 1) dX1_putThrough_12 (by decide) rfl ?_
  refine Ex_iadd 14 dX1_putThrough_13 rfl ?_
  refine Ex_aI 15 (p + 1) (I (a + 3) (p + 1)) dX1_putThrough_14 hh.2.2.2.1 (nI_1 p) (by omega) (by decide) rfl rfl ?_
  rw [hl2]
  refine Ex_istore 17 (ls' := [some (.ref a), some (.ref dk), some (.int (nI p)), some (.int (nI u)), some (.int (nI v)), none, none]) dX1_putThrough_15 (Nat.le_of_ble_eq_true rfl) rfl rfl rfl ?_
  refine Ex_iload_n 18 (i := 2) dX1_putThrough_17 rfl rfl rfl ?_
  refine Ex_iconst 19 (v := 2) dX1_putThrough_18 (by decide) rfl ?_
  refine Ex_iadd 20 dX1_putThrough_19 rfl ?_
  refine Ex_aload_n 21 (i := 0) dX1_putThrough_20 rfl rfl rfl ?_
  refine Ex_gI 24 (I a 4) dX1_putThrough_21 fX1_33 hh.1 rfl rfl rfl ?_
  rw [show nI p + 2 = nI (p + 2) from nI_add p 2, hlen]
  refine Ex_icmp_ge 27 38 dX1_putThrough_24 (by decide) rfl (fun c1 => ?_) (fun c1 => ?_)
  · refine Ex_iconst 39 (v := (-1)) dX1_putThrough_38 (by decide) rfl ?_
    refine Ex_istore 41 (ls' := [some (.ref a), some (.ref dk), some (.int (nI p)), some (.int (nI u)), some (.int (nI v)), some (.int (-1)), none]) dX1_putThrough_39 (Nat.le_of_ble_eq_true rfl) rfl rfl rfl ?_
    have hp2 : ¬ p + 2 < (hmLine H).length := fun z => absurd c1 (nI_ge z (by omega))
    have hb0 : bh = none := by rw [← hbe]; exact List.getElem?_eq_none (by omega)
    subst hb0
    rw [← hue, ← hve, ← hbe] at hQ
    exact c_put_41 hh hdk hdis hH hO ho hok hp hQ u v none hue hve hbe hu hv hbb
  · refine Ex_aload_n 28 (i := 0) dX1_putThrough_27 rfl rfl rfl ?_
    refine Ex_getR 31 dX1_putThrough_28 fX1_18 hh.1 rfl hh.2.2.2.2.2.2.2.1 rfl ?_
    refine Ex_iload_n 32 (i := 2) dX1_putThrough_31 rfl rfl rfl ?_
    refine Ex_iconst 33 (v := 2) dX1_putThrough_32 (by decide) rfl ?_
    refine Ex_iadd 34 dX1_putThrough_33 rfl ?_
    have hp2 : p + 2 < (hmLine H).length := by
      by_cases hz : p + 2 < (hmLine H).length
      · exact hz
      · exact absurd (nI_le (by omega) (by omega)) c1
    rw [show nI p + 2 = nI (p + 2) from nI_add p 2]
    refine Ex_aI 35 (p + 2) (I (a + 3) (p + 2)) dX1_putThrough_34 hh.2.2.2.1 rfl (by omega) (by decide) rfl rfl ?_
    refine Ex_goto 39 dX1_putThrough_35 (by decide) ?_
    refine Ex_istore 41 (ls' := [some (.ref a), some (.ref dk), some (.int (nI p)), some (.int (nI u)), some (.int (nI v)), some (.int (I (a + 3) (p + 2))), none]) dX1_putThrough_39 (Nat.le_of_ble_eq_true rfl) rfl rfl rfl ?_
    obtain ⟨b, hb1⟩ : ∃ b, bh = some b := ⟨(hmLine H)[p + 2], by rw [← hbe]; exact List.getElem?_eq_getElem hp2⟩
    have hb2 : I (a + 3) (p + 2) = nI b := by
      rw [hline (p + 2) hp2, List.getD_eq_getElem?_getD, hbe, hb1]
      rfl
    rw [hb2]
    subst hb1
    rw [← hue, ← hve, ← hbe] at hQ
    exact c_put_41 hh hdk hdis hH hO ho hok hp hQ u v (some b) hue hve hbe hu hv hbb
