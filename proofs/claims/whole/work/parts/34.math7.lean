/-! bits, trials -/
theorem hm_bits_s6 {l : List Nat} (hl : ∀ u, u ∈ l → u < 6) : hmS6 (hmBits l) := (hm_fold_bits l 0 ⟨0, by omega, rfl⟩ hl).1
theorem hm_bits_mem {l : List Nat} (hl : ∀ u, u ∈ l → u < 6) {w : Nat} (hw : w < 6) : hmBit (hmBits l) w = decide (w ∈ l) := by
  have h1 := (hm_fold_bits l 0 ⟨0, by omega, rfl⟩ hl).2 w hw
  have h2 : ∀ w, w < 6 → hmBit 0 w = false := by decide +kernel
  rw [h2 w hw, Bool.false_or] at h1
  exact h1
theorem hm_s6_and {x y : Int32} (hx : hmS6 x) : hmS6 (x &&& y) := by
  obtain ⟨k, hk, rfl⟩ := hx
  refine ⟨(nI k &&& y).toBitVec.toNat, ?_, ?_⟩
  · rw [Int32.toBitVec_and, BitVec.toNat_and]
    have h1 : (nI k).toBitVec.toNat ≤ k := by
      simp only [nI, Int32.toBitVec_ofNat', BitVec.toNat_ofNat]
      exact Nat.mod_le _ _
    have h2 := Nat.and_le_left (n := (nI k).toBitVec.toNat) (m := y.toBitVec.toNat)
    omega
  · apply Int32.toBitVec_inj.mp
    simp only [nI, Int32.toBitVec_ofNat']
    apply BitVec.eq_of_toNat_eq
    rw [BitVec.toNat_ofNat, Nat.mod_eq_of_lt (BitVec.isLt _)]
theorem hm_bit_lsb0 : ∀ k, k < 64 → ∀ w, w < 6 → hmBit (nI k) w = (nI k).toBitVec.getLsbD w := by decide +kernel
theorem hm_bit_lsb {x : Int32} (hx : hmS6 x) {w : Nat} (hw : w < 6) : hmBit x w = x.toBitVec.getLsbD w := by
  obtain ⟨k, hk, rfl⟩ := hx
  exact hm_bit_lsb0 k hk w hw
theorem hm_bit_diff {x y : Int32} (hx : hmS6 x) (hy : hmS6 y) {w : Nat} (hw : w < 6) : hmBit (x &&& (y ^^^ -1)) w = (hmBit x w && !hmBit y w) := by
  rw [hm_bit_lsb (hm_s6_and hx) hw, hm_bit_lsb hx hw, hm_bit_lsb hy hw]
  have e : (-1 : Int32).toBitVec = BitVec.allOnes 32 := by decide
  rw [Int32.toBitVec_and, Int32.toBitVec_xor, e, BitVec.getLsbD_and, BitVec.getLsbD_xor, BitVec.getLsbD_allOnes]
  have h1 : decide (w < 32) = true := by
    rw [decide_eq_true_eq]
    omega
  rw [h1, Bool.xor_true]
theorem hm_bit_and {x y : Int32} (hx : hmS6 x) (hy : hmS6 y) {w : Nat} (hw : w < 6) : hmBit (x &&& y) w = (hmBit x w && hmBit y w) := by
  rw [hm_bit_lsb (hm_s6_and hx) hw, hm_bit_lsb hx hw, hm_bit_lsb hy hw, Int32.toBitVec_and, BitVec.getLsbD_and]
theorem hmMinute_set {O : hmO} {tk : Nat} {H : hmH} (h : hmOk O H) (ho : hmOok O) {c : Nat} (hc : c < 6) (hb : hmBit (hmSet H) c = true) : hmBit (hmSet (hmMinute O tk H)) c = true := by
  have hp := hmOk_pairs h ho.1 ((hmLine H).length / 2) (by omega)
  have hs := hmOk_settle hp ho.1
  have hset : hmBit (hmSet (hmSettle O (hmPairs O H ((hmLine H).length / 2)))) c = true := by
    have h2 : ∀ u, u ∈ (hmLine (hmPairs O H ((hmLine H).length / 2))).filter (hmHelped O (hmHas (hmPairs O H ((hmLine H).length / 2)))) → u < 6 := fun u hu => by
      have h3 := hp.2.1 u (List.mem_filter.mp hu).1
      have := ho.1
      omega
    have h4 := (hm_fold_bits _ (hmSet (hmPairs O H ((hmLine H).length / 2))) hp.2.2.2.1 h2).2 c hc
    show hmBit (((hmLine (hmPairs O H ((hmLine H).length / 2))).filter (hmHelped O (hmHas (hmPairs O H ((hmLine H).length / 2))))).foldl (fun s w => s ||| hmOne w) (hmSet (hmPairs O H ((hmLine H).length / 2)))) c = true
    rw [h4, hmPairs_set, hb, Bool.true_or]
  unfold hmMinute hmLast
  split
  · exact hset
  next w r hl =>
    split
    · have hwl : w ∈ hmLine (hmTick (hmHold O (hmSettle O (hmPairs O H ((hmLine H).length / 2))))) := by
        rw [hl]
        exact List.mem_cons_self
      have hw6 : w < 6 := by
        have h5 := (hmOk_tick (hmOk_hold hs)).2.1 w hwl
        have := ho.1
        omega
      show hmBit (hmSet (hmSettle O (hmPairs O H ((hmLine H).length / 2))) ||| hmOne w) c = true
      rw [hm_bit_or hs.2.2.2.1 hw6 hc, hset, Bool.true_or]
    · exact hset
theorem hmMinute_held {O : hmO} {tk : Nat} {H : hmH} (h : hmOk O H) {w : Nat} (hw : w ∈ hmLine (hmMinute O tk H)) : w ∈ hmLine H ∧ hmHeld (hmMinute O tk H) w = hmHeld H w + 1 := by
  have key : ∀ w, w ∈ hmLine (hmTick (hmHold O (hmSettle O (hmPairs O H ((hmLine H).length / 2))))) → w ∈ hmLine H ∧ hmHeld (hmTick (hmHold O (hmSettle O (hmPairs O H ((hmLine H).length / 2))))) w = hmHeld H w + 1 := by
    intro w hw
    have h1 : w ∈ (hmLine (hmSettle O (hmPairs O H ((hmLine H).length / 2)))).filter (hmStays O (hmHeld (hmSettle O (hmPairs O H ((hmLine H).length / 2))))) := hw
    obtain ⟨h2, h3⟩ := List.mem_filter.mp h1
    have h4 : w ∈ (hmLine (hmPairs O H ((hmLine H).length / 2))).filter (fun w => !hmHelped O (hmHas (hmPairs O H ((hmLine H).length / 2))) w) := h2
    obtain ⟨h5, h6⟩ := List.mem_filter.mp h4
    have h7 : hmHelped O (hmHas (hmPairs O H ((hmLine H).length / 2))) w = false := by simpa using h6
    rw [hmPairs_line] at h5
    refine ⟨h5, ?_⟩
    show (if w ∈ hmLine (hmSettle O (hmPairs O H ((hmLine H).length / 2))) then (if hmStays O (hmHeld (hmSettle O (hmPairs O H ((hmLine H).length / 2)))) w = true then hmHeld (hmSettle O (hmPairs O H ((hmLine H).length / 2))) w + 1 else 0) else hmHeld (hmSettle O (hmPairs O H ((hmLine H).length / 2))) w) = hmHeld H w + 1
    rw [if_pos h2, if_pos h3]
    have h8 : hmHeld (hmSettle O (hmPairs O H ((hmLine H).length / 2))) w = hmHeld (hmPairs O H ((hmLine H).length / 2)) w := if_neg (fun q => by rw [h7] at q; exact absurd q.2 (by decide))
    rw [h8, hmPairs_held]
  have hnd : (hmLine (hmTick (hmHold O (hmSettle O (hmPairs O H ((hmLine H).length / 2)))))).Nodup := by
    have h1 : (hmLine (hmPairs O H ((hmLine H).length / 2))).Nodup := by
      rw [hmPairs_line]
      exact h.1
    exact (h1.filter _).filter _
  unfold hmMinute hmLast at hw ⊢
  split at hw
  next hl => exact key w hw
  next u r hl =>
    by_cases hm0 : hmMin (hmTick (hmHold O (hmSettle O (hmPairs O H ((hmLine H).length / 2))))) % tk = 0
    · rw [if_pos hm0] at hw ⊢
      have h1 : w ∈ (hmLine (hmTick (hmHold O (hmSettle O (hmPairs O H ((hmLine H).length / 2)))))).erase u := hw
      have h2 : w ≠ u := fun q => by
        rw [q] at h1
        exact (List.Nodup.not_mem_erase hnd) h1
      obtain ⟨k1, k2⟩ := key w (List.mem_of_mem_erase h1)
      refine ⟨k1, ?_⟩
      show va_up (hmHeld (hmTick (hmHold O (hmSettle O (hmPairs O H ((hmLine H).length / 2)))))) u 0 w = _
      rw [va_up_ne _ _ h2]
      exact k2
    · rw [if_neg hm0] at hw ⊢
      exact key w hw
/-- k minutes of a trial have gone by -/
def hmGone (k : Nat) (H : hmH) : Prop := ∀ w, w ∈ hmLine H → k ≤ hmHeld H w
theorem hmGone_0 (H : hmH) : hmGone 0 H := fun _ _ => Nat.zero_le _
theorem hmGone_s {O : hmO} {tk k : Nat} {H : hmH} (h : hmOk O H) (hg : hmGone k H) : hmGone (k + 1) (hmMinute O tk H) := fun w hw => by
  obtain ⟨h1, h2⟩ := hmMinute_held h hw
  have := hg w h1
  omega
theorem hmGone_30 {O : hmO} {H : hmH} (h : hmOk O H) (ho : hmOok O) (hg : hmGone 30 H) : hmLine H = [] := by
  apply List.eq_nil_iff_forall_not_mem.mpr
  intro w hw
  have h1 := hg w hw
  have h2 := h.2.2.2.2.2.1 w hw
  have h3 := (ho.2.2.2.1 w (h.2.1 w hw)).2.2.2.2
  omega
/-- after how many minutes one is settled -/
def hmWhen (O : hmO) : Nat → hmH → Nat → Option Nat
  | 0, H, c => if hmBit (hmSet H) c = true then some 0 else none
  | n + 1, H, c => if hmBit (hmSet H) c = true then some 0 else if hmLine H = [] then none else (hmWhen O n (hmMinute O (hmTk O) H) c).map (· + 1)
def hmWv (k : Nat) (o : Option Nat) : Int32 := match o with
  | none => -1
  | some j => nI (k + j)
def spWhen (O : hmO) (H : hmH) (v : Int32) : Int32 := if hmCal (hmN O) v = true then hmWv 0 (hmWhen O 30 H (hmIx v)) else -1
def spEmpty (O : hmO) (H : hmH) : Int32 := nI (hmOut O 30 H).1
def spSpread (O : hmO) (H : hmH) (v : Int32) : Int32 := if hmCal 10 v = true then hmWho (hmHas (hmOut O 30 H).2) (hmIx v) (hmN O) else -1
/-- after how many minutes one is off the line -/
def hmGo (O : hmO) : Nat → hmH → Nat → Nat
  | 0, _, _ => 0
  | n + 1, H, c => if c ∈ hmLine H then hmGo O n (hmMinute O (hmTk O) H) c + 1 else 0
def spGone (O : hmO) (H : hmH) (v : Int32) : Int32 := if hmOn (hmN O) H v = true then nI (hmGo O 30 H (hmIx v)) else -1
/-- after how many minutes two have been put through -/
def hmMeets (O : hmO) (b : Nat) : Nat → hmH → Nat → Nat → Option Nat
  | 0, _, _, _ => none
  | n + 1, H, x, y => if hmLine H = [] then none else if hmTalk (hmMinute O (hmTk O) H) x y > b then some 1 else (hmMeets O b n (hmMinute O (hmTk O) H) x y).map (· + 1)
def spMeets (O : hmO) (H : hmH) (v u : Int32) : Int32 := if hmTwo (hmN O) v u = true then hmWv 0 (hmMeets O (hmTalk H (hmIx v) (hmIx u)) 30 H (hmIx v) (hmIx u)) else -1
theorem hmWv_map (k : Nat) (o : Option Nat) : hmWv k (o.map (· + 1)) = hmWv (k + 1) o := by
  cases o with
  | none => rfl
  | some j =>
    show nI (k + (j + 1)) = nI (k + 1 + j)
    congr 1
    omega
theorem hmMr.ext {r r' : Nat → Int32} {H : hmH} (h : hmMr r H) (he : ∀ k, k < 58 → r' k = r k) : hmMr r' H := by
  obtain ⟨h1, h2, h3, h4, h5, h6, h7, h8, h9⟩ := h
  refine ⟨h1, ?_, ?_, ?_, ?_, fun i hi => ?_, fun x hx => ?_, fun x hx => ?_, fun x hx y hy => ?_⟩
  · rw [he _ (by omega)]; exact h2
  · rw [he _ (by omega)]; exact h3
  · rw [he _ (by omega)]; exact h4
  · rw [he _ (by omega)]; exact h5
  · rw [he _ (by omega)]; exact h6 i hi
  · rw [he _ (by omega)]; exact h7 x hx
  · rw [he _ (by omega)]; exact h8 x hx
  · rw [he _ (by omega)]; exact h9 x hx y hy
theorem hmMr.cpy {r b c : Nat → Int32} {H : hmH} (h : hmMr r H) (hb : b = va_cpy r c 0 0 58) (q : Nat → Int32) : hmMr (va_cpy b q 0 0 58) H := h.ext (fun k hk => by rw [hm_cpy hk, hb, hm_cpy hk])
theorem hmMr.cp1 {r : Nat → Int32} {H : hmH} (h : hmMr r H) (q : Nat → Int32) : hmMr (va_cpy r q 0 0 58) H := h.ext (fun k hk => by rw [hm_cpy hk])
/-- how often any two were put through, three times the minutes at most -/
def hmTkb (H : hmH) : Prop := ∀ x y, hmTalk H x y ≤ 3 * hmMin H
theorem hmTalk2_le {f : Nat → Nat → Nat} {b : Nat} (h : ∀ x y, f x y ≤ b) (u v : Nat) : ∀ x y, hmTalk2 f u v x y ≤ b + 1 := by
  intro x y
  unfold hmTalk2
  split
  · have := h u v
    omega
  · have := h x y
    omega
theorem hmPairs_talk {O : hmO} {H : hmH} {b : Nat} (h : ∀ x y, hmTalk H x y ≤ b) (k : Nat) : ∀ x y, hmTalk (hmPairs O H k) x y ≤ b + k := by
  induction k with
  | zero => exact h
  | succ k ih => exact hmTalk2_le ih _ _
theorem hmMinute_talk (O : hmO) (tk : Nat) (H : hmH) : hmTalk (hmMinute O tk H) = hmTalk (hmPairs O H ((hmLine H).length / 2)) := by
  unfold hmMinute hmLast
  split
  · rfl
  · split <;> rfl
theorem hmTkb_minute {O : hmO} {tk : Nat} {H : hmH} (h6 : (hmLine H).length ≤ 6) (h : hmTkb H) : hmTkb (hmMinute O tk H) := by
  intro x y
  rw [hmMinute_talk, hmMinute_min]
  have := hmPairs_talk (O := O) h ((hmLine H).length / 2) x y
  omega
theorem hmTkb_begin (O : hmO) : hmTkb (hmBegin O) := fun _ _ => Nat.zero_le _
theorem hmTkb_come {H : hmH} {w : Nat} (h : hmTkb H) : hmTkb (hmCome H w) := h
theorem hmTkb_leave {H : hmH} {w : Nat} (h : hmTkb H) : hmTkb (hmLeave H w) := by
  unfold hmLeave
  split <;> exact h
theorem hmTkb_swap {H : hmH} {w v : Nat} (h : hmTkb H) : hmTkb (hmSwap H w v) := by
  unfold hmSwap
  split <;> exact h
theorem hmOk_len {O : hmO} {H : hmH} (h : hmOk O H) (ho : hmOok O) : (hmLine H).length ≤ 6 := by
  have h1 : (hmLine H).length ≤ (List.range (hmN O)).length := List.Nodup.length_le_of_subset h.1 (fun w hw => List.mem_range.mpr (h.2.1 w hw))
  rw [List.length_range] at h1
  have := ho.1
  omega
theorem hmOk_room {O : hmO} {H : hmH} (h : hmOk O H) (ho : hmOok O) {w : Nat} (hw : w < hmN O) (hn : w ∉ hmLine H) : (hmLine H).length < 6 := by
  have h1 : (w :: hmLine H).length ≤ (List.range (hmN O)).length := List.Nodup.length_le_of_subset (List.nodup_cons.mpr ⟨hn, h.1⟩) (fun x hx => by
    rcases List.mem_cons.mp hx with rfl | q
    · exact List.mem_range.mpr hw
    · exact List.mem_range.mpr (h.2.1 x q))
  rw [List.length_range, List.length_cons] at h1
  have := ho.1
  omega
theorem hmOk_come {O : hmO} {H : hmH} (h : hmOk O H) (ho : hmOok O) {w : Nat} (hw : w < hmN O) (hr : hmCanRing H w = true) : hmOk O (hmCome H w) := by
  obtain ⟨h1, h2, h3, h4, h5, h6, h7, h8, h9⟩ := h
  have hr2 : hmBit (hmSet H) w = false ∧ w ∉ hmLine H := by simpa [hmCanRing] using hr
  have hho := (ho.2.2.2.1 w hw).2.2.2.1
  refine ⟨?_, fun x hx => ?_, h3, h4, h5, fun x hx => ?_, fun x hx => ?_, fun x hx => ?_, h9⟩
  · show (hmLine H ++ [w]).Nodup
    rw [List.nodup_append]
    refine ⟨h1, by simp, fun a ha b hb => ?_⟩
    rw [List.mem_singleton.mp hb]
    exact fun q => hr2.2 (q ▸ ha)
  · rcases List.mem_append.mp hx with q | q
    · exact h2 x q
    · rw [List.mem_singleton.mp q]
      exact hw
  · show va_up (hmHeld H) w 0 x < _
    by_cases e : x = w
    · rw [e, va_up_self]
      omega
    · rw [va_up_ne _ _ e]
      rcases List.mem_append.mp hx with q | q
      · exact h6 x q
      · exact absurd (List.mem_singleton.mp q) e
  · show va_up (hmHeld H) w 0 x = _
    by_cases e : x = w
    · rw [e, va_up_self]
    · rw [va_up_ne _ _ e]
      exact h7 x (fun q => hx (List.mem_append.mpr (Or.inl q)))
  · rcases List.mem_append.mp hx with q | q
    · exact h8 x q
    · rw [List.mem_singleton.mp q]
      exact hr2.1
theorem hmOk_leave {O : hmO} {H : hmH} (h : hmOk O H) {w : Nat} : hmOk O (hmLeave H w) := by
  unfold hmLeave
  split
  · obtain ⟨h1, h2, h3, h4, h5, h6, h7, h8, h9⟩ := h
    refine ⟨h1.erase w, fun x hx => h2 x (List.mem_of_mem_erase hx), h3, h4, h5, fun x hx => ?_, fun x hx => ?_, fun x hx => h8 x (List.mem_of_mem_erase hx), h9⟩
    · have e : x ≠ w := fun q => by
        rw [q] at hx
        exact (List.Nodup.not_mem_erase h1) hx
      show va_up (hmHeld H) w 0 x < _
      rw [va_up_ne _ _ e]
      exact h6 x (List.mem_of_mem_erase hx)
    · show va_up (hmHeld H) w 0 x = _
      by_cases e : x = w
      · rw [e, va_up_self]
      · rw [va_up_ne _ _ e]
        exact h7 x (fun q => hx ((List.mem_erase_of_ne e).mpr q))
  · exact h
theorem hm_sw_mem {x y : Nat} {l : List Nat} (hx : x ∈ l) (hy : y ∈ l) (z : Nat) : z ∈ l.map (hmSw x y) ↔ z ∈ l := by
  rw [List.mem_map]
  constructor
  · rintro ⟨a, ha, rfl⟩
    unfold hmSw
    split
    · exact hy
    · split
      · exact hx
      · exact ha
  · intro hz
    by_cases e1 : z = x
    · exact ⟨y, hy, by unfold hmSw; split <;> simp_all⟩
    · by_cases e2 : z = y
      · exact ⟨x, hx, by unfold hmSw; simp_all⟩
      · exact ⟨z, hz, by unfold hmSw; simp_all⟩
theorem hm_sw_inj {x y a b : Nat} (h : hmSw x y a = hmSw x y b) : a = b := by
  unfold hmSw at h
  split at h <;> split at h <;> (try split at h) <;> (try split at h) <;> omega
theorem hmOk_swap {O : hmO} {H : hmH} (h : hmOk O H) {x y : Nat} : hmOk O (hmSwap H x y) := by
  unfold hmSwap
  split
  next hxy =>
    obtain ⟨h1, h2, h3, h4, h5, h6, h7, h8, h9⟩ := h
    have hmem := hm_sw_mem hxy.1 hxy.2
    refine ⟨?_, fun z hz => h2 z ((hmem z).mp hz), h3, h4, h5, fun z hz => h6 z ((hmem z).mp hz), fun z hz => h7 z (fun q => hz ((hmem z).mpr q)), fun z hz => h8 z ((hmem z).mp hz), h9⟩
    show ((hmLine H).map (hmSw x y)).Nodup
    exact List.Pairwise.map _ (fun a b hab q => hab (hm_sw_inj q)) h1
  · exact h
theorem hmOk_begin {O : hmO} (ho : hmOok O) : hmOk O (hmBegin O) := by
  refine ⟨List.Pairwise.nil, fun w hw => absurd hw (List.not_mem_nil), fun w hw => ?_, ⟨0, by omega, rfl⟩, ⟨0, by omega, rfl⟩, fun w hw => absurd hw (List.not_mem_nil), fun w hw => rfl, fun w hw => absurd hw (List.not_mem_nil), fun x y => rfl⟩
  show hmS10 (if w < hmN O then hmKn O w else 0)
  split
  next h => exact (ho.2.2.2.1 w h).2.2.1
  · exact ⟨0, by omega, rfl⟩
