/-! looked, request, export, count; what rule, drop and a kept look leave as it is -/
def lkInv (lk lp : Nat → Int32) (ln en : Nat) : Prop := (∀ r, r < 16 → ∀ p, p < 12 → (tb (lk r) p = true ↔ ¬ lkH lp (nI p) (nI r) ln = 0)) ∧ ∀ r, r < 16 → ∀ p, en ≤ p → p < 12 → tb (lk r) p = false
theorem l_none {bs k : Int32} : ∀ m w (b : Int32), w + m ≤ 32 → (∀ p, w ≤ p → p < w + m → tb bs p = false) → lookN bs k w m b = -1 := by
  intro m
  induction m with
  | zero => intro w b _ _; rfl
  | succ m ih =>
    intro w b hw h
    have e : lookN bs k w (m + 1) b = if bs &&& b1 w = 0 then lookN bs k (w + 1) m b else if b = k then nI w else lookN bs k (w + 1) m (b + 1) := rfl
    rw [e, if_pos ((tb_and_b1 (by omega)).mpr (h w (by omega) (by omega)))]
    exact ih (w + 1) b (by omega) (fun p h1 h2 => h p (by omega) (by omega))
theorem l_looked {lk lp : Nat → Int32} {ln en r : Nat} (I : lkInv lk lp ln en) (hen : en ≤ 12) (hr : r < 16) (k : Int32) : lookN (lk r) k 0 12 0 = lkM (fun p => lkH lp (nI p) (nI r) ln) 0 en k := by
  have main : ∀ n w (b : Int32), w + n = en → lookN (lk r) k w (12 - w) b = lkM (fun p => lkH lp (nI p) (nI r) ln) w n (k - b) := by
    intro n
    induction n with
    | zero =>
      intro w b hw
      exact l_none (12 - w) w b (by omega) (fun p h1 h2 => I.2 r hr p (by omega) (by omega))
    | succ n ih =>
      intro w b hw
      have e1 : lookN (lk r) k w (12 - w) b = if lk r &&& b1 w = 0 then lookN (lk r) k (w + 1) (12 - (w + 1)) b else if b = k then nI w else lookN (lk r) k (w + 1) (12 - (w + 1)) (b + 1) := by
        rw [show 12 - w = (12 - (w + 1)) + 1 by omega]; rfl
      have e2 : lkM (fun p => lkH lp (nI p) (nI r) ln) w (n + 1) (k - b) = if lkH lp (nI w) (nI r) ln = 0 then lkM (fun p => lkH lp (nI p) (nI r) ln) (w + 1) n (k - b - 0) else if k - b = 0 then nI w else lkM (fun p => lkH lp (nI p) (nI r) ln) (w + 1) n (k - b - 1) := rfl
      have h1 := I.1 r hr w (by omega)
      rw [e1, e2, ih (w + 1) b (by omega), ih (w + 1) (b + 1) (by omega)]
      by_cases c : lkH lp (nI w) (nI r) ln = 0
      · rw [if_pos c, if_pos ((tb_and_b1 (by omega)).mpr (by
          rcases Bool.eq_false_or_eq_true (tb (lk r) w) with h9 | h9
          · exact absurd c (h1.mp h9)
          · exact h9))]
        rw [show k - b - 0 = k - b by grind]
      · rw [if_neg c, if_neg (fun h9 => by
          have := (tb_and_b1 (show w < 32 by omega)).mp h9
          rw [h1.mpr c] at this
          exact absurd this (by decide))]
        rw [show k - (b + 1) = k - b - 1 by grind]
        by_cases c2 : b = k
        · rw [if_pos c2, if_pos (by rw [c2]; grind)]
        · rw [if_neg c2, if_neg (fun h9 => c2 (by grind))]
  have := main en 0 0 (by omega)
  rw [show 12 - 0 = 12 from rfl, show k - 0 = k by grind] at this
  exact this
theorem q_in {d x : Int32} (hd0 : ¬ d < 0) (hd1 : d ≤ 100000) : inF x (d - 29) d = 0 ↔ ¬ (x ≤ d ∧ d - 30 < x) := by
  obtain ⟨n, hn, rfl⟩ := nI_of2 (M := 100000) (n := 100000) (by decide) hd0 hd1
  have key : ∀ a : Nat, a ≤ 40 → (nI n - nI a).toInt = (n : Int) - a := fun a ha => pk_sub_toInt (by omega) (by omega)
  have k29 := key 29 (by decide)
  have k30 := key 30 (by decide)
  rw [show (29 : Int32) = nI 29 from rfl, show (30 : Int32) = nI 30 from rfl]
  unfold inF
  by_cases h1 : x < nI n - nI 29
  · rw [if_pos h1]
    refine ⟨fun _ h9 => ?_, fun _ => rfl⟩
    rw [Int32.lt_iff_toInt_lt] at h1
    have h2 := h9.2
    rw [Int32.lt_iff_toInt_lt] at h2
    omega
  · rw [if_neg h1]
    by_cases h2 : nI n < x
    · rw [if_pos h2]
      exact ⟨fun _ h9 => absurd h9.1 (Int32.not_le.mpr h2), fun _ => rfl⟩
    · rw [if_neg h2]
      refine ⟨fun h9 => absurd h9 (by decide), fun h9 => absurd ⟨Int32.not_lt.mp h2, ?_⟩ h9⟩
      rw [Int32.lt_iff_toInt_lt] at h1 ⊢
      omega
theorem q_req {qp qd : Nat → Int32} {p d : Int32} (hd0 : ¬ d < 0) (hd1 : d ≤ 100000) : ∀ n, reqM qp qd p d n = nI (withN qp qd p d n + 1) := by
  intro n
  induction n with
  | zero => rfl
  | succ n ih =>
    have e1 : reqM qp qd p d (n + 1) = reqM qp qd p d n + (if qp n = p then (if inF (qd n) (d - 29) d = 0 then 0 else 1) else 0) := rfl
    have e2 : withN qp qd p d (n + 1) = if qp n = p ∧ qd n ≤ d ∧ d - 30 < qd n then withN qp qd p d n + 1 else withN qp qd p d n := rfl
    rw [e1, e2, ih]
    have z : ∀ x : Int32, x + 0 = x := fun x => by grind
    by_cases c1 : qp n = p
    · rw [if_pos c1]
      by_cases c2 : qd n ≤ d ∧ d - 30 < qd n
      · rw [if_neg (show ¬ inF (qd n) (d - 29) d = 0 from fun h9 => (q_in hd0 hd1).mp h9 c2), if_pos (show qp n = p ∧ qd n ≤ d ∧ d - 30 < qd n from ⟨c1, c2⟩), nI_1]
      · rw [if_pos (show inF (qd n) (d - 29) d = 0 from (q_in hd0 hd1).mpr c2), if_neg (show ¬ (qp n = p ∧ qd n ≤ d ∧ d - 30 < qd n) from fun h9 => c2 h9.2), z]
    · rw [if_neg c1, if_neg (fun h9 => c1 h9.1), z]
theorem e_whl (F : Nat → Int32) : ∀ n, ¬ whlF F n = 0 ↔ ∀ k, k < n → ¬ F k = 0 := by
  intro n
  induction n with
  | zero => exact ⟨fun _ k hk => absurd hk (by omega), fun _ => show ¬ (1 : Int32) = 0 by decide⟩
  | succ n ih =>
    have e : whlF F (n + 1) = if whlF F n = 0 then 0 else if F n = 0 then 0 else 1 := rfl
    rw [e]
    by_cases c : whlF F n = 0
    · rw [if_pos c]
      exact ⟨fun h => absurd rfl h, fun h => absurd c (ih.mpr fun k hk => h k (by omega))⟩
    · rw [if_neg c]
      by_cases c2 : F n = 0
      · rw [if_pos c2]
        exact ⟨fun h => absurd rfl h, fun h => absurd c2 (h n (by omega))⟩
      · rw [if_neg c2]
        refine ⟨fun _ k hk => ?_, fun _ => by decide⟩
        rcases Nat.lt_or_ge k n with h | h
        · exact ih.mp c k h
        · rw [show k = n by omega]; exact c2
theorem e_exp {P : Nat → Bool} {F er : Nat → Int32} : ∀ n, (∀ i, i < n → (P i = true ↔ ¬ F i = 0)) → expG P er n = expM F er n := by
  intro n
  induction n with
  | zero => intro _; rfl
  | succ n ih =>
    intro h
    have e1 : expG P er (n + 1) = if P n then (upd (expG P er n).1 (expG P er n).2 (nI n), (expG P er n).2 + 1) else expG P er n := rfl
    have e2 : expM F er (n + 1) = if F n = 0 then expM F er n else (upd (expM F er n).1 (expM F er n).2 (nI n), (expM F er n).2 + 1) := rfl
    rw [e1, e2, ih (fun i hi => h i (by omega))]
    have h1 := h n (by omega)
    by_cases c : F n = 0
    · rw [if_pos c, if_neg (fun h9 => (h1.mp h9) c)]
    · rw [if_neg c, if_pos (h1.mpr c)]
theorem e_le (F er : Nat → Int32) : ∀ n, (expM F er n).2 ≤ n := by
  intro n
  induction n with
  | zero => exact Nat.le_refl 0
  | succ n ih =>
    have e2 : expM F er (n + 1) = if F n = 0 then expM F er n else (upd (expM F er n).1 (expM F er n).2 (nI n), (expM F er n).2 + 1) := rfl
    rw [e2]
    split
    · omega
    · show (expM F er n).2 + 1 ≤ n + 1; omega
section EE
variable {nd br ro em fa ki co ap ar af at_ sg sz to : Nat → Int32} {tl ab mk sh d : Int32} {bn an en hn : Nat} {mz : Nat → Nat}
theorem e_point (I : rlInv nd br tl ab mk sh sg sz to mz bn) {u r : Nat} (hR : inR (ro u)) (hK : inK (ki r) (co r) (fa r)) : expb nd br tl ab mk sh bn (openF nd br tl bn (ro u) (em r) (fa r) d (hasAg ap ar af at_ an (nI u) (nI r) d)) = true ↔ ¬ whlF (fun f => gotW to sg em ro ki co ap ar af at_ an bn mz u r (nI f) 3 d (-1)) 6 = 0 := by
  rw [e_whl]
  unfold expb
  rw [List.all_eq_true]
  refine ⟨fun h k hk => ?_, fun h k hk => ?_⟩
  · have h1 := h k (List.mem_range.mpr hk)
    have e := p_got1 (em := em) (ap := ap) (ar := ar) (af := af) (at_ := at_) (an := an) (d := d) I hR hK hk (show 3 < 4 by decide)
    rw [show nI 3 = 3 from rfl] at e
    show ¬ gotW to sg em ro ki co ap ar af at_ an bn mz u r (nI k) 3 d (-1) = 0
    rw [e]
    simpa using h1
  · have h2 := h k (List.mem_range.mp hk)
    have e := p_got1 (em := em) (ap := ap) (ar := ar) (af := af) (at_ := at_) (an := an) (d := d) I hR hK (List.mem_range.mp hk) (show 3 < 4 by decide)
    rw [show nI 3 = 3 from rfl] at e
    have h3 : ¬ gotW to sg em ro ki co ap ar af at_ an bn mz u r (nI k) 3 d (-1) = 0 := h2
    rw [e] at h3
    simpa using h3
theorem e_export (I : rlInv nd br tl ab mk sh sg sz to mz bn) {u : Nat} (er : Nat → Int32) (hR : inR (ro u)) (hK : ∀ r, r < hn → inK (ki r) (co r) (fa r)) :
    expG (fun j => expb nd br tl ab mk sh bn (openF nd br tl bn (ro u) (em j) (fa j) d (hasAg ap ar af at_ an (nI u) (nI j) d))) er hn = expM (fun r => whlF (fun f => gotW to sg em ro ki co ap ar af at_ an bn mz u r (nI f) 3 d (-1)) 6) er hn :=
  e_exp hn (fun i hi => e_point I hR (hK i hi))
end EE
theorem c_cnt {tl : Int32} {to : Nat → Int32} : ∀ n, (∀ j, j < n → (tb tl j = true ↔ ¬ to j = 0)) → cntM to n = nI (pcN tl n) := by
  intro n
  induction n with
  | zero => intro _; rfl
  | succ n ih =>
    intro h
    have e1 : cntM to (n + 1) = cntM to n + (if to n = 0 then 0 else 1) := rfl
    have e2 : pcN tl (n + 1) = pcN tl n + (if tb tl n = true then 1 else 0) := rfl
    rw [e1, e2, ih (fun j hj => h j (by omega))]
    have h1 := h n (by omega)
    have z : ∀ x : Int32, x + 0 = x := fun x => by grind
    by_cases c : to n = 0
    · rw [if_pos c, if_neg (fun h9 => (h1.mp h9) c), z, Nat.add_zero]
    · rw [if_neg c, if_pos (h1.mpr c), nI_1]
theorem c_hi {tl : Int32} {bn : Nat} (h : ∀ j, bn ≤ j → tb tl j = false) : ∀ n, bn ≤ n → pcN tl n = pcN tl bn := by
  intro n hn
  induction n with
  | zero => rw [show bn = 0 by omega]
  | succ n ih =>
    rcases Nat.lt_or_ge bn (n + 1) with h9 | h9
    · have e2 : pcN tl (n + 1) = pcN tl n + (if tb tl n = true then 1 else 0) := rfl
      rw [e2, h n (by omega), if_neg (by decide), ih (by omega), Nat.add_zero]
    · rw [show bn = n + 1 by omega]
theorem c_count {nd br sg sz to : Nat → Int32} {tl ab mk sh : Int32} {mz : Nat → Nat} {bn : Nat} (I : rlInv nd br tl ab mk sh sg sz to mz bn) : bcF tl = cntM to bn := by
  obtain ⟨hbn, -, -, -, I4, I5, -⟩ := I
  rw [k_count (fun k hk => I5 k (by omega)), c_cnt bn I4, c_hi I5 20 hbn]
/-! rule and drop -/
theorem v_cp (sg pd : Nat → Int32) (b : Nat) : ∀ n i, cpM sg pd b n i = if b ≤ i ∧ i < b + n then pd (i - b) else sg i := by
  intro n
  induction n with
  | zero => intro i; rw [if_neg (by omega)]; rfl
  | succ n ih =>
    intro i
    show upd (cpM sg pd b n) (b + n) (pd n) i = _
    by_cases e : i = b + n
    · rw [e, pk_us, if_pos (by omega), show b + n - b = n by omega]
    · rw [pk_un e, ih]
      by_cases c : b ≤ i ∧ i < b + n
      · rw [if_pos c, if_pos (by omega)]
      · rw [if_neg c, if_neg (by omega)]
theorem v_same {sg sg' : Nat → Int32} {e : Nat} (h : ∀ i, i < e → sg' i = sg i) : ∀ n k, wfM sg e n k → wfM sg' e n k ∧ ∀ hh v, suM hh sg' e n k v = suM hh sg e n k v := by
  intro n
  induction n with
  | zero => intro k hk; exact ⟨hk, fun _ _ => rfl⟩
  | succ n ih =>
    intro k hk
    rcases hk with hk | ⟨h1, h2⟩
    · refine ⟨Or.inl hk, fun hh v => ?_⟩
      show (if k < e then _ else v) = (if k < e then _ else v)
      rw [if_neg (by omega), if_neg (by omega)]
    · obtain ⟨m1, m2, m3⟩ := nx_lt sg k
      have e1 : sg' (k + 1) = sg (k + 1) := h _ (by omega)
      have e2 : nx2 sg' k = nx2 sg k := by unfold nx2; rw [e1]
      have e3 : sg' (nx2 sg k) = sg (nx2 sg k) := h _ (by omega)
      have e4 : nx3 sg' k = nx3 sg k := by unfold nx3; rw [e2, e3]
      have e5 : (if sg' (nx2 sg k) = 103 then 0 else sg' (nx2 sg k + 1) - 48) = (if sg (nx2 sg k) = 103 then 0 else sg (nx2 sg k + 1) - 48) := by
        rw [e3]
        by_cases c : sg (nx2 sg k) = 103
        · rw [if_pos c, if_pos c]
        · rw [if_neg c, if_neg c, h (nx2 sg k + 1) (by have := m3 c; omega)]
      obtain ⟨i1, i2⟩ := ih (nx3 sg k) h2
      refine ⟨Or.inr ⟨by rw [e4]; exact h1, by rw [e4]; exact i1⟩, fun hh v => ?_⟩
      have e6 : cndM hh sg' k v = cndM hh sg k v := by unfold cndM; rw [e2, e5, e3, e1]
      show (if k < e then suM hh sg' e n (nx3 sg' k) (cndM hh sg' k v) else v) = (if k < e then suM hh sg e n (nx3 sg k) (cndM hh sg k v) else v)
      rw [e4, e6, i2]
theorem v_b1 {x : Int32} {n k : Nat} (hn : n < 32) (hk : k < 32) : tb (x ||| b1 n) k = (tb x k || decide (n = k)) := by rw [tb_or, tb_b1 n hn k hk]
theorem v_rule {nd br sg sz to pf : Nat → Int32} {tl ab mk sh : Int32} {mz : Nat → Nat} {bn pn : Nat} (I : rlInv nd br tl ab mk sh sg sz to mz bn) (hbn : bn < 20) (hpn : pn ≤ 40) {a N B : Int32} (h0 : 1 ≤ pn) (ha : pf 0 = 115 ∧ a = 2 ∨ pf 0 = 109 ∧ a = 1 ∨ pf 0 = 97 ∧ a = 0)
    (hw : wfM (cpM sg pf (40 * bn) pn) (40 * bn + pn) 40 (40 * bn + 1)) (hs : ∀ h F, hOk h F → suM h (cpM sg pf (40 * bn) pn) (40 * bn + pn) 40 (40 * bn + 1) 1 = sutI N B F) :
    rlInv (upd nd bn N) (upd br bn B) (tl ||| b1 bn) (if a = 0 then ab ||| b1 bn else ab) (if a = 0 then mk else if a = 1 then mk ||| b1 bn else mk) (if a = 0 then sh else if a = 1 then sh else sh ||| b1 bn) (cpM sg pf (40 * bn) pn) (upd sz bn (nI pn)) (upd to bn (vp_nar .boolean 1)) (fun j => if j = bn then pn else mz j) (bn + 1) := by
  obtain ⟨-, I1, I2, I3, I4, I5, I6⟩ := I
  have v1 : vp_nar .boolean 1 = 1 := by decide
  have z10 : ¬ (1 : Int32) = 0 := by decide
  have z20 : ¬ (2 : Int32) = 0 := by decide
  have z21 : ¬ (2 : Int32) = 1 := by decide
  have hlow : ∀ j, j < bn → ∀ i, i < 40 * j + mz j → cpM sg pf (40 * bn) pn i = sg i := fun j hj i hi => by
    have := (I1 j hj).1
    rw [v_cp, if_neg (by omega)]
  have hz : ∀ j, j < bn → (if j = bn then pn else mz j) = mz j := fun j hj => if_neg (by omega)
  have h40 : ∀ j, j < bn → cpM sg pf (40 * bn) pn (40 * j) = sg (40 * j) := fun j hj => by rw [v_cp, if_neg (by omega)]
  have hnew : cpM sg pf (40 * bn) pn (40 * bn) = pf 0 := by rw [v_cp, if_pos (by omega), Nat.sub_self]
  rw [v1]
  refine ⟨by omega, fun j hj => ?_, fun k => ?_, ⟨fun j hj => ?_, fun j hj => ?_⟩, fun j hj => ?_, fun j hj => ?_, fun j hj => ?_⟩
  · rcases Nat.lt_or_ge j bn with h | h
    · obtain ⟨a1, a2, a3⟩ := I1 j h
      show (if j = bn then pn else mz j) ≤ 40 ∧ upd sz bn (nI pn) j = nI (if j = bn then pn else mz j) ∧ wfM _ (40 * j + (if j = bn then pn else mz j)) 40 (40 * j + 1)
      rw [hz j h, pk_un (by omega)]
      exact ⟨a1, a2, (v_same (hlow j h) 40 _ a3).1⟩
    · have e : j = bn := by omega
      subst e
      show (if j = j then pn else mz j) ≤ 40 ∧ upd sz j (nI pn) j = nI (if j = j then pn else mz j) ∧ wfM _ (40 * j + (if j = j then pn else mz j)) 40 (40 * j + 1)
      rw [if_pos rfl, pk_us]
      exact ⟨hpn, rfl, hw⟩
  · by_cases e : k = bn
    · rw [e, pk_us]; exact Or.inr rfl
    · rw [pk_un e]; exact I2 k
  · rcases Nat.lt_or_ge j bn with h | h
    · have hne : ¬ bn = j := by omega
      have t : ∀ x : Int32, tb (x ||| b1 bn) j = tb x j := fun x => by rw [v_b1 (by omega) (by omega), decide_eq_false hne, Bool.or_false]
      rw [h40 j h]
      rcases ha with ⟨-, rfl⟩ | ⟨-, rfl⟩ | ⟨-, rfl⟩
      · rw [if_neg z20, if_neg z20, if_neg z20, if_neg z21, if_neg z21, t]; exact I3.1 j h
      · rw [if_neg z10, if_neg z10, if_neg z10, if_pos rfl, if_pos rfl, t]; exact I3.1 j h
      · rw [if_pos rfl, if_pos rfl, if_pos rfl, t]; exact I3.1 j h
    · have e : j = bn := by omega
      subst e
      have t : ∀ x : Int32, tb (x ||| b1 j) j = true := fun x => by rw [v_b1 (by omega) (by omega)]; simp
      obtain ⟨n1, n2, n3⟩ := I3.2 j (Nat.le_refl j)
      rw [hnew]
      rcases ha with ⟨q, rfl⟩ | ⟨q, rfl⟩ | ⟨q, rfl⟩
      · rw [if_neg z20, if_neg z20, if_neg z20, if_neg z21, if_neg z21, t]; exact Or.inl ⟨q, rfl, n2, n3⟩
      · rw [if_neg z10, if_neg z10, if_neg z10, if_pos rfl, if_pos rfl, t]; exact Or.inr (Or.inl ⟨q, n1, rfl, n3⟩)
      · rw [if_pos rfl, if_pos rfl, if_pos rfl, t]; exact Or.inr (Or.inr ⟨q, n1, n2, rfl⟩)
  · have t : ∀ x : Int32, tb x j = false → tb (x ||| b1 bn) j = false := fun x hx => by
      rcases Nat.lt_or_ge j 32 with h | h
      · rw [v_b1 (by omega) h, hx, decide_eq_false (by omega)]; rfl
      · exact tb_hi _ h
    obtain ⟨n1, n2, n3⟩ := I3.2 j (by omega)
    refine ⟨?_, ?_, ?_⟩
    · split; exact n1; split; exact n1; exact t _ n1
    · split; exact n2; split; exact t _ n2; exact n2
    · split; exact t _ n3; exact n3
  · rw [v_b1 (by omega) (by omega)]
    rcases Nat.lt_or_ge j bn with h | h
    · rw [decide_eq_false (show ¬ bn = j by omega), Bool.or_false, pk_un (by omega)]; exact I4 j h
    · rw [show j = bn by omega, pk_us]; simp
  · rcases Nat.lt_or_ge j 32 with h | h
    · rw [v_b1 (by omega) h, I5 j (by omega), decide_eq_false (by omega)]; rfl
    · exact tb_hi _ h
  · intro h F hF
    rcases Nat.lt_or_ge j bn with h9 | h9
    · show suM h _ (40 * j + (if j = bn then pn else mz j)) 40 (40 * j + 1) 1 = sutI (upd nd bn N j) (upd br bn B j) F
      rw [hz j h9, pk_un (by omega), pk_un (by omega), (v_same (hlow j h9) 40 _ (I1 j h9).2.2).2]
      exact I6 j h9 h F hF
    · have e : j = bn := by omega
      subst e
      show suM h _ (40 * j + (if j = j then pn else mz j)) 40 (40 * j + 1) 1 = sutI (upd nd j N j) (upd br j B j) F
      rw [if_pos rfl, pk_us, pk_us]
      exact hs h F hF
theorem v_drop {nd br sg sz to : Nat → Int32} {tl ab mk sh : Int32} {mz : Nat → Nat} {bn j : Nat} (I : rlInv nd br tl ab mk sh sg sz to mz bn) (hj : j < bn) :
    rlInv nd br (tl &&& (b1 j ^^^ (-1))) ab mk sh sg sz (upd to j (vp_nar .boolean 0)) mz bn := by
  obtain ⟨hbn, I1, I2, I3, I4, I5, I6⟩ := I
  have v0 : vp_nar .boolean 0 = 0 := by decide
  rw [v0]
  refine ⟨hbn, I1, fun k => ?_, I3, fun k hk => ?_, fun k hk => ?_, I6⟩
  · by_cases e : k = j
    · rw [e, pk_us]; exact Or.inl rfl
    · rw [pk_un e]; exact I2 k
  · rw [n_wo (by omega) (by omega)]
    by_cases e : k = j
    · rw [e, pk_us]; simp
    · rw [pk_un e, decide_eq_false (fun h9 => e h9.symm), Bool.not_false, Bool.and_true]; exact I4 k hk
  · rw [tb_and, I5 k hk]; rfl
theorem v_dropped {nd br sg sz to : Nat → Int32} {tl ab mk sh : Int32} {mz : Nat → Nat} {bn j : Nat} (I : rlInv nd br tl ab mk sh sg sz to mz bn) (hj : j < bn) : (if tl &&& b1 j = 0 then (0 : Int32) else 1) = to j := by
  obtain ⟨hbn, I1, I2, I3, I4, I5, I6⟩ := I
  have h := I4 j hj
  rcases I2 j with e | e
  · rw [e, if_pos ((tb_and_b1 (by omega)).mpr (by
      rcases Bool.eq_false_or_eq_true (tb tl j) with h9 | h9
      · exact absurd e (h.mp h9)
      · exact h9))]
  · rw [e, if_neg (fun h9 => by
      have := (tb_and_b1 (show j < 32 by omega)).mp h9
      rw [h.mpr (by rw [e]; decide)] at this
      exact absurd this (by decide))]
/-! a kept look -/
theorem l_same {lp lp' : Nat → Int32} {p r : Int32} : ∀ n, (∀ i, i < 6 * n → lp' i = lp i) → lkH lp' p r n = lkH lp p r n := by
  intro n
  induction n with
  | zero => intro _; rfl
  | succ n ih =>
    intro h
    show (if ¬ lkH lp' p r n = 0 then _ else if lp' (6 * n) = p then (if lp' (6 * n + 1) = r then _ else _) else _) = (if ¬ lkH lp p r n = 0 then _ else if lp (6 * n) = p then (if lp (6 * n + 1) = r then _ else _) else _)
    rw [ih (fun i hi => h i (by omega)), h (6 * n) (by omega), h (6 * n + 1) (by omega)]
theorem l_keep {lk lp lp' : Nat → Int32} {ln en u r : Nat} (I : lkInv lk lp ln en) (hen : en ≤ 12) (hu : u < en) (hr : r < 16) (hl : ∀ i, i < 6 * ln → lp' i = lp i) (h0 : lp' (6 * ln) = nI u) (h1 : lp' (6 * ln + 1) = nI r) : lkInv (upd lk r (lk r ||| b1 u)) lp' (ln + 1) en := by
  have key : ∀ p r', lkH lp' (nI p) (nI r') (ln + 1) = if ¬ lkH lp (nI p) (nI r') ln = 0 then 1 else if nI u = nI p then (if nI r = nI r' then 1 else 0) else 0 := fun p r' => by
    show (if ¬ lkH lp' (nI p) (nI r') ln = 0 then _ else if lp' (6 * ln) = nI p then (if lp' (6 * ln + 1) = nI r' then _ else _) else _) = _
    rw [l_same ln hl, h0, h1]
  refine ⟨fun r' hr' p hp => ?_, fun r' hr' p hp1 hp2 => ?_⟩
  · rw [key]
    have i1 := I.1 r' hr' p hp
    by_cases e : r' = r
    · subst e
      rw [pk_us, v_b1 (by omega) (by omega), Bool.or_eq_true, i1, decide_eq_true_eq]
      by_cases c : lkH lp (nI p) (nI r') ln = 0
      · rw [if_neg (fun h9 => h9 c), if_pos rfl]
        by_cases c2 : u = p
        · rw [if_pos (by rw [c2])]
          exact ⟨fun _ => by decide, fun _ => Or.inr c2⟩
        · rw [if_neg (fun h9 => c2 ((nI_eq (by omega) (by omega)).mp h9))]
          exact ⟨fun h9 => h9.elim (fun z => absurd c z) (fun z => absurd z c2), fun h9 => absurd rfl h9⟩
      · rw [if_pos c]
        exact ⟨fun _ => by decide, fun _ => Or.inl c⟩
    · rw [pk_un e, i1]
      by_cases c : lkH lp (nI p) (nI r') ln = 0
      · rw [if_neg (fun h9 => h9 c), if_neg (fun h9 => e ((nI_eq (show r < 2 ^ 31 by omega) (show r' < 2 ^ 31 by omega)).mp h9).symm), ite_self]
        exact ⟨fun h9 => absurd c h9, fun h9 => absurd rfl h9⟩
      · rw [if_pos c]
        exact ⟨fun _ => by decide, fun _ => c⟩
  · by_cases e : r' = r
    · rw [e, pk_us, v_b1 (by omega) (by omega), I.2 r hr p hp1 hp2, decide_eq_false (by omega)]; rfl
    · rw [pk_un e]; exact I.2 r' hr' p hp1 hp2
theorem l_more {lk lp : Nat → Int32} {ln en : Nat} (I : lkInv lk lp ln en) : lkInv lk lp ln (en + 1) := ⟨I.1, fun r hr p h1 h2 => I.2 r hr p (by omega) h2⟩
