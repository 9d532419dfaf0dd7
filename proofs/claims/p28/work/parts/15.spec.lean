/-! what each call answers and does, in numbers -/
abbrev t0 (τ : Tau) (k : Nat) (v : Int32) : Tau := va_up τ 0 (upd (τ 0) k v)
abbrev ti (τ : Tau) (i k : Nat) (v : Int32) : Tau := va_up τ i (upd (τ i) k v)
abbrev cx (a : Int32) : Nat := a.toNatClampNeg
abbrev okS (τ : Tau) (a : Int32) : Prop := 0 ≤ a ∧ a ≤ τ 0 1 - 1
abbrev okL (a : Int32) : Prop := 0 ≤ a ∧ a ≤ 3
abbrev okC (τ : Tau) (a : Int32) : Prop := 0 ≤ a ∧ a ≤ τ 0 3 - 1
abbrev okN (τ : Tau) (a : Int32) : Prop := 0 ≤ a ∧ a ≤ τ 0 2 - 1
abbrev okF (τ : Tau) (a : Int32) : Prop := (0 ≤ a ∧ a ≤ τ 0 2 - 1) ∧ τ 4 (cx a) = 0
abbrev okP (τ : Tau) (f n : Int32) : Prop := τ 0 0 ≤ f ∧ f < 672 ∧ f + n ≤ 672
/-- the bits k below n of which p is true -/
def mk (p : Nat → Bool) : Nat → Int32
  | 0 => 0
  | n + 1 => mk p n ||| (if p n = true then 1 <<< (nI n &&& 31) else 0)
def ct (p : Nat → Bool) : Nat → Nat
  | 0 => 0
  | n + 1 => ct p n + (if p n = true then 1 else 0)
/-- the bits that any of n sets has -/
def orr (f : Nat → Int32) : Nat → Int32
  | 0 => 0
  | n + 1 => orr f n ||| f n
/-- the first of n (from i on) of which p is true, if there is one -/
def fst1 (p : Nat → Bool) : Nat → Nat → Option Nat
  | 0, _ => none
  | n + 1, i => if p i = true then some i else fst1 p n (i + 1)
/-- whether b is a or above a: the tree par, n steps at most -/
def bel (par : Nat → Int32) : Nat → Nat → Nat → Bool
  | 0, _, _ => false
  | n + 1, a, b => a == b || (!(par a == -1) && bel par n (cx (par a)) b)
def touS (τ : Tau) (k : Nat) (s : Int32) : Bool := bel (τ 1) 16 (cx s) (cx (τ 6 k)) || bel (τ 1) 16 (cx (τ 6 k)) (cx s)
def thr (τ : Tau) (k : Nat) (h : Int32) : Int32 := h + τ 2 (cx (τ 7 k)) + 24
def hoB (τ : Tau) (k : Nat) (h : Int32) : Bool :=
  if τ 5 k = 0 then decide (τ 8 k ≤ h ∧ h < τ 9 k)
  else if ¬ τ 5 k = 1 then !(τ 3 (cx (30 * τ 7 k + thr τ k h / 24)) == 0)
  else decide (τ 8 k = τ 9 k ∨ (τ 8 k < τ 9 k ∧ τ 8 k ≤ thr τ k h - thr τ k h / 24 * 24 ∧ thr τ k h - thr τ k h / 24 * 24 < τ 9 k) ∨ (¬ τ 8 k < τ 9 k ∧ (τ 8 k ≤ thr τ k h - thr τ k h / 24 * 24 ∨ thr τ k h - thr τ k h / 24 * 24 < τ 9 k)))
/-- the freezes that touch a scope and hold in an hour -/
def hoS (τ : Tau) (s h : Int32) : Int32 := mk (fun k => τ 4 k == 0 && touS τ k s && hoB τ k h) (cx (τ 0 2))
def exB (τ : Tau) (c k : Nat) : Bool := (τ 16 c >>> (nI k &&& 31)) &&& 1 == 1
def tch (τ : Tau) (k c : Nat) : Bool := τ 4 k == 0 && !(!(τ 17 c == -1) && decide (τ 17 c ≤ nI k)) && touS τ k (τ 11 c)
def agn (τ : Tau) (c : Nat) (h : Int32) : Int32 := mk (fun k => !exB τ c k && tch τ k c && hoB τ k h) (cx (τ 0 2))
def badB (τ : Tau) (c : Nat) (j : Nat) : Bool := !(agn τ c (τ 12 c + nI j) == 0)
def badN (τ : Tau) (c : Nat) : Nat := ct (badB τ c) (cx (τ 13 c))
def nsp (fr : Nat → Bool) (many : Int32) : Nat → Nat → Int32 → Int32
  | 0, _, _ => -1
  | n + 1, h, o => if (if fr h = true then o + 1 else 0) = many then nI h - many + 1 else nsp fr many n (h + 1) (if fr h = true then o + 1 else 0)
def rkS (ex : Nat → Int32) : Nat → Nat → Nat
  | 0, r => r
  | n + 1, r => if r < 4 ∧ ex r = 0 then rkS ex n (r + 1) else r
def th_scope (τ : Tau) (a : Int32) : Int32 := if ¬ okS τ a then 1 else if τ 0 1 = 16 then 2 else 0
def nx_scope (τ : Tau) (a : Int32) : Tau := t0 (ti τ 1 (cx (τ 0 1)) a) 1 (τ 0 1 + 1)
def rt_scope (τ : Tau) (_ : Int32) : Int32 := τ 0 1
def th_offset (_ : Tau) (a b : Int32) : Int32 := if ¬ okL a then 1 else if -11 ≤ b ∧ b ≤ 12 then 0 else 2
def nx_offset (τ : Tau) (a b : Int32) : Tau := ti τ 2 (cx a) b
def rt_offset (τ : Tau) (a _ : Int32) : Int32 := τ 2 (cx a)
def th_feast (_ : Tau) (a d : Int32) : Int32 := if ¬ okL a then 1 else if -1 ≤ d ∧ d ≤ 28 then 0 else 2
abbrev ixF (a d : Int32) : Nat := cx (30 * a + d + 1)
def nx_feast (τ : Tau) (a d : Int32) : Tau := ti τ 3 (ixF a d) (bI (τ 3 (ixF a d) = 0))
def rt_feast (τ : Tau) (a d : Int32) : Int32 := bI (τ 3 (ixF a d) = 0)
def th_pass (τ : Tau) (h : Int32) : Int32 := if ¬ (1 ≤ h ∧ h ≤ 100) then 1 else if 672 ≤ τ 0 0 + h then 2 else 0
def nx_pass (τ : Tau) (h : Int32) : Tau := t0 τ 0 (τ 0 0 + h)
def rt_pass (τ : Tau) (h : Int32) : Int32 := τ 0 0 + h
def nx_lays (τ : Tau) (how s d one two rank : Int32) : Tau := t0 (ti (ti (ti (ti (ti (ti τ 5 (cx (τ 0 2)) how) 6 (cx (τ 0 2)) s) 7 (cx (τ 0 2)) d) 8 (cx (τ 0 2)) one) 9 (cx (τ 0 2)) two) 10 (cx (τ 0 2)) rank) 2 (τ 0 2 + 1)
def th_once (τ : Tau) (s f t r : Int32) : Int32 := if ¬ okS τ s then 1 else if ¬ ((0 ≤ f ∧ f ≤ 671) ∧ f < t ∧ t ≤ 672 ∧ (1 ≤ r ∧ r ≤ 3)) then 2 else if τ 0 2 = 20 then 3 else 0
def nx_once (τ : Tau) (s f t r : Int32) : Tau := nx_lays τ 0 s 0 f t r
def rt_once (τ : Tau) (_ _ _ _ : Int32) : Int32 := τ 0 2
def th_daily (τ : Tau) (s d f t r : Int32) : Int32 := if ¬ okS τ s ∨ ¬ okL d then 1 else if ¬ ((0 ≤ f ∧ f ≤ 23) ∧ (0 ≤ t ∧ t ≤ 23) ∧ (1 ≤ r ∧ r ≤ 3)) then 2 else if τ 0 2 = 20 then 3 else 0
def nx_daily (τ : Tau) (s d f t r : Int32) : Tau := nx_lays τ 1 s d f t r
def rt_daily (τ : Tau) (_ _ _ _ _ : Int32) : Int32 := τ 0 2
def th_feasts (τ : Tau) (s d r : Int32) : Int32 := if ¬ okS τ s ∨ ¬ okL d then 1 else if ¬ (1 ≤ r ∧ r ≤ 3) then 2 else if τ 0 2 = 20 then 3 else 0
def nx_feasts (τ : Tau) (s d r : Int32) : Tau := nx_lays τ 2 s d 0 0 r
def rt_feasts (τ : Tau) (_ _ _ : Int32) : Int32 := τ 0 2
def th_lift (τ : Tau) (k : Int32) : Int32 := if okF τ k then 0 else 1
def nx_lift (τ : Tau) (k : Int32) : Tau := ti τ 4 (cx k) 1
abbrev cntS (τ : Tau) : Nat := ct (fun k => τ 4 k == 0) (cx (τ 0 2))
def rt_lift (τ : Tau) (k : Int32) : Int32 := nI (cntS (nx_lift τ k))
def th_holding (τ : Tau) (s h : Int32) : Int32 := if ¬ okS τ s then 1 else if 0 ≤ h ∧ h ≤ 671 then 0 else 2
def rt_holding (τ : Tau) (s h : Int32) : Int32 := hoS τ s h
def th_hours (τ : Tau) (k : Int32) : Int32 := if okF τ k then 0 else 1
def rt_hours (τ : Tau) (k : Int32) : Int32 := nI (ct (fun h => hoB τ (cx k) (nI h)) 672)
def th_nextSpan (τ : Tau) (s f n : Int32) : Int32 := if ¬ okS τ s then 1 else if (0 ≤ f ∧ f ≤ 671) ∧ (1 ≤ n ∧ n ≤ 100) then 0 else 2
def rt_nextSpan (τ : Tau) (s f n : Int32) : Int32 := nsp (fun h => hoS τ s (nI h) == 0) n (672 - cx f) (cx f) 0
def th_plan (τ : Tau) (s f n r : Int32) : Int32 := if ¬ okS τ s then 1 else if ¬ ((1 ≤ n ∧ n ≤ 100) ∧ (1 ≤ r ∧ r ≤ 3) ∧ okP τ f n) then 2 else if τ 0 3 = 30 then 3 else 0
def nx_plan (τ : Tau) (s f n r : Int32) : Tau := t0 (ti (ti (ti (ti (ti τ 11 (cx (τ 0 3)) s) 12 (cx (τ 0 3)) f) 13 (cx (τ 0 3)) n) 14 (cx (τ 0 3)) r) 17 (cx (τ 0 3)) (-1)) 3 (τ 0 3 + 1)
def rt_plan (τ : Tau) (_ _ _ _ : Int32) : Int32 := τ 0 3
def th_move (τ : Tau) (c f : Int32) : Int32 := if ¬ okC τ c then 1 else if ¬ okP τ f (τ 13 (cx c)) then 2 else if ¬ τ 17 (cx c) = -1 then 3 else 0
def nx_move (τ : Tau) (c f : Int32) : Tau := ti (ti (ti τ 12 (cx c) f) 15 (cx c) 0) 16 (cx c) 0
def rt_move (τ : Tau) (c f : Int32) : Int32 := nI (badN (nx_move τ c f) (cx c))
def th_approve (τ : Tau) (c : Int32) : Int32 := if ¬ okC τ c then 1 else if ¬ τ 17 (cx c) = -1 ∨ τ 15 (cx c) = τ 14 (cx c) then 2 else 0
def nx_approve (τ : Tau) (c : Int32) : Tau := ti τ 15 (cx c) (τ 15 (cx c) + 1)
def rt_approve (τ : Tau) (c : Int32) : Int32 := τ 15 (cx c) + 1
def th_begin (τ : Tau) (c : Int32) : Int32 := if ¬ okC τ c then 1 else if (τ 17 (cx c) = -1 ∧ τ 0 0 = τ 12 (cx c) ∧ τ 15 (cx c) = τ 14 (cx c)) ∧ badN τ (cx c) = 0 then 0 else 2
def nx_begin (τ : Tau) (c : Int32) : Tau := ti τ 17 (cx c) (τ 0 2)
def rt_begin (τ : Tau) (c : Int32) : Int32 := τ 12 (cx c) + τ 13 (cx c)
def th_state (τ : Tau) (c : Int32) : Int32 := if okC τ c then 0 else 1
def rt_state (τ : Tau) (c : Int32) : Int32 := if τ 17 (cx c) = -1 then 0 else if τ 12 (cx c) + τ 13 (cx c) ≤ τ 0 0 then 2 else 1
def th_approved (τ : Tau) (c : Int32) : Int32 := if okC τ c then 0 else 1
def rt_approved (τ : Tau) (c : Int32) : Int32 := τ 15 (cx c)
def th_exceptions (_ : Tau) (r n : Int32) : Int32 := if (1 ≤ r ∧ r ≤ 3) ∧ (0 ≤ n ∧ n ≤ 50) then 0 else 1
def nx_exceptions (τ : Tau) (r n : Int32) : Tau := ti τ 18 (cx r) n
def rt_exceptions (τ : Tau) (r _ : Int32) : Int32 := τ 18 (cx r)
def th_left (_ : Tau) (r : Int32) : Int32 := if 1 ≤ r ∧ r ≤ 3 then 0 else 1
def rt_left (τ : Tau) (r : Int32) : Int32 := τ 18 (cx r)
abbrev rkx (τ : Tau) (k : Nat) : Nat := rkS (τ 18) 4 (cx (τ 10 k))
def th_excuse (τ : Tau) (c k : Int32) : Int32 := if ¬ okC τ c then 1 else if ¬ okF τ k then 2 else if tch τ (cx k) (cx c) = true ∧ (τ 16 (cx c) >>> (k &&& 31)) &&& 1 = 0 ∧ rkx τ (cx k) < 4 then 0 else 3
def nx_excuse (τ : Tau) (c k : Int32) : Tau := ti (ti τ 16 (cx c) (τ 16 (cx c) ||| 1 <<< (k &&& 31))) 18 (rkx τ (cx k)) (τ 18 (rkx τ (cx k)) - 1)
def rt_excuse (τ : Tau) (_ k : Int32) : Int32 := nI (rkx τ (cx k))
def th_badHours (τ : Tau) (c : Int32) : Int32 := if okC τ c then 0 else 1
def rt_badHours (τ : Tau) (c : Int32) : Int32 := nI (badN τ (cx c))
def rt_firstBad (τ : Tau) (c : Int32) : Int32 := match fst1 (badB τ (cx c)) (cx (τ 13 (cx c))) 0 with
  | none => -1
  | some j => τ 12 (cx c) + nI j
def rt_reasons (τ : Tau) (c : Int32) : Int32 := orr (fun j => agn τ (cx c) (τ 12 (cx c) + nI j)) (cx (τ 13 (cx c)))
/-! what holds of the numbers between calls -/
def FrOk (τ : Tau) (ns k : Nat) : Prop := (τ 5 k = 0 ∨ τ 5 k = 1 ∨ τ 5 k = 2) ∧ (∃ s, s < ns ∧ τ 6 k = nI s) ∧ (∃ d, d < 4 ∧ τ 7 k = nI d) ∧ (∃ r, 1 ≤ r ∧ r ≤ 3 ∧ τ 10 k = nI r)
def ChOk (τ : Tau) (ns nl k : Nat) : Prop := (∃ s, s < ns ∧ τ 11 k = nI s) ∧ (∃ b n, τ 12 k = nI b ∧ τ 13 k = nI n ∧ 1 ≤ n ∧ n ≤ 100 ∧ b + n ≤ 672) ∧ (1 ≤ τ 14 k ∧ τ 14 k ≤ 3) ∧ (0 ≤ τ 15 k ∧ τ 15 k ≤ τ 14 k) ∧ (τ 17 k = -1 ∨ ∃ q, q ≤ nl ∧ τ 17 k = nI q)
def Iv (τ : Tau) (nw ns nl nc : Nat) : Prop :=
  (τ 0 0 = nI nw ∧ nw ≤ 671) ∧ (τ 0 1 = nI ns ∧ 1 ≤ ns ∧ ns ≤ 16) ∧ (τ 0 2 = nI nl ∧ nl ≤ 20) ∧ (τ 0 3 = nI nc ∧ nc ≤ 30) ∧ (τ 1 0 = -1 ∧ ∀ k, 1 ≤ k → k < ns → ∃ j, j < k ∧ τ 1 k = nI j) ∧ (∀ j, j < 4 → -11 ≤ τ 2 j ∧ τ 2 j ≤ 12) ∧ (∀ i, i < 120 → τ 3 i = 0 ∨ τ 3 i = 1) ∧ (∀ k, k < 20 → τ 4 k = 0 ∨ τ 4 k = 1) ∧ (∀ k, nl ≤ k → k < 20 → τ 4 k = 0) ∧ (∀ k, k < nl → FrOk τ ns k) ∧ (∀ k, k < nc → ChOk τ ns nl k) ∧ (∀ k, nc ≤ k → k < 30 → τ 15 k = 0 ∧ τ 16 k = 0) ∧ ∀ r, r < 4 → 0 ≤ τ 18 r ∧ τ 18 r ≤ 50
