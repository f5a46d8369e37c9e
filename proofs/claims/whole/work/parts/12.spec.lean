/-! WHAT IS MEANT: the commons as a function w of numbers (the reference's own order of them), and what its calls answer -/
def sp_ok (w : Int → Int) (c : Int) : Prop := c = 5 ∨ (0 ≤ c ∧ c < w 43)
def fr_It (w : Int → Int) (t : Int) : Prop := (0 ≤ w (1 + t) ∧ w (1 + t) ≤ 3) ∧ (0 ≤ w (7 + t) ∧ w (7 + t) ≤ 5) ∧ (0 ≤ w (13 + t) ∧ w (13 + t) ≤ 5) ∧ (0 ≤ w (19 + t) ∧ w (19 + t) ≤ 5) ∧ (0 ≤ w (25 + t) ∧ w (25 + t) ≤ 1) ∧ (0 ≤ w (31 + t) ∧ w (31 + t) ≤ 1) ∧ (0 ≤ w (37 + t) ∧ w (37 + t) ≤ 31) ∧ (t < w 0 → sp_ok w (w (7 + t)) ∧ sp_ok w (w (13 + t)) ∧ sp_ok w (w (19 + t)))
def fr_Ic (w : Int → Int) (c : Int) : Prop := (0 ≤ w (44 + c) ∧ w (44 + c) ≤ 3) ∧ (0 ≤ w (49 + c) ∧ w (49 + c) ≤ 9) ∧ (0 ≤ w (54 + c) ∧ w (54 + c) ≤ 99) ∧ (0 ≤ w (59 + c) ∧ w (59 + c) ≤ 10) ∧ (c < w 43 → 1 ≤ w (49 + c))
/-- the numbers are as they must be -/
def fr_I (w : Int → Int) : Prop := (0 ≤ w 0 ∧ w 0 ≤ 6) ∧ (0 ≤ w 43 ∧ w 43 ≤ 5) ∧ (0 ≤ w 74 ∧ w 74 ≤ 2147483647) ∧ (0 ≤ w 75 ∧ w 75 ≤ 9999) ∧ (0 ≤ w 76 ∧ w 76 ≤ 6) ∧ (∀ t, 0 ≤ t → t < 6 → fr_It w t) ∧ (∀ c, 0 ≤ c → c < 5 → fr_Ic w c) ∧ (∀ f, 0 ≤ f → f < 10 → -9 ≤ w (64 + f) ∧ w (64 + f) ≤ 99)
theorem fr_I.n {w : Int → Int} (h : fr_I w) : 0 ≤ w 0 ∧ w 0 ≤ 6 := h.1
theorem fr_I.many {w : Int → Int} (h : fr_I w) : 0 ≤ w 43 ∧ w 43 ≤ 5 := h.2.1
theorem fr_I.draw {w : Int → Int} (h : fr_I w) : 0 ≤ w 74 ∧ w 74 ≤ 2147483647 := h.2.2.1
theorem fr_I.years {w : Int → Int} (h : fr_I w) : 0 ≤ w 75 ∧ w 75 ≤ 9999 := h.2.2.2.1
theorem fr_I.fallen {w : Int → Int} (h : fr_I w) : 0 ≤ w 76 ∧ w 76 ≤ 6 := h.2.2.2.2.1
theorem fr_I.tree {w : Int → Int} (h : fr_I w) {t : Int} (h0 : 0 ≤ t) (h1 : t < 6) : fr_It w t := h.2.2.2.2.2.1 t h0 h1
theorem fr_I.cl {w : Int → Int} (h : fr_I w) {c : Int} (h0 : 0 ≤ c) (h1 : c < 5) : fr_Ic w c := h.2.2.2.2.2.2.1 c h0 h1
theorem fr_I.pr {w : Int → Int} (h : fr_I w) {f : Int} (h0 : 0 ≤ f) (h1 : f < 10) : -9 ≤ w (64 + f) ∧ w (64 + f) ≤ 99 := h.2.2.2.2.2.2.2 f h0 h1
/-- the class's ground holds w -/
def fr_Gt (w : Int → Int) (μ : fr_Me) (t : Int) : Prop := μ (36 + t) 0 = w (1 + t) ∧ μ (36 + t) 1 = w (7 + t) ∧ μ (36 + t) 2 = w (13 + t) ∧ μ (36 + t) 3 = w (19 + t) ∧ μ (36 + t) 4 = w (25 + t) ∧ μ (36 + t) 5 = w (31 + t) ∧ μ (36 + t) 6 = w (37 + t)
def fr_Gc (w : Int → Int) (μ : fr_Me) (c : Int) : Prop := μ (48 + c) 0 = w (44 + c) ∧ μ (48 + c) 1 = w (49 + c) ∧ μ (48 + c) 2 = w (54 + c) ∧ μ (48 + c) 3 = w (59 + c)
def fr_G (w : Int → Int) (μ : fr_Me) : Prop := μ 1 3 = w 0 ∧ μ 1 4 = w 43 ∧ μ 1 5 = w 74 ∧ μ 1 6 = w 75 ∧ μ 1 7 = w 76 ∧ (∀ t, 0 ≤ t → t < 6 → fr_Gt w μ t) ∧ (∀ c, 0 ≤ c → c < 5 → fr_Gc w μ c) ∧ (∀ f, 0 ≤ f → f < 10 → μ 4 f = w (64 + f))
theorem fr_G.n {w : Int → Int} {μ : fr_Me} (h : fr_G w μ) : μ 1 3 = w 0 := h.1
theorem fr_G.many {w : Int → Int} {μ : fr_Me} (h : fr_G w μ) : μ 1 4 = w 43 := h.2.1
theorem fr_G.draw {w : Int → Int} {μ : fr_Me} (h : fr_G w μ) : μ 1 5 = w 74 := h.2.2.1
theorem fr_G.years {w : Int → Int} {μ : fr_Me} (h : fr_G w μ) : μ 1 6 = w 75 := h.2.2.2.1
theorem fr_G.fallen {w : Int → Int} {μ : fr_Me} (h : fr_G w μ) : μ 1 7 = w 76 := h.2.2.2.2.1
theorem fr_G.tree {w : Int → Int} {μ : fr_Me} (h : fr_G w μ) {t : Int} (h0 : 0 ≤ t) (h1 : t < 6) : fr_Gt w μ t := h.2.2.2.2.2.1 t h0 h1
theorem fr_G.cl {w : Int → Int} {μ : fr_Me} (h : fr_G w μ) {c : Int} (h0 : 0 ≤ c) (h1 : c < 5) : fr_Gc w μ c := h.2.2.2.2.2.2.1 c h0 h1
theorem fr_G.pr {w : Int → Int} {μ : fr_Me} (h : fr_G w μ) {f : Int} (h0 : 0 ≤ f) (h1 : f < 10) : μ 4 f = w (64 + f) := h.2.2.2.2.2.2.2 f h0 h1
/-- a memory that differs in no cell of the ground holds the same w -/
theorem fr_G.keep {w : Int → Int} {μ μ' : fr_Me} (h : fr_G w μ) (e : ∀ c : Int, (c = 1 ∨ c = 4 ∨ (36 ≤ c ∧ c < 42) ∨ (48 ≤ c ∧ c < 53)) → μ' c = μ c) : fr_G w μ' := by
  refine ⟨?_, ?_, ?_, ?_, ?_, fun t h0 h1 => ?_, fun c h0 h1 => ?_, fun f h0 h1 => ?_⟩
  · rw [e 1 (by omega)]; exact h.n
  · rw [e 1 (by omega)]; exact h.many
  · rw [e 1 (by omega)]; exact h.draw
  · rw [e 1 (by omega)]; exact h.years
  · rw [e 1 (by omega)]; exact h.fallen
  · unfold fr_Gt; rw [e (36 + t) (by omega)]; exact h.tree h0 h1
  · unfold fr_Gc; rw [e (48 + c) (by omega)]; exact h.cl h0 h1
  · rw [e 4 (by omega)]; exact h.pr h0 h1
def sp_bv (kind fruit : Int) : Int := if kind = 1 ∨ kind = 3 then 10 - fruit else fruit
/-- what one brings; who is no climber: stones -/
def sp_br (w : Int → Int) (c : Int) : Int := if 0 ≤ c ∧ c < w 43 then sp_bv (w (44 + c)) (w (49 + c)) else 0
theorem sp_br_rg {w : Int → Int} (h : fr_I w) (c : Int) : 0 ≤ sp_br w c ∧ sp_br w c ≤ 9 := by
  unfold sp_br
  split
  · rename_i hc
    have h1 := h.many
    have h2 := h.cl (c := c) (by omega) (by omega)
    unfold fr_Ic at h2
    have h3 := h2.2.2.2.2 hc.2
    unfold sp_bv
    split <;> omega
  · omega
def sp_pl (fell : Int) : Int := if fell = 1 then 1 else 2
/-- how many a tree bears of what last, and of what before brings -/
def sp_sl (kind fell : Int) : Int := if kind = 1 then (if fell = 1 then 0 else 1) else if kind = 2 then 2 * sp_pl fell else if kind = 3 then 0 else sp_pl fell
def sp_sb (kind fell : Int) : Int := if kind = 1 then (if fell = 1 then 0 else 1) else if kind = 3 then sp_pl fell else 0
theorem sp_sl_rg (kind fell : Int) : 0 ≤ sp_sl kind fell ∧ sp_sl kind fell ≤ 4 := by unfold sp_sl sp_pl; (repeat' split) <;> omega
theorem sp_sb_rg (kind fell : Int) : 0 ≤ sp_sb kind fell ∧ sp_sb kind fell ≤ 2 := by unfold sp_sb sp_pl; (repeat' split) <;> omega
def sp_bn (w : Int → Int) (kind f last fell before fellB : Int) : Int := (if sp_br w last = f then sp_sl kind fell else 0) + (if sp_br w before = f then sp_sb kind fellB else 0)
theorem sp_bn_rg (w : Int → Int) (kind f last fell before fellB : Int) : 0 ≤ sp_bn w kind f last fell before fellB ∧ sp_bn w kind f last fell before fellB ≤ 6 := by
  have h1 := sp_sl_rg kind fell
  have h2 := sp_sb_rg kind fellB
  unfold sp_bn; (repeat' split) <;> omega
def sp_now (w : Int → Int) (t f : Int) : Int := sp_bn w (w (1 + t)) f (w (13 + t)) (w (25 + t)) (w (19 + t)) (w (31 + t))
def sp_nxt (w : Int → Int) (t f c fl : Int) : Int := sp_bn w (w (1 + t)) f c fl (w (13 + t)) (w (25 + t))
def sp_sum : Nat → (Int → Int) → Int
  | 0, _ => 0
  | n + 1, F => sp_sum n F + F n
theorem sp_sum_rg {F : Int → Int} {a b : Int} (n : Nat) (h : ∀ i : Int, 0 ≤ i → i < n → a ≤ F i ∧ F i ≤ b) : n * a ≤ sp_sum n F ∧ sp_sum n F ≤ n * b := by
  induction n with
  | zero => simp [sp_sum]
  | succ n ih =>
    have h1 := ih (fun i h0 h1 => h i h0 (by omega))
    have h2 := h n (by omega) (by omega)
    simp only [sp_sum]
    have e1 : ((n + 1 : Nat) : Int) * a = n * a + a := by rw [Int.natCast_add, Int.add_mul]; simp
    have e2 : ((n + 1 : Nat) : Int) * b = n * b + b := by rw [Int.natCast_add, Int.add_mul]; simp
    omega
theorem sp_sum_eq {F G : Int → Int} (n : Nat) (h : ∀ i : Int, 0 ≤ i → i < n → F i = G i) : sp_sum n F = sp_sum n G := by
  induction n with
  | zero => rfl
  | succ n ih =>
    simp only [sp_sum]
    rw [ih (fun i h0 h1 => h i h0 (by omega)), h n (by omega) (by omega)]
def sp_bask (w : Int → Int) (f what : Int) : Int := sp_sum (w 0).toNat (fun t => if what = 0 then sp_now w t f else sp_nxt w t f (w (7 + t)) 0)
def sp_val (w : Int → Int) (what : Int) : Int := sp_sum 10 (fun f => w (64 + f) * sp_bask w f what)
