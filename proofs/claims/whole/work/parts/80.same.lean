/-! what class and reference call differently is the same -/
theorem od_wnf {w : Int → Int} (hI : fr_I w) (t c fl : Int) : sp_wn w t c fl = sp_sl (w (1 + t)) fl * w (64 + sp_br w c) + sp_sb (w (1 + t)) (w (25 + t)) * w (64 + sp_br w (w (13 + t))) := by
  have h1 := sp_br_rg hI c
  have h2 := sp_br_rg hI (w (13 + t))
  unfold sp_wn sp_nxt sp_bn
  have e : ∀ f : Int, w (64 + f) * ((if sp_br w c = f then sp_sl (w (1 + t)) fl else 0) + (if sp_br w (w (13 + t)) = f then sp_sb (w (1 + t)) (w (25 + t)) else 0)) = (fun f => w (64 + f) * (if sp_br w c = f then sp_sl (w (1 + t)) fl else 0)) f + (fun f => w (64 + f) * (if sp_br w (w (13 + t)) = f then sp_sb (w (1 + t)) (w (25 + t)) else 0)) f := fun f => Int.mul_add _ _ _
  rw [funext e, sp_sum_add, sp_sum_if (fun f => w (64 + f)), sp_sum_if (fun f => w (64 + f)), if_pos (by omega), if_pos (by omega), Int.mul_comm, Int.mul_comm (w (64 + sp_br w (w (13 + t))))]
theorem ex_alg (o a b y p q : Int) : (10 - o) * (a * p + y * q) + o * (b * p + y * q) = (a * (10 - o) + b * o) * p + y * 10 * q := by
  grind
theorem ex_eq {w : Int → Int} (hI : fr_I w) (n : Nat) : sp_sum n (sp_ex0 w) = sp_sum n (sp_ex1 w) := by
  refine sp_sum_eq n (fun t _ _ => ?_)
  unfold sp_ex0 sp_ex1
  rw [od_wnf hI, od_wnf hI]
  exact ex_alg _ _ _ _ _ _
theorem orl_in {F : Int → Int} {k : Int} (hk : 0 ≤ k ∧ k < 32) : ∀ n : Nat, sp_in (sp_orl n F) k ↔ ∃ t : Int, 0 ≤ t ∧ t < n ∧ sp_in (F t) k := by
  intro n
  induction n with
  | zero => exact ⟨fun h => absurd h (bx_zero hk), fun ⟨t, a, b, _⟩ => by omega⟩
  | succ n ih =>
    simp only [sp_orl]
    rw [bx_or _ _ hk, ih]
    constructor
    · rintro (⟨t, a, b, c⟩ | h)
      · exact ⟨t, a, by omega, c⟩
      · exact ⟨n, by omega, by omega, h⟩
    · rintro ⟨t, a, b, c⟩
      rcases (by omega : t < n ∨ t = n) with q | q
      · exact Or.inl ⟨t, a, q, c⟩
      · subst q; exact Or.inr c
theorem now_eq {w : Int → Int} (hI : fr_I w) : fr_and (sp_orl (w 0).toNat (fun t => fr_shl 1 (w (7 + t)))) (-33) = sp_orl (w 0).toNat (fun t => if w (7 + t) = 5 then 0 else fr_shl 1 (w (7 + t))) := by
  have hN := hI.n
  have hr : ∀ n : Nat, -2147483648 ≤ sp_orl n (fun t => if w (7 + t) = 5 then 0 else fr_shl 1 (w (7 + t))) ∧ sp_orl n (fun t => if w (7 + t) = 5 then 0 else fr_shl 1 (w (7 + t))) ≤ 2147483647 := by
    intro n
    cases n with
    | zero => simp [sp_orl]
    | succ n => exact fr_or_rg _ _
  have h33 : ∀ k : Int, 0 ≤ k → k < 32 → (sp_in (-33) k ↔ k ≠ 5) := by
    intro k k0 k1
    have e : ∀ k : Fin 32, sp_in (-33) (k.val : Nat) ↔ k.val ≠ 5 := by unfold sp_in; decide +kernel
    have := e ⟨k.toNat, by omega⟩
    simp only [Int.toNat_of_nonneg k0] at this
    rw [this]; omega
  refine bx_ext (fr_and_rg _ _) (hr _) (fun k k0 k1 => ?_)
  rw [bx_and _ _ ⟨k0, k1⟩, orl_in ⟨k0, k1⟩, orl_in ⟨k0, k1⟩, h33 k k0 k1]
  constructor
  · rintro ⟨⟨t, a, b, c⟩, d⟩
    have iT := hI.tree (t := t) a (by omega)
    unfold fr_It at iT
    rw [bx_one (by omega) ⟨k0, k1⟩] at c
    refine ⟨t, a, b, ?_⟩
    rw [if_neg (by omega), bx_one (by omega) ⟨k0, k1⟩]; exact c
  · rintro ⟨t, a, b, c⟩
    have iT := hI.tree (t := t) a (by omega)
    unfold fr_It at iT
    by_cases q : w (7 + t) = 5
    · rw [if_pos q] at c; exact absurd c (bx_zero ⟨k0, k1⟩)
    · rw [if_neg q] at c
      refine ⟨⟨t, a, b, c⟩, ?_⟩
      rw [bx_one (by omega) ⟨k0, k1⟩] at c
      omega
theorem Hk_e {w it it' : Int → Int} (h : ∀ f, 0 ≤ f → f < 10 → it f = it' f) (ev : Int) : sp_Hk w it ev = sp_Hk w it' ev := by
  funext c; apply propext
  unfold sp_Hk sp_wd
  constructor
  · rintro ⟨a, b⟩; exact ⟨a, fun f f0 f1 => by rw [← h f f0 f1]; exact b f f0 f1⟩
  · rintro ⟨a, b⟩; exact ⟨a, fun f f0 f1 => by rw [h f f0 f1]; exact b f f0 f1⟩
theorem Pk_e {w it it' : Int → Int} (h : ∀ f, 0 ≤ f → f < 10 → it f = it' f) (ev : Int) : sp_Pk w it ev = sp_Pk w it' ev := by
  funext c; apply propext
  unfold sp_Pk sp_wd
  constructor
  · rintro ⟨a, b⟩; exact ⟨a, fun f f0 f1 => by rw [← h f f0 f1]; exact b f f0 f1⟩
  · rintro ⟨a, b⟩; exact ⟨a, fun f f0 f1 => by rw [h f f0 f1]; exact b f f0 f1⟩
theorem Nk_e {w it it' : Int → Int} (h : ∀ f, 0 ≤ f → f < w 0 → it f = it' f) (ev : Int) : sp_Nk w it ev = sp_Nk w it' ev := by
  funext c; apply propext
  unfold sp_Nk
  constructor
  · rintro ⟨a, b⟩; exact ⟨a, fun f f0 f1 => by rw [← h f f0 f1]; exact b f f0 f1⟩
  · rintro ⟨a, b⟩; exact ⟨a, fun f f0 f1 => by rw [h f f0 f1]; exact b f f0 f1⟩
theorem fk_e {w it it' : Int → Int} {n : Int} (h : ∀ f, 0 ≤ f → f < n → it f = it' f) : sp_folks w it n ↔ sp_folks w it' n := by
  unfold sp_folks
  constructor
  · intro a k k0 k1; rw [← h k k0 k1]; exact a k k0 k1
  · intro a k k0 k1; rw [h k k0 k1]; exact a k k0 k1
theorem rl_e {w it it' : Int → Int} {n : Int} (hn : 1 ≤ n) (h : ∀ f, 0 ≤ f → f < n → it f = it' f) {y t : Int} (hy : 0 ≤ y) (ht : 0 ≤ t) : sp_rl w it n y t = sp_rl w it' n y t ∧ sp_rb w it n y t = sp_rb w it' n y t := by
  have e : ∀ y, 0 ≤ y → sp_rl w it n y t = sp_rl w it' n y t := by
    intro y hy
    unfold sp_rl
    split
    · rfl
    · have := ro_md (a := y - 1 + t) (n := n) (by omega) hn
      exact h _ this.1 this.2
  refine ⟨e y hy, ?_⟩
  unfold sp_rb
  split
  · rfl
  · exact e _ (by omega)
theorem rv_e {w it it' : Int → Int} {n : Int} (hn : 1 ≤ n) (h : ∀ f, 0 ≤ f → f < n → it f = it' f) {y : Int} (hy : 0 ≤ y) : sp_rv w it n y = sp_rv w it' n y := by
  unfold sp_rv
  refine sp_sum_eq _ (fun t t0 _ => ?_)
  have := rl_e (w := w) hn h hy t0
  rw [this.1, this.2]
theorem al_e {w it it' : Int → Int} {n : Int} (hn : 1 ≤ n) (h : ∀ f, 0 ≤ f → f < n → it f = it' f) {x y : Int} (hx : 0 ≤ x) (hy : 0 ≤ y) : sp_al w it n x y ↔ sp_al w it' n x y := by
  unfold sp_al
  constructor
  · intro a t t0 t1
    have h1 := rl_e (w := w) hn h hx t0
    have h2 := rl_e (w := w) hn h hy t0
    rw [← h1.1, ← h1.2, ← h2.1, ← h2.2]; exact a t t0 t1
  · intro a t t0 t1
    have h1 := rl_e (w := w) hn h hx t0
    have h2 := rl_e (w := w) hn h hy t0
    rw [h1.1, h1.2, h2.1, h2.2]; exact a t t0 t1
theorem ag_e {w it it' : Int → Int} {n : Int} (hn : 1 ≤ n) (h : ∀ f, 0 ≤ f → f < n → it f = it' f) {what z : Int} (g : sp_ag w it n what z) : sp_ag w it' n what z := by
  have hd : ∀ d, sp_mul n d → 0 ≤ d := fun d hd => by have := hd.pos hn; omega
  rcases g with ⟨y, d, a, b, c, e, f, i, j, k⟩ | ⟨a, b⟩
  · refine Or.inl ⟨y, d, a, b, c, e, (al_e hn h (by omega) (by omega)).mp f, fun d' x1 x2 x3 => i d' x1 x2 ((al_e hn h (by omega) (by omega)).mpr x3), fun y' x1 x2 d' x3 x4 x5 => j y' x1 x2 d' x3 x4 ((al_e hn h (by omega) (by omega)).mpr x5), k⟩
  · exact Or.inr ⟨fun y' x1 x2 d' x3 x4 x5 => a y' x1 x2 d' x3 x4 ((al_e hn h (by omega) (by omega)).mpr x5), b⟩
