/-! part a1: tokens: what stands at a place of the tape (pure) -/
noncomputable def zy_sm (c : Int) : Bool := decide (97 ≤ c) && decide (c ≤ 122)
noncomputable def zy_dg (c : Int) : Bool := decide (48 ≤ c) && decide (c ≤ 57)
noncomputable def zy_bl (c : Int) : Bool := decide (c = 32)
noncomputable def zy_rn (f : Int → Bool) (B : Nat → Int) (len : Nat) : Nat → Nat → Nat
  | 0, p => p
  | n + 1, p => if p < len ∧ f (B p) = true then zy_rn f B len n (p + 1) else p
/-- on from p while f holds -/
noncomputable def zy_r (f : Int → Bool) (B : Nat → Int) (len p : Nat) : Nat := zy_rn f B len (len - p) p
theorem zy_r_go {f : Int → Bool} {B : Nat → Int} {len p : Nat} (h : p < len) (hf : f (B p) = true) : zy_r f B len p = zy_r f B len (p + 1) := by
  unfold zy_r
  rw [show len - p = (len - (p + 1)) + 1 by omega]
  exact if_pos ⟨h, hf⟩
theorem zy_r_no {f : Int → Bool} {B : Nat → Int} {len p : Nat} (h : ¬ (p < len ∧ f (B p) = true)) : zy_r f B len p = p := by
  unfold zy_r
  cases len - p with
  | zero => rfl
  | succ n => exact if_neg h
theorem zy_rn_le {f : Int → Bool} {B : Nat → Int} {len : Nat} : ∀ (n p : Nat), p ≤ zy_rn f B len n p ∧ (p ≤ len → zy_rn f B len n p ≤ len)
  | 0, p => ⟨Nat.le_refl _, fun h => h⟩
  | n + 1, p => by
    unfold zy_rn
    split
    · rename_i h
      have := zy_rn_le (f := f) (B := B) (len := len) n (p + 1)
      exact ⟨by omega, fun _ => this.2 (by omega)⟩
    · exact ⟨Nat.le_refl _, fun h => h⟩
theorem zy_r_le {f : Int → Bool} {B : Nat → Int} {len p : Nat} : p ≤ zy_r f B len p ∧ (p ≤ len → zy_r f B len p ≤ len) := zy_rn_le _ _
theorem zy_rn_c {f : Int → Bool} {B B' : Nat → Int} {len : Nat} (h : ∀ j, j < len → B j = B' j) : ∀ (n p : Nat), zy_rn f B len n p = zy_rn f B' len n p
  | 0, p => rfl
  | n + 1, p => by
    unfold zy_rn
    by_cases hp : p < len
    · rw [h p hp, zy_rn_c h n (p + 1)]
    · rw [if_neg (fun z => hp z.1), if_neg (fun z => hp z.1)]
theorem zy_r_c {f : Int → Bool} {B B' : Nat → Int} {len p : Nat} (h : ∀ j, j < len → B j = B' j) : zy_r f B len p = zy_r f B' len p := zy_rn_c h _ _
/-- a token: where it begins, its sort (0 the end, 1 letters, 2 digits, 3 a sign), where it ends, what it is worth -/
noncomputable def zy_fr (B : Nat → Int) (len p : Nat) : Nat := zy_r zy_bl B len p
noncomputable def zy_so (B : Nat → Int) (len p : Nat) : Nat := if zy_fr B len p < len then (if zy_sm (B (zy_fr B len p)) = true then 1 else if zy_dg (B (zy_fr B len p)) = true then 2 else 3) else 0
noncomputable def zy_to (B : Nat → Int) (len p : Nat) : Nat := if zy_so B len p = 1 then zy_r zy_sm B len (zy_fr B len p) else if zy_so B len p = 2 then zy_r zy_dg B len (zy_fr B len p) else if zy_so B len p = 3 then zy_fr B len p + 1 else zy_fr B len p
noncomputable def zy_ww (B : Nat → Int) (q : Nat) : Nat → Int
  | 0 => 0
  | k + 1 => if k < 10 then zy_ww B q k * 32 + B (q + k) - 96 else -1
noncomputable def zy_dw (B : Nat → Int) (q : Nat) : Nat → Int
  | 0 => 0
  | k + 1 => if 1000000 < zy_dw B q k then zy_dw B q k else zy_dw B q k * 10 + B (q + k) - 48
noncomputable def zy_wo (B : Nat → Int) (len p : Nat) : Int := if zy_so B len p = 1 then zy_ww B (zy_fr B len p) (zy_to B len p - zy_fr B len p) else if zy_so B len p = 2 then zy_dw B (zy_fr B len p) (zy_to B len p - zy_fr B len p) else if zy_so B len p = 3 then B (zy_fr B len p) else 0
theorem zy_fr_le {B : Nat → Int} {len p : Nat} (h : p ≤ len) : p ≤ zy_fr B len p ∧ zy_fr B len p ≤ len := ⟨zy_r_le.1, zy_r_le.2 h⟩
theorem zy_so_le {B : Nat → Int} {len p : Nat} : zy_so B len p ≤ 3 := by
  unfold zy_so
  repeat' split
  all_goals omega
theorem zy_so0 {B : Nat → Int} {len p : Nat} (h : p ≤ len) : zy_so B len p = 0 ↔ zy_fr B len p = len := by
  have := zy_fr_le (B := B) h
  unfold zy_so
  split
  · constructor
    · intro h2
      exfalso
      revert h2
      repeat' split
      all_goals omega
    · intro h2
      omega
  · constructor
    · intro _
      omega
    · intro _
      rfl
theorem zy_to_le {B : Nat → Int} {len p : Nat} (h : p ≤ len) : zy_fr B len p ≤ zy_to B len p ∧ zy_to B len p ≤ len ∧ (zy_so B len p ≠ 0 → zy_fr B len p < zy_to B len p) := by
  have h1 := zy_fr_le (B := B) h
  have h0 := zy_so0 (B := B) h
  have hs : zy_so B len p = 1 → zy_fr B len p < len ∧ zy_sm (B (zy_fr B len p)) = true := by
    unfold zy_so
    repeat' split
    all_goals first | omega | (intro _; constructor <;> assumption)
  have hd : zy_so B len p = 2 → zy_fr B len p < len ∧ zy_dg (B (zy_fr B len p)) = true := by
    unfold zy_so
    repeat' split
    all_goals first | omega | (intro _; constructor <;> assumption)
  unfold zy_to
  split
  · rename_i h2
    obtain ⟨g1, g2⟩ := hs h2
    rw [zy_r_go g1 g2]
    have := zy_r_le (f := zy_sm) (B := B) (len := len) (p := zy_fr B len p + 1)
    exact ⟨by omega, this.2 (by omega), fun _ => by omega⟩
  · split
    · rename_i h2
      obtain ⟨g1, g2⟩ := hd h2
      rw [zy_r_go g1 g2]
      have := zy_r_le (f := zy_dg) (B := B) (len := len) (p := zy_fr B len p + 1)
      exact ⟨by omega, this.2 (by omega), fun _ => by omega⟩
    · split
      · rename_i h2
        exact ⟨by omega, by omega, fun _ => by omega⟩
      · rename_i h2 h3 h4
        have := zy_so_le (B := B) (len := len) (p := p)
        exact ⟨by omega, by omega, fun h5 => by omega⟩
/-- a letter's run: all of it letters -/
theorem zy_rn_all {f : Int → Bool} {B : Nat → Int} {len : Nat} : ∀ (n p k : Nat), p ≤ k → k < zy_rn f B len n p → f (B k) = true
  | 0, p, k, h1, h2 => absurd h2 (Nat.not_lt.mpr h1)
  | n + 1, p, k, h1, h2 => by
    unfold zy_rn at h2
    split at h2
    · rename_i h
      by_cases hk : k = p
      · rw [hk]; exact h.2
      · exact zy_rn_all n (p + 1) k (by omega) h2
    · exact absurd h2 (Nat.not_lt.mpr h1)
theorem zy_r_all {f : Int → Bool} {B : Nat → Int} {len p k : Nat} (h1 : p ≤ k) (h2 : k < zy_r f B len p) : f (B k) = true := zy_rn_all _ _ _ h1 h2
/-- a word's number, by its letters' list -/
noncomputable def zy_en : List Int → Int
  | [] => 0
  | c :: r => zy_en r * 32 + c - 96
/-- the letters of a run, the last first -/
noncomputable def zy_ls (B : Nat → Int) (q : Nat) : Nat → List Int
  | 0 => []
  | k + 1 => B (q + k) :: zy_ls B q k
theorem zy_ww_en {B : Nat → Int} {q : Nat} : ∀ k, k ≤ 10 → zy_ww B q k = zy_en (zy_ls B q k)
  | 0, _ => rfl
  | k + 1, h => by
    show (if k < 10 then zy_ww B q k * 32 + B (q + k) - 96 else -1) = zy_en (zy_ls B q k) * 32 + B (q + k) - 96
    rw [if_pos (by omega), zy_ww_en k (by omega)]
theorem zy_en_nn : ∀ {l : List Int}, (∀ c ∈ l, 97 ≤ c ∧ c ≤ 122) → 0 ≤ zy_en l
  | [], _ => Int.le_refl 0
  | c :: r, h => by
    have h1 := h c List.mem_cons_self
    have hr : 0 ≤ zy_en r := zy_en_nn (fun x hx => h x (List.mem_cons_of_mem _ hx))
    show 0 ≤ zy_en r * 32 + c - 96
    omega
theorem zy_en_inj : ∀ {l l' : List Int}, (∀ c ∈ l, 97 ≤ c ∧ c ≤ 122) → (∀ c ∈ l', 97 ≤ c ∧ c ≤ 122) → zy_en l = zy_en l' → l = l'
  | [], [], _, _, _ => rfl
  | [], c :: r, _, h', e => by
    exfalso
    have h1 := h' c List.mem_cons_self
    have hr : 0 ≤ zy_en r := zy_en_nn (fun x hx => h' x (List.mem_cons_of_mem _ hx))
    have e : (0 : Int) = zy_en r * 32 + c - 96 := e
    omega
  | c :: r, [], h, _, e => by
    exfalso
    have h1 := h c List.mem_cons_self
    have hr : 0 ≤ zy_en r := zy_en_nn (fun x hx => h x (List.mem_cons_of_mem _ hx))
    have e : zy_en r * 32 + c - 96 = 0 := e
    omega
  | c :: r, c' :: r', h, h', e => by
    have h1 := h c List.mem_cons_self
    have h2 := h' c' List.mem_cons_self
    have e : zy_en r * 32 + c - 96 = zy_en r' * 32 + c' - 96 := e
    have e1 : c = c' := by omega
    have e2 : zy_en r = zy_en r' := by omega
    rw [e1, zy_en_inj (fun x hx => h x (List.mem_cons_of_mem _ hx)) (fun x hx => h' x (List.mem_cons_of_mem _ hx)) e2]
