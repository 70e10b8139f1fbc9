/-! part a2: words: the class's way through a row of words, the reference's number (pure) -/
noncomputable def zs_ix (S : Nat → Int) : Nat → Nat
  | 0 => 0
  | k + 1 => if S k = 32 then zs_ix S k + 1 else zs_ix S k
noncomputable def zs_sm (S B : Nat → Int) (st : Nat) : Nat → Int
  | 0 => 0
  | k + 1 => if S k = 32 then 0 else if zs_sm S B st k ≠ -1 ∧ B (st + (zs_sm S B st k).toNat) = S k then zs_sm S B st k + 1 else -1
theorem zs_sm_le {S B : Nat → Int} {st : Nat} : ∀ k : Nat, -1 ≤ zs_sm S B st k ∧ zs_sm S B st k ≤ (k : Int)
  | 0 => ⟨by show (-1 : Int) ≤ 0; decide, by show (0 : Int) ≤ ((0 : Nat) : Int); decide⟩
  | k + 1 => by
    have ih := zs_sm_le (S := S) (B := B) (st := st) k
    unfold zs_sm
    repeat' split
    all_goals omega
noncomputable def zs_gw (S : Nat → Int) (n : Nat) (B : Nat → Int) (st : Nat) (m : Int) : Nat → Nat → Int
  | 0, _ => -1
  | r + 1, at_ => if (at_ = n ∨ S at_ = 32) ∧ zs_sm S B st at_ = m then (zs_ix S at_ : Int) else zs_gw S n B st m r (at_ + 1)
/-- which of the words -/
noncomputable def zs_g (S : Nat → Int) (n : Nat) (B : Nat → Int) (st : Nat) (m : Int) (at_ : Nat) : Int := zs_gw S n B st m (n + 1 - at_) at_
theorem zs_g_end {S : Nat → Int} {n : Nat} {B : Nat → Int} {st : Nat} {m : Int} {at_ : Nat} (h : n < at_) : zs_g S n B st m at_ = -1 := by
  unfold zs_g
  rw [show n + 1 - at_ = 0 by omega]
  rfl
theorem zs_g_step {S : Nat → Int} {n : Nat} {B : Nat → Int} {st : Nat} {m : Int} {at_ : Nat} (h : at_ ≤ n) : zs_g S n B st m at_ = if (at_ = n ∨ S at_ = 32) ∧ zs_sm S B st at_ = m then (zs_ix S at_ : Int) else zs_g S n B st m (at_ + 1) := by
  unfold zs_g
  rw [show n + 1 - at_ = (n + 1 - (at_ + 1)) + 1 by omega]
  rfl
theorem zs_in {S B : Nat → Int} {st a : Nat} (h0 : zs_sm S B st a = 0) : ∀ o : Nat, (∀ k, a ≤ k → k < a + o → S k ≠ 32) → ((zs_sm S B st (a + o) = (o : Int) ∧ ∀ k, k < o → B (st + k) = S (a + k)) ∨ (zs_sm S B st (a + o) = -1 ∧ ∃ k, k < o ∧ B (st + k) ≠ S (a + k)))
  | 0, _ => Or.inl ⟨h0, fun k hk => absurd hk (Nat.not_lt_zero k)⟩
  | o + 1, hS => by
    have ih := zs_in (S := S) (B := B) (st := st) h0 o (fun k h1 h2 => hS k h1 (by omega))
    have hb := hS (a + o) (by omega) (by omega)
    have e : zs_sm S B st (a + (o + 1)) = if S (a + o) = 32 then 0 else if zs_sm S B st (a + o) ≠ -1 ∧ B (st + (zs_sm S B st (a + o)).toNat) = S (a + o) then zs_sm S B st (a + o) + 1 else -1 := rfl
    rw [e, if_neg hb]
    rcases ih with ⟨e1, e2⟩ | ⟨e1, k, e2, e3⟩
    · rw [e1, Int.toNat_natCast]
      by_cases hm : B (st + o) = S (a + o)
      · rw [if_pos ⟨by omega, hm⟩]
        refine Or.inl ⟨by omega, fun k hk => ?_⟩
        by_cases hko : k = o
        · rw [hko]; exact hm
        · exact e2 k (by omega)
      · rw [if_neg (fun z => hm z.2)]
        exact Or.inr ⟨rfl, o, by omega, hm⟩
    · rw [e1, if_neg (fun z => z.1 rfl)]
      exact Or.inr ⟨rfl, k, by omega, e3⟩
theorem zy_ls_eq {B B' : Nat → Int} {q q' : Nat} : ∀ {k k' : Nat}, zy_ls B q k = zy_ls B' q' k' ↔ (k = k' ∧ ∀ i, i < k → B (q + i) = B' (q' + i))
  | 0, 0 => ⟨fun _ => ⟨rfl, fun i hi => absurd hi (Nat.not_lt_zero i)⟩, fun _ => rfl⟩
  | 0, k' + 1 => ⟨fun h => (by cases h), fun h => (by omega)⟩
  | k + 1, 0 => ⟨fun h => (by cases h), fun h => (by omega)⟩
  | k + 1, k' + 1 => by
    have ih := zy_ls_eq (B := B) (B' := B') (q := q) (q' := q') (k := k) (k' := k')
    constructor
    · intro h
      have h1 : B (q + k) = B' (q' + k') := (List.cons.inj h).1
      obtain ⟨e1, e2⟩ := ih.mp (List.cons.inj h).2
      subst e1
      refine ⟨rfl, fun i hi => ?_⟩
      by_cases hik : i = k
      · rw [hik]; exact h1
      · exact e2 i (by omega)
    · rintro ⟨e1, e2⟩
      have e1 : k = k' := by omega
      subst e1
      show B (q + k) :: zy_ls B q k = B' (q' + k) :: zy_ls B' q' k
      rw [e2 k (by omega), ih.mpr ⟨rfl, fun i hi => e2 i (by omega)⟩]
theorem zy_ls_mem {B : Nat → Int} {q : Nat} : ∀ {k : Nat} {c : Int}, c ∈ zy_ls B q k → ∃ i, i < k ∧ c = B (q + i)
  | 0, c, h => absurd h List.not_mem_nil
  | k + 1, c, h => by
    rcases List.mem_cons.mp h with h | h
    · exact ⟨k, by omega, h⟩
    · obtain ⟨i, h1, h2⟩ := zy_ls_mem (k := k) h
      exact ⟨i, by omega, h2⟩
/-- a token of m letters is the word that stands in S from a on, n long, just if its number is that word's -/
theorem zs_word {S B : Nat → Int} {st a n m : Nat} (hB : ∀ i, i < m → 97 ≤ B (st + i) ∧ B (st + i) ≤ 122) (hS : ∀ i, i < n → 97 ≤ S (a + i) ∧ S (a + i) ≤ 122) (hn : n ≤ 9) : (m = n ∧ ∀ i, i < m → B (st + i) = S (a + i)) ↔ zy_ww B st m = zy_en (zy_ls S a n) := by
  have hs : ∀ c ∈ zy_ls S a n, 97 ≤ c ∧ c ≤ 122 := fun c hc => by
    obtain ⟨i, h1, h2⟩ := zy_ls_mem hc
    rw [h2]
    exact hS i h1
  by_cases hm : m ≤ 10
  · rw [zy_ww_en m hm, ← zy_ls_eq]
    constructor
    · intro h
      rw [h]
    · intro h
      refine zy_en_inj (fun c hc => ?_) hs h
      obtain ⟨i, h1, h2⟩ := zy_ls_mem hc
      rw [h2]
      exact hB i h1
  · have h0 := zy_en_nn hs
    constructor
    · intro h
      omega
    · intro h
      exfalso
      obtain ⟨m', rfl⟩ : ∃ m', m = m' + 1 := ⟨m - 1, by omega⟩
      have e : zy_ww B st (m' + 1) = if m' < 10 then zy_ww B st m' * 32 + B (st + m') - 96 else -1 := rfl
      rw [e, if_neg (by omega)] at h
      omega
/-- through one word -/
theorem zs_pass {S B : Nat → Int} {st a b n : Nat} {m : Nat} (h0 : zs_sm S B st a = 0) (hab : a ≤ b) (hbn : b ≤ n) (hS : ∀ i, i < b - a → 97 ≤ S (a + i) ∧ S (a + i) ≤ 122) (hb : b = n ∨ S b = 32) (hB : ∀ i, i < m → 97 ≤ B (st + i) ∧ B (st + i) ≤ 122) (h9 : b - a ≤ 9) : zs_g S n B st (m : Int) a = if zy_ww B st m = zy_en (zy_ls S a (b - a)) then (zs_ix S b : Int) else zs_g S n B st (m : Int) (b + 1) := by
  have key : ∀ o, o ≤ b - a → zs_g S n B st (m : Int) a = zs_g S n B st (m : Int) (a + o) := by
    intro o
    induction o with
    | zero => intro _; rfl
    | succ o ih =>
      intro ho
      rw [ih (by omega), zs_g_step (by omega), if_neg]
      · rfl
      · rintro ⟨h1, -⟩
        have := hS o (by omega)
        rcases h1 with h1 | h1
        · omega
        · omega
  rw [key (b - a) (Nat.le_refl _), show a + (b - a) = b by omega, zs_g_step hbn]
  have hin := zs_in (S := S) (B := B) (st := st) h0 (b - a) (fun k h1 h2 => by
    have := hS (k - a) (by omega)
    rw [show a + (k - a) = k by omega] at this
    omega)
  rw [Nat.add_sub_of_le hab] at hin
  have hw := zs_word (S := S) (B := B) (st := st) (a := a) (n := b - a) (m := m) hB hS h9
  have hc : ((b = n ∨ S b = 32) ∧ zs_sm S B st b = (m : Int)) ↔ zy_ww B st m = zy_en (zy_ls S a (b - a)) := by
    rw [← hw]
    constructor
    · rintro ⟨-, h2⟩
      rcases hin with ⟨e1, e2⟩ | ⟨e1, -⟩
      · have : m = b - a := by omega
        exact ⟨this, fun i hi => e2 i (by omega)⟩
      · omega
    · rintro ⟨h1, h2⟩
      refine ⟨hb, ?_⟩
      rcases hin with ⟨e1, e2⟩ | ⟨e1, k, e2, e3⟩
      · omega
      · exact absurd (h2 k (by omega)) e3
  by_cases hz : zy_ww B st m = zy_en (zy_ls S a (b - a))
  · rw [if_pos hz, if_pos (hc.mpr hz)]
  · rw [if_neg hz, if_neg (fun z => hz (hc.mp z))]
