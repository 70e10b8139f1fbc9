/-! part mo: behind the constructors: where all cells lie, by their birth types -/
/-- the birth types of the cells -/
noncomputable def zBtc : List (Nat × Nat) := [(0, 101), (1, 98), (2, 117), (3, 133), (4, 6), (5, 99), (6, 139), (7, 121), (8, 125), (9, 129), (10, 136), (11, 94), (12, 95), (13, 8), (20, 113), (21, 56), (22, 96), (30, 103), (31, 104), (32, 105), (33, 106), (34, 107), (35, 108), (36, 109), (37, 110), (38, 111), (39, 112), (40, 52), (50, 118), (51, 119), (52, 120), (53, 122), (54, 123), (55, 124), (56, 126), (57, 127), (58, 128), (59, 130), (60, 131), (61, 132), (62, 134), (63, 135), (64, 137), (65, 138), (66, 27), (67, 28), (68, 14), (69, 15), (70, 16), (71, 114)]
theorem zBtc_m : zBtc.map (fun q => (q.1, zl_mt q.2)) = zYc := by decide +kernel
theorem zBtc_i : ∀ q ∈ zBtc, ∀ r ∈ zBtc, q.2 = r.2 → q.1 = r.1 := by decide +kernel
set_option maxHeartbeats 4000000 in
theorem zl_bc {w : zk_W} {s : State} {P : Nat → Option Nat} {F : Nat → va_E} {H : Heap} (hw : w.1 = zt_types) (h : zk_wt w s P F H) {xa : Nat} (q0 : P xa = some 101) (hru : ∀ dy ru : Nat, zp_n F xa 4 = (dy : Int) → zp_n F xa 3 = (ru : Int) → zp_n F dy 0 = (ru : Int)) (htp : ∀ rd tp : Nat, zp_n F xa 9 = (rd : Int) → zp_n F xa 8 = (tp : Int) → zp_n F rd 0 = (tp : Int)) : ∃ A : Nat → Nat, A 0 = xa ∧ (∀ q ∈ zBtc, P (A q.1) = some q.2) ∧ ∀ r ∈ zFc, zp_n F (A r.1) r.2.1 = (A r.2.2 : Int) := by
  obtain ⟨a1, e1, q1⟩ := zp_this (zp_rdf (xs := []) (zp_wt.of h) hw q0 (show zp_fd 101 0 = some (11, 2, 98, 0, 0) from rfl) (show (2 : Nat) ≤ 2 by decide)).1
  obtain ⟨a22, e22, q22⟩ := zp_this (zp_rdf (xs := []) (zp_wt.of h) hw q0 (show zp_fd 101 1 = some (11, 2, 96, 0, 0) from rfl) (show (2 : Nat) ≤ 2 by decide)).1
  obtain ⟨a3, e3, q3⟩ := zp_this (zp_rdf (xs := []) (zp_wt.of h) hw q0 (show zp_fd 101 2 = some (11, 2, 133, 0, 0) from rfl) (show (2 : Nat) ≤ 2 by decide)).1
  obtain ⟨a4, e4, q4⟩ := zp_this (zp_rdf (xs := []) (zp_wt.of h) hw q0 (show zp_fd 101 3 = some (11, 2, 6, 0, 0) from rfl) (show (2 : Nat) ≤ 2 by decide)).1
  obtain ⟨a5, e5, q5⟩ := zp_this (zp_rdf (xs := []) (zp_wt.of h) hw q0 (show zp_fd 101 4 = some (11, 2, 99, 0, 0) from rfl) (show (2 : Nat) ≤ 2 by decide)).1
  obtain ⟨a6, e6, q6⟩ := zp_this (zp_rdf (xs := []) (zp_wt.of h) hw q0 (show zp_fd 101 7 = some (11, 2, 139, 0, 0) from rfl) (show (2 : Nat) ≤ 2 by decide)).1
  obtain ⟨a11, e11, q11⟩ := zp_this (zp_rdf (xs := []) (zp_wt.of h) hw q0 (show zp_fd 101 8 = some (11, 2, 94, 0, 0) from rfl) (show (2 : Nat) ≤ 2 by decide)).1
  obtain ⟨a12, e12, q12⟩ := zp_this (zp_rdf (xs := []) (zp_wt.of h) hw q0 (show zp_fd 101 9 = some (11, 2, 95, 0, 0) from rfl) (show (2 : Nat) ≤ 2 by decide)).1
  obtain ⟨a9, e9, q9⟩ := zp_this (zp_rdf (xs := []) (zp_wt.of h) hw q0 (show zp_fd 101 10 = some (11, 2, 129, 0, 0) from rfl) (show (2 : Nat) ≤ 2 by decide)).1
  obtain ⟨a10, e10, q10⟩ := zp_this (zp_rdf (xs := []) (zp_wt.of h) hw q0 (show zp_fd 101 11 = some (11, 2, 136, 0, 0) from rfl) (show (2 : Nat) ≤ 2 by decide)).1
  obtain ⟨a21, e21, q21⟩ := zp_this (zp_rdf (xs := []) (zp_wt.of h) hw q0 (show zp_fd 101 12 = some (11, 2, 56, 0, 0) from rfl) (show (2 : Nat) ≤ 2 by decide)).1
  obtain ⟨a8, e8, q8⟩ := zp_this (zp_rdf (xs := []) (zp_wt.of h) hw q0 (show zp_fd 101 16 = some (11, 2, 125, 0, 0) from rfl) (show (2 : Nat) ≤ 2 by decide)).1
  obtain ⟨a20, e20, q20⟩ := zp_this (zp_rdf (xs := []) (zp_wt.of h) hw q0 (show zp_fd 101 19 = some (11, 2, 113, 0, 0) from rfl) (show (2 : Nat) ≤ 2 by decide)).1
  obtain ⟨a30, e30, q30⟩ := zp_this (zp_rdf (xs := []) (zp_wt.of h) hw q1 (show zp_fd 98 0 = some (9, 2, 103, 0, 0) from rfl) (show (2 : Nat) ≤ 2 by decide)).1
  obtain ⟨a31, e31, q31⟩ := zp_this (zp_rdf (xs := []) (zp_wt.of h) hw q1 (show zp_fd 98 2 = some (9, 2, 104, 0, 0) from rfl) (show (2 : Nat) ≤ 2 by decide)).1
  obtain ⟨a32, e32, q32⟩ := zp_this (zp_rdf (xs := []) (zp_wt.of h) hw q1 (show zp_fd 98 4 = some (9, 2, 105, 0, 0) from rfl) (show (2 : Nat) ≤ 2 by decide)).1
  obtain ⟨a33, e33, q33⟩ := zp_this (zp_rdf (xs := []) (zp_wt.of h) hw q1 (show zp_fd 98 5 = some (9, 2, 106, 0, 0) from rfl) (show (2 : Nat) ≤ 2 by decide)).1
  obtain ⟨a34, e34, q34⟩ := zp_this (zp_rdf (xs := []) (zp_wt.of h) hw q1 (show zp_fd 98 6 = some (9, 2, 107, 0, 0) from rfl) (show (2 : Nat) ≤ 2 by decide)).1
  obtain ⟨a35, e35, q35⟩ := zp_this (zp_rdf (xs := []) (zp_wt.of h) hw q1 (show zp_fd 98 7 = some (9, 2, 108, 0, 0) from rfl) (show (2 : Nat) ≤ 2 by decide)).1
  obtain ⟨a36, e36, q36⟩ := zp_this (zp_rdf (xs := []) (zp_wt.of h) hw q1 (show zp_fd 98 8 = some (9, 2, 109, 0, 0) from rfl) (show (2 : Nat) ≤ 2 by decide)).1
  obtain ⟨a37, e37, q37⟩ := zp_this (zp_rdf (xs := []) (zp_wt.of h) hw q1 (show zp_fd 98 10 = some (9, 2, 110, 0, 0) from rfl) (show (2 : Nat) ≤ 2 by decide)).1
  obtain ⟨a38, e38, q38⟩ := zp_this (zp_rdf (xs := []) (zp_wt.of h) hw q1 (show zp_fd 98 11 = some (9, 2, 111, 0, 0) from rfl) (show (2 : Nat) ≤ 2 by decide)).1
  obtain ⟨a39, e39, q39⟩ := zp_this (zp_rdf (xs := []) (zp_wt.of h) hw q1 (show zp_fd 98 12 = some (9, 2, 112, 0, 0) from rfl) (show (2 : Nat) ≤ 2 by decide)).1
  obtain ⟨a40, e40, q40⟩ := zp_this (zp_rdf (xs := []) (zp_wt.of h) hw q1 (show zp_fd 98 13 = some (9, 2, 52, 0, 0) from rfl) (show (2 : Nat) ≤ 2 by decide)).1
  obtain ⟨a2, e2, q2⟩ := zp_this (zp_rdf (xs := []) (zp_wt.of h) hw q1 (show zp_fd 98 18 = some (9, 2, 117, 0, 0) from rfl) (show (2 : Nat) ≤ 2 by decide)).1
  obtain ⟨a62, e62, q62⟩ := zp_this (zp_rdf (xs := []) (zp_wt.of h) hw q3 (show zp_fd 133 0 = some (10, 2, 134, 0, 0) from rfl) (show (2 : Nat) ≤ 2 by decide)).1
  obtain ⟨a63, e63, q63⟩ := zp_this (zp_rdf (xs := []) (zp_wt.of h) hw q3 (show zp_fd 133 1 = some (10, 2, 135, 0, 0) from rfl) (show (2 : Nat) ≤ 2 by decide)).1
  obtain ⟨a66, e66, q66⟩ := zp_this (zp_rdf (xs := []) (zp_wt.of h) hw q4 (show zp_fd 6 0 = some (6, 2, 27, 0, 0) from rfl) (show (2 : Nat) ≤ 2 by decide)).1
  obtain ⟨a67, e67, q67⟩ := zp_this (zp_rdf (xs := []) (zp_wt.of h) hw q4 (show zp_fd 6 1 = some (6, 2, 28, 0, 0) from rfl) (show (2 : Nat) ≤ 2 by decide)).1
  obtain ⟨a68, e68, q68⟩ := zp_this (zp_rdf (xs := []) (zp_wt.of h) hw q5 (show zp_fd 99 3 = some (0, 2, 14, 0, 0) from rfl) (show (2 : Nat) ≤ 2 by decide)).1
  obtain ⟨a69, e69, q69⟩ := zp_this (zp_rdf (xs := []) (zp_wt.of h) hw q5 (show zp_fd 99 4 = some (0, 2, 15, 0, 0) from rfl) (show (2 : Nat) ≤ 2 by decide)).1
  obtain ⟨a70, e70, q70⟩ := zp_this (zp_rdf (xs := []) (zp_wt.of h) hw q5 (show zp_fd 99 5 = some (0, 2, 16, 0, 0) from rfl) (show (2 : Nat) ≤ 2 by decide)).1
  obtain ⟨a7, e7, q7⟩ := zp_this (zp_rdf (xs := []) (zp_wt.of h) hw q6 (show zp_fd 139 0 = some (1, 2, 121, 0, 0) from rfl) (show (2 : Nat) ≤ 2 by decide)).1
  obtain ⟨a71, e71, q71⟩ := zp_this (zp_rdf (xs := []) (zp_wt.of h) hw q11 (show zp_fd 94 0 = some (7, 2, 114, 0, 0) from rfl) (show (2 : Nat) ≤ 2 by decide)).1
  obtain ⟨a13, e13, q13⟩ := zp_this (zp_rdf (xs := []) (zp_wt.of h) hw q12 (show zp_fd 95 1 = some (5, 2, 8, 0, 0) from rfl) (show (2 : Nat) ≤ 2 by decide)).1
  obtain ⟨a59, e59, q59⟩ := zp_this (zp_rdf (xs := []) (zp_wt.of h) hw q9 (show zp_fd 129 0 = some (2, 2, 130, 0, 0) from rfl) (show (2 : Nat) ≤ 2 by decide)).1
  obtain ⟨a60, e60, q60⟩ := zp_this (zp_rdf (xs := []) (zp_wt.of h) hw q9 (show zp_fd 129 1 = some (2, 2, 131, 0, 0) from rfl) (show (2 : Nat) ≤ 2 by decide)).1
  obtain ⟨a61, e61, q61⟩ := zp_this (zp_rdf (xs := []) (zp_wt.of h) hw q9 (show zp_fd 129 2 = some (2, 2, 132, 0, 0) from rfl) (show (2 : Nat) ≤ 2 by decide)).1
  obtain ⟨a64, e64, q64⟩ := zp_this (zp_rdf (xs := []) (zp_wt.of h) hw q10 (show zp_fd 136 0 = some (10, 2, 137, 0, 0) from rfl) (show (2 : Nat) ≤ 2 by decide)).1
  obtain ⟨a65, e65, q65⟩ := zp_this (zp_rdf (xs := []) (zp_wt.of h) hw q10 (show zp_fd 136 1 = some (10, 2, 138, 0, 0) from rfl) (show (2 : Nat) ≤ 2 by decide)).1
  obtain ⟨a56, e56, q56⟩ := zp_this (zp_rdf (xs := []) (zp_wt.of h) hw q8 (show zp_fd 125 0 = some (2, 2, 126, 0, 0) from rfl) (show (2 : Nat) ≤ 2 by decide)).1
  obtain ⟨a57, e57, q57⟩ := zp_this (zp_rdf (xs := []) (zp_wt.of h) hw q8 (show zp_fd 125 1 = some (2, 2, 127, 0, 0) from rfl) (show (2 : Nat) ≤ 2 by decide)).1
  obtain ⟨a58, e58, q58⟩ := zp_this (zp_rdf (xs := []) (zp_wt.of h) hw q8 (show zp_fd 125 2 = some (2, 2, 128, 0, 0) from rfl) (show (2 : Nat) ≤ 2 by decide)).1
  obtain ⟨a50, e50, q50⟩ := zp_this (zp_rdf (xs := []) (zp_wt.of h) hw q2 (show zp_fd 117 0 = some (2, 2, 118, 0, 0) from rfl) (show (2 : Nat) ≤ 2 by decide)).1
  obtain ⟨a51, e51, q51⟩ := zp_this (zp_rdf (xs := []) (zp_wt.of h) hw q2 (show zp_fd 117 1 = some (2, 2, 119, 0, 0) from rfl) (show (2 : Nat) ≤ 2 by decide)).1
  obtain ⟨a52, e52, q52⟩ := zp_this (zp_rdf (xs := []) (zp_wt.of h) hw q2 (show zp_fd 117 2 = some (2, 2, 120, 0, 0) from rfl) (show (2 : Nat) ≤ 2 by decide)).1
  obtain ⟨a53, e53, q53⟩ := zp_this (zp_rdf (xs := []) (zp_wt.of h) hw q7 (show zp_fd 121 0 = some (2, 2, 122, 0, 0) from rfl) (show (2 : Nat) ≤ 2 by decide)).1
  obtain ⟨a54, e54, q54⟩ := zp_this (zp_rdf (xs := []) (zp_wt.of h) hw q7 (show zp_fd 121 1 = some (2, 2, 123, 0, 0) from rfl) (show (2 : Nat) ≤ 2 by decide)).1
  obtain ⟨a55, e55, q55⟩ := zp_this (zp_rdf (xs := []) (zp_wt.of h) hw q7 (show zp_fd 121 2 = some (2, 2, 124, 0, 0) from rfl) (show (2 : Nat) ≤ 2 by decide)).1
  refine ⟨fun o => if o = 0 then xa else if o = 1 then a1 else if o = 2 then a2 else if o = 3 then a3 else if o = 4 then a4 else if o = 5 then a5 else if o = 6 then a6 else if o = 7 then a7 else if o = 8 then a8 else if o = 9 then a9 else if o = 10 then a10 else if o = 11 then a11 else if o = 12 then a12 else if o = 13 then a13 else if o = 20 then a20 else if o = 21 then a21 else if o = 22 then a22 else if o = 30 then a30 else if o = 31 then a31 else if o = 32 then a32 else if o = 33 then a33 else if o = 34 then a34 else if o = 35 then a35 else if o = 36 then a36 else if o = 37 then a37 else if o = 38 then a38 else if o = 39 then a39 else if o = 40 then a40 else if o = 50 then a50 else if o = 51 then a51 else if o = 52 then a52 else if o = 53 then a53 else if o = 54 then a54 else if o = 55 then a55 else if o = 56 then a56 else if o = 57 then a57 else if o = 58 then a58 else if o = 59 then a59 else if o = 60 then a60 else if o = 61 then a61 else if o = 62 then a62 else if o = 63 then a63 else if o = 64 then a64 else if o = 65 then a65 else if o = 66 then a66 else if o = 67 then a67 else if o = 68 then a68 else if o = 69 then a69 else if o = 70 then a70 else if o = 71 then a71 else 0, rfl, ?_, ?_⟩
  · intro q hq
    simp only [zBtc, List.mem_cons, List.not_mem_nil, or_false] at hq
    rcases hq with rfl | rfl | rfl | rfl | rfl | rfl | rfl | rfl | rfl | rfl | rfl | rfl | rfl | rfl | rfl | rfl | rfl | rfl | rfl | rfl | rfl | rfl | rfl | rfl | rfl | rfl | rfl | rfl | rfl | rfl | rfl | rfl | rfl | rfl | rfl | rfl | rfl | rfl | rfl | rfl | rfl | rfl | rfl | rfl | rfl | rfl | rfl | rfl | rfl | rfl
    · exact q0
    · exact q1
    · exact q2
    · exact q3
    · exact q4
    · exact q5
    · exact q6
    · exact q7
    · exact q8
    · exact q9
    · exact q10
    · exact q11
    · exact q12
    · exact q13
    · exact q20
    · exact q21
    · exact q22
    · exact q30
    · exact q31
    · exact q32
    · exact q33
    · exact q34
    · exact q35
    · exact q36
    · exact q37
    · exact q38
    · exact q39
    · exact q40
    · exact q50
    · exact q51
    · exact q52
    · exact q53
    · exact q54
    · exact q55
    · exact q56
    · exact q57
    · exact q58
    · exact q59
    · exact q60
    · exact q61
    · exact q62
    · exact q63
    · exact q64
    · exact q65
    · exact q66
    · exact q67
    · exact q68
    · exact q69
    · exact q70
    · exact q71
  · intro r hr
    simp only [zFc, List.mem_cons, List.not_mem_nil, or_false] at hr
    rcases hr with rfl | rfl | rfl | rfl | rfl | rfl | rfl | rfl | rfl | rfl | rfl | rfl | rfl | rfl | rfl | rfl | rfl | rfl | rfl | rfl | rfl | rfl | rfl | rfl | rfl | rfl | rfl | rfl | rfl | rfl | rfl | rfl | rfl | rfl | rfl | rfl | rfl | rfl | rfl | rfl | rfl | rfl | rfl | rfl | rfl | rfl | rfl | rfl | rfl | rfl | rfl
    · exact e1
    · exact e22
    · exact e3
    · exact e4
    · exact e5
    · exact e6
    · exact e11
    · exact e12
    · exact e9
    · exact e10
    · exact e21
    · exact e8
    · exact e20
    · exact e30
    · exact e31
    · exact e32
    · exact e33
    · exact e34
    · exact e35
    · exact e36
    · exact e37
    · exact e38
    · exact e39
    · exact e40
    · exact e2
    · exact e50
    · exact e51
    · exact e52
    · exact e53
    · exact e54
    · exact e55
    · exact e56
    · exact e57
    · exact e58
    · exact e59
    · exact e60
    · exact e61
    · exact e62
    · exact e63
    · exact e64
    · exact e65
    · exact e66
    · exact e67
    · exact hru a5 a4 e5 e4
    · exact e68
    · exact e69
    · exact e70
    · exact e7
    · exact e71
    · exact htp a12 a11 e12 e11
    · exact e13
/-- the birth types of the cells -/
noncomputable def zBtr : List (Nat × Nat) := [(0, 102), (2, 115), (3, 100), (4, 60), (5, 97), (6, 62), (7, 63), (9, 64), (10, 65), (12, 116), (22, 67), (24, 68), (25, 69), (27, 70), (28, 71), (31, 72), (32, 73), (33, 74), (35, 75), (36, 76), (37, 77), (41, 78), (42, 79), (43, 80), (44, 81), (45, 82), (46, 83), (48, 84), (50, 85), (51, 86), (52, 87), (54, 88), (55, 89), (56, 90), (62, 91)]
theorem zBtr_m : zBtr.map (fun q => (q.1, zl_mt q.2)) = zYr := by decide +kernel
theorem zBtr_i : ∀ q ∈ zBtr, ∀ r ∈ zBtr, q.2 = r.2 → q.1 = r.1 := by decide +kernel
set_option maxHeartbeats 4000000 in
theorem zl_br {w : zk_W} {s : State} {P : Nat → Option Nat} {F : Nat → va_E} {H : Heap} (hw : w.1 = zt_types) (h : zk_wt w s P F H) {ma : Nat} (q0 : P ma = some 102) : ∃ A : Nat → Nat, A 0 = ma ∧ (∀ q ∈ zBtr, P (A q.1) = some q.2) ∧ ∀ r ∈ zFr, zp_n F (A r.1) r.2.1 = (A r.2.2 : Int) := by
  obtain ⟨a2, e2, q2⟩ := zp_this (zp_rdf (xs := []) (zp_wt.of h) hw q0 (show zp_fd 102 2 = some (12, 2, 115, 0, 0) from rfl) (show (2 : Nat) ≤ 2 by decide)).1
  obtain ⟨a3, e3, q3⟩ := zp_this (zp_rdf (xs := []) (zp_wt.of h) hw q0 (show zp_fd 102 3 = some (12, 2, 100, 0, 0) from rfl) (show (2 : Nat) ≤ 2 by decide)).1
  obtain ⟨a4, e4, q4⟩ := zp_this (zp_rdf (xs := []) (zp_wt.of h) hw q0 (show zp_fd 102 4 = some (12, 2, 60, 0, 0) from rfl) (show (2 : Nat) ≤ 2 by decide)).1
  obtain ⟨a5, e5, q5⟩ := zp_this (zp_rdf (xs := []) (zp_wt.of h) hw q0 (show zp_fd 102 5 = some (12, 2, 97, 0, 0) from rfl) (show (2 : Nat) ≤ 2 by decide)).1
  obtain ⟨a6, e6, q6⟩ := zp_this (zp_rdf (xs := []) (zp_wt.of h) hw q0 (show zp_fd 102 6 = some (12, 2, 62, 0, 0) from rfl) (show (2 : Nat) ≤ 2 by decide)).1
  obtain ⟨a7, e7, q7⟩ := zp_this (zp_rdf (xs := []) (zp_wt.of h) hw q0 (show zp_fd 102 7 = some (12, 2, 63, 0, 0) from rfl) (show (2 : Nat) ≤ 2 by decide)).1
  obtain ⟨a9, e9, q9⟩ := zp_this (zp_rdf (xs := []) (zp_wt.of h) hw q0 (show zp_fd 102 9 = some (12, 2, 64, 0, 0) from rfl) (show (2 : Nat) ≤ 2 by decide)).1
  obtain ⟨a10, e10, q10⟩ := zp_this (zp_rdf (xs := []) (zp_wt.of h) hw q0 (show zp_fd 102 10 = some (12, 2, 65, 0, 0) from rfl) (show (2 : Nat) ≤ 2 by decide)).1
  obtain ⟨a12, e12, q12⟩ := zp_this (zp_rdf (xs := []) (zp_wt.of h) hw q0 (show zp_fd 102 12 = some (12, 2, 116, 0, 0) from rfl) (show (2 : Nat) ≤ 2 by decide)).1
  obtain ⟨a22, e22, q22⟩ := zp_this (zp_rdf (xs := []) (zp_wt.of h) hw q0 (show zp_fd 102 22 = some (12, 2, 67, 0, 0) from rfl) (show (2 : Nat) ≤ 2 by decide)).1
  obtain ⟨a24, e24, q24⟩ := zp_this (zp_rdf (xs := []) (zp_wt.of h) hw q0 (show zp_fd 102 24 = some (12, 2, 68, 0, 0) from rfl) (show (2 : Nat) ≤ 2 by decide)).1
  obtain ⟨a25, e25, q25⟩ := zp_this (zp_rdf (xs := []) (zp_wt.of h) hw q0 (show zp_fd 102 25 = some (12, 2, 69, 0, 0) from rfl) (show (2 : Nat) ≤ 2 by decide)).1
  obtain ⟨a27, e27, q27⟩ := zp_this (zp_rdf (xs := []) (zp_wt.of h) hw q0 (show zp_fd 102 27 = some (12, 2, 70, 0, 0) from rfl) (show (2 : Nat) ≤ 2 by decide)).1
  obtain ⟨a28, e28, q28⟩ := zp_this (zp_rdf (xs := []) (zp_wt.of h) hw q0 (show zp_fd 102 28 = some (12, 2, 71, 0, 0) from rfl) (show (2 : Nat) ≤ 2 by decide)).1
  obtain ⟨a31, e31, q31⟩ := zp_this (zp_rdf (xs := []) (zp_wt.of h) hw q0 (show zp_fd 102 31 = some (12, 2, 72, 0, 0) from rfl) (show (2 : Nat) ≤ 2 by decide)).1
  obtain ⟨a32, e32, q32⟩ := zp_this (zp_rdf (xs := []) (zp_wt.of h) hw q0 (show zp_fd 102 32 = some (12, 2, 73, 0, 0) from rfl) (show (2 : Nat) ≤ 2 by decide)).1
  obtain ⟨a33, e33, q33⟩ := zp_this (zp_rdf (xs := []) (zp_wt.of h) hw q0 (show zp_fd 102 33 = some (12, 2, 74, 0, 0) from rfl) (show (2 : Nat) ≤ 2 by decide)).1
  obtain ⟨a35, e35, q35⟩ := zp_this (zp_rdf (xs := []) (zp_wt.of h) hw q0 (show zp_fd 102 35 = some (12, 2, 75, 0, 0) from rfl) (show (2 : Nat) ≤ 2 by decide)).1
  obtain ⟨a36, e36, q36⟩ := zp_this (zp_rdf (xs := []) (zp_wt.of h) hw q0 (show zp_fd 102 36 = some (12, 2, 76, 0, 0) from rfl) (show (2 : Nat) ≤ 2 by decide)).1
  obtain ⟨a37, e37, q37⟩ := zp_this (zp_rdf (xs := []) (zp_wt.of h) hw q0 (show zp_fd 102 37 = some (12, 2, 77, 0, 0) from rfl) (show (2 : Nat) ≤ 2 by decide)).1
  obtain ⟨a41, e41, q41⟩ := zp_this (zp_rdf (xs := []) (zp_wt.of h) hw q0 (show zp_fd 102 41 = some (12, 2, 78, 0, 0) from rfl) (show (2 : Nat) ≤ 2 by decide)).1
  obtain ⟨a42, e42, q42⟩ := zp_this (zp_rdf (xs := []) (zp_wt.of h) hw q0 (show zp_fd 102 42 = some (12, 2, 79, 0, 0) from rfl) (show (2 : Nat) ≤ 2 by decide)).1
  obtain ⟨a43, e43, q43⟩ := zp_this (zp_rdf (xs := []) (zp_wt.of h) hw q0 (show zp_fd 102 43 = some (12, 2, 80, 0, 0) from rfl) (show (2 : Nat) ≤ 2 by decide)).1
  obtain ⟨a44, e44, q44⟩ := zp_this (zp_rdf (xs := []) (zp_wt.of h) hw q0 (show zp_fd 102 44 = some (12, 2, 81, 0, 0) from rfl) (show (2 : Nat) ≤ 2 by decide)).1
  obtain ⟨a45, e45, q45⟩ := zp_this (zp_rdf (xs := []) (zp_wt.of h) hw q0 (show zp_fd 102 45 = some (12, 2, 82, 0, 0) from rfl) (show (2 : Nat) ≤ 2 by decide)).1
  obtain ⟨a46, e46, q46⟩ := zp_this (zp_rdf (xs := []) (zp_wt.of h) hw q0 (show zp_fd 102 46 = some (12, 2, 83, 0, 0) from rfl) (show (2 : Nat) ≤ 2 by decide)).1
  obtain ⟨a48, e48, q48⟩ := zp_this (zp_rdf (xs := []) (zp_wt.of h) hw q0 (show zp_fd 102 48 = some (12, 2, 84, 0, 0) from rfl) (show (2 : Nat) ≤ 2 by decide)).1
  obtain ⟨a50, e50, q50⟩ := zp_this (zp_rdf (xs := []) (zp_wt.of h) hw q0 (show zp_fd 102 50 = some (12, 2, 85, 0, 0) from rfl) (show (2 : Nat) ≤ 2 by decide)).1
  obtain ⟨a51, e51, q51⟩ := zp_this (zp_rdf (xs := []) (zp_wt.of h) hw q0 (show zp_fd 102 51 = some (12, 2, 86, 0, 0) from rfl) (show (2 : Nat) ≤ 2 by decide)).1
  obtain ⟨a52, e52, q52⟩ := zp_this (zp_rdf (xs := []) (zp_wt.of h) hw q0 (show zp_fd 102 52 = some (12, 2, 87, 0, 0) from rfl) (show (2 : Nat) ≤ 2 by decide)).1
  obtain ⟨a54, e54, q54⟩ := zp_this (zp_rdf (xs := []) (zp_wt.of h) hw q0 (show zp_fd 102 54 = some (12, 2, 88, 0, 0) from rfl) (show (2 : Nat) ≤ 2 by decide)).1
  obtain ⟨a55, e55, q55⟩ := zp_this (zp_rdf (xs := []) (zp_wt.of h) hw q0 (show zp_fd 102 55 = some (12, 2, 89, 0, 0) from rfl) (show (2 : Nat) ≤ 2 by decide)).1
  obtain ⟨a56, e56, q56⟩ := zp_this (zp_rdf (xs := []) (zp_wt.of h) hw q0 (show zp_fd 102 56 = some (12, 2, 90, 0, 0) from rfl) (show (2 : Nat) ≤ 2 by decide)).1
  obtain ⟨a62, e62, q62⟩ := zp_this (zp_rdf (xs := []) (zp_wt.of h) hw q0 (show zp_fd 102 62 = some (12, 2, 91, 0, 0) from rfl) (show (2 : Nat) ≤ 2 by decide)).1
  refine ⟨fun o => if o = 0 then ma else if o = 2 then a2 else if o = 3 then a3 else if o = 4 then a4 else if o = 5 then a5 else if o = 6 then a6 else if o = 7 then a7 else if o = 9 then a9 else if o = 10 then a10 else if o = 12 then a12 else if o = 22 then a22 else if o = 24 then a24 else if o = 25 then a25 else if o = 27 then a27 else if o = 28 then a28 else if o = 31 then a31 else if o = 32 then a32 else if o = 33 then a33 else if o = 35 then a35 else if o = 36 then a36 else if o = 37 then a37 else if o = 41 then a41 else if o = 42 then a42 else if o = 43 then a43 else if o = 44 then a44 else if o = 45 then a45 else if o = 46 then a46 else if o = 48 then a48 else if o = 50 then a50 else if o = 51 then a51 else if o = 52 then a52 else if o = 54 then a54 else if o = 55 then a55 else if o = 56 then a56 else if o = 62 then a62 else 0, rfl, ?_, ?_⟩
  · intro q hq
    simp only [zBtr, List.mem_cons, List.not_mem_nil, or_false] at hq
    rcases hq with rfl | rfl | rfl | rfl | rfl | rfl | rfl | rfl | rfl | rfl | rfl | rfl | rfl | rfl | rfl | rfl | rfl | rfl | rfl | rfl | rfl | rfl | rfl | rfl | rfl | rfl | rfl | rfl | rfl | rfl | rfl | rfl | rfl | rfl | rfl
    · exact q0
    · exact q2
    · exact q3
    · exact q4
    · exact q5
    · exact q6
    · exact q7
    · exact q9
    · exact q10
    · exact q12
    · exact q22
    · exact q24
    · exact q25
    · exact q27
    · exact q28
    · exact q31
    · exact q32
    · exact q33
    · exact q35
    · exact q36
    · exact q37
    · exact q41
    · exact q42
    · exact q43
    · exact q44
    · exact q45
    · exact q46
    · exact q48
    · exact q50
    · exact q51
    · exact q52
    · exact q54
    · exact q55
    · exact q56
    · exact q62
  · intro r hr
    simp only [zFr, List.mem_cons, List.not_mem_nil, or_false] at hr
    rcases hr with rfl | rfl | rfl | rfl | rfl | rfl | rfl | rfl | rfl | rfl | rfl | rfl | rfl | rfl | rfl | rfl | rfl | rfl | rfl | rfl | rfl | rfl | rfl | rfl | rfl | rfl | rfl | rfl | rfl | rfl | rfl | rfl | rfl | rfl
    · exact e2
    · exact e3
    · exact e4
    · exact e5
    · exact e6
    · exact e7
    · exact e9
    · exact e10
    · exact e12
    · exact e22
    · exact e24
    · exact e25
    · exact e27
    · exact e28
    · exact e31
    · exact e32
    · exact e33
    · exact e35
    · exact e36
    · exact e37
    · exact e41
    · exact e42
    · exact e43
    · exact e44
    · exact e45
    · exact e46
    · exact e48
    · exact e50
    · exact e51
    · exact e52
    · exact e54
    · exact e55
    · exact e56
    · exact e62
/-- as cells, behind the retype -/
theorem zl_mc {P : Nat → Option Nat} {F : Nat → va_E} {A : Nat → Nat} (hA : ∀ q ∈ zBtc, P (A q.1) = some q.2) (hF : ∀ r ∈ zFc, zp_n F (A r.1) r.2.1 = (A r.2.2 : Int)) (h9 : zFc.all (fun r => decide (r.2.1 < 1000)) = true) : zM A zYc zFc (fun o k => zp_n F (A o) k) (zl_Pm P) (zp_n F) := by
  refine ⟨fun q hq => ⟨?_, fun k => rfl⟩, hF, fun q hq r hr e => ?_, fun r hr => of_decide_eq_true (List.all_eq_true.mp h9 r hr)⟩
  · rw [← zBtc_m] at hq
    obtain ⟨b, hb, rfl⟩ := List.mem_map.mp hq
    exact zl_Pme (hA b hb)
  · rw [← zBtc_m] at hq hr
    obtain ⟨b, hb, rfl⟩ := List.mem_map.mp hq
    obtain ⟨c, hc, rfl⟩ := List.mem_map.mp hr
    have h1 := hA b hb
    have h2 := hA c hc
    dsimp only at e ⊢
    rw [e, h2] at h1
    exact zBtc_i b hb c hc (Option.some.inj h1).symm
/-- as cells, behind the retype -/
theorem zl_mr {P : Nat → Option Nat} {F : Nat → va_E} {A : Nat → Nat} (hA : ∀ q ∈ zBtr, P (A q.1) = some q.2) (hF : ∀ r ∈ zFr, zp_n F (A r.1) r.2.1 = (A r.2.2 : Int)) (h9 : zFr.all (fun r => decide (r.2.1 < 1000)) = true) : zM A zYr zFr (fun o k => zp_n F (A o) k) (zl_Pm P) (zp_n F) := by
  refine ⟨fun q hq => ⟨?_, fun k => rfl⟩, hF, fun q hq r hr e => ?_, fun r hr => of_decide_eq_true (List.all_eq_true.mp h9 r hr)⟩
  · rw [← zBtr_m] at hq
    obtain ⟨b, hb, rfl⟩ := List.mem_map.mp hq
    exact zl_Pme (hA b hb)
  · rw [← zBtr_m] at hq hr
    obtain ⟨b, hb, rfl⟩ := List.mem_map.mp hq
    obtain ⟨c, hc, rfl⟩ := List.mem_map.mp hr
    have h1 := hA b hb
    have h2 := hA c hc
    dsimp only at e ⊢
    rw [e, h2] at h1
    exact zBtr_i b hb c hc (Option.some.inj h1).symm
/-- an array of noughts -/
theorem zl_z0 {w : zk_W} {s : State} {P : Nat → Option Nat} {F : Nat → va_E} {H : Heap} {t n : Nat} (hT : w.1[t]? = some ((1, n, n, [(0, 0, 0, 0)]) : zk_T)) (h : zk_wt w s P F H) {a : Nat} (hp : P a = some t) : ∀ j : Nat, zp_n F a (2000 + j) = 0 := fun j => by
  obtain ⟨cA, m, f, o1, o2, o3, o4, o5, o6⟩ := zk_iarr h hp hT (Or.inl rfl)
  have o3 : m ≤ n := o3
  have o2 : n ≤ m := o2
  by_cases hj : j < n
  · obtain ⟨z, z1, z2⟩ := o5 j (by omega)
    have z1 : zk_ok P ((0, 0, 0, 0) : zk_F) z := z1
    have hz := zp_int z1
    unfold zp_n
    rw [o1, zk_rd_i (by omega), z2]
    exact (zp_num_mk z1 (Nat.zero_le 2)).trans (by omega)
  · have hz : zk_rd (F a) (2000 + j) = none := by
      rw [o1]
      show (if 2000 + j = 1000 then some (Value.int (Int32.ofNat m)) else if 2000 ≤ 2000 + j ∧ 2000 + j - 2000 < m then zk_av (m, Sum.inl f) (2000 + j - 2000) else none) = none
      rw [if_neg (by omega), if_neg (by omega)]
    unfold zp_n
    rw [hz]
