/-! THE FIRST HEAP -/
def mv_P (i : Nat) : Nat → Int32 := if i = 1 then (fun _ => 1) else if i = 2 then kz_P else if i = 5 then kz_B else if i = 30 then kz_S else kz_0
def mv_M (c : Nat) : Nat → Int32 := if c = 0 then kz_0 else if c < 63 then mv_P ((c - 1) % 31) else if c < 65 then kz_0 else if c < 313 then mv_P ((c - 65) % 31) else if c = 313 then (fun k => if k = 2 then -1 else 0) else if c = 317 then (fun k => if k = 15 then -1 else 0) else if c = 318 then kt_A iniS 308 else if c = 319 then iniS else kz_0
def mv_L (_ : Nat) : Nat → Int64 := fun _ => 0
abbrev mv_f (c : Nat) : a_E := m_cell (mv_M c) (mv_L c) 0 c
theorem mv_pl (p : Nat) : (List.range 31).map (fun t => m_pl (mv_P t) (fun _ => 0) (p + t) t) = kb_P p := rfl
theorem mv_add (f : Nat → a_E) (x y : Nat) : (List.range (x + y)).map f = (List.range x).map f ++ (List.range y).map (fun t => f (x + t)) := by
  rw [List.range_add, List.map_append, List.map_map]
  rfl
theorem mv_at {p t : Nat} (h : p = 1 ∨ p = 32) (ht : t < 31) : mv_f (p + t) = m_pl (mv_P t) (fun _ => 0) (p + t) t := by
  have e1 : mv_M (p + t) = mv_P t := by
    unfold mv_M
    rw [if_neg (by omega), if_pos (by omega), show (p + t - 1) % 31 = t by omega]
  unfold mv_f m_cell
  rw [if_neg (by omega), if_pos (by omega), e1, show (p + t - 1) % 31 = t by omega]
  rfl
theorem mv_at2 {i t : Nat} (h : i < 8) (ht : t < 31) : mv_f (65 + (31 * i + t)) = m_pl (mv_P t) (fun _ => 0) (65 + 31 * i + t) t := by
  have e1 : mv_M (65 + (31 * i + t)) = mv_P t := by
    unfold mv_M
    rw [if_neg (by omega), if_neg (by omega), if_neg (by omega), if_pos (by omega), show (65 + (31 * i + t) - 65) % 31 = t by omega]
  unfold mv_f m_cell
  rw [if_neg (by omega), if_neg (by omega), if_neg (by omega), if_neg (by omega), if_pos (by omega), e1, show (65 + (31 * i + t) - 65) % 31 = t by omega, show 65 + (31 * i + t) = 65 + 31 * i + t by omega]
  rfl
theorem mv_R : ∀ i, i ≤ 8 → (List.range (31 * i)).map (fun t => mv_f (65 + t)) = kb_R 65 i := by
  intro i
  induction i with
  | zero => intro _; rfl
  | succ i ih =>
    intro hi
    rw [show 31 * (i + 1) = 31 * i + 31 by omega, mv_add, ih (by omega)]
    show _ = kb_R 65 i ++ kb_P (65 + 31 * i)
    rw [← mv_pl]
    exact congrArg _ (List.map_congr_left (fun t ht => mv_at2 (by omega) (List.mem_range.mp ht)))
theorem mv_Q {p : Nat} (h : p = 1 ∨ p = 32) : (List.range 31).map (fun t => mv_f (p + t)) = kb_P p := by
  rw [← mv_pl]
  exact List.map_congr_left (fun t ht => mv_at h (List.mem_range.mp ht))
theorem mv_T : (List.range 14).map (fun t => mv_f (313 + t)) = kb_X 313 ++ (kb_N 315 ++ (kb_W 317 ++ ([.inl (2, 1, .inr (.inl (fun _ => 0)))] ++ [.inl (3, 1, .inr (.inr (.inr (.inl (fun _ => 0)))))]))) := rfl
theorem mv_cut {f : Nat → a_E} {x y : Nat} {l1 l2 : List a_E} (h1 : (List.range x).map f = l1) (h2 : (List.range y).map (fun t => f (x + t)) = l2) : (List.range (x + y)).map f = l1 ++ l2 := by
  rw [mv_add, h1, h2]
theorem mv_all : hp mv_M mv_L 0 = ((kb_9 0 ++ kb_W 317) ++ [.inl (2, 1, .inr (.inl (fun _ => 0)))]) ++ [.inl (3, 1, .inr (.inr (.inr (.inl (fun _ => 0)))))] := by
  have e0 : (List.range 1).map mv_f = [.inr (9, [.ref 1, .ref 32, .ref 63, .ref 313, .ref 315])] := rfl
  have e1 : (List.range 31).map (fun t => mv_f (1 + t)) = kb_P 1 := mv_Q (Or.inl rfl)
  have e2 : (List.range 31).map (fun t => mv_f (1 + (31 + t))) = kb_P 32 := (List.map_congr_left (fun t _ => by rw [show 1 + (31 + t) = 32 + t by omega])).trans (mv_Q (Or.inr rfl))
  have e3 : (List.range 2).map (fun t => mv_f (1 + (31 + (31 + t)))) = [.inr (0, [.int 0, .int 0, .ref 64]), .inl (4, 8, .inr (.inr (.inr (.inr (kf_H 65 8)))))] := rfl
  have e4 : (List.range (31 * 8)).map (fun t => mv_f (1 + (31 + (31 + (2 + t))))) = kb_R 65 8 := (List.map_congr_left (fun t _ => by rw [show 1 + (31 + (31 + (2 + t))) = 65 + t by omega])).trans (mv_R 8 (by omega))
  have e5 : (List.range 14).map (fun t => mv_f (1 + (31 + (31 + (2 + (31 * 8 + t)))))) = kb_X 313 ++ (kb_N 315 ++ (kb_W 317 ++ ([.inl (2, 1, .inr (.inl (fun _ => 0)))] ++ [.inl (3, 1, .inr (.inr (.inr (.inl (fun _ => 0)))))]))) := (List.map_congr_left (fun t _ => by rw [show 1 + (31 + (31 + (2 + (31 * 8 + t)))) = 313 + t by omega])).trans mv_T
  refine (show hp mv_M mv_L 0 = (List.range (1 + (31 + (31 + (2 + (31 * 8 + 14)))))).map mv_f from rfl).trans ((mv_cut e0 (mv_cut e1 (mv_cut e2 (mv_cut e3 (mv_cut e4 e5))))).trans ?_)
  show _ = ((.inr (9, [.ref 1, .ref 32, .ref 63, .ref 313, .ref 315]) :: (((((([] : List a_E) ++ kb_P 1) ++ kb_P 32) ++ (.inr (0, [.int 0, .int 0, .ref 64]) :: .inl (4, 8, .inr (.inr (.inr (.inr (kf_H 65 8))))) :: kb_R 65 8)) ++ kb_X 313) ++ kb_N 315)) ++ kb_W 317 ++ _) ++ _
  simp only [List.append_assoc, List.nil_append, List.cons_append]
theorem mv_ini : RE iniS (mv_M 318) := fun i hi => if_pos hi
theorem mv_qp : QP mv_M 1 iniS := by
  have u1 : nu iniS = 1 := rfl
  refine ⟨⟨rfl, fun k hk => ?_⟩, fun k hk => ?_, ⟨rfl, fun k hk => ?_⟩, ⟨rfl, fun k hk => ?_⟩, ⟨rfl, fun k hk => ?_⟩, ⟨rfl, rfl, rfl, rfl, rfl, rfl⟩⟩
  · obtain rfl : k = 0 := by omega
    exact ⟨rfl, rfl, rfl⟩
  · obtain rfl : k = 0 := by omega
    rfl
  · have : nl iniS = 0 := rfl
    omega
  · have : nm iniS = 0 := rfl
    omega
  · have : nj iniS = 0 := rfl
    omega
theorem mv_J : J mv_M [] := by
  refine ⟨ok_re mv_ini ⟨ini_wf.1, ini_wf.2.1⟩, fun b hb => absurd hb List.not_mem_nil, ⟨qp_re mv_ini ini_wf.1 mv_qp, Nat.zero_le _, rfl, 0, Nat.zero_lt_succ _, rfl, fun r b hb => ?_⟩, ⟨Nat.zero_le _, rfl, fun r b hb => ?_⟩, ⟨0, Nat.zero_le _, rfl, rfl, fun k hk => absurd hk (Nat.not_lt_zero k), rfl⟩, ⟨[], Nat.zero_le _, ⟨rfl, fun k c hk => ?_⟩, ⟨rfl, fun k c hk => ?_⟩⟩⟩
  · rw [List.getElem?_nil] at hb; cases hb
  · rw [List.getElem?_nil] at hb; cases hb
  · rw [List.getElem?_nil] at hk; cases hk
  · rw [List.getElem?_nil] at hk; cases hk
