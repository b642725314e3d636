/-! THE REFERENCE, 39: a descriptor, plainly, from its beginning on. -/
section NC
variable {X N : Nat → Prop} {E : Nat → Value} {d m f n p dp c us nd k e j cnt hb ub nb : Nat} {h : gm_H} {t t' : gr_t} {K : gs_K} {s s' s'' : gs_S} {rc : gs_M Int32} {P : gr_t → Prop} {l : gs_L} {up : gs_M (List gs_L)}
/-- what stands behind a descriptor's tag -/
def gs_dT (K : gs_K) (rc : gs_M Int32) (up : gs_M (List gs_L)) : gs_M (List gs_L) := gs_b (gs_utf K) fun a => gs_b gs_g fun s => gs_b (gs_nxt K 8) fun id => gs_b (gs_addE (-1)) fun e => gs_b (gs_flg K id) fun fl => gs_b (gs_strm K rc fl) fun fs =>
      gs_b (gs_rest K rc 701) fun _ => gs_b up fun L => gs_b (gs_mch K (a, gs_pl s - a, id, fl, fs, gs_find K a (gs_pl s - a))) fun _ =>
      gs_b (gs_setD e ((a, gs_pl s - a, id, fl, fs, gs_find K a (gs_pl s - a)) :: L)) fun _ => gs_r ((a, gs_pl s - a, id, fl, fs, gs_find K a (gs_pl s - a)) :: L)
/-- behind its beginning -/
def gs_dB (K : gs_K) (rc : gs_M Int32) (up : gs_M (List gs_L)) (e : Nat) (q : Nat × Nat × Int64 × Int32 × Nat) : gs_M (List gs_L) := gs_b (gs_flds K rc q.2.2.2.2 []) fun fs => if q.2.2.2.1 &&& 16 ≠ 0 ∧ 0 < q.2.2.2.2 then gs_x (-5) else
      gs_b (gs_rest K rc 701) fun _ => gs_b up fun L => gs_b (gs_mch K (q.1, q.2.1, q.2.2.1, q.2.2.2.1, fs, gs_find K q.1 q.2.1)) fun _ =>
      gs_b (gs_setD e ((q.1, q.2.1, q.2.2.1, q.2.2.2.1, fs, gs_find K q.1 q.2.1) :: L)) fun _ => gs_r ((q.1, q.2.1, q.2.2.1, q.2.2.2.1, fs, gs_find K q.1 q.2.1) :: L)
theorem gs_bb {α β γ : Type} {a : gs_M α} {f : α → gs_M β} {g : β → gs_M γ} : gs_b (gs_b a f) g s = gs_b a (fun x => gs_b (f x) g) s := by
  unfold gs_b
  cases a s <;> rfl
theorem gs_hd_dT (hp : gs_pl s ≤ gs_n K) (hn7 : gs_n K ≤ 700) (hs : (gs_hs s).length < 234) : (∃ x, gs_hd K s = .error x ∧ gs_dT K rc up s = .error x) ∨ ∃ q, gs_hd K s = .ok (q, gs_p (q.1 + q.2.1 + 11) s) ∧ q.1 + q.2.1 + 11 ≤ gs_n K ∧ gs_pl s + 2 ≤ q.1 + q.2.1 ∧ q.2.2.2.2 ≤ 8 ∧ gs_dT K rc up s = gs_dB K rc up (gs_hs s).length q (q.1 + q.2.1 + 11, gs_hp s, gs_hs s ++ [(-1, [])], gs_f1 s) := by
  unfold gs_hd gs_dT
  cases eu : gs_utf K s with
  | error x => exact Or.inl ⟨x, gs_b_er eu, gs_b_er eu⟩
  | ok w =>
    obtain ⟨u1, u2, u3, u4⟩ := gs_utf_ok (a := w.1) (s1 := w.2) eu hp
    rw [gs_b_ok (a := w.1) (s1 := w.2) eu, gs_b_ok (a := w.1) (s1 := w.2) eu, gs_b_ok (m := gs_g) (a := w.2) (s1 := w.2) rfl, gs_b_ok (m := gs_g) (a := w.2) (s1 := w.2) rfl]
    have wh : gs_hp w.2 = gs_hp s ∧ gs_hs w.2 = gs_hs s ∧ gs_f1 w.2 = gs_f1 s := by rw [u4]; exact ⟨rfl, rfl, rfl⟩
    rcases Nat.lt_or_ge (gs_n K) (gs_pl w.2 + 8) with z | z
    · have ex : gs_nxt K 8 w.2 = .error (-3) := gs_nxt_n u3 (by omega)
      exact Or.inl ⟨_, gs_b_er ex, gs_b_er ex⟩
    · have ex : gs_nxt K 8 w.2 = .ok (gs_num K (gs_pl w.2) 8, gs_p (gs_pl w.2 + 8) w.2) := gs_nxt_y z
      rw [gs_b_ok ex, gs_b_ok ex]
      obtain ⟨id, hid⟩ : ∃ id, id = gs_num K (gs_pl w.2) 8 := ⟨_, rfl⟩
      rw [← hid]
      have ea : gs_addE (-1) (gs_p (gs_pl w.2 + 8) w.2) = .ok ((gs_hs s).length, (gs_pl w.2 + 8, gs_hp s, gs_hs s ++ [(-1, [])], gs_f1 s)) := by
        unfold gs_addE
        rw [show gs_hs (gs_p (gs_pl w.2 + 8) w.2) = gs_hs s from wh.2.1, show gs_f1 (gs_p (gs_pl w.2 + 8) w.2) = gs_f1 s from wh.2.2, if_neg (by omega)]
        show Except.ok (_, (gs_pl w.2 + 8, gs_hp w.2, _)) = _
        rw [wh.1]
      rw [gs_b_ok ea]
      rcases Nat.lt_or_ge (gs_pl w.2 + 8) (gs_n K) with y | y
      · have e1 : gs_u1 K (gs_p (gs_pl w.2 + 8) w.2) = .ok (gs_sb K (gs_pl w.2 + 8) &&& 255, gs_p (gs_pl w.2 + 9) w.2) := gs_u1_y (s := gs_p (gs_pl w.2 + 8) w.2) y
        have e2 : gs_u1 K (gs_pl w.2 + 8, gs_hp s, gs_hs s ++ [(-1, [])], gs_f1 s) = .ok (gs_sb K (gs_pl w.2 + 8) &&& 255, (gs_pl w.2 + 9, gs_hp s, gs_hs s ++ [(-1, [])], gs_f1 s)) := gs_u1_y (s := (gs_pl w.2 + 8, gs_hp s, gs_hs s ++ [(-1, [])], gs_f1 s)) y
        obtain ⟨fl, hfl⟩ : ∃ fl, fl = gs_sb K (gs_pl w.2 + 8) &&& 255 := ⟨_, rfl⟩
        rw [← hfl] at e1 e2
        by_cases bad : (fl &&& 2 ≠ 0 ∧ fl &&& 4 ≠ 0) ∨ (fl &&& 16 ≠ 0 ∧ id ≠ 0)
        · refine Or.inl ⟨-5, gs_b_er ?_, gs_b_er ?_⟩
          · unfold gs_flg; rw [gs_b_ok e1]; exact if_pos bad
          · unfold gs_flg; rw [gs_b_ok e2]; exact if_pos bad
        · have g1 : gs_flg K id (gs_p (gs_pl w.2 + 8) w.2) = .ok (fl, gs_p (gs_pl w.2 + 9) w.2) := by unfold gs_flg; rw [gs_b_ok e1]; exact if_neg bad
          have g2 : gs_flg K id (gs_pl w.2 + 8, gs_hp s, gs_hs s ++ [(-1, [])], gs_f1 s) = .ok (fl, (gs_pl w.2 + 9, gs_hp s, gs_hs s ++ [(-1, [])], gs_f1 s)) := by unfold gs_flg; rw [gs_b_ok e2]; exact if_neg bad
          rw [gs_b_ok g1, gs_b_ok g2]
          unfold gs_strm
          rw [gs_bb]
          rcases Nat.lt_or_ge (gs_n K) (gs_pl w.2 + 9 + 2) with x | x
          · exact Or.inl ⟨-3, gs_b_er (gs_nxt_n (s := gs_p (gs_pl w.2 + 9) w.2) (by show gs_pl w.2 + 9 ≤ _; omega) (by show ¬ gs_pl w.2 + 9 + 2 ≤ _; omega)), gs_b_er (gs_nxt_n (s := (gs_pl w.2 + 9, gs_hp s, gs_hs s ++ [(-1, [])], gs_f1 s)) (by show gs_pl w.2 + 9 ≤ _; omega) (by show ¬ gs_pl w.2 + 9 + 2 ≤ _; omega))⟩
          · have c1 : gs_nxt K 2 (gs_p (gs_pl w.2 + 9) w.2) = .ok (gs_num K (gs_pl w.2 + 9) 2, gs_p (gs_pl w.2 + 9 + 2) w.2) := gs_nxt_y (s := gs_p (gs_pl w.2 + 9) w.2) x
            have c2 : gs_nxt K 2 (gs_pl w.2 + 9, gs_hp s, gs_hs s ++ [(-1, [])], gs_f1 s) = .ok (gs_num K (gs_pl w.2 + 9) 2, (gs_pl w.2 + 9 + 2, gs_hp s, gs_hs s ++ [(-1, [])], gs_f1 s)) := gs_nxt_y (s := (gs_pl w.2 + 9, gs_hp s, gs_hs s ++ [(-1, [])], gs_f1 s)) x
            rw [gs_b_ok c1, gs_b_ok c2]
            obtain ⟨cn, cn1, cn2⟩ := gs_num2 (K := K) (a := gs_pl w.2 + 9)
            rw [cn2]
            by_cases c8 : (8 : Int32) < nI cn
            · rw [if_pos c8]
              refine Or.inl ⟨-5, rfl, ?_⟩
              show gs_b (if (8 : Int32) < nI cn then gs_x (-5) else _) _ _ = _
              rw [if_pos c8]
              rfl
            · have l8 : cn ≤ 8 := by
                rcases Nat.lt_or_ge 8 cn with y | y
                · exact absurd (nI_lt (a := 8) y (by omega)) c8
                · exact y
              rw [if_neg c8, nI_clamp (by omega)]
              have pe : w.1 + (gs_pl w.2 - w.1) + 11 = gs_pl w.2 + 9 + 2 := by omega
              refine Or.inr ⟨(w.1, gs_pl w.2 - w.1, id, fl, cn), ?_, ?_, ?_, l8, ?_⟩
              · show gs_r _ _ = .ok (_, gs_p (w.1 + (gs_pl w.2 - w.1) + 11) s)
                rw [pe]
                unfold gs_r
                congr 2
                rw [u4]
                rfl
              · show w.1 + (gs_pl w.2 - w.1) + 11 ≤ _; omega
              · show gs_pl s + 2 ≤ w.1 + (gs_pl w.2 - w.1); omega
              · show _ = gs_dB K rc up (gs_hs s).length (w.1, gs_pl w.2 - w.1, id, fl, cn) (w.1 + (gs_pl w.2 - w.1) + 11, gs_hp s, gs_hs s ++ [(-1, [])], gs_f1 s)
                rw [pe]
                rw [if_neg c8, gs_bb]
                unfold gs_dB
                have e0 : 0 < nI cn ↔ 0 < cn := nI_ltI (a := 0) (by decide) (by omega)
                congr 1
                funext fs s9
                by_cases q : fl &&& 16 ≠ 0 ∧ 0 < cn
                · rw [if_pos ⟨q.1, e0.mpr q.2⟩, if_pos q]
                  rfl
                · rw [if_neg (fun y => q ⟨y.1, e0.mp y.2⟩), if_neg q]
                  rfl
      · refine Or.inl ⟨-3, gs_b_er ?_, gs_b_er ?_⟩
        · unfold gs_flg; exact gs_b_er (gs_u1_n (s := gs_p (gs_pl w.2 + 8) w.2) y)
        · unfold gs_flg; exact gs_b_er (gs_u1_n (s := (gs_pl w.2 + 8, gs_hp s, gs_hs s ++ [(-1, [])], gs_f1 s)) y)
end NC
