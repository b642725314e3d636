/-! THE REFERENCE, 58: a read at a depth. -/
section NV
variable {X N : Nat → Prop} {E : Nat → Value} {d m f n p dp c us nd k e o r j cnt hb ub nb B pp at_ ca us0 nd0 : Nat} {h : gm_H} {t t' t0 t1 : gr_t} {K : gs_K} {s s' s'' s0 s1 : gs_S} {rc : gs_M Int32} {P : gr_t → Prop} {l : gs_L} {L : List gs_L} {Q : gm_R → gm_H → Prop} {leaf st stt : Int32} {cc : Option Nat}
theorem gr_Y.us_eq {u c' : Nat} {X' : Nat → Prop} (Y : gr_Y X c us nd t K s) (Y' : gr_Y X' c' u nd t K s) : u = us := by
  have h1 := Y.us4
  have h2 := Y'.us4
  exact (nI_eq (by omega) (by omega)).mp (Y'.u.symm.trans Y.u)
theorem gr_hav (RC : gr_RC E d h m K (dp + 1) rc) (hK : gs_kor K) (hd : 12 ≤ d) (hdp : 1 ≤ dp ∧ dp ≤ 8) {F : gs_L → List gs_L → gs_M Int32} (Y1 : gr_Y X (c + 1) us nd t1 K s1) (h8 : t1.1 0 8 = 0) (h47 : t1.1 0 47 = nI (f + 1)) (f28 : t1.1 28 f = 1) (f30 : t1.1 30 f = nI dp) (h14 : 14 * f + 42 ≤ 42 * dp + gs_pl s1) (hsz : 14 * gs_size s1 ≤ 14 * (69 - dp) + gs_pl s1)
    (nil : ∀ (us nd : Nat) (t : gr_t) (s : gs_S), gr_Y X (c + 1) us nd t K s → t.1 0 8 = 0 → t.1 0 47 = nI (f + 1) → (t.1 28 f = 1 ∧ t.1 29 f = stt ∧ t.1 30 f = nI dp) → t.1 0 9 = -2 → gr_st E d h m t (fun t' => t' = gr_ui t 0 8 (-4)))
    (go : ∀ (l : gs_L) (L : List gs_L) (us nd : Nat) (t : gr_t) (s : gs_S), gr_Y X (c + 6) us nd t K s → t.1 0 8 = 0 → t.1 0 47 = nI (f + 1) → (t.1 28 f = 1 ∧ t.1 29 f = stt ∧ t.1 30 f = nI dp) → 14 * f + 42 ≤ 42 * dp + gs_pl s → 14 * gs_size s ≤ 14 * (69 - dp) + gs_pl s → gr_chn (gr_NX X nd) t K (l :: L) (t.1 0 9) → (l :: L).length ≤ 900 → gr_Rn E d h m (gr_O K X c us nd f f t s (gr_W dp) (F l L s)) t) :
    gr_Rn E d h m (gr_O K X c us nd f f t1 s1 (gr_W dp) (gs_have (gs_desc K rc 8) F s1)) (gr_push (gr_ui t1 29 f stt) (f + 1) 2 (nI dp) 1 0) := by
  have n7 := Y1.n7
  have pn := Y1.pn
  obtain ⟨p1, p2, p3, p4, p5, p6, p7, p8, p9⟩ := gr_push_fr (t := gr_ui t1 29 f stt) (tp := f + 1) (k := 2) (dd := nI dp) (a := 1) (b := 0)
  have hm2 : gr_hm t1 (gr_push (gr_ui t1 29 f stt) (f + 1) 2 (nI dp) 1 0) := (gr_hm.refl.ui (by omega)).push
  have fr2 : gr_fr (f + 1) (gr_ui t1 29 f stt) (gr_push (gr_ui t1 29 f stt) (f + 1) 2 (nI dp) 1 0) := gr_fr.refl.push (Nat.le_refl _)
  obtain ⟨t2, ht2⟩ : ∃ t2, t2 = gr_push (gr_ui t1 29 f stt) (f + 1) 2 (nI dp) 1 0 := ⟨_, rfl⟩
  rw [← ht2] at p1 p2 p3 p4 p5 p6 p7 p8 p9 hm2 fr2 ⊢
  have ds := gr_desc (B := 14 * (69 - dp)) RC hK.1 hd hdp (Nat.le_refl _) (by omega) 8 (Nat.le_refl _)
  refine (ds X (c + 1) us nd (f + 1) t2 s1 (Y1.hm hm2) (p9.trans (by rw [gr_ui_no (by decide)]; exact h8)) p8 ⟨p1, p2, p3, p4, p6⟩ (by omega) hsz).bind (fun t3 x3 => ?_)
  unfold gs_have
  refine gr_O.seqF x3 hm2.kp (Nat.le_refl _) (Nat.le_refl _) (Nat.le_refl _) (fun LL s3 us3 nd3 er g1 Y3 g8 g47 g3 g6 g4 g5 v => ?_)
  obtain ⟨v1, v2, v3, v4, v5⟩ := v
  have ff : ∀ x, 28 ≤ x → x ≤ 34 → t3.1 x f = (gr_ui t1 29 f stt).1 x f := fun x x1 x2 => (g3 x f x1 x2 (by omega)).trans (fr2 x f x1 x2 (by omega))
  have fr3 : t3.1 28 f = 1 ∧ t3.1 29 f = stt ∧ t3.1 30 f = nI dp := ⟨by rw [ff 28 (by omega) (by omega), gr_ui_no (by decide)]; exact f28, by rw [ff 29 (by omega) (by omega), gr_ui_eq], by rw [ff 30 (by omega) (by omega), gr_ui_no (by decide)]; exact f30⟩
  have kp3 : gr_kp (gs_hp s1).length us nd t1 t3 := hm2.kp.trans g4
  have frz : gr_fr f t1 t3 := fun q i q1 q2 q3 => by rw [g3 q i q1 q2 (by omega), fr2 q i q1 q2 (by omega), gr_ui_ni (by omega)]
  cases LL with
  | nil =>
    refine .step g47 (by omega) g8 (nil us3 nd3 t3 s3 Y3 g8 g47 fr3 v1) (fun t4 x4 => ?_)
    subst x4
    exact .done (gr_O.er rfl (gr_F.ui (by decide) kp3))
  | cons l L =>
    obtain ⟨u, Yu⟩ := v5 (by simp)
    have ue := Y3.us_eq Yu
    subst ue
    have ln : (l :: L).length ≤ 900 := by
      have c1 : gs_dn s3 ≤ (gs_hs s3).length := List.countP_le_length
      have := Y3.eb
      have := Y3.pn
      omega
    have g := go l L u nd3 t3 s3 Yu g8 g47 fr3 (by omega) v3 v1 ln
    exact g.mono (fun t4 x4 => x4.from g1 frz (Nat.le_refl _) (hm2.eh.trans g6) kp3 g5)
/-- a read, by its tag -/
def gs_bG (K : gs_K) (rc : gs_M Int32) (d : Nat) (t : Int32) : gs_M Int32 :=
  if t = 112 then gs_r (-2) else if t = 113 then gs_ref K else if t = 114 then gs_b (fun s => .ok ((), gs_p (gs_pl s - 1) s)) fun _ => gs_b (gs_desc K rc 8) fun _ => gs_r (-2)
  else if t = 115 then gs_inst K rc d else if t = 116 then gs_text K else if t = 117 then gs_arr K rc d else if t = 126 then gs_con1 K rc d
  else if t = 119 ∨ t = 122 ∨ t = 120 then gs_x (if d = 1 then -7 else -4) else if t = 123 then gs_x (-10) else gs_x (-4)
theorem gs_body_G : gs_body K rc dp = gs_b (gs_room dp) fun _ => gs_b (gs_u1 K) (gs_bG K rc dp) := rfl
theorem gr_W.V {s0 : gs_S} {v : Int32} {s' : gs_S} {nd' : Nat} (w : gr_W dp v s' nd' t') (hp : gs_pl s0 < gs_pl s') : gr_V dp s0 v s' nd' t' := ⟨w.1, w.2.1, w.2.2, hp⟩
theorem gr_O.toV {res : Except Int32 (Int32 × gs_S)} {t1 : gr_t} {s1 : gs_S} (x : gr_O K X c us nd f f t1 s1 (gr_W dp) res t') (hp : gs_pl s < gs_pl s1) (h3 : gr_fr f t t1) (h6 : gr_eh (gs_size s) t t1) (h4 : gr_kp (gs_hp s).length us nd t t1) (h5 : gs_ap s s1) : gr_O K X c us nd f f t s (gr_V dp s) res t' := by
  cases res with
  | ok q =>
    obtain ⟨us', nd', g1, Y, g2, g3, g6, g4, g5, v⟩ := x
    exact ⟨us', nd', g1, Y, g2, h3.trans g3, h6.trans (g6.wk h5.size), h4.trans (g4.wk h5.len (Nat.le_refl _) (Nat.le_refl _)), h5.trans g5, v.V (by have := g5.2.2.2; omega)⟩
  | error e => exact gr_F.from x h4 h5.len (Nat.le_refl _) (Nat.le_refl _)
end NV
