/-! THE PURE SIDE, 2: what a run leaves alone: a method of the class writes cells of the class alone, one of the reference those of the reference. -/
def gm_Wf (h : gm_H) : Prop := ∀ a c, gm_rd h a = some c → a < h.1
def gm_Kp (o : Nat) (h h' : gm_H) : Prop := h.1 ≤ h'.1 ∧ gm_Wf h' ∧ ∀ a c, gm_rd h a = some c → (∃ vs : List Value, gm_rd h' a = some (c.1, vs) ∧ vs.length = c.2.length) ∧ (gm_ko c.1 ≠ o → gm_rd h' a = some c)
theorem gm_Kp.refl {o : Nat} {h : gm_H} (hw : gm_Wf h) : gm_Kp o h h := ⟨Nat.le_refl _, hw, fun a c hc => ⟨⟨c.2, hc, rfl⟩, fun _ => hc⟩⟩
theorem gm_Kp.trans {o : Nat} {h h1 h2 : gm_H} (a : gm_Kp o h h1) (b : gm_Kp o h1 h2) : gm_Kp o h h2 := by
  refine ⟨Nat.le_trans a.1 b.1, b.2.1, fun x c hc => ?_⟩
  obtain ⟨⟨vs, e1, e2⟩, e3⟩ := a.2.2 x c hc
  obtain ⟨⟨ws, g1, g2⟩, g3⟩ := b.2.2 x _ e1
  refine ⟨⟨ws, g1, g2.trans e2⟩, fun hk => ?_⟩
  exact (b.2.2 x c (e3 hk)).2 hk
theorem gm_Kp.nw {o : Nat} {h : gm_H} (hw : gm_Wf h) (c : gm_C) (n : Nat) : gm_Kp o h (gm_nw h c n) := by
  have key : ∀ a d, gm_rd h a = some d → gm_rd (gm_nw h c n) a = some d := by
    intro a d hd
    have := hw a d hd
    show (if a = h.1 then some c else h.2.2 a) = some d
    rw [if_neg (by omega)]
    exact hd
  refine ⟨Nat.le_succ _, fun a d hd => ?_, fun a d hd => ⟨⟨d.2, key a d hd, rfl⟩, fun _ => key a d hd⟩⟩
  have hd : (if a = h.1 then some c else h.2.2 a) = some d := hd
  show a < h.1 + 1
  split at hd
  · omega
  · have := hw a d hd; omega
theorem gm_Kp.wr {o a k : Nat} {h : gm_H} {vs ws : List Value} (hw : gm_Wf h) (hrd : gm_rd h a = some (k, vs)) (hl : ws.length = vs.length) (hk : gm_ko k = o) : gm_Kp o h (gm_wr h a (k, ws)) := by
  refine ⟨Nat.le_refl _, fun b d hd => ?_, fun b d hd => ?_⟩
  · have hd : (if b = a then some (k, ws) else h.2.2 b) = some d := hd
    show b < h.1
    split at hd
    · rename_i e; rw [e]; exact hw a _ hrd
    · exact hw b d hd
  · have e0 : gm_rd (gm_wr h a (k, ws)) b = if b = a then some (k, ws) else gm_rd h b := rfl
    rw [e0]
    by_cases e : b = a
    · subst e
      cases hrd.symm.trans hd
      rw [if_pos rfl]
      exact ⟨⟨ws, rfl, hl⟩, fun z => absurd hk z⟩
    · rw [if_neg e]
      exact ⟨⟨d.2, hd, rfl⟩, fun _ => hd⟩
theorem gm_aw_Kp {t ow a : Nat} {h h3 : gm_H} {j : Int32} {v : Value} {st2 st3 : List Value} {ln : Nat} (hw : gm_Wf h) (hq : gm_aw t ow h a j v st2 = some (ln, st3, h3)) : gm_Kp ow h h3 := by
  unfold gm_aw at hq
  split at hq
  case _ k vs hrd =>
    split at hq
    case isTrue hz => cases hq; exact gm_Kp.wr hw hrd (List.length_set ..) hz.2.2.1
    case isFalse => cases hq
  case _ => cases hq
theorem gm_wrop_Kp {cn ow : Nat} {ini : Bool} {i : Instr} {st st' : List Value} {h h' : gm_H} {len : Nat} (hw : gm_Wf h) (hp : gm_wrop cn ow ini i st h = some (len, st', h')) : gm_Kp ow h h' := by
  unfold gm_wrop at hp
  split at hp
  case _ =>
    split at hp
    case _ ci f w k' vs hlk hrd =>
      split at hp
      case isTrue hz =>
        cases hp
        obtain ⟨rfl, -, hk, -⟩ := hz
        exact gm_Kp.wr hw hrd (List.length_set ..) hk
      case isFalse => cases hp
    case _ => cases hp
  case _ => exact gm_aw_Kp hw hp
  case _ => exact gm_aw_Kp hw hp
  case _ =>
    split at hp
    · exact gm_aw_Kp hw hp
    · exact gm_aw_Kp hw hp
  case _ =>
    split at hp
    case _ =>
      split at hp
      · exact gm_aw_Kp hw hp
      · cases hp
    case _ => cases hp
  case _ =>
    split at hp
    case _ =>
      split at hp
      · exact gm_aw_Kp hw hp
      · cases hp
    case _ => cases hp
  case _ => cases hp
theorem gm_nwop_Kp {o cn ow : Nat} {i : Instr} {st st' : List Value} {h h' : gm_H} {len : Nat} (hw : gm_Wf h) (hp : gm_nwop cn ow i st h = some (len, st', h')) : gm_Kp o h h' := by
  unfold gm_nwop at hp
  split at hp
  case _ =>
    split at hp
    case _ =>
      split at hp
      · cases hp; exact gm_Kp.nw hw _ _
      · cases hp
    case _ => cases hp
  case _ =>
    split at hp
    case _ =>
      split at hp
      · cases hp; exact gm_Kp.nw hw _ _
      · cases hp
    case _ => cases hp
  case _ =>
    split at hp
    case _ =>
      split at hp
      · cases hp; exact gm_Kp.nw hw _ _
      · cases hp
    case _ => cases hp
  case _ => cases hp
/-- a step's heap -/
theorem gm_next_Kp {o : Nat} {E : Nat → Value} {mi pc pc' : Nat} {lv st lv' st' : List Value} {h h' : gm_H} {M : gm_M} (hM : gm_mt[mi]? = some M) (ho : M.2.2.2.2.2.2 = o ∨ M.2.2.2.2.2.2 = 3) (ho3 : o < 3) (hw : gm_Wf h) (hn : gm_next E mi pc lv st h = some (.inl (pc', lv', st', h'))) : gm_Kp o h h' := by
  unfold gm_next at hn
  rw [hM] at hn
  obtain ⟨y, code, maxL, ret, hh, cn, ow⟩ := M
  dsimp only at ho
  split at hn
  case _ y1 c1 m1 r1 h1' cn1 ow1 i len em hft =>
    cases em
    split at hn
    case _ =>
      split at hn
      case isTrue => cases hn; exact gm_Kp.refl hw
      case isFalse => cases hn
    case _ =>
    split at hn
    case _ =>
      split at hn
      case isTrue => cases hn; exact gm_Kp.refl hw
      case isFalse => cases hn
    case _ =>
    split at hn
    case _ =>
      split at hn
      case _ =>
        split at hn
        case isTrue => cases hn; exact gm_Kp.refl hw
        case isFalse => cases hn
      case _ => cases hn
    case _ =>
    split at hn
    case _ =>
      split at hn
      case _ => cases hn; exact gm_Kp.refl hw
      case _ => cases hn
    case _ =>
    split at hn
    case _ =>
      split at hn
      case isTrue => cases hn; exact gm_Kp.refl hw
      case isFalse => cases hn
    case _ =>
    split at hn
    case _ n st1 h2 hp =>
      split at hn
      case isTrue =>
        cases hn
        have hk := gm_wrop_Kp hw hp
        rcases ho with e | e
        · rw [← e]; exact hk
        · refine ⟨hk.1, hk.2.1, fun a c hc => ⟨(hk.2.2 a c hc).1, fun hz => ?_⟩⟩
          -- a method of nobody writes nothing
          exfalso
          subst e
          unfold gm_wrop at hp
          have aw : ∀ {t a : Nat} {j : Int32} {v : Value} {st2 st3 : List Value} {ln : Nat} {h3 : gm_H}, gm_aw t 3 h a j v st2 = some (ln, st3, h3) → False := by
            intro t a j v st2 st3 ln h3 hq
            unfold gm_aw at hq
            split at hq
            case _ =>
              split at hq
              case isTrue hz => exact absurd hz.2.2.2.1 (by decide)
              case isFalse => cases hq
            case _ => cases hq
          split at hp
          case _ =>
            split at hp
            case _ ci f w k' vs hlk hrd =>
              split at hp
              case isTrue hz =>
                have h1 := hz.2.1
                have h2 := hz.2.2.1
                unfold gm_ko at h2
                split at h2
                · cases h2
                · split at h2
                  · cases h2
                  · omega
              case isFalse => cases hp
            case _ => cases hp
          case _ => exact aw hp
          case _ => exact aw hp
          case _ =>
            split at hp
            · exact aw hp
            · exact aw hp
          case _ =>
            split at hp
            case _ =>
              split at hp
              · exact aw hp
              · cases hp
            case _ => cases hp
          case _ =>
            split at hp
            case _ =>
              split at hp
              · exact aw hp
              · cases hp
            case _ => cases hp
          case _ => cases hp
      case isFalse => cases hn
    case _ =>
    split at hn
    case _ n st1 h2 hp =>
      split at hn
      case isTrue => cases hn; exact gm_nwop_Kp hw hp
      case isFalse => cases hn
    case _ =>
    split at hn
    case _ q hp =>
      split at hn
      case isTrue en =>
        split at hn
        case isTrue => cases hn; exact gm_Kp.refl hw
        case isFalse e4 => cases hn
      case isFalse => cases hn
    case _ =>
    split at hn
    case _ v hp =>
      split at hn
      case isTrue en => cases hn
      case isFalse => cases hn
    case _ =>
    split at hn
    case isTrue => cases hn
    case isFalse => cases hn
  case _ => cases hn
/-- the owner of a class's methods -/
def gm_cno (cn : Nat) : Nat := if cn < 5 then 1 else if cn = 5 then 2 else 3
set_option maxRecDepth 100000 in
theorem gm_ow_ok : ∀ M ∈ gm_mt, M.2.2.2.2.2.2 = gm_cno M.2.2.2.2.2.1 := by decide +kernel
set_option maxRecDepth 100000 in
/-- whom a method of a class calls -/
theorem gm_co_ok : ∀ q ∈ gm_ct, q.1 ≠ 7 → q.2.2.1 ≠ 4 → (∀ M, gm_mt[q.2.2.2.1]? = some M → M.2.2.2.2.2.1 ≠ 7 ∧ (gm_cno M.2.2.2.2.2.1 = gm_cno q.1 ∨ gm_cno M.2.2.2.2.2.1 = 3)) := by
  have h : ∀ q ∈ gm_ct, q.1 ≠ 7 → q.2.2.1 ≠ 4 → (gm_mt[q.2.2.2.1]?).all (fun M => decide (M.2.2.2.2.2.1 ≠ 7 ∧ (gm_cno M.2.2.2.2.2.1 = gm_cno q.1 ∨ gm_cno M.2.2.2.2.2.1 = 3))) = true := by decide +kernel
  intro q hq h1 h2 M hM
  have := h q hq h1 h2
  rw [hM] at this
  simpa using this
theorem gm_run_Kp {E : Nat → Value} {o : Nat} (ho3 : o < 3) : ∀ (n d mi pc : Nat) (lv st : List Value) (h : gm_H) (r : gm_R) (h' : gm_H) (M : gm_M), gm_mt[mi]? = some M → M.2.2.2.2.2.1 ≠ 7 → (gm_cno M.2.2.2.2.2.1 = o ∨ gm_cno M.2.2.2.2.2.1 = 3) → gm_Wf h → gm_run E n d mi pc lv st h = some (r, h') → gm_Kp o h h' := by
  intro n
  induction n with
  | zero => intro d mi pc lv st h r h' M _ _ _ _ hr; cases hr
  | succ n ih =>
    intro d mi pc lv st h r h' M hM h7 ho hw hr
    have hoM : M.2.2.2.2.2.2 = o ∨ M.2.2.2.2.2.2 = 3 := by rw [gm_ow_ok M (List.mem_of_getElem? hM)]; exact ho
    unfold gm_run at hr
    cases hn : gm_next E mi pc lv st h with
    | none => rw [hn] at hr; cases hr
    | some S =>
      rw [hn] at hr
      rcases S with ⟨pc1, lv1, st1, h1⟩ | ⟨sd, mi1, as, rest⟩ | v | ⟨a, h1⟩
      · have k1 := gm_next_Kp hM hoM ho3 hw hn
        exact k1.trans (ih _ _ _ _ _ _ _ _ M hM h7 ho k1.2.1 hr)
      · obtain ⟨i, hft, hcal, h4⟩ := gm_next_is hM hn
        obtain ⟨x, n2, w, hm, -⟩ := gm_cal_of hcal
        dsimp only at hr
        cases d with
        | zero => cases hr
        | succ d1 =>
          cases e1 : gm_mt[mi1]? with
          | none => rw [e1] at hr; cases hr
          | some M1 =>
            rw [e1, hM] at hr
            dsimp only at hr
            obtain ⟨c7, co⟩ := gm_co_ok _ hm h7 h4 M1 e1
            dsimp only at co
            have ho1 : gm_cno M1.2.2.2.2.2.1 = o ∨ gm_cno M1.2.2.2.2.2.1 = 3 := by
              rcases co with z | z
              · rw [z]; exact ho
              · exact Or.inr z
            cases hc : gm_run E n d1 mi1 0 (gm_en as M1.2.2.1) [] h with
            | none => rw [hc] at hr; cases hr
            | some q =>
              obtain ⟨r1, h1⟩ := q
              rw [hc] at hr
              have k1 := ih _ _ _ _ _ _ _ _ M1 e1 c7 ho1 hw hc
              cases r1 with
              | inl v => exact k1.trans (ih _ _ _ _ _ _ _ _ M hM h7 ho k1.2.1 hr)
              | inr a1 =>
                dsimp only at hr
                cases ht : gm_hd M.2.2.2.2.1 pc with
                | none => rw [ht] at hr; cases hr; exact k1
                | some t => rw [ht] at hr; exact k1.trans (ih _ _ _ _ _ _ _ _ M hM h7 ho k1.2.1 hr)
      · cases hr; exact gm_Kp.refl hw
      · cases hr
        obtain ⟨-, -, -, rfl, -⟩ := gm_next_is hM hn
        exact gm_Kp.nw hw _ _
