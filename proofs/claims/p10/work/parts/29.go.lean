/-! THE PLAIN MACHINE, 13: a step that goes on. -/
theorem gm_fi_mem : ∀ {T : List (Nat × Instr × Nat)} {pc : Nat} {x : Instr × Nat}, gm_fi T pc = some x → (pc, x) ∈ T
  | [], _, _, h => by cases h
  | (a, y) :: r, pc, x, h => by
    unfold gm_fi at h
    split at h
    case isTrue e => subst e; cases h; exact List.mem_cons_self
    case isFalse => exact List.mem_cons_of_mem _ (gm_fi_mem h)
theorem gm_ft_ok {mi pc : Nat} {M : gm_M} {x : Instr × Nat} (hM : gm_mt[mi]? = some M) (h : gm_ft mi pc = some x) : decode M.2.1 pc = .ok x := gm_dok mi M hM (pc, x) (gm_fi_mem h)
theorem gm_tg_of {pc tgt : Nat} {off : Int} (h : gm_tg pc off = some tgt) : (pc : Int) + off = (tgt : Int) := by
  unfold gm_tg at h
  split at h
  case isTrue hz => cases h; omega
  case isFalse => cases h
section GMG
variable {p : Program} {l : Launch} {e : Env} {R : Room} {s : State} {m : MethodId} {args : Array Value} {below : List Frame} {meth : Method} {c : Code} {H : Heap} {locs : List Loc} {cells slots : Nat} {Q : State → Prop}
variable {pc : Nat} {ls : Array Slot} {D : va_G} {H0 : Heap} {E : Nat → Value} {h : gm_H}
theorem gm_go_W {mi : Nat} {M : gm_M} (hM : gm_mt[mi]? = some M) (hF : gm_Fr M p s m meth c) (hC : gm_Cx D H0 E s) (hR : gm_HR D H0 s h H) {lv st lv' st' : List Value} {pc' : Nat} {h1 : gm_H} (hL : gm_L ls M.2.2.1 lv) (hlo : ∀ q ∈ locs, H0.size ≤ q.base)
    (hn : gm_next E mi pc lv st h = some (.inl (pc', lv', st', h1))) (hce : cells + (h1.1 - h.1) ≤ R.cells) (hsl : slots + (h1.2.1 - h.2.1) ≤ R.slots) (hfr : 1 ≤ R.frames) (hlc : 20 ≤ R.locals)
    (k : ∀ (H' : Heap) (ls' : Array Slot) (locs' : List Loc), gm_HR D H0 s h1 H' → gm_L ls' M.2.2.1 lv' → (∀ q ∈ locs', H0.size ≤ q.base) → W p l e R s m args below meth c H' locs' (cells + (h1.1 - h.1)) (slots + (h1.2.1 - h.2.1)) Q (F0 m pc' ls' st')) : W p l e R s m args below meth c H locs cells slots Q (F0 m pc ls st) := by
  obtain ⟨hx, hb, hml, hr, hlocks, hex, hown, hnm⟩ := id hF
  unfold gm_next at hn
  rw [hM] at hn
  obtain ⟨y, code, maxL, ret, hh, cn, ow⟩ := M
  dsimp only at hb hml hr hex hown hnm hL k hn
  split at hn
  case _ y1 c1 m1 r1 h1' cn1 ow1 i len em hft =>
    cases em
    have hdg := gm_ft_ok hM hft
    dsimp only at hdg
    have hsame : ∀ (g1 : gm_H), g1 = h → ∀ {Z : Prop}, Z → Z := fun _ _ _ z => z
    have e0 : ∀ x : Nat, x + (h.1 - h.1) = x := fun x => by omega
    have e1 : ∀ x : Nat, x + (h.2.1 - h.2.1) = x := fun x => by omega
    split at hn
    case _ n st1 hp =>
      split at hn
      case isTrue en =>
        cases hn
        subst en
        rw [e0, e1] at k
        exact gm_pure_W hx hb hp hdg (k H ls locs hR hL hlo)
      case isFalse => cases hn
    case _ =>
    split at hn
    case _ n lv1 st1 hp =>
      split at hn
      case isTrue en =>
        cases hn
        subst en
        rw [e0, e1] at k
        exact gm_loc_W hx hb hL hp hdg (fun ls' hL' => k H ls' locs hR hL' hlo)
      case isFalse => cases hn
    case _ =>
    split at hn
    case _ t off st1 hp =>
      split at hn
      case _ tgt htg =>
        split at hn
        case isTrue en =>
          cases hn
          subst en
          rw [e0, e1] at k
          exact gm_br_W hx hb hp hdg (gm_tg_of htg) (k H ls locs hR hL hlo)
        case isFalse => cases hn
      case _ => cases hn
    case _ =>
    split at hn
    case _ off st1 hp =>
      split at hn
      case _ tgt htg =>
        cases hn
        rw [e0, e1] at k
        exact gm_sw_W hx hb hp hdg (gm_tg_of htg) (k H ls locs hR hL hlo)
      case _ => cases hn
    case _ =>
    split at hn
    case _ n st1 hp =>
      split at hn
      case isTrue en =>
        cases hn
        subst en
        rw [e0, e1] at k
        exact gm_rdop_W hx hb hown hC hR hp hdg (k H ls locs hR hL hlo)
      case isFalse => cases hn
    case _ =>
    split at hn
    case _ n st1 h2 hp =>
      split at hn
      case isTrue en =>
        cases hn
        subst en
        have hz : h1.1 = h.1 ∧ h1.2.1 = h.2.1 ∧ ow < 3 := by
          unfold gm_wrop at hp
          have aw : ∀ {t a : Nat} {j : Int32} {v : Value} {st2 st3 : List Value} {ln : Nat} {h3 : gm_H}, gm_aw t ow h a j v st2 = some (ln, st3, h3) → h3.1 = h.1 ∧ h3.2.1 = h.2.1 ∧ ow < 3 := by
            intro t a j v st2 st3 ln h3 hq
            unfold gm_aw at hq
            split at hq
            case _ =>
              split at hq
              case isTrue hq2 => cases hq; exact ⟨rfl, rfl, hq2.2.2.2.1⟩
              case isFalse => cases hq
            case _ => cases hq
          split at hp
          case _ =>
            split at hp
            case _ ci f w k' vs hlk hrd =>
              split at hp
              case isTrue hq =>
                cases hp
                refine ⟨rfl, rfl, ?_⟩
                rw [← hq.2.2.1]
                have := hq.2.1
                unfold gm_ko
                split
                · omega
                · split <;> omega
              case isFalse => cases hp
            case _ => cases hp
          case _ => exact aw hp
          case _ => exact aw hp
          case _ =>
            split at hp
            · exact aw hp
            · exact aw hp
          case _ =>
            split at hp
            case _ =>
              split at hp
              · exact aw hp
              · cases hp
            case _ => cases hp
          case _ =>
            split at hp
            case _ =>
              split at hp
              · exact aw hp
              · cases hp
            case _ => cases hp
          case _ => cases hp
        rw [hz.1, hz.2.1, e0, e1] at k
        refine gm_wrop_W hx hb (fun z => ?_) hown hC hR hlo hp hz.2.2 hdg (fun H' locs' g1 g2 => k H' ls locs' g1 hL g2)
        rw [hnm]; simpa using z
      case isFalse => cases hn
    case _ =>
    split at hn
    case _ n st1 h2 hp =>
      split at hn
      case isTrue en =>
        cases hn
        subst en
        exact gm_nwop_W hx hb hown hC hR hp hdg hce hsl (fun H' g1 => k H' ls locs g1 hL hlo)
      case isFalse => cases hn
    case _ =>
    split at hn
    case _ q hp =>
      split at hn
      case isTrue en =>
        split at hn
        case isTrue e4 =>
          cases hn
          subst en
          rw [e0, e1] at k
          obtain ⟨sd, mi2, as, rest⟩ := q
          dsimp only at e4 k
          subst e4
          obtain ⟨x, n, w, hm, h8, -, hcase⟩ := gm_cal_of hp
          have hok := gm_ct_ok _ hm
          unfold gm_ctq at hok
          dsimp only at hok
          split at hok
          case _ M' wd hM' hwd =>
            rw [if_pos rfl] at hok
            simp only [Bool.and_eq_true, decide_eq_true_eq] at hok
            obtain ⟨hlink, hn0⟩ := hok
            subst hn0
            rcases hcase with ⟨z, -⟩ | ⟨-, a, hd, -, hcase⟩
            · cases z
            · rcases hcase with ⟨z, -⟩ | ⟨-, ei⟩
              · cases z
              · subst ei
                rw [List.drop_zero] at hd
                subst hd
                have hts := hC.1
                exact W.objInit hx hb hown (hts _ (gm_gw_mem hlink rfl) args) (hts _ gm_oi1 args) (hts _ (gm_gw_mem gm_oi2 rfl) args) rfl (by rw [hml]; exact hL.1) rfl hdg hfr (by show 2 * 0 + _ + 12 ≤ _; omega) (k H ls locs hR hL hlo)
          case _ => cases hok
        case isFalse => cases hn
      case isFalse => cases hn
    case _ =>
    split at hn
    case _ v hp =>
      split at hn
      case isTrue => cases hn
      case isFalse => cases hn
    case _ =>
    split at hn
    case isTrue => cases hn
    case isFalse => cases hn
  case _ => cases hn
end GMG
