/-! ===== the law: its machine ===== -/
def roL (L : Nat) (f : Nat → Int) : RO := fun k => if k = 79 then some (L, f) else roS k
theorem roL_79 {L : Nat} {f : Nat → Int} : roL L f 79 = some (L, f) := rfl
theorem SHl_79 : SH 79 = (9, 0, []) := rfl
/-- two equal ints are compared -/
def IEQ (cc : ByteArray) (K : KT) : Prop := ∀ (pc : Nat) (off : Int) (tgt : Nat) (ls : LSt) (v : Int) (st : List AV) (σ : HP), decode cc pc = .ok (.if_icmp .eq off, 3) → (pc : Int) + off = (tgt : Int) → K tgt ls st σ → K pc ls (.inl v :: .inl v :: st) σ
section IE
variable {p : Program} {l : Launch} {e : Env} {R : Room} {s : State} {m : MethodId} {args : Array Value} {below : List Frame} {meth : Method} {c : Code} {cells slots : Nat}
variable {A : Nat → Prop} {Qf : State → Prop} {nL : Nat} {G : GT} {cc : ByteArray} {own : String} {cp : Nat → Option CE} {mT : Nat → Option (Nat × Bool × MSpec)} {ro : RO}
theorem ieq_sound (C : CX p l R s m args c cells slots A cc own nL G cp mT ro) : IEQ cc (AW p l e R s m args below meth c cells slots A Qf nL G) := by
  intro pc off tgt ls v st σ hd ht hk H locs lsA hP hS hL
  obtain ⟨hx, hb, -⟩ := C
  exact lv_icmp_eq (tgt := tgt) hx hb hd ht (fun _ => hk H locs lsA hP hS hL) (fun z => absurd rfl z)
end IE
def mT_L_law (i : Nat) : Option (Nat × Bool × MSpec) := match i with
  | 13 => some (4, true, S_X7_row)
  | 17 => some (4, true, S_X8_row)
  | 18 => some (4, true, S_X7_set)
  | 21 => some (4, true, S_X8_set)
  | 22 => some (6, true, S_X7_copy)
  | 26 => some (6, true, S_X8_copy)
  | 27 => some (2, true, S_X7_drop)
  | 31 => some (2, true, S_X8_drop)
  | 32 => some (2, true, S_X7_feed)
  | 35 => some (2, true, S_X8_feed)
  | 36 => some (1, true, S_X7_piece)
  | 40 => some (1, true, S_X8_piece)
  | 41 => some (1, true, S_X7_fault)
  | 44 => some (1, true, S_X8_fault)
  | 45 => some (3, true, S_X7_key)
  | 49 => some (3, true, S_X8_key)
  | 50 => some (3, true, S_X7_become)
  | 53 => some (3, true, S_X8_become)
  | 54 => some (2, true, S_X7_sign)
  | 57 => some (2, true, S_X8_sign)
  | 58 => some (2, true, S_X7_shift)
  | 61 => some (2, true, S_X8_shift)
  | 62 => some (1, true, S_X7_undo)
  | 65 => some (1, true, S_X8_undo)
  | 66 => some (3, true, S_X7_place)
  | 69 => some (3, true, S_X8_place)
  | 70 => some (3, true, S_X7_inWindow)
  | 73 => some (3, true, S_X8_inWindow)
  | 74 => some (2, true, S_X7_head)
  | 77 => some (2, true, S_X8_head)
  | 78 => some (3, true, S_X7_note)
  | 81 => some (3, true, S_X8_note)
  | 82 => some (3, true, S_X7_chord)
  | 85 => some (3, true, S_X8_chord)
  | 86 => some (2, true, S_X7_whole)
  | 89 => some (2, true, S_X8_whole)
  | 90 => some (3, true, S_X7_price)
  | 93 => some (3, true, S_X8_price)
  | 94 => some (3, true, S_X7_cost)
  | 97 => some (3, true, S_X8_cost)
  | 98 => some (5, true, S_X7_fits)
  | 102 => some (5, true, S_X8_fits)
  | 103 => some (4, true, S_X7_drawn)
  | 106 => some (4, true, S_X8_drawn)
  | 107 => some (2, true, S_X7_image)
  | 110 => some (2, true, S_X8_image)
  | 111 => some (2, true, S_X7_restore)
  | 114 => some (2, true, S_X8_restore)
  | 115 => some (2, true, S_X7_kind)
  | 118 => some (2, true, S_X8_kind)
  | 119 => some (3, true, S_X7_as)
  | 122 => some (3, true, S_X8_as)
  | 123 => some (3, true, S_X7_ask)
  | 126 => some (3, true, S_X8_ask)
  | 127 => some (2, true, S_X7_trace)
  | 130 => some (2, true, S_X8_trace)
  | 131 => some (2, true, S_X7_count)
  | 134 => some (2, true, S_X8_count)
  | 135 => some (1, true, S_X7_status)
  | 138 => some (1, true, S_X8_status)
  | _ => none
theorem mT_L_law_ok {l : Launch} {n : Nat} (hn : 15 ≤ n) : ∀ i e, mT_L_law i = some e → mV l (rmOf n) RL i e := by
  intro i e h
  unfold mT_L_law at h
  split at h
  · cases h; exact mvI (lv := 1) (ci := 6) (T := TX7) (N := 15) mw_X7_row rfl (by omega) (by decide) (by decide +kernel) (gtm 270 (by decide +kernel) (by decide +kernel)) rc_X7_row ok_X7_row
  · cases h; exact mvI (lv := 2) (ci := 7) (T := TX8) (N := 28) mw_X8_row rfl (by omega) (by decide) (by decide +kernel) (gtm 824 (by decide +kernel) (by decide +kernel)) rc_X8_row ok_X8_row
  · cases h; exact mvI (lv := 1) (ci := 6) (T := TX7) (N := 15) mw_X7_set rfl (by omega) (by decide) (by decide +kernel) (gtm 291 (by decide +kernel) (by decide +kernel)) rc_X7_set ok_X7_set
  · cases h; exact mvI (lv := 2) (ci := 7) (T := TX8) (N := 28) mw_X8_set rfl (by omega) (by decide) (by decide +kernel) (gtm 844 (by decide +kernel) (by decide +kernel)) rc_X8_set ok_X8_set
  · cases h; exact mvI (lv := 1) (ci := 6) (T := TX7) (N := 15) mw_X7_copy rfl (by omega) (by decide) (by decide +kernel) (gtm 307 (by decide +kernel) (by decide +kernel)) rc_X7_copy ok_X7_copy
  · cases h; exact mvI (lv := 2) (ci := 7) (T := TX8) (N := 28) mw_X8_copy rfl (by omega) (by decide) (by decide +kernel) (gtm 855 (by decide +kernel) (by decide +kernel)) rc_X8_copy ok_X8_copy
  · cases h; exact mvI (lv := 1) (ci := 6) (T := TX7) (N := 15) mw_X7_drop rfl (by omega) (by decide) (by decide +kernel) (gtm 322 (by decide +kernel) (by decide +kernel)) rc_X7_drop ok_X7_drop
  · cases h; exact mvI (lv := 2) (ci := 7) (T := TX8) (N := 28) mw_X8_drop rfl (by omega) (by decide) (by decide +kernel) (gtm 863 (by decide +kernel) (by decide +kernel)) rc_X8_drop ok_X8_drop
  · cases h; exact mvI (lv := 1) (ci := 6) (T := TX7) (N := 15) mw_X7_feed rfl (by omega) (by decide) (by decide +kernel) (gtm 330 (by decide +kernel) (by decide +kernel)) rc_X7_feed ok_X7_feed
  · cases h; exact mvI (lv := 1) (ci := 7) (T := TX8) (N := 28) mw_X8_feed rfl (by omega) (by decide) (by decide +kernel) (gtm 867 (by decide +kernel) (by decide +kernel)) rc_X8_feed ok_X8_feed
  · cases h; exact mvI (lv := 5) (ci := 6) (T := TX7) (N := 15) mw_X7_piece rfl (by omega) (by decide) (by decide +kernel) (gtm 339 (by decide +kernel) (by decide +kernel)) rc_X7_piece ok_X7_piece
  · cases h; exact mvI (lv := 5) (ci := 7) (T := TX8) (N := 28) mw_X8_piece rfl (by omega) (by decide) (by decide +kernel) (gtm 872 (by decide +kernel) (by decide +kernel)) rc_X8_piece ok_X8_piece
  · cases h; exact mvI (lv := 0) (ci := 6) (T := TX7) (N := 15) mw_X7_fault rfl (by omega) (by decide) (by decide +kernel) (gtm 426 (by decide +kernel) (by decide +kernel)) rc_X7_fault ok_X7_fault
  · cases h; exact mvI (lv := 0) (ci := 7) (T := TX8) (N := 28) mw_X8_fault rfl (by omega) (by decide) (by decide +kernel) (gtm 915 (by decide +kernel) (by decide +kernel)) rc_X8_fault ok_X8_fault
  · cases h; exact mvI (lv := 3) (ci := 6) (T := TX7) (N := 15) mw_X7_key rfl (by omega) (by decide) (by decide +kernel) (gtm 430 (by decide +kernel) (by decide +kernel)) rc_X7_key ok_X7_key
  · cases h; exact mvI (lv := 2) (ci := 7) (T := TX8) (N := 28) mw_X8_key rfl (by omega) (by decide) (by decide +kernel) (gtm 919 (by decide +kernel) (by decide +kernel)) rc_X8_key ok_X8_key
  · cases h; exact mvI (lv := 3) (ci := 6) (T := TX7) (N := 15) mw_X7_become rfl (by omega) (by decide) (by decide +kernel) (gtm 453 (by decide +kernel) (by decide +kernel)) rc_X7_become ok_X7_become
  · cases h; exact mvI (lv := 2) (ci := 7) (T := TX8) (N := 28) mw_X8_become rfl (by omega) (by decide) (by decide +kernel) (gtm 932 (by decide +kernel) (by decide +kernel)) rc_X8_become ok_X8_become
  · cases h; exact mvI (lv := 3) (ci := 6) (T := TX7) (N := 15) mw_X7_sign rfl (by omega) (by decide) (by decide +kernel) (gtm 461 (by decide +kernel) (by decide +kernel)) rc_X7_sign ok_X7_sign
  · cases h; exact mvI (lv := 2) (ci := 7) (T := TX8) (N := 28) mw_X8_sign rfl (by omega) (by decide) (by decide +kernel) (gtm 940 (by decide +kernel) (by decide +kernel)) rc_X8_sign ok_X8_sign
  · cases h; exact mvI (lv := 3) (ci := 6) (T := TX7) (N := 15) mw_X7_shift rfl (by omega) (by decide) (by decide +kernel) (gtm 470 (by decide +kernel) (by decide +kernel)) rc_X7_shift ok_X7_shift
  · cases h; exact mvI (lv := 2) (ci := 7) (T := TX8) (N := 28) mw_X8_shift rfl (by omega) (by decide) (by decide +kernel) (gtm 948 (by decide +kernel) (by decide +kernel)) rc_X8_shift ok_X8_shift
  · cases h; exact mvI (lv := 3) (ci := 6) (T := TX7) (N := 15) mw_X7_undo rfl (by omega) (by decide) (by decide +kernel) (gtm 481 (by decide +kernel) (by decide +kernel)) rc_X7_undo ok_X7_undo
  · cases h; exact mvI (lv := 1) (ci := 7) (T := TX8) (N := 28) mw_X8_undo rfl (by omega) (by decide) (by decide +kernel) (gtm 955 (by decide +kernel) (by decide +kernel)) rc_X8_undo ok_X8_undo
  · cases h; exact mvI (lv := 2) (ci := 6) (T := TX7) (N := 15) mw_X7_place rfl (by omega) (by decide) (by decide +kernel) (gtm 490 (by decide +kernel) (by decide +kernel)) rc_X7_place ok_X7_place
  · cases h; exact mvI (lv := 3) (ci := 7) (T := TX8) (N := 28) mw_X8_place rfl (by omega) (by decide) (by decide +kernel) (gtm 959 (by decide +kernel) (by decide +kernel)) rc_X8_place ok_X8_place
  · cases h; exact mvI (lv := 2) (ci := 6) (T := TX7) (N := 15) mw_X7_inWindow rfl (by omega) (by decide) (by decide +kernel) (gtm 507 (by decide +kernel) (by decide +kernel)) rc_X7_inWindow ok_X7_inWindow
  · cases h; exact mvI (lv := 3) (ci := 7) (T := TX8) (N := 28) mw_X8_inWindow rfl (by omega) (by decide) (by decide +kernel) (gtm 972 (by decide +kernel) (by decide +kernel)) rc_X8_inWindow ok_X8_inWindow
  · cases h; exact mvI (lv := 1) (ci := 6) (T := TX7) (N := 15) mw_X7_head rfl (by omega) (by decide) (by decide +kernel) (gtm 517 (by decide +kernel) (by decide +kernel)) rc_X7_head ok_X7_head
  · cases h; exact mvI (lv := 1) (ci := 7) (T := TX8) (N := 28) mw_X8_head rfl (by omega) (by decide) (by decide +kernel) (gtm 982 (by decide +kernel) (by decide +kernel)) rc_X8_head ok_X8_head
  · cases h; exact mvI (lv := 5) (ci := 6) (T := TX7) (N := 15) mw_X7_note rfl (by omega) (by decide) (by decide +kernel) (gtm 524 (by decide +kernel) (by decide +kernel)) rc_X7_note ok_X7_note
  · cases h; exact mvI (lv := 8) (ci := 7) (T := TX8) (N := 28) mw_X8_note rfl (by omega) (by decide) (by decide +kernel) (gtm 989 (by decide +kernel) (by decide +kernel)) rc_X8_note ok_X8_note
  · cases h; exact mvI (lv := 5) (ci := 6) (T := TX7) (N := 15) mw_X7_chord rfl (by omega) (by decide) (by decide +kernel) (gtm 588 (by decide +kernel) (by decide +kernel)) rc_X7_chord ok_X7_chord
  · cases h; exact mvI (lv := 8) (ci := 7) (T := TX8) (N := 28) mw_X8_chord rfl (by omega) (by decide) (by decide +kernel) (gtm 1028 (by decide +kernel) (by decide +kernel)) rc_X8_chord ok_X8_chord
  · cases h; exact mvI (lv := 6) (ci := 6) (T := TX7) (N := 15) mw_X7_whole rfl (by omega) (by decide) (by decide +kernel) (gtm 594 (by decide +kernel) (by decide +kernel)) rc_X7_whole ok_X7_whole
  · cases h; exact mvI (lv := 9) (ci := 7) (T := TX8) (N := 28) mw_X8_whole rfl (by omega) (by decide) (by decide +kernel) (gtm 1036 (by decide +kernel) (by decide +kernel)) rc_X8_whole ok_X8_whole
  · cases h; exact mvI (lv := 3) (ci := 6) (T := TX7) (N := 15) mw_X7_price rfl (by omega) (by decide) (by decide +kernel) (gtm 619 (by decide +kernel) (by decide +kernel)) rc_X7_price ok_X7_price
  · cases h; exact mvI (lv := 5) (ci := 7) (T := TX8) (N := 28) mw_X8_price rfl (by omega) (by decide) (by decide +kernel) (gtm 1060 (by decide +kernel) (by decide +kernel)) rc_X8_price ok_X8_price
  · cases h; exact mvI (lv := 4) (ci := 6) (T := TX7) (N := 15) mw_X7_cost rfl (by omega) (by decide) (by decide +kernel) (gtm 623 (by decide +kernel) (by decide +kernel)) rc_X7_cost ok_X7_cost
  · cases h; exact mvI (lv := 5) (ci := 7) (T := TX8) (N := 28) mw_X8_cost rfl (by omega) (by decide) (by decide +kernel) (gtm 1064 (by decide +kernel) (by decide +kernel)) rc_X8_cost ok_X8_cost
  · cases h; exact mvI (lv := 6) (ci := 6) (T := TX7) (N := 15) mw_X7_fits rfl (by omega) (by decide) (by decide +kernel) (gtm 641 (by decide +kernel) (by decide +kernel)) rc_X7_fits ok_X7_fits
  · cases h; exact mvI (lv := 8) (ci := 7) (T := TX8) (N := 28) mw_X8_fits rfl (by omega) (by decide) (by decide +kernel) (gtm 1068 (by decide +kernel) (by decide +kernel)) rc_X8_fits ok_X8_fits
  · cases h; exact mvI (lv := 5) (ci := 6) (T := TX7) (N := 15) mw_X7_drawn rfl (by omega) (by decide) (by decide +kernel) (gtm 661 (by decide +kernel) (by decide +kernel)) rc_X7_drawn ok_X7_drawn
  · cases h; exact mvI (lv := 8) (ci := 7) (T := TX8) (N := 28) mw_X8_drawn rfl (by omega) (by decide) (by decide +kernel) (gtm 1076 (by decide +kernel) (by decide +kernel)) rc_X8_drawn ok_X8_drawn
  · cases h; exact mvI (lv := 1) (ci := 6) (T := TX7) (N := 15) mw_X7_image rfl (by omega) (by decide) (by decide +kernel) (gtm 674 (by decide +kernel) (by decide +kernel)) rc_X7_image ok_X7_image
  · cases h; exact mvI (lv := 1) (ci := 7) (T := TX8) (N := 28) mw_X8_image rfl (by omega) (by decide) (by decide +kernel) (gtm 1085 (by decide +kernel) (by decide +kernel)) rc_X8_image ok_X8_image
  · cases h; exact mvI (lv := 1) (ci := 6) (T := TX7) (N := 15) mw_X7_restore rfl (by omega) (by decide) (by decide +kernel) (gtm 678 (by decide +kernel) (by decide +kernel)) rc_X7_restore ok_X7_restore
  · cases h; exact mvI (lv := 1) (ci := 7) (T := TX8) (N := 28) mw_X8_restore rfl (by omega) (by decide) (by decide +kernel) (gtm 1089 (by decide +kernel) (by decide +kernel)) rc_X8_restore ok_X8_restore
  · cases h; exact mvI (lv := 1) (ci := 6) (T := TX7) (N := 15) mw_X7_kind rfl (by omega) (by decide) (by decide +kernel) (gtm 682 (by decide +kernel) (by decide +kernel)) rc_X7_kind ok_X7_kind
  · cases h; exact mvI (lv := 2) (ci := 7) (T := TX8) (N := 28) mw_X8_kind rfl (by omega) (by decide) (by decide +kernel) (gtm 1093 (by decide +kernel) (by decide +kernel)) rc_X8_kind ok_X8_kind
  · cases h; exact mvI (lv := 1) (ci := 6) (T := TX7) (N := 15) mw_X7_as rfl (by omega) (by decide) (by decide +kernel) (gtm 686 (by decide +kernel) (by decide +kernel)) rc_X7_as ok_X7_as
  · cases h; exact mvI (lv := 2) (ci := 7) (T := TX8) (N := 28) mw_X8_as rfl (by omega) (by decide) (by decide +kernel) (gtm 1101 (by decide +kernel) (by decide +kernel)) rc_X8_as ok_X8_as
  · cases h; exact mvI (lv := 14) (ci := 6) (T := TX7) (N := 15) mw_X7_ask rfl (by omega) (by decide) (by decide +kernel) (gtm 695 (by decide +kernel) (by decide +kernel)) rc_X7_ask ok_X7_ask
  · cases h; exact mvI (lv := 10) (ci := 7) (T := TX8) (N := 28) mw_X8_ask rfl (by omega) (by decide) (by decide +kernel) (gtm 1105 (by decide +kernel) (by decide +kernel)) rc_X8_ask ok_X8_ask
  · cases h; exact mvI (lv := 0) (ci := 6) (T := TX7) (N := 15) mw_X7_trace rfl (by omega) (by decide) (by decide +kernel) (gtm 715 (by decide +kernel) (by decide +kernel)) rc_X7_trace ok_X7_trace
  · cases h; exact mvI (lv := 1) (ci := 7) (T := TX8) (N := 28) mw_X8_trace rfl (by omega) (by decide) (by decide +kernel) (gtm 1129 (by decide +kernel) (by decide +kernel)) rc_X8_trace ok_X8_trace
  · cases h; exact mvI (lv := 1) (ci := 6) (T := TX7) (N := 15) mw_X7_count rfl (by omega) (by decide) (by decide +kernel) (gtm 719 (by decide +kernel) (by decide +kernel)) rc_X7_count ok_X7_count
  · cases h; exact mvI (lv := 1) (ci := 7) (T := TX8) (N := 28) mw_X8_count rfl (by omega) (by decide) (by decide +kernel) (gtm 1133 (by decide +kernel) (by decide +kernel)) rc_X8_count ok_X8_count
  · cases h; exact mvI (lv := 0) (ci := 6) (T := TX7) (N := 15) mw_X7_status rfl (by omega) (by decide) (by decide +kernel) (gtm 727 (by decide +kernel) (by decide +kernel)) rc_X7_status ok_X7_status
  · cases h; exact mvI (lv := 0) (ci := 7) (T := TX8) (N := 28) mw_X8_status rfl (by omega) (by decide) (by decide +kernel) (gtm 1137 (by decide +kernel) (by decide +kernel)) rc_X8_status ok_X8_status
  · cases h
theorem mV_R {l : Launch} {n : Nat} {R : Room} {own : String} {i : Nat} {e : Nat × Bool × MSpec} (h : mV l (rmOf n) own i e) (h1 : n + 1 ≤ R.frames) (h2 : 60 * (n + 1) ≤ R.locals) : mV l R own i e := by
  obtain ⟨n', y, bc, mL, rt, f1, f2, r⟩ := h
  refine ⟨n', y, bc, mL, rt, Nat.le_trans f1 h1, Nat.le_trans f2 h2, r⟩
/-- where it begins -/
def σ0 : HP := fun p j => if p = 0 ∧ (j = 9 ∨ j = 10) then 1 else if p = 4 then m1Z 8 j else if p = 59 then noZ 8 j else 0
theorem s0_z {p : Nat} (h0 : p ≠ 0) (h4 : p ≠ 4) (h59 : p ≠ 59) : σ0 p = fun _ => 0 := by
  funext j
  unfold σ0
  rw [if_neg (fun z => h0 z.1), if_neg h4, if_neg h59]
theorem okZ : okV Z0 := by
  unfold okV Z0
  simp
theorem vC_z {σ : HP} {p : Nat} (h0 : σ p = fun _ => 0) : vC σ p = Z0 := by
  funext k c
  rcases k with _ | _ | _ | _ | _ | _ | _ | k <;> simp only [vC, h0, Z0]
  · split <;> rfl
  all_goals first | rfl | (rw [if_neg (by omega)])
theorem vM_z {σ : HP} {w o : Nat} (h0 : σ w = fun _ => 0) : vM σ w o = Z0 := by
  funext k c
  rcases k with _ | _ | _ | _ | _ | _ | _ | k <;> simp only [vM, h0, Z0]
  · split <;> rfl
  all_goals first | rfl | (rw [if_neg (by omega)])
theorem co_z {σ : HP} {p : Nat} (h0 : σ p = fun _ => 0) : coOk σ p := by
  intro c j hc
  rw [h0] at hc
  have hc : (c : Int) < 0 := hc
  omega
theorem INV_0 : INV σ0 := by
  have z := fun (p : Nat) (h0 : p ≠ 0) (h4 : p ≠ 4) (h59 : p ≠ 59) => s0_z (p := p) h0 h4 h59
  have z0 : ∀ j, j ≠ 9 → j ≠ 10 → σ0 0 j = 0 := fun j h9 h10 => by
    unfold σ0
    rw [if_neg (by omega), if_neg (by decide), if_neg (by decide)]
  have z9 : σ0 0 9 = 1 := rfl
  have z10 : σ0 0 10 = 1 := rfl
  have z4 : ∀ j, j < 8 → σ0 4 j = -1 := fun j hj => by
    unfold σ0 m1Z
    rw [if_neg (by omega), if_pos rfl, if_pos hj]
  have z59 : ∀ j, j < 8 → σ0 59 j = -1000000 := fun j hj => by
    unfold σ0 noZ
    rw [if_neg (by omega), if_neg (by decide), if_pos rfl, if_pos hj]
  have v7 : vC σ0 7 = Z0 := vC_z (z 7 (by decide) (by decide) (by decide))
  have c0 : ∀ p j, p ≠ 0 → p ≠ 4 → p ≠ 59 → σ0 p j = 0 := fun p j h0 h4 h59 => by rw [z p h0 h4 h59]
  refine ⟨⟨⟨⟨fun r hr => ⟨by rw [z4 r hr]; decide, by rw [c0 3 r (by decide) (by decide) (by decide)]; decide⟩, fun j => by rw [c0 2 j (by decide) (by decide) (by decide)]; exact ⟨by decide, by decide⟩⟩, fun r hr => ⟨by rw [z59 r hr, z4 r hr, if_pos rfl], by rw [c0 60 r (by decide) (by decide) (by decide)]; decide, fun h => absurd (z4 r hr) h⟩, fun j => by rw [c0 61 j (by decide) (by decide) (by decide)]; exact ⟨by decide, by decide⟩⟩, ⟨⟨by rw [c0 5 1 (by decide) (by decide) (by decide)]; decide, fun j hj => by rw [c0 6 j (by decide) (by decide) (by decide)]; decide⟩, by rw [c0 58 6 (by decide) (by decide) (by decide), c0 5 1 (by decide) (by decide) (by decide)], by rw [z 63 (by decide) (by decide) (by decide), z 6 (by decide) (by decide) (by decide)]⟩, ⟨⟨by rw [v7]; exact okZ, co_z (z 7 (by decide) (by decide) (by decide)), Or.inr z9, Or.inr z10, fun h => by omega, fun h => by omega⟩, by rw [v7]; exact vM_z (z 64 (by decide) (by decide) (by decide))⟩, ⟨by rw [c0 58 17 (by decide) (by decide) (by decide), c0 38 0 (by decide) (by decide) (by decide)], by rw [c0 38 0 (by decide) (by decide) (by decide)]; decide, fun i hi => by rw [c0 38 0 (by decide) (by decide) (by decide)] at hi; omega⟩, ⟨?_, ?_⟩, ⟨by rw [c0 58 27 (by decide) (by decide) (by decide), c0 42 0 (by decide) (by decide) (by decide)], by rw [c0 42 0 (by decide) (by decide) (by decide)]; decide, fun j hj => by rw [c0 42 0 (by decide) (by decide) (by decide)] at hj; omega⟩, by rw [c0 58 7 (by decide) (by decide) (by decide), z0 13 (by decide) (by decide)]⟩, by rw [c0 58 4 (by decide) (by decide) (by decide), z0 14 (by decide) (by decide)]⟩
  · refine ⟨Or.inl (c0 69 0 (by decide) (by decide) (by decide)), by rw [vC_z (z 44 (by decide) (by decide) (by decide))]; exact okZ, co_z (z 44 (by decide) (by decide) (by decide)), ?_, fun h => ?_⟩
    · rw [c0 69 0 (by decide) (by decide) (by decide), c0 (44 + 7 * 0) 1 (by decide) (by decide) (by decide)]
    · rw [c0 69 0 (by decide) (by decide) (by decide)] at h
      omega
  · refine ⟨Or.inl (c0 69 1 (by decide) (by decide) (by decide)), by rw [vC_z (z 51 (by decide) (by decide) (by decide))]; exact okZ, co_z (z 51 (by decide) (by decide) (by decide)), ?_, fun h => ?_⟩
    · rw [c0 69 1 (by decide) (by decide) (by decide), c0 (44 + 7 * 1) 1 (by decide) (by decide) (by decide)]
    · rw [c0 69 1 (by decide) (by decide) (by decide)] at h
      omega
