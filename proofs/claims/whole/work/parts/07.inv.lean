/-! ===== call rules; what is given; arraycopy ===== -/
def am_ap (r : Option Value) (S : List Value) : List Value := match r with
  | none => S
  | some v => v :: S
theorem am_ap_eq (r : Option Value) (S : List Value) : r.toList ++ S = am_ap r S := by cases r <;> rfl
section IV
variable {z : Zz} {d kc ks : Nat} {mi : MI} {pc pc' : Nat} {L S : List Value} {lay : Lay} {mem : Mem} {Q : Option Value → Lay → Mem → Prop}
theorem am_room {m : MethodId} {pc : Nat} {ls : Array Slot} {st rest : List Value} {rv : Nat → Value} {ws : va_W} {S : List Value} (h : am_s rv ws S rest) (hc : (S.map (fun v => v.category)).sum ≤ 8) : 2 * (F0 m pc ls st).monitorRoom + (rest.map fun v => v.category).sum ≤ 8 := by
  rw [am_s.cat h]
  show 2 * 0 + _ ≤ 8
  omega
theorem s_invS {idx n d2 kc1 ks1 kcT ksT : Nat} {mi2 : MI} {As S' : List Value} (hd : decode mi.2.1 pc = .ok (.invokestatic idx, 3)) (hp : pc + 3 = pc') (hok : am_ok mi2 n) (hlk : Cond.methodLink mi.1.cls idx mi2.1 ∈ wok) (hst : Cond.static mi2.1 ∈ wok) (hd2 : d2 + 1 ≤ d) (hkc : kc1 + kc = kcT) (hks : ks1 + ks = ksT) (hpp : am_pp n [] S = (As, S')) (hn : As.length = n) (hcat : (S'.map (fun v => v.category)).sum ≤ 8) (hfit : (am_fl0 As).length ≤ mi2.2.2.1)
    (C : Sim z d2 kc1 ks1 mi2 0 (am_L0 mi2.2.2.1 As) [] lay mem (fun r lay' mem' => Sim z d kc ks mi pc' L (am_ap r S') lay' mem' Q)) : Sim z d kcT ksT mi pc L S lay mem Q := by
  intro p e R s m args below meth c D A rv H locs cells slots ls st ws X F hc hs h hL hS kk
  subst hp; subst hkc; subst hks
  have hsp := am_pp_spec n [] S As S' hpp
  rw [List.reverse_nil, List.nil_append] at hsp
  rw [← hsp] at hS
  obtain ⟨s1, rest, rfl, h1, hT⟩ := am_s.app hS
  have hA : am_s rv ws As s1.reverse := by
    have := h1.rev
    rwa [List.reverse_reverse] at this
  have hM := am_met hok.1 hfit C D rv ws H.size hA
  have hrun := va_runS (As := s1.reverse) (rest := rest) (g := F0 m pc ls (s1 ++ rest)) (e := e) (below := below) (meth := meth) (locs := locs) (cells := cells) (slots := slots) (H := H) ⟨F.1, F.2.1, F.2.2.1, F.2.2.2.2.1, F.2.2.2.2.2.1⟩ hM ⟨am_callB F.2.2.2.2.2.1 hok (F.2.2.2.2.2.1 _ hlk) hd2 F.2.2.2.2.2.2.2.2.1 F.2.2.2.2.2.2.2.2.2.1, F.2.2.2.2.2.1 _ hst⟩ ⟨am_Pc_blind, am_Pc_of F h⟩ rfl (by rw [hA.len]; exact hn) hL.1 (by rw [List.reverse_reverse]) (am_room hT hcat) hd ⟨by omega, by omega⟩
  exact am_back hrun F hc hs h hL hT (fun r lay' mem' q => by rw [am_ap_eq]; exact q) kk
theorem s_invSN {idx n d2 kc1 ks1 kcT ksT : Nat} {host : String} {mi2 : MI} {As S' : List Value} (hd : decode mi.2.1 pc = .ok (.invokestatic idx, 3)) (hp : pc + 3 = pc') (hok : am_ok mi2 n) (hlk : Cond.methodLinkNest mi.1.cls idx mi2.1 host ∈ am_nws) (hst : Cond.static mi2.1 ∈ wok) (hd2 : d2 + 1 ≤ d) (hkc : kc1 + kc = kcT) (hks : ks1 + ks = ksT) (hpp : am_pp n [] S = (As, S')) (hn : As.length = n) (hcat : (S'.map (fun v => v.category)).sum ≤ 8) (hfit : (am_fl0 As).length ≤ mi2.2.2.1)
    (C : Sim z d2 kc1 ks1 mi2 0 (am_L0 mi2.2.2.1 As) [] lay mem (fun r lay' mem' => Sim z d kc ks mi pc' L (am_ap r S') lay' mem' Q)) : Sim z d kcT ksT mi pc L S lay mem Q := by
  intro p e R s m args below meth c D A rv H locs cells slots ls st ws X F hc hs h hL hS kk
  subst hp; subst hkc; subst hks
  have hsp := am_pp_spec n [] S As S' hpp
  rw [List.reverse_nil, List.nil_append] at hsp
  rw [← hsp] at hS
  obtain ⟨s1, rest, rfl, h1, hT⟩ := am_s.app hS
  have hA : am_s rv ws As s1.reverse := by
    have := h1.rev
    rwa [List.reverse_reverse] at this
  have hM := am_met hok.1 hfit C D rv ws H.size hA
  have hnw := F.2.2.2.2.2.2.2.2.2.2.2.2.2.2.2.2.2.2.1 _ hlk
  have hrun := va_runSN (As := s1.reverse) (rest := rest) (g := F0 m pc ls (s1 ++ rest)) (e := e) (below := below) (meth := meth) (locs := locs) (cells := cells) (slots := slots) (H := H) ⟨F.1, F.2.1, F.2.2.1, F.2.2.2.2.1, F.2.2.2.2.2.1⟩ hM ⟨am_callN F.2.2.2.2.2.1 hok hnw hd2 F.2.2.2.2.2.2.2.2.1 F.2.2.2.2.2.2.2.2.2.1, F.2.2.2.2.2.1 _ hst, trivial⟩ ⟨am_Pc_blind, am_Pc_of F h⟩ rfl (by rw [hA.len]; exact hn) hL.1 (by rw [List.reverse_reverse]) (am_room hT hcat) hd ⟨by omega, by omega⟩
  exact am_back hrun F hc hs h hL hT (fun r lay' mem' q => by rw [am_ap_eq]; exact q) kk
theorem s_invV {idx n d2 kc1 ks1 kcT ksT id ci nn N : Nat} {rf : Nat → Value} {T : u_T} {mi2 : MI} {As S' : List Value} (hd : decode mi.2.1 pc = .ok (.invokevirtual idx, 3)) (hp : pc + 3 = pc') (hok : am_ok mi2 n) (hlk : Cond.methodLink mi.1.cls idx mi2.1 ∈ wok) (hin : Cond.instanceMethod mi2.1 ∈ wok) (hsel : Cond.selects mi2.1.cls mi2.1 mi2.1 ∈ wok) (hd2 : d2 + 1 ≤ d) (hkc : kc1 + kc = kcT) (hks : ks1 + ks = ksT) (hpp : am_pp (n + 1) [] S = (.ref id :: As, S')) (hn : As.length = n) (hc : lay[id]? = some (ci, nn, rf)) (hq : classes[ci]? = some (mi2.1.cls, T, N)) (hcat : (S'.map (fun v => v.category)).sum ≤ 8) (hfit : (am_fl0 (.ref id :: As)).length ≤ mi2.2.2.1)
    (C : Sim z d2 kc1 ks1 mi2 0 (am_L0 mi2.2.2.1 (.ref id :: As)) [] lay mem (fun r lay' mem' => Sim z d kc ks mi pc' L (am_ap r S') lay' mem' Q)) : Sim z d kcT ksT mi pc L S lay mem Q := by
  intro p e R s m args below meth c D A rv H locs cells slots ls st ws X F hc1 hs h hL hS kk
  subst hp; subst hkc; subst hks
  have hsp := am_pp_spec (n + 1) [] S (.ref id :: As) S' hpp
  rw [List.reverse_nil, List.nil_append, List.reverse_cons, List.append_assoc] at hsp
  rw [← hsp] at hS
  obtain ⟨s1, rest1, rfl, h1, hT1⟩ := am_s.app hS
  obtain ⟨w, rest, rfl, hv, hT⟩ := am_s.cons (show am_s rv ws (.ref id :: S') rest1 from hT1)
  obtain ⟨b, e1, hw, rfl⟩ := hv
  obtain ⟨b2, fs, hw2, -, -⟩ := am_obj h hq hc
  cases hw2.symm.trans hw
  have hA : am_s rv ws As s1.reverse := by
    have := h1.rev
    rwa [List.reverse_reverse] at this
  have hA2 : am_s rv ws (.ref id :: As) (.ref b :: s1.reverse) := ⟨⟨b, _, hw, rfl⟩, hA⟩
  have hM := am_met hok.1 hfit C D rv ws H.size hA2
  have hrun := va_runV (C := mi2.1.cls) (b := b) (As := s1.reverse) (rest := rest) (g := F0 m pc ls (s1 ++ .ref b :: rest)) (e := e) (below := below) (meth := meth) (locs := locs) (cells := cells) (slots := slots) (H := H) ⟨F.1, F.2.1, F.2.2.1, F.2.2.2.2.1, F.2.2.2.2.2.1⟩ hM ⟨am_callB F.2.2.2.2.2.1 hok (F.2.2.2.2.2.1 _ hlk) hd2 F.2.2.2.2.2.2.2.2.1 F.2.2.2.2.2.2.2.2.2.1, F.2.2.2.2.2.1 _ hin, F.2.2.2.2.2.1 _ hsel⟩ ⟨am_Pc_blind, va_recv F.2.2.2.2.2.2.2.2.2.2.1 h.1 hq hw, am_Pc_of F h⟩ rfl (by rw [hA.len]; exact hn) hL.1 (by rw [List.reverse_reverse]) (am_room hT hcat) hd ⟨by omega, by omega⟩
  exact am_back hrun F hc1 hs h hL hT (fun r lay' mem' q => by rw [am_ap_eq]; exact q) kk
theorem s_invI {idx n d2 kc1 ks1 kcT ksT id : Nat} {mi2 : MI} {As S' : List Value} (hd : decode mi.2.1 pc = .ok (.invokespecial idx, 3)) (hp : pc + 3 = pc') (hok : am_ok mi2 n) (hret : mi2.2.2.2 = none) (hnm : mi2.1.name = "<init>") (hlk : Cond.methodLink mi.1.cls idx mi2.1 ∈ wok) (hin : Cond.instanceMethod mi2.1 ∈ wok) (hd2 : d2 + 1 ≤ d) (hkc : kc1 + kc = kcT) (hks : ks1 + ks = ksT) (hpp : am_pp (n + 1) [] S = (.ref id :: As, S')) (hn : As.length = n) (hcat : (S'.map (fun v => v.category)).sum ≤ 8) (hfit : (am_fl0 (.ref id :: As)).length ≤ mi2.2.2.1)
    (C : Sim z d2 kc1 ks1 mi2 0 (am_L0 mi2.2.2.1 (.ref id :: As)) [] lay mem (fun r lay' mem' => Sim z d kc ks mi pc' L (am_ap r S') lay' mem' Q)) : Sim z d kcT ksT mi pc L S lay mem Q := by
  intro p e R s m args below meth c D A rv H locs cells slots ls st ws X F hc1 hs h hL hS kk
  subst hp; subst hkc; subst hks
  have hsp := am_pp_spec (n + 1) [] S (.ref id :: As) S' hpp
  rw [List.reverse_nil, List.nil_append, List.reverse_cons, List.append_assoc] at hsp
  rw [← hsp] at hS
  obtain ⟨s1, rest1, rfl, h1, hT1⟩ := am_s.app hS
  obtain ⟨w, rest, rfl, hv, hT⟩ := am_s.cons (show am_s rv ws (.ref id :: S') rest1 from hT1)
  obtain ⟨b, e1, hw, rfl⟩ := hv
  have hA : am_s rv ws As s1.reverse := by
    have := h1.rev
    rwa [List.reverse_reverse] at this
  have hA2 : am_s rv ws (.ref id :: As) (.ref b :: s1.reverse) := ⟨⟨b, _, hw, rfl⟩, hA⟩
  have hM := am_met hok.1 hfit C D rv ws H.size hA2
  have hCB := am_callB (R := R) (D := d) (kc := kc1) (ks := ks1) F.2.2.2.2.2.1 hok (F.2.2.2.2.2.1 _ hlk) hd2 F.2.2.2.2.2.2.2.2.1 F.2.2.2.2.2.2.2.2.2.1
  rw [hret] at hCB
  have hrun := va_runI (b := b) (As := s1.reverse) (rest := rest) (g := F0 m pc ls (s1 ++ .ref b :: rest)) (e := e) (below := below) (meth := meth) (locs := locs) (cells := cells) (slots := slots) (H := H) ⟨F.1, F.2.1, F.2.2.1, F.2.2.2.2.1, F.2.2.2.2.2.1⟩ hM ⟨hCB, hnm, F.2.2.2.2.2.1 _ hin⟩ ⟨am_Pc_blind, am_Pc_of F h⟩ rfl (by rw [hA.len]; exact hn) hL.1 (by rw [List.reverse_reverse]) (am_room hT hcat) hd ⟨by omega, by omega⟩
  exact am_back hrun F hc1 hs h hL hT (fun r lay' mem' q => by rw [am_ap_eq]; exact q) kk
theorem s_invIN {idx n d2 kc1 ks1 kcT ksT id : Nat} {host : String} {mi2 : MI} {As S' : List Value} (hd : decode mi.2.1 pc = .ok (.invokespecial idx, 3)) (hp : pc + 3 = pc') (hok : am_ok mi2 n) (hret : mi2.2.2.2 = none) (hnm : mi2.1.name = "<init>") (hlk : Cond.methodLinkNest mi.1.cls idx mi2.1 host ∈ am_nws) (hin : Cond.instanceMethod mi2.1 ∈ wok) (hd2 : d2 + 1 ≤ d) (hkc : kc1 + kc = kcT) (hks : ks1 + ks = ksT) (hpp : am_pp (n + 1) [] S = (.ref id :: As, S')) (hn : As.length = n) (hcat : (S'.map (fun v => v.category)).sum ≤ 8) (hfit : (am_fl0 (.ref id :: As)).length ≤ mi2.2.2.1)
    (C : Sim z d2 kc1 ks1 mi2 0 (am_L0 mi2.2.2.1 (.ref id :: As)) [] lay mem (fun r lay' mem' => Sim z d kc ks mi pc' L (am_ap r S') lay' mem' Q)) : Sim z d kcT ksT mi pc L S lay mem Q := by
  intro p e R s m args below meth c D A rv H locs cells slots ls st ws X F hc1 hs h hL hS kk
  subst hp; subst hkc; subst hks
  have hsp := am_pp_spec (n + 1) [] S (.ref id :: As) S' hpp
  rw [List.reverse_nil, List.nil_append, List.reverse_cons, List.append_assoc] at hsp
  rw [← hsp] at hS
  obtain ⟨s1, rest1, rfl, h1, hT1⟩ := am_s.app hS
  obtain ⟨w, rest, rfl, hv, hT⟩ := am_s.cons (show am_s rv ws (.ref id :: S') rest1 from hT1)
  obtain ⟨b, e1, hw, rfl⟩ := hv
  have hA : am_s rv ws As s1.reverse := by
    have := h1.rev
    rwa [List.reverse_reverse] at this
  have hA2 : am_s rv ws (.ref id :: As) (.ref b :: s1.reverse) := ⟨⟨b, _, hw, rfl⟩, hA⟩
  have hM := am_met hok.1 hfit C D rv ws H.size hA2
  have hnw := F.2.2.2.2.2.2.2.2.2.2.2.2.2.2.2.2.2.2.1 _ hlk
  have hCB := am_callN (R := R) (D := d) (kc := kc1) (ks := ks1) F.2.2.2.2.2.1 hok hnw hd2 F.2.2.2.2.2.2.2.2.1 F.2.2.2.2.2.2.2.2.2.1
  rw [hret] at hCB
  have hrun := va_runIN (b := b) (As := s1.reverse) (rest := rest) (g := F0 m pc ls (s1 ++ .ref b :: rest)) (e := e) (below := below) (meth := meth) (locs := locs) (cells := cells) (slots := slots) (H := H) ⟨F.1, F.2.1, F.2.2.1, F.2.2.2.2.1, F.2.2.2.2.2.1⟩ hM ⟨hCB, hnm, F.2.2.2.2.2.1 _ hin⟩ ⟨am_Pc_blind, am_Pc_of F h⟩ rfl (by rw [hA.len]; exact hn) hL.1 (by rw [List.reverse_reverse]) (am_room hT hcat) hd ⟨by omega, by omega⟩
  exact am_back hrun F hc1 hs h hL hT (fun r lay' mem' q => by rw [am_ap_eq]; exact q) kk
/-- a call on one of the two String constants -/
theorem s_invVs {idx n d2 kc1 ks1 kcT ksT j : Nat} {mi2 : MI} {As S' : List Value} (hd : decode mi.2.1 pc = .ok (.invokevirtual idx, 3)) (hp : pc + 3 = pc') (hok : am_ok mi2 n) (hlk : Cond.methodLink mi.1.cls idx mi2.1 ∈ wok) (hin : Cond.instanceMethod mi2.1 ∈ wok) (hsel : Cond.selects mi2.1.cls mi2.1 mi2.1 ∈ wok) (hd2 : d2 + 1 ≤ d) (hkc : kc1 + kc = kcT) (hks : ks1 + ks = ksT) (hpp : am_pp (n + 1) [] S = (.retAddr (3 + j) :: As, S')) (hj : j < 2) (hcl : mi2.1.cls = "java/lang/String") (hn : As.length = n) (hcat : (S'.map (fun v => v.category)).sum ≤ 8) (hfit : (am_fl0 (.retAddr (3 + j) :: As)).length ≤ mi2.2.2.1)
    (C : Sim z d2 kc1 ks1 mi2 0 (am_L0 mi2.2.2.1 (.retAddr (3 + j) :: As)) [] lay mem (fun r lay' mem' => Sim z d kc ks mi pc' L (am_ap r S') lay' mem' Q)) : Sim z d kcT ksT mi pc L S lay mem Q := by
  intro p e R s m args below meth c D A rv H locs cells slots ls st ws X F hc1 hs h hL hS kk
  subst hp; subst hkc; subst hks
  have hsp := am_pp_spec (n + 1) [] S (.retAddr (3 + j) :: As) S' hpp
  rw [List.reverse_nil, List.nil_append, List.reverse_cons, List.append_assoc] at hsp
  rw [← hsp] at hS
  obtain ⟨s1, rest1, rfl, h1, hT1⟩ := am_s.app hS
  obtain ⟨w, rest, rfl, hv, hT⟩ := am_s.cons (show am_s rv ws (.retAddr (3 + j) :: S') rest1 from hT1)
  obtain ⟨adK, adV, d1, d2', d3, d4, d5, d6, d7⟩ := F.2.2.2.2.2.2.2.2.2.2.2.2.2.2.2.1
  have hrv : rv (3 + j) = .ref (adK j) := by
    match j, hj with
    | 0, _ => exact d2'
    | 1, _ => exact d3
  have hv1 := hv.1
  rw [hrv] at hv1
  subst hv1
  have hA : am_s rv ws As s1.reverse := by
    have := h1.rev
    rwa [List.reverse_reverse] at this
  have hA2 : am_s rv ws (.retAddr (3 + j) :: As) (.ref (adK j) :: s1.reverse) := ⟨hv, hA⟩
  have hM := am_met hok.1 hfit C D rv ws H.size hA2
  have hrc := vk_recv d1 hj h.2.2.1
  rw [← hcl] at hrc
  have hrun := va_runV (C := mi2.1.cls) (b := adK j) (As := s1.reverse) (rest := rest) (g := F0 m pc ls (s1 ++ .ref (adK j) :: rest)) (e := e) (below := below) (meth := meth) (locs := locs) (cells := cells) (slots := slots) (H := H) ⟨F.1, F.2.1, F.2.2.1, F.2.2.2.2.1, F.2.2.2.2.2.1⟩ hM ⟨am_callB F.2.2.2.2.2.1 hok (F.2.2.2.2.2.1 _ hlk) hd2 F.2.2.2.2.2.2.2.2.1 F.2.2.2.2.2.2.2.2.2.1, F.2.2.2.2.2.1 _ hin, F.2.2.2.2.2.1 _ hsel⟩ ⟨am_Pc_blind, hrc, am_Pc_of F h⟩ rfl (by rw [hA.len]; exact hn) hL.1 (by rw [List.reverse_reverse]) (am_room hT hcat) hd ⟨by omega, by omega⟩
  exact am_back hrun F hc1 hs h hL hT (fun r lay' mem' q => by rw [am_ap_eq]; exact q) kk
theorem s_objInit {idx id : Nat} (hd : decode mi.2.1 pc = .ok (.invokespecial idx, 3)) (hp : pc + 3 = pc') (hlk : Cond.methodLink mi.1.cls idx Lib.objectInit ∈ wok) (hin : Cond.instanceMethod Lib.objectInit ∈ wok) (hco : Cond.code Lib.objectInit ⟨#[0xb1]⟩ 1 none ∈ wok) (hd1 : 1 ≤ d) (hcat : (S.map (fun v => v.category)).sum ≤ 8) (K : Sim z d kc ks mi pc' L S lay mem Q) : Sim z d kc ks mi pc L (.ref id :: S) lay mem Q := by
  intro p e R s m args below meth c D A rv H locs cells slots ls st ws X F hc1 hs h hL hS kk
  subst hp
  obtain ⟨w, rest, rfl, hv, hT⟩ := am_s.cons hS
  obtain ⟨b, e1, hw, rfl⟩ := hv
  have hr := am_room (m := m) (pc := pc) (ls := ls) (st := .ref b :: rest) hT hcat
  have h9 := F.2.2.2.2.2.2.2.2.1
  have h10 := F.2.2.2.2.2.2.2.2.2.1
  exact W.objInit F.1 F.2.1 F.2.2.2.2.1 (F.2.2.2.2.2.1 _ hlk) (F.2.2.2.2.2.1 _ hin) (F.2.2.2.2.2.1 _ hco) rfl (by rw [F.2.2.1]; exact hL.1) rfl hd (by omega) (by omega) (K p e R s m args below meth c D A rv H locs cells slots ls _ ws X F hc1 hs h hL hT kk)
theorem s_gGre {idx : Nat} (hd : decode mi.2.1 pc = .ok (.getstatic idx, 3)) (hp : pc + 3 = pc') (hlk : Cond.fieldLink mi.1.cls idx "EdgesOff" "GREATEST" "[I" ∈ wok) (K : Sim z d kc ks mi pc' L (.retAddr 0 :: S) lay mem Q) : Sim z d kc ks mi pc L S lay mem Q := by
  intro p e R s m args below meth c D A rv H locs cells slots ls st ws X F hc1 hs h hL hS kk
  subst hp
  obtain ⟨t, r0, hz, ht⟩ := F.2.2.2.2.2.2.2.2.2.2.2.2.1
  exact va_gets F.1 F.2.1 hz h.2.2.1 F.2.2.2.2.1 (F.2.2.2.2.2.1 _ hlk) (fun _ h9 => h9) hd (K p e R s m args below meth c D A rv H locs cells slots ls _ ws X F hc1 hs h hL ⟨⟨r0.symm, Or.inr ⟨t, rfl⟩⟩, hS⟩ kk)
theorem s_gGreN {idx : Nat} {host : String} (hd : decode mi.2.1 pc = .ok (.getstatic idx, 3)) (hp : pc + 3 = pc') (hlk : Cond.fieldLinkNest mi.1.cls idx "EdgesOff" "GREATEST" "[I" host ∈ am_nws) (K : Sim z d kc ks mi pc' L (.retAddr 0 :: S) lay mem Q) : Sim z d kc ks mi pc L S lay mem Q := by
  intro p e R s m args below meth c D A rv H locs cells slots ls st ws X F hc1 hs h hL hS kk
  subst hp
  obtain ⟨t, r0, hz, ht⟩ := F.2.2.2.2.2.2.2.2.2.2.2.2.1
  have hnw := F.2.2.2.2.2.2.2.2.2.2.2.2.2.2.2.2.2.2.1 _ hlk
  exact va_getsN F.1 F.2.1 hz h.2.2.1 F.2.2.2.2.1 (va_Nw.use rfl hnw) (fun _ h9 => h9) hd (K p e R s m args below meth c D A rv H locs cells slots ls _ ws X F hc1 hs h hL ⟨⟨r0.symm, Or.inr ⟨t, rfl⟩⟩, hS⟩ kk)
theorem s_gKab {idx : Nat} (hd : decode mi.2.1 pc = .ok (.getstatic idx, 3)) (hp : pc + 3 = pc') (hlk : Cond.fieldLink mi.1.cls idx "EdgesOff" "KIND_ABOVE" "[I" ∈ wok) (K : Sim z d kc ks mi pc' L (.retAddr 1 :: S) lay mem Q) : Sim z d kc ks mi pc L S lay mem Q := by
  intro p e R s m args below meth c D A rv H locs cells slots ls st ws X F hc1 hs h hL hS kk
  subst hp
  obtain ⟨t, r0, hz, ht⟩ := F.2.2.2.2.2.2.2.2.2.2.2.2.2.1
  exact va_gets F.1 F.2.1 hz h.2.2.1 F.2.2.2.2.1 (F.2.2.2.2.2.1 _ hlk) (fun _ h9 => h9) hd (K p e R s m args below meth c D A rv H locs cells slots ls _ ws X F hc1 hs h hL ⟨⟨r0.symm, Or.inr ⟨t, rfl⟩⟩, hS⟩ kk)
theorem s_gCmp {idx : Nat} (hd : decode mi.2.1 pc = .ok (.getstatic idx, 3)) (hp : pc + 3 = pc') (hlk : Cond.fieldLink mi.1.cls idx "java/lang/String" "COMPACT_STRINGS" "Z" ∈ wok) (K : Sim z d kc ks mi pc' L (.int 1 :: S) lay mem Q) : Sim z d kc ks mi pc L S lay mem Q := by
  intro p e R s m args below meth c D A rv H locs cells slots ls st ws X F hc1 hs h hL hS kk
  subst hp
  exact va_gets F.1 F.2.1 F.2.2.2.2.2.2.2.2.2.2.2.2.2.2.2.2.1 h.2.2.1 F.2.2.2.2.1 (F.2.2.2.2.2.1 _ hlk) (fun _ h9 => h9) hd (K p e R s m args below meth c D A rv H locs cells slots ls _ ws X F hc1 hs h hL ⟨rfl, hS⟩ kk)
theorem s_gFmt {idx : Nat} (hd : decode mi.2.1 pc = .ok (.getstatic idx, 3)) (hp : pc + 3 = pc') (hlk : Cond.fieldLink mi.1.cls idx "jdk/internal/util/Preconditions" "SIOOBE_FORMATTER" "Ljava/util/function/BiFunction;" ∈ wok) (K : Sim z d kc ks mi pc' L (.retAddr 7 :: S) lay mem Q) : Sim z d kc ks mi pc L S lay mem Q := by
  intro p e R s m args below meth c D A rv H locs cells slots ls st ws X F hc1 hs h hL hS kk
  subst hp
  obtain ⟨hz, hr⟩ := F.2.2.2.2.2.2.2.2.2.2.2.2.2.2.2.2.2.1
  exact va_gets F.1 F.2.1 hz h.2.2.1 F.2.2.2.2.1 (F.2.2.2.2.2.1 _ hlk) (fun _ h9 => h9) hd (K p e R s m args below meth c D A rv H locs cells slots ls _ ws X F hc1 hs h hL ⟨⟨rfl, hr⟩, hS⟩ kk)
theorem s_tald0 {i : Int32} (hd : decode mi.2.1 pc = .ok (.iaload, 1)) (hp : pc + 1 = pc') (hin : vp_in i 6) (K : Sim z d kc ks mi pc' L (.int (am_gre i.toNatClampNeg) :: S) lay mem Q) : Sim z d kc ks mi pc L (.int i :: .retAddr 0 :: S) lay mem Q := by
  intro p e R s m args below meth c D A rv H locs cells slots ls st ws X F hc1 hs h hL hS kk
  subst hp
  obtain ⟨t, r0, hz, ht⟩ := F.2.2.2.2.2.2.2.2.2.2.2.2.1
  obtain ⟨w0, st0, rfl, v0, hT⟩ := am_s.cons hS
  obtain rfl : w0 = .int i := v0
  obtain ⟨w1, st1, rfl, v1, hT1⟩ := am_s.cons hT
  have hv1 := v1.1
  rw [r0] at hv1
  subst hv1
  exact va_ti F.1 F.2.1 ht h.2.2.1 hin rfl hd (K p e R s m args below meth c D A rv H locs cells slots ls _ ws X F hc1 hs h hL ⟨rfl, hT1⟩ kk)
theorem s_tald1 {i : Int32} (hd : decode mi.2.1 pc = .ok (.iaload, 1)) (hp : pc + 1 = pc') (hin : vp_in i 6) (K : Sim z d kc ks mi pc' L (.int (am_kab i.toNatClampNeg) :: S) lay mem Q) : Sim z d kc ks mi pc L (.int i :: .retAddr 1 :: S) lay mem Q := by
  intro p e R s m args below meth c D A rv H locs cells slots ls st ws X F hc1 hs h hL hS kk
  subst hp
  obtain ⟨t, r0, hz, ht⟩ := F.2.2.2.2.2.2.2.2.2.2.2.2.2.1
  obtain ⟨w0, st0, rfl, v0, hT⟩ := am_s.cons hS
  obtain rfl : w0 = .int i := v0
  obtain ⟨w1, st1, rfl, v1, hT1⟩ := am_s.cons hT
  have hv1 := v1.1
  rw [r0] at hv1
  subst hv1
  exact va_ti F.1 F.2.1 ht h.2.2.1 hin rfl hd (K p e R s m args below meth c D A rv H locs cells slots ls _ ws X F hc1 hs h hL ⟨rfl, hT1⟩ kk)
theorem s_tald2 {i : Int32} (hd : decode mi.2.1 pc = .ok (.iaload, 1)) (hp : pc + 1 = pc') (hin : vp_in i z.2.1) (K : Sim z d kc ks mi pc' L (.int (z.2.2 i.toNatClampNeg) :: S) lay mem Q) : Sim z d kc ks mi pc L (.int i :: .retAddr 2 :: S) lay mem Q := by
  intro p e R s m args below meth c D A rv H locs cells slots ls st ws X F hc1 hs h hL hS kk
  subst hp
  obtain ⟨t, r0, ht⟩ := F.2.2.2.2.2.2.2.2.2.2.2.2.2.2.1
  obtain ⟨w0, st0, rfl, v0, hT⟩ := am_s.cons hS
  obtain rfl : w0 = .int i := v0
  obtain ⟨w1, st1, rfl, v1, hT1⟩ := am_s.cons hT
  have hv1 := v1.1
  rw [r0] at hv1
  subst hv1
  exact va_ti F.1 F.2.1 ht h.2.2.1 hin rfl hd (K p e R s m args below meth c D A rv H locs cells slots ls _ ws X F hc1 hs h hL ⟨rfl, hT1⟩ kk)
theorem s_tlen2 (hd : decode mi.2.1 pc = .ok (.arraylength, 1)) (hp : pc + 1 = pc') (K : Sim z d kc ks mi pc' L (.int (nI z.2.1) :: S) lay mem Q) : Sim z d kc ks mi pc L (.retAddr 2 :: S) lay mem Q := by
  intro p e R s m args below meth c D A rv H locs cells slots ls st ws X F hc1 hs h hL hS kk
  subst hp
  obtain ⟨t, r0, ht⟩ := F.2.2.2.2.2.2.2.2.2.2.2.2.2.2.1
  obtain ⟨w1, st1, rfl, v1, hT1⟩ := am_s.cons hS
  have hv1 := v1.1
  rw [r0] at hv1
  subst hv1
  exact va_tlen F.1 F.2.1 ht h.2.2.1 rfl hd (K p e R s m args below meth c D A rv H locs cells slots ls _ ws X F hc1 hs h hL ⟨rfl, hT1⟩ kk)
def am_sl (j : Nat) : Nat := ([96, 8] : List Nat).getD j 0
def am_sb (j i : Nat) : Int32 := (([am_byt am_txtW, am_byt am_txtS] : List (List Int32)).getD j []).getD i 0
theorem am_strs {A : Nat → Prop} {s : State} {rv : Nat → Value} {SL : Nat} {xs : Nat → Int32} (h : am_ro A s s.heap rv SL xs) {j : Nat} (hj : j < 2) : ∃ a b : Nat, rv (3 + j) = .ref a ∧ rv (5 + j) = .ref b ∧ va_OF "java/lang/String" "coder" "B" (.int 0) a A s s.heap ∧ va_OF "java/lang/String" "value" "[B" (.ref b) a A s s.heap ∧ va_T .byte b (am_sl j) (fun i => .int (am_sb j i)) A s s.heap := by
  obtain ⟨adK, adV, d1, d2, d3, d4, d5, d6, d7⟩ := h.2.2.2.1
  obtain ⟨-, h2, h3, h4⟩ := d1.1 j hj
  have h4' : va_T .byte (adV j) (am_sl j) (fun i => .int (am_sb j i)) A s s.heap := h4
  clear h4
  have e1 : rv (3 + j) = .ref (adK j) := by
    have : j = 0 ∨ j = 1 := by omega
    rcases this with rfl | rfl
    · exact d2
    · exact d3
  have e2 : rv (5 + j) = .ref (adV j) := by
    have : j = 0 ∨ j = 1 := by omega
    rcases this with rfl | rfl
    · exact d4
    · exact d5
  exact ⟨_, _, e1, e2, h2, h3, h4'⟩
theorem s_strc {idx j : Nat} (hj : j < 2) (hd : decode mi.2.1 pc = .ok (.getfield idx, 3)) (hp : pc + 3 = pc') (hlk : Cond.fieldLink mi.1.cls idx "java/lang/String" "coder" "B" ∈ wok) (K : Sim z d kc ks mi pc' L (.int 0 :: S) lay mem Q) : Sim z d kc ks mi pc L (.retAddr (3 + j) :: S) lay mem Q := by
  intro p e R s m args below meth c D A rv H locs cells slots ls st ws X F hc1 hs h hL hS kk
  subst hp
  obtain ⟨a, b, r1, r2, f1, f2, f3⟩ := am_strs F.2.2.2.2.2.2.2.2.2.2.2.2 hj
  obtain ⟨w1, st1, rfl, v1, hT1⟩ := am_s.cons hS
  have hv1 := v1.1
  rw [r1] at hv1
  subst hv1
  exact vk_getf F.1 F.2.1 f1 h.2.2.1 F.2.2.2.2.1 (F.2.2.2.2.2.1 _ hlk) (fun _ h9 => h9) hd (K p e R s m args below meth c D A rv H locs cells slots ls _ ws X F hc1 hs h hL ⟨rfl, hT1⟩ kk)
theorem s_strv {idx j : Nat} (hj : j < 2) (hd : decode mi.2.1 pc = .ok (.getfield idx, 3)) (hp : pc + 3 = pc') (hlk : Cond.fieldLink mi.1.cls idx "java/lang/String" "value" "[B" ∈ wok) (K : Sim z d kc ks mi pc' L (.retAddr (5 + j) :: S) lay mem Q) : Sim z d kc ks mi pc L (.retAddr (3 + j) :: S) lay mem Q := by
  intro p e R s m args below meth c D A rv H locs cells slots ls st ws X F hc1 hs h hL hS kk
  subst hp
  obtain ⟨a, b, r1, r2, f1, f2, f3⟩ := am_strs F.2.2.2.2.2.2.2.2.2.2.2.2 hj
  obtain ⟨w1, st1, rfl, v1, hT1⟩ := am_s.cons hS
  have hv1 := v1.1
  rw [r1] at hv1
  subst hv1
  exact vk_getf F.1 F.2.1 f2 h.2.2.1 F.2.2.2.2.1 (F.2.2.2.2.2.1 _ hlk) (fun _ h9 => h9) hd (K p e R s m args below meth c D A rv H locs cells slots ls _ ws X F hc1 hs h hL ⟨⟨r2.symm, Or.inr ⟨b, rfl⟩⟩, hT1⟩ kk)
theorem s_tbald {j : Nat} {i : Int32} (hj : j < 2) (hd : decode mi.2.1 pc = .ok (.baload, 1)) (hp : pc + 1 = pc') (hin : vp_in i (am_sl j)) (K : Sim z d kc ks mi pc' L (.int (am_sb j i.toNatClampNeg) :: S) lay mem Q) : Sim z d kc ks mi pc L (.int i :: .retAddr (5 + j) :: S) lay mem Q := by
  intro p e R s m args below meth c D A rv H locs cells slots ls st ws X F hc1 hs h hL hS kk
  subst hp
  obtain ⟨a, b, r1, r2, f1, f2, f3⟩ := am_strs F.2.2.2.2.2.2.2.2.2.2.2.2 hj
  obtain ⟨w0, st0, rfl, v0, hT⟩ := am_s.cons hS
  obtain rfl : w0 = .int i := v0
  obtain ⟨w1, st1, rfl, v1, hT1⟩ := am_s.cons hT
  have hv1 := v1.1
  rw [r2] at hv1
  subst hv1
  exact va_tb F.1 F.2.1 f3 h.2.2.1 hin rfl hd (K p e R s m args below meth c D A rv H locs cells slots ls _ ws X F hc1 hs h hL ⟨rfl, hT1⟩ kk)
theorem s_tblen {j : Nat} (hj : j < 2) (hd : decode mi.2.1 pc = .ok (.arraylength, 1)) (hp : pc + 1 = pc') (K : Sim z d kc ks mi pc' L (.int (nI (am_sl j)) :: S) lay mem Q) : Sim z d kc ks mi pc L (.retAddr (5 + j) :: S) lay mem Q := by
  intro p e R s m args below meth c D A rv H locs cells slots ls st ws X F hc1 hs h hL hS kk
  subst hp
  obtain ⟨a, b, r1, r2, f1, f2, f3⟩ := am_strs F.2.2.2.2.2.2.2.2.2.2.2.2 hj
  obtain ⟨w1, st1, rfl, v1, hT1⟩ := am_s.cons hS
  have hv1 := v1.1
  rw [r2] at hv1
  subst hv1
  exact va_tlen F.1 F.2.1 f3 h.2.2.1 rfl hd (K p e R s m args below meth c D A rv H locs cells slots ls _ ws X F hc1 hs h hL ⟨rfl, hT1⟩ kk)
theorem s_ldcW (hd : decode mi.2.1 pc = .ok (.ldc 99, 2)) (hp : pc + 2 = pc') (hcl : mi.1.cls = RX1) (K : Sim z d kc ks mi pc' L (.retAddr 3 :: S) lay mem Q) : Sim z d kc ks mi pc L S lay mem Q := by
  intro p e R s m args below meth c D A rv H locs cells slots ls st ws X F hc1 hs h hL hS kk
  subst hp
  obtain ⟨adK, adV, d1, d2, d3, d4, d5, d6, d7⟩ := F.2.2.2.2.2.2.2.2.2.2.2.2.2.2.2.1
  exact va_ldcS F.1 F.2.1 (own := RX1) (by rw [← hcl]; exact F.2.2.2.2.1) d6 hd (K p e R s m args below meth c D A rv H locs cells slots ls _ ws X F hc1 hs h hL ⟨⟨d2.symm, Or.inr ⟨_, rfl⟩⟩, hS⟩ kk)
theorem s_ldcS (hd : decode mi.2.1 pc = .ok (.ldc 92, 2)) (hp : pc + 2 = pc') (hcl : mi.1.cls = RX1) (K : Sim z d kc ks mi pc' L (.retAddr 4 :: S) lay mem Q) : Sim z d kc ks mi pc L S lay mem Q := by
  intro p e R s m args below meth c D A rv H locs cells slots ls st ws X F hc1 hs h hL hS kk
  subst hp
  obtain ⟨adK, adV, d1, d2, d3, d4, d5, d6, d7⟩ := F.2.2.2.2.2.2.2.2.2.2.2.2.2.2.2.1
  exact va_ldcS F.1 F.2.1 (own := RX1) (by rw [← hcl]; exact F.2.2.2.2.1) d7 hd (K p e R s m args below meth c D A rv H locs cells slots ls _ ws X F hc1 hs h hL ⟨⟨d3.symm, Or.inr ⟨_, rfl⟩⟩, hS⟩ kk)
def am_cp (mem : Mem) (id0 id1 sp dp n : Nat) : Mem := fun j => if j = id1 then va_cpy (mem id0) (mem id1) sp dp n else mem j
theorem s_acopy {idx id0 id1 n0 n1 : Nat} {rf0 rf1 : Nat → Value} {sp dp n : Int32} (hd : decode mi.2.1 pc = .ok (.invokestatic idx, 3)) (hp : pc + 3 = pc') (hlk : Cond.methodLink mi.1.cls idx arraycopyName ∈ wok) (hnat : Cond.native arraycopyName ∈ wok) (hstt : Cond.static arraycopyName ∈ wok) (hini : Cond.initialized "java/lang/System" ∈ wok) (hc0 : lay[id0]? = some (8, n0, rf0)) (hc1 : lay[id1]? = some (8, n1, rf1)) (h1 : ¬ sp < 0) (h2 : ¬ dp < 0) (h3 : ¬ n < 0) (h4 : sp.toNatClampNeg + n.toNatClampNeg ≤ n0) (h5 : dp.toNatClampNeg + n.toNatClampNeg ≤ n1) (hd1 : 2 ≤ d) (hcat : (S.map (fun v => v.category)).sum ≤ 8)
    (K : Sim z d kc ks mi pc' L S lay (am_cp mem id0 id1 sp.toNatClampNeg dp.toNatClampNeg n.toNatClampNeg) Q) : Sim z d kc ks mi pc L (.int n :: .int dp :: .ref id1 :: .int sp :: .ref id0 :: S) lay mem Q := by
  intro p e R s m args below meth c D A rv H locs cells slots ls st ws X F hcc hs h hL hS kk
  subst hp
  obtain ⟨a0, cA0, hw0, x1, x2⟩ := am_arr h (by decide) hc0
  obtain ⟨a1, cA1, hw1, y1, y2⟩ := am_arr h (by decide) hc1
  obtain ⟨w0, st0, rfl, v0, hT0⟩ := am_s.cons hS
  obtain rfl : w0 = .int n := v0
  obtain ⟨w1, st1, rfl, v1, hT1⟩ := am_s.cons hT0
  obtain rfl : w1 = .int dp := v1
  obtain ⟨w2, st2, rfl, v2, hT2⟩ := am_s.cons hT1
  obtain ⟨b1, e1, hb1, rfl⟩ := v2
  cases hw1.symm.trans hb1
  obtain ⟨w3, st3, rfl, v3, hT3⟩ := am_s.cons hT2
  obtain rfl : w3 = .int sp := v3
  obtain ⟨w4, st4, rfl, v4, hT4⟩ := am_s.cons hT3
  obtain ⟨b0, e0, hb0, rfl⟩ := v4
  cases hw0.symm.trans hb0
  have h9 := F.2.2.2.2.2.2.2.2.1
  have h10 := F.2.2.2.2.2.2.2.2.2.1
  have hKK : va_K D classes [(cA0, .int), (cA1, .int)] s := (am_K1 F.2.2.2.2.2.2.2.2.2.2.1 x1 x2).app (am_K1 F.2.2.2.2.2.2.2.2.2.2.1 y1 y2)
  have hct := am_s.cat hT4
  have hnfw : nativeFrameWords "java/lang/System" "arraycopy" 5 + 11 ≤ 100 := by decide +kernel
  refine va_copyi F.1 F.2.1 (F.2.2.1.trans hL.1.symm) F.2.2.2.2.1 (F.2.2.2.2.2.1 _ hlk) (F.2.2.2.2.2.1 _ hnat) (F.2.2.2.2.2.1 _ hstt) (F.2.2.2.2.2.1 _ hini) hKK h.1 h.2.1 h.2.2.1 id0 id1 0 1 hw0 hw1 rfl rfl rfl h1 h2 h3 h4 h5 (fun i hi => rfl) (by omega) (by rw [hct]; omega) hd (fun H1 locs1 hP hD hS1 => ?_)
  have hx := am_ex.set (e' := .inl (cA1, n1, .inl (va_cpy (mem id0) (mem id1) sp.toNatClampNeg dp.toNatClampNeg n.toNatClampNeg))) hw1
  have hm : am_m s rv (ws.set id1 (a1, .inl (cA1, n1, .inl (va_cpy (mem id0) (mem id1) sp.toNatClampNeg dp.toNatClampNeg n.toNatClampNeg)))) lay (am_cp mem id0 id1 sp.toNatClampNeg dp.toNatClampNeg n.toNatClampNeg) := by
    refine h.2.2.2.set hc1 hw1 (c' := (8, n1, rf1)) (am_set_self hc1).symm (fun j hj => if_neg hj) ?_
    unfold am_e
    rw [if_neg (show ¬ 8 < 8 by decide), if_pos (show 8 < 11 by decide)]
    refine ⟨cA1, ?_, y1, y2⟩
    rw [show am_cp mem id0 id1 sp.toNatClampNeg dp.toNatClampNeg n.toNatClampNeg id1 = va_cpy (mem id0) (mem id1) sp.toNatClampNeg dp.toNatClampNeg n.toNatClampNeg from if_pos rfl]
  exact K p e R s m args below meth c D A rv H1 locs1 cells slots ls _ _ X F hcc hs ⟨hP, hD, hS1, hm⟩ (hL.mono hx) (hT4.mono hx) (fun r lay' mem' H' locs' ws' pc' ls' rw q1 q2 q3 q4 q5 => kk r lay' mem' H' locs' ws' pc' ls' rw q1 q2 (hx.tr q3) q4 q5)
end IV
