/-! ===== the law: its cases ===== -/
set_option maxHeartbeats 4000000 in
theorem lw_c2 {z : Zz} {d kc ks i : Nat} {rf : Nat → Value} {tl : Lay} {mem : Mem} {Q : Option Value → Lay → Mem → Prop} (hdd : 60 ≤ d) (hSL : z.2.1 ≤ 3072) (hi : i + 6 ≤ z.2.1) (hI : INV rf tl mem) (K : ∀ mem', INV rf tl mem' → Sim z d kc ks mL_law 1103 [.retAddr 2, .ref 0, .ref 47, .int (nI i)] [] (LAY rf tl) mem' Q) : Sim z d kc ks mL_law 260 [.retAddr 2, .ref 0, .ref 47, .int (nI i)] [] (LAY rf tl) mem Q := by
  obtain ⟨i0, i1, i2, i3, i4, i5⟩ := lwi hSL hi
  obtain ⟨σ, n, t, w, nt, T, so, sz, it, tn, tp, kp, τ, nk, tk, wk, hC, hM, hP⟩ := hI
  obtain ⟨c1, c2, c3, ⟨c4, c5⟩, c6, c7⟩ := id hC
  obtain ⟨m1, m2, m3, ⟨m4, m5⟩, m6, m7, m8, m9, m10⟩ := id hM
  obtain ⟨p1, p2, p3, p4, p5, p6⟩ := id hP
  refine s_aload_n (pc' := 261) dL_law_260 rfl lg1 rfl ?_
  refine s_aload_n (pc' := 262) dL_law_261 rfl lg0 rfl ?_
  refine s_iload_n (pc' := 263) dL_law_262 rfl lg3 ?_
  refine s_iconst (pc' := 264) dL_law_263 rfl iconst_1 ?_
  refine s_iadd (pc' := 265) dL_law_264 rfl ?_
  refine s_tald2 (pc' := 266) dL_law_265 rfl i1 ?_
  refine s_aload_n (pc' := 267) dL_law_266 rfl lg0 rfl ?_
  refine s_iload_n (pc' := 268) dL_law_267 rfl lg3 ?_
  refine s_iconst (pc' := 269) dL_law_268 rfl iconst_2 ?_
  refine s_iadd (pc' := 270) dL_law_269 rfl ?_
  refine s_tald2 (pc' := 271) dL_law_270 rfl i2 ?_
  refine c_X6_told  (pc' := 274) dL_law_271 rfl lkL_23 (by omega) (Nat.le_of_ble_eq_true rfl) c1 c2 p3 (fun A f => ?_)
  have hA := f.k
  have hMA := hM.keep hA.2
  obtain ⟨n1, n2, n3, ⟨n4, n5⟩, n6, n7, n8, n9, n10⟩ := id hMA
  refine s_aload_n (pc' := 275) dL_law_274 rfl lg2 rfl ?_
  refine s_aload_n (pc' := 276) dL_law_275 rfl lg0 rfl ?_
  refine s_iload_n (pc' := 277) dL_law_276 rfl lg3 ?_
  refine s_iconst (pc' := 278) dL_law_277 rfl iconst_1 ?_
  refine s_iadd (pc' := 279) dL_law_278 rfl ?_
  refine s_tald2 (pc' := 280) dL_law_279 rfl i1 ?_
  refine s_aload_n (pc' := 281) dL_law_280 rfl lg0 rfl ?_
  refine s_iload_n (pc' := 282) dL_law_281 rfl lg3 ?_
  refine s_iconst (pc' := 283) dL_law_282 rfl iconst_2 ?_
  refine s_iadd (pc' := 284) dL_law_283 rfl ?_
  refine s_tald2 (pc' := 285) dL_law_284 rfl i2 ?_
  refine c_X7_told  (pc' := 288) dL_law_285 rfl lkL_27 (by omega) (Nat.le_of_ble_eq_true rfl) n1 n2 p3 (fun B g => ?_)
  refine s_icmp_eq (pc' := 291) (tgt := 1103) dL_law_288 rfl (by decide) (fun _ => ?_) (fun c9 => absurd (rfl) c9)
  have hB := g.k
  exact K _ ⟨σ, n, t, w, nt, T, so, sz, it, tn, tp, kp, τ, nk, tk, wk, hC.keep (hA.1.tr hB.1), hMA.keep hB.2, hP⟩
set_option maxHeartbeats 4000000 in
theorem lw_c3 {z : Zz} {d kc ks i : Nat} {rf : Nat → Value} {tl : Lay} {mem : Mem} {Q : Option Value → Lay → Mem → Prop} (hdd : 60 ≤ d) (hSL : z.2.1 ≤ 3072) (hi : i + 6 ≤ z.2.1) (hI : INV rf tl mem) (K : ∀ mem', INV rf tl mem' → Sim z d kc ks mL_law 1103 [.retAddr 2, .ref 0, .ref 47, .int (nI i)] [] (LAY rf tl) mem' Q) : Sim z d kc ks mL_law 293 [.retAddr 2, .ref 0, .ref 47, .int (nI i)] [] (LAY rf tl) mem Q := by
  obtain ⟨i0, i1, i2, i3, i4, i5⟩ := lwi hSL hi
  obtain ⟨σ, n, t, w, nt, T, so, sz, it, tn, tp, kp, τ, nk, tk, wk, hC, hM, hP⟩ := hI
  obtain ⟨c1, c2, c3, ⟨c4, c5⟩, c6, c7⟩ := id hC
  obtain ⟨m1, m2, m3, ⟨m4, m5⟩, m6, m7, m8, m9, m10⟩ := id hM
  obtain ⟨p1, p2, p3, p4, p5, p6⟩ := id hP
  refine s_aload_n (pc' := 294) dL_law_293 rfl lg1 rfl ?_
  refine s_aload_n (pc' := 295) dL_law_294 rfl lg0 rfl ?_
  refine s_iload_n (pc' := 296) dL_law_295 rfl lg3 ?_
  refine s_iconst (pc' := 297) dL_law_296 rfl iconst_1 ?_
  refine s_iadd (pc' := 298) dL_law_297 rfl ?_
  refine s_tald2 (pc' := 299) dL_law_298 rfl i1 ?_
  refine c_X6_carried  (pc' := 302) dL_law_299 rfl lkL_28 (by omega) (Nat.le_of_ble_eq_true rfl) c1 c2 p3 (fun A f => ?_)
  have hA := f.k
  have hMA := hM.keep hA.2
  obtain ⟨n1, n2, n3, ⟨n4, n5⟩, n6, n7, n8, n9, n10⟩ := id hMA
  refine s_aload_n (pc' := 303) dL_law_302 rfl lg2 rfl ?_
  refine s_aload_n (pc' := 304) dL_law_303 rfl lg0 rfl ?_
  refine s_iload_n (pc' := 305) dL_law_304 rfl lg3 ?_
  refine s_iconst (pc' := 306) dL_law_305 rfl iconst_1 ?_
  refine s_iadd (pc' := 307) dL_law_306 rfl ?_
  refine s_tald2 (pc' := 308) dL_law_307 rfl i1 ?_
  refine c_X7_carried  (pc' := 311) dL_law_308 rfl lkL_32 (by omega) (Nat.le_of_ble_eq_true rfl) n1 n2 p3 (fun B g => ?_)
  refine s_icmp_eq (pc' := 314) (tgt := 1103) dL_law_311 rfl (by decide) (fun _ => ?_) (fun c9 => absurd (rfl) c9)
  have hB := g.k
  exact K _ ⟨σ, n, t, w, nt, T, so, sz, it, tn, tp, kp, τ, nk, tk, wk, hC.keep (hA.1.tr hB.1), hMA.keep hB.2, hP⟩
set_option maxHeartbeats 4000000 in
theorem lw_c8 {z : Zz} {d kc ks i : Nat} {rf : Nat → Value} {tl : Lay} {mem : Mem} {Q : Option Value → Lay → Mem → Prop} (hdd : 60 ≤ d) (hSL : z.2.1 ≤ 3072) (hi : i + 6 ≤ z.2.1) (hI : INV rf tl mem) (K : ∀ mem', INV rf tl mem' → Sim z d kc ks mL_law 1103 [.retAddr 2, .ref 0, .ref 47, .int (nI i)] [] (LAY rf tl) mem' Q) : Sim z d kc ks mL_law 388 [.retAddr 2, .ref 0, .ref 47, .int (nI i)] [] (LAY rf tl) mem Q := by
  obtain ⟨i0, i1, i2, i3, i4, i5⟩ := lwi hSL hi
  obtain ⟨σ, n, t, w, nt, T, so, sz, it, tn, tp, kp, τ, nk, tk, wk, hC, hM, hP⟩ := hI
  obtain ⟨c1, c2, c3, ⟨c4, c5⟩, c6, c7⟩ := id hC
  obtain ⟨m1, m2, m3, ⟨m4, m5⟩, m6, m7, m8, m9, m10⟩ := id hM
  obtain ⟨p1, p2, p3, p4, p5, p6⟩ := id hP
  refine s_aload_n (pc' := 389) dL_law_388 rfl lg1 rfl ?_
  refine s_aload_n (pc' := 390) dL_law_389 rfl lg0 rfl ?_
  refine s_iload_n (pc' := 391) dL_law_390 rfl lg3 ?_
  refine s_iconst (pc' := 392) dL_law_391 rfl iconst_1 ?_
  refine s_iadd (pc' := 393) dL_law_392 rfl ?_
  refine s_tald2 (pc' := 394) dL_law_393 rfl i1 ?_
  refine s_aload_n (pc' := 395) dL_law_394 rfl lg0 rfl ?_
  refine s_iload_n (pc' := 396) dL_law_395 rfl lg3 ?_
  refine s_iconst (pc' := 397) dL_law_396 rfl iconst_2 ?_
  refine s_iadd (pc' := 398) dL_law_397 rfl ?_
  refine s_tald2 (pc' := 399) dL_law_398 rfl i2 ?_
  refine s_aload_n (pc' := 400) dL_law_399 rfl lg0 rfl ?_
  refine s_iload_n (pc' := 401) dL_law_400 rfl lg3 ?_
  refine s_iconst (pc' := 402) dL_law_401 rfl iconst_3 ?_
  refine s_iadd (pc' := 403) dL_law_402 rfl ?_
  refine s_tald2 (pc' := 404) dL_law_403 rfl i3 ?_
  refine c_X6_run  (pc' := 407) dL_law_404 rfl lkL_50 (by omega) (Nat.le_of_ble_eq_true rfl) c1 c2 p3 (fun A f => ?_)
  have hA := f.k
  have hMA := hM.keep hA.2
  obtain ⟨n1, n2, n3, ⟨n4, n5⟩, n6, n7, n8, n9, n10⟩ := id hMA
  refine s_aload_n (pc' := 408) dL_law_407 rfl lg2 rfl ?_
  refine s_aload_n (pc' := 409) dL_law_408 rfl lg0 rfl ?_
  refine s_iload_n (pc' := 410) dL_law_409 rfl lg3 ?_
  refine s_iconst (pc' := 411) dL_law_410 rfl iconst_1 ?_
  refine s_iadd (pc' := 412) dL_law_411 rfl ?_
  refine s_tald2 (pc' := 413) dL_law_412 rfl i1 ?_
  refine s_aload_n (pc' := 414) dL_law_413 rfl lg0 rfl ?_
  refine s_iload_n (pc' := 415) dL_law_414 rfl lg3 ?_
  refine s_iconst (pc' := 416) dL_law_415 rfl iconst_2 ?_
  refine s_iadd (pc' := 417) dL_law_416 rfl ?_
  refine s_tald2 (pc' := 418) dL_law_417 rfl i2 ?_
  refine s_aload_n (pc' := 419) dL_law_418 rfl lg0 rfl ?_
  refine s_iload_n (pc' := 420) dL_law_419 rfl lg3 ?_
  refine s_iconst (pc' := 421) dL_law_420 rfl iconst_3 ?_
  refine s_iadd (pc' := 422) dL_law_421 rfl ?_
  refine s_tald2 (pc' := 423) dL_law_422 rfl i3 ?_
  refine c_X7_run  (pc' := 426) dL_law_423 rfl lkL_53 (by omega) (Nat.le_of_ble_eq_true rfl) n1 n2 p3 p1 (fun B g => ?_)
  refine s_icmp_eq (pc' := 429) (tgt := 1103) dL_law_426 rfl (by decide) (fun _ => ?_) (fun c9 => absurd (rfl) c9)
  have hB := g.k
  exact K _ ⟨σ, n, t, w, nt, T, so, sz, it, tn, tp, kp, τ, nk, tk, wk, hC.keep (hA.1.tr hB.1), hMA.keep hB.2, hP⟩
set_option maxHeartbeats 4000000 in
theorem lw_c9 {z : Zz} {d kc ks i : Nat} {rf : Nat → Value} {tl : Lay} {mem : Mem} {Q : Option Value → Lay → Mem → Prop} (hdd : 60 ≤ d) (hSL : z.2.1 ≤ 3072) (hi : i + 6 ≤ z.2.1) (hI : INV rf tl mem) (K : ∀ mem', INV rf tl mem' → Sim z d kc ks mL_law 1103 [.retAddr 2, .ref 0, .ref 47, .int (nI i)] [] (LAY rf tl) mem' Q) : Sim z d kc ks mL_law 431 [.retAddr 2, .ref 0, .ref 47, .int (nI i)] [] (LAY rf tl) mem Q := by
  obtain ⟨i0, i1, i2, i3, i4, i5⟩ := lwi hSL hi
  obtain ⟨σ, n, t, w, nt, T, so, sz, it, tn, tp, kp, τ, nk, tk, wk, hC, hM, hP⟩ := hI
  obtain ⟨c1, c2, c3, ⟨c4, c5⟩, c6, c7⟩ := id hC
  obtain ⟨m1, m2, m3, ⟨m4, m5⟩, m6, m7, m8, m9, m10⟩ := id hM
  obtain ⟨p1, p2, p3, p4, p5, p6⟩ := id hP
  refine s_aload_n (pc' := 432) dL_law_431 rfl lg1 rfl ?_
  refine s_aload_n (pc' := 433) dL_law_432 rfl lg0 rfl ?_
  refine s_iload_n (pc' := 434) dL_law_433 rfl lg3 ?_
  refine s_iconst (pc' := 435) dL_law_434 rfl iconst_1 ?_
  refine s_iadd (pc' := 436) dL_law_435 rfl ?_
  refine s_tald2 (pc' := 437) dL_law_436 rfl i1 ?_
  refine c_X6_all  (pc' := 440) dL_law_437 rfl lkL_54 (by omega) (Nat.le_of_ble_eq_true rfl) c1 c2 p3 (fun A f => ?_)
  have hA := f.k
  have hMA := hM.keep hA.2
  obtain ⟨n1, n2, n3, ⟨n4, n5⟩, n6, n7, n8, n9, n10⟩ := id hMA
  refine s_aload_n (pc' := 441) dL_law_440 rfl lg2 rfl ?_
  refine s_aload_n (pc' := 442) dL_law_441 rfl lg0 rfl ?_
  refine s_iload_n (pc' := 443) dL_law_442 rfl lg3 ?_
  refine s_iconst (pc' := 444) dL_law_443 rfl iconst_1 ?_
  refine s_iadd (pc' := 445) dL_law_444 rfl ?_
  refine s_tald2 (pc' := 446) dL_law_445 rfl i1 ?_
  refine c_X7_all  (pc' := 449) dL_law_446 rfl lkL_57 (by omega) (Nat.le_of_ble_eq_true rfl) n1 n2 p3 p1 (fun B g => ?_)
  refine s_icmp_eq (pc' := 452) (tgt := 1103) dL_law_449 rfl (by decide) (fun _ => ?_) (fun c9 => absurd (rfl) c9)
  have hB := g.k
  exact K _ ⟨σ, n, t, w, nt, T, so, sz, it, tn, tp, kp, τ, nk, tk, wk, hC.keep (hA.1.tr hB.1), hMA.keep hB.2, hP⟩
set_option maxHeartbeats 4000000 in
theorem lw_c10 {z : Zz} {d kc ks i : Nat} {rf : Nat → Value} {tl : Lay} {mem : Mem} {Q : Option Value → Lay → Mem → Prop} (hdd : 60 ≤ d) (hSL : z.2.1 ≤ 3072) (hi : i + 6 ≤ z.2.1) (hI : INV rf tl mem) (K : ∀ mem', INV rf tl mem' → Sim z d kc ks mL_law 1103 [.retAddr 2, .ref 0, .ref 47, .int (nI i)] [] (LAY rf tl) mem' Q) : Sim z d kc ks mL_law 454 [.retAddr 2, .ref 0, .ref 47, .int (nI i)] [] (LAY rf tl) mem Q := by
  obtain ⟨i0, i1, i2, i3, i4, i5⟩ := lwi hSL hi
  obtain ⟨σ, n, t, w, nt, T, so, sz, it, tn, tp, kp, τ, nk, tk, wk, hC, hM, hP⟩ := hI
  obtain ⟨c1, c2, c3, ⟨c4, c5⟩, c6, c7⟩ := id hC
  obtain ⟨m1, m2, m3, ⟨m4, m5⟩, m6, m7, m8, m9, m10⟩ := id hM
  obtain ⟨p1, p2, p3, p4, p5, p6⟩ := id hP
  refine s_aload_n (pc' := 455) dL_law_454 rfl lg1 rfl ?_
  refine s_aload_n (pc' := 456) dL_law_455 rfl lg0 rfl ?_
  refine s_iload_n (pc' := 457) dL_law_456 rfl lg3 ?_
  refine s_iconst (pc' := 458) dL_law_457 rfl iconst_1 ?_
  refine s_iadd (pc' := 459) dL_law_458 rfl ?_
  refine s_tald2 (pc' := 460) dL_law_459 rfl i1 ?_
  refine s_aload_n (pc' := 461) dL_law_460 rfl lg0 rfl ?_
  refine s_iload_n (pc' := 462) dL_law_461 rfl lg3 ?_
  refine s_iconst (pc' := 463) dL_law_462 rfl iconst_2 ?_
  refine s_iadd (pc' := 464) dL_law_463 rfl ?_
  refine s_tald2 (pc' := 465) dL_law_464 rfl i2 ?_
  refine c_X6_meet  (pc' := 468) dL_law_465 rfl lkL_58 (by omega) (Nat.le_of_ble_eq_true rfl) c1 c2 p3 (fun A f => ?_)
  have hA := f.k
  have hMA := hM.keep hA.2
  obtain ⟨n1, n2, n3, ⟨n4, n5⟩, n6, n7, n8, n9, n10⟩ := id hMA
  refine s_aload_n (pc' := 469) dL_law_468 rfl lg2 rfl ?_
  refine s_aload_n (pc' := 470) dL_law_469 rfl lg0 rfl ?_
  refine s_iload_n (pc' := 471) dL_law_470 rfl lg3 ?_
  refine s_iconst (pc' := 472) dL_law_471 rfl iconst_1 ?_
  refine s_iadd (pc' := 473) dL_law_472 rfl ?_
  refine s_tald2 (pc' := 474) dL_law_473 rfl i1 ?_
  refine s_aload_n (pc' := 475) dL_law_474 rfl lg0 rfl ?_
  refine s_iload_n (pc' := 476) dL_law_475 rfl lg3 ?_
  refine s_iconst (pc' := 477) dL_law_476 rfl iconst_2 ?_
  refine s_iadd (pc' := 478) dL_law_477 rfl ?_
  refine s_tald2 (pc' := 479) dL_law_478 rfl i2 ?_
  refine c_X7_meet  (pc' := 482) dL_law_479 rfl lkL_61 (by omega) (Nat.le_of_ble_eq_true rfl) n1 n2 p3 (fun B g => ?_)
  refine s_icmp_eq (pc' := 485) (tgt := 1103) dL_law_482 rfl (by decide) (fun _ => ?_) (fun c9 => absurd (rfl) c9)
  have hB := g.k
  exact K _ ⟨σ, n, t, w, nt, T, so, sz, it, tn, tp, kp, τ, nk, tk, wk, hC.keep (hA.1.tr hB.1), hMA.keep hB.2, hP⟩
set_option maxHeartbeats 4000000 in
theorem lw_c11 {z : Zz} {d kc ks i : Nat} {rf : Nat → Value} {tl : Lay} {mem : Mem} {Q : Option Value → Lay → Mem → Prop} (hdd : 60 ≤ d) (hSL : z.2.1 ≤ 3072) (hi : i + 6 ≤ z.2.1) (hI : INV rf tl mem) (K : ∀ mem', INV rf tl mem' → Sim z d kc ks mL_law 1103 [.retAddr 2, .ref 0, .ref 47, .int (nI i)] [] (LAY rf tl) mem' Q) : Sim z d kc ks mL_law 487 [.retAddr 2, .ref 0, .ref 47, .int (nI i)] [] (LAY rf tl) mem Q := by
  obtain ⟨i0, i1, i2, i3, i4, i5⟩ := lwi hSL hi
  obtain ⟨σ, n, t, w, nt, T, so, sz, it, tn, tp, kp, τ, nk, tk, wk, hC, hM, hP⟩ := hI
  obtain ⟨c1, c2, c3, ⟨c4, c5⟩, c6, c7⟩ := id hC
  obtain ⟨m1, m2, m3, ⟨m4, m5⟩, m6, m7, m8, m9, m10⟩ := id hM
  obtain ⟨p1, p2, p3, p4, p5, p6⟩ := id hP
  refine s_aload_n (pc' := 488) dL_law_487 rfl lg1 rfl ?_
  refine s_aload_n (pc' := 489) dL_law_488 rfl lg0 rfl ?_
  refine s_iload_n (pc' := 490) dL_law_489 rfl lg3 ?_
  refine s_iconst (pc' := 491) dL_law_490 rfl iconst_1 ?_
  refine s_iadd (pc' := 492) dL_law_491 rfl ?_
  refine s_tald2 (pc' := 493) dL_law_492 rfl i1 ?_
  refine c_X6_walk  (pc' := 496) dL_law_493 rfl lkL_62 (by omega) (Nat.le_of_ble_eq_true rfl) c1 c3 ?_
  refine s_aload_n (pc' := 497) dL_law_496 rfl lg2 rfl ?_
  refine s_aload_n (pc' := 498) dL_law_497 rfl lg0 rfl ?_
  refine s_iload_n (pc' := 499) dL_law_498 rfl lg3 ?_
  refine s_iconst (pc' := 500) dL_law_499 rfl iconst_1 ?_
  refine s_iadd (pc' := 501) dL_law_500 rfl ?_
  refine s_tald2 (pc' := 502) dL_law_501 rfl i1 ?_
  refine c_X7_walk  (pc' := 505) dL_law_502 rfl lkL_65 (by omega) (Nat.le_of_ble_eq_true rfl) m1 m3 ?_
  refine s_icmp_eq (pc' := 508) (tgt := 1103) dL_law_505 rfl (by decide) (fun _ => ?_) (fun c9 => absurd (rfl) c9)
  exact K mem ⟨σ, n, t, w, nt, T, so, sz, it, tn, tp, kp, τ, nk, tk, wk, hC, hM, hP⟩
set_option maxHeartbeats 4000000 in
theorem lw_c12 {z : Zz} {d kc ks i : Nat} {rf : Nat → Value} {tl : Lay} {mem : Mem} {Q : Option Value → Lay → Mem → Prop} (hdd : 60 ≤ d) (hSL : z.2.1 ≤ 3072) (hi : i + 6 ≤ z.2.1) (hI : INV rf tl mem) (K : ∀ mem', INV rf tl mem' → Sim z d kc ks mL_law 1103 [.retAddr 2, .ref 0, .ref 47, .int (nI i)] [] (LAY rf tl) mem' Q) : Sim z d kc ks mL_law 510 [.retAddr 2, .ref 0, .ref 47, .int (nI i)] [] (LAY rf tl) mem Q := by
  obtain ⟨i0, i1, i2, i3, i4, i5⟩ := lwi hSL hi
  obtain ⟨σ, n, t, w, nt, T, so, sz, it, tn, tp, kp, τ, nk, tk, wk, hC, hM, hP⟩ := hI
  obtain ⟨c1, c2, c3, ⟨c4, c5⟩, c6, c7⟩ := id hC
  obtain ⟨m1, m2, m3, ⟨m4, m5⟩, m6, m7, m8, m9, m10⟩ := id hM
  obtain ⟨p1, p2, p3, p4, p5, p6⟩ := id hP
  refine s_aload_n (pc' := 511) dL_law_510 rfl lg1 rfl ?_
  refine s_aload_n (pc' := 512) dL_law_511 rfl lg0 rfl ?_
  refine s_iload_n (pc' := 513) dL_law_512 rfl lg3 ?_
  refine s_iconst (pc' := 514) dL_law_513 rfl iconst_1 ?_
  refine s_iadd (pc' := 515) dL_law_514 rfl ?_
  refine s_tald2 (pc' := 516) dL_law_515 rfl i1 ?_
  refine c_X6_jars  (pc' := 519) dL_law_516 rfl lkL_66 (by omega) (Nat.le_of_ble_eq_true rfl) c1 c2 p3 (fun A f => ?_)
  have hA := f.k
  have hMA := hM.keep hA.2
  obtain ⟨n1, n2, n3, ⟨n4, n5⟩, n6, n7, n8, n9, n10⟩ := id hMA
  refine s_aload_n (pc' := 520) dL_law_519 rfl lg2 rfl ?_
  refine s_aload_n (pc' := 521) dL_law_520 rfl lg0 rfl ?_
  refine s_iload_n (pc' := 522) dL_law_521 rfl lg3 ?_
  refine s_iconst (pc' := 523) dL_law_522 rfl iconst_1 ?_
  refine s_iadd (pc' := 524) dL_law_523 rfl ?_
  refine s_tald2 (pc' := 525) dL_law_524 rfl i1 ?_
  refine c_X7_jars  (pc' := 528) dL_law_525 rfl lkL_69 (by omega) (Nat.le_of_ble_eq_true rfl) n1 n2 p3 n10 (fun B g => ?_)
  refine s_icmp_eq (pc' := 531) (tgt := 1103) dL_law_528 rfl (by decide) (fun _ => ?_) (fun c9 => absurd (rfl) c9)
  have hB := g.k
  exact K _ ⟨σ, n, t, w, nt, T, so, sz, it, tn, tp, kp, τ, nk, tk, wk, hC.keep (hA.1.tr hB.1), hMA.keep hB.2, hP⟩
set_option maxHeartbeats 4000000 in
theorem lw_c13 {z : Zz} {d kc ks i : Nat} {rf : Nat → Value} {tl : Lay} {mem : Mem} {Q : Option Value → Lay → Mem → Prop} (hdd : 60 ≤ d) (hSL : z.2.1 ≤ 3072) (hi : i + 6 ≤ z.2.1) (hI : INV rf tl mem) (K : ∀ mem', INV rf tl mem' → Sim z d kc ks mL_law 1103 [.retAddr 2, .ref 0, .ref 47, .int (nI i)] [] (LAY rf tl) mem' Q) : Sim z d kc ks mL_law 533 [.retAddr 2, .ref 0, .ref 47, .int (nI i)] [] (LAY rf tl) mem Q := by
  obtain ⟨i0, i1, i2, i3, i4, i5⟩ := lwi hSL hi
  obtain ⟨σ, n, t, w, nt, T, so, sz, it, tn, tp, kp, τ, nk, tk, wk, hC, hM, hP⟩ := hI
  obtain ⟨c1, c2, c3, ⟨c4, c5⟩, c6, c7⟩ := id hC
  obtain ⟨m1, m2, m3, ⟨m4, m5⟩, m6, m7, m8, m9, m10⟩ := id hM
  obtain ⟨p1, p2, p3, p4, p5, p6⟩ := id hP
  refine s_aload_n (pc' := 534) dL_law_533 rfl lg1 rfl ?_
  refine s_aload_n (pc' := 535) dL_law_534 rfl lg0 rfl ?_
  refine s_iload_n (pc' := 536) dL_law_535 rfl lg3 ?_
  refine s_iconst (pc' := 537) dL_law_536 rfl iconst_1 ?_
  refine s_iadd (pc' := 538) dL_law_537 rfl ?_
  refine s_tald2 (pc' := 539) dL_law_538 rfl i1 ?_
  refine s_aload_n (pc' := 540) dL_law_539 rfl lg0 rfl ?_
  refine s_iload_n (pc' := 541) dL_law_540 rfl lg3 ?_
  refine s_iconst (pc' := 542) dL_law_541 rfl iconst_2 ?_
  refine s_iadd (pc' := 543) dL_law_542 rfl ?_
  refine s_tald2 (pc' := 544) dL_law_543 rfl i2 ?_
  refine c_X6_can  (pc' := 547) dL_law_544 rfl lkL_70 (by omega) (Nat.le_of_ble_eq_true rfl) c1 c2 p3 (fun A f => ?_)
  have hA := f.k
  have hMA := hM.keep hA.2
  obtain ⟨n1, n2, n3, ⟨n4, n5⟩, n6, n7, n8, n9, n10⟩ := id hMA
  refine s_aload_n (pc' := 548) dL_law_547 rfl lg2 rfl ?_
  refine s_aload_n (pc' := 549) dL_law_548 rfl lg0 rfl ?_
  refine s_iload_n (pc' := 550) dL_law_549 rfl lg3 ?_
  refine s_iconst (pc' := 551) dL_law_550 rfl iconst_1 ?_
  refine s_iadd (pc' := 552) dL_law_551 rfl ?_
  refine s_tald2 (pc' := 553) dL_law_552 rfl i1 ?_
  refine s_aload_n (pc' := 554) dL_law_553 rfl lg0 rfl ?_
  refine s_iload_n (pc' := 555) dL_law_554 rfl lg3 ?_
  refine s_iconst (pc' := 556) dL_law_555 rfl iconst_2 ?_
  refine s_iadd (pc' := 557) dL_law_556 rfl ?_
  refine s_tald2 (pc' := 558) dL_law_557 rfl i2 ?_
  refine c_X7_can  (pc' := 561) dL_law_558 rfl lkL_73 (by omega) (Nat.le_of_ble_eq_true rfl) n1 n2 p3 (fun B g => ?_)
  refine s_icmp_eq (pc' := 564) (tgt := 1103) dL_law_561 rfl (by decide) (fun _ => ?_) (fun c9 => absurd (rfl) c9)
  have hB := g.k
  exact K _ ⟨σ, n, t, w, nt, T, so, sz, it, tn, tp, kp, τ, nk, tk, wk, hC.keep (hA.1.tr hB.1), hMA.keep hB.2, hP⟩
set_option maxHeartbeats 4000000 in
theorem lw_c14 {z : Zz} {d kc ks i : Nat} {rf : Nat → Value} {tl : Lay} {mem : Mem} {Q : Option Value → Lay → Mem → Prop} (hdd : 60 ≤ d) (hSL : z.2.1 ≤ 3072) (hi : i + 6 ≤ z.2.1) (hI : INV rf tl mem) (K : ∀ mem', INV rf tl mem' → Sim z d kc ks mL_law 1103 [.retAddr 2, .ref 0, .ref 47, .int (nI i)] [] (LAY rf tl) mem' Q) : Sim z d kc ks mL_law 566 [.retAddr 2, .ref 0, .ref 47, .int (nI i)] [] (LAY rf tl) mem Q := by
  obtain ⟨i0, i1, i2, i3, i4, i5⟩ := lwi hSL hi
  obtain ⟨σ, n, t, w, nt, T, so, sz, it, tn, tp, kp, τ, nk, tk, wk, hC, hM, hP⟩ := hI
  obtain ⟨c1, c2, c3, ⟨c4, c5⟩, c6, c7⟩ := id hC
  obtain ⟨m1, m2, m3, ⟨m4, m5⟩, m6, m7, m8, m9, m10⟩ := id hM
  obtain ⟨p1, p2, p3, p4, p5, p6⟩ := id hP
  refine s_aload_n (pc' := 567) dL_law_566 rfl lg1 rfl ?_
  refine s_aload_n (pc' := 568) dL_law_567 rfl lg0 rfl ?_
  refine s_iload_n (pc' := 569) dL_law_568 rfl lg3 ?_
  refine s_iconst (pc' := 570) dL_law_569 rfl iconst_1 ?_
  refine s_iadd (pc' := 571) dL_law_570 rfl ?_
  refine s_tald2 (pc' := 572) dL_law_571 rfl i1 ?_
  refine c_X6_twos  (pc' := 575) dL_law_572 rfl lkL_74 (by omega) (Nat.le_of_ble_eq_true rfl) c1 ?_
  refine s_aload_n (pc' := 576) dL_law_575 rfl lg2 rfl ?_
  refine s_aload_n (pc' := 577) dL_law_576 rfl lg0 rfl ?_
  refine s_iload_n (pc' := 578) dL_law_577 rfl lg3 ?_
  refine s_iconst (pc' := 579) dL_law_578 rfl iconst_1 ?_
  refine s_iadd (pc' := 580) dL_law_579 rfl ?_
  refine s_tald2 (pc' := 581) dL_law_580 rfl i1 ?_
  refine c_X7_twos  (pc' := 584) dL_law_581 rfl lkL_77 (by omega) (Nat.le_of_ble_eq_true rfl) m1 p1 ?_
  refine s_icmp_eq (pc' := 587) (tgt := 1103) dL_law_584 rfl (by decide) (fun _ => ?_) (fun c9 => absurd (rfl) c9)
  exact K mem ⟨σ, n, t, w, nt, T, so, sz, it, tn, tp, kp, τ, nk, tk, wk, hC, hM, hP⟩
set_option maxHeartbeats 4000000 in
theorem lw_c15 {z : Zz} {d kc ks i : Nat} {rf : Nat → Value} {tl : Lay} {mem : Mem} {Q : Option Value → Lay → Mem → Prop} (hdd : 60 ≤ d) (hSL : z.2.1 ≤ 3072) (hi : i + 6 ≤ z.2.1) (hI : INV rf tl mem) (K : ∀ mem', INV rf tl mem' → Sim z d kc ks mL_law 1103 [.retAddr 2, .ref 0, .ref 47, .int (nI i)] [] (LAY rf tl) mem' Q) : Sim z d kc ks mL_law 589 [.retAddr 2, .ref 0, .ref 47, .int (nI i)] [] (LAY rf tl) mem Q := by
  obtain ⟨i0, i1, i2, i3, i4, i5⟩ := lwi hSL hi
  obtain ⟨σ, n, t, w, nt, T, so, sz, it, tn, tp, kp, τ, nk, tk, wk, hC, hM, hP⟩ := hI
  obtain ⟨c1, c2, c3, ⟨c4, c5⟩, c6, c7⟩ := id hC
  obtain ⟨m1, m2, m3, ⟨m4, m5⟩, m6, m7, m8, m9, m10⟩ := id hM
  obtain ⟨p1, p2, p3, p4, p5, p6⟩ := id hP
  refine s_aload_n (pc' := 590) dL_law_589 rfl lg1 rfl ?_
  refine s_aload_n (pc' := 591) dL_law_590 rfl lg0 rfl ?_
  refine s_iload_n (pc' := 592) dL_law_591 rfl lg3 ?_
  refine s_iconst (pc' := 593) dL_law_592 rfl iconst_1 ?_
  refine s_iadd (pc' := 594) dL_law_593 rfl ?_
  refine s_tald2 (pc' := 595) dL_law_594 rfl i1 ?_
  refine s_aload_n (pc' := 596) dL_law_595 rfl lg0 rfl ?_
  refine s_iload_n (pc' := 597) dL_law_596 rfl lg3 ?_
  refine s_iconst (pc' := 598) dL_law_597 rfl iconst_2 ?_
  refine s_iadd (pc' := 599) dL_law_598 rfl ?_
  refine s_tald2 (pc' := 600) dL_law_599 rfl i2 ?_
  refine c_X6_toss  (pc' := 603) dL_law_600 rfl lkL_78 (by omega) (Nat.le_of_ble_eq_true rfl) c1 c2 p3 (fun A f => ?_)
  have hA := f.k
  have hMA := hM.keep hA.2
  obtain ⟨n1, n2, n3, ⟨n4, n5⟩, n6, n7, n8, n9, n10⟩ := id hMA
  refine s_aload_n (pc' := 604) dL_law_603 rfl lg2 rfl ?_
  refine s_aload_n (pc' := 605) dL_law_604 rfl lg0 rfl ?_
  refine s_iload_n (pc' := 606) dL_law_605 rfl lg3 ?_
  refine s_iconst (pc' := 607) dL_law_606 rfl iconst_1 ?_
  refine s_iadd (pc' := 608) dL_law_607 rfl ?_
  refine s_tald2 (pc' := 609) dL_law_608 rfl i1 ?_
  refine s_aload_n (pc' := 610) dL_law_609 rfl lg0 rfl ?_
  refine s_iload_n (pc' := 611) dL_law_610 rfl lg3 ?_
  refine s_iconst (pc' := 612) dL_law_611 rfl iconst_2 ?_
  refine s_iadd (pc' := 613) dL_law_612 rfl ?_
  refine s_tald2 (pc' := 614) dL_law_613 rfl i2 ?_
  refine c_X7_toss  (pc' := 617) dL_law_614 rfl lkL_81 (by omega) (Nat.le_of_ble_eq_true rfl) n1 n2 p3 p1 (fun B g => ?_)
  refine s_icmp_eq (pc' := 620) (tgt := 1103) dL_law_617 rfl (by decide) (fun _ => ?_) (fun c9 => absurd (rfl) c9)
  have hB := g.k
  exact K _ ⟨σ, n, t, w, nt, T, so, sz, it, tn, tp, kp, τ, nk, tk, wk, hC.keep (hA.1.tr hB.1), hMA.keep hB.2, hP⟩
set_option maxHeartbeats 4000000 in
theorem lw_c16 {z : Zz} {d kc ks i : Nat} {rf : Nat → Value} {tl : Lay} {mem : Mem} {Q : Option Value → Lay → Mem → Prop} (hdd : 60 ≤ d) (hSL : z.2.1 ≤ 3072) (hi : i + 6 ≤ z.2.1) (hI : INV rf tl mem) (K : ∀ mem', INV rf tl mem' → Sim z d kc ks mL_law 1103 [.retAddr 2, .ref 0, .ref 47, .int (nI i)] [] (LAY rf tl) mem' Q) : Sim z d kc ks mL_law 622 [.retAddr 2, .ref 0, .ref 47, .int (nI i)] [] (LAY rf tl) mem Q := by
  obtain ⟨i0, i1, i2, i3, i4, i5⟩ := lwi hSL hi
  obtain ⟨σ, n, t, w, nt, T, so, sz, it, tn, tp, kp, τ, nk, tk, wk, hC, hM, hP⟩ := hI
  obtain ⟨c1, c2, c3, ⟨c4, c5⟩, c6, c7⟩ := id hC
  obtain ⟨m1, m2, m3, ⟨m4, m5⟩, m6, m7, m8, m9, m10⟩ := id hM
  obtain ⟨p1, p2, p3, p4, p5, p6⟩ := id hP
  obtain ⟨A0, hA0, eA0⟩ := ok_sum c1.2.1 p1
  refine s_aload_n (pc' := 623) dL_law_622 rfl lg1 rfl ?_
  refine s_aload_n (pc' := 624) dL_law_623 rfl lg0 rfl ?_
  refine s_iload_n (pc' := 625) dL_law_624 rfl lg3 ?_
  refine s_iconst (pc' := 626) dL_law_625 rfl iconst_1 ?_
  refine s_iadd (pc' := 627) dL_law_626 rfl ?_
  refine s_tald2 (pc' := 628) dL_law_627 rfl i1 ?_
  refine c_X6_mean  (pc' := 631) dL_law_628 rfl lkL_82 (by omega) (Nat.le_of_ble_eq_true rfl) c1 eA0 hA0 ?_
  refine s_aload_n (pc' := 632) dL_law_631 rfl lg2 rfl ?_
  refine s_aload_n (pc' := 633) dL_law_632 rfl lg0 rfl ?_
  refine s_iload_n (pc' := 634) dL_law_633 rfl lg3 ?_
  refine s_iconst (pc' := 635) dL_law_634 rfl iconst_1 ?_
  refine s_iadd (pc' := 636) dL_law_635 rfl ?_
  refine s_tald2 (pc' := 637) dL_law_636 rfl i1 ?_
  refine c_X7_mean  (pc' := 640) dL_law_637 rfl lkL_86 (by omega) (Nat.le_of_ble_eq_true rfl) m1 eA0 hA0 ?_
  refine s_lcmp (pc' := 641) dL_law_640 rfl ?_
  refine s_if_eq (pc' := 644) (tgt := 1103) dL_law_641 rfl (by decide) (fun _ => ?_) (fun c9 => absurd (lg_self) c9)
  exact K mem ⟨σ, n, t, w, nt, T, so, sz, it, tn, tp, kp, τ, nk, tk, wk, hC, hM, hP⟩
set_option maxHeartbeats 4000000 in
theorem lw_c17 {z : Zz} {d kc ks i : Nat} {rf : Nat → Value} {tl : Lay} {mem : Mem} {Q : Option Value → Lay → Mem → Prop} (hdd : 60 ≤ d) (hSL : z.2.1 ≤ 3072) (hi : i + 6 ≤ z.2.1) (hI : INV rf tl mem) (K : ∀ mem', INV rf tl mem' → Sim z d kc ks mL_law 1103 [.retAddr 2, .ref 0, .ref 47, .int (nI i)] [] (LAY rf tl) mem' Q) : Sim z d kc ks mL_law 646 [.retAddr 2, .ref 0, .ref 47, .int (nI i)] [] (LAY rf tl) mem Q := by
  obtain ⟨i0, i1, i2, i3, i4, i5⟩ := lwi hSL hi
  obtain ⟨σ, n, t, w, nt, T, so, sz, it, tn, tp, kp, τ, nk, tk, wk, hC, hM, hP⟩ := hI
  obtain ⟨c1, c2, c3, ⟨c4, c5⟩, c6, c7⟩ := id hC
  obtain ⟨m1, m2, m3, ⟨m4, m5⟩, m6, m7, m8, m9, m10⟩ := id hM
  obtain ⟨p1, p2, p3, p4, p5, p6⟩ := id hP
  refine s_aload_n (pc' := 647) dL_law_646 rfl lg1 rfl ?_
  refine s_aload_n (pc' := 648) dL_law_647 rfl lg0 rfl ?_
  refine s_iload_n (pc' := 649) dL_law_648 rfl lg3 ?_
  refine s_iconst (pc' := 650) dL_law_649 rfl iconst_1 ?_
  refine s_iadd (pc' := 651) dL_law_650 rfl ?_
  refine s_tald2 (pc' := 652) dL_law_651 rfl i1 ?_
  refine s_aload_n (pc' := 653) dL_law_652 rfl lg0 rfl ?_
  refine s_iload_n (pc' := 654) dL_law_653 rfl lg3 ?_
  refine s_iconst (pc' := 655) dL_law_654 rfl iconst_2 ?_
  refine s_iadd (pc' := 656) dL_law_655 rfl ?_
  refine s_tald2 (pc' := 657) dL_law_656 rfl i2 ?_
  refine s_aload_n (pc' := 658) dL_law_657 rfl lg0 rfl ?_
  refine s_iload_n (pc' := 659) dL_law_658 rfl lg3 ?_
  refine s_iconst (pc' := 660) dL_law_659 rfl iconst_3 ?_
  refine s_iadd (pc' := 661) dL_law_660 rfl ?_
  refine s_tald2 (pc' := 662) dL_law_661 rfl i3 ?_
  refine c_X6_tells  (pc' := 665) dL_law_662 rfl lkL_87 (by omega) (Nat.le_of_ble_eq_true rfl) c1 c2 p3 c3 (fun A f => ?_)
  have hA := f.k
  have hMA := hM.keep hA.2
  obtain ⟨n1, n2, n3, ⟨n4, n5⟩, n6, n7, n8, n9, n10⟩ := id hMA
  refine s_aload_n (pc' := 666) dL_law_665 rfl lg2 rfl ?_
  refine s_aload_n (pc' := 667) dL_law_666 rfl lg0 rfl ?_
  refine s_iload_n (pc' := 668) dL_law_667 rfl lg3 ?_
  refine s_iconst (pc' := 669) dL_law_668 rfl iconst_1 ?_
  refine s_iadd (pc' := 670) dL_law_669 rfl ?_
  refine s_tald2 (pc' := 671) dL_law_670 rfl i1 ?_
  refine s_aload_n (pc' := 672) dL_law_671 rfl lg0 rfl ?_
  refine s_iload_n (pc' := 673) dL_law_672 rfl lg3 ?_
  refine s_iconst (pc' := 674) dL_law_673 rfl iconst_2 ?_
  refine s_iadd (pc' := 675) dL_law_674 rfl ?_
  refine s_tald2 (pc' := 676) dL_law_675 rfl i2 ?_
  refine s_aload_n (pc' := 677) dL_law_676 rfl lg0 rfl ?_
  refine s_iload_n (pc' := 678) dL_law_677 rfl lg3 ?_
  refine s_iconst (pc' := 679) dL_law_678 rfl iconst_3 ?_
  refine s_iadd (pc' := 680) dL_law_679 rfl ?_
  refine s_tald2 (pc' := 681) dL_law_680 rfl i3 ?_
  refine c_X7_tells  (pc' := 684) dL_law_681 rfl lkL_90 (by omega) (Nat.le_of_ble_eq_true rfl) n1 n2 p3 n3 (fun B g => ?_)
  refine s_icmp_eq (pc' := 687) (tgt := 1103) dL_law_684 rfl (by decide) (fun _ => ?_) (fun c9 => absurd (rfl) c9)
  have hB := g.k
  exact K _ ⟨σ, n, t, w, nt, T, so, sz, it, tn, tp, kp, τ, nk, tk, wk, hC.keep (hA.1.tr hB.1), hMA.keep hB.2, hP⟩
set_option maxHeartbeats 4000000 in
theorem lw_c19 {z : Zz} {d kc ks i : Nat} {rf : Nat → Value} {tl : Lay} {mem : Mem} {Q : Option Value → Lay → Mem → Prop} (hdd : 60 ≤ d) (hSL : z.2.1 ≤ 3072) (hi : i + 6 ≤ z.2.1) (hI : INV rf tl mem) (K : ∀ mem', INV rf tl mem' → Sim z d kc ks mL_law 1103 [.retAddr 2, .ref 0, .ref 47, .int (nI i)] [] (LAY rf tl) mem' Q) : Sim z d kc ks mL_law 732 [.retAddr 2, .ref 0, .ref 47, .int (nI i)] [] (LAY rf tl) mem Q := by
  obtain ⟨i0, i1, i2, i3, i4, i5⟩ := lwi hSL hi
  obtain ⟨σ, n, t, w, nt, T, so, sz, it, tn, tp, kp, τ, nk, tk, wk, hC, hM, hP⟩ := hI
  obtain ⟨c1, c2, c3, ⟨c4, c5⟩, c6, c7⟩ := id hC
  obtain ⟨m1, m2, m3, ⟨m4, m5⟩, m6, m7, m8, m9, m10⟩ := id hM
  obtain ⟨p1, p2, p3, p4, p5, p6⟩ := id hP
  refine s_aload_n (pc' := 733) dL_law_732 rfl lg1 rfl ?_
  refine s_aload_n (pc' := 734) dL_law_733 rfl lg0 rfl ?_
  refine s_iload_n (pc' := 735) dL_law_734 rfl lg3 ?_
  refine s_iconst (pc' := 736) dL_law_735 rfl iconst_1 ?_
  refine s_iadd (pc' := 737) dL_law_736 rfl ?_
  refine s_tald2 (pc' := 738) dL_law_737 rfl i1 ?_
  refine s_aload_n (pc' := 739) dL_law_738 rfl lg0 rfl ?_
  refine s_iload_n (pc' := 740) dL_law_739 rfl lg3 ?_
  refine s_iconst (pc' := 741) dL_law_740 rfl iconst_2 ?_
  refine s_iadd (pc' := 742) dL_law_741 rfl ?_
  refine s_tald2 (pc' := 743) dL_law_742 rfl i2 ?_
  refine c_X6_drawn  (pc' := 746) dL_law_743 rfl lkL_95 (by omega) (Nat.le_of_ble_eq_true rfl) c1 c2 p3 (fun A f => ?_)
  have hA := f.k
  have hMA := hM.keep hA.2
  obtain ⟨n1, n2, n3, ⟨n4, n5⟩, n6, n7, n8, n9, n10⟩ := id hMA
  refine s_aload_n (pc' := 747) dL_law_746 rfl lg2 rfl ?_
  refine s_aload_n (pc' := 748) dL_law_747 rfl lg0 rfl ?_
  refine s_iload_n (pc' := 749) dL_law_748 rfl lg3 ?_
  refine s_iconst (pc' := 750) dL_law_749 rfl iconst_1 ?_
  refine s_iadd (pc' := 751) dL_law_750 rfl ?_
  refine s_tald2 (pc' := 752) dL_law_751 rfl i1 ?_
  refine s_aload_n (pc' := 753) dL_law_752 rfl lg0 rfl ?_
  refine s_iload_n (pc' := 754) dL_law_753 rfl lg3 ?_
  refine s_iconst (pc' := 755) dL_law_754 rfl iconst_2 ?_
  refine s_iadd (pc' := 756) dL_law_755 rfl ?_
  refine s_tald2 (pc' := 757) dL_law_756 rfl i2 ?_
  refine c_X7_drawn  (pc' := 760) dL_law_757 rfl lkL_98 (by omega) (Nat.le_of_ble_eq_true rfl) n1 n2 p3 (fun B g => ?_)
  refine s_icmp_eq (pc' := 763) (tgt := 1103) dL_law_760 rfl (by decide) (fun _ => ?_) (fun c9 => absurd (rfl) c9)
  have hB := g.k
  exact K _ ⟨σ, n, t, w, nt, T, so, sz, it, tn, tp, kp, τ, nk, tk, wk, hC.keep (hA.1.tr hB.1), hMA.keep hB.2, hP⟩
set_option maxHeartbeats 4000000 in
theorem lw_c20 {z : Zz} {d kc ks i : Nat} {rf : Nat → Value} {tl : Lay} {mem : Mem} {Q : Option Value → Lay → Mem → Prop} (hdd : 60 ≤ d) (hSL : z.2.1 ≤ 3072) (hi : i + 6 ≤ z.2.1) (hI : INV rf tl mem) (K : ∀ mem', INV rf tl mem' → Sim z d kc ks mL_law 1103 [.retAddr 2, .ref 0, .ref 47, .int (nI i)] [] (LAY rf tl) mem' Q) : Sim z d kc ks mL_law 765 [.retAddr 2, .ref 0, .ref 47, .int (nI i)] [] (LAY rf tl) mem Q := by
  obtain ⟨i0, i1, i2, i3, i4, i5⟩ := lwi hSL hi
  obtain ⟨σ, n, t, w, nt, T, so, sz, it, tn, tp, kp, τ, nk, tk, wk, hC, hM, hP⟩ := hI
  obtain ⟨c1, c2, c3, ⟨c4, c5⟩, c6, c7⟩ := id hC
  obtain ⟨m1, m2, m3, ⟨m4, m5⟩, m6, m7, m8, m9, m10⟩ := id hM
  obtain ⟨p1, p2, p3, p4, p5, p6⟩ := id hP
  refine s_aload_n (pc' := 766) dL_law_765 rfl lg1 rfl ?_
  refine s_aload_n (pc' := 767) dL_law_766 rfl lg0 rfl ?_
  refine s_iload_n (pc' := 768) dL_law_767 rfl lg3 ?_
  refine s_iconst (pc' := 769) dL_law_768 rfl iconst_1 ?_
  refine s_iadd (pc' := 770) dL_law_769 rfl ?_
  refine s_tald2 (pc' := 771) dL_law_770 rfl i1 ?_
  refine s_aload_n (pc' := 772) dL_law_771 rfl lg0 rfl ?_
  refine s_iload_n (pc' := 773) dL_law_772 rfl lg3 ?_
  refine s_iconst (pc' := 774) dL_law_773 rfl iconst_2 ?_
  refine s_iadd (pc' := 775) dL_law_774 rfl ?_
  refine s_tald2 (pc' := 776) dL_law_775 rfl i2 ?_
  refine s_aload_n (pc' := 777) dL_law_776 rfl lg0 rfl ?_
  refine s_iload_n (pc' := 778) dL_law_777 rfl lg3 ?_
  refine s_iconst (pc' := 779) dL_law_778 rfl iconst_3 ?_
  refine s_iadd (pc' := 780) dL_law_779 rfl ?_
  refine s_tald2 (pc' := 781) dL_law_780 rfl i3 ?_
  refine s_aload_n (pc' := 782) dL_law_781 rfl lg0 rfl ?_
  refine s_iload_n (pc' := 783) dL_law_782 rfl lg3 ?_
  refine s_iconst (pc' := 784) dL_law_783 rfl iconst_4 ?_
  refine s_iadd (pc' := 785) dL_law_784 rfl ?_
  refine s_tald2 (pc' := 786) dL_law_785 rfl i4 ?_
  refine c_X6_chance  (pc' := 789) dL_law_786 rfl lkL_99 (by omega) (Nat.le_of_ble_eq_true rfl) c1 c2 p3 (fun A f => ?_)
  have hA := f.k
  have hMA := hM.keep hA.2
  obtain ⟨n1, n2, n3, ⟨n4, n5⟩, n6, n7, n8, n9, n10⟩ := id hMA
  refine s_aload_n (pc' := 790) dL_law_789 rfl lg2 rfl ?_
  refine s_aload_n (pc' := 791) dL_law_790 rfl lg0 rfl ?_
  refine s_iload_n (pc' := 792) dL_law_791 rfl lg3 ?_
  refine s_iconst (pc' := 793) dL_law_792 rfl iconst_1 ?_
  refine s_iadd (pc' := 794) dL_law_793 rfl ?_
  refine s_tald2 (pc' := 795) dL_law_794 rfl i1 ?_
  refine s_aload_n (pc' := 796) dL_law_795 rfl lg0 rfl ?_
  refine s_iload_n (pc' := 797) dL_law_796 rfl lg3 ?_
  refine s_iconst (pc' := 798) dL_law_797 rfl iconst_2 ?_
  refine s_iadd (pc' := 799) dL_law_798 rfl ?_
  refine s_tald2 (pc' := 800) dL_law_799 rfl i2 ?_
  refine s_aload_n (pc' := 801) dL_law_800 rfl lg0 rfl ?_
  refine s_iload_n (pc' := 802) dL_law_801 rfl lg3 ?_
  refine s_iconst (pc' := 803) dL_law_802 rfl iconst_3 ?_
  refine s_iadd (pc' := 804) dL_law_803 rfl ?_
  refine s_tald2 (pc' := 805) dL_law_804 rfl i3 ?_
  refine s_aload_n (pc' := 806) dL_law_805 rfl lg0 rfl ?_
  refine s_iload_n (pc' := 807) dL_law_806 rfl lg3 ?_
  refine s_iconst (pc' := 808) dL_law_807 rfl iconst_4 ?_
  refine s_iadd (pc' := 809) dL_law_808 rfl ?_
  refine s_tald2 (pc' := 810) dL_law_809 rfl i4 ?_
  refine c_X7_chance  (pc' := 813) dL_law_810 rfl lkL_103 (by omega) (Nat.le_of_ble_eq_true rfl) n1 n2 p3 (fun B g => ?_)
  refine s_lcmp (pc' := 814) dL_law_813 rfl ?_
  refine s_if_eq (pc' := 817) (tgt := 1103) dL_law_814 rfl (by decide) (fun _ => ?_) (fun c9 => absurd (lg_self) c9)
  have hB := g.k
  exact K _ ⟨σ, n, t, w, nt, T, so, sz, it, tn, tp, kp, τ, nk, tk, wk, hC.keep (hA.1.tr hB.1), hMA.keep hB.2, hP⟩
set_option maxHeartbeats 4000000 in
theorem lw_c23 {z : Zz} {d kc ks i : Nat} {rf : Nat → Value} {tl : Lay} {mem : Mem} {Q : Option Value → Lay → Mem → Prop} (hdd : 60 ≤ d) (hSL : z.2.1 ≤ 3072) (hi : i + 6 ≤ z.2.1) (hI : INV rf tl mem) (K : ∀ mem', INV rf tl mem' → Sim z d kc ks mL_law 1103 [.retAddr 2, .ref 0, .ref 47, .int (nI i)] [] (LAY rf tl) mem' Q) : Sim z d kc ks mL_law 845 [.retAddr 2, .ref 0, .ref 47, .int (nI i)] [] (LAY rf tl) mem Q := by
  obtain ⟨i0, i1, i2, i3, i4, i5⟩ := lwi hSL hi
  obtain ⟨σ, n, t, w, nt, T, so, sz, it, tn, tp, kp, τ, nk, tk, wk, hC, hM, hP⟩ := hI
  obtain ⟨c1, c2, c3, ⟨c4, c5⟩, c6, c7⟩ := id hC
  obtain ⟨m1, m2, m3, ⟨m4, m5⟩, m6, m7, m8, m9, m10⟩ := id hM
  obtain ⟨p1, p2, p3, p4, p5, p6⟩ := id hP
  refine s_aload_n (pc' := 846) dL_law_845 rfl lg1 rfl ?_
  refine s_aload_n (pc' := 847) dL_law_846 rfl lg0 rfl ?_
  refine s_iload_n (pc' := 848) dL_law_847 rfl lg3 ?_
  refine s_iconst (pc' := 849) dL_law_848 rfl iconst_1 ?_
  refine s_iadd (pc' := 850) dL_law_849 rfl ?_
  refine s_tald2 (pc' := 851) dL_law_850 rfl i1 ?_
  refine c_X6_count  (pc' := 854) dL_law_851 rfl lkL_112 (by omega) (Nat.le_of_ble_eq_true rfl) c1 c2 p3 c4 (fun A f => ?_)
  have hA := f.k
  have hMA := hM.keep hA.2
  obtain ⟨n1, n2, n3, ⟨n4, n5⟩, n6, n7, n8, n9, n10⟩ := id hMA
  refine s_aload_n (pc' := 855) dL_law_854 rfl lg2 rfl ?_
  refine s_aload_n (pc' := 856) dL_law_855 rfl lg0 rfl ?_
  refine s_iload_n (pc' := 857) dL_law_856 rfl lg3 ?_
  refine s_iconst (pc' := 858) dL_law_857 rfl iconst_1 ?_
  refine s_iadd (pc' := 859) dL_law_858 rfl ?_
  refine s_tald2 (pc' := 860) dL_law_859 rfl i1 ?_
  refine c_X7_count  (pc' := 863) dL_law_860 rfl lkL_115 (by omega) (Nat.le_of_ble_eq_true rfl) n1 n2 p3 n4 (fun B g => ?_)
  refine s_icmp_eq (pc' := 866) (tgt := 1103) dL_law_863 rfl (by decide) (fun _ => ?_) (fun c9 => absurd (rfl) c9)
  have hB := g.k
  exact K _ ⟨σ, n, t, w, nt, T, so, sz, it, tn, tp, kp, τ, nk, tk, wk, hC.keep (hA.1.tr hB.1), hMA.keep hB.2, hP⟩
set_option maxHeartbeats 4000000 in
theorem lw_c28 {z : Zz} {d kc ks i : Nat} {rf : Nat → Value} {tl : Lay} {mem : Mem} {Q : Option Value → Lay → Mem → Prop} (hdd : 60 ≤ d) (hSL : z.2.1 ≤ 3072) (hi : i + 6 ≤ z.2.1) (hI : INV rf tl mem) (K : ∀ mem', INV rf tl mem' → Sim z d kc ks mL_law 1103 [.retAddr 2, .ref 0, .ref 47, .int (nI i)] [] (LAY rf tl) mem' Q) : Sim z d kc ks mL_law 1070 [.retAddr 2, .ref 0, .ref 47, .int (nI i)] [] (LAY rf tl) mem Q := by
  obtain ⟨i0, i1, i2, i3, i4, i5⟩ := lwi hSL hi
  obtain ⟨σ, n, t, w, nt, T, so, sz, it, tn, tp, kp, τ, nk, tk, wk, hC, hM, hP⟩ := hI
  obtain ⟨c1, c2, c3, ⟨c4, c5⟩, c6, c7⟩ := id hC
  obtain ⟨m1, m2, m3, ⟨m4, m5⟩, m6, m7, m8, m9, m10⟩ := id hM
  obtain ⟨p1, p2, p3, p4, p5, p6⟩ := id hP
  refine s_aload_n (pc' := 1071) dL_law_1070 rfl lg1 rfl ?_
  refine s_aload_n (pc' := 1072) dL_law_1071 rfl lg0 rfl ?_
  refine s_iload_n (pc' := 1073) dL_law_1072 rfl lg3 ?_
  refine s_iconst (pc' := 1074) dL_law_1073 rfl iconst_1 ?_
  refine s_iadd (pc' := 1075) dL_law_1074 rfl ?_
  refine s_tald2 (pc' := 1076) dL_law_1075 rfl i1 ?_
  refine s_aload_n (pc' := 1077) dL_law_1076 rfl lg0 rfl ?_
  refine s_iload_n (pc' := 1078) dL_law_1077 rfl lg3 ?_
  refine s_iconst (pc' := 1079) dL_law_1078 rfl iconst_2 ?_
  refine s_iadd (pc' := 1080) dL_law_1079 rfl ?_
  refine s_tald2 (pc' := 1081) dL_law_1080 rfl i2 ?_
  refine c_X6_taken  (pc' := 1084) dL_law_1081 rfl lkL_133 (by omega) (Nat.le_of_ble_eq_true rfl) c1 p1.kOK ?_
  refine s_aload_n (pc' := 1085) dL_law_1084 rfl lg2 rfl ?_
  refine s_aload_n (pc' := 1086) dL_law_1085 rfl lg0 rfl ?_
  refine s_iload_n (pc' := 1087) dL_law_1086 rfl lg3 ?_
  refine s_iconst (pc' := 1088) dL_law_1087 rfl iconst_1 ?_
  refine s_iadd (pc' := 1089) dL_law_1088 rfl ?_
  refine s_tald2 (pc' := 1090) dL_law_1089 rfl i1 ?_
  refine s_aload_n (pc' := 1091) dL_law_1090 rfl lg0 rfl ?_
  refine s_iload_n (pc' := 1092) dL_law_1091 rfl lg3 ?_
  refine s_iconst (pc' := 1093) dL_law_1092 rfl iconst_2 ?_
  refine s_iadd (pc' := 1094) dL_law_1093 rfl ?_
  refine s_tald2 (pc' := 1095) dL_law_1094 rfl i2 ?_
  refine c_X7_taken  (pc' := 1098) dL_law_1095 rfl lkL_136 (by omega) (Nat.le_of_ble_eq_true rfl) m1 p1.kOK m9 ?_
  refine s_icmp_eq (pc' := 1101) (tgt := 1103) dL_law_1098 rfl (by decide) (fun _ => ?_) (fun c9 => absurd (rfl) c9)
  exact K mem ⟨σ, n, t, w, nt, T, so, sz, it, tn, tp, kp, τ, nk, tk, wk, hC, hM, hP⟩
set_option maxHeartbeats 4000000 in
theorem lw_c0 {z : Zz} {d kc ks i : Nat} {rf : Nat → Value} {tl : Lay} {mem : Mem} {Q : Option Value → Lay → Mem → Prop} (hdd : 60 ≤ d) (hSL : z.2.1 ≤ 3072) (hi : i + 6 ≤ z.2.1) (hI : INV rf tl mem) (K : ∀ mem', INV rf tl mem' → Sim z d kc ks mL_law 1103 [.retAddr 2, .ref 0, .ref 47, .int (nI i)] [] (LAY rf tl) mem' Q) : Sim z d kc ks mL_law 164 [.retAddr 2, .ref 0, .ref 47, .int (nI i)] [] (LAY rf tl) mem Q := by
  obtain ⟨i0, i1, i2, i3, i4, i5⟩ := lwi hSL hi
  obtain ⟨σ, n, t, w, nt, T, so, sz, it, tn, tp, kp, τ, nk, tk, wk, hC, hM, hP⟩ := hI
  obtain ⟨c1, c2, c3, ⟨c4, c5⟩, c6, c7⟩ := id hC
  obtain ⟨m1, m2, m3, ⟨m4, m5⟩, m6, m7, m8, m9, m10⟩ := id hM
  obtain ⟨p1, p2, p3, p4, p5, p6⟩ := id hP
  refine s_aload_n (pc' := 165) dL_law_164 rfl lg1 rfl ?_
  refine s_aload_n (pc' := 166) dL_law_165 rfl lg0 rfl ?_
  refine s_iload_n (pc' := 167) dL_law_166 rfl lg3 ?_
  refine s_iconst (pc' := 168) dL_law_167 rfl iconst_1 ?_
  refine s_iadd (pc' := 169) dL_law_168 rfl ?_
  refine s_tald2 (pc' := 170) dL_law_169 rfl i1 ?_
  refine s_aload_n (pc' := 171) dL_law_170 rfl lg0 rfl ?_
  refine s_iload_n (pc' := 172) dL_law_171 rfl lg3 ?_
  refine s_iconst (pc' := 173) dL_law_172 rfl iconst_2 ?_
  refine s_iadd (pc' := 174) dL_law_173 rfl ?_
  refine s_tald2 (pc' := 175) dL_law_174 rfl i2 ?_
  refine s_aload_n (pc' := 176) dL_law_175 rfl lg0 rfl ?_
  refine s_iload_n (pc' := 177) dL_law_176 rfl lg3 ?_
  refine s_iconst (pc' := 178) dL_law_177 rfl iconst_3 ?_
  refine s_iadd (pc' := 179) dL_law_178 rfl ?_
  refine s_tald2 (pc' := 180) dL_law_179 rfl i3 ?_
  refine c_X6_set  (pc' := 183) dL_law_180 rfl lkL_13 (by omega) (Nat.le_of_ble_eq_true rfl) c1 (fun A g1 g2 => ?_)
  obtain ⟨t', ht', et'⟩ := td_set (n := n) (what := z.2.2 (nI i + 1).toNatClampNeg) (o := z.2.2 (nI i + 2).toNatClampNeg) (v := z.2.2 (nI i + 3).toNatClampNeg) p2
  rw [et'] at g1
  have mA : isM 48 A σ n (nI t) (nI w) := m1.cp (fun k _ => by rw [g2 48 (by decide)])
  refine s_aload_n (pc' := 184) dL_law_183 rfl lg2 rfl ?_
  refine s_aload_n (pc' := 185) dL_law_184 rfl lg0 rfl ?_
  refine s_iload_n (pc' := 186) dL_law_185 rfl lg3 ?_
  refine s_iconst (pc' := 187) dL_law_186 rfl iconst_1 ?_
  refine s_iadd (pc' := 188) dL_law_187 rfl ?_
  refine s_tald2 (pc' := 189) dL_law_188 rfl i1 ?_
  refine s_aload_n (pc' := 190) dL_law_189 rfl lg0 rfl ?_
  refine s_iload_n (pc' := 191) dL_law_190 rfl lg3 ?_
  refine s_iconst (pc' := 192) dL_law_191 rfl iconst_2 ?_
  refine s_iadd (pc' := 193) dL_law_192 rfl ?_
  refine s_tald2 (pc' := 194) dL_law_193 rfl i2 ?_
  refine s_aload_n (pc' := 195) dL_law_194 rfl lg0 rfl ?_
  refine s_iload_n (pc' := 196) dL_law_195 rfl lg3 ?_
  refine s_iconst (pc' := 197) dL_law_196 rfl iconst_3 ?_
  refine s_iadd (pc' := 198) dL_law_197 rfl ?_
  refine s_tald2 (pc' := 199) dL_law_198 rfl i3 ?_
  refine c_X7_set  (pc' := 202) dL_law_199 rfl lkL_17 (by omega) (Nat.le_of_ble_eq_true rfl) mA (fun B h1 h2 => ?_)
  refine s_icmp_eq (pc' := 205) (tgt := 1103) dL_law_202 rfl (by decide) (fun _ => ?_) (fun c9 => absurd (rfl) c9)
  rw [et'] at h1
  exact K _ ⟨_, n, t', w, nt, T, so, sz, it, tn, tp, kp, τ, nk, tk, wk, hC.shore (mem' := B) (g1.kept (fun j q1 q2 => h2 j (by omega))) (fun j q1 q2 q3 q4 => by rw [h2 j (by omega), g2 j (by omega)]), hM.shore (mem' := B) h1 (fun j q1 q2 q3 q4 => by rw [h2 j q1, g2 j (by omega)]), ok_set p1, ht', p3, p4, p5, p6⟩
set_option maxHeartbeats 4000000 in
theorem lw_c1 {z : Zz} {d kc ks i : Nat} {rf : Nat → Value} {tl : Lay} {mem : Mem} {Q : Option Value → Lay → Mem → Prop} (hdd : 60 ≤ d) (hSL : z.2.1 ≤ 3072) (hi : i + 6 ≤ z.2.1) (hI : INV rf tl mem) (K : ∀ mem', INV rf tl mem' → Sim z d kc ks mL_law 1103 [.retAddr 2, .ref 0, .ref 47, .int (nI i)] [] (LAY rf tl) mem' Q) : Sim z d kc ks mL_law 207 [.retAddr 2, .ref 0, .ref 47, .int (nI i)] [] (LAY rf tl) mem Q := by
  obtain ⟨i0, i1, i2, i3, i4, i5⟩ := lwi hSL hi
  obtain ⟨σ, n, t, w, nt, T, so, sz, it, tn, tp, kp, τ, nk, tk, wk, hC, hM, hP⟩ := hI
  obtain ⟨c1, c2, c3, ⟨c4, c5⟩, c6, c7⟩ := id hC
  obtain ⟨m1, m2, m3, ⟨m4, m5⟩, m6, m7, m8, m9, m10⟩ := id hM
  obtain ⟨p1, p2, p3, p4, p5, p6⟩ := id hP
  refine s_aload_n (pc' := 208) dL_law_207 rfl lg1 rfl ?_
  refine s_aload_n (pc' := 209) dL_law_208 rfl lg0 rfl ?_
  refine s_iload_n (pc' := 210) dL_law_209 rfl lg3 ?_
  refine s_iconst (pc' := 211) dL_law_210 rfl iconst_1 ?_
  refine s_iadd (pc' := 212) dL_law_211 rfl ?_
  refine s_tald2 (pc' := 213) dL_law_212 rfl i1 ?_
  refine s_aload_n (pc' := 214) dL_law_213 rfl lg0 rfl ?_
  refine s_iload_n (pc' := 215) dL_law_214 rfl lg3 ?_
  refine s_iconst (pc' := 216) dL_law_215 rfl iconst_2 ?_
  refine s_iadd (pc' := 217) dL_law_216 rfl ?_
  refine s_tald2 (pc' := 218) dL_law_217 rfl i2 ?_
  refine s_aload_n (pc' := 219) dL_law_218 rfl lg0 rfl ?_
  refine s_iload_n (pc' := 220) dL_law_219 rfl lg3 ?_
  refine s_iconst (pc' := 221) dL_law_220 rfl iconst_3 ?_
  refine s_iadd (pc' := 222) dL_law_221 rfl ?_
  refine s_tald2 (pc' := 223) dL_law_222 rfl i3 ?_
  refine s_aload_n (pc' := 224) dL_law_223 rfl lg0 rfl ?_
  refine s_iload_n (pc' := 225) dL_law_224 rfl lg3 ?_
  refine s_iconst (pc' := 226) dL_law_225 rfl iconst_4 ?_
  refine s_iadd (pc' := 227) dL_law_226 rfl ?_
  refine s_tald2 (pc' := 228) dL_law_227 rfl i4 ?_
  refine c_X6_piece  (pc' := 231) dL_law_228 rfl lkL_18 (by omega) (Nat.le_of_ble_eq_true rfl) c1 (fun A g1 g2 => ?_)
  have mA : isM 48 A σ n (nI t) (nI w) := m1.cp (fun k _ => by rw [g2 48 (by decide)])
  refine s_aload_n (pc' := 232) dL_law_231 rfl lg2 rfl ?_
  refine s_aload_n (pc' := 233) dL_law_232 rfl lg0 rfl ?_
  refine s_iload_n (pc' := 234) dL_law_233 rfl lg3 ?_
  refine s_iconst (pc' := 235) dL_law_234 rfl iconst_1 ?_
  refine s_iadd (pc' := 236) dL_law_235 rfl ?_
  refine s_tald2 (pc' := 237) dL_law_236 rfl i1 ?_
  refine s_aload_n (pc' := 238) dL_law_237 rfl lg0 rfl ?_
  refine s_iload_n (pc' := 239) dL_law_238 rfl lg3 ?_
  refine s_iconst (pc' := 240) dL_law_239 rfl iconst_2 ?_
  refine s_iadd (pc' := 241) dL_law_240 rfl ?_
  refine s_tald2 (pc' := 242) dL_law_241 rfl i2 ?_
  refine s_aload_n (pc' := 243) dL_law_242 rfl lg0 rfl ?_
  refine s_iload_n (pc' := 244) dL_law_243 rfl lg3 ?_
  refine s_iconst (pc' := 245) dL_law_244 rfl iconst_3 ?_
  refine s_iadd (pc' := 246) dL_law_245 rfl ?_
  refine s_tald2 (pc' := 247) dL_law_246 rfl i3 ?_
  refine s_aload_n (pc' := 248) dL_law_247 rfl lg0 rfl ?_
  refine s_iload_n (pc' := 249) dL_law_248 rfl lg3 ?_
  refine s_iconst (pc' := 250) dL_law_249 rfl iconst_4 ?_
  refine s_iadd (pc' := 251) dL_law_250 rfl ?_
  refine s_tald2 (pc' := 252) dL_law_251 rfl i4 ?_
  refine c_X7_piece  (pc' := 255) dL_law_252 rfl lkL_22 (by omega) (Nat.le_of_ble_eq_true rfl) mA (fun B h1 h2 => ?_)
  refine s_icmp_eq (pc' := 258) (tgt := 1103) dL_law_255 rfl (by decide) (fun _ => ?_) (fun c9 => absurd (rfl) c9)
  exact K _ ⟨_, _, t, w, nt, T, so, sz, it, tn, tp, kp, τ, nk, tk, wk, hC.shore (mem' := B) (g1.kept (fun j q1 q2 => h2 j (by omega))) (fun j q1 q2 q3 q4 => by rw [h2 j (by omega), g2 j (by omega)]), hM.shore (mem' := B) h1 (fun j q1 q2 q3 q4 => by rw [h2 j q1, g2 j (by omega)]), ok_ad p1, p2, p3, p4, p5, p6⟩
set_option maxHeartbeats 4000000 in
theorem lw_c27 {z : Zz} {d kc ks i : Nat} {rf : Nat → Value} {tl : Lay} {mem : Mem} {Q : Option Value → Lay → Mem → Prop} (hdd : 60 ≤ d) (hSL : z.2.1 ≤ 3072) (hi : i + 6 ≤ z.2.1) (hI : INV rf tl mem) (K : ∀ mem', INV rf tl mem' → Sim z d kc ks mL_law 1103 [.retAddr 2, .ref 0, .ref 47, .int (nI i)] [] (LAY rf tl) mem' Q) : Sim z d kc ks mL_law 1017 [.retAddr 2, .ref 0, .ref 47, .int (nI i)] [] (LAY rf tl) mem Q := by
  obtain ⟨i0, i1, i2, i3, i4, i5⟩ := lwi hSL hi
  obtain ⟨σ, n, t, w, nt, T, so, sz, it, tn, tp, kp, τ, nk, tk, wk, hC, hM, hP⟩ := hI
  obtain ⟨c1, c2, c3, ⟨c4, c5⟩, c6, c7⟩ := id hC
  obtain ⟨m1, m2, m3, ⟨m4, m5⟩, m6, m7, m8, m9, m10⟩ := id hM
  obtain ⟨p1, p2, p3, p4, p5, p6⟩ := id hP
  refine s_aload_n (pc' := 1018) dL_law_1017 rfl lg1 rfl ?_
  refine s_aload_n (pc' := 1019) dL_law_1018 rfl lg0 rfl ?_
  refine s_iload_n (pc' := 1020) dL_law_1019 rfl lg3 ?_
  refine s_iconst (pc' := 1021) dL_law_1020 rfl iconst_1 ?_
  refine s_iadd (pc' := 1022) dL_law_1021 rfl ?_
  refine s_tald2 (pc' := 1023) dL_law_1022 rfl i1 ?_
  refine s_aload_n (pc' := 1024) dL_law_1023 rfl lg0 rfl ?_
  refine s_iload_n (pc' := 1025) dL_law_1024 rfl lg3 ?_
  refine s_iconst (pc' := 1026) dL_law_1025 rfl iconst_2 ?_
  refine s_iadd (pc' := 1027) dL_law_1026 rfl ?_
  refine s_tald2 (pc' := 1028) dL_law_1027 rfl i2 ?_
  refine s_aload_n (pc' := 1029) dL_law_1028 rfl lg0 rfl ?_
  refine s_iload_n (pc' := 1030) dL_law_1029 rfl lg3 ?_
  refine s_iconst (pc' := 1031) dL_law_1030 rfl iconst_3 ?_
  refine s_iadd (pc' := 1032) dL_law_1031 rfl ?_
  refine s_tald2 (pc' := 1033) dL_law_1032 rfl i3 ?_
  refine s_aload_n (pc' := 1034) dL_law_1033 rfl lg0 rfl ?_
  refine s_iload_n (pc' := 1035) dL_law_1034 rfl lg3 ?_
  refine s_iconst (pc' := 1036) dL_law_1035 rfl iconst_4 ?_
  refine s_iadd (pc' := 1037) dL_law_1036 rfl ?_
  refine s_tald2 (pc' := 1038) dL_law_1037 rfl i4 ?_
  refine c_X6_finds  (pc' := 1041) dL_law_1038 rfl lkL_129 (by omega) (Nat.le_of_ble_eq_true rfl) c1 c3 (fun A g1 g2 => ?_)
  have mA : isM 48 A σ n (nI t) (nI w) := m1.cp (fun k _ => by rw [g2 48 (by decide)])
  have mR : isMR A so sz it := by unfold isMR at m3 ⊢; rw [g2 61 (by decide), g2 62 (by decide), g2 63 (by decide)]; exact m3
  refine s_aload_n (pc' := 1042) dL_law_1041 rfl lg2 rfl ?_
  refine s_aload_n (pc' := 1043) dL_law_1042 rfl lg0 rfl ?_
  refine s_iload_n (pc' := 1044) dL_law_1043 rfl lg3 ?_
  refine s_iconst (pc' := 1045) dL_law_1044 rfl iconst_1 ?_
  refine s_iadd (pc' := 1046) dL_law_1045 rfl ?_
  refine s_tald2 (pc' := 1047) dL_law_1046 rfl i1 ?_
  refine s_aload_n (pc' := 1048) dL_law_1047 rfl lg0 rfl ?_
  refine s_iload_n (pc' := 1049) dL_law_1048 rfl lg3 ?_
  refine s_iconst (pc' := 1050) dL_law_1049 rfl iconst_2 ?_
  refine s_iadd (pc' := 1051) dL_law_1050 rfl ?_
  refine s_tald2 (pc' := 1052) dL_law_1051 rfl i2 ?_
  refine s_aload_n (pc' := 1053) dL_law_1052 rfl lg0 rfl ?_
  refine s_iload_n (pc' := 1054) dL_law_1053 rfl lg3 ?_
  refine s_iconst (pc' := 1055) dL_law_1054 rfl iconst_3 ?_
  refine s_iadd (pc' := 1056) dL_law_1055 rfl ?_
  refine s_tald2 (pc' := 1057) dL_law_1056 rfl i3 ?_
  refine s_aload_n (pc' := 1058) dL_law_1057 rfl lg0 rfl ?_
  refine s_iload_n (pc' := 1059) dL_law_1058 rfl lg3 ?_
  refine s_iconst (pc' := 1060) dL_law_1059 rfl iconst_4 ?_
  refine s_iadd (pc' := 1061) dL_law_1060 rfl ?_
  refine s_tald2 (pc' := 1062) dL_law_1061 rfl i4 ?_
  refine c_X7_finds  (pc' := 1065) dL_law_1062 rfl lkL_132 (by omega) (Nat.le_of_ble_eq_true rfl) mA mR (fun B h1 h2 => ?_)
  refine s_icmp_eq (pc' := 1068) (tgt := 1103) dL_law_1065 rfl (by decide) (fun _ => ?_) (fun c9 => absurd (rfl) c9)
  exact K _ ⟨_, _, t, w, nt, T, so, sz, it, tn, tp, kp, τ, nk, tk, wk, hC.shore (mem' := B) (g1.kept (fun j q1 q2 => h2 j (by omega))) (fun j q1 q2 q3 q4 => by rw [h2 j (by omega), g2 j (by omega)]), hM.shore (mem' := B) h1 (fun j q1 q2 q3 q4 => by rw [h2 j q1, g2 j (by omega)]), ok_fS p1 _, p2, p3, p4, p5, p6⟩
set_option maxHeartbeats 4000000 in
theorem lw_c7 {z : Zz} {d kc ks i : Nat} {rf : Nat → Value} {tl : Lay} {mem : Mem} {Q : Option Value → Lay → Mem → Prop} (hdd : 60 ≤ d) (hSL : z.2.1 ≤ 3072) (hi : i + 6 ≤ z.2.1) (hI : INV rf tl mem) (K : ∀ mem', INV rf tl mem' → Sim z d kc ks mL_law 1103 [.retAddr 2, .ref 0, .ref 47, .int (nI i)] [] (LAY rf tl) mem' Q) : Sim z d kc ks mL_law 375 [.retAddr 2, .ref 0, .ref 47, .int (nI i)] [] (LAY rf tl) mem Q := by
  obtain ⟨i0, i1, i2, i3, i4, i5⟩ := lwi hSL hi
  obtain ⟨σ, n, t, w, nt, T, so, sz, it, tn, tp, kp, τ, nk, tk, wk, hC, hM, hP⟩ := hI
  obtain ⟨c1, c2, c3, ⟨c4, c5⟩, c6, c7⟩ := id hC
  obtain ⟨m1, m2, m3, ⟨m4, m5⟩, m6, m7, m8, m9, m10⟩ := id hM
  obtain ⟨p1, p2, p3, p4, p5, p6⟩ := id hP
  refine s_aload_n (pc' := 376) dL_law_375 rfl lg1 rfl ?_
  refine c_X6_tide  (pc' := 379) dL_law_376 rfl lkL_46 (by omega) (Nat.le_of_ble_eq_true rfl) c1 c2 p3 (fun A g => ?_)
  have hA48 : ∀ j, 46 < j → j < 67 → A j = mem j := fun j q1 q2 => by
    by_cases c : nI t < 999
    · rw [if_pos c] at g; exact g.2 j (by omega) (by omega) (by omega)
    · rw [if_neg c] at g; rw [g]
  have hMA := hM.keep (kM.of hA48)
  obtain ⟨n1, n2, n3, ⟨n4, n5⟩, n6, n7, n8, n9, n10⟩ := id hMA
  refine s_aload_n (pc' := 380) dL_law_379 rfl lg2 rfl ?_
  refine c_X7_tide  (pc' := 383) dL_law_380 rfl lkL_49 (by omega) (Nat.le_of_ble_eq_true rfl) n1 n2 p3 rfl p2 (fun B h => ?_)
  refine s_icmp_eq (pc' := 386) (tgt := 1103) dL_law_383 rfl (by decide) (fun _ => ?_) (fun c9 => absurd (rfl) c9)
  by_cases c : nI t < 999
  · rw [if_pos c] at g h
    obtain ⟨g1, g2⟩ := g
    obtain ⟨h1, h2⟩ := h
    have ht : t < 999 := (nI_ltI (a := t) (b := 999) (by omega) (by omega)).mp c
    rw [nI_1] at g1 h1
    exact K _ ⟨_, n, t + 1, w, nt, T, so, sz, it, tn, tp, kp, τ, nk, tk, wk, hC.shore (mem' := B) (g1.kept (fun j q1 q2 => h2 j (by omega) (by omega) (by omega) (by omega))) (fun j q1 q2 q3 q4 => by rw [h2 j (by omega) (by omega) (by omega) (by omega), g2 j q1 q2 (by omega)]), hMA.shore (mem' := B) h1 (fun j q1 q2 q3 q4 => h2 j q1 (by omega) (by omega) (by omega)), p1.pas, by omega, p3, p4, p5, p6⟩
  · rw [if_neg c] at g h
    subst h
    subst g
    exact K _ ⟨σ, n, t, w, nt, T, so, sz, it, tn, tp, kp, τ, nk, tk, wk, hC, hM, hP⟩
set_option maxHeartbeats 4000000 in
theorem lw_c6 {z : Zz} {d kc ks i : Nat} {rf : Nat → Value} {tl : Lay} {mem : Mem} {Q : Option Value → Lay → Mem → Prop} (hdd : 60 ≤ d) (hSL : z.2.1 ≤ 3072) (hi : i + 6 ≤ z.2.1) (hI : INV rf tl mem) (K : ∀ mem', INV rf tl mem' → Sim z d kc ks mL_law 1103 [.retAddr 2, .ref 0, .ref 47, .int (nI i)] [] (LAY rf tl) mem' Q) : Sim z d kc ks mL_law 352 [.retAddr 2, .ref 0, .ref 47, .int (nI i)] [] (LAY rf tl) mem Q := by
  obtain ⟨i0, i1, i2, i3, i4, i5⟩ := lwi hSL hi
  obtain ⟨σ, n, t, w, nt, T, so, sz, it, tn, tp, kp, τ, nk, tk, wk, hC, hM, hP⟩ := hI
  obtain ⟨c1, c2, c3, ⟨c4, c5⟩, c6, c7⟩ := id hC
  obtain ⟨m1, m2, m3, ⟨m4, m5⟩, m6, m7, m8, m9, m10⟩ := id hM
  obtain ⟨p1, p2, p3, p4, p5, p6⟩ := id hP
  refine s_aload_n (pc' := 353) dL_law_352 rfl lg1 rfl ?_
  refine s_aload_n (pc' := 354) dL_law_353 rfl lg0 rfl ?_
  refine s_iload_n (pc' := 355) dL_law_354 rfl lg3 ?_
  refine s_iconst (pc' := 356) dL_law_355 rfl iconst_1 ?_
  refine s_iadd (pc' := 357) dL_law_356 rfl ?_
  refine s_tald2 (pc' := 358) dL_law_357 rfl i1 ?_
  refine c_X6_force  (pc' := 361) dL_law_358 rfl lkL_42 (by omega) (Nat.le_of_ble_eq_true rfl) c1 c2 ?_
  refine s_aload_n (pc' := 362) dL_law_361 rfl lg2 rfl ?_
  refine s_aload_n (pc' := 363) dL_law_362 rfl lg0 rfl ?_
  refine s_iload_n (pc' := 364) dL_law_363 rfl lg3 ?_
  refine s_iconst (pc' := 365) dL_law_364 rfl iconst_1 ?_
  refine s_iadd (pc' := 366) dL_law_365 rfl ?_
  refine s_tald2 (pc' := 367) dL_law_366 rfl i1 ?_
  have hMA : MO (if inB (z.2.2 (nI i + 1).toNatClampNeg) 0 (nI (nt - 1)) = 0 then mem else am_up mem 10 10 (z.2.2 (nI i + 1).toNatClampNeg)) σ n t w nt T so sz it tn tp kp τ nk tk wk := hM.keep (kM.of (fun j q1 q2 => by split; rfl; exact upN (by omega)))
  refine c_X7_force  (pc' := 370) dL_law_367 rfl lkL_45 (by omega) (Nat.le_of_ble_eq_true rfl) hMA.1 hMA.2.1.1 hMA.2.1.2.1 ?_
  refine s_icmp_eq (pc' := 373) (tgt := 1103) dL_law_370 rfl (by decide) (fun _ => ?_) (fun c9 => absurd (rfl) c9)
  generalize z.2.2 (nI i + 1).toNatClampNeg = x at hMA ⊢
  by_cases cb : inB x 0 (nI (nt - 1)) = 0
  · rw [if_pos cb, if_pos cb]
    exact K mem ⟨σ, n, t, w, nt, T, so, sz, it, tn, tp, kp, τ, nk, tk, wk, hC, hM, hP⟩
  · rw [if_neg cb] at hMA
    rw [if_neg cb, if_neg cb]
    have hnt := c2.2.1
    have hn6 := c2.2.2.1
    obtain ⟨r, hr, rfl⟩ := in_of (m := nt - 1) (by omega) cb
    refine K _ ⟨σ, n, t, r, nt, T, so, sz, it, tn, tp, kp, τ, nk, tk, wk, hC.shore (mem' := am_up (am_up mem 10 10 (nI r)) 48 42 (nI r)) ((c1.rux (x := nI r)).kept (fun j q1 q2 => upN (by omega))) (fun j q1 q2 q3 q4 => by rw [upN (by omega), upN (by omega)]), hMA.shore (mem' := am_up (am_up mem 10 10 (nI r)) 48 42 (nI r)) hMA.1.rux (fun j q1 q2 q3 q4 => upN q1), p1, p2, by omega, p4, p5, p6⟩
set_option maxHeartbeats 4000000 in
theorem lw_c4 {z : Zz} {d kc ks i : Nat} {rf : Nat → Value} {tl : Lay} {mem : Mem} {Q : Option Value → Lay → Mem → Prop} (hdd : 60 ≤ d) (hSL : z.2.1 ≤ 3072) (hi : i + 6 ≤ z.2.1) (hI : INV rf tl mem) (K : ∀ mem', INV rf tl mem' → Sim z d kc ks mL_law 1103 [.retAddr 2, .ref 0, .ref 47, .int (nI i)] [] (LAY rf tl) mem' Q) : Sim z d kc ks mL_law 316 [.retAddr 2, .ref 0, .ref 47, .int (nI i)] [] (LAY rf tl) mem Q := by
  obtain ⟨i0, i1, i2, i3, i4, i5⟩ := lwi hSL hi
  obtain ⟨σ, n, t, w, nt, T, so, sz, it, tn, tp, kp, τ, nk, tk, wk, hC, hM, hP⟩ := hI
  obtain ⟨c1, c2, c3, ⟨c4, c5⟩, c6, c7⟩ := id hC
  obtain ⟨m1, m2, m3, ⟨m4, m5⟩, m6, m7, m8, m9, m10⟩ := id hM
  obtain ⟨p1, p2, p3, p4, p5, p6⟩ := id hP
  refine s_aload_n (pc' := 317) dL_law_316 rfl lg1 rfl ?_
  refine s_aload_n (pc' := 318) dL_law_317 rfl lg0 rfl ?_
  refine s_iload_n (pc' := 319) dL_law_318 rfl lg3 ?_
  refine s_iconst (pc' := 320) dL_law_319 rfl iconst_1 ?_
  refine s_iadd (pc' := 321) dL_law_320 rfl ?_
  refine s_tald2 (pc' := 322) dL_law_321 rfl i1 ?_
  refine c_X6_feed  (pc' := 325) dL_law_322 rfl lkL_33 (by omega) (Nat.le_of_ble_eq_true rfl) c4 p4 ?_
  refine s_aload_n (pc' := 326) dL_law_325 rfl lg2 rfl ?_
  refine s_aload_n (pc' := 327) dL_law_326 rfl lg0 rfl ?_
  refine s_iload_n (pc' := 328) dL_law_327 rfl lg3 ?_
  refine s_iconst (pc' := 329) dL_law_328 rfl iconst_1 ?_
  refine s_iadd (pc' := 330) dL_law_329 rfl ?_
  refine s_tald2 (pc' := 331) dL_law_330 rfl i1 ?_
  have hMA : MO (if inB (z.2.2 (nI i + 1).toNatClampNeg) 0 255 = 0 then mem else if tn < 160 then am_up (am_up mem 8 tn (z.2.2 (nI i + 1).toNatClampNeg)) 7 1 (nI (tn + 1)) else mem) σ n t w nt T so sz it tn tp kp τ nk tk wk := hM.keep (kM.of (fun j q1 q2 => by
    split
    · rfl
    · split
      · rw [upN (by omega), upN (by omega)]
      · rfl))
  refine c_X7_feed  (pc' := 334) dL_law_331 rfl lkL_36 (by omega) (Nat.le_of_ble_eq_true rfl) hMA.2.2.2.1.1 p4 ?_
  refine s_icmp_eq (pc' := 337) (tgt := 1103) dL_law_334 rfl (by decide) (fun _ => ?_) (fun c9 => absurd (rfl) c9)
  generalize z.2.2 (nI i + 1).toNatClampNeg = x at hMA ⊢
  by_cases cb : inB x 0 255 = 0
  · rw [if_pos cb, if_pos cb]
    exact K mem ⟨σ, n, t, w, nt, T, so, sz, it, tn, tp, kp, τ, nk, tk, wk, hC, hM, hP⟩
  · rw [if_neg cb] at hMA
    rw [if_neg cb, if_neg cb]
    by_cases c160 : tn < 160
    · rw [if_pos c160] at hMA
      rw [if_pos c160, if_pos c160]
      obtain ⟨r, hr, rfl⟩ := in_of (m := 255) (by omega) cb
      obtain ⟨n1, n2, n3, ⟨n4, n5⟩, n6, n7, n8, n9, n10⟩ := hMA
      generalize hA : am_up (am_up mem 8 tn (nI r)) 7 1 (nI (tn + 1)) = A at n1 n2 n3 n4 n5 n6 n7 n8 n9 n10 ⊢
      have a7 : A 7 1 = nI (tn + 1) := by rw [← hA, upE, udE]
      have a8 : A 8 = upd (mem 8) tn (nI r) := by rw [← hA, upN (by decide), upE]
      have aj : ∀ j, j ≠ 7 → j ≠ 8 → A j = mem j := fun j q1 q2 => by rw [← hA, upN q1, upN q2]
      have b47 : ∀ k, k ≠ 5 → am_up (am_up A 51 tn (nI r)) 47 5 (nI (tn + 1)) 47 k = A 47 k := fun k hk => by rw [upE, udN hk, upN (by decide)]
      have bj : ∀ j, j ≠ 47 → j ≠ 51 → am_up (am_up A 51 tn (nI r)) 47 5 (nI (tn + 1)) j = A j := fun j q1 q2 => by rw [upN q1, upN q2]
      have b5 : am_up (am_up A 51 tn (nI r)) 47 5 (nI (tn + 1)) 47 5 = nI (tn + 1) := by rw [upE, udE]
      have b51 : am_up (am_up A 51 tn (nI r)) 47 5 (nI (tn + 1)) 51 = upd (A 51) tn (nI r) := by rw [upN (by decide), upE]
      generalize am_up (am_up A 51 tn (nI r)) 47 5 (nI (tn + 1)) = B at b47 bj b5 b51 ⊢
      refine K B ⟨σ, n, t, w, nt, T, so, sz, it, tn + 1, fun k => if k = tn then r else tp k, kp, τ, nk, tk, wk, ⟨c1.kept (fun j q1 q2 => by rw [bj j (by omega) (by omega), aj j (by omega) (by omega)]), c2.kept (fun j q => by rw [bj j (by omega) (by omega), aj j (by omega) (by omega)]), c3.kept (fun j q1 q2 => by rw [bj j (by omega) (by omega), aj j (by omega) (by omega)]), ⟨by rw [bj 7 (by decide) (by decide)]; exact a7, fun k hk => ?_⟩, by rw [bj 0 (by decide) (by decide), aj 0 (by decide) (by decide)]; exact c6, fun q => (c7 q).kept (fun j q1 q2 => by rw [bj j (by omega) (by omega), aj j (by omega) (by omega)])⟩, ⟨n1.cp (fun k _ => by rw [bj 48 (by decide) (by decide)]), n2.kept (b47 12 (by decide)) (bj 52 (by decide) (by decide)) (bj 53 (by decide) (by decide)), ?_, ⟨b5, fun k hk => ?_⟩, by rw [b47 3 (by decide)]; exact n6, fun q => (n7 q).cp (fun k _ => by rw [bj 49 (by decide) (by decide)]), fun k hk => by rw [bj 54 (by decide) (by decide)]; exact n8 k hk, fun k hk => by rw [bj 65 (by decide) (by decide)]; exact n9 k hk, fun k hk => by rw [bj 60 (by decide) (by decide)]; exact n10 k hk⟩, p1, p2, p3, by omega, fun k hk => ?_, p6⟩
      · rw [bj 8 (by decide) (by decide), a8]
        by_cases e : k = tn
        · rw [e, udE]; show nI r = nI (if tn = tn then r else tp tn); rw [if_pos rfl]
        · rw [udN e, c5 k (by omega)]; show nI (tp k) = nI (if k = tn then r else tp k); rw [if_neg e]
      · unfold isMR at n3 ⊢
        rw [bj 61 (by decide) (by decide), bj 62 (by decide) (by decide), bj 63 (by decide) (by decide)]; exact n3
      · rw [b51]
        by_cases e : k = tn
        · rw [e, udE]; show nI r = nI (if tn = tn then r else tp tn); rw [if_pos rfl]
        · rw [udN e, n5 k (by omega)]; show nI (tp k) = nI (if k = tn then r else tp k); rw [if_neg e]
      · show (if k = tn then r else tp k) < 256
        by_cases e : k = tn
        · rw [if_pos e]; omega
        · rw [if_neg e]; exact p5 k (by omega)
    · rw [if_neg c160, if_neg c160]
      exact K mem ⟨σ, n, t, w, nt, T, so, sz, it, tn, tp, kp, τ, nk, tk, wk, hC, hM, hP⟩
set_option maxHeartbeats 4000000 in
theorem lw_c21 {z : Zz} {d kc ks i : Nat} {rf : Nat → Value} {tl : Lay} {mem : Mem} {Q : Option Value → Lay → Mem → Prop} (hdd : 60 ≤ d) (hSL : z.2.1 ≤ 3072) (hi : i + 6 ≤ z.2.1) (hI : INV rf tl mem) (K : ∀ mem', INV rf tl mem' → Sim z d kc ks mL_law 1103 [.retAddr 2, .ref 0, .ref 47, .int (nI i)] [] (LAY rf tl) mem' Q) : Sim z d kc ks mL_law 819 [.retAddr 2, .ref 0, .ref 47, .int (nI i)] [] (LAY rf tl) mem Q := by
  obtain ⟨i0, i1, i2, i3, i4, i5⟩ := lwi hSL hi
  obtain ⟨σ, n, t, w, nt, T, so, sz, it, tn, tp, kp, τ, nk, tk, wk, hC, hM, hP⟩ := hI
  obtain ⟨c1, c2, c3, ⟨c4, c5⟩, c6, c7⟩ := id hC
  obtain ⟨m1, m2, m3, ⟨m4, m5⟩, m6, m7, m8, m9, m10⟩ := id hM
  obtain ⟨p1, p2, p3, p4, p5, p6⟩ := id hP
  refine s_aload_n (pc' := 820) dL_law_819 rfl lg1 rfl ?_
  refine c_X6_image  (pc' := 823) dL_law_820 rfl lkL_104 (by omega) (Nat.le_of_ble_eq_true rfl) c1 (fun A g1 g2 g3 => ?_)
  refine s_aload_n (pc' := 824) dL_law_823 rfl lg2 rfl ?_
  have hMA := hM.keep (kM.of (fun j q1 q2 => g3 j (by omega) (by omega)))
  obtain ⟨n1, n2, n3, ⟨n4, n5⟩, n6, n7, n8, n9, n10⟩ := id hMA
  refine c_X7_image  (pc' := 827) dL_law_824 rfl lkL_107 (by omega) (Nat.le_of_ble_eq_true rfl) n1 (fun B h1 h2 h3 h4 => ?_)
  refine s_icmp_eq (pc' := 830) (tgt := 1103) dL_law_827 rfl (by decide) (fun _ => ?_) (fun c9 => absurd (rfl) c9)
  refine K B ⟨σ, n, t, w, nt, T, so, sz, it, tn, tp, true, σ, n, t, w, ⟨c1.kept (fun j q1 q2 => by rw [h4 j (by omega) (by omega), g3 j (by omega) (by omega)]), c2.kept (fun j q => by rw [h4 j (by omega) (by omega), g3 j (by omega) (by omega)]), c3.kept (fun j q1 q2 => by rw [h4 j (by omega) (by omega), g3 j (by omega) (by omega)]), ⟨by rw [h4 7 (by decide) (by decide), g3 7 (by decide) (by decide)]; exact c4, fun k hk => by rw [h4 8 (by decide) (by decide), g3 8 (by decide) (by decide)]; exact c5 k hk⟩, by rw [h4 0 (by decide) (by decide), g2]; rfl, fun _ => g1.kept (fun j q1 q2 => h4 j (by omega) (by omega))⟩, ⟨n1.cp (fun k _ => by rw [h4 48 (by decide) (by decide)]), n2.kept (h3 12 (by decide)) (h4 52 (by decide) (by decide)) (h4 53 (by decide) (by decide)), ?_, ⟨by rw [h3 5 (by decide)]; exact n4, fun k hk => by rw [h4 51 (by decide) (by decide)]; exact n5 k hk⟩, by rw [h2]; rfl, fun _ => h1, fun k hk => by rw [h4 54 (by decide) (by decide)]; exact n8 k hk, fun k hk => by rw [h4 65 (by decide) (by decide)]; exact n9 k hk, fun k hk => by rw [h4 60 (by decide) (by decide)]; exact n10 k hk⟩, p1, p2, p3, p4, p5, fun _ => ⟨p1, p2, p3⟩⟩
  unfold isMR at n3 ⊢
  rw [h4 61 (by decide) (by decide), h4 62 (by decide) (by decide), h4 63 (by decide) (by decide)]; exact n3
set_option maxHeartbeats 4000000 in
theorem lw_c22 {z : Zz} {d kc ks i : Nat} {rf : Nat → Value} {tl : Lay} {mem : Mem} {Q : Option Value → Lay → Mem → Prop} (hdd : 60 ≤ d) (hSL : z.2.1 ≤ 3072) (hi : i + 6 ≤ z.2.1) (hI : INV rf tl mem) (K : ∀ mem', INV rf tl mem' → Sim z d kc ks mL_law 1103 [.retAddr 2, .ref 0, .ref 47, .int (nI i)] [] (LAY rf tl) mem' Q) : Sim z d kc ks mL_law 832 [.retAddr 2, .ref 0, .ref 47, .int (nI i)] [] (LAY rf tl) mem Q := by
  obtain ⟨i0, i1, i2, i3, i4, i5⟩ := lwi hSL hi
  obtain ⟨σ, n, t, w, nt, T, so, sz, it, tn, tp, kp, τ, nk, tk, wk, hC, hM, hP⟩ := hI
  obtain ⟨c1, c2, c3, ⟨c4, c5⟩, c6, c7⟩ := id hC
  obtain ⟨m1, m2, m3, ⟨m4, m5⟩, m6, m7, m8, m9, m10⟩ := id hM
  obtain ⟨p1, p2, p3, p4, p5, p6⟩ := id hP
  refine s_aload_n (pc' := 833) dL_law_832 rfl lg1 rfl ?_
  refine c_X6_back  (pc' := 836) dL_law_833 rfl lkL_108 (by omega) (Nat.le_of_ble_eq_true rfl) c6 c7 (fun A g => ?_)
  refine s_aload_n (pc' := 837) dL_law_836 rfl lg2 rfl ?_
  have hA48 : ∀ j, 46 < j → j < 67 → A j = mem j := fun j q1 q2 => by
    cases kp with
    | true => rw [if_pos rfl] at g; exact g.2 j (by omega)
    | false => rw [if_neg Bool.false_ne_true] at g; rw [g]
  have hMA := hM.keep (kM.of hA48)
  obtain ⟨n1, n2, n3, ⟨n4, n5⟩, n6, n7, n8, n9, n10⟩ := id hMA
  refine c_X7_back  (pc' := 840) dL_law_837 rfl lkL_111 (by omega) (Nat.le_of_ble_eq_true rfl) n6 n7 (fun B h => ?_)
  refine s_icmp_eq (pc' := 843) (tgt := 1103) dL_law_840 rfl (by decide) (fun _ => ?_) (fun c9 => absurd (rfl) c9)
  cases kp with
  | true =>
    rw [if_pos rfl] at g h
    obtain ⟨g1, g2⟩ := g
    obtain ⟨h1, h2⟩ := h
    obtain ⟨r1, r2, r3⟩ := p6 rfl
    exact K B ⟨τ, nk, tk, wk, nt, T, so, sz, it, tn, tp, true, τ, nk, tk, wk, hC.shore (mem' := B) (g1.kept (fun j q1 q2 => h2 j (by omega))) (fun j q1 q2 q3 q4 => by rw [h2 j (by omega), g2 j (by omega)]), hMA.shore (mem' := B) h1 (fun j q1 q2 q3 q4 => h2 j q1), r1, r2, r3, p4, p5, p6⟩
  | false =>
    rw [if_neg Bool.false_ne_true] at g h
    subst h
    subst g
    exact K _ ⟨σ, n, t, w, nt, T, so, sz, it, tn, tp, false, τ, nk, tk, wk, hC, hM, hP⟩
set_option maxHeartbeats 4000000 in
theorem lw_c24 {z : Zz} {d kc ks i : Nat} {rf : Nat → Value} {tl : Lay} {mem : Mem} {Q : Option Value → Lay → Mem → Prop} (hdd : 60 ≤ d) (hSL : z.2.1 ≤ 3072) (hi : i + 6 ≤ z.2.1) (hI : INV rf tl mem) (K : ∀ mem', INV rf tl mem' → Sim z d kc ks mL_law 1103 [.retAddr 2, .ref 0, .ref 47, .int (nI i)] [] (LAY rf tl) mem' Q) : Sim z d kc ks mL_law 868 [.retAddr 2, .ref 0, .ref 47, .int (nI i)] [] (LAY rf tl) mem Q := by
  obtain ⟨i0, i1, i2, i3, i4, i5⟩ := lwi hSL hi
  obtain ⟨σ, n, t, w, nt, T, so, sz, it, tn, tp, kp, τ, nk, tk, wk, hC, hM, hP⟩ := hI
  obtain ⟨c1, c2, c3, ⟨c4, c5⟩, c6, c7⟩ := id hC
  obtain ⟨m1, m2, m3, ⟨m4, m5⟩, m6, m7, m8, m9, m10⟩ := id hM
  obtain ⟨p1, p2, p3, p4, p5, p6⟩ := id hP
  refine s_aload_n (pc' := 869) dL_law_868 rfl lg1 rfl ?_
  refine s_aload_n (pc' := 870) dL_law_869 rfl lg0 rfl ?_
  refine s_iload_n (pc' := 871) dL_law_870 rfl lg3 ?_
  refine s_iconst (pc' := 872) dL_law_871 rfl iconst_1 ?_
  refine s_iadd (pc' := 873) dL_law_872 rfl ?_
  refine s_tald2 (pc' := 874) dL_law_873 rfl i1 ?_
  refine s_aload_n (pc' := 875) dL_law_874 rfl lg0 rfl ?_
  refine s_iload_n (pc' := 876) dL_law_875 rfl lg3 ?_
  refine s_iconst (pc' := 877) dL_law_876 rfl iconst_2 ?_
  refine s_iadd (pc' := 878) dL_law_877 rfl ?_
  refine s_tald2 (pc' := 879) dL_law_878 rfl i2 ?_
  refine s_aload_n (pc' := 880) dL_law_879 rfl lg0 rfl ?_
  refine s_iload_n (pc' := 881) dL_law_880 rfl lg3 ?_
  refine s_iconst (pc' := 882) dL_law_881 rfl iconst_3 ?_
  refine s_iadd (pc' := 883) dL_law_882 rfl ?_
  refine s_tald2 (pc' := 884) dL_law_883 rfl i3 ?_
  refine c_X6_sheet  (pc' := 887) dL_law_884 rfl lkL_116 (by omega) (Nat.le_of_ble_eq_true rfl) (fun A g => ?_)
  refine s_aload_n (pc' := 888) dL_law_887 rfl lg2 rfl ?_
  refine s_aload_n (pc' := 889) dL_law_888 rfl lg0 rfl ?_
  refine s_iload_n (pc' := 890) dL_law_889 rfl lg3 ?_
  refine s_iconst (pc' := 891) dL_law_890 rfl iconst_1 ?_
  refine s_iadd (pc' := 892) dL_law_891 rfl ?_
  refine s_tald2 (pc' := 893) dL_law_892 rfl i1 ?_
  refine s_aload_n (pc' := 894) dL_law_893 rfl lg0 rfl ?_
  refine s_iload_n (pc' := 895) dL_law_894 rfl lg3 ?_
  refine s_iconst (pc' := 896) dL_law_895 rfl iconst_2 ?_
  refine s_iadd (pc' := 897) dL_law_896 rfl ?_
  refine s_tald2 (pc' := 898) dL_law_897 rfl i2 ?_
  refine s_aload_n (pc' := 899) dL_law_898 rfl lg0 rfl ?_
  refine s_iload_n (pc' := 900) dL_law_899 rfl lg3 ?_
  refine s_iconst (pc' := 901) dL_law_900 rfl iconst_3 ?_
  refine s_iadd (pc' := 902) dL_law_901 rfl ?_
  refine s_tald2 (pc' := 903) dL_law_902 rfl i3 ?_
  generalize z.2.2 (nI i + 1).toNatClampNeg = x at g ⊢
  generalize z.2.2 (nI i + 2).toNatClampNeg = y at g ⊢
  generalize z.2.2 (nI i + 3).toNatClampNeg = u at g ⊢
  unfold shtF at g
  have hok : shtR x y u = 1 → ix x < 4 := fun h => by
    unfold shtR at h
    rcases sh_or x with q | ⟨j, hj, rfl, -⟩
    · rw [if_pos q] at h; exact absurd h (by decide)
    · rw [ix_nI (by omega)]; exact hj
  have hA48 : ∀ j, 46 < j → j < 67 → A j = mem j := fun j q1 q2 => by
    by_cases c : shtR x y u = 1
    · rw [if_pos c] at g; have := hok c; exact g.2 j (by omega) (by omega)
    · rw [if_neg c] at g; rw [g]
  have hMA := hM.keep (kM.of hA48)
  obtain ⟨n1, n2, n3, ⟨n4, n5⟩, n6, n7, n8, n9, n10⟩ := id hMA
  refine c_X7_sheet  (pc' := 906) dL_law_903 rfl lkL_119 (by omega) (Nat.le_of_ble_eq_true rfl) n3 (fun B h1 h2 => ?_)
  refine s_icmp_eq (pc' := 909) (tgt := 1103) dL_law_906 rfl (by decide) (fun _ => ?_) (fun c9 => absurd (rfl) c9)
  by_cases c : shtR x y u = 1
  · rw [if_pos c] at g h1
    have h4 := hok c
    exact K B ⟨σ, n, t, w, nt, T, _, _, _, tn, tp, kp, τ, nk, tk, wk, hC.sheet (mem' := B) ((isRR.uf (mem' := A) c3 h4 g.1 (fun q q1 q2 _ _ => g.2 q q1 q2)).kept (fun q q1 q2 => h2 q (by omega) (by omega) (by omega) (by omega))) (fun j q1 q2 q3 q4 q5 => by rw [h2 j (by omega) (by omega) (by omega) (by omega), g.2 j (by omega) (by omega)]), hMA.sheet (mem' := B) h1 (fun k _ => by rw [h2 48 (by decide) (by decide) (by decide) (by decide)]) (fun j q1 q2 q3 q4 q5 q6 q7 q8 q9 => h2 j q4 q5 q6 q7), hP⟩
  · rw [if_neg c] at g h1
    subst g
    exact K B ⟨σ, n, t, w, nt, T, so, sz, it, tn, tp, kp, τ, nk, tk, wk, hC.sheet (mem' := B) (c3.kept (fun q q1 q2 => h2 q (by omega) (by omega) (by omega) (by omega))) (fun j q1 q2 q3 q4 q5 => h2 j (by omega) (by omega) (by omega) (by omega)), hM.sheet (mem' := B) h1 (fun k _ => by rw [h2 48 (by decide) (by decide) (by decide) (by decide)]) (fun j q1 q2 q3 q4 q5 q6 q7 q8 q9 => h2 j q4 q5 q6 q7), hP⟩
set_option maxHeartbeats 4000000 in
theorem lw_c25 {z : Zz} {d kc ks i : Nat} {rf : Nat → Value} {tl : Lay} {mem : Mem} {Q : Option Value → Lay → Mem → Prop} (hdd : 60 ≤ d) (hSL : z.2.1 ≤ 3072) (hi : i + 6 ≤ z.2.1) (hI : INV rf tl mem) (K : ∀ mem', INV rf tl mem' → Sim z d kc ks mL_law 1103 [.retAddr 2, .ref 0, .ref 47, .int (nI i)] [] (LAY rf tl) mem' Q) : Sim z d kc ks mL_law 911 [.retAddr 2, .ref 0, .ref 47, .int (nI i)] [] (LAY rf tl) mem Q := by
  obtain ⟨i0, i1, i2, i3, i4, i5⟩ := lwi hSL hi
  obtain ⟨σ, n, t, w, nt, T, so, sz, it, tn, tp, kp, τ, nk, tk, wk, hC, hM, hP⟩ := hI
  obtain ⟨c1, c2, c3, ⟨c4, c5⟩, c6, c7⟩ := id hC
  obtain ⟨m1, m2, m3, ⟨m4, m5⟩, m6, m7, m8, m9, m10⟩ := id hM
  obtain ⟨p1, p2, p3, p4, p5, p6⟩ := id hP
  refine s_aload_n (pc' := 912) dL_law_911 rfl lg1 rfl ?_
  refine s_aload_n (pc' := 913) dL_law_912 rfl lg0 rfl ?_
  refine s_iload_n (pc' := 914) dL_law_913 rfl lg3 ?_
  refine s_iconst (pc' := 915) dL_law_914 rfl iconst_1 ?_
  refine s_iadd (pc' := 916) dL_law_915 rfl ?_
  refine s_tald2 (pc' := 917) dL_law_916 rfl i1 ?_
  refine s_aload_n (pc' := 918) dL_law_917 rfl lg0 rfl ?_
  refine s_iload_n (pc' := 919) dL_law_918 rfl lg3 ?_
  refine s_iconst (pc' := 920) dL_law_919 rfl iconst_2 ?_
  refine s_iadd (pc' := 921) dL_law_920 rfl ?_
  refine s_tald2 (pc' := 922) dL_law_921 rfl i2 ?_
  refine s_aload_n (pc' := 923) dL_law_922 rfl lg0 rfl ?_
  refine s_iload_n (pc' := 924) dL_law_923 rfl lg3 ?_
  refine s_iconst (pc' := 925) dL_law_924 rfl iconst_3 ?_
  refine s_iadd (pc' := 926) dL_law_925 rfl ?_
  refine s_tald2 (pc' := 927) dL_law_926 rfl i3 ?_
  refine c_X6_cell  (pc' := 930) dL_law_927 rfl lkL_120 (by omega) (Nat.le_of_ble_eq_true rfl) c3 (fun A g => ?_)
  refine s_aload_n (pc' := 931) dL_law_930 rfl lg2 rfl ?_
  refine s_aload_n (pc' := 932) dL_law_931 rfl lg0 rfl ?_
  refine s_iload_n (pc' := 933) dL_law_932 rfl lg3 ?_
  refine s_iconst (pc' := 934) dL_law_933 rfl iconst_1 ?_
  refine s_iadd (pc' := 935) dL_law_934 rfl ?_
  refine s_tald2 (pc' := 936) dL_law_935 rfl i1 ?_
  refine s_aload_n (pc' := 937) dL_law_936 rfl lg0 rfl ?_
  refine s_iload_n (pc' := 938) dL_law_937 rfl lg3 ?_
  refine s_iconst (pc' := 939) dL_law_938 rfl iconst_2 ?_
  refine s_iadd (pc' := 940) dL_law_939 rfl ?_
  refine s_tald2 (pc' := 941) dL_law_940 rfl i2 ?_
  refine s_aload_n (pc' := 942) dL_law_941 rfl lg0 rfl ?_
  refine s_iload_n (pc' := 943) dL_law_942 rfl lg3 ?_
  refine s_iconst (pc' := 944) dL_law_943 rfl iconst_3 ?_
  refine s_iadd (pc' := 945) dL_law_944 rfl ?_
  refine s_tald2 (pc' := 946) dL_law_945 rfl i3 ?_
  generalize z.2.2 (nI i + 1).toNatClampNeg = x at g ⊢
  generalize z.2.2 (nI i + 2).toNatClampNeg = y at g ⊢
  generalize z.2.2 (nI i + 3).toNatClampNeg = u at g ⊢
  unfold celF at g
  have hok : celR so sz x y = 1 → ix x < 4 := fun h => by
    unfold celR at h
    rcases sh_or x with q | ⟨j, hj, rfl, -⟩
    · rw [if_pos q] at h; exact absurd h (by decide)
    · rw [ix_nI (by omega)]; exact hj
  have hA48 : ∀ j, 46 < j → j < 67 → A j = mem j := fun j q1 q2 => by
    by_cases c : celR so sz x y = 1
    · rw [if_pos c] at g; have := hok c; exact g.2 j (by omega)
    · rw [if_neg c] at g; rw [g]
  have hMA := hM.keep (kM.of hA48)
  obtain ⟨n1, n2, n3, ⟨n4, n5⟩, n6, n7, n8, n9, n10⟩ := id hMA
  refine c_X7_cell  (pc' := 949) dL_law_946 rfl lkL_123 (by omega) (Nat.le_of_ble_eq_true rfl) n3 (fun B h1 h2 => ?_)
  refine s_icmp_eq (pc' := 952) (tgt := 1103) dL_law_949 rfl (by decide) (fun _ => ?_) (fun c9 => absurd (rfl) c9)
  by_cases c : celR so sz x y = 1
  · rw [if_pos c] at g h1
    have h4 := hok c
    have hRA := isRR.uf (mem' := A) c3 h4 g.1 (fun q q1 q2 _ _ => g.2 q q2)
    rw [uf_self, uf_self] at hRA
    exact K B ⟨σ, n, t, w, nt, T, so, sz, _, tn, tp, kp, τ, nk, tk, wk, hC.sheet (mem' := B) (hRA.kept (fun q q1 q2 => h2 q (by omega) (by omega) (by omega) (by omega))) (fun j q1 q2 q3 q4 q5 => by rw [h2 j (by omega) (by omega) (by omega) (by omega), g.2 j (by omega)]), hMA.sheet (mem' := B) h1 (fun k _ => by rw [h2 48 (by decide) (by decide) (by decide) (by decide)]) (fun j q1 q2 q3 q4 q5 q6 q7 q8 q9 => h2 j q4 q5 q6 q7), hP⟩
  · rw [if_neg c] at g h1
    subst g
    exact K B ⟨σ, n, t, w, nt, T, so, sz, it, tn, tp, kp, τ, nk, tk, wk, hC.sheet (mem' := B) (c3.kept (fun q q1 q2 => h2 q (by omega) (by omega) (by omega) (by omega))) (fun j q1 q2 q3 q4 q5 => h2 j (by omega) (by omega) (by omega) (by omega)), hM.sheet (mem' := B) h1 (fun k _ => by rw [h2 48 (by decide) (by decide) (by decide) (by decide)]) (fun j q1 q2 q3 q4 q5 q6 q7 q8 q9 => h2 j q4 q5 q6 q7), hP⟩
set_option maxHeartbeats 4000000 in
theorem lw_c26 {z : Zz} {d kc ks i : Nat} {rf : Nat → Value} {tl : Lay} {mem : Mem} {Q : Option Value → Lay → Mem → Prop} (hdd : 60 ≤ d) (hSL : z.2.1 ≤ 3072) (hi : i + 6 ≤ z.2.1) (hI : INV rf tl mem) (K : ∀ mem', INV rf tl mem' → Sim z d kc ks mL_law 1103 [.retAddr 2, .ref 0, .ref 47, .int (nI i)] [] (LAY rf tl) mem' Q) : Sim z d kc ks mL_law 954 [.retAddr 2, .ref 0, .ref 47, .int (nI i)] [] (LAY rf tl) mem Q := by
  obtain ⟨i0, i1, i2, i3, i4, i5⟩ := lwi hSL hi
  obtain ⟨σ, n, t, w, nt, T, so, sz, it, tn, tp, kp, τ, nk, tk, wk, hC, hM, hP⟩ := hI
  obtain ⟨c1, c2, c3, ⟨c4, c5⟩, c6, c7⟩ := id hC
  obtain ⟨m1, m2, m3, ⟨m4, m5⟩, m6, m7, m8, m9, m10⟩ := id hM
  obtain ⟨p1, p2, p3, p4, p5, p6⟩ := id hP
  refine s_aload_n (pc' := 955) dL_law_954 rfl lg1 rfl ?_
  refine s_aload_n (pc' := 956) dL_law_955 rfl lg0 rfl ?_
  refine s_iload_n (pc' := 957) dL_law_956 rfl lg3 ?_
  refine s_iconst (pc' := 958) dL_law_957 rfl iconst_1 ?_
  refine s_iadd (pc' := 959) dL_law_958 rfl ?_
  refine s_tald2 (pc' := 960) dL_law_959 rfl i1 ?_
  refine s_aload_n (pc' := 961) dL_law_960 rfl lg0 rfl ?_
  refine s_iload_n (pc' := 962) dL_law_961 rfl lg3 ?_
  refine s_iconst (pc' := 963) dL_law_962 rfl iconst_2 ?_
  refine s_iadd (pc' := 964) dL_law_963 rfl ?_
  refine s_tald2 (pc' := 965) dL_law_964 rfl i2 ?_
  refine s_aload_n (pc' := 966) dL_law_965 rfl lg0 rfl ?_
  refine s_iload_n (pc' := 967) dL_law_966 rfl lg3 ?_
  refine s_iconst (pc' := 968) dL_law_967 rfl iconst_3 ?_
  refine s_iadd (pc' := 969) dL_law_968 rfl ?_
  refine s_tald2 (pc' := 970) dL_law_969 rfl i3 ?_
  refine s_aload_n (pc' := 971) dL_law_970 rfl lg0 rfl ?_
  refine s_iload_n (pc' := 972) dL_law_971 rfl lg3 ?_
  refine s_iconst (pc' := 973) dL_law_972 rfl iconst_4 ?_
  refine s_iadd (pc' := 974) dL_law_973 rfl ?_
  refine s_tald2 (pc' := 975) dL_law_974 rfl i4 ?_
  refine s_aload_n (pc' := 976) dL_law_975 rfl lg0 rfl ?_
  refine s_iload_n (pc' := 977) dL_law_976 rfl lg3 ?_
  refine s_iconst (pc' := 978) dL_law_977 rfl iconst_5 ?_
  refine s_iadd (pc' := 979) dL_law_978 rfl ?_
  refine s_tald2 (pc' := 980) dL_law_979 rfl i5 ?_
  refine c_X6_copy  (pc' := 983) dL_law_980 rfl lkL_124 (by omega) (Nat.le_of_ble_eq_true rfl) c3 (fun A g => ?_)
  refine s_aload_n (pc' := 984) dL_law_983 rfl lg2 rfl ?_
  refine s_aload_n (pc' := 985) dL_law_984 rfl lg0 rfl ?_
  refine s_iload_n (pc' := 986) dL_law_985 rfl lg3 ?_
  refine s_iconst (pc' := 987) dL_law_986 rfl iconst_1 ?_
  refine s_iadd (pc' := 988) dL_law_987 rfl ?_
  refine s_tald2 (pc' := 989) dL_law_988 rfl i1 ?_
  refine s_aload_n (pc' := 990) dL_law_989 rfl lg0 rfl ?_
  refine s_iload_n (pc' := 991) dL_law_990 rfl lg3 ?_
  refine s_iconst (pc' := 992) dL_law_991 rfl iconst_2 ?_
  refine s_iadd (pc' := 993) dL_law_992 rfl ?_
  refine s_tald2 (pc' := 994) dL_law_993 rfl i2 ?_
  refine s_aload_n (pc' := 995) dL_law_994 rfl lg0 rfl ?_
  refine s_iload_n (pc' := 996) dL_law_995 rfl lg3 ?_
  refine s_iconst (pc' := 997) dL_law_996 rfl iconst_3 ?_
  refine s_iadd (pc' := 998) dL_law_997 rfl ?_
  refine s_tald2 (pc' := 999) dL_law_998 rfl i3 ?_
  refine s_aload_n (pc' := 1000) dL_law_999 rfl lg0 rfl ?_
  refine s_iload_n (pc' := 1001) dL_law_1000 rfl lg3 ?_
  refine s_iconst (pc' := 1002) dL_law_1001 rfl iconst_4 ?_
  refine s_iadd (pc' := 1003) dL_law_1002 rfl ?_
  refine s_tald2 (pc' := 1004) dL_law_1003 rfl i4 ?_
  refine s_aload_n (pc' := 1005) dL_law_1004 rfl lg0 rfl ?_
  refine s_iload_n (pc' := 1006) dL_law_1005 rfl lg3 ?_
  refine s_iconst (pc' := 1007) dL_law_1006 rfl iconst_5 ?_
  refine s_iadd (pc' := 1008) dL_law_1007 rfl ?_
  refine s_tald2 (pc' := 1009) dL_law_1008 rfl i5 ?_
  generalize z.2.2 (nI i + 1).toNatClampNeg = x at g ⊢
  generalize z.2.2 (nI i + 2).toNatClampNeg = y at g ⊢
  generalize z.2.2 (nI i + 3).toNatClampNeg = u at g ⊢
  generalize z.2.2 (nI i + 4).toNatClampNeg = v at g ⊢
  generalize z.2.2 (nI i + 5).toNatClampNeg = r at g ⊢
  unfold cpyF at g
  have hok : 0 ≤ cpyR so sz x y u v r → ix u < 4 := fun h => by
    unfold cpyR at h
    rcases sh_or u with q | ⟨j, hj, rfl, -⟩
    · rw [if_pos q] at h
      split at h <;> exact absurd h (by decide)
    · rw [ix_nI (by omega)]; exact hj
  have hA48 : ∀ j, 46 < j → j < 67 → A j = mem j := fun j q1 q2 => by
    by_cases c : 0 ≤ cpyR so sz x y u v r
    · rw [if_pos c] at g; have := hok c; exact g.2 j (by omega)
    · rw [if_neg c] at g; rw [g]
  have hMA := hM.keep (kM.of hA48)
  obtain ⟨n1, n2, n3, ⟨n4, n5⟩, n6, n7, n8, n9, n10⟩ := id hMA
  refine c_X7_copy  (pc' := 1012) dL_law_1009 rfl lkL_128 (by omega) (Nat.le_of_ble_eq_true rfl) n3 (fun B h1 h2 => ?_)
  refine s_icmp_eq (pc' := 1015) (tgt := 1103) dL_law_1012 rfl (by decide) (fun _ => ?_) (fun c9 => absurd (rfl) c9)
  by_cases c : 0 ≤ cpyR so sz x y u v r
  · rw [if_pos c] at g h1
    have h4 := hok c
    have hRA := isRR.uf (mem' := A) c3 h4 g.1 (fun q q1 q2 _ _ => g.2 q q2)
    rw [uf_self, uf_self] at hRA
    exact K B ⟨σ, n, t, w, nt, T, so, sz, _, tn, tp, kp, τ, nk, tk, wk, hC.sheet (mem' := B) (hRA.kept (fun q q1 q2 => h2 q (by omega) (by omega) (by omega) (by omega))) (fun j q1 q2 q3 q4 q5 => by rw [h2 j (by omega) (by omega) (by omega) (by omega), g.2 j (by omega)]), hMA.sheet (mem' := B) h1 (fun k _ => by rw [h2 48 (by decide) (by decide) (by decide) (by decide)]) (fun j q1 q2 q3 q4 q5 q6 q7 q8 q9 => h2 j q4 q5 q6 q7), hP⟩
  · rw [if_neg c] at g h1
    subst g
    exact K B ⟨σ, n, t, w, nt, T, so, sz, it, tn, tp, kp, τ, nk, tk, wk, hC.sheet (mem' := B) (c3.kept (fun q q1 q2 => h2 q (by omega) (by omega) (by omega) (by omega))) (fun j q1 q2 q3 q4 q5 => h2 j (by omega) (by omega) (by omega) (by omega)), hM.sheet (mem' := B) h1 (fun k _ => by rw [h2 48 (by decide) (by decide) (by decide) (by decide)]) (fun j q1 q2 q3 q4 q5 q6 q7 q8 q9 => h2 j q4 q5 q6 q7), hP⟩
set_option maxHeartbeats 4000000 in
theorem lw_c18 {z : Zz} {d kc ks i : Nat} {rf : Nat → Value} {tl : Lay} {mem : Mem} {Q : Option Value → Lay → Mem → Prop} (hdd : 60 ≤ d) (hSL : z.2.1 ≤ 3072) (hi : i + 6 ≤ z.2.1) (hI : INV rf tl mem) (K : ∀ mem', INV rf tl mem' → Sim z d kc ks mL_law 1103 [.retAddr 2, .ref 0, .ref 47, .int (nI i)] [] (LAY rf tl) mem' Q) : Sim z d kc ks mL_law 689 [.retAddr 2, .ref 0, .ref 47, .int (nI i)] [] (LAY rf tl) mem Q := by
  obtain ⟨i0, i1, i2, i3, i4, i5⟩ := lwi hSL hi
  obtain ⟨σ, n, t, w, nt, T, so, sz, it, tn, tp, kp, τ, nk, tk, wk, hC, hM, hP⟩ := hI
  obtain ⟨c1, c2, c3, ⟨c4, c5⟩, c6, c7⟩ := id hC
  obtain ⟨m1, m2, m3, ⟨m4, m5⟩, m6, m7, m8, m9, m10⟩ := id hM
  obtain ⟨p1, p2, p3, p4, p5, p6⟩ := id hP
  refine s_aload_n (pc' := 690) dL_law_689 rfl lg1 rfl ?_
  refine s_aload_n (pc' := 691) dL_law_690 rfl lg0 rfl ?_
  refine s_iload_n (pc' := 692) dL_law_691 rfl lg3 ?_
  refine s_iconst (pc' := 693) dL_law_692 rfl iconst_1 ?_
  refine s_iadd (pc' := 694) dL_law_693 rfl ?_
  refine s_tald2 (pc' := 695) dL_law_694 rfl i1 ?_
  refine s_aload_n (pc' := 696) dL_law_695 rfl lg0 rfl ?_
  refine s_iload_n (pc' := 697) dL_law_696 rfl lg3 ?_
  refine s_iconst (pc' := 698) dL_law_697 rfl iconst_2 ?_
  refine s_iadd (pc' := 699) dL_law_698 rfl ?_
  refine s_tald2 (pc' := 700) dL_law_699 rfl i2 ?_
  refine s_aload_n (pc' := 701) dL_law_700 rfl lg0 rfl ?_
  refine s_iload_n (pc' := 702) dL_law_701 rfl lg3 ?_
  refine s_iconst (pc' := 703) dL_law_702 rfl iconst_3 ?_
  refine s_iadd (pc' := 704) dL_law_703 rfl ?_
  refine s_tald2 (pc' := 705) dL_law_704 rfl i3 ?_
  refine c_X6_film  (pc' := 708) dL_law_705 rfl lkL_91 (by omega) (Nat.le_of_ble_eq_true rfl) c1 c2 p3 (fun A g => ?_)
  refine s_aload_n (pc' := 709) dL_law_708 rfl lg2 rfl ?_
  refine s_aload_n (pc' := 710) dL_law_709 rfl lg0 rfl ?_
  refine s_iload_n (pc' := 711) dL_law_710 rfl lg3 ?_
  refine s_iconst (pc' := 712) dL_law_711 rfl iconst_1 ?_
  refine s_iadd (pc' := 713) dL_law_712 rfl ?_
  refine s_tald2 (pc' := 714) dL_law_713 rfl i1 ?_
  refine s_aload_n (pc' := 715) dL_law_714 rfl lg0 rfl ?_
  refine s_iload_n (pc' := 716) dL_law_715 rfl lg3 ?_
  refine s_iconst (pc' := 717) dL_law_716 rfl iconst_2 ?_
  refine s_iadd (pc' := 718) dL_law_717 rfl ?_
  refine s_tald2 (pc' := 719) dL_law_718 rfl i2 ?_
  refine s_aload_n (pc' := 720) dL_law_719 rfl lg0 rfl ?_
  refine s_iload_n (pc' := 721) dL_law_720 rfl lg3 ?_
  refine s_iconst (pc' := 722) dL_law_721 rfl iconst_3 ?_
  refine s_iadd (pc' := 723) dL_law_722 rfl ?_
  refine s_tald2 (pc' := 724) dL_law_723 rfl i3 ?_
  generalize z.2.2 (nI i + 1).toNatClampNeg = x at g ⊢
  generalize z.2.2 (nI i + 2).toNatClampNeg = y at g ⊢
  generalize z.2.2 (nI i + 3).toNatClampNeg = u at g ⊢
  unfold filmF at g
  have hok : ¬ (shB x = 0 ∨ pcB y (nI n) = 0 ∨ inB u 0 30 = 0) → ix x < 4 := fun h => by
    rcases sh_or x with q | ⟨j, hj, rfl, -⟩
    · exact absurd (Or.inl q) h
    · rw [ix_nI (by omega)]; exact hj
  have hA48 : ∀ j, 46 < j → j < 67 → A j = mem j := fun j q1 q2 => by
    by_cases c : shB x = 0 ∨ pcB y (nI n) = 0 ∨ inB u 0 30 = 0
    · rw [if_pos c] at g; rw [g]
    · rw [if_neg c] at g; have := hok c; exact g.2 j (by omega) (by omega) (by omega) (by omega) (by omega)
  have hMA := hM.keep (kM.of hA48)
  obtain ⟨n1, n2, n3, ⟨n4, n5⟩, n6, n7, n8, n9, n10⟩ := id hMA
  refine c_X7_film  (pc' := 727) dL_law_724 rfl lkL_94 (by omega) (Nat.le_of_ble_eq_true rfl) n1 n2 p3 p1 n3 (fun B h1 h2 h3 => ?_)
  refine s_icmp_eq (pc' := 730) (tgt := 1103) dL_law_727 rfl (by decide) (fun _ => ?_) (fun c9 => absurd (rfl) c9)
  by_cases c : shB x = 0 ∨ pcB y (nI n) = 0 ∨ inB u 0 30 = 0
  · rw [if_pos c] at g h1
    subst g
    exact K B ⟨σ, n, t, w, nt, T, so, sz, it, tn, tp, kp, τ, nk, tk, wk, hC.sheet (mem' := B) (c3.kept (fun q q1 q2 => h3 q (by omega) (by omega) (by omega) (by omega) (by omega) (by omega) (by omega))) (fun j q1 q2 q3 q4 q5 => h3 j (by omega) (by omega) (by omega) (by omega) (by omega) (by omega) (by omega)), hM.sheet (mem' := B) h1 h2 (fun j q1 q2 q3 q4 q5 q6 q7 q8 q9 => h3 j q1 q2 q3 q4 q5 q6 q7), hP⟩
  · rw [if_neg c] at g h1
    have h4 := hok c
    exact K B ⟨σ, n, t, w, nt, T, _, _, _, tn, tp, kp, τ, nk, tk, wk, hC.sheet (mem' := B) ((isRR.uf (mem' := A) c3 h4 g.1 (fun q q1 q2 _ _ => g.2 q (by omega) (by omega) (by omega) q1 q2)).kept (fun q q1 q2 => h3 q (by omega) (by omega) (by omega) (by omega) (by omega) (by omega) (by omega))) (fun j q1 q2 q3 q4 q5 => by rw [h3 j (by omega) (by omega) (by omega) (by omega) (by omega) (by omega) (by omega), g.2 j q1 q2 q3 (by omega) (by omega)]), hMA.sheet (mem' := B) h1 h2 (fun j q1 q2 q3 q4 q5 q6 q7 q8 q9 => h3 j q1 q2 q3 q4 q5 q6 q7), hP⟩

