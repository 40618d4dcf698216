/-! THE FIXED PART OF THE WORLD, JUMPS, NUMBERS (by gen17.py) -/
def yt0L : List (Option yT) := [some (3, 0), some (2, 100), some (2, 100), some (4, 0), some (2, 5), some (4, 0), some (2, 2), some (4, 0), some (2, 4), some (4, 0), some (2, 6), some (4, 0), some (2, 6), some (4, 0), some (2, 2), some (4, 0), some (2, 5), some (4, 0), some (2, 0), some (4, 0), some (2, 4), some (4, 0), some (2, 4), some (4, 0), some (2, 5), some (4, 0), some (2, 5), some (4, 0), some (2, 2), some (4, 0), some (2, 4), some (4, 0), some (2, 2), none, some (16, 0), some (8, 0), some (0, 5), some (2, 4001), some (12, 0), some (0, 9), some (14, 0), some (0, 16), some (0, 16), some (1, 16), some (1, 16), some (0, 16), some (0, 16), some (0, 16), some (13, 0), some (0, 12), some (0, 12), some (0, 12), some (0, 12), some (0, 12), some (0, 12), some (0, 12), some (0, 12), some (0, 12), some (0, 12), some (10, 0), some (0, 8), some (0, 8), some (0, 8), some (0, 8), some (0, 8), some (1, 8), some (0, 8), some (0, 8), some (0, 8), some (15, 0), some (1, 54), some (0, 54), some (0, 54), some (0, 54), some (11, 0), some (0, 8), some (0, 8), some (9, 0), some (0, 10), some (0, 10), some (0, 10), some (0, 1024), some (0, 1024), some (22, 0), some (0, 9), some (0, 8), some (0, 8), some (7, 0), some (7, 0), some (7, 0), some (7, 0), some (7, 0), some (7, 0), some (17, 0)]
def yt0 (a : Nat) : Option yT := yt0L.getD a none
def yr0L : List (List (Option Nat)) := [[], [], [], [some 4], [], [some 6], [], [some 8], [], [some 10], [], [some 12], [], [some 14], [], [some 16], [], [some 18], [], [some 20], [], [some 22], [], [some 24], [], [some 26], [], [some 28], [], [some 30], [], [some 32], [], [], [some 35, some 38, some 40, some 48, some 59, some 69, some 74, some 77], [some 36, some 37], [], [], [none, none, some 39], [], [none, some 41, some 42, some 43, some 44, some 45, some 46, some 47], [], [], [], [], [], [], [], [none, some 49, some 50, some 51, some 52, some 53, some 54, some 55, some 56, some 57, some 58], [], [], [], [], [], [], [], [], [], [], [none, some 60, some 61, some 62, some 63, some 64, some 65, some 66, some 67, some 68], [], [], [], [], [], [], [], [], [], [none, some 70, some 71, some 72, some 73], [], [], [], [], [some 75, some 76], [], [], [none, none, none, some 78, some 79, some 80, some 81, some 82], [], [], [], [], [], [none, none, none, none, none, none, none, none, none, some 84, some 85, some 86, some 87, some 88, some 89, some 90, some 91, some 92], [], [], [], [], [], [], [], [], [], []]
def yr0 (a k : Nat) : Option Nat := (yr0L.getD a []).getD k none
def yB0 : Nat := 94
/-- the fixed part stands -/
def ySh (n : Nat) (tg : Nat → yT) (R : Nat → Nat → Value) : Prop := yB0 ≤ n ∧ (∀ a t, yt0 a = some t → tg a = t) ∧ ∀ a k b, yr0 a k = some b → R a k = .ref b
theorem ySh.n {n : Nat} {tg : Nat → yT} {R : Nat → Nat → Value} (h : ySh n tg R) {a : Nat} (ha : Nat.blt a yB0 = true) : a < n := Nat.lt_of_lt_of_le (blt_lt ha) h.1
theorem ySh.t {n : Nat} {tg : Nat → yT} {R : Nat → Nat → Value} (h : ySh n tg R) {a : Nat} {t : yT} (ha : yt0 a = some t) : tg a = t := h.2.1 a t ha
theorem ySh.r {n : Nat} {tg : Nat → yT} {R : Nat → Nat → Value} (h : ySh n tg R) {a k b : Nat} (ha : yr0 a k = some b) : R a k = .ref b := h.2.2 a k b ha
theorem j_L_law_27 : xat xm_L_law.2.2.2.2.1 27 = xc_L_law_27 := rfl
theorem j_L_law_200 : xat xm_L_law.2.2.2.2.1 200 = xc_L_law_200 := rfl
theorem j_L_law_226 : xat xm_L_law.2.2.2.2.1 226 = xc_L_law_226 := rfl
theorem j_L_law_227 : xat xm_L_law.2.2.2.2.1 227 = xc_L_law_227 := rfl
theorem j_L_law_259 : xat xm_L_law.2.2.2.2.1 259 = xc_L_law_259 := rfl
theorem j_L_law_260 : xat xm_L_law.2.2.2.2.1 260 = xc_L_law_260 := rfl
theorem j_L_law_268 : xat xm_L_law.2.2.2.2.1 268 = xc_L_law_268 := rfl
theorem j_L_law_296 : xat xm_L_law.2.2.2.2.1 296 = xc_L_law_296 := rfl
set_option maxRecDepth 40000 in
theorem j_L_law_336 : xat xm_L_law.2.2.2.2.1 336 = xc_L_law_336 := rfl
set_option maxRecDepth 40000 in
theorem j_L_law_364 : xat xm_L_law.2.2.2.2.1 364 = xc_L_law_364 := rfl
set_option maxRecDepth 40000 in
theorem j_L_law_392 : xat xm_L_law.2.2.2.2.1 392 = xc_L_law_392 := rfl
set_option maxRecDepth 40000 in
theorem j_L_law_420 : xat xm_L_law.2.2.2.2.1 420 = xc_L_law_420 := rfl
set_option maxRecDepth 40000 in
theorem j_L_law_484 : xat xm_L_law.2.2.2.2.1 484 = xc_L_law_484 := rfl
set_option maxRecDepth 40000 in
theorem j_L_law_512 : xat xm_L_law.2.2.2.2.1 512 = xc_L_law_512 := rfl
set_option maxRecDepth 40000 in
theorem j_L_law_540 : xat xm_L_law.2.2.2.2.1 540 = xc_L_law_540 := rfl
set_option maxRecDepth 40000 in
theorem j_L_law_604 : xat xm_L_law.2.2.2.2.1 604 = xc_L_law_604 := rfl
set_option maxRecDepth 40000 in
theorem j_L_law_624 : xat xm_L_law.2.2.2.2.1 624 = xc_L_law_624 := rfl
set_option maxRecDepth 40000 in
theorem j_L_law_625 : xat xm_L_law.2.2.2.2.1 625 = xc_L_law_625 := rfl
set_option maxRecDepth 40000 in
theorem j_L_law_651 : xat xm_L_law.2.2.2.2.1 651 = xc_L_law_651 := rfl
set_option maxRecDepth 40000 in
theorem j_L_law_652 : xat xm_L_law.2.2.2.2.1 652 = xc_L_law_652 := rfl
set_option maxRecDepth 40000 in
theorem j_L_law_660 : xat xm_L_law.2.2.2.2.1 660 = xc_L_law_660 := rfl
set_option maxRecDepth 40000 in
theorem j_L_law_676 : xat xm_L_law.2.2.2.2.1 676 = xc_L_law_676 := rfl
set_option maxRecDepth 40000 in
theorem j_L_law_748 : xat xm_L_law.2.2.2.2.1 748 = xc_L_law_748 := rfl
set_option maxRecDepth 40000 in
theorem j_L_law_766 : xat xm_L_law.2.2.2.2.1 766 = xc_L_law_766 := rfl
set_option maxRecDepth 40000 in
theorem j_L_law_769 : xat xm_L_law.2.2.2.2.1 769 = xc_L_law_769 := rfl
set_option maxRecDepth 40000 in
theorem j_L_law_821 : xat xm_L_law.2.2.2.2.1 821 = xc_L_law_821 := rfl
set_option maxRecDepth 40000 in
theorem j_L_law_885 : xat xm_L_law.2.2.2.2.1 885 = xc_L_law_885 := rfl
set_option maxRecDepth 40000 in
theorem j_L_law_925 : xat xm_L_law.2.2.2.2.1 925 = xc_L_law_925 := rfl
set_option maxRecDepth 40000 in
theorem j_L_law_977 : xat xm_L_law.2.2.2.2.1 977 = xc_L_law_977 := rfl
set_option maxRecDepth 40000 in
theorem j_L_law_1067 : xat xm_L_law.2.2.2.2.1 1067 = xc_L_law_1067 := rfl
set_option maxRecDepth 40000 in
theorem j_L_law_1095 : xat xm_L_law.2.2.2.2.1 1095 = xc_L_law_1095 := rfl
set_option maxRecDepth 40000 in
theorem j_L_law_1135 : xat xm_L_law.2.2.2.2.1 1135 = xc_L_law_1135 := rfl
set_option maxRecDepth 40000 in
theorem j_L_law_1163 : xat xm_L_law.2.2.2.2.1 1163 = xc_L_law_1163 := rfl
set_option maxRecDepth 40000 in
theorem j_L_law_1203 : xat xm_L_law.2.2.2.2.1 1203 = xc_L_law_1203 := rfl
set_option maxRecDepth 40000 in
theorem j_L_law_1243 : xat xm_L_law.2.2.2.2.1 1243 = xc_L_law_1243 := rfl
set_option maxRecDepth 40000 in
theorem j_L_law_1283 : xat xm_L_law.2.2.2.2.1 1283 = xc_L_law_1283 := rfl
set_option maxRecDepth 40000 in
theorem j_L_law_1323 : xat xm_L_law.2.2.2.2.1 1323 = xc_L_law_1323 := rfl
set_option maxRecDepth 40000 in
theorem j_L_law_1375 : xat xm_L_law.2.2.2.2.1 1375 = xc_L_law_1375 := rfl
set_option maxRecDepth 40000 in
theorem j_L_law_1415 : xat xm_L_law.2.2.2.2.1 1415 = xc_L_law_1415 := rfl
set_option maxRecDepth 40000 in
theorem j_L_law_1455 : xat xm_L_law.2.2.2.2.1 1455 = xc_L_law_1455 := rfl
set_option maxRecDepth 40000 in
theorem j_L_law_1483 : xat xm_L_law.2.2.2.2.1 1483 = xc_L_law_1483 := rfl
set_option maxRecDepth 40000 in
theorem j_L_law_1511 : xat xm_L_law.2.2.2.2.1 1511 = xc_L_law_1511 := rfl
set_option maxRecDepth 40000 in
theorem j_L_law_1551 : xat xm_L_law.2.2.2.2.1 1551 = xc_L_law_1551 := rfl
set_option maxRecDepth 40000 in
theorem j_L_law_1571 : xat xm_L_law.2.2.2.2.1 1571 = xc_L_law_1571 := rfl
set_option maxRecDepth 40000 in
theorem j_L_law_1572 : xat xm_L_law.2.2.2.2.1 1572 = xc_L_law_1572 := rfl
set_option maxRecDepth 40000 in
theorem j_L_law_1598 : xat xm_L_law.2.2.2.2.1 1598 = xc_L_law_1598 := rfl
set_option maxRecDepth 40000 in
theorem j_L_law_1599 : xat xm_L_law.2.2.2.2.1 1599 = xc_L_law_1599 := rfl
set_option maxRecDepth 40000 in
theorem j_L_law_1607 : xat xm_L_law.2.2.2.2.1 1607 = xc_L_law_1607 := rfl
set_option maxRecDepth 40000 in
theorem j_L_law_1647 : xat xm_L_law.2.2.2.2.1 1647 = xc_L_law_1647 := rfl
set_option maxRecDepth 40000 in
theorem j_L_law_1660 : xat xm_L_law.2.2.2.2.1 1660 = xc_L_law_1660 := rfl
set_option maxRecDepth 40000 in
theorem j_L_law_1673 : xat xm_L_law.2.2.2.2.1 1673 = xc_L_law_1673 := rfl
set_option maxRecDepth 40000 in
theorem j_L_law_1679 : xat xm_L_law.2.2.2.2.1 1679 = xc_L_law_1679 := rfl
theorem j_L_hold_16 : xat xm_L_hold.2.2.2.2.1 16 = xc_L_hold_16 := rfl
theorem j_L_hold_20 : xat xm_L_hold.2.2.2.2.1 20 = xc_L_hold_20 := rfl
theorem j_L_person_13 : xat xm_L_person.2.2.2.2.1 13 = xc_L_person_13 := rfl
theorem j_L_person_16 : xat xm_L_person.2.2.2.2.1 16 = xc_L_person_16 := rfl
theorem j_L_person_19 : xat xm_L_person.2.2.2.2.1 19 = xc_L_person_19 := rfl
theorem j_L_thing_14 : xat xm_L_thing.2.2.2.2.1 14 = xc_L_thing_14 := rfl
theorem j_L_thing_18 : xat xm_L_thing.2.2.2.2.1 18 = xc_L_thing_18 := rfl
theorem j_L_thing_22 : xat xm_L_thing.2.2.2.2.1 22 = xc_L_thing_22 := rfl
theorem j_L_thing_26 : xat xm_L_thing.2.2.2.2.1 26 = xc_L_thing_26 := rfl
theorem j_L_buy_13 : xat xm_L_buy.2.2.2.2.1 13 = xc_L_buy_13 := rfl
theorem j_L_buy_16 : xat xm_L_buy.2.2.2.2.1 16 = xc_L_buy_16 := rfl
theorem j_L_buy_19 : xat xm_L_buy.2.2.2.2.1 19 = xc_L_buy_19 := rfl
theorem j_L_take_13 : xat xm_L_take.2.2.2.2.1 13 = xc_L_take_13 := rfl
theorem j_L_take_16 : xat xm_L_take.2.2.2.2.1 16 = xc_L_take_16 := rfl
theorem j_L_take_19 : xat xm_L_take.2.2.2.2.1 19 = xc_L_take_19 := rfl
theorem j_L_ruin_13 : xat xm_L_ruin.2.2.2.2.1 13 = xc_L_ruin_13 := rfl
theorem j_L_ruin_16 : xat xm_L_ruin.2.2.2.2.1 16 = xc_L_ruin_16 := rfl
theorem j_L_ruin_19 : xat xm_L_ruin.2.2.2.2.1 19 = xc_L_ruin_19 := rfl
theorem j_L_sell_18 : xat xm_L_sell.2.2.2.2.1 18 = xc_L_sell_18 := rfl
theorem j_L_sell_22 : xat xm_L_sell.2.2.2.2.1 22 = xc_L_sell_22 := rfl
theorem j_L_sell_26 : xat xm_L_sell.2.2.2.2.1 26 = xc_L_sell_26 := rfl
theorem j_L_sell_30 : xat xm_L_sell.2.2.2.2.1 30 = xc_L_sell_30 := rfl
theorem j_L_pay_13 : xat xm_L_pay.2.2.2.2.1 13 = xc_L_pay_13 := rfl
theorem j_L_pay_16 : xat xm_L_pay.2.2.2.2.1 16 = xc_L_pay_16 := rfl
theorem j_L_pay_19 : xat xm_L_pay.2.2.2.2.1 19 = xc_L_pay_19 := rfl
theorem j_L_benchmark_13 : xat xm_L_benchmark.2.2.2.2.1 13 = xc_L_benchmark_13 := rfl
theorem j_L_benchmark_16 : xat xm_L_benchmark.2.2.2.2.1 16 = xc_L_benchmark_16 := rfl
theorem j_L_lease_18 : xat xm_L_lease.2.2.2.2.1 18 = xc_L_lease_18 := rfl
theorem j_L_lease_22 : xat xm_L_lease.2.2.2.2.1 22 = xc_L_lease_22 := rfl
theorem j_L_lease_26 : xat xm_L_lease.2.2.2.2.1 26 = xc_L_lease_26 := rfl
theorem j_L_lease_30 : xat xm_L_lease.2.2.2.2.1 30 = xc_L_lease_30 := rfl
theorem j_L_end_14 : xat xm_L_end.2.2.2.2.1 14 = xc_L_end_14 := rfl
theorem j_L_end_18 : xat xm_L_end.2.2.2.2.1 18 = xc_L_end_18 := rfl
theorem j_L_end_22 : xat xm_L_end.2.2.2.2.1 22 = xc_L_end_22 := rfl
theorem j_L_venture_12 : xat xm_L_venture.2.2.2.2.1 12 = xc_L_venture_12 := rfl
theorem j_L_venture_15 : xat xm_L_venture.2.2.2.2.1 15 = xc_L_venture_15 := rfl
theorem j_L_join_18 : xat xm_L_join.2.2.2.2.1 18 = xc_L_join_18 := rfl
theorem j_L_join_22 : xat xm_L_join.2.2.2.2.1 22 = xc_L_join_22 := rfl
theorem j_L_join_26 : xat xm_L_join.2.2.2.2.1 26 = xc_L_join_26 := rfl
theorem j_L_join_30 : xat xm_L_join.2.2.2.2.1 30 = xc_L_join_30 := rfl
theorem j_L_result_16 : xat xm_L_result.2.2.2.2.1 16 = xc_L_result_16 := rfl
theorem j_L_result_20 : xat xm_L_result.2.2.2.2.1 20 = xc_L_result_20 := rfl
theorem j_L_result_24 : xat xm_L_result.2.2.2.2.1 24 = xc_L_result_24 := rfl
theorem j_L_result_28 : xat xm_L_result.2.2.2.2.1 28 = xc_L_result_28 := rfl
theorem j_L_buyOut_18 : xat xm_L_buyOut.2.2.2.2.1 18 = xc_L_buyOut_18 := rfl
theorem j_L_buyOut_22 : xat xm_L_buyOut.2.2.2.2.1 22 = xc_L_buyOut_22 := rfl
theorem j_L_buyOut_26 : xat xm_L_buyOut.2.2.2.2.1 26 = xc_L_buyOut_26 := rfl
theorem j_L_buyOut_30 : xat xm_L_buyOut.2.2.2.2.1 30 = xc_L_buyOut_30 := rfl
theorem j_L_deposit_14 : xat xm_L_deposit.2.2.2.2.1 14 = xc_L_deposit_14 := rfl
theorem j_L_deposit_18 : xat xm_L_deposit.2.2.2.2.1 18 = xc_L_deposit_18 := rfl
theorem j_L_deposit_22 : xat xm_L_deposit.2.2.2.2.1 22 = xc_L_deposit_22 := rfl
theorem j_L_deposit_26 : xat xm_L_deposit.2.2.2.2.1 26 = xc_L_deposit_26 := rfl
theorem j_L_share_16 : xat xm_L_share.2.2.2.2.1 16 = xc_L_share_16 := rfl
theorem j_L_share_20 : xat xm_L_share.2.2.2.2.1 20 = xc_L_share_20 := rfl
theorem j_L_firm_22 : xat xm_L_firm.2.2.2.2.1 22 = xc_L_firm_22 := rfl
theorem j_L_firm_26 : xat xm_L_firm.2.2.2.2.1 26 = xc_L_firm_26 := rfl
theorem j_L_firm_30 : xat xm_L_firm.2.2.2.2.1 30 = xc_L_firm_30 := rfl
theorem j_L_invest_13 : xat xm_L_invest.2.2.2.2.1 13 = xc_L_invest_13 := rfl
theorem j_L_invest_16 : xat xm_L_invest.2.2.2.2.1 16 = xc_L_invest_16 := rfl
theorem j_L_invest_19 : xat xm_L_invest.2.2.2.2.1 19 = xc_L_invest_19 := rfl
theorem j_L_dividend_14 : xat xm_L_dividend.2.2.2.2.1 14 = xc_L_dividend_14 := rfl
theorem j_L_dividend_18 : xat xm_L_dividend.2.2.2.2.1 18 = xc_L_dividend_18 := rfl
theorem j_L_dividend_22 : xat xm_L_dividend.2.2.2.2.1 22 = xc_L_dividend_22 := rfl
theorem j_L_dividend_26 : xat xm_L_dividend.2.2.2.2.1 26 = xc_L_dividend_26 := rfl
theorem j_L_pass_13 : xat xm_L_pass.2.2.2.2.1 13 = xc_L_pass_13 := rfl
theorem j_L_pass_16 : xat xm_L_pass.2.2.2.2.1 16 = xc_L_pass_16 := rfl
theorem j_L_pass_19 : xat xm_L_pass.2.2.2.2.1 19 = xc_L_pass_19 := rfl
theorem j_L_ofPerson_14 : xat xm_L_ofPerson.2.2.2.2.1 14 = xc_L_ofPerson_14 := rfl
theorem j_L_ofPerson_18 : xat xm_L_ofPerson.2.2.2.2.1 18 = xc_L_ofPerson_18 := rfl
theorem j_L_ofPerson_22 : xat xm_L_ofPerson.2.2.2.2.1 22 = xc_L_ofPerson_22 := rfl
theorem j_L_ofThing_14 : xat xm_L_ofThing.2.2.2.2.1 14 = xc_L_ofThing_14 := rfl
theorem j_L_ofThing_18 : xat xm_L_ofThing.2.2.2.2.1 18 = xc_L_ofThing_18 := rfl
theorem j_L_ofThing_22 : xat xm_L_ofThing.2.2.2.2.1 22 = xc_L_ofThing_22 := rfl
theorem j_L_ofSale_14 : xat xm_L_ofSale.2.2.2.2.1 14 = xc_L_ofSale_14 := rfl
theorem j_L_ofSale_18 : xat xm_L_ofSale.2.2.2.2.1 18 = xc_L_ofSale_18 := rfl
theorem j_L_ofSale_22 : xat xm_L_ofSale.2.2.2.2.1 22 = xc_L_ofSale_22 := rfl
theorem j_L_ofLease_14 : xat xm_L_ofLease.2.2.2.2.1 14 = xc_L_ofLease_14 := rfl
theorem j_L_ofLease_18 : xat xm_L_ofLease.2.2.2.2.1 18 = xc_L_ofLease_18 := rfl
theorem j_L_ofLease_22 : xat xm_L_ofLease.2.2.2.2.1 22 = xc_L_ofLease_22 := rfl
theorem j_L_ofVenture_16 : xat xm_L_ofVenture.2.2.2.2.1 16 = xc_L_ofVenture_16 := rfl
theorem j_L_ofVenture_20 : xat xm_L_ofVenture.2.2.2.2.1 20 = xc_L_ofVenture_20 := rfl
theorem j_L_ofVenture_24 : xat xm_L_ofVenture.2.2.2.2.1 24 = xc_L_ofVenture_24 := rfl
theorem j_L_ofFirm_14 : xat xm_L_ofFirm.2.2.2.2.1 14 = xc_L_ofFirm_14 := rfl
theorem j_L_ofFirm_18 : xat xm_L_ofFirm.2.2.2.2.1 18 = xc_L_ofFirm_18 := rfl
theorem j_L_ofFirm_22 : xat xm_L_ofFirm.2.2.2.2.1 22 = xc_L_ofFirm_22 := rfl
theorem j_L_allowed_14 : xat xm_L_allowed.2.2.2.2.1 14 = xc_L_allowed_14 := rfl
theorem j_L_allowed_15 : xat xm_L_allowed.2.2.2.2.1 15 = xc_L_allowed_15 := rfl
theorem j_L_allowed_21 : xat xm_L_allowed.2.2.2.2.1 21 = xc_L_allowed_21 := rfl
theorem j_L_allowed_25 : xat xm_L_allowed.2.2.2.2.1 25 = xc_L_allowed_25 := rfl
theorem j_L_allowed_29 : xat xm_L_allowed.2.2.2.2.1 29 = xc_L_allowed_29 := rfl
theorem j_L_house_13 : xat xm_L_house.2.2.2.2.1 13 = xc_L_house_13 := rfl
theorem j_L_house_16 : xat xm_L_house.2.2.2.2.1 16 = xc_L_house_16 := rfl
theorem j_L_tell_12 : xat xm_L_tell.2.2.2.2.1 12 = xc_L_tell_12 := rfl
theorem j_L_tell_15 : xat xm_L_tell.2.2.2.2.1 15 = xc_L_tell_15 := rfl
theorem j_L_pillars_14 : xat xm_L_pillars.2.2.2.2.1 14 = xc_L_pillars_14 := rfl
theorem j_L_pillars_18 : xat xm_L_pillars.2.2.2.2.1 18 = xc_L_pillars_18 := rfl
theorem j_L_best_14 : xat xm_L_best.2.2.2.2.1 14 = xc_L_best_14 := rfl
theorem j_L_best_18 : xat xm_L_best.2.2.2.2.1 18 = xc_L_best_18 := rfl
theorem j_L_wouldShare_14 : xat xm_L_wouldShare.2.2.2.2.1 14 = xc_L_wouldShare_14 := rfl
theorem j_L_wouldShare_18 : xat xm_L_wouldShare.2.2.2.2.1 18 = xc_L_wouldShare_18 := rfl
theorem j_L_wouldShare_22 : xat xm_L_wouldShare.2.2.2.2.1 22 = xc_L_wouldShare_22 := rfl
theorem j_X0_init_22 : xat xm_X0_init.2.2.2.2.1 22 = xc_X0_init_22 := rfl
theorem j_X0_init_41 : xat xm_X0_init.2.2.2.2.1 41 = xc_X0_init_41 := rfl
theorem j_X0_vote_19 : xat xm_X0_vote.2.2.2.2.1 19 = xc_X0_vote_19 := rfl
theorem j_X0_vote_33 : xat xm_X0_vote.2.2.2.2.1 33 = xc_X0_vote_33 := rfl
theorem j_X0_isAllowedNow_13 : xat xm_X0_isAllowedNow.2.2.2.2.1 13 = xc_X0_isAllowedNow_13 := rfl
theorem j_X0_isAllowedNow_14 : xat xm_X0_isAllowedNow.2.2.2.2.1 14 = xc_X0_isAllowedNow_14 := rfl
theorem j_X0_wasAllowed_18 : xat xm_X0_wasAllowed.2.2.2.2.1 18 = xc_X0_wasAllowed_18 := rfl
theorem j_X0_wasAllowed_19 : xat xm_X0_wasAllowed.2.2.2.2.1 19 = xc_X0_wasAllowed_19 := rfl
theorem j_X0_endDay_4 : xat xm_X0_endDay.2.2.2.2.1 4 = xc_X0_endDay_4 := rfl
theorem j_X0_endDay_23 : xat xm_X0_endDay.2.2.2.2.1 23 = xc_X0_endDay_23 := rfl
theorem j_X0_endDay_29 : xat xm_X0_endDay.2.2.2.2.1 29 = xc_X0_endDay_29 := rfl
theorem j_X1_has_16 : xat xm_X1_has.2.2.2.2.1 16 = xc_X1_has_16 := rfl
theorem j_X1_has_17 : xat xm_X1_has.2.2.2.2.1 17 = xc_X1_has_17 := rfl
theorem j_X1_isSet_18 : xat xm_X1_isSet.2.2.2.2.1 18 = xc_X1_isSet_18 := rfl
theorem j_X1_isSet_19 : xat xm_X1_isSet.2.2.2.2.1 19 = xc_X1_isSet_19 := rfl
theorem j_X1_add_31 : xat xm_X1_add.2.2.2.2.1 31 = xc_X1_add_31 := rfl
theorem j_X1_add_83 : xat xm_X1_add.2.2.2.2.1 83 = xc_X1_add_83 := rfl
theorem j_X1_add_99 : xat xm_X1_add.2.2.2.2.1 99 = xc_X1_add_99 := rfl
theorem j_X1_isClean_16 : xat xm_X1_isClean.2.2.2.2.1 16 = xc_X1_isClean_16 := rfl
theorem j_X1_isClean_17 : xat xm_X1_isClean.2.2.2.2.1 17 = xc_X1_isClean_17 := rfl
theorem j_X1_isHeld_16 : xat xm_X1_isHeld.2.2.2.2.1 16 = xc_X1_isHeld_16 := rfl
theorem j_X1_isHeld_17 : xat xm_X1_isHeld.2.2.2.2.1 17 = xc_X1_isHeld_17 := rfl
theorem j_X1_prices_17 : xat xm_X1_prices.2.2.2.2.1 17 = xc_X1_prices_17 := rfl
theorem j_X1_prices_18 : xat xm_X1_prices.2.2.2.2.1 18 = xc_X1_prices_18 := rfl
theorem j_X1_gains_17 : xat xm_X1_gains.2.2.2.2.1 17 = xc_X1_gains_17 := rfl
theorem j_X1_gains_18 : xat xm_X1_gains.2.2.2.2.1 18 = xc_X1_gains_18 := rfl
theorem j_X1_bestHolding_4 : xat xm_X1_bestHolding.2.2.2.2.1 4 = xc_X1_bestHolding_4 := rfl
theorem j_X1_bestHolding_46 : xat xm_X1_bestHolding.2.2.2.2.1 46 = xc_X1_bestHolding_46 := rfl
theorem j_X1_bestHolding_52 : xat xm_X1_bestHolding.2.2.2.2.1 52 = xc_X1_bestHolding_52 := rfl
theorem j_X1_isBetter_45 : xat xm_X1_isBetter.2.2.2.2.1 45 = xc_X1_isBetter_45 := rfl
theorem j_X1_isBetter_49 : xat xm_X1_isBetter.2.2.2.2.1 49 = xc_X1_isBetter_49 := rfl
theorem j_X1_isBetter_50 : xat xm_X1_isBetter.2.2.2.2.1 50 = xc_X1_isBetter_50 := rfl
theorem j_X2_has_16 : xat xm_X2_has.2.2.2.2.1 16 = xc_X2_has_16 := rfl
theorem j_X2_has_17 : xat xm_X2_has.2.2.2.2.1 17 = xc_X2_has_17 := rfl
theorem j_X2_close_15 : xat xm_X2_close.2.2.2.2.1 15 = xc_X2_close_15 := rfl
theorem j_X2_isDue_23 : xat xm_X2_isDue.2.2.2.2.1 23 = xc_X2_isDue_23 := rfl
theorem j_X2_isDue_24 : xat xm_X2_isDue.2.2.2.2.1 24 = xc_X2_isDue_24 := rfl
theorem j_X2_openOf_4 : xat xm_X2_openOf.2.2.2.2.1 4 = xc_X2_openOf_4 := rfl
theorem j_X2_openOf_36 : xat xm_X2_openOf.2.2.2.2.1 36 = xc_X2_openOf_36 := rfl
theorem j_X2_openOf_37 : xat xm_X2_openOf.2.2.2.2.1 37 = xc_X2_openOf_37 := rfl
theorem j_X2_openOf_45 : xat xm_X2_openOf.2.2.2.2.1 45 = xc_X2_openOf_45 := rfl
theorem j_X2_countOpen_4 : xat xm_X2_countOpen.2.2.2.2.1 4 = xc_X2_countOpen_4 := rfl
theorem j_X2_countOpen_26 : xat xm_X2_countOpen.2.2.2.2.1 26 = xc_X2_countOpen_26 := rfl
theorem j_X2_countOpen_27 : xat xm_X2_countOpen.2.2.2.2.1 27 = xc_X2_countOpen_27 := rfl
theorem j_X2_countOpen_35 : xat xm_X2_countOpen.2.2.2.2.1 35 = xc_X2_countOpen_35 := rfl
theorem j_X3_endDay_2 : xat xm_X3_endDay.2.2.2.2.1 2 = xc_X3_endDay_2 := rfl
theorem j_X3_endDay_29 : xat xm_X3_endDay.2.2.2.2.1 29 = xc_X3_endDay_29 := rfl
theorem j_X3_smoothed_6 : xat xm_X3_smoothed.2.2.2.2.1 6 = xc_X3_smoothed_6 := rfl
theorem j_X3_smoothed_21 : xat xm_X3_smoothed.2.2.2.2.1 21 = xc_X3_smoothed_21 := rfl
theorem j_X3_smoothed_36 : xat xm_X3_smoothed.2.2.2.2.1 36 = xc_X3_smoothed_36 := rfl
theorem j_X3_weights_4 : xat xm_X3_weights.2.2.2.2.1 4 = xc_X3_weights_4 := rfl
theorem j_X3_weights_26 : xat xm_X3_weights.2.2.2.2.1 26 = xc_X3_weights_26 := rfl
theorem j_X3_payOut_11 : xat xm_X3_payOut.2.2.2.2.1 11 = xc_X3_payOut_11 := rfl
theorem j_X3_payOut_61 : xat xm_X3_payOut.2.2.2.2.1 61 = xc_X3_payOut_61 := rfl
theorem j_X3_deposits_4 : xat xm_X3_deposits.2.2.2.2.1 4 = xc_X3_deposits_4 := rfl
theorem j_X3_deposits_25 : xat xm_X3_deposits.2.2.2.2.1 25 = xc_X3_deposits_25 := rfl
theorem j_X3_isInOrder_2 : xat xm_X3_isInOrder.2.2.2.2.1 2 = xc_X3_isInOrder_2 := rfl
theorem j_X3_isInOrder_19 : xat xm_X3_isInOrder.2.2.2.2.1 19 = xc_X3_isInOrder_19 := rfl
theorem j_X3_isInOrder_25 : xat xm_X3_isInOrder.2.2.2.2.1 25 = xc_X3_isInOrder_25 := rfl
theorem j_X3_isInOrder_36 : xat xm_X3_isInOrder.2.2.2.2.1 36 = xc_X3_isInOrder_36 := rfl
theorem j_X3_isInOrder_37 : xat xm_X3_isInOrder.2.2.2.2.1 37 = xc_X3_isInOrder_37 := rfl
theorem j_X4_has_16 : xat xm_X4_has.2.2.2.2.1 16 = xc_X4_has_16 := rfl
theorem j_X4_has_17 : xat xm_X4_has.2.2.2.2.1 17 = xc_X4_has_17 := rfl
theorem j_X4_add_20 : xat xm_X4_add.2.2.2.2.1 20 = xc_X4_add_20 := rfl
theorem j_X4_giveAlms_2 : xat xm_X4_giveAlms.2.2.2.2.1 2 = xc_X4_giveAlms_2 := rfl
theorem j_X4_giveAlms_35 : xat xm_X4_giveAlms.2.2.2.2.1 35 = xc_X4_giveAlms_35 := rfl
theorem j_X4_giveAlms_41 : xat xm_X4_giveAlms.2.2.2.2.1 41 = xc_X4_giveAlms_41 := rfl
theorem j_X4_cashOfPeople_4 : xat xm_X4_cashOfPeople.2.2.2.2.1 4 = xc_X4_cashOfPeople_4 := rfl
theorem j_X4_cashOfPeople_27 : xat xm_X4_cashOfPeople.2.2.2.2.1 27 = xc_X4_cashOfPeople_27 := rfl
theorem j_X5_has_16 : xat xm_X5_has.2.2.2.2.1 16 = xc_X5_has_16 := rfl
theorem j_X5_has_17 : xat xm_X5_has.2.2.2.2.1 17 = xc_X5_has_17 := rfl
theorem j_X5_isVoid_13 : xat xm_X5_isVoid.2.2.2.2.1 13 = xc_X5_isVoid_13 := rfl
theorem j_X5_isVoid_14 : xat xm_X5_isVoid.2.2.2.2.1 14 = xc_X5_isVoid_14 := rfl
theorem j_X5_isDone_27 : xat xm_X5_isDone.2.2.2.2.1 27 = xc_X5_isDone_27 := rfl
theorem j_X5_isDone_28 : xat xm_X5_isDone.2.2.2.2.1 28 = xc_X5_isDone_28 := rfl
theorem j_X5_isOpen_27 : xat xm_X5_isOpen.2.2.2.2.1 27 = xc_X5_isOpen_27 := rfl
theorem j_X5_isOpen_28 : xat xm_X5_isOpen.2.2.2.2.1 28 = xc_X5_isOpen_28 := rfl
theorem j_X5_partsLeft_24 : xat xm_X5_partsLeft.2.2.2.2.1 24 = xc_X5_partsLeft_24 := rfl
theorem j_X5_partsLeft_25 : xat xm_X5_partsLeft.2.2.2.2.1 25 = xc_X5_partsLeft_25 := rfl
theorem j_X5_debt_30 : xat xm_X5_debt.2.2.2.2.1 30 = xc_X5_debt_30 := rfl
theorem j_X5_debt_31 : xat xm_X5_debt.2.2.2.2.1 31 = xc_X5_debt_31 := rfl
theorem j_X5_nextPart_17 : xat xm_X5_nextPart.2.2.2.2.1 17 = xc_X5_nextPart_17 := rfl
theorem j_X5_nextPart_22 : xat xm_X5_nextPart.2.2.2.2.1 22 = xc_X5_nextPart_22 := rfl
theorem j_X5_nextDay_29 : xat xm_X5_nextDay.2.2.2.2.1 29 = xc_X5_nextDay_29 := rfl
theorem j_X5_nextDay_30 : xat xm_X5_nextDay.2.2.2.2.1 30 = xc_X5_nextDay_30 := rfl
theorem j_X5_partsLeftOf_4 : xat xm_X5_partsLeftOf.2.2.2.2.1 4 = xc_X5_partsLeftOf_4 := rfl
theorem j_X5_partsLeftOf_31 : xat xm_X5_partsLeftOf.2.2.2.2.1 31 = xc_X5_partsLeftOf_31 := rfl
theorem j_X5_partsLeftOf_32 : xat xm_X5_partsLeftOf.2.2.2.2.1 32 = xc_X5_partsLeftOf_32 := rfl
theorem j_X5_partsLeftOf_40 : xat xm_X5_partsLeftOf.2.2.2.2.1 40 = xc_X5_partsLeftOf_40 := rfl
theorem j_X5_debtOf_4 : xat xm_X5_debtOf.2.2.2.2.1 4 = xc_X5_debtOf_4 := rfl
theorem j_X5_debtOf_31 : xat xm_X5_debtOf.2.2.2.2.1 31 = xc_X5_debtOf_31 := rfl
theorem j_X5_debtOf_32 : xat xm_X5_debtOf.2.2.2.2.1 32 = xc_X5_debtOf_32 := rfl
theorem j_X5_debtOf_40 : xat xm_X5_debtOf.2.2.2.2.1 40 = xc_X5_debtOf_40 := rfl
theorem j_X5_countVoid_4 : xat xm_X5_countVoid.2.2.2.2.1 4 = xc_X5_countVoid_4 := rfl
theorem j_X5_countVoid_25 : xat xm_X5_countVoid.2.2.2.2.1 25 = xc_X5_countVoid_25 := rfl
theorem j_X5_countVoid_26 : xat xm_X5_countVoid.2.2.2.2.1 26 = xc_X5_countVoid_26 := rfl
theorem j_X5_countVoid_34 : xat xm_X5_countVoid.2.2.2.2.1 34 = xc_X5_countVoid_34 := rfl
theorem j_X5_countDone_4 : xat xm_X5_countDone.2.2.2.2.1 4 = xc_X5_countDone_4 := rfl
theorem j_X5_countDone_25 : xat xm_X5_countDone.2.2.2.2.1 25 = xc_X5_countDone_25 := rfl
theorem j_X5_countDone_26 : xat xm_X5_countDone.2.2.2.2.1 26 = xc_X5_countDone_26 := rfl
theorem j_X5_countDone_34 : xat xm_X5_countDone.2.2.2.2.1 34 = xc_X5_countDone_34 := rfl
theorem j_X5_allFees_4 : xat xm_X5_allFees.2.2.2.2.1 4 = xc_X5_allFees_4 := rfl
theorem j_X5_allFees_27 : xat xm_X5_allFees.2.2.2.2.1 27 = xc_X5_allFees_27 := rfl
theorem j_X5_isInOrder_2 : xat xm_X5_isInOrder.2.2.2.2.1 2 = xc_X5_isInOrder_2 := rfl
theorem j_X5_isInOrder_29 : xat xm_X5_isInOrder.2.2.2.2.1 29 = xc_X5_isInOrder_29 := rfl
theorem j_X5_isInOrder_35 : xat xm_X5_isInOrder.2.2.2.2.1 35 = xc_X5_isInOrder_35 := rfl
theorem j_X6_has_16 : xat xm_X6_has.2.2.2.2.1 16 = xc_X6_has_16 := rfl
theorem j_X6_has_17 : xat xm_X6_has.2.2.2.2.1 17 = xc_X6_has_17 := rfl
theorem j_X6_isLeased_14 : xat xm_X6_isLeased.2.2.2.2.1 14 = xc_X6_isLeased_14 := rfl
theorem j_X6_isLeased_15 : xat xm_X6_isLeased.2.2.2.2.1 15 = xc_X6_isLeased_15 := rfl
theorem j_X6_ownedBy_4 : xat xm_X6_ownedBy.2.2.2.2.1 4 = xc_X6_ownedBy_4 := rfl
theorem j_X6_ownedBy_25 : xat xm_X6_ownedBy.2.2.2.2.1 25 = xc_X6_ownedBy_25 := rfl
theorem j_X6_ownedBy_31 : xat xm_X6_ownedBy.2.2.2.2.1 31 = xc_X6_ownedBy_31 := rfl
theorem j_X6_heldByHouse_4 : xat xm_X6_heldByHouse.2.2.2.2.1 4 = xc_X6_heldByHouse_4 := rfl
theorem j_X6_heldByHouse_35 : xat xm_X6_heldByHouse.2.2.2.2.1 35 = xc_X6_heldByHouse_35 := rfl
theorem j_X6_heldByHouse_41 : xat xm_X6_heldByHouse.2.2.2.2.1 41 = xc_X6_heldByHouse_41 := rfl
theorem j_X6_isInOrder_2 : xat xm_X6_isInOrder.2.2.2.2.1 2 = xc_X6_isInOrder_2 := rfl
theorem j_X6_isInOrder_38 : xat xm_X6_isInOrder.2.2.2.2.1 38 = xc_X6_isInOrder_38 := rfl
theorem j_X6_isInOrder_40 : xat xm_X6_isInOrder.2.2.2.2.1 40 = xc_X6_isInOrder_40 := rfl
theorem j_X6_isInOrder_46 : xat xm_X6_isInOrder.2.2.2.2.1 46 = xc_X6_isInOrder_46 := rfl
theorem j_X7_has_16 : xat xm_X7_has.2.2.2.2.1 16 = xc_X7_has_16 := rfl
theorem j_X7_has_17 : xat xm_X7_has.2.2.2.2.1 17 = xc_X7_has_17 := rfl
theorem j_X7_bearLoss_20 : xat xm_X7_bearLoss.2.2.2.2.1 20 = xc_X7_bearLoss_20 := rfl
theorem j_X7_bearLoss_75 : xat xm_X7_bearLoss.2.2.2.2.1 75 = xc_X7_bearLoss_75 := rfl
theorem j_X7_bearLoss_78 : xat xm_X7_bearLoss.2.2.2.2.1 78 = xc_X7_bearLoss_78 := rfl
theorem j_X7_bearLoss_119 : xat xm_X7_bearLoss.2.2.2.2.1 119 = xc_X7_bearLoss_119 := rfl
theorem j_X7_bearLoss_125 : xat xm_X7_bearLoss.2.2.2.2.1 125 = xc_X7_bearLoss_125 := rfl
theorem j_X7_capitals_4 : xat xm_X7_capitals.2.2.2.2.1 4 = xc_X7_capitals_4 := rfl
theorem j_X7_capitals_25 : xat xm_X7_capitals.2.2.2.2.1 25 = xc_X7_capitals_25 := rfl
theorem j_X7_shares_4 : xat xm_X7_shares.2.2.2.2.1 4 = xc_X7_shares_4 := rfl
theorem j_X7_shares_25 : xat xm_X7_shares.2.2.2.2.1 25 = xc_X7_shares_25 := rfl
theorem j_X7_capitalEverywhere_4 : xat xm_X7_capitalEverywhere.2.2.2.2.1 4 = xc_X7_capitalEverywhere_4 := rfl
theorem j_X7_capitalEverywhere_27 : xat xm_X7_capitalEverywhere.2.2.2.2.1 27 = xc_X7_capitalEverywhere_27 := rfl
theorem j_X7_isInOrder_2 : xat xm_X7_isInOrder.2.2.2.2.1 2 = xc_X7_isInOrder_2 := rfl
theorem j_X7_isInOrder_22 : xat xm_X7_isInOrder.2.2.2.2.1 22 = xc_X7_isInOrder_22 := rfl
theorem j_X7_isInOrder_24 : xat xm_X7_isInOrder.2.2.2.2.1 24 = xc_X7_isInOrder_24 := rfl
theorem j_X7_isInOrder_41 : xat xm_X7_isInOrder.2.2.2.2.1 41 = xc_X7_isInOrder_41 := rfl
theorem j_X7_isInOrder_47 : xat xm_X7_isInOrder.2.2.2.2.1 47 = xc_X7_isInOrder_47 := rfl
theorem j_X7_isInOrder_53 : xat xm_X7_isInOrder.2.2.2.2.1 53 = xc_X7_isInOrder_53 := rfl
theorem j_X8_hold_18 : xat xm_X8_hold.2.2.2.2.1 18 = xc_X8_hold_18 := rfl
theorem j_X8_hold_28 : xat xm_X8_hold.2.2.2.2.1 28 = xc_X8_hold_28 := rfl
theorem j_X8_person_21 : xat xm_X8_person.2.2.2.2.1 21 = xc_X8_person_21 := rfl
theorem j_X8_person_43 : xat xm_X8_person.2.2.2.2.1 43 = xc_X8_person_43 := rfl
theorem j_X8_thing_26 : xat xm_X8_thing.2.2.2.2.1 26 = xc_X8_thing_26 := rfl
theorem j_X8_thing_47 : xat xm_X8_thing.2.2.2.2.1 47 = xc_X8_thing_47 := rfl
theorem j_X8_thing_69 : xat xm_X8_thing.2.2.2.2.1 69 = xc_X8_thing_69 := rfl
theorem j_X8_thing_84 : xat xm_X8_thing.2.2.2.2.1 84 = xc_X8_thing_84 := rfl
theorem j_X8_thing_85 : xat xm_X8_thing.2.2.2.2.1 85 = xc_X8_thing_85 := rfl
theorem j_X8_buy_21 : xat xm_X8_buy.2.2.2.2.1 21 = xc_X8_buy_21 := rfl
theorem j_X8_buy_58 : xat xm_X8_buy.2.2.2.2.1 58 = xc_X8_buy_58 := rfl
theorem j_X8_buy_68 : xat xm_X8_buy.2.2.2.2.1 68 = xc_X8_buy_68 := rfl
theorem j_X8_take_21 : xat xm_X8_take.2.2.2.2.1 21 = xc_X8_take_21 := rfl
theorem j_X8_take_47 : xat xm_X8_take.2.2.2.2.1 47 = xc_X8_take_47 := rfl
theorem j_X8_take_57 : xat xm_X8_take.2.2.2.2.1 57 = xc_X8_take_57 := rfl
theorem j_X8_ruin_21 : xat xm_X8_ruin.2.2.2.2.1 21 = xc_X8_ruin_21 := rfl
theorem j_X8_ruin_43 : xat xm_X8_ruin.2.2.2.2.1 43 = xc_X8_ruin_43 := rfl
theorem j_X8_sell_22 : xat xm_X8_sell.2.2.2.2.1 22 = xc_X8_sell_22 := rfl
theorem j_X8_sell_32 : xat xm_X8_sell.2.2.2.2.1 32 = xc_X8_sell_32 := rfl
theorem j_X8_sell_53 : xat xm_X8_sell.2.2.2.2.1 53 = xc_X8_sell_53 := rfl
theorem j_X8_sell_63 : xat xm_X8_sell.2.2.2.2.1 63 = xc_X8_sell_63 := rfl
theorem j_X8_sell_86 : xat xm_X8_sell.2.2.2.2.1 86 = xc_X8_sell_86 := rfl
theorem j_X8_sell_96 : xat xm_X8_sell.2.2.2.2.1 96 = xc_X8_sell_96 := rfl
theorem j_X8_sell_147 : xat xm_X8_sell.2.2.2.2.1 147 = xc_X8_sell_147 := rfl
theorem j_X8_pay_21 : xat xm_X8_pay.2.2.2.2.1 21 = xc_X8_pay_21 := rfl
theorem j_X8_pay_42 : xat xm_X8_pay.2.2.2.2.1 42 = xc_X8_pay_42 := rfl
theorem j_X8_pay_95 : xat xm_X8_pay.2.2.2.2.1 95 = xc_X8_pay_95 := rfl
theorem j_X8_pay_96 : xat xm_X8_pay.2.2.2.2.1 96 = xc_X8_pay_96 := rfl
theorem j_X8_pay_127 : xat xm_X8_pay.2.2.2.2.1 127 = xc_X8_pay_127 := rfl
theorem j_X8_pay_128 : xat xm_X8_pay.2.2.2.2.1 128 = xc_X8_pay_128 := rfl
theorem j_X8_benchmark_20 : xat xm_X8_benchmark.2.2.2.2.1 20 = xc_X8_benchmark_20 := rfl
theorem j_X8_lease_22 : xat xm_X8_lease.2.2.2.2.1 22 = xc_X8_lease_22 := rfl
theorem j_X8_lease_32 : xat xm_X8_lease.2.2.2.2.1 32 = xc_X8_lease_32 := rfl
theorem j_X8_lease_59 : xat xm_X8_lease.2.2.2.2.1 59 = xc_X8_lease_59 := rfl
theorem j_X8_lease_69 : xat xm_X8_lease.2.2.2.2.1 69 = xc_X8_lease_69 := rfl
theorem j_X8_lease_90 : xat xm_X8_lease.2.2.2.2.1 90 = xc_X8_lease_90 := rfl
theorem j_X8_lease_100 : xat xm_X8_lease.2.2.2.2.1 100 = xc_X8_lease_100 := rfl
theorem j_X8_end_21 : xat xm_X8_end.2.2.2.2.1 21 = xc_X8_end_21 := rfl
theorem j_X8_end_43 : xat xm_X8_end.2.2.2.2.1 43 = xc_X8_end_43 := rfl
theorem j_X8_end_103 : xat xm_X8_end.2.2.2.2.1 103 = xc_X8_end_103 := rfl
theorem j_X8_venture_22 : xat xm_X8_venture.2.2.2.2.1 22 = xc_X8_venture_22 := rfl
theorem j_X8_join_19 : xat xm_X8_join.2.2.2.2.1 19 = xc_X8_join_19 := rfl
theorem j_X8_join_30 : xat xm_X8_join.2.2.2.2.1 30 = xc_X8_join_30 := rfl
theorem j_X8_join_52 : xat xm_X8_join.2.2.2.2.1 52 = xc_X8_join_52 := rfl
theorem j_X8_join_63 : xat xm_X8_join.2.2.2.2.1 63 = xc_X8_join_63 := rfl
theorem j_X8_join_112 : xat xm_X8_join.2.2.2.2.1 112 = xc_X8_join_112 := rfl
theorem j_X8_join_123 : xat xm_X8_join.2.2.2.2.1 123 = xc_X8_join_123 := rfl
theorem j_X8_result_25 : xat xm_X8_result.2.2.2.2.1 25 = xc_X8_result_25 := rfl
theorem j_X8_result_36 : xat xm_X8_result.2.2.2.2.1 36 = xc_X8_result_36 := rfl
theorem j_X8_result_60 : xat xm_X8_result.2.2.2.2.1 60 = xc_X8_result_60 := rfl
theorem j_X8_result_92 : xat xm_X8_result.2.2.2.2.1 92 = xc_X8_result_92 := rfl
theorem j_X8_result_105 : xat xm_X8_result.2.2.2.2.1 105 = xc_X8_result_105 := rfl
theorem j_X8_result_124 : xat xm_X8_result.2.2.2.2.1 124 = xc_X8_result_124 := rfl
theorem j_X8_result_136 : xat xm_X8_result.2.2.2.2.1 136 = xc_X8_result_136 := rfl
theorem j_X8_buyOut_27 : xat xm_X8_buyOut.2.2.2.2.1 27 = xc_X8_buyOut_27 := rfl
theorem j_X8_buyOut_38 : xat xm_X8_buyOut.2.2.2.2.1 38 = xc_X8_buyOut_38 := rfl
theorem j_X8_buyOut_55 : xat xm_X8_buyOut.2.2.2.2.1 55 = xc_X8_buyOut_55 := rfl
theorem j_X8_buyOut_66 : xat xm_X8_buyOut.2.2.2.2.1 66 = xc_X8_buyOut_66 := rfl
theorem j_X8_buyOut_134 : xat xm_X8_buyOut.2.2.2.2.1 134 = xc_X8_buyOut_134 := rfl
theorem j_X8_buyOut_145 : xat xm_X8_buyOut.2.2.2.2.1 145 = xc_X8_buyOut_145 := rfl
theorem j_X8_deposit_22 : xat xm_X8_deposit.2.2.2.2.1 22 = xc_X8_deposit_22 := rfl
theorem j_X8_deposit_39 : xat xm_X8_deposit.2.2.2.2.1 39 = xc_X8_deposit_39 := rfl
theorem j_X8_deposit_50 : xat xm_X8_deposit.2.2.2.2.1 50 = xc_X8_deposit_50 := rfl
theorem j_X8_deposit_71 : xat xm_X8_deposit.2.2.2.2.1 71 = xc_X8_deposit_71 := rfl
theorem j_X8_deposit_72 : xat xm_X8_deposit.2.2.2.2.1 72 = xc_X8_deposit_72 := rfl
theorem j_X8_deposit_98 : xat xm_X8_deposit.2.2.2.2.1 98 = xc_X8_deposit_98 := rfl
theorem j_X8_deposit_109 : xat xm_X8_deposit.2.2.2.2.1 109 = xc_X8_deposit_109 := rfl
theorem j_X8_share_32 : xat xm_X8_share.2.2.2.2.1 32 = xc_X8_share_32 := rfl
theorem j_X8_share_43 : xat xm_X8_share.2.2.2.2.1 43 = xc_X8_share_43 := rfl
theorem j_X8_firm_67 : xat xm_X8_firm.2.2.2.2.1 67 = xc_X8_firm_67 := rfl
theorem j_X8_firm_78 : xat xm_X8_firm.2.2.2.2.1 78 = xc_X8_firm_78 := rfl
theorem j_X8_firm_101 : xat xm_X8_firm.2.2.2.2.1 101 = xc_X8_firm_101 := rfl
theorem j_X8_firm_138 : xat xm_X8_firm.2.2.2.2.1 138 = xc_X8_firm_138 := rfl
theorem j_X8_firm_139 : xat xm_X8_firm.2.2.2.2.1 139 = xc_X8_firm_139 := rfl
theorem j_X8_invest_22 : xat xm_X8_invest.2.2.2.2.1 22 = xc_X8_invest_22 := rfl
theorem j_X8_invest_47 : xat xm_X8_invest.2.2.2.2.1 47 = xc_X8_invest_47 := rfl
theorem j_X8_dividend_22 : xat xm_X8_dividend.2.2.2.2.1 22 = xc_X8_dividend_22 := rfl
theorem j_X8_dividend_44 : xat xm_X8_dividend.2.2.2.2.1 44 = xc_X8_dividend_44 := rfl
theorem j_X8_dividend_66 : xat xm_X8_dividend.2.2.2.2.1 66 = xc_X8_dividend_66 := rfl
theorem j_X8_pass_22 : xat xm_X8_pass.2.2.2.2.1 22 = xc_X8_pass_22 := rfl
theorem j_X8_pass_45 : xat xm_X8_pass.2.2.2.2.1 45 = xc_X8_pass_45 := rfl
theorem j_X8_pass_47 : xat xm_X8_pass.2.2.2.2.1 47 = xc_X8_pass_47 := rfl
theorem j_X8_pass_102 : xat xm_X8_pass.2.2.2.2.1 102 = xc_X8_pass_102 := rfl
theorem j_X8_pass_108 : xat xm_X8_pass.2.2.2.2.1 108 = xc_X8_pass_108 := rfl
theorem j_X8_ofPerson_22 : xat xm_X8_ofPerson.2.2.2.2.1 22 = xc_X8_ofPerson_22 := rfl
theorem j_X8_ofPerson_68 : xat xm_X8_ofPerson.2.2.2.2.1 68 = xc_X8_ofPerson_68 := rfl
theorem j_X8_ofPerson_78 : xat xm_X8_ofPerson.2.2.2.2.1 78 = xc_X8_ofPerson_78 := rfl
theorem j_X8_ofPerson_87 : xat xm_X8_ofPerson.2.2.2.2.1 87 = xc_X8_ofPerson_87 := rfl
theorem j_X8_ofPerson_97 : xat xm_X8_ofPerson.2.2.2.2.1 97 = xc_X8_ofPerson_97 := rfl
theorem j_X8_ofPerson_107 : xat xm_X8_ofPerson.2.2.2.2.1 107 = xc_X8_ofPerson_107 := rfl
theorem j_X8_ofPerson_116 : xat xm_X8_ofPerson.2.2.2.2.1 116 = xc_X8_ofPerson_116 := rfl
theorem j_X8_ofPerson_125 : xat xm_X8_ofPerson.2.2.2.2.1 125 = xc_X8_ofPerson_125 := rfl
theorem j_X8_ofPerson_134 : xat xm_X8_ofPerson.2.2.2.2.1 134 = xc_X8_ofPerson_134 := rfl
theorem j_X8_ofPerson_143 : xat xm_X8_ofPerson.2.2.2.2.1 143 = xc_X8_ofPerson_143 := rfl
theorem j_X8_ofThing_21 : xat xm_X8_ofThing.2.2.2.2.1 21 = xc_X8_ofThing_21 := rfl
theorem j_X8_ofThing_64 : xat xm_X8_ofThing.2.2.2.2.1 64 = xc_X8_ofThing_64 := rfl
theorem j_X8_ofThing_74 : xat xm_X8_ofThing.2.2.2.2.1 74 = xc_X8_ofThing_74 := rfl
theorem j_X8_ofThing_84 : xat xm_X8_ofThing.2.2.2.2.1 84 = xc_X8_ofThing_84 := rfl
theorem j_X8_ofThing_100 : xat xm_X8_ofThing.2.2.2.2.1 100 = xc_X8_ofThing_100 := rfl
theorem j_X8_ofThing_101 : xat xm_X8_ofThing.2.2.2.2.1 101 = xc_X8_ofThing_101 := rfl
theorem j_X8_ofThing_102 : xat xm_X8_ofThing.2.2.2.2.1 102 = xc_X8_ofThing_102 := rfl
theorem j_X8_ofThing_118 : xat xm_X8_ofThing.2.2.2.2.1 118 = xc_X8_ofThing_118 := rfl
theorem j_X8_ofThing_119 : xat xm_X8_ofThing.2.2.2.2.1 119 = xc_X8_ofThing_119 := rfl
theorem j_X8_ofThing_120 : xat xm_X8_ofThing.2.2.2.2.1 120 = xc_X8_ofThing_120 := rfl
theorem j_X8_ofThing_130 : xat xm_X8_ofThing.2.2.2.2.1 130 = xc_X8_ofThing_130 := rfl
theorem j_X8_ofThing_140 : xat xm_X8_ofThing.2.2.2.2.1 140 = xc_X8_ofThing_140 := rfl
theorem j_X8_ofThing_150 : xat xm_X8_ofThing.2.2.2.2.1 150 = xc_X8_ofThing_150 := rfl
theorem j_X8_ofSale_21 : xat xm_X8_ofSale.2.2.2.2.1 21 = xc_X8_ofSale_21 := rfl
theorem j_X8_ofSale_76 : xat xm_X8_ofSale.2.2.2.2.1 76 = xc_X8_ofSale_76 := rfl
theorem j_X8_ofSale_86 : xat xm_X8_ofSale.2.2.2.2.1 86 = xc_X8_ofSale_86 := rfl
theorem j_X8_ofSale_96 : xat xm_X8_ofSale.2.2.2.2.1 96 = xc_X8_ofSale_96 := rfl
theorem j_X8_ofSale_106 : xat xm_X8_ofSale.2.2.2.2.1 106 = xc_X8_ofSale_106 := rfl
theorem j_X8_ofSale_116 : xat xm_X8_ofSale.2.2.2.2.1 116 = xc_X8_ofSale_116 := rfl
theorem j_X8_ofSale_126 : xat xm_X8_ofSale.2.2.2.2.1 126 = xc_X8_ofSale_126 := rfl
theorem j_X8_ofSale_136 : xat xm_X8_ofSale.2.2.2.2.1 136 = xc_X8_ofSale_136 := rfl
theorem j_X8_ofSale_145 : xat xm_X8_ofSale.2.2.2.2.1 145 = xc_X8_ofSale_145 := rfl
theorem j_X8_ofSale_154 : xat xm_X8_ofSale.2.2.2.2.1 154 = xc_X8_ofSale_154 := rfl
theorem j_X8_ofSale_164 : xat xm_X8_ofSale.2.2.2.2.1 164 = xc_X8_ofSale_164 := rfl
theorem j_X8_ofSale_174 : xat xm_X8_ofSale.2.2.2.2.1 174 = xc_X8_ofSale_174 := rfl
theorem j_X8_ofLease_21 : xat xm_X8_ofLease.2.2.2.2.1 21 = xc_X8_ofLease_21 := rfl
theorem j_X8_ofLease_60 : xat xm_X8_ofLease.2.2.2.2.1 60 = xc_X8_ofLease_60 := rfl
theorem j_X8_ofLease_70 : xat xm_X8_ofLease.2.2.2.2.1 70 = xc_X8_ofLease_70 := rfl
theorem j_X8_ofLease_80 : xat xm_X8_ofLease.2.2.2.2.1 80 = xc_X8_ofLease_80 := rfl
theorem j_X8_ofLease_96 : xat xm_X8_ofLease.2.2.2.2.1 96 = xc_X8_ofLease_96 := rfl
theorem j_X8_ofLease_97 : xat xm_X8_ofLease.2.2.2.2.1 97 = xc_X8_ofLease_97 := rfl
theorem j_X8_ofLease_98 : xat xm_X8_ofLease.2.2.2.2.1 98 = xc_X8_ofLease_98 := rfl
theorem j_X8_ofLease_108 : xat xm_X8_ofLease.2.2.2.2.1 108 = xc_X8_ofLease_108 := rfl
theorem j_X8_ofLease_118 : xat xm_X8_ofLease.2.2.2.2.1 118 = xc_X8_ofLease_118 := rfl
theorem j_X8_ofLease_134 : xat xm_X8_ofLease.2.2.2.2.1 134 = xc_X8_ofLease_134 := rfl
theorem j_X8_ofLease_143 : xat xm_X8_ofLease.2.2.2.2.1 143 = xc_X8_ofLease_143 := rfl
theorem j_X8_ofLease_144 : xat xm_X8_ofLease.2.2.2.2.1 144 = xc_X8_ofLease_144 := rfl
theorem j_X8_ofVenture_19 : xat xm_X8_ofVenture.2.2.2.2.1 19 = xc_X8_ofVenture_19 := rfl
theorem j_X8_ofVenture_30 : xat xm_X8_ofVenture.2.2.2.2.1 30 = xc_X8_ofVenture_30 := rfl
theorem j_X8_ofVenture_64 : xat xm_X8_ofVenture.2.2.2.2.1 64 = xc_X8_ofVenture_64 := rfl
theorem j_X8_ofVenture_75 : xat xm_X8_ofVenture.2.2.2.2.1 75 = xc_X8_ofVenture_75 := rfl
theorem j_X8_ofVenture_86 : xat xm_X8_ofVenture.2.2.2.2.1 86 = xc_X8_ofVenture_86 := rfl
theorem j_X8_ofVenture_97 : xat xm_X8_ofVenture.2.2.2.2.1 97 = xc_X8_ofVenture_97 := rfl
theorem j_X8_ofFirm_22 : xat xm_X8_ofFirm.2.2.2.2.1 22 = xc_X8_ofFirm_22 := rfl
theorem j_X8_ofFirm_56 : xat xm_X8_ofFirm.2.2.2.2.1 56 = xc_X8_ofFirm_56 := rfl
theorem j_X8_ofFirm_71 : xat xm_X8_ofFirm.2.2.2.2.1 71 = xc_X8_ofFirm_71 := rfl
theorem j_X8_ofFirm_72 : xat xm_X8_ofFirm.2.2.2.2.1 72 = xc_X8_ofFirm_72 := rfl
theorem j_X8_ofFirm_73 : xat xm_X8_ofFirm.2.2.2.2.1 73 = xc_X8_ofFirm_73 := rfl
theorem j_X8_ofFirm_88 : xat xm_X8_ofFirm.2.2.2.2.1 88 = xc_X8_ofFirm_88 := rfl
theorem j_X8_ofFirm_89 : xat xm_X8_ofFirm.2.2.2.2.1 89 = xc_X8_ofFirm_89 := rfl
theorem j_X8_ofFirm_90 : xat xm_X8_ofFirm.2.2.2.2.1 90 = xc_X8_ofFirm_90 := rfl
theorem j_X8_ofFirm_100 : xat xm_X8_ofFirm.2.2.2.2.1 100 = xc_X8_ofFirm_100 := rfl
theorem j_X8_ofFirm_111 : xat xm_X8_ofFirm.2.2.2.2.1 111 = xc_X8_ofFirm_111 := rfl
theorem j_X8_ofFirm_122 : xat xm_X8_ofFirm.2.2.2.2.1 122 = xc_X8_ofFirm_122 := rfl
theorem j_X8_allowed_20 : xat xm_X8_allowed.2.2.2.2.1 20 = xc_X8_allowed_20 := rfl
theorem j_X8_allowed_43 : xat xm_X8_allowed.2.2.2.2.1 43 = xc_X8_allowed_43 := rfl
theorem j_X8_allowed_62 : xat xm_X8_allowed.2.2.2.2.1 62 = xc_X8_allowed_62 := rfl
theorem j_X8_allowed_71 : xat xm_X8_allowed.2.2.2.2.1 71 = xc_X8_allowed_71 := rfl
theorem j_X8_house_80 : xat xm_X8_house.2.2.2.2.1 80 = xc_X8_house_80 := rfl
theorem j_X8_house_85 : xat xm_X8_house.2.2.2.2.1 85 = xc_X8_house_85 := rfl
theorem j_X8_house_96 : xat xm_X8_house.2.2.2.2.1 96 = xc_X8_house_96 := rfl
theorem j_X8_house_104 : xat xm_X8_house.2.2.2.2.1 104 = xc_X8_house_104 := rfl
theorem j_X8_house_112 : xat xm_X8_house.2.2.2.2.1 112 = xc_X8_house_112 := rfl
theorem j_X8_house_120 : xat xm_X8_house.2.2.2.2.1 120 = xc_X8_house_120 := rfl
theorem j_X8_house_125 : xat xm_X8_house.2.2.2.2.1 125 = xc_X8_house_125 := rfl
theorem j_X8_house_133 : xat xm_X8_house.2.2.2.2.1 133 = xc_X8_house_133 := rfl
theorem j_X8_house_141 : xat xm_X8_house.2.2.2.2.1 141 = xc_X8_house_141 := rfl
theorem j_X8_house_149 : xat xm_X8_house.2.2.2.2.1 149 = xc_X8_house_149 := rfl
theorem j_X8_house_157 : xat xm_X8_house.2.2.2.2.1 157 = xc_X8_house_157 := rfl
theorem j_X8_house_165 : xat xm_X8_house.2.2.2.2.1 165 = xc_X8_house_165 := rfl
theorem j_X8_house_173 : xat xm_X8_house.2.2.2.2.1 173 = xc_X8_house_173 := rfl
theorem j_X8_house_183 : xat xm_X8_house.2.2.2.2.1 183 = xc_X8_house_183 := rfl
theorem j_X8_house_191 : xat xm_X8_house.2.2.2.2.1 191 = xc_X8_house_191 := rfl
theorem j_X8_house_199 : xat xm_X8_house.2.2.2.2.1 199 = xc_X8_house_199 := rfl
theorem j_X8_house_207 : xat xm_X8_house.2.2.2.2.1 207 = xc_X8_house_207 := rfl
theorem j_X8_tell_21 : xat xm_X8_tell.2.2.2.2.1 21 = xc_X8_tell_21 := rfl
theorem j_X8_tell_101 : xat xm_X8_tell.2.2.2.2.1 101 = xc_X8_tell_101 := rfl
theorem j_X8_tell_123 : xat xm_X8_tell.2.2.2.2.1 123 = xc_X8_tell_123 := rfl
theorem j_X8_tell_148 : xat xm_X8_tell.2.2.2.2.1 148 = xc_X8_tell_148 := rfl
theorem j_X8_pillars_22 : xat xm_X8_pillars.2.2.2.2.1 22 = xc_X8_pillars_22 := rfl
theorem j_X8_pillars_32 : xat xm_X8_pillars.2.2.2.2.1 32 = xc_X8_pillars_32 := rfl
theorem j_X8_best_22 : xat xm_X8_best.2.2.2.2.1 22 = xc_X8_best_22 := rfl
theorem j_X8_best_39 : xat xm_X8_best.2.2.2.2.1 39 = xc_X8_best_39 := rfl
theorem j_X8_best_47 : xat xm_X8_best.2.2.2.2.1 47 = xc_X8_best_47 := rfl
theorem j_X8_wouldShare_22 : xat xm_X8_wouldShare.2.2.2.2.1 22 = xc_X8_wouldShare_22 := rfl
theorem j_X8_wouldShare_44 : xat xm_X8_wouldShare.2.2.2.2.1 44 = xc_X8_wouldShare_44 := rfl
theorem j_X8_isSound_61 : xat xm_X8_isSound.2.2.2.2.1 61 = xc_X8_isSound_61 := rfl
theorem j_X8_isSound_62 : xat xm_X8_isSound.2.2.2.2.1 62 = xc_X8_isSound_62 := rfl
theorem j_X8_digest_6 : xat xm_X8_digest.2.2.2.2.1 6 = xc_X8_digest_6 := rfl
theorem j_X8_digest_31 : xat xm_X8_digest.2.2.2.2.1 31 = xc_X8_digest_31 := rfl
theorem j_X8_digest_69 : xat xm_X8_digest.2.2.2.2.1 69 = xc_X8_digest_69 := rfl
theorem j_X8_digest_94 : xat xm_X8_digest.2.2.2.2.1 94 = xc_X8_digest_94 := rfl
theorem j_X8_digest_95 : xat xm_X8_digest.2.2.2.2.1 95 = xc_X8_digest_95 := rfl
theorem j_X8_digest_104 : xat xm_X8_digest.2.2.2.2.1 104 = xc_X8_digest_104 := rfl
theorem j_X8_digest_150 : xat xm_X8_digest.2.2.2.2.1 150 = xc_X8_digest_150 := rfl
theorem j_X8_digest_151 : xat xm_X8_digest.2.2.2.2.1 151 = xc_X8_digest_151 := rfl
theorem j_X8_addPeople_5 : xat xm_X8_addPeople.2.2.2.2.1 5 = xc_X8_addPeople_5 := rfl
theorem j_X8_addPeople_20 : xat xm_X8_addPeople.2.2.2.2.1 20 = xc_X8_addPeople_20 := rfl
theorem j_X8_addPeople_49 : xat xm_X8_addPeople.2.2.2.2.1 49 = xc_X8_addPeople_49 := rfl
theorem j_X8_addPeople_55 : xat xm_X8_addPeople.2.2.2.2.1 55 = xc_X8_addPeople_55 := rfl
theorem j_X8_addThings_5 : xat xm_X8_addThings.2.2.2.2.1 5 = xc_X8_addThings_5 := rfl
theorem j_X8_addThings_20 : xat xm_X8_addThings.2.2.2.2.1 20 = xc_X8_addThings_20 := rfl
theorem j_X8_addThings_49 : xat xm_X8_addThings.2.2.2.2.1 49 = xc_X8_addThings_49 := rfl
theorem j_X8_addThings_55 : xat xm_X8_addThings.2.2.2.2.1 55 = xc_X8_addThings_55 := rfl
theorem j_X8_addSales_5 : xat xm_X8_addSales.2.2.2.2.1 5 = xc_X8_addSales_5 := rfl
theorem j_X8_addSales_20 : xat xm_X8_addSales.2.2.2.2.1 20 = xc_X8_addSales_20 := rfl
theorem j_X8_addSales_49 : xat xm_X8_addSales.2.2.2.2.1 49 = xc_X8_addSales_49 := rfl
theorem j_X8_addSales_55 : xat xm_X8_addSales.2.2.2.2.1 55 = xc_X8_addSales_55 := rfl
theorem j_X8_addLeases_5 : xat xm_X8_addLeases.2.2.2.2.1 5 = xc_X8_addLeases_5 := rfl
theorem j_X8_addLeases_20 : xat xm_X8_addLeases.2.2.2.2.1 20 = xc_X8_addLeases_20 := rfl
theorem j_X8_addLeases_48 : xat xm_X8_addLeases.2.2.2.2.1 48 = xc_X8_addLeases_48 := rfl
theorem j_X8_addLeases_54 : xat xm_X8_addLeases.2.2.2.2.1 54 = xc_X8_addLeases_54 := rfl
theorem j_X8_addVentures_5 : xat xm_X8_addVentures.2.2.2.2.1 5 = xc_X8_addVentures_5 := rfl
theorem j_X8_addVentures_20 : xat xm_X8_addVentures.2.2.2.2.1 20 = xc_X8_addVentures_20 := rfl
theorem j_X8_addVentures_48 : xat xm_X8_addVentures.2.2.2.2.1 48 = xc_X8_addVentures_48 := rfl
theorem j_X8_addVentures_63 : xat xm_X8_addVentures.2.2.2.2.1 63 = xc_X8_addVentures_63 := rfl
theorem j_X8_addPartner_6 : xat xm_X8_addPartner.2.2.2.2.1 6 = xc_X8_addPartner_6 := rfl
theorem j_X8_addPartner_37 : xat xm_X8_addPartner.2.2.2.2.1 37 = xc_X8_addPartner_37 := rfl
theorem j_X8_addFirms_5 : xat xm_X8_addFirms.2.2.2.2.1 5 = xc_X8_addFirms_5 := rfl
theorem j_X8_addFirms_20 : xat xm_X8_addFirms.2.2.2.2.1 20 = xc_X8_addFirms_20 := rfl
theorem j_X8_addFirms_48 : xat xm_X8_addFirms.2.2.2.2.1 48 = xc_X8_addFirms_48 := rfl
theorem j_X8_addFirms_54 : xat xm_X8_addFirms.2.2.2.2.1 54 = xc_X8_addFirms_54 := rfl
theorem j_X8_isIn_14 : xat xm_X8_isIn.2.2.2.2.1 14 = xc_X8_isIn_14 := rfl
theorem j_X8_isIn_15 : xat xm_X8_isIn.2.2.2.2.1 15 = xc_X8_isIn_15 := rfl
theorem j_X8_portion_17 : xat xm_X8_portion.2.2.2.2.1 17 = xc_X8_portion_17 := rfl
theorem j_X8_portion_18 : xat xm_X8_portion.2.2.2.2.1 18 = xc_X8_portion_18 := rfl
theorem j_X8_isParty_16 : xat xm_X8_isParty.2.2.2.2.1 16 = xc_X8_isParty_16 := rfl
theorem j_X8_isParty_20 : xat xm_X8_isParty.2.2.2.2.1 20 = xc_X8_isParty_20 := rfl
theorem j_X8_isParty_21 : xat xm_X8_isParty.2.2.2.2.1 21 = xc_X8_isParty_21 := rfl
theorem j_X8_placeOf_10 : xat xm_X8_placeOf.2.2.2.2.1 10 = xc_X8_placeOf_10 := rfl
theorem j_X8_placeOf_11 : xat xm_X8_placeOf.2.2.2.2.1 11 = xc_X8_placeOf_11 := rfl
theorem j_X8_missingPillars_23 : xat xm_X8_missingPillars.2.2.2.2.1 23 = xc_X8_missingPillars_23 := rfl
theorem j_X8_missingPillars_50 : xat xm_X8_missingPillars.2.2.2.2.1 50 = xc_X8_missingPillars_50 := rfl
theorem j_X8_missingPillars_66 : xat xm_X8_missingPillars.2.2.2.2.1 66 = xc_X8_missingPillars_66 := rfl
theorem j_X8_missingPillars_84 : xat xm_X8_missingPillars.2.2.2.2.1 84 = xc_X8_missingPillars_84 := rfl
theorem j_X8_canLease_73 : xat xm_X8_canLease.2.2.2.2.1 73 = xc_X8_canLease_73 := rfl
theorem j_X8_canLease_77 : xat xm_X8_canLease.2.2.2.2.1 77 = xc_X8_canLease_77 := rfl
theorem j_X8_canLease_78 : xat xm_X8_canLease.2.2.2.2.1 78 = xc_X8_canLease_78 := rfl
theorem j_X8_shareProfit_5 : xat xm_X8_shareProfit.2.2.2.2.1 5 = xc_X8_shareProfit_5 := rfl
theorem j_X8_shareProfit_53 : xat xm_X8_shareProfit.2.2.2.2.1 53 = xc_X8_shareProfit_53 := rfl
theorem j_X8_collectRents_2 : xat xm_X8_collectRents.2.2.2.2.1 2 = xc_X8_collectRents_2 := rfl
theorem j_X8_collectRents_60 : xat xm_X8_collectRents.2.2.2.2.1 60 = xc_X8_collectRents_60 := rfl
theorem j_X8_collectRents_66 : xat xm_X8_collectRents.2.2.2.2.1 66 = xc_X8_collectRents_66 := rfl
theorem j_X11_isOpen_22 : xat xm_X11_isOpen.2.2.2.2.1 22 = xc_X11_isOpen_22 := rfl
theorem j_X11_isOpen_23 : xat xm_X11_isOpen.2.2.2.2.1 23 = xc_X11_isOpen_23 := rfl
theorem j_X11_part_22 : xat xm_X11_part.2.2.2.2.1 22 = xc_X11_part_22 := rfl
theorem j_X11_part_43 : xat xm_X11_part.2.2.2.2.1 43 = xc_X11_part_43 := rfl
theorem j_X11_left_7 : xat xm_X11_left.2.2.2.2.1 7 = xc_X11_left_7 := rfl
theorem j_X11_left_36 : xat xm_X11_left.2.2.2.2.1 36 = xc_X11_left_36 := rfl
theorem j_X13_all_11 : xat xm_X13_all.2.2.2.2.1 11 = xc_X13_all_11 := rfl
theorem j_X13_all_35 : xat xm_X13_all.2.2.2.2.1 35 = xc_X13_all_35 := rfl
theorem j_X13_lose_27 : xat xm_X13_lose.2.2.2.2.1 27 = xc_X13_lose_27 := rfl
theorem j_X13_lose_69 : xat xm_X13_lose.2.2.2.2.1 69 = xc_X13_lose_69 := rfl
theorem j_X13_lose_72 : xat xm_X13_lose.2.2.2.2.1 72 = xc_X13_lose_72 := rfl
theorem j_X13_lose_96 : xat xm_X13_lose.2.2.2.2.1 96 = xc_X13_lose_96 := rfl
theorem j_X13_lose_108 : xat xm_X13_lose.2.2.2.2.1 108 = xc_X13_lose_108 := rfl
theorem j_X13_lose_120 : xat xm_X13_lose.2.2.2.2.1 120 = xc_X13_lose_120 := rfl
theorem j_X13_lose_123 : xat xm_X13_lose.2.2.2.2.1 123 = xc_X13_lose_123 := rfl
theorem j_X13_lose_151 : xat xm_X13_lose.2.2.2.2.1 151 = xc_X13_lose_151 := rfl
theorem j_X14_isIn_14 : xat xm_X14_isIn.2.2.2.2.1 14 = xc_X14_isIn_14 := rfl
theorem j_X14_isIn_15 : xat xm_X14_isIn.2.2.2.2.1 15 = xc_X14_isIn_15 := rfl
theorem j_X14_one_8 : xat xm_X14_one.2.2.2.2.1 8 = xc_X14_one_8 := rfl
theorem j_X14_one_9 : xat xm_X14_one.2.2.2.2.1 9 = xc_X14_one_9 := rfl
theorem j_X14_has_13 : xat xm_X14_has.2.2.2.2.1 13 = xc_X14_has_13 := rfl
theorem j_X14_has_14 : xat xm_X14_has.2.2.2.2.1 14 = xc_X14_has_14 := rfl
theorem j_X14_refuse_16 : xat xm_X14_refuse.2.2.2.2.1 16 = xc_X14_refuse_16 := rfl
theorem j_X14_refuse_27 : xat xm_X14_refuse.2.2.2.2.1 27 = xc_X14_refuse_27 := rfl
theorem j_X14_refuse_28 : xat xm_X14_refuse.2.2.2.2.1 28 = xc_X14_refuse_28 := rfl
theorem j_X14_isNobody_18 : xat xm_X14_isNobody.2.2.2.2.1 18 = xc_X14_isNobody_18 := rfl
theorem j_X14_isNobody_19 : xat xm_X14_isNobody.2.2.2.2.1 19 = xc_X14_isNobody_19 := rfl
theorem j_X14_isNoThing_21 : xat xm_X14_isNoThing.2.2.2.2.1 21 = xc_X14_isNoThing_21 := rfl
theorem j_X14_isNoThing_22 : xat xm_X14_isNoThing.2.2.2.2.1 22 = xc_X14_isNoThing_22 := rfl
theorem j_X14_forIt_33 : xat xm_X14_forIt.2.2.2.2.1 33 = xc_X14_forIt_33 := rfl
theorem j_X14_forIt_81 : xat xm_X14_forIt.2.2.2.2.1 81 = xc_X14_forIt_81 := rfl
theorem j_X14_forIt_84 : xat xm_X14_forIt.2.2.2.2.1 84 = xc_X14_forIt_84 := rfl
theorem j_X14_forIt_98 : xat xm_X14_forIt.2.2.2.2.1 98 = xc_X14_forIt_98 := rfl
theorem j_X14_forIt_125 : xat xm_X14_forIt.2.2.2.2.1 125 = xc_X14_forIt_125 := rfl
theorem j_X14_isAllowed_14 : xat xm_X14_isAllowed.2.2.2.2.1 14 = xc_X14_isAllowed_14 := rfl
theorem j_X14_isAllowed_15 : xat xm_X14_isAllowed.2.2.2.2.1 15 = xc_X14_isAllowed_15 := rfl
theorem j_X14_hold_19 : xat xm_X14_hold.2.2.2.2.1 19 = xc_X14_hold_19 := rfl
theorem j_X14_hold_23 : xat xm_X14_hold.2.2.2.2.1 23 = xc_X14_hold_23 := rfl
theorem j_X14_hold_24 : xat xm_X14_hold.2.2.2.2.1 24 = xc_X14_hold_24 := rfl
theorem j_X14_hold_33 : xat xm_X14_hold.2.2.2.2.1 33 = xc_X14_hold_33 := rfl
theorem j_X14_person_16 : xat xm_X14_person.2.2.2.2.1 16 = xc_X14_person_16 := rfl
theorem j_X14_person_17 : xat xm_X14_person.2.2.2.2.1 17 = xc_X14_person_17 := rfl
theorem j_X14_person_38 : xat xm_X14_person.2.2.2.2.1 38 = xc_X14_person_38 := rfl
theorem j_X14_person_39 : xat xm_X14_person.2.2.2.2.1 39 = xc_X14_person_39 := rfl
theorem j_X14_person_46 : xat xm_X14_person.2.2.2.2.1 46 = xc_X14_person_46 := rfl
theorem j_X14_person_48 : xat xm_X14_person.2.2.2.2.1 48 = xc_X14_person_48 := rfl
theorem j_X14_thing_18 : xat xm_X14_thing.2.2.2.2.1 18 = xc_X14_thing_18 := rfl
theorem j_X14_thing_19 : xat xm_X14_thing.2.2.2.2.1 19 = xc_X14_thing_19 := rfl
theorem j_X14_thing_42 : xat xm_X14_thing.2.2.2.2.1 42 = xc_X14_thing_42 := rfl
theorem j_X14_thing_43 : xat xm_X14_thing.2.2.2.2.1 43 = xc_X14_thing_43 := rfl
theorem j_X14_thing_67 : xat xm_X14_thing.2.2.2.2.1 67 = xc_X14_thing_67 := rfl
theorem j_X14_thing_68 : xat xm_X14_thing.2.2.2.2.1 68 = xc_X14_thing_68 := rfl
theorem j_X14_thing_75 : xat xm_X14_thing.2.2.2.2.1 75 = xc_X14_thing_75 := rfl
theorem j_X14_thing_77 : xat xm_X14_thing.2.2.2.2.1 77 = xc_X14_thing_77 := rfl
theorem j_X14_thing_96 : xat xm_X14_thing.2.2.2.2.1 96 = xc_X14_thing_96 := rfl
theorem j_X14_thing_97 : xat xm_X14_thing.2.2.2.2.1 97 = xc_X14_thing_97 := rfl
theorem j_X14_leaseOf_2 : xat xm_X14_leaseOf.2.2.2.2.1 2 = xc_X14_leaseOf_2 := rfl
theorem j_X14_leaseOf_50 : xat xm_X14_leaseOf.2.2.2.2.1 50 = xc_X14_leaseOf_50 := rfl
theorem j_X14_leaseOf_56 : xat xm_X14_leaseOf.2.2.2.2.1 56 = xc_X14_leaseOf_56 := rfl
theorem j_X14_buy_15 : xat xm_X14_buy.2.2.2.2.1 15 = xc_X14_buy_15 := rfl
theorem j_X14_buy_53 : xat xm_X14_buy.2.2.2.2.1 53 = xc_X14_buy_53 := rfl
theorem j_X14_buy_57 : xat xm_X14_buy.2.2.2.2.1 57 = xc_X14_buy_57 := rfl
theorem j_X14_buy_58 : xat xm_X14_buy.2.2.2.2.1 58 = xc_X14_buy_58 := rfl
theorem j_X14_buy_67 : xat xm_X14_buy.2.2.2.2.1 67 = xc_X14_buy_67 := rfl
theorem j_X14_buy_106 : xat xm_X14_buy.2.2.2.2.1 106 = xc_X14_buy_106 := rfl
theorem j_X14_take_50 : xat xm_X14_take.2.2.2.2.1 50 = xc_X14_take_50 := rfl
theorem j_X14_take_54 : xat xm_X14_take.2.2.2.2.1 54 = xc_X14_take_54 := rfl
theorem j_X14_take_55 : xat xm_X14_take.2.2.2.2.1 55 = xc_X14_take_55 := rfl
theorem j_X14_take_62 : xat xm_X14_take.2.2.2.2.1 62 = xc_X14_take_62 := rfl
theorem j_X14_take_64 : xat xm_X14_take.2.2.2.2.1 64 = xc_X14_take_64 := rfl
theorem j_X14_take_89 : xat xm_X14_take.2.2.2.2.1 89 = xc_X14_take_89 := rfl
theorem j_X14_take_132 : xat xm_X14_take.2.2.2.2.1 132 = xc_X14_take_132 := rfl
theorem j_X14_take_133 : xat xm_X14_take.2.2.2.2.1 133 = xc_X14_take_133 := rfl
theorem j_X14_take_141 : xat xm_X14_take.2.2.2.2.1 141 = xc_X14_take_141 := rfl
theorem j_X14_ruin_35 : xat xm_X14_ruin.2.2.2.2.1 35 = xc_X14_ruin_35 := rfl
theorem j_X14_ruin_37 : xat xm_X14_ruin.2.2.2.2.1 37 = xc_X14_ruin_37 := rfl
theorem j_X14_ruin_80 : xat xm_X14_ruin.2.2.2.2.1 80 = xc_X14_ruin_80 := rfl
theorem j_X14_missing_13 : xat xm_X14_missing.2.2.2.2.1 13 = xc_X14_missing_13 := rfl
theorem j_X14_missing_14 : xat xm_X14_missing.2.2.2.2.1 14 = xc_X14_missing_14 := rfl
theorem j_X14_missing_49 : xat xm_X14_missing.2.2.2.2.1 49 = xc_X14_missing_49 := rfl
theorem j_X14_missing_50 : xat xm_X14_missing.2.2.2.2.1 50 = xc_X14_missing_50 := rfl
theorem j_X14_missing_78 : xat xm_X14_missing.2.2.2.2.1 78 = xc_X14_missing_78 := rfl
theorem j_X14_missing_79 : xat xm_X14_missing.2.2.2.2.1 79 = xc_X14_missing_79 := rfl
theorem j_X14_sell_17 : xat xm_X14_sell.2.2.2.2.1 17 = xc_X14_sell_17 := rfl
theorem j_X14_sell_21 : xat xm_X14_sell.2.2.2.2.1 21 = xc_X14_sell_21 := rfl
theorem j_X14_sell_22 : xat xm_X14_sell.2.2.2.2.1 22 = xc_X14_sell_22 := rfl
theorem j_X14_sell_51 : xat xm_X14_sell.2.2.2.2.1 51 = xc_X14_sell_51 := rfl
theorem j_X14_sell_55 : xat xm_X14_sell.2.2.2.2.1 55 = xc_X14_sell_55 := rfl
theorem j_X14_sell_56 : xat xm_X14_sell.2.2.2.2.1 56 = xc_X14_sell_56 := rfl
theorem j_X14_sell_85 : xat xm_X14_sell.2.2.2.2.1 85 = xc_X14_sell_85 := rfl
theorem j_X14_sell_89 : xat xm_X14_sell.2.2.2.2.1 89 = xc_X14_sell_89 := rfl
theorem j_X14_sell_90 : xat xm_X14_sell.2.2.2.2.1 90 = xc_X14_sell_90 := rfl
theorem j_X14_sell_97 : xat xm_X14_sell.2.2.2.2.1 97 = xc_X14_sell_97 := rfl
theorem j_X14_sell_99 : xat xm_X14_sell.2.2.2.2.1 99 = xc_X14_sell_99 := rfl
theorem j_X14_sell_177 : xat xm_X14_sell.2.2.2.2.1 177 = xc_X14_sell_177 := rfl
theorem j_X14_pay_22 : xat xm_X14_pay.2.2.2.2.1 22 = xc_X14_pay_22 := rfl
theorem j_X14_pay_23 : xat xm_X14_pay.2.2.2.2.1 23 = xc_X14_pay_23 := rfl
theorem j_X14_pay_52 : xat xm_X14_pay.2.2.2.2.1 52 = xc_X14_pay_52 := rfl
theorem j_X14_pay_53 : xat xm_X14_pay.2.2.2.2.1 53 = xc_X14_pay_53 := rfl
theorem j_X14_pay_60 : xat xm_X14_pay.2.2.2.2.1 60 = xc_X14_pay_60 := rfl
theorem j_X14_pay_62 : xat xm_X14_pay.2.2.2.2.1 62 = xc_X14_pay_62 := rfl
theorem j_X14_pay_126 : xat xm_X14_pay.2.2.2.2.1 126 = xc_X14_pay_126 := rfl
theorem j_X14_pay_127 : xat xm_X14_pay.2.2.2.2.1 127 = xc_X14_pay_127 := rfl
theorem j_X14_pay_167 : xat xm_X14_pay.2.2.2.2.1 167 = xc_X14_pay_167 := rfl
theorem j_X14_pay_168 : xat xm_X14_pay.2.2.2.2.1 168 = xc_X14_pay_168 := rfl
theorem j_X14_benchmark_15 : xat xm_X14_benchmark.2.2.2.2.1 15 = xc_X14_benchmark_15 := rfl
theorem j_X14_benchmark_16 : xat xm_X14_benchmark.2.2.2.2.1 16 = xc_X14_benchmark_16 := rfl
theorem j_X14_benchmark_25 : xat xm_X14_benchmark.2.2.2.2.1 25 = xc_X14_benchmark_25 := rfl
theorem j_X14_lease_17 : xat xm_X14_lease.2.2.2.2.1 17 = xc_X14_lease_17 := rfl
theorem j_X14_lease_21 : xat xm_X14_lease.2.2.2.2.1 21 = xc_X14_lease_21 := rfl
theorem j_X14_lease_22 : xat xm_X14_lease.2.2.2.2.1 22 = xc_X14_lease_22 := rfl
theorem j_X14_lease_51 : xat xm_X14_lease.2.2.2.2.1 51 = xc_X14_lease_51 := rfl
theorem j_X14_lease_55 : xat xm_X14_lease.2.2.2.2.1 55 = xc_X14_lease_55 := rfl
theorem j_X14_lease_56 : xat xm_X14_lease.2.2.2.2.1 56 = xc_X14_lease_56 := rfl
theorem j_X14_lease_63 : xat xm_X14_lease.2.2.2.2.1 63 = xc_X14_lease_63 := rfl
theorem j_X14_lease_65 : xat xm_X14_lease.2.2.2.2.1 65 = xc_X14_lease_65 := rfl
theorem j_X14_lease_130 : xat xm_X14_lease.2.2.2.2.1 130 = xc_X14_lease_130 := rfl
theorem j_X14_lease_147 : xat xm_X14_lease.2.2.2.2.1 147 = xc_X14_lease_147 := rfl
theorem j_X14_lease_151 : xat xm_X14_lease.2.2.2.2.1 151 = xc_X14_lease_151 := rfl
theorem j_X14_lease_152 : xat xm_X14_lease.2.2.2.2.1 152 = xc_X14_lease_152 := rfl
theorem j_X14_lease_161 : xat xm_X14_lease.2.2.2.2.1 161 = xc_X14_lease_161 := rfl
theorem j_X14_end_22 : xat xm_X14_end.2.2.2.2.1 22 = xc_X14_end_22 := rfl
theorem j_X14_end_23 : xat xm_X14_end.2.2.2.2.1 23 = xc_X14_end_23 := rfl
theorem j_X14_end_52 : xat xm_X14_end.2.2.2.2.1 52 = xc_X14_end_52 := rfl
theorem j_X14_end_54 : xat xm_X14_end.2.2.2.2.1 54 = xc_X14_end_54 := rfl
theorem j_X14_end_96 : xat xm_X14_end.2.2.2.2.1 96 = xc_X14_end_96 := rfl
theorem j_X14_venture_17 : xat xm_X14_venture.2.2.2.2.1 17 = xc_X14_venture_17 := rfl
theorem j_X14_venture_18 : xat xm_X14_venture.2.2.2.2.1 18 = xc_X14_venture_18 := rfl
theorem j_X14_venture_27 : xat xm_X14_venture.2.2.2.2.1 27 = xc_X14_venture_27 := rfl
theorem j_X14_isNoVenture_21 : xat xm_X14_isNoVenture.2.2.2.2.1 21 = xc_X14_isNoVenture_21 := rfl
theorem j_X14_isNoVenture_22 : xat xm_X14_isNoVenture.2.2.2.2.1 22 = xc_X14_isNoVenture_22 := rfl
theorem j_X14_isNoOne_17 : xat xm_X14_isNoOne.2.2.2.2.1 17 = xc_X14_isNoOne_17 := rfl
theorem j_X14_isNoOne_18 : xat xm_X14_isNoOne.2.2.2.2.1 18 = xc_X14_isNoOne_18 := rfl
theorem j_X14_seat_10 : xat xm_X14_seat.2.2.2.2.1 10 = xc_X14_seat_10 := rfl
theorem j_X14_seat_11 : xat xm_X14_seat.2.2.2.2.1 11 = xc_X14_seat_11 := rfl
theorem j_X14_join_17 : xat xm_X14_join.2.2.2.2.1 17 = xc_X14_join_17 := rfl
theorem j_X14_join_21 : xat xm_X14_join.2.2.2.2.1 21 = xc_X14_join_21 := rfl
theorem j_X14_join_22 : xat xm_X14_join.2.2.2.2.1 22 = xc_X14_join_22 := rfl
theorem j_X14_join_52 : xat xm_X14_join.2.2.2.2.1 52 = xc_X14_join_52 := rfl
theorem j_X14_join_56 : xat xm_X14_join.2.2.2.2.1 56 = xc_X14_join_56 := rfl
theorem j_X14_join_57 : xat xm_X14_join.2.2.2.2.1 57 = xc_X14_join_57 := rfl
theorem j_X14_join_64 : xat xm_X14_join.2.2.2.2.1 64 = xc_X14_join_64 := rfl
theorem j_X14_join_66 : xat xm_X14_join.2.2.2.2.1 66 = xc_X14_join_66 := rfl
theorem j_X14_join_126 : xat xm_X14_join.2.2.2.2.1 126 = xc_X14_join_126 := rfl
theorem j_X14_join_130 : xat xm_X14_join.2.2.2.2.1 130 = xc_X14_join_130 := rfl
theorem j_X14_join_131 : xat xm_X14_join.2.2.2.2.1 131 = xc_X14_join_131 := rfl
theorem j_X14_join_140 : xat xm_X14_join.2.2.2.2.1 140 = xc_X14_join_140 := rfl
theorem j_X14_result_23 : xat xm_X14_result.2.2.2.2.1 23 = xc_X14_result_23 := rfl
theorem j_X14_result_27 : xat xm_X14_result.2.2.2.2.1 27 = xc_X14_result_27 := rfl
theorem j_X14_result_28 : xat xm_X14_result.2.2.2.2.1 28 = xc_X14_result_28 := rfl
theorem j_X14_result_53 : xat xm_X14_result.2.2.2.2.1 53 = xc_X14_result_53 := rfl
theorem j_X14_result_54 : xat xm_X14_result.2.2.2.2.1 54 = xc_X14_result_54 := rfl
theorem j_X14_result_94 : xat xm_X14_result.2.2.2.2.1 94 = xc_X14_result_94 := rfl
theorem j_X14_result_95 : xat xm_X14_result.2.2.2.2.1 95 = xc_X14_result_95 := rfl
theorem j_X14_result_102 : xat xm_X14_result.2.2.2.2.1 102 = xc_X14_result_102 := rfl
theorem j_X14_result_104 : xat xm_X14_result.2.2.2.2.1 104 = xc_X14_result_104 := rfl
theorem j_X14_result_131 : xat xm_X14_result.2.2.2.2.1 131 = xc_X14_result_131 := rfl
theorem j_X14_result_147 : xat xm_X14_result.2.2.2.2.1 147 = xc_X14_result_147 := rfl
theorem j_X14_result_160 : xat xm_X14_result.2.2.2.2.1 160 = xc_X14_result_160 := rfl
theorem j_X14_profit_5 : xat xm_X14_profit.2.2.2.2.1 5 = xc_X14_profit_5 := rfl
theorem j_X14_profit_23 : xat xm_X14_profit.2.2.2.2.1 23 = xc_X14_profit_23 := rfl
theorem j_X14_profit_35 : xat xm_X14_profit.2.2.2.2.1 35 = xc_X14_profit_35 := rfl
theorem j_X14_profit_72 : xat xm_X14_profit.2.2.2.2.1 72 = xc_X14_profit_72 := rfl
theorem j_X14_buyOut_25 : xat xm_X14_buyOut.2.2.2.2.1 25 = xc_X14_buyOut_25 := rfl
theorem j_X14_buyOut_29 : xat xm_X14_buyOut.2.2.2.2.1 29 = xc_X14_buyOut_29 := rfl
theorem j_X14_buyOut_30 : xat xm_X14_buyOut.2.2.2.2.1 30 = xc_X14_buyOut_30 := rfl
theorem j_X14_buyOut_55 : xat xm_X14_buyOut.2.2.2.2.1 55 = xc_X14_buyOut_55 := rfl
theorem j_X14_buyOut_59 : xat xm_X14_buyOut.2.2.2.2.1 59 = xc_X14_buyOut_59 := rfl
theorem j_X14_buyOut_60 : xat xm_X14_buyOut.2.2.2.2.1 60 = xc_X14_buyOut_60 := rfl
theorem j_X14_buyOut_67 : xat xm_X14_buyOut.2.2.2.2.1 67 = xc_X14_buyOut_67 := rfl
theorem j_X14_buyOut_69 : xat xm_X14_buyOut.2.2.2.2.1 69 = xc_X14_buyOut_69 := rfl
theorem j_X14_buyOut_142 : xat xm_X14_buyOut.2.2.2.2.1 142 = xc_X14_buyOut_142 := rfl
theorem j_X14_buyOut_146 : xat xm_X14_buyOut.2.2.2.2.1 146 = xc_X14_buyOut_146 := rfl
theorem j_X14_buyOut_147 : xat xm_X14_buyOut.2.2.2.2.1 147 = xc_X14_buyOut_147 := rfl
theorem j_X14_buyOut_156 : xat xm_X14_buyOut.2.2.2.2.1 156 = xc_X14_buyOut_156 := rfl
theorem j_X14_deposit_31 : xat xm_X14_deposit.2.2.2.2.1 31 = xc_X14_deposit_31 := rfl
theorem j_X14_deposit_35 : xat xm_X14_deposit.2.2.2.2.1 35 = xc_X14_deposit_35 := rfl
theorem j_X14_deposit_36 : xat xm_X14_deposit.2.2.2.2.1 36 = xc_X14_deposit_36 := rfl
theorem j_X14_deposit_58 : xat xm_X14_deposit.2.2.2.2.1 58 = xc_X14_deposit_58 := rfl
theorem j_X14_deposit_73 : xat xm_X14_deposit.2.2.2.2.1 73 = xc_X14_deposit_73 := rfl
theorem j_X14_deposit_86 : xat xm_X14_deposit.2.2.2.2.1 86 = xc_X14_deposit_86 := rfl
theorem j_X14_deposit_90 : xat xm_X14_deposit.2.2.2.2.1 90 = xc_X14_deposit_90 := rfl
theorem j_X14_deposit_91 : xat xm_X14_deposit.2.2.2.2.1 91 = xc_X14_deposit_91 := rfl
theorem j_X14_deposit_98 : xat xm_X14_deposit.2.2.2.2.1 98 = xc_X14_deposit_98 := rfl
theorem j_X14_deposit_100 : xat xm_X14_deposit.2.2.2.2.1 100 = xc_X14_deposit_100 := rfl
theorem j_X14_shared_48 : xat xm_X14_shared.2.2.2.2.1 48 = xc_X14_shared_48 := rfl
theorem j_X14_shared_60 : xat xm_X14_shared.2.2.2.2.1 60 = xc_X14_shared_60 := rfl
theorem j_X14_shared_62 : xat xm_X14_shared.2.2.2.2.1 62 = xc_X14_shared_62 := rfl
theorem j_X14_shared_86 : xat xm_X14_shared.2.2.2.2.1 86 = xc_X14_shared_86 := rfl
theorem j_X14_shared_114 : xat xm_X14_shared.2.2.2.2.1 114 = xc_X14_shared_114 := rfl
theorem j_X14_shared_121 : xat xm_X14_shared.2.2.2.2.1 121 = xc_X14_shared_121 := rfl
set_option maxRecDepth 40000 in
theorem j_X14_shared_187 : xat xm_X14_shared.2.2.2.2.1 187 = xc_X14_shared_187 := rfl
theorem j_X14_share_33 : xat xm_X14_share.2.2.2.2.1 33 = xc_X14_share_33 := rfl
theorem j_X14_share_37 : xat xm_X14_share.2.2.2.2.1 37 = xc_X14_share_37 := rfl
theorem j_X14_share_38 : xat xm_X14_share.2.2.2.2.1 38 = xc_X14_share_38 := rfl
theorem j_X14_share_47 : xat xm_X14_share.2.2.2.2.1 47 = xc_X14_share_47 := rfl
theorem j_X14_share_72 : xat xm_X14_share.2.2.2.2.1 72 = xc_X14_share_72 := rfl
theorem j_X14_share_118 : xat xm_X14_share.2.2.2.2.1 118 = xc_X14_share_118 := rfl
theorem j_X14_firm_68 : xat xm_X14_firm.2.2.2.2.1 68 = xc_X14_firm_68 := rfl
theorem j_X14_firm_72 : xat xm_X14_firm.2.2.2.2.1 72 = xc_X14_firm_72 := rfl
theorem j_X14_firm_73 : xat xm_X14_firm.2.2.2.2.1 73 = xc_X14_firm_73 := rfl
theorem j_X14_firm_97 : xat xm_X14_firm.2.2.2.2.1 97 = xc_X14_firm_97 := rfl
theorem j_X14_firm_98 : xat xm_X14_firm.2.2.2.2.1 98 = xc_X14_firm_98 := rfl
theorem j_X14_firm_105 : xat xm_X14_firm.2.2.2.2.1 105 = xc_X14_firm_105 := rfl
theorem j_X14_firm_107 : xat xm_X14_firm.2.2.2.2.1 107 = xc_X14_firm_107 := rfl
theorem j_X14_isClean_60 : xat xm_X14_isClean.2.2.2.2.1 60 = xc_X14_isClean_60 := rfl
theorem j_X14_isClean_61 : xat xm_X14_isClean.2.2.2.2.1 61 = xc_X14_isClean_61 := rfl
theorem j_X14_clean_4 : xat xm_X14_clean.2.2.2.2.1 4 = xc_X14_clean_4 := rfl
theorem j_X14_clean_34 : xat xm_X14_clean.2.2.2.2.1 34 = xc_X14_clean_34 := rfl
theorem j_X14_sumOf_5 : xat xm_X14_sumOf.2.2.2.2.1 5 = xc_X14_sumOf_5 := rfl
theorem j_X14_sumOf_43 : xat xm_X14_sumOf.2.2.2.2.1 43 = xc_X14_sumOf_43 := rfl
theorem j_X14_sumOf_49 : xat xm_X14_sumOf.2.2.2.2.1 49 = xc_X14_sumOf_49 := rfl
theorem j_X14_invest_17 : xat xm_X14_invest.2.2.2.2.1 17 = xc_X14_invest_17 := rfl
theorem j_X14_invest_21 : xat xm_X14_invest.2.2.2.2.1 21 = xc_X14_invest_21 := rfl
theorem j_X14_invest_22 : xat xm_X14_invest.2.2.2.2.1 22 = xc_X14_invest_22 := rfl
theorem j_X14_invest_45 : xat xm_X14_invest.2.2.2.2.1 45 = xc_X14_invest_45 := rfl
theorem j_X14_invest_46 : xat xm_X14_invest.2.2.2.2.1 46 = xc_X14_invest_46 := rfl
theorem j_X14_invest_53 : xat xm_X14_invest.2.2.2.2.1 53 = xc_X14_invest_53 := rfl
theorem j_X14_invest_55 : xat xm_X14_invest.2.2.2.2.1 55 = xc_X14_invest_55 := rfl
theorem j_X14_dividend_22 : xat xm_X14_dividend.2.2.2.2.1 22 = xc_X14_dividend_22 := rfl
theorem j_X14_dividend_23 : xat xm_X14_dividend.2.2.2.2.1 23 = xc_X14_dividend_23 := rfl
theorem j_X14_dividend_46 : xat xm_X14_dividend.2.2.2.2.1 46 = xc_X14_dividend_46 := rfl
theorem j_X14_dividend_47 : xat xm_X14_dividend.2.2.2.2.1 47 = xc_X14_dividend_47 := rfl
theorem j_X14_dividend_70 : xat xm_X14_dividend.2.2.2.2.1 70 = xc_X14_dividend_70 := rfl
theorem j_X14_dividend_71 : xat xm_X14_dividend.2.2.2.2.1 71 = xc_X14_dividend_71 := rfl
theorem j_X14_dividend_78 : xat xm_X14_dividend.2.2.2.2.1 78 = xc_X14_dividend_78 := rfl
theorem j_X14_dividend_80 : xat xm_X14_dividend.2.2.2.2.1 80 = xc_X14_dividend_80 := rfl
theorem j_X14_rents_8 : xat xm_X14_rents.2.2.2.2.1 8 = xc_X14_rents_8 := rfl
theorem j_X14_rents_52 : xat xm_X14_rents.2.2.2.2.1 52 = xc_X14_rents_52 := rfl
theorem j_X14_rents_140 : xat xm_X14_rents.2.2.2.2.1 140 = xc_X14_rents_140 := rfl
theorem j_X14_pass_16 : xat xm_X14_pass.2.2.2.2.1 16 = xc_X14_pass_16 := rfl
theorem j_X14_pass_17 : xat xm_X14_pass.2.2.2.2.1 17 = xc_X14_pass_17 := rfl
theorem j_X14_pass_41 : xat xm_X14_pass.2.2.2.2.1 41 = xc_X14_pass_41 := rfl
theorem j_X14_pass_42 : xat xm_X14_pass.2.2.2.2.1 42 = xc_X14_pass_42 := rfl
theorem j_X14_pass_49 : xat xm_X14_pass.2.2.2.2.1 49 = xc_X14_pass_49 := rfl
theorem j_X14_pass_51 : xat xm_X14_pass.2.2.2.2.1 51 = xc_X14_pass_51 := rfl
theorem j_X14_pass_53 : xat xm_X14_pass.2.2.2.2.1 53 = xc_X14_pass_53 := rfl
theorem j_X14_pass_60 : xat xm_X14_pass.2.2.2.2.1 60 = xc_X14_pass_60 := rfl
theorem j_X14_pass_89 : xat xm_X14_pass.2.2.2.2.1 89 = xc_X14_pass_89 := rfl
theorem j_X14_pass_105 : xat xm_X14_pass.2.2.2.2.1 105 = xc_X14_pass_105 := rfl
theorem j_X14_pass_147 : xat xm_X14_pass.2.2.2.2.1 147 = xc_X14_pass_147 := rfl
theorem j_X14_pass_148 : xat xm_X14_pass.2.2.2.2.1 148 = xc_X14_pass_148 := rfl
set_option maxRecDepth 40000 in
theorem j_X14_pass_178 : xat xm_X14_pass.2.2.2.2.1 178 = xc_X14_pass_178 := rfl
set_option maxRecDepth 40000 in
theorem j_X14_pass_184 : xat xm_X14_pass.2.2.2.2.1 184 = xc_X14_pass_184 := rfl
theorem j_X14_personTold_23 : xat xm_X14_personTold.2.2.2.2.1 23 = xc_X14_personTold_23 := rfl
theorem j_X14_personTold_59 : xat xm_X14_personTold.2.2.2.2.1 59 = xc_X14_personTold_59 := rfl
theorem j_X14_personTold_60 : xat xm_X14_personTold.2.2.2.2.1 60 = xc_X14_personTold_60 := rfl
theorem j_X14_personTold_68 : xat xm_X14_personTold.2.2.2.2.1 68 = xc_X14_personTold_68 := rfl
theorem j_X14_personTold_77 : xat xm_X14_personTold.2.2.2.2.1 77 = xc_X14_personTold_77 := rfl
theorem j_X14_personTold_119 : xat xm_X14_personTold.2.2.2.2.1 119 = xc_X14_personTold_119 := rfl
theorem j_X14_personTold_148 : xat xm_X14_personTold.2.2.2.2.1 148 = xc_X14_personTold_148 := rfl
theorem j_X14_personTold_157 : xat xm_X14_personTold.2.2.2.2.1 157 = xc_X14_personTold_157 := rfl
theorem j_X14_personTold_202 : xat xm_X14_personTold.2.2.2.2.1 202 = xc_X14_personTold_202 := rfl
theorem j_X14_personTold_203 : xat xm_X14_personTold.2.2.2.2.1 203 = xc_X14_personTold_203 := rfl
theorem j_X14_personTold_212 : xat xm_X14_personTold.2.2.2.2.1 212 = xc_X14_personTold_212 := rfl
theorem j_X14_personTold_221 : xat xm_X14_personTold.2.2.2.2.1 221 = xc_X14_personTold_221 := rfl
set_option maxRecDepth 40000 in
theorem j_X14_personTold_258 : xat xm_X14_personTold.2.2.2.2.1 258 = xc_X14_personTold_258 := rfl
theorem j_X14_ofPerson_28 : xat xm_X14_ofPerson.2.2.2.2.1 28 = xc_X14_ofPerson_28 := rfl
theorem j_X14_ofPerson_29 : xat xm_X14_ofPerson.2.2.2.2.1 29 = xc_X14_ofPerson_29 := rfl
theorem j_X14_ofPerson_36 : xat xm_X14_ofPerson.2.2.2.2.1 36 = xc_X14_ofPerson_36 := rfl
theorem j_X14_ofPerson_40 : xat xm_X14_ofPerson.2.2.2.2.1 40 = xc_X14_ofPerson_40 := rfl
theorem j_X14_ofPerson_46 : xat xm_X14_ofPerson.2.2.2.2.1 46 = xc_X14_ofPerson_46 := rfl
theorem j_X14_ofThing_28 : xat xm_X14_ofThing.2.2.2.2.1 28 = xc_X14_ofThing_28 := rfl
theorem j_X14_ofThing_29 : xat xm_X14_ofThing.2.2.2.2.1 29 = xc_X14_ofThing_29 := rfl
theorem j_X14_ofThing_36 : xat xm_X14_ofThing.2.2.2.2.1 36 = xc_X14_ofThing_36 := rfl
theorem j_X14_ofThing_40 : xat xm_X14_ofThing.2.2.2.2.1 40 = xc_X14_ofThing_40 := rfl
theorem j_X14_ofThing_46 : xat xm_X14_ofThing.2.2.2.2.1 46 = xc_X14_ofThing_46 := rfl
theorem j_X14_saleTold_75 : xat xm_X14_saleTold.2.2.2.2.1 75 = xc_X14_saleTold_75 := rfl
theorem j_X14_saleTold_76 : xat xm_X14_saleTold.2.2.2.2.1 76 = xc_X14_saleTold_76 := rfl
theorem j_X14_saleTold_98 : xat xm_X14_saleTold.2.2.2.2.1 98 = xc_X14_saleTold_98 := rfl
theorem j_X14_saleTold_99 : xat xm_X14_saleTold.2.2.2.2.1 99 = xc_X14_saleTold_99 := rfl
theorem j_X14_ofSale_22 : xat xm_X14_ofSale.2.2.2.2.1 22 = xc_X14_ofSale_22 := rfl
theorem j_X14_ofSale_23 : xat xm_X14_ofSale.2.2.2.2.1 23 = xc_X14_ofSale_23 := rfl
theorem j_X14_ofSale_45 : xat xm_X14_ofSale.2.2.2.2.1 45 = xc_X14_ofSale_45 := rfl
theorem j_X14_ofSale_46 : xat xm_X14_ofSale.2.2.2.2.1 46 = xc_X14_ofSale_46 := rfl
theorem j_X14_ofSale_53 : xat xm_X14_ofSale.2.2.2.2.1 53 = xc_X14_ofSale_53 := rfl
theorem j_X14_ofSale_57 : xat xm_X14_ofSale.2.2.2.2.1 57 = xc_X14_ofSale_57 := rfl
theorem j_X14_ofSale_63 : xat xm_X14_ofSale.2.2.2.2.1 63 = xc_X14_ofSale_63 := rfl
theorem j_X14_leaseTold_67 : xat xm_X14_leaseTold.2.2.2.2.1 67 = xc_X14_leaseTold_67 := rfl
theorem j_X14_leaseTold_81 : xat xm_X14_leaseTold.2.2.2.2.1 81 = xc_X14_leaseTold_81 := rfl
theorem j_X14_ofLease_22 : xat xm_X14_ofLease.2.2.2.2.1 22 = xc_X14_ofLease_22 := rfl
theorem j_X14_ofLease_23 : xat xm_X14_ofLease.2.2.2.2.1 23 = xc_X14_ofLease_23 := rfl
theorem j_X14_ofLease_44 : xat xm_X14_ofLease.2.2.2.2.1 44 = xc_X14_ofLease_44 := rfl
theorem j_X14_ofLease_45 : xat xm_X14_ofLease.2.2.2.2.1 45 = xc_X14_ofLease_45 := rfl
theorem j_X14_ofLease_52 : xat xm_X14_ofLease.2.2.2.2.1 52 = xc_X14_ofLease_52 := rfl
theorem j_X14_ofLease_56 : xat xm_X14_ofLease.2.2.2.2.1 56 = xc_X14_ofLease_56 := rfl
theorem j_X14_ofLease_62 : xat xm_X14_ofLease.2.2.2.2.1 62 = xc_X14_ofLease_62 := rfl
theorem j_X14_ventureTold_27 : xat xm_X14_ventureTold.2.2.2.2.1 27 = xc_X14_ventureTold_27 := rfl
theorem j_X14_ventureTold_42 : xat xm_X14_ventureTold.2.2.2.2.1 42 = xc_X14_ventureTold_42 := rfl
theorem j_X14_ventureTold_49 : xat xm_X14_ventureTold.2.2.2.2.1 49 = xc_X14_ventureTold_49 := rfl
theorem j_X14_ofVenture_17 : xat xm_X14_ofVenture.2.2.2.2.1 17 = xc_X14_ofVenture_17 := rfl
theorem j_X14_ofVenture_21 : xat xm_X14_ofVenture.2.2.2.2.1 21 = xc_X14_ofVenture_21 := rfl
theorem j_X14_ofVenture_22 : xat xm_X14_ofVenture.2.2.2.2.1 22 = xc_X14_ofVenture_22 := rfl
theorem j_X14_ofVenture_43 : xat xm_X14_ofVenture.2.2.2.2.1 43 = xc_X14_ofVenture_43 := rfl
theorem j_X14_ofVenture_44 : xat xm_X14_ofVenture.2.2.2.2.1 44 = xc_X14_ofVenture_44 := rfl
theorem j_X14_ofVenture_51 : xat xm_X14_ofVenture.2.2.2.2.1 51 = xc_X14_ofVenture_51 := rfl
theorem j_X14_ofVenture_55 : xat xm_X14_ofVenture.2.2.2.2.1 55 = xc_X14_ofVenture_55 := rfl
theorem j_X14_ofVenture_65 : xat xm_X14_ofVenture.2.2.2.2.1 65 = xc_X14_ofVenture_65 := rfl
theorem j_X14_ofFirm_22 : xat xm_X14_ofFirm.2.2.2.2.1 22 = xc_X14_ofFirm_22 := rfl
theorem j_X14_ofFirm_23 : xat xm_X14_ofFirm.2.2.2.2.1 23 = xc_X14_ofFirm_23 := rfl
theorem j_X14_ofFirm_44 : xat xm_X14_ofFirm.2.2.2.2.1 44 = xc_X14_ofFirm_44 := rfl
theorem j_X14_ofFirm_45 : xat xm_X14_ofFirm.2.2.2.2.1 45 = xc_X14_ofFirm_45 := rfl
theorem j_X14_ofFirm_52 : xat xm_X14_ofFirm.2.2.2.2.1 52 = xc_X14_ofFirm_52 := rfl
theorem j_X14_ofFirm_56 : xat xm_X14_ofFirm.2.2.2.2.1 56 = xc_X14_ofFirm_56 := rfl
theorem j_X14_ofFirm_62 : xat xm_X14_ofFirm.2.2.2.2.1 62 = xc_X14_ofFirm_62 := rfl
theorem j_X14_allowed_14 : xat xm_X14_allowed.2.2.2.2.1 14 = xc_X14_allowed_14 := rfl
theorem j_X14_allowed_15 : xat xm_X14_allowed.2.2.2.2.1 15 = xc_X14_allowed_15 := rfl
theorem j_X14_allowed_39 : xat xm_X14_allowed.2.2.2.2.1 39 = xc_X14_allowed_39 := rfl
theorem j_X14_allowed_40 : xat xm_X14_allowed.2.2.2.2.1 40 = xc_X14_allowed_40 := rfl
theorem j_X14_allowed_60 : xat xm_X14_allowed.2.2.2.2.1 60 = xc_X14_allowed_60 := rfl
theorem j_X14_allowed_61 : xat xm_X14_allowed.2.2.2.2.1 61 = xc_X14_allowed_61 := rfl
theorem j_X14_houseTold_30 : xat xm_X14_houseTold.2.2.2.2.1 30 = xc_X14_houseTold_30 := rfl
theorem j_X14_houseTold_55 : xat xm_X14_houseTold.2.2.2.2.1 55 = xc_X14_houseTold_55 := rfl
theorem j_X14_houseTold_64 : xat xm_X14_houseTold.2.2.2.2.1 64 = xc_X14_houseTold_64 := rfl
theorem j_X14_houseTold_99 : xat xm_X14_houseTold.2.2.2.2.1 99 = xc_X14_houseTold_99 := rfl
theorem j_X14_houseTold_100 : xat xm_X14_houseTold.2.2.2.2.1 100 = xc_X14_houseTold_100 := rfl
theorem j_X14_houseTold_132 : xat xm_X14_houseTold.2.2.2.2.1 132 = xc_X14_houseTold_132 := rfl
theorem j_X14_houseTold_133 : xat xm_X14_houseTold.2.2.2.2.1 133 = xc_X14_houseTold_133 := rfl
theorem j_X14_houseTold_142 : xat xm_X14_houseTold.2.2.2.2.1 142 = xc_X14_houseTold_142 := rfl
theorem j_X14_houseTold_151 : xat xm_X14_houseTold.2.2.2.2.1 151 = xc_X14_houseTold_151 := rfl
theorem j_X14_houseTold_187 : xat xm_X14_houseTold.2.2.2.2.1 187 = xc_X14_houseTold_187 := rfl
theorem j_X14_houseTold_188 : xat xm_X14_houseTold.2.2.2.2.1 188 = xc_X14_houseTold_188 := rfl
theorem j_X14_houseTold_197 : xat xm_X14_houseTold.2.2.2.2.1 197 = xc_X14_houseTold_197 := rfl
theorem j_X14_houseTold_206 : xat xm_X14_houseTold.2.2.2.2.1 206 = xc_X14_houseTold_206 := rfl
set_option maxRecDepth 40000 in
theorem j_X14_houseTold_244 : xat xm_X14_houseTold.2.2.2.2.1 244 = xc_X14_houseTold_244 := rfl
set_option maxRecDepth 40000 in
theorem j_X14_houseTold_245 : xat xm_X14_houseTold.2.2.2.2.1 245 = xc_X14_houseTold_245 := rfl
set_option maxRecDepth 40000 in
theorem j_X14_houseTold_254 : xat xm_X14_houseTold.2.2.2.2.1 254 = xc_X14_houseTold_254 := rfl
set_option maxRecDepth 40000 in
theorem j_X14_houseTold_257 : xat xm_X14_houseTold.2.2.2.2.1 257 = xc_X14_houseTold_257 := rfl
set_option maxRecDepth 40000 in
theorem j_X14_houseTold_284 : xat xm_X14_houseTold.2.2.2.2.1 284 = xc_X14_houseTold_284 := rfl
theorem j_X14_house_15 : xat xm_X14_house.2.2.2.2.1 15 = xc_X14_house_15 := rfl
theorem j_X14_house_16 : xat xm_X14_house.2.2.2.2.1 16 = xc_X14_house_16 := rfl
theorem j_X14_house_27 : xat xm_X14_house.2.2.2.2.1 27 = xc_X14_house_27 := rfl
theorem j_X14_house_32 : xat xm_X14_house.2.2.2.2.1 32 = xc_X14_house_32 := rfl
theorem j_X14_tell_22 : xat xm_X14_tell.2.2.2.2.1 22 = xc_X14_tell_22 := rfl
theorem j_X14_tell_23 : xat xm_X14_tell.2.2.2.2.1 23 = xc_X14_tell_23 := rfl
theorem j_X14_tell_34 : xat xm_X14_tell.2.2.2.2.1 34 = xc_X14_tell_34 := rfl
theorem j_X14_tell_59 : xat xm_X14_tell.2.2.2.2.1 59 = xc_X14_tell_59 := rfl
theorem j_X14_tell_76 : xat xm_X14_tell.2.2.2.2.1 76 = xc_X14_tell_76 := rfl
theorem j_X14_tell_104 : xat xm_X14_tell.2.2.2.2.1 104 = xc_X14_tell_104 := rfl
theorem j_X14_pillars_17 : xat xm_X14_pillars.2.2.2.2.1 17 = xc_X14_pillars_17 := rfl
theorem j_X14_pillars_21 : xat xm_X14_pillars.2.2.2.2.1 21 = xc_X14_pillars_21 := rfl
theorem j_X14_pillars_22 : xat xm_X14_pillars.2.2.2.2.1 22 = xc_X14_pillars_22 := rfl
theorem j_X14_pillars_33 : xat xm_X14_pillars.2.2.2.2.1 33 = xc_X14_pillars_33 := rfl
theorem j_X14_pillars_49 : xat xm_X14_pillars.2.2.2.2.1 49 = xc_X14_pillars_49 := rfl
theorem j_X14_bestSet_10 : xat xm_X14_bestSet.2.2.2.2.1 10 = xc_X14_bestSet_10 := rfl
theorem j_X14_bestSet_47 : xat xm_X14_bestSet.2.2.2.2.1 47 = xc_X14_bestSet_47 := rfl
theorem j_X14_bestSet_89 : xat xm_X14_bestSet.2.2.2.2.1 89 = xc_X14_bestSet_89 := rfl
theorem j_X14_bestSet_92 : xat xm_X14_bestSet.2.2.2.2.1 92 = xc_X14_bestSet_92 := rfl
theorem j_X14_bestSet_98 : xat xm_X14_bestSet.2.2.2.2.1 98 = xc_X14_bestSet_98 := rfl
theorem j_X14_best_16 : xat xm_X14_best.2.2.2.2.1 16 = xc_X14_best_16 := rfl
theorem j_X14_best_17 : xat xm_X14_best.2.2.2.2.1 17 = xc_X14_best_17 := rfl
theorem j_X14_best_26 : xat xm_X14_best.2.2.2.2.1 26 = xc_X14_best_26 := rfl
theorem j_X14_best_40 : xat xm_X14_best.2.2.2.2.1 40 = xc_X14_best_40 := rfl
theorem j_X14_best_46 : xat xm_X14_best.2.2.2.2.1 46 = xc_X14_best_46 := rfl
theorem j_X14_wouldShare_29 : xat xm_X14_wouldShare.2.2.2.2.1 29 = xc_X14_wouldShare_29 := rfl
theorem j_X14_wouldShare_30 : xat xm_X14_wouldShare.2.2.2.2.1 30 = xc_X14_wouldShare_30 := rfl
theorem j_X14_wouldShare_37 : xat xm_X14_wouldShare.2.2.2.2.1 37 = xc_X14_wouldShare_37 := rfl
theorem j_X14_wouldShare_41 : xat xm_X14_wouldShare.2.2.2.2.1 41 = xc_X14_wouldShare_41 := rfl
theorem j_X14_wouldShare_56 : xat xm_X14_wouldShare.2.2.2.2.1 56 = xc_X14_wouldShare_56 := rfl
theorem j_X14_isWhole_10 : xat xm_X14_isWhole.2.2.2.2.1 10 = xc_X14_isWhole_10 := rfl
theorem j_X14_isWhole_52 : xat xm_X14_isWhole.2.2.2.2.1 52 = xc_X14_isWhole_52 := rfl
theorem j_X14_isWhole_55 : xat xm_X14_isWhole.2.2.2.2.1 55 = xc_X14_isWhole_55 := rfl
theorem j_X14_isWhole_63 : xat xm_X14_isWhole.2.2.2.2.1 63 = xc_X14_isWhole_63 := rfl
theorem j_X14_isWhole_97 : xat xm_X14_isWhole.2.2.2.2.1 97 = xc_X14_isWhole_97 := rfl
theorem j_X14_isWhole_111 : xat xm_X14_isWhole.2.2.2.2.1 111 = xc_X14_isWhole_111 := rfl
theorem j_X14_isWhole_132 : xat xm_X14_isWhole.2.2.2.2.1 132 = xc_X14_isWhole_132 := rfl
theorem j_X14_isWhole_138 : xat xm_X14_isWhole.2.2.2.2.1 138 = xc_X14_isWhole_138 := rfl
theorem j_X14_isWhole_141 : xat xm_X14_isWhole.2.2.2.2.1 141 = xc_X14_isWhole_141 := rfl
theorem j_X14_isWhole_149 : xat xm_X14_isWhole.2.2.2.2.1 149 = xc_X14_isWhole_149 := rfl
theorem j_X14_isWhole_217 : xat xm_X14_isWhole.2.2.2.2.1 217 = xc_X14_isWhole_217 := rfl
set_option maxRecDepth 40000 in
theorem j_X14_isWhole_219 : xat xm_X14_isWhole.2.2.2.2.1 219 = xc_X14_isWhole_219 := rfl
set_option maxRecDepth 40000 in
theorem j_X14_isWhole_222 : xat xm_X14_isWhole.2.2.2.2.1 222 = xc_X14_isWhole_222 := rfl
set_option maxRecDepth 40000 in
theorem j_X14_isWhole_233 : xat xm_X14_isWhole.2.2.2.2.1 233 = xc_X14_isWhole_233 := rfl
set_option maxRecDepth 40000 in
theorem j_X14_isWhole_252 : xat xm_X14_isWhole.2.2.2.2.1 252 = xc_X14_isWhole_252 := rfl
set_option maxRecDepth 40000 in
theorem j_X14_isWhole_258 : xat xm_X14_isWhole.2.2.2.2.1 258 = xc_X14_isWhole_258 := rfl
set_option maxRecDepth 40000 in
theorem j_X14_isWhole_277 : xat xm_X14_isWhole.2.2.2.2.1 277 = xc_X14_isWhole_277 := rfl
set_option maxRecDepth 40000 in
theorem j_X14_isWhole_278 : xat xm_X14_isWhole.2.2.2.2.1 278 = xc_X14_isWhole_278 := rfl
theorem j_X14_digest_11 : xat xm_X14_digest.2.2.2.2.1 11 = xc_X14_digest_11 := rfl
theorem j_X14_digest_34 : xat xm_X14_digest.2.2.2.2.1 34 = xc_X14_digest_34 := rfl
theorem j_X14_digest_36 : xat xm_X14_digest.2.2.2.2.1 36 = xc_X14_digest_36 := rfl
theorem j_X14_digest_47 : xat xm_X14_digest.2.2.2.2.1 47 = xc_X14_digest_47 := rfl
theorem j_X14_digest_73 : xat xm_X14_digest.2.2.2.2.1 73 = xc_X14_digest_73 := rfl
theorem j_X14_digest_79 : xat xm_X14_digest.2.2.2.2.1 79 = xc_X14_digest_79 := rfl
theorem j_X14_digest_81 : xat xm_X14_digest.2.2.2.2.1 81 = xc_X14_digest_81 := rfl
theorem j_X14_digest_95 : xat xm_X14_digest.2.2.2.2.1 95 = xc_X14_digest_95 := rfl
theorem j_X14_digest_121 : xat xm_X14_digest.2.2.2.2.1 121 = xc_X14_digest_121 := rfl
theorem j_X14_digest_127 : xat xm_X14_digest.2.2.2.2.1 127 = xc_X14_digest_127 := rfl
theorem j_X14_digest_129 : xat xm_X14_digest.2.2.2.2.1 129 = xc_X14_digest_129 := rfl
theorem j_X14_digest_143 : xat xm_X14_digest.2.2.2.2.1 143 = xc_X14_digest_143 := rfl
theorem j_X14_digest_169 : xat xm_X14_digest.2.2.2.2.1 169 = xc_X14_digest_169 := rfl
theorem j_X14_digest_175 : xat xm_X14_digest.2.2.2.2.1 175 = xc_X14_digest_175 := rfl
theorem j_X14_digest_177 : xat xm_X14_digest.2.2.2.2.1 177 = xc_X14_digest_177 := rfl
theorem j_X14_digest_191 : xat xm_X14_digest.2.2.2.2.1 191 = xc_X14_digest_191 := rfl
set_option maxRecDepth 40000 in
theorem j_X14_digest_217 : xat xm_X14_digest.2.2.2.2.1 217 = xc_X14_digest_217 := rfl
set_option maxRecDepth 40000 in
theorem j_X14_digest_223 : xat xm_X14_digest.2.2.2.2.1 223 = xc_X14_digest_223 := rfl
set_option maxRecDepth 40000 in
theorem j_X14_digest_225 : xat xm_X14_digest.2.2.2.2.1 225 = xc_X14_digest_225 := rfl
set_option maxRecDepth 40000 in
theorem j_X14_digest_239 : xat xm_X14_digest.2.2.2.2.1 239 = xc_X14_digest_239 := rfl
set_option maxRecDepth 40000 in
theorem j_X14_digest_251 : xat xm_X14_digest.2.2.2.2.1 251 = xc_X14_digest_251 := rfl
set_option maxRecDepth 40000 in
theorem j_X14_digest_278 : xat xm_X14_digest.2.2.2.2.1 278 = xc_X14_digest_278 := rfl
set_option maxRecDepth 40000 in
theorem j_X14_digest_284 : xat xm_X14_digest.2.2.2.2.1 284 = xc_X14_digest_284 := rfl
set_option maxRecDepth 40000 in
theorem j_X14_digest_287 : xat xm_X14_digest.2.2.2.2.1 287 = xc_X14_digest_287 := rfl
set_option maxRecDepth 40000 in
theorem j_X14_digest_314 : xat xm_X14_digest.2.2.2.2.1 314 = xc_X14_digest_314 := rfl
set_option maxRecDepth 40000 in
theorem j_X14_digest_320 : xat xm_X14_digest.2.2.2.2.1 320 = xc_X14_digest_320 := rfl
set_option maxRecDepth 40000 in
theorem j_X14_digest_322 : xat xm_X14_digest.2.2.2.2.1 322 = xc_X14_digest_322 := rfl
set_option maxRecDepth 40000 in
theorem j_X14_digest_336 : xat xm_X14_digest.2.2.2.2.1 336 = xc_X14_digest_336 := rfl
set_option maxRecDepth 40000 in
theorem j_X14_digest_361 : xat xm_X14_digest.2.2.2.2.1 361 = xc_X14_digest_361 := rfl
set_option maxRecDepth 40000 in
theorem j_X14_digest_367 : xat xm_X14_digest.2.2.2.2.1 367 = xc_X14_digest_367 := rfl
set_option maxRecDepth 40000 in
theorem j_X14_digest_369 : xat xm_X14_digest.2.2.2.2.1 369 = xc_X14_digest_369 := rfl
set_option maxRecDepth 40000 in
theorem j_X14_digest_398 : xat xm_X14_digest.2.2.2.2.1 398 = xc_X14_digest_398 := rfl
theorem j_J5_init_d00df_38 : xat xm_J5_init_d00df.2.2.2.2.1 38 = xc_J5_init_d00df_38 := rfl
theorem j_J5_ensureCapacityInternal_d00df_38 : xat xm_J5_ensureCapacityInternal_d00df.2.2.2.2.1 38 = xc_J5_ensureCapacityInternal_d00df_38 := rfl
theorem j_J5_newCapacity_0f7a4_51 : xat xm_J5_newCapacity_0f7a4.2.2.2.2.1 51 = xc_J5_newCapacity_0f7a4_51 := rfl
theorem j_J5_append_cf1ce_9 : xat xm_J5_append_cf1ce.2.2.2.2.1 9 = xc_J5_append_cf1ce_9 := rfl
theorem j_J5_append_c97b9_48 : xat xm_J5_append_c97b9.2.2.2.2.1 48 = xc_J5_append_c97b9_48 := rfl
theorem j_J5_isLatin1_aae02_18 : xat xm_J5_isLatin1_aae02.2.2.2.2.1 18 = xc_J5_isLatin1_aae02_18 := rfl
theorem j_J5_inflateIfNeededFor_a7421_21 : xat xm_J5_inflateIfNeededFor_a7421.2.2.2.2.1 21 = xc_J5_inflateIfNeededFor_a7421_21 := rfl
theorem j_J6_getChars_ba4f3_11 : xat xm_J6_getChars_ba4f3.2.2.2.2.1 11 = xc_J6_getChars_ba4f3_11 := rfl
theorem j_J6_getChars_ba4f3_12 : xat xm_J6_getChars_ba4f3.2.2.2.2.1 12 = xc_J6_getChars_ba4f3_12 := rfl
theorem j_J6_getChars_ba4f3_22 : xat xm_J6_getChars_ba4f3.2.2.2.2.1 22 = xc_J6_getChars_ba4f3_22 := rfl
theorem j_J6_getChars_ba4f3_72 : xat xm_J6_getChars_ba4f3.2.2.2.2.1 72 = xc_J6_getChars_ba4f3_72 := rfl
theorem j_J6_getChars_ba4f3_104 : xat xm_J6_getChars_ba4f3.2.2.2.2.1 104 = xc_J6_getChars_ba4f3_104 := rfl
theorem j_J6_getChars_ba4f3_118 : xat xm_J6_getChars_ba4f3.2.2.2.2.1 118 = xc_J6_getChars_ba4f3_118 := rfl
theorem j_J6_stringSize_0f7a4_11 : xat xm_J6_stringSize_0f7a4.2.2.2.2.1 11 = xc_J6_stringSize_0f7a4_11 := rfl
theorem j_J6_stringSize_0f7a4_16 : xat xm_J6_stringSize_0f7a4.2.2.2.2.1 16 = xc_J6_stringSize_0f7a4_16 := rfl
theorem j_J6_stringSize_0f7a4_31 : xat xm_J6_stringSize_0f7a4.2.2.2.2.1 31 = xc_J6_stringSize_0f7a4_31 := rfl
theorem j_J6_stringSize_0f7a4_42 : xat xm_J6_stringSize_0f7a4.2.2.2.2.1 42 = xc_J6_stringSize_0f7a4_42 := rfl
theorem j_J0_getBytes_840e7_43 : xat xm_J0_getBytes_840e7.2.2.2.2.1 43 = xc_J0_getBytes_840e7_43 := rfl
theorem j_J0_init_db425_97 : xat xm_J0_init_db425.2.2.2.2.1 97 = xc_J0_init_db425_97 := rfl
theorem j_J0_coder_7d493_14 : xat xm_J0_coder_7d493.2.2.2.2.1 14 = xc_J0_coder_7d493_14 := rfl
theorem j_Jx35411_hasNext_aae02_18 : xat xm_Jx35411_hasNext_aae02.2.2.2.2.1 18 = xc_Jx35411_hasNext_aae02_18 := rfl
theorem j_Jx35411_hasNext_aae02_19 : xat xm_Jx35411_hasNext_aae02.2.2.2.2.1 19 = xc_Jx35411_hasNext_aae02_19 := rfl
theorem j_Jx35411_next_0502b_28 : xat xm_Jx35411_next_0502b.2.2.2.2.1 28 = xc_Jx35411_next_0502b_28 := rfl
theorem j_Jx35411_next_0502b_50 : xat xm_Jx35411_next_0502b.2.2.2.2.1 50 = xc_Jx35411_next_0502b_50 := rfl
theorem j_Jx35411_checkForComodification_da8c8_22 : xat xm_Jx35411_checkForComodification_da8c8.2.2.2.2.1 22 = xc_Jx35411_checkForComodification_da8c8_22 := rfl
theorem j_Jx4a65c_grow_92f84_20 : xat xm_Jx4a65c_grow_92f84.2.2.2.2.1 20 = xc_Jx4a65c_grow_92f84_20 := rfl
theorem j_Jx4a65c_grow_92f84_45 : xat xm_Jx4a65c_grow_92f84.2.2.2.2.1 45 = xc_Jx4a65c_grow_92f84_45 := rfl
theorem j_Jx4a65c_add_72be8_11 : xat xm_Jx4a65c_add_72be8.2.2.2.2.1 11 = xc_Jx4a65c_add_72be8_11 := rfl
theorem j_J7_copyOf_6403c_13 : xat xm_J7_copyOf_6403c.2.2.2.2.1 13 = xc_J7_copyOf_6403c_13 := rfl
theorem j_J7_copyOf_6403c_24 : xat xm_J7_copyOf_6403c.2.2.2.2.1 24 = xc_J7_copyOf_6403c_24 := rfl
theorem j_J7_copyOf_9075b_14 : xat xm_J7_copyOf_9075b.2.2.2.2.1 14 = xc_J7_copyOf_9075b_14 := rfl
theorem j_J7_checkLength_df160_37 : xat xm_J7_checkLength_df160.2.2.2.2.1 37 = xc_J7_checkLength_df160_37 := rfl
theorem j_J7_copyOfRange_39247_17 : xat xm_J7_copyOfRange_39247.2.2.2.2.1 17 = xc_J7_copyOfRange_39247_17 := rfl
theorem j_J8_newLength_cabcc_21 : xat xm_J8_newLength_cabcc.2.2.2.2.1 21 = xc_J8_newLength_cabcc_21 := rfl
theorem j_J3_checkIndex_8e157_9 : xat xm_J3_checkIndex_8e157.2.2.2.2.1 9 = xc_J3_checkIndex_8e157_9 := rfl
theorem j_J3_checkIndex_8e157_16 : xat xm_J3_checkIndex_8e157.2.2.2.2.1 16 = xc_J3_checkIndex_8e157_16 := rfl
theorem yz_m9999 : (Int32.ofInt (-9999)).toInt = -9999 := by decide
theorem yz_m999 : (Int32.ofInt (-999)).toInt = -999 := by decide
theorem yz_m100 : (Int32.ofInt (-100)).toInt = -100 := by decide
theorem yz_m10 : (Int32.ofInt (-10)).toInt = -10 := by decide
theorem yz_m9 : (Int32.ofInt (-9)).toInt = -9 := by decide
theorem yz_m2 : (Int32.ofInt (-2)).toInt = -2 := by decide
theorem yz_m1 : (Int32.ofInt (-1)).toInt = -1 := by decide
theorem yz_0 : (Int32.ofInt (0)).toInt = 0 := by decide
theorem yz_1 : (Int32.ofInt (1)).toInt = 1 := by decide
theorem yz_2 : (Int32.ofInt (2)).toInt = 2 := by decide
theorem yz_3 : (Int32.ofInt (3)).toInt = 3 := by decide
theorem yz_4 : (Int32.ofInt (4)).toInt = 4 := by decide
theorem yz_5 : (Int32.ofInt (5)).toInt = 5 := by decide
theorem yz_6 : (Int32.ofInt (6)).toInt = 6 := by decide
theorem yz_7 : (Int32.ofInt (7)).toInt = 7 := by decide
theorem yz_8 : (Int32.ofInt (8)).toInt = 8 := by decide
theorem yz_9 : (Int32.ofInt (9)).toInt = 9 := by decide
theorem yz_10 : (Int32.ofInt (10)).toInt = 10 := by decide
theorem yz_12 : (Int32.ofInt (12)).toInt = 12 := by decide
theorem yz_15 : (Int32.ofInt (15)).toInt = 15 := by decide
theorem yz_16 : (Int32.ofInt (16)).toInt = 16 := by decide
theorem yz_50 : (Int32.ofInt (50)).toInt = 50 := by decide
theorem yz_85 : (Int32.ofInt (85)).toInt = 85 := by decide
theorem yz_99 : (Int32.ofInt (99)).toInt = 99 := by decide
theorem yz_100 : (Int32.ofInt (100)).toInt = 100 := by decide
theorem yz_400 : (Int32.ofInt (400)).toInt = 400 := by decide
theorem yz_999 : (Int32.ofInt (999)).toInt = 999 := by decide
theorem yz_4000 : (Int32.ofInt (4000)).toInt = 4000 := by decide
theorem yz_9999 : (Int32.ofInt (9999)).toInt = 9999 := by decide
theorem yz_99999 : (Int32.ofInt (99999)).toInt = 99999 := by decide
theorem yz_2147483639 : (Int32.ofInt (2147483639)).toInt = 2147483639 := by decide
theorem yz_2147483647 : (Int32.ofInt (2147483647)).toInt = 2147483647 := by decide
theorem ySwC0_2 {x : Int32} (h : (0 : Int) ≤ x.toInt ∧ x.toInt ≤ (2 : Int)) : x.toInt = (0 : Int) + ((0 : Nat) : Int) ∨ x.toInt = (0 : Int) + ((1 : Nat) : Int) ∨ x.toInt = (0 : Int) + ((2 : Nat) : Int) := by omega
theorem ySwC0_4 {x : Int32} (h : (0 : Int) ≤ x.toInt ∧ x.toInt ≤ (4 : Int)) : x.toInt = (0 : Int) + ((0 : Nat) : Int) ∨ x.toInt = (0 : Int) + ((1 : Nat) : Int) ∨ x.toInt = (0 : Int) + ((2 : Nat) : Int) ∨ x.toInt = (0 : Int) + ((3 : Nat) : Int) ∨ x.toInt = (0 : Int) + ((4 : Nat) : Int) := by omega
theorem ySwC0_5 {x : Int32} (h : (0 : Int) ≤ x.toInt ∧ x.toInt ≤ (5 : Int)) : x.toInt = (0 : Int) + ((0 : Nat) : Int) ∨ x.toInt = (0 : Int) + ((1 : Nat) : Int) ∨ x.toInt = (0 : Int) + ((2 : Nat) : Int) ∨ x.toInt = (0 : Int) + ((3 : Nat) : Int) ∨ x.toInt = (0 : Int) + ((4 : Nat) : Int) ∨ x.toInt = (0 : Int) + ((5 : Nat) : Int) := by omega
theorem ySwC0_6 {x : Int32} (h : (0 : Int) ≤ x.toInt ∧ x.toInt ≤ (6 : Int)) : x.toInt = (0 : Int) + ((0 : Nat) : Int) ∨ x.toInt = (0 : Int) + ((1 : Nat) : Int) ∨ x.toInt = (0 : Int) + ((2 : Nat) : Int) ∨ x.toInt = (0 : Int) + ((3 : Nat) : Int) ∨ x.toInt = (0 : Int) + ((4 : Nat) : Int) ∨ x.toInt = (0 : Int) + ((5 : Nat) : Int) ∨ x.toInt = (0 : Int) + ((6 : Nat) : Int) := by omega
theorem ySwC0_7 {x : Int32} (h : (0 : Int) ≤ x.toInt ∧ x.toInt ≤ (7 : Int)) : x.toInt = (0 : Int) + ((0 : Nat) : Int) ∨ x.toInt = (0 : Int) + ((1 : Nat) : Int) ∨ x.toInt = (0 : Int) + ((2 : Nat) : Int) ∨ x.toInt = (0 : Int) + ((3 : Nat) : Int) ∨ x.toInt = (0 : Int) + ((4 : Nat) : Int) ∨ x.toInt = (0 : Int) + ((5 : Nat) : Int) ∨ x.toInt = (0 : Int) + ((6 : Nat) : Int) ∨ x.toInt = (0 : Int) + ((7 : Nat) : Int) := by omega
theorem ySwC0_9 {x : Int32} (h : (0 : Int) ≤ x.toInt ∧ x.toInt ≤ (9 : Int)) : x.toInt = (0 : Int) + ((0 : Nat) : Int) ∨ x.toInt = (0 : Int) + ((1 : Nat) : Int) ∨ x.toInt = (0 : Int) + ((2 : Nat) : Int) ∨ x.toInt = (0 : Int) + ((3 : Nat) : Int) ∨ x.toInt = (0 : Int) + ((4 : Nat) : Int) ∨ x.toInt = (0 : Int) + ((5 : Nat) : Int) ∨ x.toInt = (0 : Int) + ((6 : Nat) : Int) ∨ x.toInt = (0 : Int) + ((7 : Nat) : Int) ∨ x.toInt = (0 : Int) + ((8 : Nat) : Int) ∨ x.toInt = (0 : Int) + ((9 : Nat) : Int) := by omega
theorem ySwC0_15 {x : Int32} (h : (0 : Int) ≤ x.toInt ∧ x.toInt ≤ (15 : Int)) : x.toInt = (0 : Int) + ((0 : Nat) : Int) ∨ x.toInt = (0 : Int) + ((1 : Nat) : Int) ∨ x.toInt = (0 : Int) + ((2 : Nat) : Int) ∨ x.toInt = (0 : Int) + ((3 : Nat) : Int) ∨ x.toInt = (0 : Int) + ((4 : Nat) : Int) ∨ x.toInt = (0 : Int) + ((5 : Nat) : Int) ∨ x.toInt = (0 : Int) + ((6 : Nat) : Int) ∨ x.toInt = (0 : Int) + ((7 : Nat) : Int) ∨ x.toInt = (0 : Int) + ((8 : Nat) : Int) ∨ x.toInt = (0 : Int) + ((9 : Nat) : Int) ∨ x.toInt = (0 : Int) + ((10 : Nat) : Int) ∨ x.toInt = (0 : Int) + ((11 : Nat) : Int) ∨ x.toInt = (0 : Int) + ((12 : Nat) : Int) ∨ x.toInt = (0 : Int) + ((13 : Nat) : Int) ∨ x.toInt = (0 : Int) + ((14 : Nat) : Int) ∨ x.toInt = (0 : Int) + ((15 : Nat) : Int) := by omega
theorem ySwC0_34 {x : Int32} (h : (0 : Int) ≤ x.toInt ∧ x.toInt ≤ (34 : Int)) : x.toInt = (0 : Int) + ((0 : Nat) : Int) ∨ x.toInt = (0 : Int) + ((1 : Nat) : Int) ∨ x.toInt = (0 : Int) + ((2 : Nat) : Int) ∨ x.toInt = (0 : Int) + ((3 : Nat) : Int) ∨ x.toInt = (0 : Int) + ((4 : Nat) : Int) ∨ x.toInt = (0 : Int) + ((5 : Nat) : Int) ∨ x.toInt = (0 : Int) + ((6 : Nat) : Int) ∨ x.toInt = (0 : Int) + ((7 : Nat) : Int) ∨ x.toInt = (0 : Int) + ((8 : Nat) : Int) ∨ x.toInt = (0 : Int) + ((9 : Nat) : Int) ∨ x.toInt = (0 : Int) + ((10 : Nat) : Int) ∨ x.toInt = (0 : Int) + ((11 : Nat) : Int) ∨ x.toInt = (0 : Int) + ((12 : Nat) : Int) ∨ x.toInt = (0 : Int) + ((13 : Nat) : Int) ∨ x.toInt = (0 : Int) + ((14 : Nat) : Int) ∨ x.toInt = (0 : Int) + ((15 : Nat) : Int) ∨ x.toInt = (0 : Int) + ((16 : Nat) : Int) ∨ x.toInt = (0 : Int) + ((17 : Nat) : Int) ∨ x.toInt = (0 : Int) + ((18 : Nat) : Int) ∨ x.toInt = (0 : Int) + ((19 : Nat) : Int) ∨ x.toInt = (0 : Int) + ((20 : Nat) : Int) ∨ x.toInt = (0 : Int) + ((21 : Nat) : Int) ∨ x.toInt = (0 : Int) + ((22 : Nat) : Int) ∨ x.toInt = (0 : Int) + ((23 : Nat) : Int) ∨ x.toInt = (0 : Int) + ((24 : Nat) : Int) ∨ x.toInt = (0 : Int) + ((25 : Nat) : Int) ∨ x.toInt = (0 : Int) + ((26 : Nat) : Int) ∨ x.toInt = (0 : Int) + ((27 : Nat) : Int) ∨ x.toInt = (0 : Int) + ((28 : Nat) : Int) ∨ x.toInt = (0 : Int) + ((29 : Nat) : Int) ∨ x.toInt = (0 : Int) + ((30 : Nat) : Int) ∨ x.toInt = (0 : Int) + ((31 : Nat) : Int) ∨ x.toInt = (0 : Int) + ((32 : Nat) : Int) ∨ x.toInt = (0 : Int) + ((33 : Nat) : Int) ∨ x.toInt = (0 : Int) + ((34 : Nat) : Int) := by omega
theorem y_icmp_geT {M : xM} {code code' rest : List xI} {ls : yLs} {r : List Value} {w : yS} {c s : Nat} {Q : yQ} {p len : Nat} {an : List Nat} {off : Int} {t : Nat} {x y : Int32} (hk : code = (p, len, .if_icmp .ge off, t :: an) :: rest) (hj : xat M.2.2.2.2.1 t = code') (hb : xcmp .ge x y = true) (k : yW M code' ls r w c s Q) : yW M code ls (.int y :: .int x :: r) w c s Q := by
  subst hk; subst hj
  exact y_step0 (fun l hl => ⟨l, hl, by show xfork M (xcmp .ge x y) t rest l r (yH w) = _; rw [hb]; rfl⟩) k
theorem y_icmp_geF {M : xM} {code rest : List xI} {ls : yLs} {r : List Value} {w : yS} {c s : Nat} {Q : yQ} {p len : Nat} {an : List Nat} {off : Int} {t : Nat} {x y : Int32} (hk : code = (p, len, .if_icmp .ge off, t :: an) :: rest) (hb : xcmp .ge x y = false) (k : yW M rest ls r w c s Q) : yW M code ls (.int y :: .int x :: r) w c s Q := by
  subst hk
  exact y_step0 (fun l hl => ⟨l, hl, by show xfork M (xcmp .ge x y) t rest l r (yH w) = _; rw [hb]; rfl⟩) k
theorem y_icmp_leT {M : xM} {code code' rest : List xI} {ls : yLs} {r : List Value} {w : yS} {c s : Nat} {Q : yQ} {p len : Nat} {an : List Nat} {off : Int} {t : Nat} {x y : Int32} (hk : code = (p, len, .if_icmp .le off, t :: an) :: rest) (hj : xat M.2.2.2.2.1 t = code') (hb : xcmp .le x y = true) (k : yW M code' ls r w c s Q) : yW M code ls (.int y :: .int x :: r) w c s Q := by
  subst hk; subst hj
  exact y_step0 (fun l hl => ⟨l, hl, by show xfork M (xcmp .le x y) t rest l r (yH w) = _; rw [hb]; rfl⟩) k
theorem y_icmp_eqT {M : xM} {code code' rest : List xI} {ls : yLs} {r : List Value} {w : yS} {c s : Nat} {Q : yQ} {p len : Nat} {an : List Nat} {off : Int} {t : Nat} {x y : Int32} (hk : code = (p, len, .if_icmp .eq off, t :: an) :: rest) (hj : xat M.2.2.2.2.1 t = code') (hb : xcmp .eq x y = true) (k : yW M code' ls r w c s Q) : yW M code ls (.int y :: .int x :: r) w c s Q := by
  subst hk; subst hj
  exact y_step0 (fun l hl => ⟨l, hl, by show xfork M (xcmp .eq x y) t rest l r (yH w) = _; rw [hb]; rfl⟩) k
theorem y_icmp_neF {M : xM} {code rest : List xI} {ls : yLs} {r : List Value} {w : yS} {c s : Nat} {Q : yQ} {p len : Nat} {an : List Nat} {off : Int} {t : Nat} {x y : Int32} (hk : code = (p, len, .if_icmp .ne off, t :: an) :: rest) (hb : xcmp .ne x y = false) (k : yW M rest ls r w c s Q) : yW M code ls (.int y :: .int x :: r) w c s Q := by
  subst hk
  exact y_step0 (fun l hl => ⟨l, hl, by show xfork M (xcmp .ne x y) t rest l r (yH w) = _; rw [hb]; rfl⟩) k
theorem y_ldcI {M : xM} {code rest : List xI} {ls : yLs} {st : List Value} {w : yS} {c s : Nat} {Q : yQ} {p len : Nat} {i z : Nat} {v : Int} (hk : code = (p, len, .ldc i, [z]) :: rest) (h0 : Nat.beq z 300 = false) (h1 : Nat.beq z 301 = false) (hz : Int32.ofNat z = Int32.ofInt v) (k : yW M rest ls (.int (Int32.ofInt v) :: st) w c s Q) : yW M code ls st w c s Q := y_ldc hk h0 h1 (hz ▸ k)
theorem y_ldc_wI {M : xM} {code rest : List xI} {ls : yLs} {st : List Value} {w : yS} {c s : Nat} {Q : yQ} {p len : Nat} {i z : Nat} {v : Int} (hk : code = (p, len, .ldc_w i, [z]) :: rest) (h0 : Nat.beq z 300 = false) (h1 : Nat.beq z 301 = false) (hz : Int32.ofNat z = Int32.ofInt v) (k : yW M rest ls (.int (Int32.ofInt v) :: st) w c s Q) : yW M code ls st w c s Q := y_ldc_w hk h0 h1 (hz ▸ k)
theorem y_getIv {M : xM} {code rest : List xI} {ls : yLs} {r : List Value} {c s : Nat} {Q : yQ} {p len n a : Nat} {tg : Nat → yT} {I : Nat → Nat → Int32} {R : Nat → Nat → Value} {i ci k z : Nat} {an : List Nat} {v : Int32} (hk : code = (p, len, .getfield i, ci :: k :: an) :: rest) (ht : tg a = (ci + 4, z)) (ha : a < n) (hN : Nat.blt k (yN ci) = true) (hf : yI ci k = true) (hv : I a k = v) (kk : yW M rest ls (.int v :: r) (n, tg, I, R) c s Q) (hc : (Nat.beq ci 0 && Nat.ble 2 k) = false := by rfl) : yW M code ls (.ref a :: r) (n, tg, I, R) c s Q := y_getI hk ht ha hN hf (hv ▸ kk) hc
theorem y_sw {M : xM} {code rest : List xI} {ls : yLs} {r : List Value} {w : yS} {c s : Nat} {Q : yQ} {p len : Nat} {an : List Nat} {dflt lo hi : Int} {offs : Array Int} {x : Int32} (hk : code = (p, len, .tableswitch dflt lo hi offs, an) :: rest) (k1 : x.toInt < lo ∨ hi < x.toInt → yW M code ls (.int x :: r) w c s Q) (k2 : lo ≤ x.toInt ∧ x.toInt ≤ hi → yW M code ls (.int x :: r) w c s Q) : yW M code ls (.int x :: r) w c s Q := by
  by_cases h : x.toInt < lo ∨ hi < x.toInt
  · exact k1 h
  · exact k2 (by omega)
theorem bmod32 {z : Int} (h1 : -2147483648 ≤ z) (h2 : z < 2147483648) : z.bmod (2 ^ 32) = z := by
  rw [Int.bmod_eq_of_le] <;> omega
theorem yadd {x y : Int32} (h1 : -2147483648 ≤ x.toInt + y.toInt) (h2 : x.toInt + y.toInt < 2147483648) : (x + y).toInt = x.toInt + y.toInt := by
  rw [Int32.toInt_add]; exact bmod32 h1 h2
theorem ysub {x y : Int32} (h1 : -2147483648 ≤ x.toInt - y.toInt) (h2 : x.toInt - y.toInt < 2147483648) : (x - y).toInt = x.toInt - y.toInt := by
  rw [Int32.toInt_sub]; exact bmod32 h1 h2
theorem ymul {x y : Int32} (h1 : -2147483648 ≤ x.toInt * y.toInt) (h2 : x.toInt * y.toInt < 2147483648) : (x * y).toInt = x.toInt * y.toInt := by
  rw [Int32.toInt_mul]; exact bmod32 h1 h2
theorem yinc {x : Int32} (h : x.toInt < 2147483647) : (x + Int32.ofInt 1).toInt = x.toInt + 1 := by
  have h0 := x.le_toInt
  have h1 : (Int32.ofInt 1).toInt = 1 := by decide
  rw [yadd] <;> rw [h1] <;> omega
theorem yext {x y : Int32} (h : x.toInt = y.toInt) : x = y := Int32.toInt_inj.mp h
theorem y_bip {M : xM} {code rest : List xI} {ls : yLs} {st : List Value} {w : yS} {c s : Nat} {Q : yQ} {p len : Nat} {an : List Nat} {z : Int} (hk : code = (p, len, .bipush z, an) :: rest) (hz : (Int8.ofInt z).toInt32 = Int32.ofInt z) (k : yW M rest ls (.int (Int32.ofInt z) :: st) w c s Q) : yW M code ls st w c s Q := y_bipush hk (hz ▸ k)
theorem y_sip {M : xM} {code rest : List xI} {ls : yLs} {st : List Value} {w : yS} {c s : Nat} {Q : yQ} {p len : Nat} {an : List Nat} {z : Int} (hk : code = (p, len, .sipush z, an) :: rest) (hz : (Int16.ofInt z).toInt32 = Int32.ofInt z) (k : yW M rest ls (.int (Int32.ofInt z) :: st) w c s Q) : yW M code ls st w c s Q := y_sipush hk (hz ▸ k)
