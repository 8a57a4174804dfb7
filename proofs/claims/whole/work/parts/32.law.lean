theorem zl_1308 : Cond.classLink RL 7 RX11 ∈ zt := zt_at 150 (by decide +kernel)
theorem zl_1309 : Cond.instantiable RX11 7 ∈ zt := zt_at 151 (by decide +kernel)
theorem zl_1310 : Cond.code yX11_init cX11_init 1 (none) ∈ zt := zt_at 154 (by decide +kernel)
theorem zvs_X11_init : zvS yX11_init cX11_init 1 (none) 0 := ⟨zl_1310, zl_118, ⟨by decide +kernel, by decide +kernel, by decide +kernel⟩, by decide⟩
theorem zl_1311 : Cond.methodLink RL 9 yX11_init ∈ zt := zt_at 152 (by decide +kernel)
theorem zl_1312 : Cond.instanceMethod yX11_init ∈ zt := zt_at 153 (by decide +kernel)
theorem zl_1313 : Cond.classLink RL 10 RX12 ∈ zt := zt_at 1335 (by decide +kernel)
theorem zl_1314 : Cond.instantiable RX12 54 ∈ zt := zt_at 1336 (by decide +kernel)
theorem zl_1315 : Cond.code yX12_init cX12_init 1 (none) ∈ zt := zt_at 1339 (by decide +kernel)
theorem zvs_X12_init : zvS yX12_init cX12_init 1 (none) 0 := ⟨zl_1315, zl_893, ⟨by decide +kernel, by decide +kernel, by decide +kernel⟩, by decide⟩
theorem zl_1316 : Cond.methodLink RL 12 yX12_init ∈ zt := zt_at 1337 (by decide +kernel)
theorem zl_1317 : Cond.instanceMethod yX12_init ∈ zt := zt_at 1338 (by decide +kernel)
theorem zl_1318 : Cond.code yX11_feed cX11_feed 6 (some .int) ∈ zt := zt_at 510 (by decide +kernel)
theorem zvs_X11_feed : zvS yX11_feed cX11_feed 6 (some .int) 5 := ⟨zl_1318, zl_118, ⟨by decide +kernel, by decide +kernel, by decide +kernel⟩, by decide⟩
theorem zl_1319 : Cond.methodLink RL 13 yX11_feed ∈ zt := zt_at 507 (by decide +kernel)
theorem zl_1320 : Cond.instanceMethod yX11_feed ∈ zt := zt_at 508 (by decide +kernel)
theorem zl_1321 : Cond.selects RX11 yX11_feed yX11_feed ∈ zt := zt_at 509 (by decide +kernel)
theorem zl_1322 : Cond.code yX12_feed cX12_feed 6 (some .int) ∈ zt := zt_at 1508 (by decide +kernel)
theorem zvs_X12_feed : zvS yX12_feed cX12_feed 6 (some .int) 5 := ⟨zl_1322, zl_893, ⟨by decide +kernel, by decide +kernel, by decide +kernel⟩, by decide⟩
theorem zl_1323 : Cond.methodLink RL 17 yX12_feed ∈ zt := zt_at 1505 (by decide +kernel)
theorem zl_1324 : Cond.instanceMethod yX12_feed ∈ zt := zt_at 1506 (by decide +kernel)
theorem zl_1325 : Cond.selects RX12 yX12_feed yX12_feed ∈ zt := zt_at 1507 (by decide +kernel)
theorem zl_1326 : Cond.code yX11_end cX11_end 2 (some .int) ∈ zt := zt_at 518 (by decide +kernel)
theorem zvs_X11_end : zvS yX11_end cX11_end 2 (some .int) 1 := ⟨zl_1326, zl_118, ⟨by decide +kernel, by decide +kernel, by decide +kernel⟩, by decide⟩
theorem zl_1327 : Cond.methodLink RL 18 yX11_end ∈ zt := zt_at 515 (by decide +kernel)
theorem zl_1328 : Cond.instanceMethod yX11_end ∈ zt := zt_at 516 (by decide +kernel)
theorem zl_1329 : Cond.selects RX11 yX11_end yX11_end ∈ zt := zt_at 517 (by decide +kernel)
theorem zl_1330 : Cond.code yX12_end cX12_end 2 (some .int) ∈ zt := zt_at 1516 (by decide +kernel)
theorem zvs_X12_end : zvS yX12_end cX12_end 2 (some .int) 1 := ⟨zl_1330, zl_893, ⟨by decide +kernel, by decide +kernel, by decide +kernel⟩, by decide⟩
theorem zl_1331 : Cond.methodLink RL 22 yX12_end ∈ zt := zt_at 1513 (by decide +kernel)
theorem zl_1332 : Cond.instanceMethod yX12_end ∈ zt := zt_at 1514 (by decide +kernel)
theorem zl_1333 : Cond.selects RX12 yX12_end yX12_end ∈ zt := zt_at 1515 (by decide +kernel)
theorem zl_1334 : Cond.code yX11_text cX11_text 5 (some .int) ∈ zt := zt_at 522 (by decide +kernel)
theorem zvs_X11_text : zvS yX11_text cX11_text 5 (some .int) 2 := ⟨zl_1334, zl_118, ⟨by decide +kernel, by decide +kernel, by decide +kernel⟩, by decide⟩
theorem zl_1335 : Cond.methodLink RL 23 yX11_text ∈ zt := zt_at 519 (by decide +kernel)
theorem zl_1336 : Cond.instanceMethod yX11_text ∈ zt := zt_at 520 (by decide +kernel)
theorem zl_1337 : Cond.selects RX11 yX11_text yX11_text ∈ zt := zt_at 521 (by decide +kernel)
theorem zl_1338 : Cond.code yX12_text cX12_text 4 (some .int) ∈ zt := zt_at 1523 (by decide +kernel)
theorem zvs_X12_text : zvS yX12_text cX12_text 4 (some .int) 2 := ⟨zl_1338, zl_893, ⟨by decide +kernel, by decide +kernel, by decide +kernel⟩, by decide⟩
theorem zl_1339 : Cond.methodLink RL 27 yX12_text ∈ zt := zt_at 1520 (by decide +kernel)
theorem zl_1340 : Cond.instanceMethod yX12_text ∈ zt := zt_at 1521 (by decide +kernel)
theorem zl_1341 : Cond.selects RX12 yX12_text yX12_text ∈ zt := zt_at 1522 (by decide +kernel)
theorem zl_1342 : Cond.code yX11_fault cX11_fault 2 (some .int) ∈ zt := zt_at 760 (by decide +kernel)
theorem zvs_X11_fault : zvS yX11_fault cX11_fault 2 (some .int) 1 := ⟨zl_1342, zl_118, ⟨by decide +kernel, by decide +kernel, by decide +kernel⟩, by decide⟩
theorem zl_1343 : Cond.methodLink RL 28 yX11_fault ∈ zt := zt_at 757 (by decide +kernel)
theorem zl_1344 : Cond.instanceMethod yX11_fault ∈ zt := zt_at 758 (by decide +kernel)
theorem zl_1345 : Cond.selects RX11 yX11_fault yX11_fault ∈ zt := zt_at 759 (by decide +kernel)
theorem zl_1346 : Cond.code yX12_fault cX12_fault 2 (some .int) ∈ zt := zt_at 1638 (by decide +kernel)
theorem zvs_X12_fault : zvS yX12_fault cX12_fault 2 (some .int) 1 := ⟨zl_1346, zl_893, ⟨by decide +kernel, by decide +kernel, by decide +kernel⟩, by decide⟩
theorem zl_1347 : Cond.methodLink RL 31 yX12_fault ∈ zt := zt_at 1635 (by decide +kernel)
theorem zl_1348 : Cond.instanceMethod yX12_fault ∈ zt := zt_at 1636 (by decide +kernel)
theorem zl_1349 : Cond.selects RX12 yX12_fault yX12_fault ∈ zt := zt_at 1637 (by decide +kernel)
theorem zl_1350 : Cond.code yX11_valley cX11_valley 4 (some .int) ∈ zt := zt_at 764 (by decide +kernel)
theorem zvs_X11_valley : zvS yX11_valley cX11_valley 4 (some .int) 2 := ⟨zl_1350, zl_118, ⟨by decide +kernel, by decide +kernel, by decide +kernel⟩, by decide⟩
theorem zl_1351 : Cond.methodLink RL 32 yX11_valley ∈ zt := zt_at 761 (by decide +kernel)
theorem zl_1352 : Cond.instanceMethod yX11_valley ∈ zt := zt_at 762 (by decide +kernel)
theorem zl_1353 : Cond.selects RX11 yX11_valley yX11_valley ∈ zt := zt_at 763 (by decide +kernel)
theorem zl_1354 : Cond.code yX12_valley cX12_valley 5 (some .int) ∈ zt := zt_at 1642 (by decide +kernel)
theorem zvs_X12_valley : zvS yX12_valley cX12_valley 5 (some .int) 2 := ⟨zl_1354, zl_893, ⟨by decide +kernel, by decide +kernel, by decide +kernel⟩, by decide⟩
theorem zl_1355 : Cond.methodLink RL 35 yX12_valley ∈ zt := zt_at 1639 (by decide +kernel)
theorem zl_1356 : Cond.instanceMethod yX12_valley ∈ zt := zt_at 1640 (by decide +kernel)
theorem zl_1357 : Cond.selects RX12 yX12_valley yX12_valley ∈ zt := zt_at 1641 (by decide +kernel)
theorem zl_1358 : Cond.code yX11_heard cX11_heard 9 (some .int) ∈ zt := zt_at 793 (by decide +kernel)
theorem zvs_X11_heard : zvS yX11_heard cX11_heard 9 (some .int) 7 := ⟨zl_1358, zl_118, ⟨by decide +kernel, by decide +kernel, by decide +kernel⟩, by decide⟩
theorem zl_1359 : Cond.methodLink RL 36 yX11_heard ∈ zt := zt_at 790 (by decide +kernel)
theorem zl_1360 : Cond.instanceMethod yX11_heard ∈ zt := zt_at 791 (by decide +kernel)
theorem zl_1361 : Cond.selects RX11 yX11_heard yX11_heard ∈ zt := zt_at 792 (by decide +kernel)
theorem zl_1362 : Cond.code yX12_heard cX12_heard 8 (some .int) ∈ zt := zt_at 1658 (by decide +kernel)
theorem zvs_X12_heard : zvS yX12_heard cX12_heard 8 (some .int) 7 := ⟨zl_1362, zl_893, ⟨by decide +kernel, by decide +kernel, by decide +kernel⟩, by decide⟩
theorem zl_1363 : Cond.methodLink RL 40 yX12_heard ∈ zt := zt_at 1655 (by decide +kernel)
theorem zl_1364 : Cond.instanceMethod yX12_heard ∈ zt := zt_at 1656 (by decide +kernel)
theorem zl_1365 : Cond.selects RX12 yX12_heard yX12_heard ∈ zt := zt_at 1657 (by decide +kernel)
theorem zl_1366 : Cond.code yX11_gives cX11_gives 6 (some .int) ∈ zt := zt_at 826 (by decide +kernel)
theorem zvs_X11_gives : zvS yX11_gives cX11_gives 6 (some .int) 4 := ⟨zl_1366, zl_118, ⟨by decide +kernel, by decide +kernel, by decide +kernel⟩, by decide⟩
theorem zl_1367 : Cond.methodLink RL 41 yX11_gives ∈ zt := zt_at 823 (by decide +kernel)
theorem zl_1368 : Cond.instanceMethod yX11_gives ∈ zt := zt_at 824 (by decide +kernel)
theorem zl_1369 : Cond.selects RX11 yX11_gives yX11_gives ∈ zt := zt_at 825 (by decide +kernel)
theorem zl_1370 : Cond.code yX12_gives cX12_gives 5 (some .int) ∈ zt := zt_at 1695 (by decide +kernel)
theorem zvs_X12_gives : zvS yX12_gives cX12_gives 5 (some .int) 4 := ⟨zl_1370, zl_893, ⟨by decide +kernel, by decide +kernel, by decide +kernel⟩, by decide⟩
theorem zl_1371 : Cond.methodLink RL 45 yX12_gives ∈ zt := zt_at 1692 (by decide +kernel)
theorem zl_1372 : Cond.instanceMethod yX12_gives ∈ zt := zt_at 1693 (by decide +kernel)
theorem zl_1373 : Cond.selects RX12 yX12_gives yX12_gives ∈ zt := zt_at 1694 (by decide +kernel)
theorem zl_1374 : Cond.code yX11_deed cX11_deed 5 (some .int) ∈ zt := zt_at 834 (by decide +kernel)
theorem zvs_X11_deed : zvS yX11_deed cX11_deed 5 (some .int) 3 := ⟨zl_1374, zl_118, ⟨by decide +kernel, by decide +kernel, by decide +kernel⟩, by decide⟩
theorem zl_1375 : Cond.methodLink RL 46 yX11_deed ∈ zt := zt_at 831 (by decide +kernel)
theorem zl_1376 : Cond.instanceMethod yX11_deed ∈ zt := zt_at 832 (by decide +kernel)
theorem zl_1377 : Cond.selects RX11 yX11_deed yX11_deed ∈ zt := zt_at 833 (by decide +kernel)
theorem zl_1378 : Cond.code yX12_deed cX12_deed 4 (some .int) ∈ zt := zt_at 1703 (by decide +kernel)
theorem zvs_X12_deed : zvS yX12_deed cX12_deed 4 (some .int) 3 := ⟨zl_1378, zl_893, ⟨by decide +kernel, by decide +kernel, by decide +kernel⟩, by decide⟩
theorem zl_1379 : Cond.methodLink RL 50 yX12_deed ∈ zt := zt_at 1700 (by decide +kernel)
theorem zl_1380 : Cond.instanceMethod yX12_deed ∈ zt := zt_at 1701 (by decide +kernel)
theorem zl_1381 : Cond.selects RX12 yX12_deed yX12_deed ∈ zt := zt_at 1702 (by decide +kernel)
theorem zl_1382 : Cond.code yX11_stop cX11_stop 5 (some .int) ∈ zt := zt_at 846 (by decide +kernel)
theorem zvs_X11_stop : zvS yX11_stop cX11_stop 5 (some .int) 2 := ⟨zl_1382, zl_118, ⟨by decide +kernel, by decide +kernel, by decide +kernel⟩, by decide⟩
theorem zl_1383 : Cond.methodLink RL 51 yX11_stop ∈ zt := zt_at 843 (by decide +kernel)
theorem zl_1384 : Cond.instanceMethod yX11_stop ∈ zt := zt_at 844 (by decide +kernel)
theorem zl_1385 : Cond.selects RX11 yX11_stop yX11_stop ∈ zt := zt_at 845 (by decide +kernel)
theorem zl_1386 : Cond.code yX12_stop cX12_stop 3 (some .int) ∈ zt := zt_at 1719 (by decide +kernel)
theorem zvs_X12_stop : zvS yX12_stop cX12_stop 3 (some .int) 2 := ⟨zl_1386, zl_893, ⟨by decide +kernel, by decide +kernel, by decide +kernel⟩, by decide⟩
theorem zl_1387 : Cond.methodLink RL 54 yX12_stop ∈ zt := zt_at 1716 (by decide +kernel)
theorem zl_1388 : Cond.instanceMethod yX12_stop ∈ zt := zt_at 1717 (by decide +kernel)
theorem zl_1389 : Cond.selects RX12 yX12_stop yX12_stop ∈ zt := zt_at 1718 (by decide +kernel)
theorem zl_1390 : Cond.code yX11_state cX11_state 7 (some .int) ∈ zt := zt_at 886 (by decide +kernel)
theorem zvs_X11_state : zvS yX11_state cX11_state 7 (some .int) 4 := ⟨zl_1390, zl_118, ⟨by decide +kernel, by decide +kernel, by decide +kernel⟩, by decide⟩
theorem zl_1391 : Cond.methodLink RL 55 yX11_state ∈ zt := zt_at 883 (by decide +kernel)
theorem zl_1392 : Cond.instanceMethod yX11_state ∈ zt := zt_at 884 (by decide +kernel)
theorem zl_1393 : Cond.selects RX11 yX11_state yX11_state ∈ zt := zt_at 885 (by decide +kernel)
theorem zl_1394 : Cond.code yX12_state cX12_state 5 (some .int) ∈ zt := zt_at 1755 (by decide +kernel)
theorem zvs_X12_state : zvS yX12_state cX12_state 5 (some .int) 4 := ⟨zl_1394, zl_893, ⟨by decide +kernel, by decide +kernel, by decide +kernel⟩, by decide⟩
theorem zl_1395 : Cond.methodLink RL 58 yX12_state ∈ zt := zt_at 1752 (by decide +kernel)
theorem zl_1396 : Cond.instanceMethod yX12_state ∈ zt := zt_at 1753 (by decide +kernel)
theorem zl_1397 : Cond.selects RX12 yX12_state yX12_state ∈ zt := zt_at 1754 (by decide +kernel)
theorem zl_1398 : Cond.code yX11_hush cX11_hush 7 (some .int) ∈ zt := zt_at 928 (by decide +kernel)
theorem zvs_X11_hush : zvS yX11_hush cX11_hush 7 (some .int) 5 := ⟨zl_1398, zl_118, ⟨by decide +kernel, by decide +kernel, by decide +kernel⟩, by decide⟩
theorem zl_1399 : Cond.methodLink RL 59 yX11_hush ∈ zt := zt_at 925 (by decide +kernel)
theorem zl_1400 : Cond.instanceMethod yX11_hush ∈ zt := zt_at 926 (by decide +kernel)
theorem zl_1401 : Cond.selects RX11 yX11_hush yX11_hush ∈ zt := zt_at 927 (by decide +kernel)
theorem zl_1402 : Cond.code yX12_hush cX12_hush 10 (some .int) ∈ zt := zt_at 1775 (by decide +kernel)
theorem zvs_X12_hush : zvS yX12_hush cX12_hush 10 (some .int) 5 := ⟨zl_1402, zl_893, ⟨by decide +kernel, by decide +kernel, by decide +kernel⟩, by decide⟩
theorem zl_1403 : Cond.methodLink RL 63 yX12_hush ∈ zt := zt_at 1772 (by decide +kernel)
theorem zl_1404 : Cond.instanceMethod yX12_hush ∈ zt := zt_at 1773 (by decide +kernel)
theorem zl_1405 : Cond.selects RX12 yX12_hush yX12_hush ∈ zt := zt_at 1774 (by decide +kernel)
theorem zl_1406 : Cond.code yX11_crowd cX11_crowd 7 (some .int) ∈ zt := zt_at 945 (by decide +kernel)
theorem zvs_X11_crowd : zvS yX11_crowd cX11_crowd 7 (some .int) 4 := ⟨zl_1406, zl_118, ⟨by decide +kernel, by decide +kernel, by decide +kernel⟩, by decide⟩
theorem zl_1407 : Cond.methodLink RL 64 yX11_crowd ∈ zt := zt_at 942 (by decide +kernel)
theorem zl_1408 : Cond.instanceMethod yX11_crowd ∈ zt := zt_at 943 (by decide +kernel)
theorem zl_1409 : Cond.selects RX11 yX11_crowd yX11_crowd ∈ zt := zt_at 944 (by decide +kernel)
theorem zl_1410 : Cond.code yX12_crowd cX12_crowd 11 (some .int) ∈ zt := zt_at 1790 (by decide +kernel)
theorem zvs_X12_crowd : zvS yX12_crowd cX12_crowd 11 (some .int) 4 := ⟨zl_1410, zl_893, ⟨by decide +kernel, by decide +kernel, by decide +kernel⟩, by decide⟩
theorem zl_1411 : Cond.methodLink RL 68 yX12_crowd ∈ zt := zt_at 1787 (by decide +kernel)
theorem zl_1412 : Cond.instanceMethod yX12_crowd ∈ zt := zt_at 1788 (by decide +kernel)
theorem zl_1413 : Cond.selects RX12 yX12_crowd yX12_crowd ∈ zt := zt_at 1789 (by decide +kernel)
theorem zl_1414 : Cond.code yX11_chain cX11_chain 5 (some .int) ∈ zt := zt_at 957 (by decide +kernel)
theorem zvs_X11_chain : zvS yX11_chain cX11_chain 5 (some .int) 3 := ⟨zl_1414, zl_118, ⟨by decide +kernel, by decide +kernel, by decide +kernel⟩, by decide⟩
theorem zl_1415 : Cond.methodLink RL 69 yX11_chain ∈ zt := zt_at 954 (by decide +kernel)
theorem zl_1416 : Cond.instanceMethod yX11_chain ∈ zt := zt_at 955 (by decide +kernel)
theorem zl_1417 : Cond.selects RX11 yX11_chain yX11_chain ∈ zt := zt_at 956 (by decide +kernel)
theorem zl_1418 : Cond.code yX12_chain cX12_chain 6 (some .int) ∈ zt := zt_at 1794 (by decide +kernel)
theorem zvs_X12_chain : zvS yX12_chain cX12_chain 6 (some .int) 3 := ⟨zl_1418, zl_893, ⟨by decide +kernel, by decide +kernel, by decide +kernel⟩, by decide⟩
theorem zl_1419 : Cond.methodLink RL 72 yX12_chain ∈ zt := zt_at 1791 (by decide +kernel)
theorem zl_1420 : Cond.instanceMethod yX12_chain ∈ zt := zt_at 1792 (by decide +kernel)
theorem zl_1421 : Cond.selects RX12 yX12_chain yX12_chain ∈ zt := zt_at 1793 (by decide +kernel)
theorem zl_1422 : Cond.code yX11_late cX11_late 5 (some .int) ∈ zt := zt_at 964 (by decide +kernel)
theorem zvs_X11_late : zvS yX11_late cX11_late 5 (some .int) 3 := ⟨zl_1422, zl_118, ⟨by decide +kernel, by decide +kernel, by decide +kernel⟩, by decide⟩
theorem zl_1423 : Cond.methodLink RL 73 yX11_late ∈ zt := zt_at 961 (by decide +kernel)
theorem zl_1424 : Cond.instanceMethod yX11_late ∈ zt := zt_at 962 (by decide +kernel)
theorem zl_1425 : Cond.selects RX11 yX11_late yX11_late ∈ zt := zt_at 963 (by decide +kernel)
theorem zl_1426 : Cond.code yX12_late cX12_late 4 (some .int) ∈ zt := zt_at 1798 (by decide +kernel)
theorem zvs_X12_late : zvS yX12_late cX12_late 4 (some .int) 3 := ⟨zl_1426, zl_893, ⟨by decide +kernel, by decide +kernel, by decide +kernel⟩, by decide⟩
theorem zl_1427 : Cond.methodLink RL 76 yX12_late ∈ zt := zt_at 1795 (by decide +kernel)
theorem zl_1428 : Cond.instanceMethod yX12_late ∈ zt := zt_at 1796 (by decide +kernel)
theorem zl_1429 : Cond.selects RX12 yX12_late yX12_late ∈ zt := zt_at 1797 (by decide +kernel)
theorem zl_1430 : Cond.code yX11_market cX11_market 4 (some .int) ∈ zt := zt_at 969 (by decide +kernel)
theorem zvs_X11_market : zvS yX11_market cX11_market 4 (some .int) 2 := ⟨zl_1430, zl_118, ⟨by decide +kernel, by decide +kernel, by decide +kernel⟩, by decide⟩
theorem zl_1431 : Cond.methodLink RL 77 yX11_market ∈ zt := zt_at 966 (by decide +kernel)
theorem zl_1432 : Cond.instanceMethod yX11_market ∈ zt := zt_at 967 (by decide +kernel)
theorem zl_1433 : Cond.selects RX11 yX11_market yX11_market ∈ zt := zt_at 968 (by decide +kernel)
theorem zl_1434 : Cond.code yX12_market cX12_market 9 (some .int) ∈ zt := zt_at 1802 (by decide +kernel)
theorem zvs_X12_market : zvS yX12_market cX12_market 9 (some .int) 2 := ⟨zl_1434, zl_893, ⟨by decide +kernel, by decide +kernel, by decide +kernel⟩, by decide⟩
theorem zl_1435 : Cond.methodLink RL 80 yX12_market ∈ zt := zt_at 1799 (by decide +kernel)
theorem zl_1436 : Cond.instanceMethod yX12_market ∈ zt := zt_at 1800 (by decide +kernel)
theorem zl_1437 : Cond.selects RX12 yX12_market yX12_market ∈ zt := zt_at 1801 (by decide +kernel)
theorem zl_1438 : Cond.code yX11_bargain cX11_bargain 6 (some .int) ∈ zt := zt_at 1002 (by decide +kernel)
theorem zvs_X11_bargain : zvS yX11_bargain cX11_bargain 6 (some .int) 4 := ⟨zl_1438, zl_118, ⟨by decide +kernel, by decide +kernel, by decide +kernel⟩, by decide⟩
theorem zl_1439 : Cond.methodLink RL 81 yX11_bargain ∈ zt := zt_at 999 (by decide +kernel)
theorem zl_1440 : Cond.instanceMethod yX11_bargain ∈ zt := zt_at 1000 (by decide +kernel)
theorem zl_1441 : Cond.selects RX11 yX11_bargain yX11_bargain ∈ zt := zt_at 1001 (by decide +kernel)
theorem zl_1442 : Cond.code yX12_bargain cX12_bargain 12 (some .int) ∈ zt := zt_at 1825 (by decide +kernel)
theorem zvs_X12_bargain : zvS yX12_bargain cX12_bargain 12 (some .int) 4 := ⟨zl_1442, zl_893, ⟨by decide +kernel, by decide +kernel, by decide +kernel⟩, by decide⟩
theorem zl_1443 : Cond.methodLink RL 84 yX12_bargain ∈ zt := zt_at 1822 (by decide +kernel)
theorem zl_1444 : Cond.instanceMethod yX12_bargain ∈ zt := zt_at 1823 (by decide +kernel)
theorem zl_1445 : Cond.selects RX12 yX12_bargain yX12_bargain ∈ zt := zt_at 1824 (by decide +kernel)
theorem zl_1446 : Cond.code yX11_talk cX11_talk 4 (some .int) ∈ zt := zt_at 1022 (by decide +kernel)
theorem zvs_X11_talk : zvS yX11_talk cX11_talk 4 (some .int) 2 := ⟨zl_1446, zl_118, ⟨by decide +kernel, by decide +kernel, by decide +kernel⟩, by decide⟩
theorem zl_1447 : Cond.methodLink RL 85 yX11_talk ∈ zt := zt_at 1019 (by decide +kernel)
theorem zl_1448 : Cond.instanceMethod yX11_talk ∈ zt := zt_at 1020 (by decide +kernel)
theorem zl_1449 : Cond.selects RX11 yX11_talk yX11_talk ∈ zt := zt_at 1021 (by decide +kernel)
theorem zl_1450 : Cond.code yX12_talk cX12_talk 3 (some .int) ∈ zt := zt_at 1836 (by decide +kernel)
theorem zvs_X12_talk : zvS yX12_talk cX12_talk 3 (some .int) 2 := ⟨zl_1450, zl_893, ⟨by decide +kernel, by decide +kernel, by decide +kernel⟩, by decide⟩
theorem zl_1451 : Cond.methodLink RL 88 yX12_talk ∈ zt := zt_at 1833 (by decide +kernel)
theorem zl_1452 : Cond.instanceMethod yX12_talk ∈ zt := zt_at 1834 (by decide +kernel)
theorem zl_1453 : Cond.selects RX12 yX12_talk yX12_talk ∈ zt := zt_at 1835 (by decide +kernel)
theorem zl_1454 : Cond.code yX11_lesson cX11_lesson 4 (some .int) ∈ zt := zt_at 1044 (by decide +kernel)
theorem zvs_X11_lesson : zvS yX11_lesson cX11_lesson 4 (some .int) 2 := ⟨zl_1454, zl_118, ⟨by decide +kernel, by decide +kernel, by decide +kernel⟩, by decide⟩
theorem zl_1455 : Cond.methodLink RL 89 yX11_lesson ∈ zt := zt_at 1041 (by decide +kernel)
theorem zl_1456 : Cond.instanceMethod yX11_lesson ∈ zt := zt_at 1042 (by decide +kernel)
theorem zl_1457 : Cond.selects RX11 yX11_lesson yX11_lesson ∈ zt := zt_at 1043 (by decide +kernel)
theorem zl_1458 : Cond.code yX12_lesson cX12_lesson 3 (some .int) ∈ zt := zt_at 1849 (by decide +kernel)
theorem zvs_X12_lesson : zvS yX12_lesson cX12_lesson 3 (some .int) 2 := ⟨zl_1458, zl_893, ⟨by decide +kernel, by decide +kernel, by decide +kernel⟩, by decide⟩
theorem zl_1459 : Cond.methodLink RL 92 yX12_lesson ∈ zt := zt_at 1846 (by decide +kernel)
theorem zl_1460 : Cond.instanceMethod yX12_lesson ∈ zt := zt_at 1847 (by decide +kernel)
theorem zl_1461 : Cond.selects RX12 yX12_lesson yX12_lesson ∈ zt := zt_at 1848 (by decide +kernel)
theorem zl_1462 : Cond.code yX11_rules cX11_rules 4 (some .int) ∈ zt := zt_at 1056 (by decide +kernel)
theorem zvs_X11_rules : zvS yX11_rules cX11_rules 4 (some .int) 2 := ⟨zl_1462, zl_118, ⟨by decide +kernel, by decide +kernel, by decide +kernel⟩, by decide⟩
theorem zl_1463 : Cond.methodLink RL 93 yX11_rules ∈ zt := zt_at 1053 (by decide +kernel)
theorem zl_1464 : Cond.instanceMethod yX11_rules ∈ zt := zt_at 1054 (by decide +kernel)
theorem zl_1465 : Cond.selects RX11 yX11_rules yX11_rules ∈ zt := zt_at 1055 (by decide +kernel)
theorem zl_1466 : Cond.code yX12_rules cX12_rules 7 (some .int) ∈ zt := zt_at 1861 (by decide +kernel)
theorem zvs_X12_rules : zvS yX12_rules cX12_rules 7 (some .int) 2 := ⟨zl_1466, zl_893, ⟨by decide +kernel, by decide +kernel, by decide +kernel⟩, by decide⟩
theorem zl_1467 : Cond.methodLink RL 96 yX12_rules ∈ zt := zt_at 1858 (by decide +kernel)
theorem zl_1468 : Cond.instanceMethod yX12_rules ∈ zt := zt_at 1859 (by decide +kernel)
theorem zl_1469 : Cond.selects RX12 yX12_rules yX12_rules ∈ zt := zt_at 1860 (by decide +kernel)
theorem zl_1470 : Cond.code yX11_fact cX11_fact 5 (some .int) ∈ zt := zt_at 1094 (by decide +kernel)
theorem zvs_X11_fact : zvS yX11_fact cX11_fact 5 (some .int) 3 := ⟨zl_1470, zl_118, ⟨by decide +kernel, by decide +kernel, by decide +kernel⟩, by decide⟩
theorem zl_1471 : Cond.methodLink RL 97 yX11_fact ∈ zt := zt_at 1091 (by decide +kernel)
theorem zl_1472 : Cond.instanceMethod yX11_fact ∈ zt := zt_at 1092 (by decide +kernel)
theorem zl_1473 : Cond.selects RX11 yX11_fact yX11_fact ∈ zt := zt_at 1093 (by decide +kernel)
theorem zl_1474 : Cond.code yX12_fact cX12_fact 4 (some .int) ∈ zt := zt_at 1888 (by decide +kernel)
theorem zvs_X12_fact : zvS yX12_fact cX12_fact 4 (some .int) 3 := ⟨zl_1474, zl_893, ⟨by decide +kernel, by decide +kernel, by decide +kernel⟩, by decide⟩
theorem zl_1475 : Cond.methodLink RL 100 yX12_fact ∈ zt := zt_at 1885 (by decide +kernel)
theorem zl_1476 : Cond.instanceMethod yX12_fact ∈ zt := zt_at 1886 (by decide +kernel)
theorem zl_1477 : Cond.selects RX12 yX12_fact yX12_fact ∈ zt := zt_at 1887 (by decide +kernel)
theorem zl_1478 : Cond.code yX11_said cX11_said 6 (some .int) ∈ zt := zt_at 1106 (by decide +kernel)
theorem zvs_X11_said : zvS yX11_said cX11_said 6 (some .int) 3 := ⟨zl_1478, zl_118, ⟨by decide +kernel, by decide +kernel, by decide +kernel⟩, by decide⟩
theorem zl_1479 : Cond.methodLink RL 101 yX11_said ∈ zt := zt_at 1103 (by decide +kernel)
theorem zl_1480 : Cond.instanceMethod yX11_said ∈ zt := zt_at 1104 (by decide +kernel)
theorem zl_1481 : Cond.selects RX11 yX11_said yX11_said ∈ zt := zt_at 1105 (by decide +kernel)
theorem zl_1482 : Cond.code yX12_said cX12_said 4 (some .int) ∈ zt := zt_at 1904 (by decide +kernel)
theorem zvs_X12_said : zvS yX12_said cX12_said 4 (some .int) 3 := ⟨zl_1482, zl_893, ⟨by decide +kernel, by decide +kernel, by decide +kernel⟩, by decide⟩
theorem zl_1483 : Cond.methodLink RL 104 yX12_said ∈ zt := zt_at 1901 (by decide +kernel)
theorem zl_1484 : Cond.instanceMethod yX12_said ∈ zt := zt_at 1902 (by decide +kernel)
theorem zl_1485 : Cond.selects RX12 yX12_said yX12_said ∈ zt := zt_at 1903 (by decide +kernel)
theorem zl_1486 : Cond.code yX11_spot cX11_spot 6 (some .int) ∈ zt := zt_at 1140 (by decide +kernel)
theorem zvs_X11_spot : zvS yX11_spot cX11_spot 6 (some .int) 3 := ⟨zl_1486, zl_118, ⟨by decide +kernel, by decide +kernel, by decide +kernel⟩, by decide⟩
theorem zl_1487 : Cond.methodLink RL 105 yX11_spot ∈ zt := zt_at 1137 (by decide +kernel)
theorem zl_1488 : Cond.instanceMethod yX11_spot ∈ zt := zt_at 1138 (by decide +kernel)
theorem zl_1489 : Cond.selects RX11 yX11_spot yX11_spot ∈ zt := zt_at 1139 (by decide +kernel)
theorem zl_1490 : Cond.code yX12_spot cX12_spot 7 (some .int) ∈ zt := zt_at 1920 (by decide +kernel)
theorem zvs_X12_spot : zvS yX12_spot cX12_spot 7 (some .int) 3 := ⟨zl_1490, zl_893, ⟨by decide +kernel, by decide +kernel, by decide +kernel⟩, by decide⟩
theorem zl_1491 : Cond.methodLink RL 109 yX12_spot ∈ zt := zt_at 1917 (by decide +kernel)
theorem zl_1492 : Cond.instanceMethod yX12_spot ∈ zt := zt_at 1918 (by decide +kernel)
theorem zl_1493 : Cond.selects RX12 yX12_spot yX12_spot ∈ zt := zt_at 1919 (by decide +kernel)
theorem zl_1494 : Cond.code yX11_drawn cX11_drawn 6 (some .int) ∈ zt := zt_at 1170 (by decide +kernel)
theorem zvs_X11_drawn : zvS yX11_drawn cX11_drawn 6 (some .int) 4 := ⟨zl_1494, zl_118, ⟨by decide +kernel, by decide +kernel, by decide +kernel⟩, by decide⟩
theorem zl_1495 : Cond.methodLink RL 110 yX11_drawn ∈ zt := zt_at 1167 (by decide +kernel)
theorem zl_1496 : Cond.instanceMethod yX11_drawn ∈ zt := zt_at 1168 (by decide +kernel)
theorem zl_1497 : Cond.selects RX11 yX11_drawn yX11_drawn ∈ zt := zt_at 1169 (by decide +kernel)
theorem zl_1498 : Cond.code yX12_drawn cX12_drawn 6 (some .int) ∈ zt := zt_at 1928 (by decide +kernel)
theorem zvs_X12_drawn : zvS yX12_drawn cX12_drawn 6 (some .int) 4 := ⟨zl_1498, zl_893, ⟨by decide +kernel, by decide +kernel, by decide +kernel⟩, by decide⟩
theorem zl_1499 : Cond.methodLink RL 113 yX12_drawn ∈ zt := zt_at 1925 (by decide +kernel)
theorem zl_1500 : Cond.instanceMethod yX12_drawn ∈ zt := zt_at 1926 (by decide +kernel)
theorem zl_1501 : Cond.selects RX12 yX12_drawn yX12_drawn ∈ zt := zt_at 1927 (by decide +kernel)
theorem zl_1502 : Cond.code yX11_rings cX11_rings 4 (some .int) ∈ zt := zt_at 1185 (by decide +kernel)
theorem zvs_X11_rings : zvS yX11_rings cX11_rings 4 (some .int) 2 := ⟨zl_1502, zl_118, ⟨by decide +kernel, by decide +kernel, by decide +kernel⟩, by decide⟩
theorem zl_1503 : Cond.methodLink RL 114 yX11_rings ∈ zt := zt_at 1182 (by decide +kernel)
theorem zl_1504 : Cond.instanceMethod yX11_rings ∈ zt := zt_at 1183 (by decide +kernel)
theorem zl_1505 : Cond.selects RX11 yX11_rings yX11_rings ∈ zt := zt_at 1184 (by decide +kernel)
theorem zl_1506 : Cond.code yX12_rings cX12_rings 8 (some .int) ∈ zt := zt_at 1941 (by decide +kernel)
theorem zvs_X12_rings : zvS yX12_rings cX12_rings 8 (some .int) 2 := ⟨zl_1506, zl_893, ⟨by decide +kernel, by decide +kernel, by decide +kernel⟩, by decide⟩
theorem zl_1507 : Cond.methodLink RL 117 yX12_rings ∈ zt := zt_at 1938 (by decide +kernel)
theorem zl_1508 : Cond.instanceMethod yX12_rings ∈ zt := zt_at 1939 (by decide +kernel)
theorem zl_1509 : Cond.selects RX12 yX12_rings yX12_rings ∈ zt := zt_at 1940 (by decide +kernel)
theorem zl_1510 : Cond.code yX11_unsure cX11_unsure 11 (some .long) ∈ zt := zt_at 1203 (by decide +kernel)
theorem zvs_X11_unsure : zvS yX11_unsure cX11_unsure 11 (some .long) 3 := ⟨zl_1510, zl_118, ⟨by decide +kernel, by decide +kernel, by decide +kernel⟩, by decide⟩
theorem zl_1511 : Cond.methodLink RL 118 yX11_unsure ∈ zt := zt_at 1200 (by decide +kernel)
theorem zl_1512 : Cond.instanceMethod yX11_unsure ∈ zt := zt_at 1201 (by decide +kernel)
theorem zl_1513 : Cond.selects RX11 yX11_unsure yX11_unsure ∈ zt := zt_at 1202 (by decide +kernel)
theorem zl_1514 : Cond.code yX12_unsure cX12_unsure 10 (some .long) ∈ zt := zt_at 1953 (by decide +kernel)
theorem zvs_X12_unsure : zvS yX12_unsure cX12_unsure 10 (some .long) 3 := ⟨zl_1514, zl_893, ⟨by decide +kernel, by decide +kernel, by decide +kernel⟩, by decide⟩
theorem zl_1515 : Cond.methodLink RL 122 yX12_unsure ∈ zt := zt_at 1950 (by decide +kernel)
theorem zl_1516 : Cond.instanceMethod yX12_unsure ∈ zt := zt_at 1951 (by decide +kernel)
theorem zl_1517 : Cond.selects RX12 yX12_unsure yX12_unsure ∈ zt := zt_at 1952 (by decide +kernel)
theorem zl_1518 : Cond.code yX11_spread cX11_spread 6 (some .int) ∈ zt := zt_at 1220 (by decide +kernel)
theorem zvs_X11_spread : zvS yX11_spread cX11_spread 6 (some .int) 4 := ⟨zl_1518, zl_118, ⟨by decide +kernel, by decide +kernel, by decide +kernel⟩, by decide⟩
theorem zl_1519 : Cond.methodLink RL 123 yX11_spread ∈ zt := zt_at 1217 (by decide +kernel)
theorem zl_1520 : Cond.instanceMethod yX11_spread ∈ zt := zt_at 1218 (by decide +kernel)
theorem zl_1521 : Cond.selects RX11 yX11_spread yX11_spread ∈ zt := zt_at 1219 (by decide +kernel)
theorem zl_1522 : Cond.code yX12_spread cX12_spread 8 (some .int) ∈ zt := zt_at 1958 (by decide +kernel)
theorem zvs_X12_spread : zvS yX12_spread cX12_spread 8 (some .int) 4 := ⟨zl_1522, zl_893, ⟨by decide +kernel, by decide +kernel, by decide +kernel⟩, by decide⟩
theorem zl_1523 : Cond.methodLink RL 126 yX12_spread ∈ zt := zt_at 1955 (by decide +kernel)
theorem zl_1524 : Cond.instanceMethod yX12_spread ∈ zt := zt_at 1956 (by decide +kernel)
theorem zl_1525 : Cond.selects RX12 yX12_spread yX12_spread ∈ zt := zt_at 1957 (by decide +kernel)
theorem zl_1526 : Cond.code yX11_guards cX11_guards 4 (some .int) ∈ zt := zt_at 1248 (by decide +kernel)
theorem zvs_X11_guards : zvS yX11_guards cX11_guards 4 (some .int) 2 := ⟨zl_1526, zl_118, ⟨by decide +kernel, by decide +kernel, by decide +kernel⟩, by decide⟩
theorem zl_1527 : Cond.methodLink RL 127 yX11_guards ∈ zt := zt_at 1245 (by decide +kernel)
theorem zl_1528 : Cond.instanceMethod yX11_guards ∈ zt := zt_at 1246 (by decide +kernel)
theorem zl_1529 : Cond.selects RX11 yX11_guards yX11_guards ∈ zt := zt_at 1247 (by decide +kernel)
theorem zl_1530 : Cond.code yX12_guards cX12_guards 5 (some .int) ∈ zt := zt_at 1966 (by decide +kernel)
theorem zvs_X12_guards : zvS yX12_guards cX12_guards 5 (some .int) 2 := ⟨zl_1530, zl_893, ⟨by decide +kernel, by decide +kernel, by decide +kernel⟩, by decide⟩
theorem zl_1531 : Cond.methodLink RL 130 yX12_guards ∈ zt := zt_at 1963 (by decide +kernel)
theorem zl_1532 : Cond.instanceMethod yX12_guards ∈ zt := zt_at 1964 (by decide +kernel)
theorem zl_1533 : Cond.selects RX12 yX12_guards yX12_guards ∈ zt := zt_at 1965 (by decide +kernel)
theorem zl_1534 : Cond.code yX11_middle cX11_middle 4 (some .int) ∈ zt := zt_at 1263 (by decide +kernel)
theorem zvs_X11_middle : zvS yX11_middle cX11_middle 4 (some .int) 2 := ⟨zl_1534, zl_118, ⟨by decide +kernel, by decide +kernel, by decide +kernel⟩, by decide⟩
theorem zl_1535 : Cond.methodLink RL 131 yX11_middle ∈ zt := zt_at 1260 (by decide +kernel)
theorem zl_1536 : Cond.instanceMethod yX11_middle ∈ zt := zt_at 1261 (by decide +kernel)
theorem zl_1537 : Cond.selects RX11 yX11_middle yX11_middle ∈ zt := zt_at 1262 (by decide +kernel)
theorem zl_1538 : Cond.code yX12_middle cX12_middle 6 (some .int) ∈ zt := zt_at 1977 (by decide +kernel)
theorem zvs_X12_middle : zvS yX12_middle cX12_middle 6 (some .int) 2 := ⟨zl_1538, zl_893, ⟨by decide +kernel, by decide +kernel, by decide +kernel⟩, by decide⟩
theorem zl_1539 : Cond.methodLink RL 134 yX12_middle ∈ zt := zt_at 1974 (by decide +kernel)
theorem zl_1540 : Cond.instanceMethod yX12_middle ∈ zt := zt_at 1975 (by decide +kernel)
theorem zl_1541 : Cond.selects RX12 yX12_middle yX12_middle ∈ zt := zt_at 1976 (by decide +kernel)
theorem zl_1542 : Cond.code yX11_auction cX11_auction 6 (some .int) ∈ zt := zt_at 1274 (by decide +kernel)
theorem zvs_X11_auction : zvS yX11_auction cX11_auction 6 (some .int) 3 := ⟨zl_1542, zl_118, ⟨by decide +kernel, by decide +kernel, by decide +kernel⟩, by decide⟩
theorem zl_1543 : Cond.methodLink RL 135 yX11_auction ∈ zt := zt_at 1271 (by decide +kernel)
theorem zl_1544 : Cond.instanceMethod yX11_auction ∈ zt := zt_at 1272 (by decide +kernel)
theorem zl_1545 : Cond.selects RX11 yX11_auction yX11_auction ∈ zt := zt_at 1273 (by decide +kernel)
theorem zl_1546 : Cond.code yX12_auction cX12_auction 7 (some .int) ∈ zt := zt_at 1989 (by decide +kernel)
theorem zvs_X12_auction : zvS yX12_auction cX12_auction 7 (some .int) 3 := ⟨zl_1546, zl_893, ⟨by decide +kernel, by decide +kernel, by decide +kernel⟩, by decide⟩
theorem zl_1547 : Cond.methodLink RL 138 yX12_auction ∈ zt := zt_at 1986 (by decide +kernel)
theorem zl_1548 : Cond.instanceMethod yX12_auction ∈ zt := zt_at 1987 (by decide +kernel)
theorem zl_1549 : Cond.selects RX12 yX12_auction yX12_auction ∈ zt := zt_at 1988 (by decide +kernel)
theorem zl_1550 : Cond.code yX11_relayed cX11_relayed 6 (some .int) ∈ zt := zt_at 1285 (by decide +kernel)
theorem zvs_X11_relayed : zvS yX11_relayed cX11_relayed 6 (some .int) 4 := ⟨zl_1550, zl_118, ⟨by decide +kernel, by decide +kernel, by decide +kernel⟩, by decide⟩
theorem zl_1551 : Cond.methodLink RL 139 yX11_relayed ∈ zt := zt_at 1282 (by decide +kernel)
theorem zl_1552 : Cond.instanceMethod yX11_relayed ∈ zt := zt_at 1283 (by decide +kernel)
theorem zl_1553 : Cond.selects RX11 yX11_relayed yX11_relayed ∈ zt := zt_at 1284 (by decide +kernel)
theorem zl_1554 : Cond.code yX12_relayed cX12_relayed 5 (some .int) ∈ zt := zt_at 1993 (by decide +kernel)
theorem zvs_X12_relayed : zvS yX12_relayed cX12_relayed 5 (some .int) 4 := ⟨zl_1554, zl_893, ⟨by decide +kernel, by decide +kernel, by decide +kernel⟩, by decide⟩
theorem zl_1555 : Cond.methodLink RL 142 yX12_relayed ∈ zt := zt_at 1990 (by decide +kernel)
theorem zl_1556 : Cond.instanceMethod yX12_relayed ∈ zt := zt_at 1991 (by decide +kernel)
theorem zl_1557 : Cond.selects RX12 yX12_relayed yX12_relayed ∈ zt := zt_at 1992 (by decide +kernel)
theorem zl_1558 : Cond.code yX11_weather cX11_weather 4 (some .int) ∈ zt := zt_at 1289 (by decide +kernel)
theorem zvs_X11_weather : zvS yX11_weather cX11_weather 4 (some .int) 2 := ⟨zl_1558, zl_118, ⟨by decide +kernel, by decide +kernel, by decide +kernel⟩, by decide⟩
theorem zl_1559 : Cond.methodLink RL 143 yX11_weather ∈ zt := zt_at 1286 (by decide +kernel)
theorem zl_1560 : Cond.instanceMethod yX11_weather ∈ zt := zt_at 1287 (by decide +kernel)
theorem zl_1561 : Cond.selects RX11 yX11_weather yX11_weather ∈ zt := zt_at 1288 (by decide +kernel)
theorem zl_1562 : Cond.code yX12_weather cX12_weather 6 (some .int) ∈ zt := zt_at 1997 (by decide +kernel)
theorem zvs_X12_weather : zvS yX12_weather cX12_weather 6 (some .int) 2 := ⟨zl_1562, zl_893, ⟨by decide +kernel, by decide +kernel, by decide +kernel⟩, by decide⟩
theorem zl_1563 : Cond.methodLink RL 146 yX12_weather ∈ zt := zt_at 1994 (by decide +kernel)
theorem zl_1564 : Cond.instanceMethod yX12_weather ∈ zt := zt_at 1995 (by decide +kernel)
theorem zl_1565 : Cond.selects RX12 yX12_weather yX12_weather ∈ zt := zt_at 1996 (by decide +kernel)
theorem zl_1566 : Cond.code yX11_matched cX11_matched 4 (some .int) ∈ zt := zt_at 1298 (by decide +kernel)
theorem zvs_X11_matched : zvS yX11_matched cX11_matched 4 (some .int) 2 := ⟨zl_1566, zl_118, ⟨by decide +kernel, by decide +kernel, by decide +kernel⟩, by decide⟩
theorem zl_1567 : Cond.methodLink RL 147 yX11_matched ∈ zt := zt_at 1295 (by decide +kernel)
theorem zl_1568 : Cond.instanceMethod yX11_matched ∈ zt := zt_at 1296 (by decide +kernel)
theorem zl_1569 : Cond.selects RX11 yX11_matched yX11_matched ∈ zt := zt_at 1297 (by decide +kernel)
theorem zl_1570 : Cond.code yX12_matched cX12_matched 6 (some .int) ∈ zt := zt_at 2001 (by decide +kernel)
theorem zvs_X12_matched : zvS yX12_matched cX12_matched 6 (some .int) 2 := ⟨zl_1570, zl_893, ⟨by decide +kernel, by decide +kernel, by decide +kernel⟩, by decide⟩
theorem zl_1571 : Cond.methodLink RL 150 yX12_matched ∈ zt := zt_at 1998 (by decide +kernel)
theorem zl_1572 : Cond.instanceMethod yX12_matched ∈ zt := zt_at 1999 (by decide +kernel)
theorem zl_1573 : Cond.selects RX12 yX12_matched yX12_matched ∈ zt := zt_at 2000 (by decide +kernel)
theorem zl_1574 : Cond.code yX11_count cX11_count 2 (some .int) ∈ zt := zt_at 1321 (by decide +kernel)
theorem zvs_X11_count : zvS yX11_count cX11_count 2 (some .int) 1 := ⟨zl_1574, zl_118, ⟨by decide +kernel, by decide +kernel, by decide +kernel⟩, by decide⟩
theorem zl_1575 : Cond.methodLink RL 151 yX11_count ∈ zt := zt_at 1318 (by decide +kernel)
theorem zl_1576 : Cond.instanceMethod yX11_count ∈ zt := zt_at 1319 (by decide +kernel)
theorem zl_1577 : Cond.selects RX11 yX11_count yX11_count ∈ zt := zt_at 1320 (by decide +kernel)
theorem zl_1578 : Cond.code yX12_count cX12_count 2 (some .int) ∈ zt := zt_at 2017 (by decide +kernel)
theorem zvs_X12_count : zvS yX12_count cX12_count 2 (some .int) 1 := ⟨zl_1578, zl_893, ⟨by decide +kernel, by decide +kernel, by decide +kernel⟩, by decide⟩
theorem zl_1579 : Cond.methodLink RL 154 yX12_count ∈ zt := zt_at 2014 (by decide +kernel)
theorem zl_1580 : Cond.instanceMethod yX12_count ∈ zt := zt_at 2015 (by decide +kernel)
theorem zl_1581 : Cond.selects RX12 yX12_count yX12_count ∈ zt := zt_at 2016 (by decide +kernel)
theorem zl_1582 : Cond.code yX11_image cX11_image 2 (some .boolean) ∈ zt := zt_at 1325 (by decide +kernel)
theorem zvs_X11_image : zvS yX11_image cX11_image 2 (some .boolean) 1 := ⟨zl_1582, zl_118, ⟨by decide +kernel, by decide +kernel, by decide +kernel⟩, by decide⟩
theorem zl_1583 : Cond.methodLink RL 155 yX11_image ∈ zt := zt_at 1322 (by decide +kernel)
theorem zl_1584 : Cond.instanceMethod yX11_image ∈ zt := zt_at 1323 (by decide +kernel)
theorem zl_1585 : Cond.selects RX11 yX11_image yX11_image ∈ zt := zt_at 1324 (by decide +kernel)
theorem zl_1586 : Cond.code yX12_image cX12_image 2 (some .boolean) ∈ zt := zt_at 2021 (by decide +kernel)
theorem zvs_X12_image : zvS yX12_image cX12_image 2 (some .boolean) 1 := ⟨zl_1586, zl_893, ⟨by decide +kernel, by decide +kernel, by decide +kernel⟩, by decide⟩
theorem zl_1587 : Cond.methodLink RL 159 yX12_image ∈ zt := zt_at 2018 (by decide +kernel)
theorem zl_1588 : Cond.instanceMethod yX12_image ∈ zt := zt_at 2019 (by decide +kernel)
theorem zl_1589 : Cond.selects RX12 yX12_image yX12_image ∈ zt := zt_at 2020 (by decide +kernel)
theorem zl_1590 : Cond.code yX11_again cX11_again 2 (some .boolean) ∈ zt := zt_at 1334 (by decide +kernel)
theorem zvs_X11_again : zvS yX11_again cX11_again 2 (some .boolean) 1 := ⟨zl_1590, zl_118, ⟨by decide +kernel, by decide +kernel, by decide +kernel⟩, by decide⟩
theorem zl_1591 : Cond.methodLink RL 160 yX11_again ∈ zt := zt_at 1331 (by decide +kernel)
theorem zl_1592 : Cond.instanceMethod yX11_again ∈ zt := zt_at 1332 (by decide +kernel)
theorem zl_1593 : Cond.selects RX11 yX11_again yX11_again ∈ zt := zt_at 1333 (by decide +kernel)
theorem zl_1594 : Cond.code yX12_again cX12_again 2 (some .boolean) ∈ zt := zt_at 2032 (by decide +kernel)
theorem zvs_X12_again : zvS yX12_again cX12_again 2 (some .boolean) 1 := ⟨zl_1594, zl_893, ⟨by decide +kernel, by decide +kernel, by decide +kernel⟩, by decide⟩
theorem zl_1595 : Cond.methodLink RL 163 yX12_again ∈ zt := zt_at 2029 (by decide +kernel)
theorem zl_1596 : Cond.instanceMethod yX12_again ∈ zt := zt_at 2030 (by decide +kernel)
theorem zl_1597 : Cond.selects RX12 yX12_again yX12_again ∈ zt := zt_at 2031 (by decide +kernel)
noncomputable def fL_law_l (xs : Nat → Int32) (L : Nat) (μ : zM) (m4 : zM) (F11 : Int32 → zM → Option (Int32 × zM)) (x3_9 : Int32) (m10 : zM) : Option (Int32 × zM) :=
  if ((Int32.ofNat L) - 8) < x3_9 then (
  some (1, m10))
  else (
  zb1 (zsc xs L x3_9) fun v13 =>
  if (v13 &&& 63) = 0 then (
  zb1 (zsc xs L (x3_9 + 1)) fun v15 =>
  zb1 (zsc xs L (x3_9 + 2)) fun v17 =>
  zb1 (zsc xs L (x3_9 + 3)) fun v19 =>
  zb1 (zsc xs L (x3_9 + 4)) fun v21 =>
  zb1 (zsc xs L (x3_9 + 5)) fun v23 =>
  zb2 (fX11_feed m10 μ.2.1 v15 v17 v19 v21 v23) fun v27 m26 =>
  zb1 (zsc xs L (x3_9 + 1)) fun v28 =>
  zb1 (zsc xs L (x3_9 + 2)) fun v30 =>
  zb1 (zsc xs L (x3_9 + 3)) fun v32 =>
  zb1 (zsc xs L (x3_9 + 4)) fun v34 =>
  zb1 (zsc xs L (x3_9 + 5)) fun v36 =>
  zb2 (fX12_feed m26 m4.2.1 v28 v30 v32 v34 v36) fun v40 m39 =>
  if v27 = v40 then (
  F11 (x3_9 + 8) m39)
  else (
  some (0, m39)))
  else (
  if (v13 &&& 63) = 1 then (
  zb1 (zsc xs L (x3_9 + 1)) fun v42 =>
  zb2 (fX11_end m10 μ.2.1 v42) fun v46 m45 =>
  zb1 (zsc xs L (x3_9 + 1)) fun v47 =>
  zb2 (fX12_end m45 m4.2.1 v47) fun v51 m50 =>
  if v46 = v51 then (
  F11 (x3_9 + 8) m50)
  else (
  some (0, m50)))
  else (
  if (v13 &&& 63) = 2 then (
  zb1 (zsc xs L (x3_9 + 1)) fun v53 =>
  zb1 (zsc xs L (x3_9 + 2)) fun v55 =>
  zb2 (fX11_text m10 μ.2.1 v53 v55) fun v59 m58 =>
  zb1 (zsc xs L (x3_9 + 1)) fun v60 =>
  zb1 (zsc xs L (x3_9 + 2)) fun v62 =>
  zb2 (fX12_text m58 m4.2.1 v60 v62) fun v66 m65 =>
  if v59 = v66 then (
  F11 (x3_9 + 8) m65)
  else (
  some (0, m65)))
  else (
  if (v13 &&& 63) = 3 then (
  zb1 (zsc xs L (x3_9 + 1)) fun v68 =>
  zb1 (fX11_fault m10 μ.2.1 v68) fun v71 =>
  zb1 (zsc xs L (x3_9 + 1)) fun v72 =>
  zb2 (fX12_fault m10 m4.2.1 v72) fun v76 m75 =>
  if v71 = v76 then (
  F11 (x3_9 + 8) m75)
  else (
  some (0, m75)))
  else (
  if (v13 &&& 63) = 4 then (
  zb1 (zsc xs L (x3_9 + 1)) fun v78 =>
  zb1 (zsc xs L (x3_9 + 2)) fun v80 =>
  zb1 (fX11_valley m10 μ.2.1 v78 v80) fun v83 =>
  zb1 (zsc xs L (x3_9 + 1)) fun v84 =>
  zb1 (zsc xs L (x3_9 + 2)) fun v86 =>
  zb2 (fX12_valley m10 m4.2.1 v84 v86) fun v90 m89 =>
  if v83 = v90 then (
  F11 (x3_9 + 8) m89)
  else (
  some (0, m89)))
  else (
  if (v13 &&& 63) = 5 then (
  zb1 (zsc xs L (x3_9 + 1)) fun v92 =>
  zb1 (zsc xs L (x3_9 + 2)) fun v94 =>
  zb1 (zsc xs L (x3_9 + 3)) fun v96 =>
  zb1 (zsc xs L (x3_9 + 4)) fun v98 =>
  zb1 (zsc xs L (x3_9 + 5)) fun v100 =>
  zb1 (zsc xs L (x3_9 + 6)) fun v102 =>
  zb1 (zsc xs L (x3_9 + 7)) fun v104 =>
  zb1 (fX11_heard m10 μ.2.1 v92 v94 v96 v98 v100 v102 v104) fun v107 =>
  zb1 (zsc xs L (x3_9 + 1)) fun v108 =>
  zb1 (zsc xs L (x3_9 + 2)) fun v110 =>
  zb1 (zsc xs L (x3_9 + 3)) fun v112 =>
  zb1 (zsc xs L (x3_9 + 4)) fun v114 =>
  zb1 (zsc xs L (x3_9 + 5)) fun v116 =>
  zb1 (zsc xs L (x3_9 + 6)) fun v118 =>
  zb1 (zsc xs L (x3_9 + 7)) fun v120 =>
  zb2 (fX12_heard m10 m4.2.1 v108 v110 v112 v114 v116 v118 v120) fun v124 m123 =>
  if v107 = v124 then (
  F11 (x3_9 + 8) m123)
  else (
  some (0, m123)))
  else (
  if (v13 &&& 63) = 6 then (
  zb1 (zsc xs L (x3_9 + 1)) fun v126 =>
  zb1 (zsc xs L (x3_9 + 2)) fun v128 =>
  zb1 (zsc xs L (x3_9 + 3)) fun v130 =>
  zb1 (zsc xs L (x3_9 + 4)) fun v132 =>
  zb1 (fX11_gives m10 μ.2.1 v126 v128 v130 v132) fun v135 =>
  zb1 (zsc xs L (x3_9 + 1)) fun v136 =>
  zb1 (zsc xs L (x3_9 + 2)) fun v138 =>
  zb1 (zsc xs L (x3_9 + 3)) fun v140 =>
  zb1 (zsc xs L (x3_9 + 4)) fun v142 =>
  zb2 (fX12_gives m10 m4.2.1 v136 v138 v140 v142) fun v146 m145 =>
  if v135 = v146 then (
  F11 (x3_9 + 8) m145)
  else (
  some (0, m145)))
  else (
  if (v13 &&& 63) = 7 then (
  zb1 (zsc xs L (x3_9 + 1)) fun v148 =>
  zb1 (zsc xs L (x3_9 + 2)) fun v150 =>
  zb1 (zsc xs L (x3_9 + 3)) fun v152 =>
  zb1 (fX11_deed m10 μ.2.1 v148 v150 v152) fun v155 =>
  zb1 (zsc xs L (x3_9 + 1)) fun v156 =>
  zb1 (zsc xs L (x3_9 + 2)) fun v158 =>
  zb1 (zsc xs L (x3_9 + 3)) fun v160 =>
  zb2 (fX12_deed m10 m4.2.1 v156 v158 v160) fun v164 m163 =>
  if v155 = v164 then (
  F11 (x3_9 + 8) m163)
  else (
  some (0, m163)))
  else (
  if (v13 &&& 63) = 8 then (
  zb1 (zsc xs L (x3_9 + 1)) fun v166 =>
  zb1 (zsc xs L (x3_9 + 2)) fun v168 =>
  zb2 (fX11_stop m10 μ.2.1 v166 v168) fun v172 m171 =>
  zb1 (zsc xs L (x3_9 + 1)) fun v173 =>
  zb1 (zsc xs L (x3_9 + 2)) fun v175 =>
  zb2 (fX12_stop m171 m4.2.1 v173 v175) fun v179 m178 =>
  if v172 = v179 then (
  F11 (x3_9 + 8) m178)
  else (
  some (0, m178)))
  else (
  if (v13 &&& 63) = 9 then (
  zb1 (zsc xs L (x3_9 + 1)) fun v181 =>
  zb1 (zsc xs L (x3_9 + 2)) fun v183 =>
  zb1 (zsc xs L (x3_9 + 3)) fun v185 =>
  zb1 (zsc xs L (x3_9 + 4)) fun v187 =>
  zb2 (fX11_state m10 μ.2.1 v181 v183 v185 v187) fun v191 m190 =>
  zb1 (zsc xs L (x3_9 + 1)) fun v192 =>
  zb1 (zsc xs L (x3_9 + 2)) fun v194 =>
  zb1 (zsc xs L (x3_9 + 3)) fun v196 =>
  zb1 (zsc xs L (x3_9 + 4)) fun v198 =>
  zb2 (fX12_state m190 m4.2.1 v192 v194 v196 v198) fun v202 m201 =>
  if v191 = v202 then (
  F11 (x3_9 + 8) m201)
  else (
  some (0, m201)))
  else (
  if (v13 &&& 63) = 10 then (
  zb1 (zsc xs L (x3_9 + 1)) fun v204 =>
  zb1 (zsc xs L (x3_9 + 2)) fun v206 =>
  zb1 (zsc xs L (x3_9 + 3)) fun v208 =>
  zb1 (zsc xs L (x3_9 + 4)) fun v210 =>
  zb1 (zsc xs L (x3_9 + 5)) fun v212 =>
  zb1 (if v212 = 0 then (
  some 0)
  else (
  some 1) : Option (Int32)) fun (s214 : Int32) =>
  zb1 (fX11_hush m10 μ.2.1 v204 v206 v208 v210 s214) fun v217 =>
  zb1 (zsc xs L (x3_9 + 1)) fun v218 =>
  zb1 (zsc xs L (x3_9 + 2)) fun v220 =>
  zb1 (zsc xs L (x3_9 + 3)) fun v222 =>
  zb1 (zsc xs L (x3_9 + 4)) fun v224 =>
  zb1 (zsc xs L (x3_9 + 5)) fun v226 =>
  zb1 (if v226 = 0 then (
  some 0)
  else (
  some 1) : Option (Int32)) fun (s228 : Int32) =>
  zb2 (fX12_hush m10 m4.2.1 v218 v220 v222 v224 s228) fun v232 m231 =>
  if v217 = v232 then (
  F11 (x3_9 + 8) m231)
  else (
  some (0, m231)))
  else (
  if (v13 &&& 63) = 11 then (
  zb1 (zsc xs L (x3_9 + 1)) fun v234 =>
  zb1 (zsc xs L (x3_9 + 2)) fun v236 =>
  zb1 (zsc xs L (x3_9 + 3)) fun v238 =>
  zb1 (zsc xs L (x3_9 + 4)) fun v240 =>
  zb1 (if v240 = 0 then (
  some 0)
  else (
  some 1) : Option (Int32)) fun (s242 : Int32) =>
  zb1 (fX11_crowd m10 μ.2.1 v234 v236 v238 s242) fun v245 =>
  zb1 (zsc xs L (x3_9 + 1)) fun v246 =>
  zb1 (zsc xs L (x3_9 + 2)) fun v248 =>
  zb1 (zsc xs L (x3_9 + 3)) fun v250 =>
  zb1 (zsc xs L (x3_9 + 4)) fun v252 =>
  zb1 (if v252 = 0 then (
  some 0)
  else (
  some 1) : Option (Int32)) fun (s254 : Int32) =>
  zb2 (fX12_crowd m10 m4.2.1 v246 v248 v250 s254) fun v258 m257 =>
  if v245 = v258 then (
  F11 (x3_9 + 8) m257)
  else (
  some (0, m257)))
  else (
  if (v13 &&& 63) = 12 then (
  zb1 (zsc xs L (x3_9 + 1)) fun v260 =>
  zb1 (zsc xs L (x3_9 + 2)) fun v262 =>
  zb1 (zsc xs L (x3_9 + 3)) fun v264 =>
  zb1 (fX11_chain m10 μ.2.1 v260 v262 v264) fun v267 =>
  zb1 (zsc xs L (x3_9 + 1)) fun v268 =>
  zb1 (zsc xs L (x3_9 + 2)) fun v270 =>
  zb1 (zsc xs L (x3_9 + 3)) fun v272 =>
  zb2 (fX12_chain m10 m4.2.1 v268 v270 v272) fun v276 m275 =>
  if v267 = v276 then (
  F11 (x3_9 + 8) m275)
  else (
  some (0, m275)))
  else (
  if (v13 &&& 63) = 13 then (
  zb1 (zsc xs L (x3_9 + 1)) fun v278 =>
  zb1 (zsc xs L (x3_9 + 2)) fun v280 =>
  zb1 (zsc xs L (x3_9 + 3)) fun v282 =>
  zb1 (fX11_late m10 μ.2.1 v278 v280 v282) fun v285 =>
  zb1 (zsc xs L (x3_9 + 1)) fun v286 =>
  zb1 (zsc xs L (x3_9 + 2)) fun v288 =>
  zb1 (zsc xs L (x3_9 + 3)) fun v290 =>
  zb2 (fX12_late m10 m4.2.1 v286 v288 v290) fun v294 m293 =>
  if v285 = v294 then (
  F11 (x3_9 + 8) m293)
  else (
  some (0, m293)))
  else (
  if (v13 &&& 63) = 14 then (
  zb1 (zsc xs L (x3_9 + 1)) fun v296 =>
  zb1 (zsc xs L (x3_9 + 2)) fun v298 =>
  zb1 (fX11_market m10 μ.2.1 v296 v298) fun v301 =>
  zb1 (zsc xs L (x3_9 + 1)) fun v302 =>
  zb1 (zsc xs L (x3_9 + 2)) fun v304 =>
  zb2 (fX12_market m10 m4.2.1 v302 v304) fun v308 m307 =>
  if v301 = v308 then (
  F11 (x3_9 + 8) m307)
  else (
  some (0, m307)))
  else (
  if (v13 &&& 63) = 15 then (
  zb1 (zsc xs L (x3_9 + 1)) fun v310 =>
  zb1 (zsc xs L (x3_9 + 2)) fun v312 =>
  zb1 (zsc xs L (x3_9 + 3)) fun v314 =>
  zb1 (zsc xs L (x3_9 + 4)) fun v316 =>
  zb1 (if v316 = 0 then (
  some 0)
  else (
  some 1) : Option (Int32)) fun (s318 : Int32) =>
  zb2 (fX11_bargain m10 μ.2.1 v310 v312 v314 s318) fun v322 m321 =>
  zb1 (zsc xs L (x3_9 + 1)) fun v323 =>
  zb1 (zsc xs L (x3_9 + 2)) fun v325 =>
  zb1 (zsc xs L (x3_9 + 3)) fun v327 =>
  zb1 (zsc xs L (x3_9 + 4)) fun v329 =>
  zb1 (if v329 = 0 then (
  some 0)
  else (
  some 1) : Option (Int32)) fun (s331 : Int32) =>
  zb2 (fX12_bargain m321 m4.2.1 v323 v325 v327 s331) fun v335 m334 =>
  if v322 = v335 then (
  F11 (x3_9 + 8) m334)
  else (
  some (0, m334)))
  else (
  if (v13 &&& 63) = 16 then (
  zb1 (zsc xs L (x3_9 + 1)) fun v337 =>
  zb1 (zsc xs L (x3_9 + 2)) fun v339 =>
  zb2 (fX11_talk m10 μ.2.1 v337 v339) fun v343 m342 =>
  zb1 (zsc xs L (x3_9 + 1)) fun v344 =>
  zb1 (zsc xs L (x3_9 + 2)) fun v346 =>
  zb2 (fX12_talk m342 m4.2.1 v344 v346) fun v350 m349 =>
  if v343 = v350 then (
  F11 (x3_9 + 8) m349)
  else (
  some (0, m349)))
  else (
  if (v13 &&& 63) = 17 then (
  zb1 (zsc xs L (x3_9 + 1)) fun v352 =>
  zb1 (zsc xs L (x3_9 + 2)) fun v354 =>
  zb1 (fX11_lesson m10 μ.2.1 v352 v354) fun v357 =>
  zb1 (zsc xs L (x3_9 + 1)) fun v358 =>
  zb1 (zsc xs L (x3_9 + 2)) fun v360 =>
  zb2 (fX12_lesson m10 m4.2.1 v358 v360) fun v364 m363 =>
  if v357 = v364 then (
  F11 (x3_9 + 8) m363)
  else (
  some (0, m363)))
  else (
  if (v13 &&& 63) = 18 then (
  zb1 (zsc xs L (x3_9 + 1)) fun v366 =>
  zb1 (zsc xs L (x3_9 + 2)) fun v368 =>
  zb1 (fX11_rules m10 μ.2.1 v366 v368) fun v371 =>
  zb1 (zsc xs L (x3_9 + 1)) fun v372 =>
  zb1 (zsc xs L (x3_9 + 2)) fun v374 =>
  zb2 (fX12_rules m10 m4.2.1 v372 v374) fun v378 m377 =>
  if v371 = v378 then (
  F11 (x3_9 + 8) m377)
  else (
  some (0, m377)))
  else (
  if (v13 &&& 63) = 19 then (
  zb1 (zsc xs L (x3_9 + 1)) fun v380 =>
  zb1 (zsc xs L (x3_9 + 2)) fun v382 =>
  zb1 (zsc xs L (x3_9 + 3)) fun v384 =>
  zb1 (fX11_fact m10 μ.2.1 v380 v382 v384) fun v387 =>
  zb1 (zsc xs L (x3_9 + 1)) fun v388 =>
  zb1 (zsc xs L (x3_9 + 2)) fun v390 =>
  zb1 (zsc xs L (x3_9 + 3)) fun v392 =>
  zb2 (fX12_fact m10 m4.2.1 v388 v390 v392) fun v396 m395 =>
  if v387 = v396 then (
  F11 (x3_9 + 8) m395)
  else (
  some (0, m395)))
  else (
  if (v13 &&& 63) = 20 then (
  zb1 (zsc xs L (x3_9 + 1)) fun v398 =>
  zb1 (zsc xs L (x3_9 + 2)) fun v400 =>
  zb1 (zsc xs L (x3_9 + 3)) fun v402 =>
  zb1 (fX11_said m10 μ.2.1 v398 v400 v402) fun v405 =>
  zb1 (zsc xs L (x3_9 + 1)) fun v406 =>
  zb1 (zsc xs L (x3_9 + 2)) fun v408 =>
  zb1 (zsc xs L (x3_9 + 3)) fun v410 =>
  zb2 (fX12_said m10 m4.2.1 v406 v408 v410) fun v414 m413 =>
  if v405 = v414 then (
  F11 (x3_9 + 8) m413)
  else (
  some (0, m413)))
  else (
  if (v13 &&& 63) = 21 then (
  zb1 (zsc xs L (x3_9 + 1)) fun v416 =>
  zb1 (zsc xs L (x3_9 + 2)) fun v418 =>
  zb1 (zsc xs L (x3_9 + 3)) fun v420 =>
  zb1 (if v420 = 0 then (
  some 0)
  else (
  some 1) : Option (Int32)) fun (s422 : Int32) =>
  zb2 (fX11_spot m10 μ.2.1 v416 v418 s422) fun v426 m425 =>
  zb1 (zsc xs L (x3_9 + 1)) fun v427 =>
  zb1 (zsc xs L (x3_9 + 2)) fun v429 =>
  zb1 (zsc xs L (x3_9 + 3)) fun v431 =>
  zb1 (if v431 = 0 then (
  some 0)
  else (
  some 1) : Option (Int32)) fun (s433 : Int32) =>
  zb2 (fX12_spot m425 m4.2.1 v427 v429 s433) fun v437 m436 =>
  if v426 = v437 then (
  F11 (x3_9 + 8) m436)
  else (
  some (0, m436)))
  else (
  if (v13 &&& 63) = 22 then (
  zb1 (zsc xs L (x3_9 + 1)) fun v439 =>
  zb1 (zsc xs L (x3_9 + 2)) fun v441 =>
  zb1 (zsc xs L (x3_9 + 3)) fun v443 =>
  zb1 (zsc xs L (x3_9 + 4)) fun v445 =>
  zb2 (fX11_drawn m10 μ.2.1 v439 v441 v443 v445) fun v449 m448 =>
  zb1 (zsc xs L (x3_9 + 1)) fun v450 =>
  zb1 (zsc xs L (x3_9 + 2)) fun v452 =>
  zb1 (zsc xs L (x3_9 + 3)) fun v454 =>
  zb1 (zsc xs L (x3_9 + 4)) fun v456 =>
  zb2 (fX12_drawn m448 m4.2.1 v450 v452 v454 v456) fun v460 m459 =>
  if v449 = v460 then (
  F11 (x3_9 + 8) m459)
  else (
  some (0, m459)))
  else (
  if (v13 &&& 63) = 23 then (
  zb1 (zsc xs L (x3_9 + 1)) fun v462 =>
  zb1 (zsc xs L (x3_9 + 2)) fun v464 =>
  zb1 (fX11_rings m10 μ.2.1 v462 v464) fun v467 =>
  zb1 (zsc xs L (x3_9 + 1)) fun v468 =>
  zb1 (zsc xs L (x3_9 + 2)) fun v470 =>
  zb2 (fX12_rings m10 m4.2.1 v468 v470) fun v474 m473 =>
  if v467 = v474 then (
  F11 (x3_9 + 8) m473)
  else (
  some (0, m473)))
  else (
  if (v13 &&& 63) = 24 then (
  zb1 (zsc xs L (x3_9 + 1)) fun v476 =>
  zb1 (zsc xs L (x3_9 + 2)) fun v478 =>
  zb1 (zsc xs L (x3_9 + 3)) fun v480 =>
  zb1 (if v480 = 0 then (
  some 0)
  else (
  some 1) : Option (Int32)) fun (s482 : Int32) =>
  zb1 (fX11_unsure m10 μ.2.1 v476 v478 s482) fun v485 =>
  zb1 (zsc xs L (x3_9 + 1)) fun v486 =>
  zb1 (zsc xs L (x3_9 + 2)) fun v488 =>
  zb1 (zsc xs L (x3_9 + 3)) fun v490 =>
  zb1 (if v490 = 0 then (
  some 0)
  else (
  some 1) : Option (Int32)) fun (s492 : Int32) =>
  zb2 (fX12_unsure m10 m4.2.1 v486 v488 s492) fun v496 m495 =>
  if (lg_cmp v485 v496) = 0 then (
  F11 (x3_9 + 8) m495)
  else (
  some (0, m495)))
  else (
  if (v13 &&& 63) = 25 then (
  zb1 (zsc xs L (x3_9 + 1)) fun v498 =>
  zb1 (zsc xs L (x3_9 + 2)) fun v500 =>
  zb1 (zsc xs L (x3_9 + 3)) fun v502 =>
  zb1 (zsc xs L (x3_9 + 4)) fun v504 =>
  zb1 (if v504 = 0 then (
  some 0)
  else (
  some 1) : Option (Int32)) fun (s506 : Int32) =>
  zb2 (fX11_spread m10 μ.2.1 v498 v500 v502 s506) fun v510 m509 =>
  zb1 (zsc xs L (x3_9 + 1)) fun v511 =>
  zb1 (zsc xs L (x3_9 + 2)) fun v513 =>
  zb1 (zsc xs L (x3_9 + 3)) fun v515 =>
  zb1 (zsc xs L (x3_9 + 4)) fun v517 =>
  zb1 (if v517 = 0 then (
  some 0)
  else (
  some 1) : Option (Int32)) fun (s519 : Int32) =>
  zb2 (fX12_spread m509 m4.2.1 v511 v513 v515 s519) fun v523 m522 =>
  if v510 = v523 then (
  F11 (x3_9 + 8) m522)
  else (
  some (0, m522)))
  else (
  if (v13 &&& 63) = 26 then (
  zb1 (zsc xs L (x3_9 + 1)) fun v525 =>
  zb1 (zsc xs L (x3_9 + 2)) fun v527 =>
  zb1 (fX11_guards m10 μ.2.1 v525 v527) fun v530 =>
  zb1 (zsc xs L (x3_9 + 1)) fun v531 =>
  zb1 (zsc xs L (x3_9 + 2)) fun v533 =>
  zb2 (fX12_guards m10 m4.2.1 v531 v533) fun v537 m536 =>
  if v530 = v537 then (
  F11 (x3_9 + 8) m536)
  else (
  some (0, m536)))
  else (
  if (v13 &&& 63) = 27 then (
  zb1 (zsc xs L (x3_9 + 1)) fun v539 =>
  zb1 (zsc xs L (x3_9 + 2)) fun v541 =>
  zb1 (fX11_middle m10 μ.2.1 v539 v541) fun v544 =>
  zb1 (zsc xs L (x3_9 + 1)) fun v545 =>
  zb1 (zsc xs L (x3_9 + 2)) fun v547 =>
  zb2 (fX12_middle m10 m4.2.1 v545 v547) fun v551 m550 =>
  if v544 = v551 then (
  F11 (x3_9 + 8) m550)
  else (
  some (0, m550)))
  else (
  if (v13 &&& 63) = 28 then (
  zb1 (zsc xs L (x3_9 + 1)) fun v553 =>
  zb1 (zsc xs L (x3_9 + 2)) fun v555 =>
  zb1 (zsc xs L (x3_9 + 3)) fun v557 =>
  zb1 (if v557 = 0 then (
  some 0)
  else (
  some 1) : Option (Int32)) fun (s559 : Int32) =>
  zb1 (fX11_auction m10 μ.2.1 v553 v555 s559) fun v562 =>
  zb1 (zsc xs L (x3_9 + 1)) fun v563 =>
  zb1 (zsc xs L (x3_9 + 2)) fun v565 =>
  zb1 (zsc xs L (x3_9 + 3)) fun v567 =>
  zb1 (if v567 = 0 then (
  some 0)
  else (
  some 1) : Option (Int32)) fun (s569 : Int32) =>
  zb2 (fX12_auction m10 m4.2.1 v563 v565 s569) fun v573 m572 =>
  if v562 = v573 then (
  F11 (x3_9 + 8) m572)
  else (
  some (0, m572)))
  else (
  if (v13 &&& 63) = 29 then (
  zb1 (zsc xs L (x3_9 + 1)) fun v575 =>
  zb1 (zsc xs L (x3_9 + 2)) fun v577 =>
  zb1 (zsc xs L (x3_9 + 3)) fun v579 =>
  zb1 (zsc xs L (x3_9 + 4)) fun v581 =>
  zb2 (fX11_relayed m10 μ.2.1 v575 v577 v579 v581) fun v585 m584 =>
  zb1 (zsc xs L (x3_9 + 1)) fun v586 =>
  zb1 (zsc xs L (x3_9 + 2)) fun v588 =>
  zb1 (zsc xs L (x3_9 + 3)) fun v590 =>
  zb1 (zsc xs L (x3_9 + 4)) fun v592 =>
  zb2 (fX12_relayed m584 m4.2.1 v586 v588 v590 v592) fun v596 m595 =>
  if v585 = v596 then (
  F11 (x3_9 + 8) m595)
  else (
  some (0, m595)))
  else (
  if (v13 &&& 63) = 30 then (
  zb1 (zsc xs L (x3_9 + 1)) fun v598 =>
  zb1 (zsc xs L (x3_9 + 2)) fun v600 =>
  zb1 (fX11_weather m10 μ.2.1 v598 v600) fun v603 =>
  zb1 (zsc xs L (x3_9 + 1)) fun v604 =>
  zb1 (zsc xs L (x3_9 + 2)) fun v606 =>
  zb2 (fX12_weather m10 m4.2.1 v604 v606) fun v610 m609 =>
  if v603 = v610 then (
  F11 (x3_9 + 8) m609)
  else (
  some (0, m609)))
  else (
  if (v13 &&& 63) = 31 then (
  zb1 (zsc xs L (x3_9 + 1)) fun v612 =>
  zb1 (zsc xs L (x3_9 + 2)) fun v614 =>
  zb2 (fX11_matched m10 μ.2.1 v612 v614) fun v618 m617 =>
  zb1 (zsc xs L (x3_9 + 1)) fun v619 =>
  zb1 (zsc xs L (x3_9 + 2)) fun v621 =>
  zb2 (fX12_matched m617 m4.2.1 v619 v621) fun v625 m624 =>
  if v618 = v625 then (
  F11 (x3_9 + 8) m624)
  else (
  some (0, m624)))
  else (
  if (v13 &&& 63) = 32 then (
  zb1 (zsc xs L (x3_9 + 1)) fun v627 =>
  zb1 (fX11_count m10 μ.2.1 v627) fun v630 =>
  zb1 (zsc xs L (x3_9 + 1)) fun v631 =>
  zb2 (fX12_count m10 m4.2.1 v631) fun v635 m634 =>
  if v630 = v635 then (
  F11 (x3_9 + 8) m634)
  else (
  some (0, m634)))
  else (
  if (v13 &&& 63) = 33 then (
  zb1 (zsc xs L (x3_9 + 1)) fun v637 =>
  zb2 (fX11_image m10 μ.2.1 v637) fun v641 m640 =>
  zb1 (zsc xs L (x3_9 + 1)) fun v642 =>
  zb2 (fX12_image m640 m4.2.1 v642) fun v646 m645 =>
  if v641 = v646 then (
  F11 (x3_9 + 8) m645)
  else (
  some (0, m645)))
  else (
  if (v13 &&& 63) = 34 then (
  zb1 (zsc xs L (x3_9 + 1)) fun v648 =>
  zb2 (fX11_again m10 μ.2.1 v648) fun v652 m651 =>
  zb1 (zsc xs L (x3_9 + 1)) fun v653 =>
  zb2 (fX12_again m651 m4.2.1 v653) fun v657 m656 =>
  if v652 = v657 then (
  F11 (x3_9 + 8) m656)
  else (
  some (0, m656)))
  else (
  F11 (x3_9 + 8) m10))))))))))))))))))))))))))))))))))))
noncomputable def fL_law (xs : Nat → Int32) (L : Nat) (μ : zM) : Option (Int32 × zM) :=
  zb1 (some (zm_nw μ (.inr (11, [.null, .null, .null, .null, .null, .null, .null])))) fun m1 =>
  zb1 (fX11_init m1 μ.2.1) fun m4 =>
  zb1 (some (zm_nw m4 (.inr (12, [.int 0, .null, .null, .null, .null, .null, .null, .null, .null, .null, .int 0, .int 0, .int 0, .int 0, .int 0, .long 0, .int 0, .int 0, .int 0, .null, .null, .int 0, .int 0, .int 0, .int 0, .int 0, .int 0, .null, .null, .int 0, .int 0, .null, .null, .null, .int 0, .int 0, .int 0, .null, .null, .int 0, .int 0, .null, .null, .null, .int 0, .null, .int 0, .null, .int 0, .int 0, .null, .null, .null, .null])))) fun m5 =>
  zb1 (fX12_init m5 m4.2.1) fun m8 =>
  zf2 (fL_law_l xs L μ m4) 520 0 m8
set_option maxHeartbeats 40000000 in
set_option maxRecDepth 100000 in
theorem cL_law_ok {K : zKT} {xs : Nat → Int32} {L x0 : Nat} {μ mo : zM} {r : Int32} (hX : va_X x0 L xs K.2.2.2.1 K.2.2.2.1.heap) (hbl : x0 < K.2.2.2.1.heap.size) (hbA : ¬ zA K.2.2.2.2.2.2.2.2.2 x0) (hf : fL_law xs L μ = some (r, mo)) : zz K cL_law (4, RL, some .boolean, 2048, 600000, 7302250, some (.int r), mo) 0 0 0 [(0, .ref x0)] [] μ := by
  unfold fL_law at hf
  refine zr_new [.null, .null, .null, .null, .null, .null, .null] zk11 zl_1308 zl_1309 zl_118 (by decide +kernel) (Nat.le_of_ble_eq_true rfl) (Nat.le_of_ble_eq_true rfl) dL_law_0 ?_
  replace hf := zb1_s hf
  obtain ⟨m1, h2, hf⟩ := hf
  obtain rfl := Option.some.inj h2
  refine zr_dup dL_law_3 rfl ?_
  replace hf := zb1_s hf
  obtain ⟨m4, h3, hf⟩ := hf
  refine zr_callI [] (cX11_init_ok h3) zvs_X11_init zl_1312 rfl zl_1311 rfl (Nat.le_of_ble_eq_true rfl) (Nat.le_of_ble_eq_true rfl) (Nat.le_of_ble_eq_true rfl) (Nat.le_of_ble_eq_true rfl) dL_law_4 rfl ?_
  refine zr_astore_n [(1, .ref μ.2.1), (0, .ref x0)] dL_law_7 (Nat.le_of_ble_eq_true rfl) rfl ?_
  refine zr_new [.int 0, .null, .null, .null, .null, .null, .null, .null, .null, .null, .int 0, .int 0, .int 0, .int 0, .int 0, .long 0, .int 0, .int 0, .int 0, .null, .null, .int 0, .int 0, .int 0, .int 0, .int 0, .int 0, .null, .null, .int 0, .int 0, .null, .null, .null, .int 0, .int 0, .int 0, .null, .null, .int 0, .int 0, .null, .null, .null, .int 0, .null, .int 0, .null, .int 0, .int 0, .null, .null, .null, .null] zk12 zl_1313 zl_1314 zl_893 (by decide +kernel) (Nat.le_of_ble_eq_true rfl) (Nat.le_of_ble_eq_true rfl) dL_law_8 ?_
  replace hf := zb1_s hf
  obtain ⟨m5, h6, hf⟩ := hf
  obtain rfl := Option.some.inj h6
  refine zr_dup dL_law_11 rfl ?_
  replace hf := zb1_s hf
  obtain ⟨m8, h7, hf⟩ := hf
  refine zr_callI [] (cX12_init_ok h7) zvs_X12_init zl_1317 rfl zl_1316 rfl (Nat.le_of_ble_eq_true rfl) (Nat.le_of_ble_eq_true rfl) (Nat.le_of_ble_eq_true rfl) (Nat.le_of_ble_eq_true rfl) dL_law_12 rfl ?_
  refine zr_astore_n [(2, .ref m4.2.1), (1, .ref μ.2.1), (0, .ref x0)] dL_law_15 (Nat.le_of_ble_eq_true rfl) rfl ?_
  refine zr_iconst 0 dL_law_16 (by decide) ?_
  refine zr_istore_n [(3, .int 0), (2, .ref m4.2.1), (1, .ref μ.2.1), (0, .ref x0)] dL_law_17 (Nat.le_of_ble_eq_true rfl) rfl ?_
  have hL659 : ∀ (n KC KS : Nat) (x3_9 : Int32) (m10 : zM), KC + 64 * n ≤ 600000 → KS + 4000 * n ≤ 7302250 → zf2 (fL_law_l xs L μ m4) n x3_9 m10 = some (r, mo) → zz K cL_law (4, RL, some .boolean, 2048, 600000, 7302250, some (.int r), mo) KC KS 18 [(0, .ref x0), (1, .ref μ.2.1), (2, .ref m4.2.1), (3, .int x3_9)] [] m10 := by
    intro n
    induction n with
    | zero => intro KC KS x3_9 m10 hKC hKS hf; cases hf
    | succ n ih12 =>
      intro KC KS x3_9 m10 hKC hKS hf
      replace hf := zf2_s hf
      generalize zf2 (fL_law_l xs L μ m4) n = F11 at hf ih12
      unfold fL_law_l at hf
      refine zr_iload_n 3 dL_law_18 rfl ?_
      refine zr_aload_n 0 dL_law_19 rfl ?_
      refine zr_slen hX hbl hbA dL_law_20 ?_
      refine zr_bipush 8 dL_law_21 (by decide) ?_
      refine zr_isub dL_law_23 ?_
      refine zr_icmp_gt 1746 dL_law_24 (by decide) (fun hc => ?_) (fun hc => ?_)
      · rw [if_pos hc] at hf
        refine zr_iconst 1 dL_law_1746 (by decide) ?_
        refine zr_widen (k := 600000) (n := 7302250) (by omega) (by omega) ?_
        cases hf
        exact zr_zret rfl dL_law_1747
      · rw [if_neg hc] at hf
        refine zr_aload_n 0 dL_law_27 rfl ?_
        refine zr_iload_n 3 dL_law_28 rfl ?_
        replace hf := zb1_s hf
        obtain ⟨v13, h14, hf⟩ := hf
        refine zr_sld hX hbl hbA h14 dL_law_29 ?_
        refine zr_bipush 63 dL_law_30 (by decide) ?_
        refine zr_iand dL_law_32 ?_
        rcases zdec ((v13 &&& 63) = 0) with hs41 | hs41
        · rw [if_pos hs41] at hf
          refine zr_tableIn (off := 155) 188 dL_law_33 (by rw [hs41]; decide) (by rw [hs41]; decide) (by rw [hs41]; rfl) (by decide) ?_
          refine zr_aload_n 1 dL_law_188 rfl ?_
          refine zr_aload_n 0 dL_law_189 rfl ?_
          refine zr_iload_n 3 dL_law_190 rfl ?_
          refine zr_iconst 1 dL_law_191 (by decide) ?_
          refine zr_iadd dL_law_192 ?_
          replace hf := zb1_s hf
          obtain ⟨v15, h16, hf⟩ := hf
          refine zr_sld hX hbl hbA h16 dL_law_193 ?_
          refine zr_aload_n 0 dL_law_194 rfl ?_
          refine zr_iload_n 3 dL_law_195 rfl ?_
          refine zr_iconst 2 dL_law_196 (by decide) ?_
          refine zr_iadd dL_law_197 ?_
          replace hf := zb1_s hf
          obtain ⟨v17, h18, hf⟩ := hf
          refine zr_sld hX hbl hbA h18 dL_law_198 ?_
          refine zr_aload_n 0 dL_law_199 rfl ?_
          refine zr_iload_n 3 dL_law_200 rfl ?_
          refine zr_iconst 3 dL_law_201 (by decide) ?_
          refine zr_iadd dL_law_202 ?_
          replace hf := zb1_s hf
          obtain ⟨v19, h20, hf⟩ := hf
          refine zr_sld hX hbl hbA h20 dL_law_203 ?_
          refine zr_aload_n 0 dL_law_204 rfl ?_
          refine zr_iload_n 3 dL_law_205 rfl ?_
          refine zr_iconst 4 dL_law_206 (by decide) ?_
          refine zr_iadd dL_law_207 ?_
          replace hf := zb1_s hf
          obtain ⟨v21, h22, hf⟩ := hf
          refine zr_sld hX hbl hbA h22 dL_law_208 ?_
          refine zr_aload_n 0 dL_law_209 rfl ?_
          refine zr_iload_n 3 dL_law_210 rfl ?_
          refine zr_iconst 5 dL_law_211 (by decide) ?_
          refine zr_iadd dL_law_212 ?_
          replace hf := zb1_s hf
          obtain ⟨v23, h24, hf⟩ := hf
          refine zr_sld hX hbl hbA h24 dL_law_213 ?_
          replace hf := zb2_s hf
          obtain ⟨v27, m26, h25, hf⟩ := hf
          refine zr_callV (ci := 11) [.int v15, .int v17, .int v19, .int v21, .int v23] (cX11_feed_ok h25) zvs_X11_feed zl_1320 zl_1321 (fX11_feed_ck h25) rfl rfl zl_1319 rfl (Nat.le_of_ble_eq_true rfl) (by show _ ≤ 600000; omega) (by show _ ≤ 7302250; omega) (Nat.le_of_ble_eq_true rfl) dL_law_214 rfl ?_
          refine zr_aload_n 2 dL_law_217 rfl ?_
          refine zr_aload_n 0 dL_law_218 rfl ?_
          refine zr_iload_n 3 dL_law_219 rfl ?_
          refine zr_iconst 1 dL_law_220 (by decide) ?_
          refine zr_iadd dL_law_221 ?_
          replace hf := zb1_s hf
          obtain ⟨v28, h29, hf⟩ := hf
          refine zr_sld hX hbl hbA h29 dL_law_222 ?_
          refine zr_aload_n 0 dL_law_223 rfl ?_
          refine zr_iload_n 3 dL_law_224 rfl ?_
          refine zr_iconst 2 dL_law_225 (by decide) ?_
          refine zr_iadd dL_law_226 ?_
          replace hf := zb1_s hf
          obtain ⟨v30, h31, hf⟩ := hf
          refine zr_sld hX hbl hbA h31 dL_law_227 ?_
          refine zr_aload_n 0 dL_law_228 rfl ?_
          refine zr_iload_n 3 dL_law_229 rfl ?_
          refine zr_iconst 3 dL_law_230 (by decide) ?_
          refine zr_iadd dL_law_231 ?_
          replace hf := zb1_s hf
          obtain ⟨v32, h33, hf⟩ := hf
          refine zr_sld hX hbl hbA h33 dL_law_232 ?_
          refine zr_aload_n 0 dL_law_233 rfl ?_
          refine zr_iload_n 3 dL_law_234 rfl ?_
          refine zr_iconst 4 dL_law_235 (by decide) ?_
          refine zr_iadd dL_law_236 ?_
          replace hf := zb1_s hf
          obtain ⟨v34, h35, hf⟩ := hf
          refine zr_sld hX hbl hbA h35 dL_law_237 ?_
          refine zr_aload_n 0 dL_law_238 rfl ?_
          refine zr_iload_n 3 dL_law_239 rfl ?_
          refine zr_iconst 5 dL_law_240 (by decide) ?_
          refine zr_iadd dL_law_241 ?_
          replace hf := zb1_s hf
          obtain ⟨v36, h37, hf⟩ := hf
          refine zr_sld hX hbl hbA h37 dL_law_242 ?_
          replace hf := zb2_s hf
          obtain ⟨v40, m39, h38, hf⟩ := hf
          refine zr_callV (ci := 12) [.int v28, .int v30, .int v32, .int v34, .int v36] (cX12_feed_ok h38) zvs_X12_feed zl_1324 zl_1325 (fX12_feed_ck h38) rfl rfl zl_1323 rfl (Nat.le_of_ble_eq_true rfl) (by show _ ≤ 600000; omega) (by show _ ≤ 7302250; omega) (Nat.le_of_ble_eq_true rfl) dL_law_243 rfl ?_
          refine zr_icmp_eq 1740 dL_law_246 (by decide) (fun hc => ?_) (fun hc => ?_)
          · rw [if_pos hc] at hf
            refine zr_iinc (j := 3) (x3_9 + 8) [(3, .int (x3_9 + 8)), (0, .ref x0), (1, .ref μ.2.1), (2, .ref m4.2.1)] dL_law_1740 rfl rfl (Nat.le_of_ble_eq_true rfl) rfl ?_
            refine zr_goto 18 dL_law_1743 (by decide) ?_
            refine zr_widen (k := KC + 64) (n := KS + 4000) (by omega) (by omega) ?_
            exact zr_lv [1, 2, 3, 0] rfl (ih12 (KC + 64) (KS + 4000) (x3_9 + 8) m39 (by omega) (by omega) hf)
          · rw [if_neg hc] at hf
            refine zr_iconst 0 dL_law_249 (by decide) ?_
            refine zr_widen (k := 600000) (n := 7302250) (by omega) (by omega) ?_
            cases hf
            exact zr_zret rfl dL_law_250
        rw [if_neg hs41] at hf
        rcases zdec ((v13 &&& 63) = 1) with hs52 | hs52
        · rw [if_pos hs52] at hf
          refine zr_tableIn (off := 218) 251 dL_law_33 (by rw [hs52]; decide) (by rw [hs52]; decide) (by rw [hs52]; rfl) (by decide) ?_
          refine zr_aload_n 1 dL_law_251 rfl ?_
          refine zr_aload_n 0 dL_law_252 rfl ?_
          refine zr_iload_n 3 dL_law_253 rfl ?_
          refine zr_iconst 1 dL_law_254 (by decide) ?_
          refine zr_iadd dL_law_255 ?_
          replace hf := zb1_s hf
          obtain ⟨v42, h43, hf⟩ := hf
          refine zr_sld hX hbl hbA h43 dL_law_256 ?_
          replace hf := zb2_s hf
          obtain ⟨v46, m45, h44, hf⟩ := hf
          refine zr_callV (ci := 11) [.int v42] (cX11_end_ok h44) zvs_X11_end zl_1328 zl_1329 (fX11_end_ck h44) rfl rfl zl_1327 rfl (Nat.le_of_ble_eq_true rfl) (by show _ ≤ 600000; omega) (by show _ ≤ 7302250; omega) (Nat.le_of_ble_eq_true rfl) dL_law_257 rfl ?_
          refine zr_aload_n 2 dL_law_260 rfl ?_
          refine zr_aload_n 0 dL_law_261 rfl ?_
          refine zr_iload_n 3 dL_law_262 rfl ?_
          refine zr_iconst 1 dL_law_263 (by decide) ?_
          refine zr_iadd dL_law_264 ?_
          replace hf := zb1_s hf
          obtain ⟨v47, h48, hf⟩ := hf
          refine zr_sld hX hbl hbA h48 dL_law_265 ?_
          replace hf := zb2_s hf
          obtain ⟨v51, m50, h49, hf⟩ := hf
          refine zr_callV (ci := 12) [.int v47] (cX12_end_ok h49) zvs_X12_end zl_1332 zl_1333 (fX12_end_ck h49) rfl rfl zl_1331 rfl (Nat.le_of_ble_eq_true rfl) (by show _ ≤ 600000; omega) (by show _ ≤ 7302250; omega) (Nat.le_of_ble_eq_true rfl) dL_law_266 rfl ?_
          refine zr_icmp_eq 1740 dL_law_269 (by decide) (fun hc => ?_) (fun hc => ?_)
          · rw [if_pos hc] at hf
            refine zr_iinc (j := 3) (x3_9 + 8) [(3, .int (x3_9 + 8)), (0, .ref x0), (1, .ref μ.2.1), (2, .ref m4.2.1)] dL_law_1740 rfl rfl (Nat.le_of_ble_eq_true rfl) rfl ?_
            refine zr_goto 18 dL_law_1743 (by decide) ?_
            refine zr_widen (k := KC + 64) (n := KS + 4000) (by omega) (by omega) ?_
            exact zr_lv [1, 2, 3, 0] rfl (ih12 (KC + 64) (KS + 4000) (x3_9 + 8) m50 (by omega) (by omega) hf)
          · rw [if_neg hc] at hf
            refine zr_iconst 0 dL_law_272 (by decide) ?_
            refine zr_widen (k := 600000) (n := 7302250) (by omega) (by omega) ?_
            cases hf
            exact zr_zret rfl dL_law_273
        rw [if_neg hs52] at hf
        rcases zdec ((v13 &&& 63) = 2) with hs67 | hs67
        · rw [if_pos hs67] at hf
          refine zr_tableIn (off := 241) 274 dL_law_33 (by rw [hs67]; decide) (by rw [hs67]; decide) (by rw [hs67]; rfl) (by decide) ?_
          refine zr_aload_n 1 dL_law_274 rfl ?_
          refine zr_aload_n 0 dL_law_275 rfl ?_
          refine zr_iload_n 3 dL_law_276 rfl ?_
          refine zr_iconst 1 dL_law_277 (by decide) ?_
          refine zr_iadd dL_law_278 ?_
          replace hf := zb1_s hf
          obtain ⟨v53, h54, hf⟩ := hf
          refine zr_sld hX hbl hbA h54 dL_law_279 ?_
          refine zr_aload_n 0 dL_law_280 rfl ?_
          refine zr_iload_n 3 dL_law_281 rfl ?_
          refine zr_iconst 2 dL_law_282 (by decide) ?_
          refine zr_iadd dL_law_283 ?_
          replace hf := zb1_s hf
          obtain ⟨v55, h56, hf⟩ := hf
          refine zr_sld hX hbl hbA h56 dL_law_284 ?_
          replace hf := zb2_s hf
          obtain ⟨v59, m58, h57, hf⟩ := hf
          refine zr_callV (ci := 11) [.int v53, .int v55] (cX11_text_ok h57) zvs_X11_text zl_1336 zl_1337 (fX11_text_ck h57) rfl rfl zl_1335 rfl (Nat.le_of_ble_eq_true rfl) (by show _ ≤ 600000; omega) (by show _ ≤ 7302250; omega) (Nat.le_of_ble_eq_true rfl) dL_law_285 rfl ?_
          refine zr_aload_n 2 dL_law_288 rfl ?_
          refine zr_aload_n 0 dL_law_289 rfl ?_
          refine zr_iload_n 3 dL_law_290 rfl ?_
          refine zr_iconst 1 dL_law_291 (by decide) ?_
          refine zr_iadd dL_law_292 ?_
          replace hf := zb1_s hf
          obtain ⟨v60, h61, hf⟩ := hf
          refine zr_sld hX hbl hbA h61 dL_law_293 ?_
          refine zr_aload_n 0 dL_law_294 rfl ?_
          refine zr_iload_n 3 dL_law_295 rfl ?_
          refine zr_iconst 2 dL_law_296 (by decide) ?_
          refine zr_iadd dL_law_297 ?_
          replace hf := zb1_s hf
          obtain ⟨v62, h63, hf⟩ := hf
          refine zr_sld hX hbl hbA h63 dL_law_298 ?_
          replace hf := zb2_s hf
          obtain ⟨v66, m65, h64, hf⟩ := hf
          refine zr_callV (ci := 12) [.int v60, .int v62] (cX12_text_ok h64) zvs_X12_text zl_1340 zl_1341 (fX12_text_ck h64) rfl rfl zl_1339 rfl (Nat.le_of_ble_eq_true rfl) (by show _ ≤ 600000; omega) (by show _ ≤ 7302250; omega) (Nat.le_of_ble_eq_true rfl) dL_law_299 rfl ?_
          refine zr_icmp_eq 1740 dL_law_302 (by decide) (fun hc => ?_) (fun hc => ?_)
          · rw [if_pos hc] at hf
            refine zr_iinc (j := 3) (x3_9 + 8) [(3, .int (x3_9 + 8)), (0, .ref x0), (1, .ref μ.2.1), (2, .ref m4.2.1)] dL_law_1740 rfl rfl (Nat.le_of_ble_eq_true rfl) rfl ?_
            refine zr_goto 18 dL_law_1743 (by decide) ?_
            refine zr_widen (k := KC + 64) (n := KS + 4000) (by omega) (by omega) ?_
            exact zr_lv [1, 2, 3, 0] rfl (ih12 (KC + 64) (KS + 4000) (x3_9 + 8) m65 (by omega) (by omega) hf)
          · rw [if_neg hc] at hf
            refine zr_iconst 0 dL_law_305 (by decide) ?_
            refine zr_widen (k := 600000) (n := 7302250) (by omega) (by omega) ?_
            cases hf
            exact zr_zret rfl dL_law_306
        rw [if_neg hs67] at hf
        rcases zdec ((v13 &&& 63) = 3) with hs77 | hs77
        · rw [if_pos hs77] at hf
          refine zr_tableIn (off := 274) 307 dL_law_33 (by rw [hs77]; decide) (by rw [hs77]; decide) (by rw [hs77]; rfl) (by decide) ?_
          refine zr_aload_n 1 dL_law_307 rfl ?_
          refine zr_aload_n 0 dL_law_308 rfl ?_
          refine zr_iload_n 3 dL_law_309 rfl ?_
          refine zr_iconst 1 dL_law_310 (by decide) ?_
          refine zr_iadd dL_law_311 ?_
          replace hf := zb1_s hf
          obtain ⟨v68, h69, hf⟩ := hf
          refine zr_sld hX hbl hbA h69 dL_law_312 ?_
          replace hf := zb1_s hf
          obtain ⟨v71, h70, hf⟩ := hf
          refine zr_callV (ci := 11) [.int v68] (cX11_fault_ok h70) zvs_X11_fault zl_1344 zl_1345 (fX11_fault_ck h70) rfl rfl zl_1343 rfl (Nat.le_of_ble_eq_true rfl) (by show _ ≤ 600000; omega) (by show _ ≤ 7302250; omega) (Nat.le_of_ble_eq_true rfl) dL_law_313 rfl ?_
          refine zr_aload_n 2 dL_law_316 rfl ?_
          refine zr_aload_n 0 dL_law_317 rfl ?_
          refine zr_iload_n 3 dL_law_318 rfl ?_
          refine zr_iconst 1 dL_law_319 (by decide) ?_
          refine zr_iadd dL_law_320 ?_
          replace hf := zb1_s hf
          obtain ⟨v72, h73, hf⟩ := hf
          refine zr_sld hX hbl hbA h73 dL_law_321 ?_
          replace hf := zb2_s hf
          obtain ⟨v76, m75, h74, hf⟩ := hf
          refine zr_callV (ci := 12) [.int v72] (cX12_fault_ok h74) zvs_X12_fault zl_1348 zl_1349 (fX12_fault_ck h74) rfl rfl zl_1347 rfl (Nat.le_of_ble_eq_true rfl) (by show _ ≤ 600000; omega) (by show _ ≤ 7302250; omega) (Nat.le_of_ble_eq_true rfl) dL_law_322 rfl ?_
          refine zr_icmp_eq 1740 dL_law_325 (by decide) (fun hc => ?_) (fun hc => ?_)
          · rw [if_pos hc] at hf
            refine zr_iinc (j := 3) (x3_9 + 8) [(3, .int (x3_9 + 8)), (0, .ref x0), (1, .ref μ.2.1), (2, .ref m4.2.1)] dL_law_1740 rfl rfl (Nat.le_of_ble_eq_true rfl) rfl ?_
            refine zr_goto 18 dL_law_1743 (by decide) ?_
            refine zr_widen (k := KC + 64) (n := KS + 4000) (by omega) (by omega) ?_
            exact zr_lv [1, 2, 3, 0] rfl (ih12 (KC + 64) (KS + 4000) (x3_9 + 8) m75 (by omega) (by omega) hf)
          · rw [if_neg hc] at hf
            refine zr_iconst 0 dL_law_328 (by decide) ?_
            refine zr_widen (k := 600000) (n := 7302250) (by omega) (by omega) ?_
            cases hf
            exact zr_zret rfl dL_law_329
        rw [if_neg hs77] at hf
        rcases zdec ((v13 &&& 63) = 4) with hs91 | hs91
        · rw [if_pos hs91] at hf
          refine zr_tableIn (off := 297) 330 dL_law_33 (by rw [hs91]; decide) (by rw [hs91]; decide) (by rw [hs91]; rfl) (by decide) ?_
          refine zr_aload_n 1 dL_law_330 rfl ?_
          refine zr_aload_n 0 dL_law_331 rfl ?_
          refine zr_iload_n 3 dL_law_332 rfl ?_
          refine zr_iconst 1 dL_law_333 (by decide) ?_
          refine zr_iadd dL_law_334 ?_
          replace hf := zb1_s hf
          obtain ⟨v78, h79, hf⟩ := hf
          refine zr_sld hX hbl hbA h79 dL_law_335 ?_
          refine zr_aload_n 0 dL_law_336 rfl ?_
          refine zr_iload_n 3 dL_law_337 rfl ?_
          refine zr_iconst 2 dL_law_338 (by decide) ?_
          refine zr_iadd dL_law_339 ?_
          replace hf := zb1_s hf
          obtain ⟨v80, h81, hf⟩ := hf
          refine zr_sld hX hbl hbA h81 dL_law_340 ?_
          replace hf := zb1_s hf
          obtain ⟨v83, h82, hf⟩ := hf
          refine zr_callV (ci := 11) [.int v78, .int v80] (cX11_valley_ok h82) zvs_X11_valley zl_1352 zl_1353 (fX11_valley_ck h82) rfl rfl zl_1351 rfl (Nat.le_of_ble_eq_true rfl) (by show _ ≤ 600000; omega) (by show _ ≤ 7302250; omega) (Nat.le_of_ble_eq_true rfl) dL_law_341 rfl ?_
          refine zr_aload_n 2 dL_law_344 rfl ?_
          refine zr_aload_n 0 dL_law_345 rfl ?_
          refine zr_iload_n 3 dL_law_346 rfl ?_
          refine zr_iconst 1 dL_law_347 (by decide) ?_
          refine zr_iadd dL_law_348 ?_
          replace hf := zb1_s hf
          obtain ⟨v84, h85, hf⟩ := hf
          refine zr_sld hX hbl hbA h85 dL_law_349 ?_
          refine zr_aload_n 0 dL_law_350 rfl ?_
          refine zr_iload_n 3 dL_law_351 rfl ?_
          refine zr_iconst 2 dL_law_352 (by decide) ?_
          refine zr_iadd dL_law_353 ?_
          replace hf := zb1_s hf
          obtain ⟨v86, h87, hf⟩ := hf
          refine zr_sld hX hbl hbA h87 dL_law_354 ?_
          replace hf := zb2_s hf
          obtain ⟨v90, m89, h88, hf⟩ := hf
          refine zr_callV (ci := 12) [.int v84, .int v86] (cX12_valley_ok h88) zvs_X12_valley zl_1356 zl_1357 (fX12_valley_ck h88) rfl rfl zl_1355 rfl (Nat.le_of_ble_eq_true rfl) (by show _ ≤ 600000; omega) (by show _ ≤ 7302250; omega) (Nat.le_of_ble_eq_true rfl) dL_law_355 rfl ?_
          refine zr_icmp_eq 1740 dL_law_358 (by decide) (fun hc => ?_) (fun hc => ?_)
          · rw [if_pos hc] at hf
            refine zr_iinc (j := 3) (x3_9 + 8) [(3, .int (x3_9 + 8)), (0, .ref x0), (1, .ref μ.2.1), (2, .ref m4.2.1)] dL_law_1740 rfl rfl (Nat.le_of_ble_eq_true rfl) rfl ?_
            refine zr_goto 18 dL_law_1743 (by decide) ?_
            refine zr_widen (k := KC + 64) (n := KS + 4000) (by omega) (by omega) ?_
            exact zr_lv [1, 2, 3, 0] rfl (ih12 (KC + 64) (KS + 4000) (x3_9 + 8) m89 (by omega) (by omega) hf)
          · rw [if_neg hc] at hf
            refine zr_iconst 0 dL_law_361 (by decide) ?_
            refine zr_widen (k := 600000) (n := 7302250) (by omega) (by omega) ?_
            cases hf
            exact zr_zret rfl dL_law_362
        rw [if_neg hs91] at hf
        rcases zdec ((v13 &&& 63) = 5) with hs125 | hs125
        · rw [if_pos hs125] at hf
          refine zr_tableIn (off := 330) 363 dL_law_33 (by rw [hs125]; decide) (by rw [hs125]; decide) (by rw [hs125]; rfl) (by decide) ?_
          refine zr_aload_n 1 dL_law_363 rfl ?_
          refine zr_aload_n 0 dL_law_364 rfl ?_
          refine zr_iload_n 3 dL_law_365 rfl ?_
          refine zr_iconst 1 dL_law_366 (by decide) ?_
          refine zr_iadd dL_law_367 ?_
          replace hf := zb1_s hf
          obtain ⟨v92, h93, hf⟩ := hf
          refine zr_sld hX hbl hbA h93 dL_law_368 ?_
          refine zr_aload_n 0 dL_law_369 rfl ?_
          refine zr_iload_n 3 dL_law_370 rfl ?_
          refine zr_iconst 2 dL_law_371 (by decide) ?_
          refine zr_iadd dL_law_372 ?_
          replace hf := zb1_s hf
          obtain ⟨v94, h95, hf⟩ := hf
          refine zr_sld hX hbl hbA h95 dL_law_373 ?_
          refine zr_aload_n 0 dL_law_374 rfl ?_
          refine zr_iload_n 3 dL_law_375 rfl ?_
          refine zr_iconst 3 dL_law_376 (by decide) ?_
          refine zr_iadd dL_law_377 ?_
          replace hf := zb1_s hf
          obtain ⟨v96, h97, hf⟩ := hf
          refine zr_sld hX hbl hbA h97 dL_law_378 ?_
          refine zr_aload_n 0 dL_law_379 rfl ?_
          refine zr_iload_n 3 dL_law_380 rfl ?_
          refine zr_iconst 4 dL_law_381 (by decide) ?_
          refine zr_iadd dL_law_382 ?_
          replace hf := zb1_s hf
          obtain ⟨v98, h99, hf⟩ := hf
          refine zr_sld hX hbl hbA h99 dL_law_383 ?_
          refine zr_aload_n 0 dL_law_384 rfl ?_
          refine zr_iload_n 3 dL_law_385 rfl ?_
          refine zr_iconst 5 dL_law_386 (by decide) ?_
          refine zr_iadd dL_law_387 ?_
          replace hf := zb1_s hf
          obtain ⟨v100, h101, hf⟩ := hf
          refine zr_sld hX hbl hbA h101 dL_law_388 ?_
          refine zr_aload_n 0 dL_law_389 rfl ?_
          refine zr_iload_n 3 dL_law_390 rfl ?_
          refine zr_bipush 6 dL_law_391 (by decide) ?_
          refine zr_iadd dL_law_393 ?_
          replace hf := zb1_s hf
          obtain ⟨v102, h103, hf⟩ := hf
          refine zr_sld hX hbl hbA h103 dL_law_394 ?_
          refine zr_aload_n 0 dL_law_395 rfl ?_
          refine zr_iload_n 3 dL_law_396 rfl ?_
          refine zr_bipush 7 dL_law_397 (by decide) ?_
          refine zr_iadd dL_law_399 ?_
          replace hf := zb1_s hf
          obtain ⟨v104, h105, hf⟩ := hf
          refine zr_sld hX hbl hbA h105 dL_law_400 ?_
          replace hf := zb1_s hf
          obtain ⟨v107, h106, hf⟩ := hf
          refine zr_callV (ci := 11) [.int v92, .int v94, .int v96, .int v98, .int v100, .int v102, .int v104] (cX11_heard_ok h106) zvs_X11_heard zl_1360 zl_1361 (fX11_heard_ck h106) rfl rfl zl_1359 rfl (Nat.le_of_ble_eq_true rfl) (by show _ ≤ 600000; omega) (by show _ ≤ 7302250; omega) (Nat.le_of_ble_eq_true rfl) dL_law_401 rfl ?_
          refine zr_aload_n 2 dL_law_404 rfl ?_
          refine zr_aload_n 0 dL_law_405 rfl ?_
          refine zr_iload_n 3 dL_law_406 rfl ?_
          refine zr_iconst 1 dL_law_407 (by decide) ?_
          refine zr_iadd dL_law_408 ?_
          replace hf := zb1_s hf
          obtain ⟨v108, h109, hf⟩ := hf
          refine zr_sld hX hbl hbA h109 dL_law_409 ?_
          refine zr_aload_n 0 dL_law_410 rfl ?_
          refine zr_iload_n 3 dL_law_411 rfl ?_
          refine zr_iconst 2 dL_law_412 (by decide) ?_
          refine zr_iadd dL_law_413 ?_
          replace hf := zb1_s hf
          obtain ⟨v110, h111, hf⟩ := hf
          refine zr_sld hX hbl hbA h111 dL_law_414 ?_
          refine zr_aload_n 0 dL_law_415 rfl ?_
          refine zr_iload_n 3 dL_law_416 rfl ?_
          refine zr_iconst 3 dL_law_417 (by decide) ?_
          refine zr_iadd dL_law_418 ?_
          replace hf := zb1_s hf
          obtain ⟨v112, h113, hf⟩ := hf
          refine zr_sld hX hbl hbA h113 dL_law_419 ?_
          refine zr_aload_n 0 dL_law_420 rfl ?_
          refine zr_iload_n 3 dL_law_421 rfl ?_
          refine zr_iconst 4 dL_law_422 (by decide) ?_
          refine zr_iadd dL_law_423 ?_
          replace hf := zb1_s hf
          obtain ⟨v114, h115, hf⟩ := hf
          refine zr_sld hX hbl hbA h115 dL_law_424 ?_
          refine zr_aload_n 0 dL_law_425 rfl ?_
          refine zr_iload_n 3 dL_law_426 rfl ?_
          refine zr_iconst 5 dL_law_427 (by decide) ?_
          refine zr_iadd dL_law_428 ?_
          replace hf := zb1_s hf
          obtain ⟨v116, h117, hf⟩ := hf
          refine zr_sld hX hbl hbA h117 dL_law_429 ?_
          refine zr_aload_n 0 dL_law_430 rfl ?_
          refine zr_iload_n 3 dL_law_431 rfl ?_
          refine zr_bipush 6 dL_law_432 (by decide) ?_
          refine zr_iadd dL_law_434 ?_
          replace hf := zb1_s hf
          obtain ⟨v118, h119, hf⟩ := hf
          refine zr_sld hX hbl hbA h119 dL_law_435 ?_
          refine zr_aload_n 0 dL_law_436 rfl ?_
          refine zr_iload_n 3 dL_law_437 rfl ?_
          refine zr_bipush 7 dL_law_438 (by decide) ?_
          refine zr_iadd dL_law_440 ?_
          replace hf := zb1_s hf
          obtain ⟨v120, h121, hf⟩ := hf
          refine zr_sld hX hbl hbA h121 dL_law_441 ?_
          replace hf := zb2_s hf
          obtain ⟨v124, m123, h122, hf⟩ := hf
          refine zr_callV (ci := 12) [.int v108, .int v110, .int v112, .int v114, .int v116, .int v118, .int v120] (cX12_heard_ok h122) zvs_X12_heard zl_1364 zl_1365 (fX12_heard_ck h122) rfl rfl zl_1363 rfl (Nat.le_of_ble_eq_true rfl) (by show _ ≤ 600000; omega) (by show _ ≤ 7302250; omega) (Nat.le_of_ble_eq_true rfl) dL_law_442 rfl ?_
          refine zr_icmp_eq 1740 dL_law_445 (by decide) (fun hc => ?_) (fun hc => ?_)
          · rw [if_pos hc] at hf
            refine zr_iinc (j := 3) (x3_9 + 8) [(3, .int (x3_9 + 8)), (0, .ref x0), (1, .ref μ.2.1), (2, .ref m4.2.1)] dL_law_1740 rfl rfl (Nat.le_of_ble_eq_true rfl) rfl ?_
            refine zr_goto 18 dL_law_1743 (by decide) ?_
            refine zr_widen (k := KC + 64) (n := KS + 4000) (by omega) (by omega) ?_
            exact zr_lv [1, 2, 3, 0] rfl (ih12 (KC + 64) (KS + 4000) (x3_9 + 8) m123 (by omega) (by omega) hf)
          · rw [if_neg hc] at hf
            refine zr_iconst 0 dL_law_448 (by decide) ?_
            refine zr_widen (k := 600000) (n := 7302250) (by omega) (by omega) ?_
            cases hf
            exact zr_zret rfl dL_law_449
        rw [if_neg hs125] at hf
        rcases zdec ((v13 &&& 63) = 6) with hs147 | hs147
        · rw [if_pos hs147] at hf
          refine zr_tableIn (off := 417) 450 dL_law_33 (by rw [hs147]; decide) (by rw [hs147]; decide) (by rw [hs147]; rfl) (by decide) ?_
          refine zr_aload_n 1 dL_law_450 rfl ?_
          refine zr_aload_n 0 dL_law_451 rfl ?_
          refine zr_iload_n 3 dL_law_452 rfl ?_
          refine zr_iconst 1 dL_law_453 (by decide) ?_
          refine zr_iadd dL_law_454 ?_
          replace hf := zb1_s hf
          obtain ⟨v126, h127, hf⟩ := hf
          refine zr_sld hX hbl hbA h127 dL_law_455 ?_
          refine zr_aload_n 0 dL_law_456 rfl ?_
          refine zr_iload_n 3 dL_law_457 rfl ?_
          refine zr_iconst 2 dL_law_458 (by decide) ?_
          refine zr_iadd dL_law_459 ?_
          replace hf := zb1_s hf
          obtain ⟨v128, h129, hf⟩ := hf
          refine zr_sld hX hbl hbA h129 dL_law_460 ?_
          refine zr_aload_n 0 dL_law_461 rfl ?_
          refine zr_iload_n 3 dL_law_462 rfl ?_
          refine zr_iconst 3 dL_law_463 (by decide) ?_
          refine zr_iadd dL_law_464 ?_
          replace hf := zb1_s hf
          obtain ⟨v130, h131, hf⟩ := hf
          refine zr_sld hX hbl hbA h131 dL_law_465 ?_
          refine zr_aload_n 0 dL_law_466 rfl ?_
          refine zr_iload_n 3 dL_law_467 rfl ?_
          refine zr_iconst 4 dL_law_468 (by decide) ?_
          refine zr_iadd dL_law_469 ?_
          replace hf := zb1_s hf
          obtain ⟨v132, h133, hf⟩ := hf
          refine zr_sld hX hbl hbA h133 dL_law_470 ?_
          replace hf := zb1_s hf
          obtain ⟨v135, h134, hf⟩ := hf
          refine zr_callV (ci := 11) [.int v126, .int v128, .int v130, .int v132] (cX11_gives_ok h134) zvs_X11_gives zl_1368 zl_1369 (fX11_gives_ck h134) rfl rfl zl_1367 rfl (Nat.le_of_ble_eq_true rfl) (by show _ ≤ 600000; omega) (by show _ ≤ 7302250; omega) (Nat.le_of_ble_eq_true rfl) dL_law_471 rfl ?_
          refine zr_aload_n 2 dL_law_474 rfl ?_
          refine zr_aload_n 0 dL_law_475 rfl ?_
          refine zr_iload_n 3 dL_law_476 rfl ?_
          refine zr_iconst 1 dL_law_477 (by decide) ?_
          refine zr_iadd dL_law_478 ?_
          replace hf := zb1_s hf
          obtain ⟨v136, h137, hf⟩ := hf
          refine zr_sld hX hbl hbA h137 dL_law_479 ?_
          refine zr_aload_n 0 dL_law_480 rfl ?_
          refine zr_iload_n 3 dL_law_481 rfl ?_
          refine zr_iconst 2 dL_law_482 (by decide) ?_
          refine zr_iadd dL_law_483 ?_
          replace hf := zb1_s hf
          obtain ⟨v138, h139, hf⟩ := hf
          refine zr_sld hX hbl hbA h139 dL_law_484 ?_
          refine zr_aload_n 0 dL_law_485 rfl ?_
          refine zr_iload_n 3 dL_law_486 rfl ?_
          refine zr_iconst 3 dL_law_487 (by decide) ?_
          refine zr_iadd dL_law_488 ?_
          replace hf := zb1_s hf
          obtain ⟨v140, h141, hf⟩ := hf
          refine zr_sld hX hbl hbA h141 dL_law_489 ?_
          refine zr_aload_n 0 dL_law_490 rfl ?_
          refine zr_iload_n 3 dL_law_491 rfl ?_
          refine zr_iconst 4 dL_law_492 (by decide) ?_
          refine zr_iadd dL_law_493 ?_
          replace hf := zb1_s hf
          obtain ⟨v142, h143, hf⟩ := hf
          refine zr_sld hX hbl hbA h143 dL_law_494 ?_
          replace hf := zb2_s hf
          obtain ⟨v146, m145, h144, hf⟩ := hf
          refine zr_callV (ci := 12) [.int v136, .int v138, .int v140, .int v142] (cX12_gives_ok h144) zvs_X12_gives zl_1372 zl_1373 (fX12_gives_ck h144) rfl rfl zl_1371 rfl (Nat.le_of_ble_eq_true rfl) (by show _ ≤ 600000; omega) (by show _ ≤ 7302250; omega) (Nat.le_of_ble_eq_true rfl) dL_law_495 rfl ?_
          refine zr_icmp_eq 1740 dL_law_498 (by decide) (fun hc => ?_) (fun hc => ?_)
          · rw [if_pos hc] at hf
            refine zr_iinc (j := 3) (x3_9 + 8) [(3, .int (x3_9 + 8)), (0, .ref x0), (1, .ref μ.2.1), (2, .ref m4.2.1)] dL_law_1740 rfl rfl (Nat.le_of_ble_eq_true rfl) rfl ?_
            refine zr_goto 18 dL_law_1743 (by decide) ?_
            refine zr_widen (k := KC + 64) (n := KS + 4000) (by omega) (by omega) ?_
            exact zr_lv [1, 2, 3, 0] rfl (ih12 (KC + 64) (KS + 4000) (x3_9 + 8) m145 (by omega) (by omega) hf)
          · rw [if_neg hc] at hf
            refine zr_iconst 0 dL_law_501 (by decide) ?_
            refine zr_widen (k := 600000) (n := 7302250) (by omega) (by omega) ?_
            cases hf
            exact zr_zret rfl dL_law_502
        rw [if_neg hs147] at hf
        rcases zdec ((v13 &&& 63) = 7) with hs165 | hs165
        · rw [if_pos hs165] at hf
          refine zr_tableIn (off := 470) 503 dL_law_33 (by rw [hs165]; decide) (by rw [hs165]; decide) (by rw [hs165]; rfl) (by decide) ?_
          refine zr_aload_n 1 dL_law_503 rfl ?_
          refine zr_aload_n 0 dL_law_504 rfl ?_
          refine zr_iload_n 3 dL_law_505 rfl ?_
          refine zr_iconst 1 dL_law_506 (by decide) ?_
          refine zr_iadd dL_law_507 ?_
          replace hf := zb1_s hf
          obtain ⟨v148, h149, hf⟩ := hf
          refine zr_sld hX hbl hbA h149 dL_law_508 ?_
          refine zr_aload_n 0 dL_law_509 rfl ?_
          refine zr_iload_n 3 dL_law_510 rfl ?_
          refine zr_iconst 2 dL_law_511 (by decide) ?_
          refine zr_iadd dL_law_512 ?_
          replace hf := zb1_s hf
          obtain ⟨v150, h151, hf⟩ := hf
          refine zr_sld hX hbl hbA h151 dL_law_513 ?_
          refine zr_aload_n 0 dL_law_514 rfl ?_
          refine zr_iload_n 3 dL_law_515 rfl ?_
          refine zr_iconst 3 dL_law_516 (by decide) ?_
          refine zr_iadd dL_law_517 ?_
          replace hf := zb1_s hf
          obtain ⟨v152, h153, hf⟩ := hf
          refine zr_sld hX hbl hbA h153 dL_law_518 ?_
          replace hf := zb1_s hf
          obtain ⟨v155, h154, hf⟩ := hf
          refine zr_callV (ci := 11) [.int v148, .int v150, .int v152] (cX11_deed_ok h154) zvs_X11_deed zl_1376 zl_1377 (fX11_deed_ck h154) rfl rfl zl_1375 rfl (Nat.le_of_ble_eq_true rfl) (by show _ ≤ 600000; omega) (by show _ ≤ 7302250; omega) (Nat.le_of_ble_eq_true rfl) dL_law_519 rfl ?_
          refine zr_aload_n 2 dL_law_522 rfl ?_
          refine zr_aload_n 0 dL_law_523 rfl ?_
          refine zr_iload_n 3 dL_law_524 rfl ?_
          refine zr_iconst 1 dL_law_525 (by decide) ?_
          refine zr_iadd dL_law_526 ?_
          replace hf := zb1_s hf
          obtain ⟨v156, h157, hf⟩ := hf
          refine zr_sld hX hbl hbA h157 dL_law_527 ?_
          refine zr_aload_n 0 dL_law_528 rfl ?_
          refine zr_iload_n 3 dL_law_529 rfl ?_
          refine zr_iconst 2 dL_law_530 (by decide) ?_
          refine zr_iadd dL_law_531 ?_
          replace hf := zb1_s hf
          obtain ⟨v158, h159, hf⟩ := hf
          refine zr_sld hX hbl hbA h159 dL_law_532 ?_
          refine zr_aload_n 0 dL_law_533 rfl ?_
          refine zr_iload_n 3 dL_law_534 rfl ?_
          refine zr_iconst 3 dL_law_535 (by decide) ?_
          refine zr_iadd dL_law_536 ?_
          replace hf := zb1_s hf
          obtain ⟨v160, h161, hf⟩ := hf
          refine zr_sld hX hbl hbA h161 dL_law_537 ?_
          replace hf := zb2_s hf
          obtain ⟨v164, m163, h162, hf⟩ := hf
          refine zr_callV (ci := 12) [.int v156, .int v158, .int v160] (cX12_deed_ok h162) zvs_X12_deed zl_1380 zl_1381 (fX12_deed_ck h162) rfl rfl zl_1379 rfl (Nat.le_of_ble_eq_true rfl) (by show _ ≤ 600000; omega) (by show _ ≤ 7302250; omega) (Nat.le_of_ble_eq_true rfl) dL_law_538 rfl ?_
          refine zr_icmp_eq 1740 dL_law_541 (by decide) (fun hc => ?_) (fun hc => ?_)
          · rw [if_pos hc] at hf
            refine zr_iinc (j := 3) (x3_9 + 8) [(3, .int (x3_9 + 8)), (0, .ref x0), (1, .ref μ.2.1), (2, .ref m4.2.1)] dL_law_1740 rfl rfl (Nat.le_of_ble_eq_true rfl) rfl ?_
            refine zr_goto 18 dL_law_1743 (by decide) ?_
            refine zr_widen (k := KC + 64) (n := KS + 4000) (by omega) (by omega) ?_
            exact zr_lv [1, 2, 3, 0] rfl (ih12 (KC + 64) (KS + 4000) (x3_9 + 8) m163 (by omega) (by omega) hf)
          · rw [if_neg hc] at hf
            refine zr_iconst 0 dL_law_544 (by decide) ?_
            refine zr_widen (k := 600000) (n := 7302250) (by omega) (by omega) ?_
            cases hf
            exact zr_zret rfl dL_law_545
        rw [if_neg hs165] at hf
        rcases zdec ((v13 &&& 63) = 8) with hs180 | hs180
        · rw [if_pos hs180] at hf
          refine zr_tableIn (off := 513) 546 dL_law_33 (by rw [hs180]; decide) (by rw [hs180]; decide) (by rw [hs180]; rfl) (by decide) ?_
          refine zr_aload_n 1 dL_law_546 rfl ?_
          refine zr_aload_n 0 dL_law_547 rfl ?_
          refine zr_iload_n 3 dL_law_548 rfl ?_
          refine zr_iconst 1 dL_law_549 (by decide) ?_
          refine zr_iadd dL_law_550 ?_
          replace hf := zb1_s hf
          obtain ⟨v166, h167, hf⟩ := hf
          refine zr_sld hX hbl hbA h167 dL_law_551 ?_
          refine zr_aload_n 0 dL_law_552 rfl ?_
          refine zr_iload_n 3 dL_law_553 rfl ?_
          refine zr_iconst 2 dL_law_554 (by decide) ?_
          refine zr_iadd dL_law_555 ?_
          replace hf := zb1_s hf
          obtain ⟨v168, h169, hf⟩ := hf
          refine zr_sld hX hbl hbA h169 dL_law_556 ?_
          replace hf := zb2_s hf
          obtain ⟨v172, m171, h170, hf⟩ := hf
          refine zr_callV (ci := 11) [.int v166, .int v168] (cX11_stop_ok h170) zvs_X11_stop zl_1384 zl_1385 (fX11_stop_ck h170) rfl rfl zl_1383 rfl (Nat.le_of_ble_eq_true rfl) (by show _ ≤ 600000; omega) (by show _ ≤ 7302250; omega) (Nat.le_of_ble_eq_true rfl) dL_law_557 rfl ?_
          refine zr_aload_n 2 dL_law_560 rfl ?_
          refine zr_aload_n 0 dL_law_561 rfl ?_
          refine zr_iload_n 3 dL_law_562 rfl ?_
          refine zr_iconst 1 dL_law_563 (by decide) ?_
          refine zr_iadd dL_law_564 ?_
          replace hf := zb1_s hf
          obtain ⟨v173, h174, hf⟩ := hf
          refine zr_sld hX hbl hbA h174 dL_law_565 ?_
          refine zr_aload_n 0 dL_law_566 rfl ?_
          refine zr_iload_n 3 dL_law_567 rfl ?_
          refine zr_iconst 2 dL_law_568 (by decide) ?_
          refine zr_iadd dL_law_569 ?_
          replace hf := zb1_s hf
          obtain ⟨v175, h176, hf⟩ := hf
          refine zr_sld hX hbl hbA h176 dL_law_570 ?_
          replace hf := zb2_s hf
          obtain ⟨v179, m178, h177, hf⟩ := hf
          refine zr_callV (ci := 12) [.int v173, .int v175] (cX12_stop_ok h177) zvs_X12_stop zl_1388 zl_1389 (fX12_stop_ck h177) rfl rfl zl_1387 rfl (Nat.le_of_ble_eq_true rfl) (by show _ ≤ 600000; omega) (by show _ ≤ 7302250; omega) (Nat.le_of_ble_eq_true rfl) dL_law_571 rfl ?_
          refine zr_icmp_eq 1740 dL_law_574 (by decide) (fun hc => ?_) (fun hc => ?_)
          · rw [if_pos hc] at hf
            refine zr_iinc (j := 3) (x3_9 + 8) [(3, .int (x3_9 + 8)), (0, .ref x0), (1, .ref μ.2.1), (2, .ref m4.2.1)] dL_law_1740 rfl rfl (Nat.le_of_ble_eq_true rfl) rfl ?_
            refine zr_goto 18 dL_law_1743 (by decide) ?_
            refine zr_widen (k := KC + 64) (n := KS + 4000) (by omega) (by omega) ?_
            exact zr_lv [1, 2, 3, 0] rfl (ih12 (KC + 64) (KS + 4000) (x3_9 + 8) m178 (by omega) (by omega) hf)
          · rw [if_neg hc] at hf
            refine zr_iconst 0 dL_law_577 (by decide) ?_
            refine zr_widen (k := 600000) (n := 7302250) (by omega) (by omega) ?_
            cases hf
            exact zr_zret rfl dL_law_578
        rw [if_neg hs180] at hf
        rcases zdec ((v13 &&& 63) = 9) with hs203 | hs203
        · rw [if_pos hs203] at hf
          refine zr_tableIn (off := 546) 579 dL_law_33 (by rw [hs203]; decide) (by rw [hs203]; decide) (by rw [hs203]; rfl) (by decide) ?_
          refine zr_aload_n 1 dL_law_579 rfl ?_
          refine zr_aload_n 0 dL_law_580 rfl ?_
          refine zr_iload_n 3 dL_law_581 rfl ?_
          refine zr_iconst 1 dL_law_582 (by decide) ?_
          refine zr_iadd dL_law_583 ?_
          replace hf := zb1_s hf
          obtain ⟨v181, h182, hf⟩ := hf
          refine zr_sld hX hbl hbA h182 dL_law_584 ?_
          refine zr_aload_n 0 dL_law_585 rfl ?_
          refine zr_iload_n 3 dL_law_586 rfl ?_
          refine zr_iconst 2 dL_law_587 (by decide) ?_
          refine zr_iadd dL_law_588 ?_
          replace hf := zb1_s hf
          obtain ⟨v183, h184, hf⟩ := hf
          refine zr_sld hX hbl hbA h184 dL_law_589 ?_
          refine zr_aload_n 0 dL_law_590 rfl ?_
          refine zr_iload_n 3 dL_law_591 rfl ?_
          refine zr_iconst 3 dL_law_592 (by decide) ?_
          refine zr_iadd dL_law_593 ?_
          replace hf := zb1_s hf
          obtain ⟨v185, h186, hf⟩ := hf
          refine zr_sld hX hbl hbA h186 dL_law_594 ?_
          refine zr_aload_n 0 dL_law_595 rfl ?_
          refine zr_iload_n 3 dL_law_596 rfl ?_
          refine zr_iconst 4 dL_law_597 (by decide) ?_
          refine zr_iadd dL_law_598 ?_
          replace hf := zb1_s hf
          obtain ⟨v187, h188, hf⟩ := hf
          refine zr_sld hX hbl hbA h188 dL_law_599 ?_
          replace hf := zb2_s hf
          obtain ⟨v191, m190, h189, hf⟩ := hf
          refine zr_callV (ci := 11) [.int v181, .int v183, .int v185, .int v187] (cX11_state_ok h189) zvs_X11_state zl_1392 zl_1393 (fX11_state_ck h189) rfl rfl zl_1391 rfl (Nat.le_of_ble_eq_true rfl) (by show _ ≤ 600000; omega) (by show _ ≤ 7302250; omega) (Nat.le_of_ble_eq_true rfl) dL_law_600 rfl ?_
          refine zr_aload_n 2 dL_law_603 rfl ?_
          refine zr_aload_n 0 dL_law_604 rfl ?_
          refine zr_iload_n 3 dL_law_605 rfl ?_
          refine zr_iconst 1 dL_law_606 (by decide) ?_
          refine zr_iadd dL_law_607 ?_
          replace hf := zb1_s hf
          obtain ⟨v192, h193, hf⟩ := hf
          refine zr_sld hX hbl hbA h193 dL_law_608 ?_
          refine zr_aload_n 0 dL_law_609 rfl ?_
          refine zr_iload_n 3 dL_law_610 rfl ?_
          refine zr_iconst 2 dL_law_611 (by decide) ?_
          refine zr_iadd dL_law_612 ?_
          replace hf := zb1_s hf
          obtain ⟨v194, h195, hf⟩ := hf
          refine zr_sld hX hbl hbA h195 dL_law_613 ?_
          refine zr_aload_n 0 dL_law_614 rfl ?_
          refine zr_iload_n 3 dL_law_615 rfl ?_
          refine zr_iconst 3 dL_law_616 (by decide) ?_
          refine zr_iadd dL_law_617 ?_
          replace hf := zb1_s hf
          obtain ⟨v196, h197, hf⟩ := hf
          refine zr_sld hX hbl hbA h197 dL_law_618 ?_
          refine zr_aload_n 0 dL_law_619 rfl ?_
          refine zr_iload_n 3 dL_law_620 rfl ?_
          refine zr_iconst 4 dL_law_621 (by decide) ?_
          refine zr_iadd dL_law_622 ?_
          replace hf := zb1_s hf
          obtain ⟨v198, h199, hf⟩ := hf
          refine zr_sld hX hbl hbA h199 dL_law_623 ?_
          replace hf := zb2_s hf
          obtain ⟨v202, m201, h200, hf⟩ := hf
          refine zr_callV (ci := 12) [.int v192, .int v194, .int v196, .int v198] (cX12_state_ok h200) zvs_X12_state zl_1396 zl_1397 (fX12_state_ck h200) rfl rfl zl_1395 rfl (Nat.le_of_ble_eq_true rfl) (by show _ ≤ 600000; omega) (by show _ ≤ 7302250; omega) (Nat.le_of_ble_eq_true rfl) dL_law_624 rfl ?_
          refine zr_icmp_eq 1740 dL_law_627 (by decide) (fun hc => ?_) (fun hc => ?_)
          · rw [if_pos hc] at hf
            refine zr_iinc (j := 3) (x3_9 + 8) [(3, .int (x3_9 + 8)), (0, .ref x0), (1, .ref μ.2.1), (2, .ref m4.2.1)] dL_law_1740 rfl rfl (Nat.le_of_ble_eq_true rfl) rfl ?_
            refine zr_goto 18 dL_law_1743 (by decide) ?_
            refine zr_widen (k := KC + 64) (n := KS + 4000) (by omega) (by omega) ?_
            exact zr_lv [1, 2, 3, 0] rfl (ih12 (KC + 64) (KS + 4000) (x3_9 + 8) m201 (by omega) (by omega) hf)
          · rw [if_neg hc] at hf
            refine zr_iconst 0 dL_law_630 (by decide) ?_
            refine zr_widen (k := 600000) (n := 7302250) (by omega) (by omega) ?_
            cases hf
            exact zr_zret rfl dL_law_631
        rw [if_neg hs203] at hf
        rcases zdec ((v13 &&& 63) = 10) with hs233 | hs233
        · rw [if_pos hs233] at hf
          refine zr_tableIn (off := 599) 632 dL_law_33 (by rw [hs233]; decide) (by rw [hs233]; decide) (by rw [hs233]; rfl) (by decide) ?_
          refine zr_aload_n 1 dL_law_632 rfl ?_
          refine zr_aload_n 0 dL_law_633 rfl ?_
          refine zr_iload_n 3 dL_law_634 rfl ?_
          refine zr_iconst 1 dL_law_635 (by decide) ?_
          refine zr_iadd dL_law_636 ?_
          replace hf := zb1_s hf
          obtain ⟨v204, h205, hf⟩ := hf
          refine zr_sld hX hbl hbA h205 dL_law_637 ?_
          refine zr_aload_n 0 dL_law_638 rfl ?_
          refine zr_iload_n 3 dL_law_639 rfl ?_
          refine zr_iconst 2 dL_law_640 (by decide) ?_
          refine zr_iadd dL_law_641 ?_
          replace hf := zb1_s hf
          obtain ⟨v206, h207, hf⟩ := hf
          refine zr_sld hX hbl hbA h207 dL_law_642 ?_
          refine zr_aload_n 0 dL_law_643 rfl ?_
          refine zr_iload_n 3 dL_law_644 rfl ?_
          refine zr_iconst 3 dL_law_645 (by decide) ?_
          refine zr_iadd dL_law_646 ?_
          replace hf := zb1_s hf
          obtain ⟨v208, h209, hf⟩ := hf
          refine zr_sld hX hbl hbA h209 dL_law_647 ?_
          refine zr_aload_n 0 dL_law_648 rfl ?_
          refine zr_iload_n 3 dL_law_649 rfl ?_
          refine zr_iconst 4 dL_law_650 (by decide) ?_
          refine zr_iadd dL_law_651 ?_
          replace hf := zb1_s hf
          obtain ⟨v210, h211, hf⟩ := hf
          refine zr_sld hX hbl hbA h211 dL_law_652 ?_
          refine zr_aload_n 0 dL_law_653 rfl ?_
          refine zr_iload_n 3 dL_law_654 rfl ?_
          refine zr_iconst 5 dL_law_655 (by decide) ?_
          refine zr_iadd dL_law_656 ?_
          replace hf := zb1_s hf
          obtain ⟨v212, h213, hf⟩ := hf
          refine zr_sld hX hbl hbA h213 dL_law_657 ?_
          replace hf := zb1_s hf
          obtain ⟨s214, hg, hf⟩ := hf
          have hj215 : zz K cL_law (4, RL, some .boolean, 2048, 600000, 7302250, some (.int r), mo) KC KS 666 [(0, .ref x0), (1, .ref μ.2.1), (2, .ref m4.2.1), (3, .int x3_9)] [.int s214, .int v210, .int v208, .int v206, .int v204, .ref μ.2.1] m10 := by
            replace hf := zb1_s hf
            obtain ⟨v217, h216, hf⟩ := hf
            refine zr_callV (ci := 11) [.int v204, .int v206, .int v208, .int v210, .int s214] (cX11_hush_ok h216) zvs_X11_hush zl_1400 zl_1401 (fX11_hush_ck h216) rfl rfl zl_1399 rfl (Nat.le_of_ble_eq_true rfl) (by show _ ≤ 600000; omega) (by show _ ≤ 7302250; omega) (Nat.le_of_ble_eq_true rfl) dL_law_666 rfl ?_
            refine zr_aload_n 2 dL_law_669 rfl ?_
            refine zr_aload_n 0 dL_law_670 rfl ?_
            refine zr_iload_n 3 dL_law_671 rfl ?_
            refine zr_iconst 1 dL_law_672 (by decide) ?_
            refine zr_iadd dL_law_673 ?_
            replace hf := zb1_s hf
            obtain ⟨v218, h219, hf⟩ := hf
            refine zr_sld hX hbl hbA h219 dL_law_674 ?_
            refine zr_aload_n 0 dL_law_675 rfl ?_
            refine zr_iload_n 3 dL_law_676 rfl ?_
            refine zr_iconst 2 dL_law_677 (by decide) ?_
            refine zr_iadd dL_law_678 ?_
            replace hf := zb1_s hf
            obtain ⟨v220, h221, hf⟩ := hf
            refine zr_sld hX hbl hbA h221 dL_law_679 ?_
            refine zr_aload_n 0 dL_law_680 rfl ?_
            refine zr_iload_n 3 dL_law_681 rfl ?_
            refine zr_iconst 3 dL_law_682 (by decide) ?_
            refine zr_iadd dL_law_683 ?_
            replace hf := zb1_s hf
            obtain ⟨v222, h223, hf⟩ := hf
            refine zr_sld hX hbl hbA h223 dL_law_684 ?_
            refine zr_aload_n 0 dL_law_685 rfl ?_
            refine zr_iload_n 3 dL_law_686 rfl ?_
            refine zr_iconst 4 dL_law_687 (by decide) ?_
            refine zr_iadd dL_law_688 ?_
            replace hf := zb1_s hf
            obtain ⟨v224, h225, hf⟩ := hf
            refine zr_sld hX hbl hbA h225 dL_law_689 ?_
            refine zr_aload_n 0 dL_law_690 rfl ?_
            refine zr_iload_n 3 dL_law_691 rfl ?_
            refine zr_iconst 5 dL_law_692 (by decide) ?_
            refine zr_iadd dL_law_693 ?_
            replace hf := zb1_s hf
            obtain ⟨v226, h227, hf⟩ := hf
            refine zr_sld hX hbl hbA h227 dL_law_694 ?_
            replace hf := zb1_s hf
            obtain ⟨s228, hg, hf⟩ := hf
            have hj229 : zz K cL_law (4, RL, some .boolean, 2048, 600000, 7302250, some (.int r), mo) KC KS 703 [(0, .ref x0), (1, .ref μ.2.1), (2, .ref m4.2.1), (3, .int x3_9)] [.int s228, .int v224, .int v222, .int v220, .int v218, .ref m4.2.1, .int v217] m10 := by
              replace hf := zb2_s hf
              obtain ⟨v232, m231, h230, hf⟩ := hf
              refine zr_callV (ci := 12) [.int v218, .int v220, .int v222, .int v224, .int s228] (cX12_hush_ok h230) zvs_X12_hush zl_1404 zl_1405 (fX12_hush_ck h230) rfl rfl zl_1403 rfl (Nat.le_of_ble_eq_true rfl) (by show _ ≤ 600000; omega) (by show _ ≤ 7302250; omega) (Nat.le_of_ble_eq_true rfl) dL_law_703 rfl ?_
              refine zr_icmp_eq 1740 dL_law_706 (by decide) (fun hc => ?_) (fun hc => ?_)
              · rw [if_pos hc] at hf
                refine zr_iinc (j := 3) (x3_9 + 8) [(3, .int (x3_9 + 8)), (0, .ref x0), (1, .ref μ.2.1), (2, .ref m4.2.1)] dL_law_1740 rfl rfl (Nat.le_of_ble_eq_true rfl) rfl ?_
                refine zr_goto 18 dL_law_1743 (by decide) ?_
                refine zr_widen (k := KC + 64) (n := KS + 4000) (by omega) (by omega) ?_
                exact zr_lv [1, 2, 3, 0] rfl (ih12 (KC + 64) (KS + 4000) (x3_9 + 8) m231 (by omega) (by omega) hf)
              · rw [if_neg hc] at hf
                refine zr_iconst 0 dL_law_709 (by decide) ?_
                refine zr_widen (k := 600000) (n := 7302250) (by omega) (by omega) ?_
                cases hf
                exact zr_zret rfl dL_law_710
            clear hf
            have hf := hg
            clear hg
            refine zr_if_eq 702 dL_law_695 (by decide) (fun hc => ?_) (fun hc => ?_)
            · rw [if_pos hc] at hf
              refine zr_iconst 0 dL_law_702 (by decide) ?_
              cases hf
              exact zr_lv [0, 1, 2, 3] rfl hj229
            · rw [if_neg hc] at hf
              refine zr_iconst 1 dL_law_698 (by decide) ?_
              refine zr_goto 703 dL_law_699 (by decide) ?_
              cases hf
              exact zr_lv [0, 1, 2, 3] rfl hj229
          clear hf
          have hf := hg
          clear hg
          refine zr_if_eq 665 dL_law_658 (by decide) (fun hc => ?_) (fun hc => ?_)
          · rw [if_pos hc] at hf
            refine zr_iconst 0 dL_law_665 (by decide) ?_
            cases hf
            exact zr_lv [0, 1, 2, 3] rfl hj215
          · rw [if_neg hc] at hf
            refine zr_iconst 1 dL_law_661 (by decide) ?_
            refine zr_goto 666 dL_law_662 (by decide) ?_
            cases hf
            exact zr_lv [0, 1, 2, 3] rfl hj215
        rw [if_neg hs233] at hf
        rcases zdec ((v13 &&& 63) = 11) with hs259 | hs259
        · rw [if_pos hs259] at hf
          refine zr_tableIn (off := 678) 711 dL_law_33 (by rw [hs259]; decide) (by rw [hs259]; decide) (by rw [hs259]; rfl) (by decide) ?_
          refine zr_aload_n 1 dL_law_711 rfl ?_
          refine zr_aload_n 0 dL_law_712 rfl ?_
          refine zr_iload_n 3 dL_law_713 rfl ?_
          refine zr_iconst 1 dL_law_714 (by decide) ?_
          refine zr_iadd dL_law_715 ?_
          replace hf := zb1_s hf
          obtain ⟨v234, h235, hf⟩ := hf
          refine zr_sld hX hbl hbA h235 dL_law_716 ?_
          refine zr_aload_n 0 dL_law_717 rfl ?_
          refine zr_iload_n 3 dL_law_718 rfl ?_
          refine zr_iconst 2 dL_law_719 (by decide) ?_
          refine zr_iadd dL_law_720 ?_
          replace hf := zb1_s hf
          obtain ⟨v236, h237, hf⟩ := hf
          refine zr_sld hX hbl hbA h237 dL_law_721 ?_
          refine zr_aload_n 0 dL_law_722 rfl ?_
          refine zr_iload_n 3 dL_law_723 rfl ?_
          refine zr_iconst 3 dL_law_724 (by decide) ?_
          refine zr_iadd dL_law_725 ?_
          replace hf := zb1_s hf
          obtain ⟨v238, h239, hf⟩ := hf
          refine zr_sld hX hbl hbA h239 dL_law_726 ?_
          refine zr_aload_n 0 dL_law_727 rfl ?_
          refine zr_iload_n 3 dL_law_728 rfl ?_
          refine zr_iconst 4 dL_law_729 (by decide) ?_
          refine zr_iadd dL_law_730 ?_
          replace hf := zb1_s hf
          obtain ⟨v240, h241, hf⟩ := hf
          refine zr_sld hX hbl hbA h241 dL_law_731 ?_
          replace hf := zb1_s hf
          obtain ⟨s242, hg, hf⟩ := hf
          have hj243 : zz K cL_law (4, RL, some .boolean, 2048, 600000, 7302250, some (.int r), mo) KC KS 740 [(0, .ref x0), (1, .ref μ.2.1), (2, .ref m4.2.1), (3, .int x3_9)] [.int s242, .int v238, .int v236, .int v234, .ref μ.2.1] m10 := by
            replace hf := zb1_s hf
            obtain ⟨v245, h244, hf⟩ := hf
            refine zr_callV (ci := 11) [.int v234, .int v236, .int v238, .int s242] (cX11_crowd_ok h244) zvs_X11_crowd zl_1408 zl_1409 (fX11_crowd_ck h244) rfl rfl zl_1407 rfl (Nat.le_of_ble_eq_true rfl) (by show _ ≤ 600000; omega) (by show _ ≤ 7302250; omega) (Nat.le_of_ble_eq_true rfl) dL_law_740 rfl ?_
            refine zr_aload_n 2 dL_law_743 rfl ?_
            refine zr_aload_n 0 dL_law_744 rfl ?_
            refine zr_iload_n 3 dL_law_745 rfl ?_
            refine zr_iconst 1 dL_law_746 (by decide) ?_
            refine zr_iadd dL_law_747 ?_
            replace hf := zb1_s hf
            obtain ⟨v246, h247, hf⟩ := hf
            refine zr_sld hX hbl hbA h247 dL_law_748 ?_
            refine zr_aload_n 0 dL_law_749 rfl ?_
            refine zr_iload_n 3 dL_law_750 rfl ?_
            refine zr_iconst 2 dL_law_751 (by decide) ?_
            refine zr_iadd dL_law_752 ?_
            replace hf := zb1_s hf
            obtain ⟨v248, h249, hf⟩ := hf
            refine zr_sld hX hbl hbA h249 dL_law_753 ?_
            refine zr_aload_n 0 dL_law_754 rfl ?_
            refine zr_iload_n 3 dL_law_755 rfl ?_
            refine zr_iconst 3 dL_law_756 (by decide) ?_
            refine zr_iadd dL_law_757 ?_
            replace hf := zb1_s hf
            obtain ⟨v250, h251, hf⟩ := hf
            refine zr_sld hX hbl hbA h251 dL_law_758 ?_
            refine zr_aload_n 0 dL_law_759 rfl ?_
            refine zr_iload_n 3 dL_law_760 rfl ?_
            refine zr_iconst 4 dL_law_761 (by decide) ?_
            refine zr_iadd dL_law_762 ?_
            replace hf := zb1_s hf
            obtain ⟨v252, h253, hf⟩ := hf
            refine zr_sld hX hbl hbA h253 dL_law_763 ?_
            replace hf := zb1_s hf
            obtain ⟨s254, hg, hf⟩ := hf
            have hj255 : zz K cL_law (4, RL, some .boolean, 2048, 600000, 7302250, some (.int r), mo) KC KS 772 [(0, .ref x0), (1, .ref μ.2.1), (2, .ref m4.2.1), (3, .int x3_9)] [.int s254, .int v250, .int v248, .int v246, .ref m4.2.1, .int v245] m10 := by
              replace hf := zb2_s hf
              obtain ⟨v258, m257, h256, hf⟩ := hf
              refine zr_callV (ci := 12) [.int v246, .int v248, .int v250, .int s254] (cX12_crowd_ok h256) zvs_X12_crowd zl_1412 zl_1413 (fX12_crowd_ck h256) rfl rfl zl_1411 rfl (Nat.le_of_ble_eq_true rfl) (by show _ ≤ 600000; omega) (by show _ ≤ 7302250; omega) (Nat.le_of_ble_eq_true rfl) dL_law_772 rfl ?_
              refine zr_icmp_eq 1740 dL_law_775 (by decide) (fun hc => ?_) (fun hc => ?_)
              · rw [if_pos hc] at hf
                refine zr_iinc (j := 3) (x3_9 + 8) [(3, .int (x3_9 + 8)), (0, .ref x0), (1, .ref μ.2.1), (2, .ref m4.2.1)] dL_law_1740 rfl rfl (Nat.le_of_ble_eq_true rfl) rfl ?_
                refine zr_goto 18 dL_law_1743 (by decide) ?_
                refine zr_widen (k := KC + 64) (n := KS + 4000) (by omega) (by omega) ?_
                exact zr_lv [1, 2, 3, 0] rfl (ih12 (KC + 64) (KS + 4000) (x3_9 + 8) m257 (by omega) (by omega) hf)
              · rw [if_neg hc] at hf
                refine zr_iconst 0 dL_law_778 (by decide) ?_
                refine zr_widen (k := 600000) (n := 7302250) (by omega) (by omega) ?_
                cases hf
                exact zr_zret rfl dL_law_779
            clear hf
            have hf := hg
            clear hg
            refine zr_if_eq 771 dL_law_764 (by decide) (fun hc => ?_) (fun hc => ?_)
            · rw [if_pos hc] at hf
              refine zr_iconst 0 dL_law_771 (by decide) ?_
              cases hf
              exact zr_lv [0, 1, 2, 3] rfl hj255
            · rw [if_neg hc] at hf
              refine zr_iconst 1 dL_law_767 (by decide) ?_
              refine zr_goto 772 dL_law_768 (by decide) ?_
              cases hf
              exact zr_lv [0, 1, 2, 3] rfl hj255
          clear hf
          have hf := hg
          clear hg
          refine zr_if_eq 739 dL_law_732 (by decide) (fun hc => ?_) (fun hc => ?_)
          · rw [if_pos hc] at hf
            refine zr_iconst 0 dL_law_739 (by decide) ?_
            cases hf
            exact zr_lv [0, 1, 2, 3] rfl hj243
          · rw [if_neg hc] at hf
            refine zr_iconst 1 dL_law_735 (by decide) ?_
            refine zr_goto 740 dL_law_736 (by decide) ?_
            cases hf
            exact zr_lv [0, 1, 2, 3] rfl hj243
        rw [if_neg hs259] at hf
        rcases zdec ((v13 &&& 63) = 12) with hs277 | hs277
        · rw [if_pos hs277] at hf
          refine zr_tableIn (off := 747) 780 dL_law_33 (by rw [hs277]; decide) (by rw [hs277]; decide) (by rw [hs277]; rfl) (by decide) ?_
          refine zr_aload_n 1 dL_law_780 rfl ?_
          refine zr_aload_n 0 dL_law_781 rfl ?_
          refine zr_iload_n 3 dL_law_782 rfl ?_
          refine zr_iconst 1 dL_law_783 (by decide) ?_
          refine zr_iadd dL_law_784 ?_
          replace hf := zb1_s hf
          obtain ⟨v260, h261, hf⟩ := hf
          refine zr_sld hX hbl hbA h261 dL_law_785 ?_
          refine zr_aload_n 0 dL_law_786 rfl ?_
          refine zr_iload_n 3 dL_law_787 rfl ?_
          refine zr_iconst 2 dL_law_788 (by decide) ?_
          refine zr_iadd dL_law_789 ?_
          replace hf := zb1_s hf
          obtain ⟨v262, h263, hf⟩ := hf
          refine zr_sld hX hbl hbA h263 dL_law_790 ?_
          refine zr_aload_n 0 dL_law_791 rfl ?_
          refine zr_iload_n 3 dL_law_792 rfl ?_
          refine zr_iconst 3 dL_law_793 (by decide) ?_
          refine zr_iadd dL_law_794 ?_
          replace hf := zb1_s hf
          obtain ⟨v264, h265, hf⟩ := hf
          refine zr_sld hX hbl hbA h265 dL_law_795 ?_
          replace hf := zb1_s hf
          obtain ⟨v267, h266, hf⟩ := hf
          refine zr_callV (ci := 11) [.int v260, .int v262, .int v264] (cX11_chain_ok h266) zvs_X11_chain zl_1416 zl_1417 (fX11_chain_ck h266) rfl rfl zl_1415 rfl (Nat.le_of_ble_eq_true rfl) (by show _ ≤ 600000; omega) (by show _ ≤ 7302250; omega) (Nat.le_of_ble_eq_true rfl) dL_law_796 rfl ?_
          refine zr_aload_n 2 dL_law_799 rfl ?_
          refine zr_aload_n 0 dL_law_800 rfl ?_
          refine zr_iload_n 3 dL_law_801 rfl ?_
          refine zr_iconst 1 dL_law_802 (by decide) ?_
          refine zr_iadd dL_law_803 ?_
          replace hf := zb1_s hf
          obtain ⟨v268, h269, hf⟩ := hf
          refine zr_sld hX hbl hbA h269 dL_law_804 ?_
          refine zr_aload_n 0 dL_law_805 rfl ?_
          refine zr_iload_n 3 dL_law_806 rfl ?_
          refine zr_iconst 2 dL_law_807 (by decide) ?_
          refine zr_iadd dL_law_808 ?_
          replace hf := zb1_s hf
          obtain ⟨v270, h271, hf⟩ := hf
          refine zr_sld hX hbl hbA h271 dL_law_809 ?_
          refine zr_aload_n 0 dL_law_810 rfl ?_
          refine zr_iload_n 3 dL_law_811 rfl ?_
          refine zr_iconst 3 dL_law_812 (by decide) ?_
          refine zr_iadd dL_law_813 ?_
          replace hf := zb1_s hf
          obtain ⟨v272, h273, hf⟩ := hf
          refine zr_sld hX hbl hbA h273 dL_law_814 ?_
          replace hf := zb2_s hf
          obtain ⟨v276, m275, h274, hf⟩ := hf
          refine zr_callV (ci := 12) [.int v268, .int v270, .int v272] (cX12_chain_ok h274) zvs_X12_chain zl_1420 zl_1421 (fX12_chain_ck h274) rfl rfl zl_1419 rfl (Nat.le_of_ble_eq_true rfl) (by show _ ≤ 600000; omega) (by show _ ≤ 7302250; omega) (Nat.le_of_ble_eq_true rfl) dL_law_815 rfl ?_
          refine zr_icmp_eq 1740 dL_law_818 (by decide) (fun hc => ?_) (fun hc => ?_)
          · rw [if_pos hc] at hf
            refine zr_iinc (j := 3) (x3_9 + 8) [(3, .int (x3_9 + 8)), (0, .ref x0), (1, .ref μ.2.1), (2, .ref m4.2.1)] dL_law_1740 rfl rfl (Nat.le_of_ble_eq_true rfl) rfl ?_
            refine zr_goto 18 dL_law_1743 (by decide) ?_
            refine zr_widen (k := KC + 64) (n := KS + 4000) (by omega) (by omega) ?_
            exact zr_lv [1, 2, 3, 0] rfl (ih12 (KC + 64) (KS + 4000) (x3_9 + 8) m275 (by omega) (by omega) hf)
          · rw [if_neg hc] at hf
            refine zr_iconst 0 dL_law_821 (by decide) ?_
            refine zr_widen (k := 600000) (n := 7302250) (by omega) (by omega) ?_
            cases hf
            exact zr_zret rfl dL_law_822
        rw [if_neg hs277] at hf
        rcases zdec ((v13 &&& 63) = 13) with hs295 | hs295
        · rw [if_pos hs295] at hf
          refine zr_tableIn (off := 790) 823 dL_law_33 (by rw [hs295]; decide) (by rw [hs295]; decide) (by rw [hs295]; rfl) (by decide) ?_
          refine zr_aload_n 1 dL_law_823 rfl ?_
          refine zr_aload_n 0 dL_law_824 rfl ?_
          refine zr_iload_n 3 dL_law_825 rfl ?_
          refine zr_iconst 1 dL_law_826 (by decide) ?_
          refine zr_iadd dL_law_827 ?_
          replace hf := zb1_s hf
          obtain ⟨v278, h279, hf⟩ := hf
          refine zr_sld hX hbl hbA h279 dL_law_828 ?_
          refine zr_aload_n 0 dL_law_829 rfl ?_
          refine zr_iload_n 3 dL_law_830 rfl ?_
          refine zr_iconst 2 dL_law_831 (by decide) ?_
          refine zr_iadd dL_law_832 ?_
          replace hf := zb1_s hf
          obtain ⟨v280, h281, hf⟩ := hf
          refine zr_sld hX hbl hbA h281 dL_law_833 ?_
          refine zr_aload_n 0 dL_law_834 rfl ?_
          refine zr_iload_n 3 dL_law_835 rfl ?_
          refine zr_iconst 3 dL_law_836 (by decide) ?_
          refine zr_iadd dL_law_837 ?_
          replace hf := zb1_s hf
          obtain ⟨v282, h283, hf⟩ := hf
          refine zr_sld hX hbl hbA h283 dL_law_838 ?_
          replace hf := zb1_s hf
          obtain ⟨v285, h284, hf⟩ := hf
          refine zr_callV (ci := 11) [.int v278, .int v280, .int v282] (cX11_late_ok h284) zvs_X11_late zl_1424 zl_1425 (fX11_late_ck h284) rfl rfl zl_1423 rfl (Nat.le_of_ble_eq_true rfl) (by show _ ≤ 600000; omega) (by show _ ≤ 7302250; omega) (Nat.le_of_ble_eq_true rfl) dL_law_839 rfl ?_
          refine zr_aload_n 2 dL_law_842 rfl ?_
          refine zr_aload_n 0 dL_law_843 rfl ?_
          refine zr_iload_n 3 dL_law_844 rfl ?_
          refine zr_iconst 1 dL_law_845 (by decide) ?_
          refine zr_iadd dL_law_846 ?_
          replace hf := zb1_s hf
          obtain ⟨v286, h287, hf⟩ := hf
          refine zr_sld hX hbl hbA h287 dL_law_847 ?_
          refine zr_aload_n 0 dL_law_848 rfl ?_
          refine zr_iload_n 3 dL_law_849 rfl ?_
          refine zr_iconst 2 dL_law_850 (by decide) ?_
          refine zr_iadd dL_law_851 ?_
          replace hf := zb1_s hf
          obtain ⟨v288, h289, hf⟩ := hf
          refine zr_sld hX hbl hbA h289 dL_law_852 ?_
          refine zr_aload_n 0 dL_law_853 rfl ?_
          refine zr_iload_n 3 dL_law_854 rfl ?_
          refine zr_iconst 3 dL_law_855 (by decide) ?_
          refine zr_iadd dL_law_856 ?_
          replace hf := zb1_s hf
          obtain ⟨v290, h291, hf⟩ := hf
          refine zr_sld hX hbl hbA h291 dL_law_857 ?_
          replace hf := zb2_s hf
          obtain ⟨v294, m293, h292, hf⟩ := hf
          refine zr_callV (ci := 12) [.int v286, .int v288, .int v290] (cX12_late_ok h292) zvs_X12_late zl_1428 zl_1429 (fX12_late_ck h292) rfl rfl zl_1427 rfl (Nat.le_of_ble_eq_true rfl) (by show _ ≤ 600000; omega) (by show _ ≤ 7302250; omega) (Nat.le_of_ble_eq_true rfl) dL_law_858 rfl ?_
          refine zr_icmp_eq 1740 dL_law_861 (by decide) (fun hc => ?_) (fun hc => ?_)
          · rw [if_pos hc] at hf
            refine zr_iinc (j := 3) (x3_9 + 8) [(3, .int (x3_9 + 8)), (0, .ref x0), (1, .ref μ.2.1), (2, .ref m4.2.1)] dL_law_1740 rfl rfl (Nat.le_of_ble_eq_true rfl) rfl ?_
            refine zr_goto 18 dL_law_1743 (by decide) ?_
            refine zr_widen (k := KC + 64) (n := KS + 4000) (by omega) (by omega) ?_
            exact zr_lv [1, 2, 3, 0] rfl (ih12 (KC + 64) (KS + 4000) (x3_9 + 8) m293 (by omega) (by omega) hf)
          · rw [if_neg hc] at hf
            refine zr_iconst 0 dL_law_864 (by decide) ?_
            refine zr_widen (k := 600000) (n := 7302250) (by omega) (by omega) ?_
            cases hf
            exact zr_zret rfl dL_law_865
        rw [if_neg hs295] at hf
        rcases zdec ((v13 &&& 63) = 14) with hs309 | hs309
        · rw [if_pos hs309] at hf
          refine zr_tableIn (off := 833) 866 dL_law_33 (by rw [hs309]; decide) (by rw [hs309]; decide) (by rw [hs309]; rfl) (by decide) ?_
          refine zr_aload_n 1 dL_law_866 rfl ?_
          refine zr_aload_n 0 dL_law_867 rfl ?_
          refine zr_iload_n 3 dL_law_868 rfl ?_
          refine zr_iconst 1 dL_law_869 (by decide) ?_
          refine zr_iadd dL_law_870 ?_
          replace hf := zb1_s hf
          obtain ⟨v296, h297, hf⟩ := hf
          refine zr_sld hX hbl hbA h297 dL_law_871 ?_
          refine zr_aload_n 0 dL_law_872 rfl ?_
          refine zr_iload_n 3 dL_law_873 rfl ?_
          refine zr_iconst 2 dL_law_874 (by decide) ?_
          refine zr_iadd dL_law_875 ?_
          replace hf := zb1_s hf
          obtain ⟨v298, h299, hf⟩ := hf
          refine zr_sld hX hbl hbA h299 dL_law_876 ?_
          replace hf := zb1_s hf
          obtain ⟨v301, h300, hf⟩ := hf
          refine zr_callV (ci := 11) [.int v296, .int v298] (cX11_market_ok h300) zvs_X11_market zl_1432 zl_1433 (fX11_market_ck h300) rfl rfl zl_1431 rfl (Nat.le_of_ble_eq_true rfl) (by show _ ≤ 600000; omega) (by show _ ≤ 7302250; omega) (Nat.le_of_ble_eq_true rfl) dL_law_877 rfl ?_
          refine zr_aload_n 2 dL_law_880 rfl ?_
          refine zr_aload_n 0 dL_law_881 rfl ?_
          refine zr_iload_n 3 dL_law_882 rfl ?_
          refine zr_iconst 1 dL_law_883 (by decide) ?_
          refine zr_iadd dL_law_884 ?_
          replace hf := zb1_s hf
          obtain ⟨v302, h303, hf⟩ := hf
          refine zr_sld hX hbl hbA h303 dL_law_885 ?_
          refine zr_aload_n 0 dL_law_886 rfl ?_
          refine zr_iload_n 3 dL_law_887 rfl ?_
          refine zr_iconst 2 dL_law_888 (by decide) ?_
          refine zr_iadd dL_law_889 ?_
          replace hf := zb1_s hf
          obtain ⟨v304, h305, hf⟩ := hf
          refine zr_sld hX hbl hbA h305 dL_law_890 ?_
          replace hf := zb2_s hf
          obtain ⟨v308, m307, h306, hf⟩ := hf
          refine zr_callV (ci := 12) [.int v302, .int v304] (cX12_market_ok h306) zvs_X12_market zl_1436 zl_1437 (fX12_market_ck h306) rfl rfl zl_1435 rfl (Nat.le_of_ble_eq_true rfl) (by show _ ≤ 600000; omega) (by show _ ≤ 7302250; omega) (Nat.le_of_ble_eq_true rfl) dL_law_891 rfl ?_
          refine zr_icmp_eq 1740 dL_law_894 (by decide) (fun hc => ?_) (fun hc => ?_)
          · rw [if_pos hc] at hf
            refine zr_iinc (j := 3) (x3_9 + 8) [(3, .int (x3_9 + 8)), (0, .ref x0), (1, .ref μ.2.1), (2, .ref m4.2.1)] dL_law_1740 rfl rfl (Nat.le_of_ble_eq_true rfl) rfl ?_
            refine zr_goto 18 dL_law_1743 (by decide) ?_
            refine zr_widen (k := KC + 64) (n := KS + 4000) (by omega) (by omega) ?_
            exact zr_lv [1, 2, 3, 0] rfl (ih12 (KC + 64) (KS + 4000) (x3_9 + 8) m307 (by omega) (by omega) hf)
          · rw [if_neg hc] at hf
            refine zr_iconst 0 dL_law_897 (by decide) ?_
            refine zr_widen (k := 600000) (n := 7302250) (by omega) (by omega) ?_
            cases hf
            exact zr_zret rfl dL_law_898
        rw [if_neg hs309] at hf
        rcases zdec ((v13 &&& 63) = 15) with hs336 | hs336
        · rw [if_pos hs336] at hf
          refine zr_tableIn (off := 866) 899 dL_law_33 (by rw [hs336]; decide) (by rw [hs336]; decide) (by rw [hs336]; rfl) (by decide) ?_
          refine zr_aload_n 1 dL_law_899 rfl ?_
          refine zr_aload_n 0 dL_law_900 rfl ?_
          refine zr_iload_n 3 dL_law_901 rfl ?_
          refine zr_iconst 1 dL_law_902 (by decide) ?_
          refine zr_iadd dL_law_903 ?_
          replace hf := zb1_s hf
          obtain ⟨v310, h311, hf⟩ := hf
          refine zr_sld hX hbl hbA h311 dL_law_904 ?_
          refine zr_aload_n 0 dL_law_905 rfl ?_
          refine zr_iload_n 3 dL_law_906 rfl ?_
          refine zr_iconst 2 dL_law_907 (by decide) ?_
          refine zr_iadd dL_law_908 ?_
          replace hf := zb1_s hf
          obtain ⟨v312, h313, hf⟩ := hf
          refine zr_sld hX hbl hbA h313 dL_law_909 ?_
          refine zr_aload_n 0 dL_law_910 rfl ?_
          refine zr_iload_n 3 dL_law_911 rfl ?_
          refine zr_iconst 3 dL_law_912 (by decide) ?_
          refine zr_iadd dL_law_913 ?_
          replace hf := zb1_s hf
          obtain ⟨v314, h315, hf⟩ := hf
          refine zr_sld hX hbl hbA h315 dL_law_914 ?_
          refine zr_aload_n 0 dL_law_915 rfl ?_
          refine zr_iload_n 3 dL_law_916 rfl ?_
          refine zr_iconst 4 dL_law_917 (by decide) ?_
          refine zr_iadd dL_law_918 ?_
          replace hf := zb1_s hf
          obtain ⟨v316, h317, hf⟩ := hf
          refine zr_sld hX hbl hbA h317 dL_law_919 ?_
          replace hf := zb1_s hf
          obtain ⟨s318, hg, hf⟩ := hf
          have hj319 : zz K cL_law (4, RL, some .boolean, 2048, 600000, 7302250, some (.int r), mo) KC KS 928 [(0, .ref x0), (1, .ref μ.2.1), (2, .ref m4.2.1), (3, .int x3_9)] [.int s318, .int v314, .int v312, .int v310, .ref μ.2.1] m10 := by
            replace hf := zb2_s hf
            obtain ⟨v322, m321, h320, hf⟩ := hf
            refine zr_callV (ci := 11) [.int v310, .int v312, .int v314, .int s318] (cX11_bargain_ok h320) zvs_X11_bargain zl_1440 zl_1441 (fX11_bargain_ck h320) rfl rfl zl_1439 rfl (Nat.le_of_ble_eq_true rfl) (by show _ ≤ 600000; omega) (by show _ ≤ 7302250; omega) (Nat.le_of_ble_eq_true rfl) dL_law_928 rfl ?_
            refine zr_aload_n 2 dL_law_931 rfl ?_
            refine zr_aload_n 0 dL_law_932 rfl ?_
            refine zr_iload_n 3 dL_law_933 rfl ?_
            refine zr_iconst 1 dL_law_934 (by decide) ?_
            refine zr_iadd dL_law_935 ?_
            replace hf := zb1_s hf
            obtain ⟨v323, h324, hf⟩ := hf
            refine zr_sld hX hbl hbA h324 dL_law_936 ?_
            refine zr_aload_n 0 dL_law_937 rfl ?_
            refine zr_iload_n 3 dL_law_938 rfl ?_
            refine zr_iconst 2 dL_law_939 (by decide) ?_
            refine zr_iadd dL_law_940 ?_
            replace hf := zb1_s hf
            obtain ⟨v325, h326, hf⟩ := hf
            refine zr_sld hX hbl hbA h326 dL_law_941 ?_
            refine zr_aload_n 0 dL_law_942 rfl ?_
            refine zr_iload_n 3 dL_law_943 rfl ?_
            refine zr_iconst 3 dL_law_944 (by decide) ?_
            refine zr_iadd dL_law_945 ?_
            replace hf := zb1_s hf
            obtain ⟨v327, h328, hf⟩ := hf
            refine zr_sld hX hbl hbA h328 dL_law_946 ?_
            refine zr_aload_n 0 dL_law_947 rfl ?_
            refine zr_iload_n 3 dL_law_948 rfl ?_
            refine zr_iconst 4 dL_law_949 (by decide) ?_
            refine zr_iadd dL_law_950 ?_
            replace hf := zb1_s hf
            obtain ⟨v329, h330, hf⟩ := hf
            refine zr_sld hX hbl hbA h330 dL_law_951 ?_
            replace hf := zb1_s hf
            obtain ⟨s331, hg, hf⟩ := hf
            have hj332 : zz K cL_law (4, RL, some .boolean, 2048, 600000, 7302250, some (.int r), mo) KC KS 960 [(0, .ref x0), (1, .ref μ.2.1), (2, .ref m4.2.1), (3, .int x3_9)] [.int s331, .int v327, .int v325, .int v323, .ref m4.2.1, .int v322] m321 := by
              replace hf := zb2_s hf
              obtain ⟨v335, m334, h333, hf⟩ := hf
              refine zr_callV (ci := 12) [.int v323, .int v325, .int v327, .int s331] (cX12_bargain_ok h333) zvs_X12_bargain zl_1444 zl_1445 (fX12_bargain_ck h333) rfl rfl zl_1443 rfl (Nat.le_of_ble_eq_true rfl) (by show _ ≤ 600000; omega) (by show _ ≤ 7302250; omega) (Nat.le_of_ble_eq_true rfl) dL_law_960 rfl ?_
              refine zr_icmp_eq 1740 dL_law_963 (by decide) (fun hc => ?_) (fun hc => ?_)
              · rw [if_pos hc] at hf
                refine zr_iinc (j := 3) (x3_9 + 8) [(3, .int (x3_9 + 8)), (0, .ref x0), (1, .ref μ.2.1), (2, .ref m4.2.1)] dL_law_1740 rfl rfl (Nat.le_of_ble_eq_true rfl) rfl ?_
                refine zr_goto 18 dL_law_1743 (by decide) ?_
                refine zr_widen (k := KC + 64) (n := KS + 4000) (by omega) (by omega) ?_
                exact zr_lv [1, 2, 3, 0] rfl (ih12 (KC + 64) (KS + 4000) (x3_9 + 8) m334 (by omega) (by omega) hf)
              · rw [if_neg hc] at hf
                refine zr_iconst 0 dL_law_966 (by decide) ?_
                refine zr_widen (k := 600000) (n := 7302250) (by omega) (by omega) ?_
                cases hf
                exact zr_zret rfl dL_law_967
            clear hf
            have hf := hg
            clear hg
            refine zr_if_eq 959 dL_law_952 (by decide) (fun hc => ?_) (fun hc => ?_)
            · rw [if_pos hc] at hf
              refine zr_iconst 0 dL_law_959 (by decide) ?_
              cases hf
              exact zr_lv [0, 1, 2, 3] rfl hj332
            · rw [if_neg hc] at hf
              refine zr_iconst 1 dL_law_955 (by decide) ?_
              refine zr_goto 960 dL_law_956 (by decide) ?_
              cases hf
              exact zr_lv [0, 1, 2, 3] rfl hj332
          clear hf
          have hf := hg
          clear hg
          refine zr_if_eq 927 dL_law_920 (by decide) (fun hc => ?_) (fun hc => ?_)
          · rw [if_pos hc] at hf
            refine zr_iconst 0 dL_law_927 (by decide) ?_
            cases hf
            exact zr_lv [0, 1, 2, 3] rfl hj319
          · rw [if_neg hc] at hf
            refine zr_iconst 1 dL_law_923 (by decide) ?_
            refine zr_goto 928 dL_law_924 (by decide) ?_
            cases hf
            exact zr_lv [0, 1, 2, 3] rfl hj319
        rw [if_neg hs336] at hf
        rcases zdec ((v13 &&& 63) = 16) with hs351 | hs351
        · rw [if_pos hs351] at hf
          refine zr_tableIn (off := 935) 968 dL_law_33 (by rw [hs351]; decide) (by rw [hs351]; decide) (by rw [hs351]; rfl) (by decide) ?_
          refine zr_aload_n 1 dL_law_968 rfl ?_
          refine zr_aload_n 0 dL_law_969 rfl ?_
          refine zr_iload_n 3 dL_law_970 rfl ?_
          refine zr_iconst 1 dL_law_971 (by decide) ?_
          refine zr_iadd dL_law_972 ?_
          replace hf := zb1_s hf
          obtain ⟨v337, h338, hf⟩ := hf
          refine zr_sld hX hbl hbA h338 dL_law_973 ?_
          refine zr_aload_n 0 dL_law_974 rfl ?_
          refine zr_iload_n 3 dL_law_975 rfl ?_
          refine zr_iconst 2 dL_law_976 (by decide) ?_
          refine zr_iadd dL_law_977 ?_
          replace hf := zb1_s hf
          obtain ⟨v339, h340, hf⟩ := hf
          refine zr_sld hX hbl hbA h340 dL_law_978 ?_
          replace hf := zb2_s hf
          obtain ⟨v343, m342, h341, hf⟩ := hf
          refine zr_callV (ci := 11) [.int v337, .int v339] (cX11_talk_ok h341) zvs_X11_talk zl_1448 zl_1449 (fX11_talk_ck h341) rfl rfl zl_1447 rfl (Nat.le_of_ble_eq_true rfl) (by show _ ≤ 600000; omega) (by show _ ≤ 7302250; omega) (Nat.le_of_ble_eq_true rfl) dL_law_979 rfl ?_
          refine zr_aload_n 2 dL_law_982 rfl ?_
          refine zr_aload_n 0 dL_law_983 rfl ?_
          refine zr_iload_n 3 dL_law_984 rfl ?_
          refine zr_iconst 1 dL_law_985 (by decide) ?_
          refine zr_iadd dL_law_986 ?_
          replace hf := zb1_s hf
          obtain ⟨v344, h345, hf⟩ := hf
          refine zr_sld hX hbl hbA h345 dL_law_987 ?_
          refine zr_aload_n 0 dL_law_988 rfl ?_
          refine zr_iload_n 3 dL_law_989 rfl ?_
          refine zr_iconst 2 dL_law_990 (by decide) ?_
          refine zr_iadd dL_law_991 ?_
          replace hf := zb1_s hf
          obtain ⟨v346, h347, hf⟩ := hf
          refine zr_sld hX hbl hbA h347 dL_law_992 ?_
          replace hf := zb2_s hf
          obtain ⟨v350, m349, h348, hf⟩ := hf
          refine zr_callV (ci := 12) [.int v344, .int v346] (cX12_talk_ok h348) zvs_X12_talk zl_1452 zl_1453 (fX12_talk_ck h348) rfl rfl zl_1451 rfl (Nat.le_of_ble_eq_true rfl) (by show _ ≤ 600000; omega) (by show _ ≤ 7302250; omega) (Nat.le_of_ble_eq_true rfl) dL_law_993 rfl ?_
          refine zr_icmp_eq 1740 dL_law_996 (by decide) (fun hc => ?_) (fun hc => ?_)
          · rw [if_pos hc] at hf
            refine zr_iinc (j := 3) (x3_9 + 8) [(3, .int (x3_9 + 8)), (0, .ref x0), (1, .ref μ.2.1), (2, .ref m4.2.1)] dL_law_1740 rfl rfl (Nat.le_of_ble_eq_true rfl) rfl ?_
            refine zr_goto 18 dL_law_1743 (by decide) ?_
            refine zr_widen (k := KC + 64) (n := KS + 4000) (by omega) (by omega) ?_
            exact zr_lv [1, 2, 3, 0] rfl (ih12 (KC + 64) (KS + 4000) (x3_9 + 8) m349 (by omega) (by omega) hf)
          · rw [if_neg hc] at hf
            refine zr_iconst 0 dL_law_999 (by decide) ?_
            refine zr_widen (k := 600000) (n := 7302250) (by omega) (by omega) ?_
            cases hf
            exact zr_zret rfl dL_law_1000
        rw [if_neg hs351] at hf
        rcases zdec ((v13 &&& 63) = 17) with hs365 | hs365
        · rw [if_pos hs365] at hf
          refine zr_tableIn (off := 968) 1001 dL_law_33 (by rw [hs365]; decide) (by rw [hs365]; decide) (by rw [hs365]; rfl) (by decide) ?_
          refine zr_aload_n 1 dL_law_1001 rfl ?_
          refine zr_aload_n 0 dL_law_1002 rfl ?_
          refine zr_iload_n 3 dL_law_1003 rfl ?_
          refine zr_iconst 1 dL_law_1004 (by decide) ?_
          refine zr_iadd dL_law_1005 ?_
          replace hf := zb1_s hf
          obtain ⟨v352, h353, hf⟩ := hf
          refine zr_sld hX hbl hbA h353 dL_law_1006 ?_
          refine zr_aload_n 0 dL_law_1007 rfl ?_
          refine zr_iload_n 3 dL_law_1008 rfl ?_
          refine zr_iconst 2 dL_law_1009 (by decide) ?_
          refine zr_iadd dL_law_1010 ?_
          replace hf := zb1_s hf
          obtain ⟨v354, h355, hf⟩ := hf
          refine zr_sld hX hbl hbA h355 dL_law_1011 ?_
          replace hf := zb1_s hf
          obtain ⟨v357, h356, hf⟩ := hf
          refine zr_callV (ci := 11) [.int v352, .int v354] (cX11_lesson_ok h356) zvs_X11_lesson zl_1456 zl_1457 (fX11_lesson_ck h356) rfl rfl zl_1455 rfl (Nat.le_of_ble_eq_true rfl) (by show _ ≤ 600000; omega) (by show _ ≤ 7302250; omega) (Nat.le_of_ble_eq_true rfl) dL_law_1012 rfl ?_
          refine zr_aload_n 2 dL_law_1015 rfl ?_
          refine zr_aload_n 0 dL_law_1016 rfl ?_
          refine zr_iload_n 3 dL_law_1017 rfl ?_
          refine zr_iconst 1 dL_law_1018 (by decide) ?_
          refine zr_iadd dL_law_1019 ?_
          replace hf := zb1_s hf
          obtain ⟨v358, h359, hf⟩ := hf
          refine zr_sld hX hbl hbA h359 dL_law_1020 ?_
          refine zr_aload_n 0 dL_law_1021 rfl ?_
          refine zr_iload_n 3 dL_law_1022 rfl ?_
          refine zr_iconst 2 dL_law_1023 (by decide) ?_
          refine zr_iadd dL_law_1024 ?_
          replace hf := zb1_s hf
          obtain ⟨v360, h361, hf⟩ := hf
          refine zr_sld hX hbl hbA h361 dL_law_1025 ?_
          replace hf := zb2_s hf
          obtain ⟨v364, m363, h362, hf⟩ := hf
          refine zr_callV (ci := 12) [.int v358, .int v360] (cX12_lesson_ok h362) zvs_X12_lesson zl_1460 zl_1461 (fX12_lesson_ck h362) rfl rfl zl_1459 rfl (Nat.le_of_ble_eq_true rfl) (by show _ ≤ 600000; omega) (by show _ ≤ 7302250; omega) (Nat.le_of_ble_eq_true rfl) dL_law_1026 rfl ?_
          refine zr_icmp_eq 1740 dL_law_1029 (by decide) (fun hc => ?_) (fun hc => ?_)
          · rw [if_pos hc] at hf
            refine zr_iinc (j := 3) (x3_9 + 8) [(3, .int (x3_9 + 8)), (0, .ref x0), (1, .ref μ.2.1), (2, .ref m4.2.1)] dL_law_1740 rfl rfl (Nat.le_of_ble_eq_true rfl) rfl ?_
            refine zr_goto 18 dL_law_1743 (by decide) ?_
            refine zr_widen (k := KC + 64) (n := KS + 4000) (by omega) (by omega) ?_
            exact zr_lv [1, 2, 3, 0] rfl (ih12 (KC + 64) (KS + 4000) (x3_9 + 8) m363 (by omega) (by omega) hf)
          · rw [if_neg hc] at hf
            refine zr_iconst 0 dL_law_1032 (by decide) ?_
            refine zr_widen (k := 600000) (n := 7302250) (by omega) (by omega) ?_
            cases hf
            exact zr_zret rfl dL_law_1033
        rw [if_neg hs365] at hf
        rcases zdec ((v13 &&& 63) = 18) with hs379 | hs379
        · rw [if_pos hs379] at hf
          refine zr_tableIn (off := 1001) 1034 dL_law_33 (by rw [hs379]; decide) (by rw [hs379]; decide) (by rw [hs379]; rfl) (by decide) ?_
          refine zr_aload_n 1 dL_law_1034 rfl ?_
          refine zr_aload_n 0 dL_law_1035 rfl ?_
          refine zr_iload_n 3 dL_law_1036 rfl ?_
          refine zr_iconst 1 dL_law_1037 (by decide) ?_
          refine zr_iadd dL_law_1038 ?_
          replace hf := zb1_s hf
          obtain ⟨v366, h367, hf⟩ := hf
          refine zr_sld hX hbl hbA h367 dL_law_1039 ?_
          refine zr_aload_n 0 dL_law_1040 rfl ?_
          refine zr_iload_n 3 dL_law_1041 rfl ?_
          refine zr_iconst 2 dL_law_1042 (by decide) ?_
          refine zr_iadd dL_law_1043 ?_
          replace hf := zb1_s hf
          obtain ⟨v368, h369, hf⟩ := hf
          refine zr_sld hX hbl hbA h369 dL_law_1044 ?_
          replace hf := zb1_s hf
          obtain ⟨v371, h370, hf⟩ := hf
          refine zr_callV (ci := 11) [.int v366, .int v368] (cX11_rules_ok h370) zvs_X11_rules zl_1464 zl_1465 (fX11_rules_ck h370) rfl rfl zl_1463 rfl (Nat.le_of_ble_eq_true rfl) (by show _ ≤ 600000; omega) (by show _ ≤ 7302250; omega) (Nat.le_of_ble_eq_true rfl) dL_law_1045 rfl ?_
          refine zr_aload_n 2 dL_law_1048 rfl ?_
          refine zr_aload_n 0 dL_law_1049 rfl ?_
          refine zr_iload_n 3 dL_law_1050 rfl ?_
          refine zr_iconst 1 dL_law_1051 (by decide) ?_
          refine zr_iadd dL_law_1052 ?_
          replace hf := zb1_s hf
          obtain ⟨v372, h373, hf⟩ := hf
          refine zr_sld hX hbl hbA h373 dL_law_1053 ?_
          refine zr_aload_n 0 dL_law_1054 rfl ?_
          refine zr_iload_n 3 dL_law_1055 rfl ?_
          refine zr_iconst 2 dL_law_1056 (by decide) ?_
          refine zr_iadd dL_law_1057 ?_
          replace hf := zb1_s hf
          obtain ⟨v374, h375, hf⟩ := hf
          refine zr_sld hX hbl hbA h375 dL_law_1058 ?_
          replace hf := zb2_s hf
          obtain ⟨v378, m377, h376, hf⟩ := hf
          refine zr_callV (ci := 12) [.int v372, .int v374] (cX12_rules_ok h376) zvs_X12_rules zl_1468 zl_1469 (fX12_rules_ck h376) rfl rfl zl_1467 rfl (Nat.le_of_ble_eq_true rfl) (by show _ ≤ 600000; omega) (by show _ ≤ 7302250; omega) (Nat.le_of_ble_eq_true rfl) dL_law_1059 rfl ?_
          refine zr_icmp_eq 1740 dL_law_1062 (by decide) (fun hc => ?_) (fun hc => ?_)
          · rw [if_pos hc] at hf
            refine zr_iinc (j := 3) (x3_9 + 8) [(3, .int (x3_9 + 8)), (0, .ref x0), (1, .ref μ.2.1), (2, .ref m4.2.1)] dL_law_1740 rfl rfl (Nat.le_of_ble_eq_true rfl) rfl ?_
            refine zr_goto 18 dL_law_1743 (by decide) ?_
            refine zr_widen (k := KC + 64) (n := KS + 4000) (by omega) (by omega) ?_
            exact zr_lv [1, 2, 3, 0] rfl (ih12 (KC + 64) (KS + 4000) (x3_9 + 8) m377 (by omega) (by omega) hf)
          · rw [if_neg hc] at hf
            refine zr_iconst 0 dL_law_1065 (by decide) ?_
            refine zr_widen (k := 600000) (n := 7302250) (by omega) (by omega) ?_
            cases hf
            exact zr_zret rfl dL_law_1066
        rw [if_neg hs379] at hf
        rcases zdec ((v13 &&& 63) = 19) with hs397 | hs397
        · rw [if_pos hs397] at hf
          refine zr_tableIn (off := 1034) 1067 dL_law_33 (by rw [hs397]; decide) (by rw [hs397]; decide) (by rw [hs397]; rfl) (by decide) ?_
          refine zr_aload_n 1 dL_law_1067 rfl ?_
          refine zr_aload_n 0 dL_law_1068 rfl ?_
          refine zr_iload_n 3 dL_law_1069 rfl ?_
          refine zr_iconst 1 dL_law_1070 (by decide) ?_
          refine zr_iadd dL_law_1071 ?_
          replace hf := zb1_s hf
          obtain ⟨v380, h381, hf⟩ := hf
          refine zr_sld hX hbl hbA h381 dL_law_1072 ?_
          refine zr_aload_n 0 dL_law_1073 rfl ?_
          refine zr_iload_n 3 dL_law_1074 rfl ?_
          refine zr_iconst 2 dL_law_1075 (by decide) ?_
          refine zr_iadd dL_law_1076 ?_
          replace hf := zb1_s hf
          obtain ⟨v382, h383, hf⟩ := hf
          refine zr_sld hX hbl hbA h383 dL_law_1077 ?_
          refine zr_aload_n 0 dL_law_1078 rfl ?_
          refine zr_iload_n 3 dL_law_1079 rfl ?_
          refine zr_iconst 3 dL_law_1080 (by decide) ?_
          refine zr_iadd dL_law_1081 ?_
          replace hf := zb1_s hf
          obtain ⟨v384, h385, hf⟩ := hf
          refine zr_sld hX hbl hbA h385 dL_law_1082 ?_
          replace hf := zb1_s hf
          obtain ⟨v387, h386, hf⟩ := hf
          refine zr_callV (ci := 11) [.int v380, .int v382, .int v384] (cX11_fact_ok h386) zvs_X11_fact zl_1472 zl_1473 (fX11_fact_ck h386) rfl rfl zl_1471 rfl (Nat.le_of_ble_eq_true rfl) (by show _ ≤ 600000; omega) (by show _ ≤ 7302250; omega) (Nat.le_of_ble_eq_true rfl) dL_law_1083 rfl ?_
          refine zr_aload_n 2 dL_law_1086 rfl ?_
          refine zr_aload_n 0 dL_law_1087 rfl ?_
          refine zr_iload_n 3 dL_law_1088 rfl ?_
          refine zr_iconst 1 dL_law_1089 (by decide) ?_
          refine zr_iadd dL_law_1090 ?_
          replace hf := zb1_s hf
          obtain ⟨v388, h389, hf⟩ := hf
          refine zr_sld hX hbl hbA h389 dL_law_1091 ?_
          refine zr_aload_n 0 dL_law_1092 rfl ?_
          refine zr_iload_n 3 dL_law_1093 rfl ?_
          refine zr_iconst 2 dL_law_1094 (by decide) ?_
          refine zr_iadd dL_law_1095 ?_
          replace hf := zb1_s hf
          obtain ⟨v390, h391, hf⟩ := hf
          refine zr_sld hX hbl hbA h391 dL_law_1096 ?_
          refine zr_aload_n 0 dL_law_1097 rfl ?_
          refine zr_iload_n 3 dL_law_1098 rfl ?_
          refine zr_iconst 3 dL_law_1099 (by decide) ?_
          refine zr_iadd dL_law_1100 ?_
          replace hf := zb1_s hf
          obtain ⟨v392, h393, hf⟩ := hf
          refine zr_sld hX hbl hbA h393 dL_law_1101 ?_
          replace hf := zb2_s hf
          obtain ⟨v396, m395, h394, hf⟩ := hf
          refine zr_callV (ci := 12) [.int v388, .int v390, .int v392] (cX12_fact_ok h394) zvs_X12_fact zl_1476 zl_1477 (fX12_fact_ck h394) rfl rfl zl_1475 rfl (Nat.le_of_ble_eq_true rfl) (by show _ ≤ 600000; omega) (by show _ ≤ 7302250; omega) (Nat.le_of_ble_eq_true rfl) dL_law_1102 rfl ?_
          refine zr_icmp_eq 1740 dL_law_1105 (by decide) (fun hc => ?_) (fun hc => ?_)
          · rw [if_pos hc] at hf
            refine zr_iinc (j := 3) (x3_9 + 8) [(3, .int (x3_9 + 8)), (0, .ref x0), (1, .ref μ.2.1), (2, .ref m4.2.1)] dL_law_1740 rfl rfl (Nat.le_of_ble_eq_true rfl) rfl ?_
            refine zr_goto 18 dL_law_1743 (by decide) ?_
            refine zr_widen (k := KC + 64) (n := KS + 4000) (by omega) (by omega) ?_
            exact zr_lv [1, 2, 3, 0] rfl (ih12 (KC + 64) (KS + 4000) (x3_9 + 8) m395 (by omega) (by omega) hf)
          · rw [if_neg hc] at hf
            refine zr_iconst 0 dL_law_1108 (by decide) ?_
            refine zr_widen (k := 600000) (n := 7302250) (by omega) (by omega) ?_
            cases hf
            exact zr_zret rfl dL_law_1109
        rw [if_neg hs397] at hf
        rcases zdec ((v13 &&& 63) = 20) with hs415 | hs415
        · rw [if_pos hs415] at hf
          refine zr_tableIn (off := 1077) 1110 dL_law_33 (by rw [hs415]; decide) (by rw [hs415]; decide) (by rw [hs415]; rfl) (by decide) ?_
          refine zr_aload_n 1 dL_law_1110 rfl ?_
          refine zr_aload_n 0 dL_law_1111 rfl ?_
          refine zr_iload_n 3 dL_law_1112 rfl ?_
          refine zr_iconst 1 dL_law_1113 (by decide) ?_
          refine zr_iadd dL_law_1114 ?_
          replace hf := zb1_s hf
          obtain ⟨v398, h399, hf⟩ := hf
          refine zr_sld hX hbl hbA h399 dL_law_1115 ?_
          refine zr_aload_n 0 dL_law_1116 rfl ?_
          refine zr_iload_n 3 dL_law_1117 rfl ?_
          refine zr_iconst 2 dL_law_1118 (by decide) ?_
          refine zr_iadd dL_law_1119 ?_
          replace hf := zb1_s hf
          obtain ⟨v400, h401, hf⟩ := hf
          refine zr_sld hX hbl hbA h401 dL_law_1120 ?_
          refine zr_aload_n 0 dL_law_1121 rfl ?_
          refine zr_iload_n 3 dL_law_1122 rfl ?_
          refine zr_iconst 3 dL_law_1123 (by decide) ?_
          refine zr_iadd dL_law_1124 ?_
          replace hf := zb1_s hf
          obtain ⟨v402, h403, hf⟩ := hf
          refine zr_sld hX hbl hbA h403 dL_law_1125 ?_
          replace hf := zb1_s hf
          obtain ⟨v405, h404, hf⟩ := hf
          refine zr_callV (ci := 11) [.int v398, .int v400, .int v402] (cX11_said_ok h404) zvs_X11_said zl_1480 zl_1481 (fX11_said_ck h404) rfl rfl zl_1479 rfl (Nat.le_of_ble_eq_true rfl) (by show _ ≤ 600000; omega) (by show _ ≤ 7302250; omega) (Nat.le_of_ble_eq_true rfl) dL_law_1126 rfl ?_
          refine zr_aload_n 2 dL_law_1129 rfl ?_
          refine zr_aload_n 0 dL_law_1130 rfl ?_
          refine zr_iload_n 3 dL_law_1131 rfl ?_
          refine zr_iconst 1 dL_law_1132 (by decide) ?_
          refine zr_iadd dL_law_1133 ?_
          replace hf := zb1_s hf
          obtain ⟨v406, h407, hf⟩ := hf
          refine zr_sld hX hbl hbA h407 dL_law_1134 ?_
          refine zr_aload_n 0 dL_law_1135 rfl ?_
          refine zr_iload_n 3 dL_law_1136 rfl ?_
          refine zr_iconst 2 dL_law_1137 (by decide) ?_
          refine zr_iadd dL_law_1138 ?_
          replace hf := zb1_s hf
          obtain ⟨v408, h409, hf⟩ := hf
          refine zr_sld hX hbl hbA h409 dL_law_1139 ?_
          refine zr_aload_n 0 dL_law_1140 rfl ?_
          refine zr_iload_n 3 dL_law_1141 rfl ?_
          refine zr_iconst 3 dL_law_1142 (by decide) ?_
          refine zr_iadd dL_law_1143 ?_
          replace hf := zb1_s hf
          obtain ⟨v410, h411, hf⟩ := hf
          refine zr_sld hX hbl hbA h411 dL_law_1144 ?_
          replace hf := zb2_s hf
          obtain ⟨v414, m413, h412, hf⟩ := hf
          refine zr_callV (ci := 12) [.int v406, .int v408, .int v410] (cX12_said_ok h412) zvs_X12_said zl_1484 zl_1485 (fX12_said_ck h412) rfl rfl zl_1483 rfl (Nat.le_of_ble_eq_true rfl) (by show _ ≤ 600000; omega) (by show _ ≤ 7302250; omega) (Nat.le_of_ble_eq_true rfl) dL_law_1145 rfl ?_
          refine zr_icmp_eq 1740 dL_law_1148 (by decide) (fun hc => ?_) (fun hc => ?_)
          · rw [if_pos hc] at hf
            refine zr_iinc (j := 3) (x3_9 + 8) [(3, .int (x3_9 + 8)), (0, .ref x0), (1, .ref μ.2.1), (2, .ref m4.2.1)] dL_law_1740 rfl rfl (Nat.le_of_ble_eq_true rfl) rfl ?_
            refine zr_goto 18 dL_law_1743 (by decide) ?_
            refine zr_widen (k := KC + 64) (n := KS + 4000) (by omega) (by omega) ?_
            exact zr_lv [1, 2, 3, 0] rfl (ih12 (KC + 64) (KS + 4000) (x3_9 + 8) m413 (by omega) (by omega) hf)
          · rw [if_neg hc] at hf
            refine zr_iconst 0 dL_law_1151 (by decide) ?_
            refine zr_widen (k := 600000) (n := 7302250) (by omega) (by omega) ?_
            cases hf
            exact zr_zret rfl dL_law_1152
        rw [if_neg hs415] at hf
        rcases zdec ((v13 &&& 63) = 21) with hs438 | hs438
        · rw [if_pos hs438] at hf
          refine zr_tableIn (off := 1120) 1153 dL_law_33 (by rw [hs438]; decide) (by rw [hs438]; decide) (by rw [hs438]; rfl) (by decide) ?_
          refine zr_aload_n 1 dL_law_1153 rfl ?_
          refine zr_aload_n 0 dL_law_1154 rfl ?_
          refine zr_iload_n 3 dL_law_1155 rfl ?_
          refine zr_iconst 1 dL_law_1156 (by decide) ?_
          refine zr_iadd dL_law_1157 ?_
          replace hf := zb1_s hf
          obtain ⟨v416, h417, hf⟩ := hf
          refine zr_sld hX hbl hbA h417 dL_law_1158 ?_
          refine zr_aload_n 0 dL_law_1159 rfl ?_
          refine zr_iload_n 3 dL_law_1160 rfl ?_
          refine zr_iconst 2 dL_law_1161 (by decide) ?_
          refine zr_iadd dL_law_1162 ?_
          replace hf := zb1_s hf
          obtain ⟨v418, h419, hf⟩ := hf
          refine zr_sld hX hbl hbA h419 dL_law_1163 ?_
          refine zr_aload_n 0 dL_law_1164 rfl ?_
          refine zr_iload_n 3 dL_law_1165 rfl ?_
          refine zr_iconst 3 dL_law_1166 (by decide) ?_
          refine zr_iadd dL_law_1167 ?_
          replace hf := zb1_s hf
          obtain ⟨v420, h421, hf⟩ := hf
          refine zr_sld hX hbl hbA h421 dL_law_1168 ?_
          replace hf := zb1_s hf
          obtain ⟨s422, hg, hf⟩ := hf
          have hj423 : zz K cL_law (4, RL, some .boolean, 2048, 600000, 7302250, some (.int r), mo) KC KS 1177 [(0, .ref x0), (1, .ref μ.2.1), (2, .ref m4.2.1), (3, .int x3_9)] [.int s422, .int v418, .int v416, .ref μ.2.1] m10 := by
            replace hf := zb2_s hf
            obtain ⟨v426, m425, h424, hf⟩ := hf
            refine zr_callV (ci := 11) [.int v416, .int v418, .int s422] (cX11_spot_ok h424) zvs_X11_spot zl_1488 zl_1489 (fX11_spot_ck h424) rfl rfl zl_1487 rfl (Nat.le_of_ble_eq_true rfl) (by show _ ≤ 600000; omega) (by show _ ≤ 7302250; omega) (Nat.le_of_ble_eq_true rfl) dL_law_1177 rfl ?_
            refine zr_aload_n 2 dL_law_1180 rfl ?_
            refine zr_aload_n 0 dL_law_1181 rfl ?_
            refine zr_iload_n 3 dL_law_1182 rfl ?_
            refine zr_iconst 1 dL_law_1183 (by decide) ?_
            refine zr_iadd dL_law_1184 ?_
            replace hf := zb1_s hf
            obtain ⟨v427, h428, hf⟩ := hf
            refine zr_sld hX hbl hbA h428 dL_law_1185 ?_
            refine zr_aload_n 0 dL_law_1186 rfl ?_
            refine zr_iload_n 3 dL_law_1187 rfl ?_
            refine zr_iconst 2 dL_law_1188 (by decide) ?_
            refine zr_iadd dL_law_1189 ?_
            replace hf := zb1_s hf
            obtain ⟨v429, h430, hf⟩ := hf
            refine zr_sld hX hbl hbA h430 dL_law_1190 ?_
            refine zr_aload_n 0 dL_law_1191 rfl ?_
            refine zr_iload_n 3 dL_law_1192 rfl ?_
            refine zr_iconst 3 dL_law_1193 (by decide) ?_
            refine zr_iadd dL_law_1194 ?_
            replace hf := zb1_s hf
            obtain ⟨v431, h432, hf⟩ := hf
            refine zr_sld hX hbl hbA h432 dL_law_1195 ?_
            replace hf := zb1_s hf
            obtain ⟨s433, hg, hf⟩ := hf
            have hj434 : zz K cL_law (4, RL, some .boolean, 2048, 600000, 7302250, some (.int r), mo) KC KS 1204 [(0, .ref x0), (1, .ref μ.2.1), (2, .ref m4.2.1), (3, .int x3_9)] [.int s433, .int v429, .int v427, .ref m4.2.1, .int v426] m425 := by
              replace hf := zb2_s hf
              obtain ⟨v437, m436, h435, hf⟩ := hf
              refine zr_callV (ci := 12) [.int v427, .int v429, .int s433] (cX12_spot_ok h435) zvs_X12_spot zl_1492 zl_1493 (fX12_spot_ck h435) rfl rfl zl_1491 rfl (Nat.le_of_ble_eq_true rfl) (by show _ ≤ 600000; omega) (by show _ ≤ 7302250; omega) (Nat.le_of_ble_eq_true rfl) dL_law_1204 rfl ?_
              refine zr_icmp_eq 1740 dL_law_1207 (by decide) (fun hc => ?_) (fun hc => ?_)
              · rw [if_pos hc] at hf
                refine zr_iinc (j := 3) (x3_9 + 8) [(3, .int (x3_9 + 8)), (0, .ref x0), (1, .ref μ.2.1), (2, .ref m4.2.1)] dL_law_1740 rfl rfl (Nat.le_of_ble_eq_true rfl) rfl ?_
                refine zr_goto 18 dL_law_1743 (by decide) ?_
                refine zr_widen (k := KC + 64) (n := KS + 4000) (by omega) (by omega) ?_
                exact zr_lv [1, 2, 3, 0] rfl (ih12 (KC + 64) (KS + 4000) (x3_9 + 8) m436 (by omega) (by omega) hf)
              · rw [if_neg hc] at hf
                refine zr_iconst 0 dL_law_1210 (by decide) ?_
                refine zr_widen (k := 600000) (n := 7302250) (by omega) (by omega) ?_
                cases hf
                exact zr_zret rfl dL_law_1211
            clear hf
            have hf := hg
            clear hg
            refine zr_if_eq 1203 dL_law_1196 (by decide) (fun hc => ?_) (fun hc => ?_)
            · rw [if_pos hc] at hf
              refine zr_iconst 0 dL_law_1203 (by decide) ?_
              cases hf
              exact zr_lv [0, 1, 2, 3] rfl hj434
            · rw [if_neg hc] at hf
              refine zr_iconst 1 dL_law_1199 (by decide) ?_
              refine zr_goto 1204 dL_law_1200 (by decide) ?_
              cases hf
              exact zr_lv [0, 1, 2, 3] rfl hj434
          clear hf
          have hf := hg
          clear hg
          refine zr_if_eq 1176 dL_law_1169 (by decide) (fun hc => ?_) (fun hc => ?_)
          · rw [if_pos hc] at hf
            refine zr_iconst 0 dL_law_1176 (by decide) ?_
            cases hf
            exact zr_lv [0, 1, 2, 3] rfl hj423
          · rw [if_neg hc] at hf
            refine zr_iconst 1 dL_law_1172 (by decide) ?_
            refine zr_goto 1177 dL_law_1173 (by decide) ?_
            cases hf
            exact zr_lv [0, 1, 2, 3] rfl hj423
        rw [if_neg hs438] at hf
        rcases zdec ((v13 &&& 63) = 22) with hs461 | hs461
        · rw [if_pos hs461] at hf
          refine zr_tableIn (off := 1179) 1212 dL_law_33 (by rw [hs461]; decide) (by rw [hs461]; decide) (by rw [hs461]; rfl) (by decide) ?_
          refine zr_aload_n 1 dL_law_1212 rfl ?_
          refine zr_aload_n 0 dL_law_1213 rfl ?_
          refine zr_iload_n 3 dL_law_1214 rfl ?_
          refine zr_iconst 1 dL_law_1215 (by decide) ?_
          refine zr_iadd dL_law_1216 ?_
          replace hf := zb1_s hf
          obtain ⟨v439, h440, hf⟩ := hf
          refine zr_sld hX hbl hbA h440 dL_law_1217 ?_
          refine zr_aload_n 0 dL_law_1218 rfl ?_
          refine zr_iload_n 3 dL_law_1219 rfl ?_
          refine zr_iconst 2 dL_law_1220 (by decide) ?_
          refine zr_iadd dL_law_1221 ?_
          replace hf := zb1_s hf
          obtain ⟨v441, h442, hf⟩ := hf
          refine zr_sld hX hbl hbA h442 dL_law_1222 ?_
          refine zr_aload_n 0 dL_law_1223 rfl ?_
          refine zr_iload_n 3 dL_law_1224 rfl ?_
          refine zr_iconst 3 dL_law_1225 (by decide) ?_
          refine zr_iadd dL_law_1226 ?_
          replace hf := zb1_s hf
          obtain ⟨v443, h444, hf⟩ := hf
          refine zr_sld hX hbl hbA h444 dL_law_1227 ?_
          refine zr_aload_n 0 dL_law_1228 rfl ?_
          refine zr_iload_n 3 dL_law_1229 rfl ?_
          refine zr_iconst 4 dL_law_1230 (by decide) ?_
          refine zr_iadd dL_law_1231 ?_
          replace hf := zb1_s hf
          obtain ⟨v445, h446, hf⟩ := hf
          refine zr_sld hX hbl hbA h446 dL_law_1232 ?_
          replace hf := zb2_s hf
          obtain ⟨v449, m448, h447, hf⟩ := hf
          refine zr_callV (ci := 11) [.int v439, .int v441, .int v443, .int v445] (cX11_drawn_ok h447) zvs_X11_drawn zl_1496 zl_1497 (fX11_drawn_ck h447) rfl rfl zl_1495 rfl (Nat.le_of_ble_eq_true rfl) (by show _ ≤ 600000; omega) (by show _ ≤ 7302250; omega) (Nat.le_of_ble_eq_true rfl) dL_law_1233 rfl ?_
          refine zr_aload_n 2 dL_law_1236 rfl ?_
          refine zr_aload_n 0 dL_law_1237 rfl ?_
          refine zr_iload_n 3 dL_law_1238 rfl ?_
          refine zr_iconst 1 dL_law_1239 (by decide) ?_
          refine zr_iadd dL_law_1240 ?_
          replace hf := zb1_s hf
          obtain ⟨v450, h451, hf⟩ := hf
          refine zr_sld hX hbl hbA h451 dL_law_1241 ?_
          refine zr_aload_n 0 dL_law_1242 rfl ?_
          refine zr_iload_n 3 dL_law_1243 rfl ?_
          refine zr_iconst 2 dL_law_1244 (by decide) ?_
          refine zr_iadd dL_law_1245 ?_
          replace hf := zb1_s hf
          obtain ⟨v452, h453, hf⟩ := hf
          refine zr_sld hX hbl hbA h453 dL_law_1246 ?_
          refine zr_aload_n 0 dL_law_1247 rfl ?_
          refine zr_iload_n 3 dL_law_1248 rfl ?_
          refine zr_iconst 3 dL_law_1249 (by decide) ?_
          refine zr_iadd dL_law_1250 ?_
          replace hf := zb1_s hf
          obtain ⟨v454, h455, hf⟩ := hf
          refine zr_sld hX hbl hbA h455 dL_law_1251 ?_
          refine zr_aload_n 0 dL_law_1252 rfl ?_
          refine zr_iload_n 3 dL_law_1253 rfl ?_
          refine zr_iconst 4 dL_law_1254 (by decide) ?_
          refine zr_iadd dL_law_1255 ?_
          replace hf := zb1_s hf
          obtain ⟨v456, h457, hf⟩ := hf
          refine zr_sld hX hbl hbA h457 dL_law_1256 ?_
          replace hf := zb2_s hf
          obtain ⟨v460, m459, h458, hf⟩ := hf
          refine zr_callV (ci := 12) [.int v450, .int v452, .int v454, .int v456] (cX12_drawn_ok h458) zvs_X12_drawn zl_1500 zl_1501 (fX12_drawn_ck h458) rfl rfl zl_1499 rfl (Nat.le_of_ble_eq_true rfl) (by show _ ≤ 600000; omega) (by show _ ≤ 7302250; omega) (Nat.le_of_ble_eq_true rfl) dL_law_1257 rfl ?_
          refine zr_icmp_eq 1740 dL_law_1260 (by decide) (fun hc => ?_) (fun hc => ?_)
          · rw [if_pos hc] at hf
            refine zr_iinc (j := 3) (x3_9 + 8) [(3, .int (x3_9 + 8)), (0, .ref x0), (1, .ref μ.2.1), (2, .ref m4.2.1)] dL_law_1740 rfl rfl (Nat.le_of_ble_eq_true rfl) rfl ?_
            refine zr_goto 18 dL_law_1743 (by decide) ?_
            refine zr_widen (k := KC + 64) (n := KS + 4000) (by omega) (by omega) ?_
            exact zr_lv [1, 2, 3, 0] rfl (ih12 (KC + 64) (KS + 4000) (x3_9 + 8) m459 (by omega) (by omega) hf)
          · rw [if_neg hc] at hf
            refine zr_iconst 0 dL_law_1263 (by decide) ?_
            refine zr_widen (k := 600000) (n := 7302250) (by omega) (by omega) ?_
            cases hf
            exact zr_zret rfl dL_law_1264
        rw [if_neg hs461] at hf
        rcases zdec ((v13 &&& 63) = 23) with hs475 | hs475
        · rw [if_pos hs475] at hf
          refine zr_tableIn (off := 1232) 1265 dL_law_33 (by rw [hs475]; decide) (by rw [hs475]; decide) (by rw [hs475]; rfl) (by decide) ?_
          refine zr_aload_n 1 dL_law_1265 rfl ?_
          refine zr_aload_n 0 dL_law_1266 rfl ?_
          refine zr_iload_n 3 dL_law_1267 rfl ?_
          refine zr_iconst 1 dL_law_1268 (by decide) ?_
          refine zr_iadd dL_law_1269 ?_
          replace hf := zb1_s hf
          obtain ⟨v462, h463, hf⟩ := hf
          refine zr_sld hX hbl hbA h463 dL_law_1270 ?_
          refine zr_aload_n 0 dL_law_1271 rfl ?_
          refine zr_iload_n 3 dL_law_1272 rfl ?_
          refine zr_iconst 2 dL_law_1273 (by decide) ?_
          refine zr_iadd dL_law_1274 ?_
          replace hf := zb1_s hf
          obtain ⟨v464, h465, hf⟩ := hf
          refine zr_sld hX hbl hbA h465 dL_law_1275 ?_
          replace hf := zb1_s hf
          obtain ⟨v467, h466, hf⟩ := hf
          refine zr_callV (ci := 11) [.int v462, .int v464] (cX11_rings_ok h466) zvs_X11_rings zl_1504 zl_1505 (fX11_rings_ck h466) rfl rfl zl_1503 rfl (Nat.le_of_ble_eq_true rfl) (by show _ ≤ 600000; omega) (by show _ ≤ 7302250; omega) (Nat.le_of_ble_eq_true rfl) dL_law_1276 rfl ?_
          refine zr_aload_n 2 dL_law_1279 rfl ?_
          refine zr_aload_n 0 dL_law_1280 rfl ?_
          refine zr_iload_n 3 dL_law_1281 rfl ?_
          refine zr_iconst 1 dL_law_1282 (by decide) ?_
          refine zr_iadd dL_law_1283 ?_
          replace hf := zb1_s hf
          obtain ⟨v468, h469, hf⟩ := hf
          refine zr_sld hX hbl hbA h469 dL_law_1284 ?_
          refine zr_aload_n 0 dL_law_1285 rfl ?_
          refine zr_iload_n 3 dL_law_1286 rfl ?_
          refine zr_iconst 2 dL_law_1287 (by decide) ?_
          refine zr_iadd dL_law_1288 ?_
          replace hf := zb1_s hf
          obtain ⟨v470, h471, hf⟩ := hf
          refine zr_sld hX hbl hbA h471 dL_law_1289 ?_
          replace hf := zb2_s hf
          obtain ⟨v474, m473, h472, hf⟩ := hf
          refine zr_callV (ci := 12) [.int v468, .int v470] (cX12_rings_ok h472) zvs_X12_rings zl_1508 zl_1509 (fX12_rings_ck h472) rfl rfl zl_1507 rfl (Nat.le_of_ble_eq_true rfl) (by show _ ≤ 600000; omega) (by show _ ≤ 7302250; omega) (Nat.le_of_ble_eq_true rfl) dL_law_1290 rfl ?_
          refine zr_icmp_eq 1740 dL_law_1293 (by decide) (fun hc => ?_) (fun hc => ?_)
          · rw [if_pos hc] at hf
            refine zr_iinc (j := 3) (x3_9 + 8) [(3, .int (x3_9 + 8)), (0, .ref x0), (1, .ref μ.2.1), (2, .ref m4.2.1)] dL_law_1740 rfl rfl (Nat.le_of_ble_eq_true rfl) rfl ?_
            refine zr_goto 18 dL_law_1743 (by decide) ?_
            refine zr_widen (k := KC + 64) (n := KS + 4000) (by omega) (by omega) ?_
            exact zr_lv [1, 2, 3, 0] rfl (ih12 (KC + 64) (KS + 4000) (x3_9 + 8) m473 (by omega) (by omega) hf)
          · rw [if_neg hc] at hf
            refine zr_iconst 0 dL_law_1296 (by decide) ?_
            refine zr_widen (k := 600000) (n := 7302250) (by omega) (by omega) ?_
            cases hf
            exact zr_zret rfl dL_law_1297
        rw [if_neg hs475] at hf
        rcases zdec ((v13 &&& 63) = 24) with hs497 | hs497
        · rw [if_pos hs497] at hf
          refine zr_tableIn (off := 1265) 1298 dL_law_33 (by rw [hs497]; decide) (by rw [hs497]; decide) (by rw [hs497]; rfl) (by decide) ?_
          refine zr_aload_n 1 dL_law_1298 rfl ?_
          refine zr_aload_n 0 dL_law_1299 rfl ?_
          refine zr_iload_n 3 dL_law_1300 rfl ?_
          refine zr_iconst 1 dL_law_1301 (by decide) ?_
          refine zr_iadd dL_law_1302 ?_
          replace hf := zb1_s hf
          obtain ⟨v476, h477, hf⟩ := hf
          refine zr_sld hX hbl hbA h477 dL_law_1303 ?_
          refine zr_aload_n 0 dL_law_1304 rfl ?_
          refine zr_iload_n 3 dL_law_1305 rfl ?_
          refine zr_iconst 2 dL_law_1306 (by decide) ?_
          refine zr_iadd dL_law_1307 ?_
          replace hf := zb1_s hf
          obtain ⟨v478, h479, hf⟩ := hf
          refine zr_sld hX hbl hbA h479 dL_law_1308 ?_
          refine zr_aload_n 0 dL_law_1309 rfl ?_
          refine zr_iload_n 3 dL_law_1310 rfl ?_
          refine zr_iconst 3 dL_law_1311 (by decide) ?_
          refine zr_iadd dL_law_1312 ?_
          replace hf := zb1_s hf
          obtain ⟨v480, h481, hf⟩ := hf
          refine zr_sld hX hbl hbA h481 dL_law_1313 ?_
          replace hf := zb1_s hf
          obtain ⟨s482, hg, hf⟩ := hf
          have hj483 : zz K cL_law (4, RL, some .boolean, 2048, 600000, 7302250, some (.int r), mo) KC KS 1322 [(0, .ref x0), (1, .ref μ.2.1), (2, .ref m4.2.1), (3, .int x3_9)] [.int s482, .int v478, .int v476, .ref μ.2.1] m10 := by
            replace hf := zb1_s hf
            obtain ⟨v485, h484, hf⟩ := hf
            refine zr_callV (ci := 11) [.int v476, .int v478, .int s482] (cX11_unsure_ok h484) zvs_X11_unsure zl_1512 zl_1513 (fX11_unsure_ck h484) rfl rfl zl_1511 rfl (Nat.le_of_ble_eq_true rfl) (by show _ ≤ 600000; omega) (by show _ ≤ 7302250; omega) (Nat.le_of_ble_eq_true rfl) dL_law_1322 rfl ?_
            refine zr_aload_n 2 dL_law_1325 rfl ?_
            refine zr_aload_n 0 dL_law_1326 rfl ?_
            refine zr_iload_n 3 dL_law_1327 rfl ?_
            refine zr_iconst 1 dL_law_1328 (by decide) ?_
            refine zr_iadd dL_law_1329 ?_
            replace hf := zb1_s hf
            obtain ⟨v486, h487, hf⟩ := hf
            refine zr_sld hX hbl hbA h487 dL_law_1330 ?_
            refine zr_aload_n 0 dL_law_1331 rfl ?_
            refine zr_iload_n 3 dL_law_1332 rfl ?_
            refine zr_iconst 2 dL_law_1333 (by decide) ?_
            refine zr_iadd dL_law_1334 ?_
            replace hf := zb1_s hf
            obtain ⟨v488, h489, hf⟩ := hf
            refine zr_sld hX hbl hbA h489 dL_law_1335 ?_
            refine zr_aload_n 0 dL_law_1336 rfl ?_
            refine zr_iload_n 3 dL_law_1337 rfl ?_
            refine zr_iconst 3 dL_law_1338 (by decide) ?_
            refine zr_iadd dL_law_1339 ?_
            replace hf := zb1_s hf
            obtain ⟨v490, h491, hf⟩ := hf
            refine zr_sld hX hbl hbA h491 dL_law_1340 ?_
            replace hf := zb1_s hf
            obtain ⟨s492, hg, hf⟩ := hf
            have hj493 : zz K cL_law (4, RL, some .boolean, 2048, 600000, 7302250, some (.int r), mo) KC KS 1349 [(0, .ref x0), (1, .ref μ.2.1), (2, .ref m4.2.1), (3, .int x3_9)] [.int s492, .int v488, .int v486, .ref m4.2.1, .long v485] m10 := by
              replace hf := zb2_s hf
              obtain ⟨v496, m495, h494, hf⟩ := hf
              refine zr_callV (ci := 12) [.int v486, .int v488, .int s492] (cX12_unsure_ok h494) zvs_X12_unsure zl_1516 zl_1517 (fX12_unsure_ck h494) rfl rfl zl_1515 rfl (Nat.le_of_ble_eq_true rfl) (by show _ ≤ 600000; omega) (by show _ ≤ 7302250; omega) (Nat.le_of_ble_eq_true rfl) dL_law_1349 rfl ?_
              refine zr_lcmp dL_law_1352 ?_
              refine zr_if_eq 1740 dL_law_1353 (by decide) (fun hc => ?_) (fun hc => ?_)
              · rw [if_pos hc] at hf
                refine zr_iinc (j := 3) (x3_9 + 8) [(3, .int (x3_9 + 8)), (0, .ref x0), (1, .ref μ.2.1), (2, .ref m4.2.1)] dL_law_1740 rfl rfl (Nat.le_of_ble_eq_true rfl) rfl ?_
                refine zr_goto 18 dL_law_1743 (by decide) ?_
                refine zr_widen (k := KC + 64) (n := KS + 4000) (by omega) (by omega) ?_
                exact zr_lv [1, 2, 3, 0] rfl (ih12 (KC + 64) (KS + 4000) (x3_9 + 8) m495 (by omega) (by omega) hf)
              · rw [if_neg hc] at hf
                refine zr_iconst 0 dL_law_1356 (by decide) ?_
                refine zr_widen (k := 600000) (n := 7302250) (by omega) (by omega) ?_
                cases hf
                exact zr_zret rfl dL_law_1357
            clear hf
            have hf := hg
            clear hg
            refine zr_if_eq 1348 dL_law_1341 (by decide) (fun hc => ?_) (fun hc => ?_)
            · rw [if_pos hc] at hf
              refine zr_iconst 0 dL_law_1348 (by decide) ?_
              cases hf
              exact zr_lv [0, 1, 2, 3] rfl hj493
            · rw [if_neg hc] at hf
              refine zr_iconst 1 dL_law_1344 (by decide) ?_
              refine zr_goto 1349 dL_law_1345 (by decide) ?_
              cases hf
              exact zr_lv [0, 1, 2, 3] rfl hj493
          clear hf
          have hf := hg
          clear hg
          refine zr_if_eq 1321 dL_law_1314 (by decide) (fun hc => ?_) (fun hc => ?_)
          · rw [if_pos hc] at hf
            refine zr_iconst 0 dL_law_1321 (by decide) ?_
            cases hf
            exact zr_lv [0, 1, 2, 3] rfl hj483
          · rw [if_neg hc] at hf
            refine zr_iconst 1 dL_law_1317 (by decide) ?_
            refine zr_goto 1322 dL_law_1318 (by decide) ?_
            cases hf
            exact zr_lv [0, 1, 2, 3] rfl hj483
        rw [if_neg hs497] at hf
        rcases zdec ((v13 &&& 63) = 25) with hs524 | hs524
        · rw [if_pos hs524] at hf
          refine zr_tableIn (off := 1325) 1358 dL_law_33 (by rw [hs524]; decide) (by rw [hs524]; decide) (by rw [hs524]; rfl) (by decide) ?_
          refine zr_aload_n 1 dL_law_1358 rfl ?_
          refine zr_aload_n 0 dL_law_1359 rfl ?_
          refine zr_iload_n 3 dL_law_1360 rfl ?_
          refine zr_iconst 1 dL_law_1361 (by decide) ?_
          refine zr_iadd dL_law_1362 ?_
          replace hf := zb1_s hf
          obtain ⟨v498, h499, hf⟩ := hf
          refine zr_sld hX hbl hbA h499 dL_law_1363 ?_
          refine zr_aload_n 0 dL_law_1364 rfl ?_
          refine zr_iload_n 3 dL_law_1365 rfl ?_
          refine zr_iconst 2 dL_law_1366 (by decide) ?_
          refine zr_iadd dL_law_1367 ?_
          replace hf := zb1_s hf
          obtain ⟨v500, h501, hf⟩ := hf
          refine zr_sld hX hbl hbA h501 dL_law_1368 ?_
          refine zr_aload_n 0 dL_law_1369 rfl ?_
          refine zr_iload_n 3 dL_law_1370 rfl ?_
          refine zr_iconst 3 dL_law_1371 (by decide) ?_
          refine zr_iadd dL_law_1372 ?_
          replace hf := zb1_s hf
          obtain ⟨v502, h503, hf⟩ := hf
          refine zr_sld hX hbl hbA h503 dL_law_1373 ?_
          refine zr_aload_n 0 dL_law_1374 rfl ?_
          refine zr_iload_n 3 dL_law_1375 rfl ?_
          refine zr_iconst 4 dL_law_1376 (by decide) ?_
          refine zr_iadd dL_law_1377 ?_
          replace hf := zb1_s hf
          obtain ⟨v504, h505, hf⟩ := hf
          refine zr_sld hX hbl hbA h505 dL_law_1378 ?_
          replace hf := zb1_s hf
          obtain ⟨s506, hg, hf⟩ := hf
          have hj507 : zz K cL_law (4, RL, some .boolean, 2048, 600000, 7302250, some (.int r), mo) KC KS 1387 [(0, .ref x0), (1, .ref μ.2.1), (2, .ref m4.2.1), (3, .int x3_9)] [.int s506, .int v502, .int v500, .int v498, .ref μ.2.1] m10 := by
            replace hf := zb2_s hf
            obtain ⟨v510, m509, h508, hf⟩ := hf
            refine zr_callV (ci := 11) [.int v498, .int v500, .int v502, .int s506] (cX11_spread_ok h508) zvs_X11_spread zl_1520 zl_1521 (fX11_spread_ck h508) rfl rfl zl_1519 rfl (Nat.le_of_ble_eq_true rfl) (by show _ ≤ 600000; omega) (by show _ ≤ 7302250; omega) (Nat.le_of_ble_eq_true rfl) dL_law_1387 rfl ?_
            refine zr_aload_n 2 dL_law_1390 rfl ?_
            refine zr_aload_n 0 dL_law_1391 rfl ?_
            refine zr_iload_n 3 dL_law_1392 rfl ?_
            refine zr_iconst 1 dL_law_1393 (by decide) ?_
            refine zr_iadd dL_law_1394 ?_
            replace hf := zb1_s hf
            obtain ⟨v511, h512, hf⟩ := hf
            refine zr_sld hX hbl hbA h512 dL_law_1395 ?_
            refine zr_aload_n 0 dL_law_1396 rfl ?_
            refine zr_iload_n 3 dL_law_1397 rfl ?_
            refine zr_iconst 2 dL_law_1398 (by decide) ?_
            refine zr_iadd dL_law_1399 ?_
            replace hf := zb1_s hf
            obtain ⟨v513, h514, hf⟩ := hf
            refine zr_sld hX hbl hbA h514 dL_law_1400 ?_
            refine zr_aload_n 0 dL_law_1401 rfl ?_
            refine zr_iload_n 3 dL_law_1402 rfl ?_
            refine zr_iconst 3 dL_law_1403 (by decide) ?_
            refine zr_iadd dL_law_1404 ?_
            replace hf := zb1_s hf
            obtain ⟨v515, h516, hf⟩ := hf
            refine zr_sld hX hbl hbA h516 dL_law_1405 ?_
            refine zr_aload_n 0 dL_law_1406 rfl ?_
            refine zr_iload_n 3 dL_law_1407 rfl ?_
            refine zr_iconst 4 dL_law_1408 (by decide) ?_
            refine zr_iadd dL_law_1409 ?_
            replace hf := zb1_s hf
            obtain ⟨v517, h518, hf⟩ := hf
            refine zr_sld hX hbl hbA h518 dL_law_1410 ?_
            replace hf := zb1_s hf
            obtain ⟨s519, hg, hf⟩ := hf
            have hj520 : zz K cL_law (4, RL, some .boolean, 2048, 600000, 7302250, some (.int r), mo) KC KS 1419 [(0, .ref x0), (1, .ref μ.2.1), (2, .ref m4.2.1), (3, .int x3_9)] [.int s519, .int v515, .int v513, .int v511, .ref m4.2.1, .int v510] m509 := by
              replace hf := zb2_s hf
              obtain ⟨v523, m522, h521, hf⟩ := hf
              refine zr_callV (ci := 12) [.int v511, .int v513, .int v515, .int s519] (cX12_spread_ok h521) zvs_X12_spread zl_1524 zl_1525 (fX12_spread_ck h521) rfl rfl zl_1523 rfl (Nat.le_of_ble_eq_true rfl) (by show _ ≤ 600000; omega) (by show _ ≤ 7302250; omega) (Nat.le_of_ble_eq_true rfl) dL_law_1419 rfl ?_
              refine zr_icmp_eq 1740 dL_law_1422 (by decide) (fun hc => ?_) (fun hc => ?_)
              · rw [if_pos hc] at hf
                refine zr_iinc (j := 3) (x3_9 + 8) [(3, .int (x3_9 + 8)), (0, .ref x0), (1, .ref μ.2.1), (2, .ref m4.2.1)] dL_law_1740 rfl rfl (Nat.le_of_ble_eq_true rfl) rfl ?_
                refine zr_goto 18 dL_law_1743 (by decide) ?_
                refine zr_widen (k := KC + 64) (n := KS + 4000) (by omega) (by omega) ?_
                exact zr_lv [1, 2, 3, 0] rfl (ih12 (KC + 64) (KS + 4000) (x3_9 + 8) m522 (by omega) (by omega) hf)
              · rw [if_neg hc] at hf
                refine zr_iconst 0 dL_law_1425 (by decide) ?_
                refine zr_widen (k := 600000) (n := 7302250) (by omega) (by omega) ?_
                cases hf
                exact zr_zret rfl dL_law_1426
            clear hf
            have hf := hg
            clear hg
            refine zr_if_eq 1418 dL_law_1411 (by decide) (fun hc => ?_) (fun hc => ?_)
            · rw [if_pos hc] at hf
              refine zr_iconst 0 dL_law_1418 (by decide) ?_
              cases hf
              exact zr_lv [0, 1, 2, 3] rfl hj520
            · rw [if_neg hc] at hf
              refine zr_iconst 1 dL_law_1414 (by decide) ?_
              refine zr_goto 1419 dL_law_1415 (by decide) ?_
              cases hf
              exact zr_lv [0, 1, 2, 3] rfl hj520
          clear hf
          have hf := hg
          clear hg
          refine zr_if_eq 1386 dL_law_1379 (by decide) (fun hc => ?_) (fun hc => ?_)
          · rw [if_pos hc] at hf
            refine zr_iconst 0 dL_law_1386 (by decide) ?_
            cases hf
            exact zr_lv [0, 1, 2, 3] rfl hj507
          · rw [if_neg hc] at hf
            refine zr_iconst 1 dL_law_1382 (by decide) ?_
            refine zr_goto 1387 dL_law_1383 (by decide) ?_
            cases hf
            exact zr_lv [0, 1, 2, 3] rfl hj507
        rw [if_neg hs524] at hf
        rcases zdec ((v13 &&& 63) = 26) with hs538 | hs538
        · rw [if_pos hs538] at hf
          refine zr_tableIn (off := 1394) 1427 dL_law_33 (by rw [hs538]; decide) (by rw [hs538]; decide) (by rw [hs538]; rfl) (by decide) ?_
          refine zr_aload_n 1 dL_law_1427 rfl ?_
          refine zr_aload_n 0 dL_law_1428 rfl ?_
          refine zr_iload_n 3 dL_law_1429 rfl ?_
          refine zr_iconst 1 dL_law_1430 (by decide) ?_
          refine zr_iadd dL_law_1431 ?_
          replace hf := zb1_s hf
          obtain ⟨v525, h526, hf⟩ := hf
          refine zr_sld hX hbl hbA h526 dL_law_1432 ?_
          refine zr_aload_n 0 dL_law_1433 rfl ?_
          refine zr_iload_n 3 dL_law_1434 rfl ?_
          refine zr_iconst 2 dL_law_1435 (by decide) ?_
          refine zr_iadd dL_law_1436 ?_
          replace hf := zb1_s hf
          obtain ⟨v527, h528, hf⟩ := hf
          refine zr_sld hX hbl hbA h528 dL_law_1437 ?_
          replace hf := zb1_s hf
          obtain ⟨v530, h529, hf⟩ := hf
          refine zr_callV (ci := 11) [.int v525, .int v527] (cX11_guards_ok h529) zvs_X11_guards zl_1528 zl_1529 (fX11_guards_ck h529) rfl rfl zl_1527 rfl (Nat.le_of_ble_eq_true rfl) (by show _ ≤ 600000; omega) (by show _ ≤ 7302250; omega) (Nat.le_of_ble_eq_true rfl) dL_law_1438 rfl ?_
          refine zr_aload_n 2 dL_law_1441 rfl ?_
          refine zr_aload_n 0 dL_law_1442 rfl ?_
          refine zr_iload_n 3 dL_law_1443 rfl ?_
          refine zr_iconst 1 dL_law_1444 (by decide) ?_
          refine zr_iadd dL_law_1445 ?_
          replace hf := zb1_s hf
          obtain ⟨v531, h532, hf⟩ := hf
          refine zr_sld hX hbl hbA h532 dL_law_1446 ?_
          refine zr_aload_n 0 dL_law_1447 rfl ?_
          refine zr_iload_n 3 dL_law_1448 rfl ?_
          refine zr_iconst 2 dL_law_1449 (by decide) ?_
          refine zr_iadd dL_law_1450 ?_
          replace hf := zb1_s hf
          obtain ⟨v533, h534, hf⟩ := hf
          refine zr_sld hX hbl hbA h534 dL_law_1451 ?_
          replace hf := zb2_s hf
          obtain ⟨v537, m536, h535, hf⟩ := hf
          refine zr_callV (ci := 12) [.int v531, .int v533] (cX12_guards_ok h535) zvs_X12_guards zl_1532 zl_1533 (fX12_guards_ck h535) rfl rfl zl_1531 rfl (Nat.le_of_ble_eq_true rfl) (by show _ ≤ 600000; omega) (by show _ ≤ 7302250; omega) (Nat.le_of_ble_eq_true rfl) dL_law_1452 rfl ?_
          refine zr_icmp_eq 1740 dL_law_1455 (by decide) (fun hc => ?_) (fun hc => ?_)
          · rw [if_pos hc] at hf
            refine zr_iinc (j := 3) (x3_9 + 8) [(3, .int (x3_9 + 8)), (0, .ref x0), (1, .ref μ.2.1), (2, .ref m4.2.1)] dL_law_1740 rfl rfl (Nat.le_of_ble_eq_true rfl) rfl ?_
            refine zr_goto 18 dL_law_1743 (by decide) ?_
            refine zr_widen (k := KC + 64) (n := KS + 4000) (by omega) (by omega) ?_
            exact zr_lv [1, 2, 3, 0] rfl (ih12 (KC + 64) (KS + 4000) (x3_9 + 8) m536 (by omega) (by omega) hf)
          · rw [if_neg hc] at hf
            refine zr_iconst 0 dL_law_1458 (by decide) ?_
            refine zr_widen (k := 600000) (n := 7302250) (by omega) (by omega) ?_
            cases hf
            exact zr_zret rfl dL_law_1459
        rw [if_neg hs538] at hf
        rcases zdec ((v13 &&& 63) = 27) with hs552 | hs552
        · rw [if_pos hs552] at hf
          refine zr_tableIn (off := 1427) 1460 dL_law_33 (by rw [hs552]; decide) (by rw [hs552]; decide) (by rw [hs552]; rfl) (by decide) ?_
          refine zr_aload_n 1 dL_law_1460 rfl ?_
          refine zr_aload_n 0 dL_law_1461 rfl ?_
          refine zr_iload_n 3 dL_law_1462 rfl ?_
          refine zr_iconst 1 dL_law_1463 (by decide) ?_
          refine zr_iadd dL_law_1464 ?_
          replace hf := zb1_s hf
          obtain ⟨v539, h540, hf⟩ := hf
          refine zr_sld hX hbl hbA h540 dL_law_1465 ?_
          refine zr_aload_n 0 dL_law_1466 rfl ?_
          refine zr_iload_n 3 dL_law_1467 rfl ?_
          refine zr_iconst 2 dL_law_1468 (by decide) ?_
          refine zr_iadd dL_law_1469 ?_
          replace hf := zb1_s hf
          obtain ⟨v541, h542, hf⟩ := hf
          refine zr_sld hX hbl hbA h542 dL_law_1470 ?_
          replace hf := zb1_s hf
          obtain ⟨v544, h543, hf⟩ := hf
          refine zr_callV (ci := 11) [.int v539, .int v541] (cX11_middle_ok h543) zvs_X11_middle zl_1536 zl_1537 (fX11_middle_ck h543) rfl rfl zl_1535 rfl (Nat.le_of_ble_eq_true rfl) (by show _ ≤ 600000; omega) (by show _ ≤ 7302250; omega) (Nat.le_of_ble_eq_true rfl) dL_law_1471 rfl ?_
          refine zr_aload_n 2 dL_law_1474 rfl ?_
          refine zr_aload_n 0 dL_law_1475 rfl ?_
          refine zr_iload_n 3 dL_law_1476 rfl ?_
          refine zr_iconst 1 dL_law_1477 (by decide) ?_
          refine zr_iadd dL_law_1478 ?_
          replace hf := zb1_s hf
          obtain ⟨v545, h546, hf⟩ := hf
          refine zr_sld hX hbl hbA h546 dL_law_1479 ?_
          refine zr_aload_n 0 dL_law_1480 rfl ?_
          refine zr_iload_n 3 dL_law_1481 rfl ?_
          refine zr_iconst 2 dL_law_1482 (by decide) ?_
          refine zr_iadd dL_law_1483 ?_
          replace hf := zb1_s hf
          obtain ⟨v547, h548, hf⟩ := hf
          refine zr_sld hX hbl hbA h548 dL_law_1484 ?_
          replace hf := zb2_s hf
          obtain ⟨v551, m550, h549, hf⟩ := hf
          refine zr_callV (ci := 12) [.int v545, .int v547] (cX12_middle_ok h549) zvs_X12_middle zl_1540 zl_1541 (fX12_middle_ck h549) rfl rfl zl_1539 rfl (Nat.le_of_ble_eq_true rfl) (by show _ ≤ 600000; omega) (by show _ ≤ 7302250; omega) (Nat.le_of_ble_eq_true rfl) dL_law_1485 rfl ?_
          refine zr_icmp_eq 1740 dL_law_1488 (by decide) (fun hc => ?_) (fun hc => ?_)
          · rw [if_pos hc] at hf
            refine zr_iinc (j := 3) (x3_9 + 8) [(3, .int (x3_9 + 8)), (0, .ref x0), (1, .ref μ.2.1), (2, .ref m4.2.1)] dL_law_1740 rfl rfl (Nat.le_of_ble_eq_true rfl) rfl ?_
            refine zr_goto 18 dL_law_1743 (by decide) ?_
            refine zr_widen (k := KC + 64) (n := KS + 4000) (by omega) (by omega) ?_
            exact zr_lv [1, 2, 3, 0] rfl (ih12 (KC + 64) (KS + 4000) (x3_9 + 8) m550 (by omega) (by omega) hf)
          · rw [if_neg hc] at hf
            refine zr_iconst 0 dL_law_1491 (by decide) ?_
            refine zr_widen (k := 600000) (n := 7302250) (by omega) (by omega) ?_
            cases hf
            exact zr_zret rfl dL_law_1492
        rw [if_neg hs552] at hf
        rcases zdec ((v13 &&& 63) = 28) with hs574 | hs574
        · rw [if_pos hs574] at hf
          refine zr_tableIn (off := 1460) 1493 dL_law_33 (by rw [hs574]; decide) (by rw [hs574]; decide) (by rw [hs574]; rfl) (by decide) ?_
          refine zr_aload_n 1 dL_law_1493 rfl ?_
          refine zr_aload_n 0 dL_law_1494 rfl ?_
          refine zr_iload_n 3 dL_law_1495 rfl ?_
          refine zr_iconst 1 dL_law_1496 (by decide) ?_
          refine zr_iadd dL_law_1497 ?_
          replace hf := zb1_s hf
          obtain ⟨v553, h554, hf⟩ := hf
          refine zr_sld hX hbl hbA h554 dL_law_1498 ?_
          refine zr_aload_n 0 dL_law_1499 rfl ?_
          refine zr_iload_n 3 dL_law_1500 rfl ?_
          refine zr_iconst 2 dL_law_1501 (by decide) ?_
          refine zr_iadd dL_law_1502 ?_
          replace hf := zb1_s hf
          obtain ⟨v555, h556, hf⟩ := hf
          refine zr_sld hX hbl hbA h556 dL_law_1503 ?_
          refine zr_aload_n 0 dL_law_1504 rfl ?_
          refine zr_iload_n 3 dL_law_1505 rfl ?_
          refine zr_iconst 3 dL_law_1506 (by decide) ?_
          refine zr_iadd dL_law_1507 ?_
          replace hf := zb1_s hf
          obtain ⟨v557, h558, hf⟩ := hf
          refine zr_sld hX hbl hbA h558 dL_law_1508 ?_
          replace hf := zb1_s hf
          obtain ⟨s559, hg, hf⟩ := hf
          have hj560 : zz K cL_law (4, RL, some .boolean, 2048, 600000, 7302250, some (.int r), mo) KC KS 1517 [(0, .ref x0), (1, .ref μ.2.1), (2, .ref m4.2.1), (3, .int x3_9)] [.int s559, .int v555, .int v553, .ref μ.2.1] m10 := by
            replace hf := zb1_s hf
            obtain ⟨v562, h561, hf⟩ := hf
            refine zr_callV (ci := 11) [.int v553, .int v555, .int s559] (cX11_auction_ok h561) zvs_X11_auction zl_1544 zl_1545 (fX11_auction_ck h561) rfl rfl zl_1543 rfl (Nat.le_of_ble_eq_true rfl) (by show _ ≤ 600000; omega) (by show _ ≤ 7302250; omega) (Nat.le_of_ble_eq_true rfl) dL_law_1517 rfl ?_
            refine zr_aload_n 2 dL_law_1520 rfl ?_
            refine zr_aload_n 0 dL_law_1521 rfl ?_
            refine zr_iload_n 3 dL_law_1522 rfl ?_
            refine zr_iconst 1 dL_law_1523 (by decide) ?_
            refine zr_iadd dL_law_1524 ?_
            replace hf := zb1_s hf
            obtain ⟨v563, h564, hf⟩ := hf
            refine zr_sld hX hbl hbA h564 dL_law_1525 ?_
            refine zr_aload_n 0 dL_law_1526 rfl ?_
            refine zr_iload_n 3 dL_law_1527 rfl ?_
            refine zr_iconst 2 dL_law_1528 (by decide) ?_
            refine zr_iadd dL_law_1529 ?_
            replace hf := zb1_s hf
            obtain ⟨v565, h566, hf⟩ := hf
            refine zr_sld hX hbl hbA h566 dL_law_1530 ?_
            refine zr_aload_n 0 dL_law_1531 rfl ?_
            refine zr_iload_n 3 dL_law_1532 rfl ?_
            refine zr_iconst 3 dL_law_1533 (by decide) ?_
            refine zr_iadd dL_law_1534 ?_
            replace hf := zb1_s hf
            obtain ⟨v567, h568, hf⟩ := hf
            refine zr_sld hX hbl hbA h568 dL_law_1535 ?_
            replace hf := zb1_s hf
            obtain ⟨s569, hg, hf⟩ := hf
            have hj570 : zz K cL_law (4, RL, some .boolean, 2048, 600000, 7302250, some (.int r), mo) KC KS 1544 [(0, .ref x0), (1, .ref μ.2.1), (2, .ref m4.2.1), (3, .int x3_9)] [.int s569, .int v565, .int v563, .ref m4.2.1, .int v562] m10 := by
              replace hf := zb2_s hf
              obtain ⟨v573, m572, h571, hf⟩ := hf
              refine zr_callV (ci := 12) [.int v563, .int v565, .int s569] (cX12_auction_ok h571) zvs_X12_auction zl_1548 zl_1549 (fX12_auction_ck h571) rfl rfl zl_1547 rfl (Nat.le_of_ble_eq_true rfl) (by show _ ≤ 600000; omega) (by show _ ≤ 7302250; omega) (Nat.le_of_ble_eq_true rfl) dL_law_1544 rfl ?_
              refine zr_icmp_eq 1740 dL_law_1547 (by decide) (fun hc => ?_) (fun hc => ?_)
              · rw [if_pos hc] at hf
                refine zr_iinc (j := 3) (x3_9 + 8) [(3, .int (x3_9 + 8)), (0, .ref x0), (1, .ref μ.2.1), (2, .ref m4.2.1)] dL_law_1740 rfl rfl (Nat.le_of_ble_eq_true rfl) rfl ?_
                refine zr_goto 18 dL_law_1743 (by decide) ?_
                refine zr_widen (k := KC + 64) (n := KS + 4000) (by omega) (by omega) ?_
                exact zr_lv [1, 2, 3, 0] rfl (ih12 (KC + 64) (KS + 4000) (x3_9 + 8) m572 (by omega) (by omega) hf)
              · rw [if_neg hc] at hf
                refine zr_iconst 0 dL_law_1550 (by decide) ?_
                refine zr_widen (k := 600000) (n := 7302250) (by omega) (by omega) ?_
                cases hf
                exact zr_zret rfl dL_law_1551
            clear hf
            have hf := hg
            clear hg
            refine zr_if_eq 1543 dL_law_1536 (by decide) (fun hc => ?_) (fun hc => ?_)
            · rw [if_pos hc] at hf
              refine zr_iconst 0 dL_law_1543 (by decide) ?_
              cases hf
              exact zr_lv [0, 1, 2, 3] rfl hj570
            · rw [if_neg hc] at hf
              refine zr_iconst 1 dL_law_1539 (by decide) ?_
              refine zr_goto 1544 dL_law_1540 (by decide) ?_
              cases hf
              exact zr_lv [0, 1, 2, 3] rfl hj570
          clear hf
          have hf := hg
          clear hg
          refine zr_if_eq 1516 dL_law_1509 (by decide) (fun hc => ?_) (fun hc => ?_)
          · rw [if_pos hc] at hf
            refine zr_iconst 0 dL_law_1516 (by decide) ?_
            cases hf
            exact zr_lv [0, 1, 2, 3] rfl hj560
          · rw [if_neg hc] at hf
            refine zr_iconst 1 dL_law_1512 (by decide) ?_
            refine zr_goto 1517 dL_law_1513 (by decide) ?_
            cases hf
            exact zr_lv [0, 1, 2, 3] rfl hj560
        rw [if_neg hs574] at hf
        rcases zdec ((v13 &&& 63) = 29) with hs597 | hs597
        · rw [if_pos hs597] at hf
          refine zr_tableIn (off := 1519) 1552 dL_law_33 (by rw [hs597]; decide) (by rw [hs597]; decide) (by rw [hs597]; rfl) (by decide) ?_
          refine zr_aload_n 1 dL_law_1552 rfl ?_
          refine zr_aload_n 0 dL_law_1553 rfl ?_
          refine zr_iload_n 3 dL_law_1554 rfl ?_
          refine zr_iconst 1 dL_law_1555 (by decide) ?_
          refine zr_iadd dL_law_1556 ?_
          replace hf := zb1_s hf
          obtain ⟨v575, h576, hf⟩ := hf
          refine zr_sld hX hbl hbA h576 dL_law_1557 ?_
          refine zr_aload_n 0 dL_law_1558 rfl ?_
          refine zr_iload_n 3 dL_law_1559 rfl ?_
          refine zr_iconst 2 dL_law_1560 (by decide) ?_
          refine zr_iadd dL_law_1561 ?_
          replace hf := zb1_s hf
          obtain ⟨v577, h578, hf⟩ := hf
          refine zr_sld hX hbl hbA h578 dL_law_1562 ?_
          refine zr_aload_n 0 dL_law_1563 rfl ?_
          refine zr_iload_n 3 dL_law_1564 rfl ?_
          refine zr_iconst 3 dL_law_1565 (by decide) ?_
          refine zr_iadd dL_law_1566 ?_
          replace hf := zb1_s hf
          obtain ⟨v579, h580, hf⟩ := hf
          refine zr_sld hX hbl hbA h580 dL_law_1567 ?_
          refine zr_aload_n 0 dL_law_1568 rfl ?_
          refine zr_iload_n 3 dL_law_1569 rfl ?_
          refine zr_iconst 4 dL_law_1570 (by decide) ?_
          refine zr_iadd dL_law_1571 ?_
          replace hf := zb1_s hf
          obtain ⟨v581, h582, hf⟩ := hf
          refine zr_sld hX hbl hbA h582 dL_law_1572 ?_
          replace hf := zb2_s hf
          obtain ⟨v585, m584, h583, hf⟩ := hf
          refine zr_callV (ci := 11) [.int v575, .int v577, .int v579, .int v581] (cX11_relayed_ok h583) zvs_X11_relayed zl_1552 zl_1553 (fX11_relayed_ck h583) rfl rfl zl_1551 rfl (Nat.le_of_ble_eq_true rfl) (by show _ ≤ 600000; omega) (by show _ ≤ 7302250; omega) (Nat.le_of_ble_eq_true rfl) dL_law_1573 rfl ?_
          refine zr_aload_n 2 dL_law_1576 rfl ?_
          refine zr_aload_n 0 dL_law_1577 rfl ?_
          refine zr_iload_n 3 dL_law_1578 rfl ?_
          refine zr_iconst 1 dL_law_1579 (by decide) ?_
          refine zr_iadd dL_law_1580 ?_
          replace hf := zb1_s hf
          obtain ⟨v586, h587, hf⟩ := hf
          refine zr_sld hX hbl hbA h587 dL_law_1581 ?_
          refine zr_aload_n 0 dL_law_1582 rfl ?_
          refine zr_iload_n 3 dL_law_1583 rfl ?_
          refine zr_iconst 2 dL_law_1584 (by decide) ?_
          refine zr_iadd dL_law_1585 ?_
          replace hf := zb1_s hf
          obtain ⟨v588, h589, hf⟩ := hf
          refine zr_sld hX hbl hbA h589 dL_law_1586 ?_
          refine zr_aload_n 0 dL_law_1587 rfl ?_
          refine zr_iload_n 3 dL_law_1588 rfl ?_
          refine zr_iconst 3 dL_law_1589 (by decide) ?_
          refine zr_iadd dL_law_1590 ?_
          replace hf := zb1_s hf
          obtain ⟨v590, h591, hf⟩ := hf
          refine zr_sld hX hbl hbA h591 dL_law_1591 ?_
          refine zr_aload_n 0 dL_law_1592 rfl ?_
          refine zr_iload_n 3 dL_law_1593 rfl ?_
          refine zr_iconst 4 dL_law_1594 (by decide) ?_
          refine zr_iadd dL_law_1595 ?_
          replace hf := zb1_s hf
          obtain ⟨v592, h593, hf⟩ := hf
          refine zr_sld hX hbl hbA h593 dL_law_1596 ?_
          replace hf := zb2_s hf
          obtain ⟨v596, m595, h594, hf⟩ := hf
          refine zr_callV (ci := 12) [.int v586, .int v588, .int v590, .int v592] (cX12_relayed_ok h594) zvs_X12_relayed zl_1556 zl_1557 (fX12_relayed_ck h594) rfl rfl zl_1555 rfl (Nat.le_of_ble_eq_true rfl) (by show _ ≤ 600000; omega) (by show _ ≤ 7302250; omega) (Nat.le_of_ble_eq_true rfl) dL_law_1597 rfl ?_
          refine zr_icmp_eq 1740 dL_law_1600 (by decide) (fun hc => ?_) (fun hc => ?_)
          · rw [if_pos hc] at hf
            refine zr_iinc (j := 3) (x3_9 + 8) [(3, .int (x3_9 + 8)), (0, .ref x0), (1, .ref μ.2.1), (2, .ref m4.2.1)] dL_law_1740 rfl rfl (Nat.le_of_ble_eq_true rfl) rfl ?_
            refine zr_goto 18 dL_law_1743 (by decide) ?_
            refine zr_widen (k := KC + 64) (n := KS + 4000) (by omega) (by omega) ?_
            exact zr_lv [1, 2, 3, 0] rfl (ih12 (KC + 64) (KS + 4000) (x3_9 + 8) m595 (by omega) (by omega) hf)
          · rw [if_neg hc] at hf
            refine zr_iconst 0 dL_law_1603 (by decide) ?_
            refine zr_widen (k := 600000) (n := 7302250) (by omega) (by omega) ?_
            cases hf
            exact zr_zret rfl dL_law_1604
        rw [if_neg hs597] at hf
        rcases zdec ((v13 &&& 63) = 30) with hs611 | hs611
        · rw [if_pos hs611] at hf
          refine zr_tableIn (off := 1572) 1605 dL_law_33 (by rw [hs611]; decide) (by rw [hs611]; decide) (by rw [hs611]; rfl) (by decide) ?_
          refine zr_aload_n 1 dL_law_1605 rfl ?_
          refine zr_aload_n 0 dL_law_1606 rfl ?_
          refine zr_iload_n 3 dL_law_1607 rfl ?_
          refine zr_iconst 1 dL_law_1608 (by decide) ?_
          refine zr_iadd dL_law_1609 ?_
          replace hf := zb1_s hf
          obtain ⟨v598, h599, hf⟩ := hf
          refine zr_sld hX hbl hbA h599 dL_law_1610 ?_
          refine zr_aload_n 0 dL_law_1611 rfl ?_
          refine zr_iload_n 3 dL_law_1612 rfl ?_
          refine zr_iconst 2 dL_law_1613 (by decide) ?_
          refine zr_iadd dL_law_1614 ?_
          replace hf := zb1_s hf
          obtain ⟨v600, h601, hf⟩ := hf
          refine zr_sld hX hbl hbA h601 dL_law_1615 ?_
          replace hf := zb1_s hf
          obtain ⟨v603, h602, hf⟩ := hf
          refine zr_callV (ci := 11) [.int v598, .int v600] (cX11_weather_ok h602) zvs_X11_weather zl_1560 zl_1561 (fX11_weather_ck h602) rfl rfl zl_1559 rfl (Nat.le_of_ble_eq_true rfl) (by show _ ≤ 600000; omega) (by show _ ≤ 7302250; omega) (Nat.le_of_ble_eq_true rfl) dL_law_1616 rfl ?_
          refine zr_aload_n 2 dL_law_1619 rfl ?_
          refine zr_aload_n 0 dL_law_1620 rfl ?_
          refine zr_iload_n 3 dL_law_1621 rfl ?_
          refine zr_iconst 1 dL_law_1622 (by decide) ?_
          refine zr_iadd dL_law_1623 ?_
          replace hf := zb1_s hf
          obtain ⟨v604, h605, hf⟩ := hf
          refine zr_sld hX hbl hbA h605 dL_law_1624 ?_
          refine zr_aload_n 0 dL_law_1625 rfl ?_
          refine zr_iload_n 3 dL_law_1626 rfl ?_
          refine zr_iconst 2 dL_law_1627 (by decide) ?_
          refine zr_iadd dL_law_1628 ?_
          replace hf := zb1_s hf
          obtain ⟨v606, h607, hf⟩ := hf
          refine zr_sld hX hbl hbA h607 dL_law_1629 ?_
          replace hf := zb2_s hf
          obtain ⟨v610, m609, h608, hf⟩ := hf
          refine zr_callV (ci := 12) [.int v604, .int v606] (cX12_weather_ok h608) zvs_X12_weather zl_1564 zl_1565 (fX12_weather_ck h608) rfl rfl zl_1563 rfl (Nat.le_of_ble_eq_true rfl) (by show _ ≤ 600000; omega) (by show _ ≤ 7302250; omega) (Nat.le_of_ble_eq_true rfl) dL_law_1630 rfl ?_
          refine zr_icmp_eq 1740 dL_law_1633 (by decide) (fun hc => ?_) (fun hc => ?_)
          · rw [if_pos hc] at hf
            refine zr_iinc (j := 3) (x3_9 + 8) [(3, .int (x3_9 + 8)), (0, .ref x0), (1, .ref μ.2.1), (2, .ref m4.2.1)] dL_law_1740 rfl rfl (Nat.le_of_ble_eq_true rfl) rfl ?_
            refine zr_goto 18 dL_law_1743 (by decide) ?_
            refine zr_widen (k := KC + 64) (n := KS + 4000) (by omega) (by omega) ?_
            exact zr_lv [1, 2, 3, 0] rfl (ih12 (KC + 64) (KS + 4000) (x3_9 + 8) m609 (by omega) (by omega) hf)
          · rw [if_neg hc] at hf
            refine zr_iconst 0 dL_law_1636 (by decide) ?_
            refine zr_widen (k := 600000) (n := 7302250) (by omega) (by omega) ?_
            cases hf
            exact zr_zret rfl dL_law_1637
        rw [if_neg hs611] at hf
        rcases zdec ((v13 &&& 63) = 31) with hs626 | hs626
        · rw [if_pos hs626] at hf
          refine zr_tableIn (off := 1605) 1638 dL_law_33 (by rw [hs626]; decide) (by rw [hs626]; decide) (by rw [hs626]; rfl) (by decide) ?_
          refine zr_aload_n 1 dL_law_1638 rfl ?_
          refine zr_aload_n 0 dL_law_1639 rfl ?_
          refine zr_iload_n 3 dL_law_1640 rfl ?_
          refine zr_iconst 1 dL_law_1641 (by decide) ?_
          refine zr_iadd dL_law_1642 ?_
          replace hf := zb1_s hf
          obtain ⟨v612, h613, hf⟩ := hf
          refine zr_sld hX hbl hbA h613 dL_law_1643 ?_
          refine zr_aload_n 0 dL_law_1644 rfl ?_
          refine zr_iload_n 3 dL_law_1645 rfl ?_
          refine zr_iconst 2 dL_law_1646 (by decide) ?_
          refine zr_iadd dL_law_1647 ?_
          replace hf := zb1_s hf
          obtain ⟨v614, h615, hf⟩ := hf
          refine zr_sld hX hbl hbA h615 dL_law_1648 ?_
          replace hf := zb2_s hf
          obtain ⟨v618, m617, h616, hf⟩ := hf
          refine zr_callV (ci := 11) [.int v612, .int v614] (cX11_matched_ok h616) zvs_X11_matched zl_1568 zl_1569 (fX11_matched_ck h616) rfl rfl zl_1567 rfl (Nat.le_of_ble_eq_true rfl) (by show _ ≤ 600000; omega) (by show _ ≤ 7302250; omega) (Nat.le_of_ble_eq_true rfl) dL_law_1649 rfl ?_
          refine zr_aload_n 2 dL_law_1652 rfl ?_
          refine zr_aload_n 0 dL_law_1653 rfl ?_
          refine zr_iload_n 3 dL_law_1654 rfl ?_
          refine zr_iconst 1 dL_law_1655 (by decide) ?_
          refine zr_iadd dL_law_1656 ?_
          replace hf := zb1_s hf
          obtain ⟨v619, h620, hf⟩ := hf
          refine zr_sld hX hbl hbA h620 dL_law_1657 ?_
          refine zr_aload_n 0 dL_law_1658 rfl ?_
          refine zr_iload_n 3 dL_law_1659 rfl ?_
          refine zr_iconst 2 dL_law_1660 (by decide) ?_
          refine zr_iadd dL_law_1661 ?_
          replace hf := zb1_s hf
          obtain ⟨v621, h622, hf⟩ := hf
          refine zr_sld hX hbl hbA h622 dL_law_1662 ?_
          replace hf := zb2_s hf
          obtain ⟨v625, m624, h623, hf⟩ := hf
          refine zr_callV (ci := 12) [.int v619, .int v621] (cX12_matched_ok h623) zvs_X12_matched zl_1572 zl_1573 (fX12_matched_ck h623) rfl rfl zl_1571 rfl (Nat.le_of_ble_eq_true rfl) (by show _ ≤ 600000; omega) (by show _ ≤ 7302250; omega) (Nat.le_of_ble_eq_true rfl) dL_law_1663 rfl ?_
          refine zr_icmp_eq 1740 dL_law_1666 (by decide) (fun hc => ?_) (fun hc => ?_)
          · rw [if_pos hc] at hf
            refine zr_iinc (j := 3) (x3_9 + 8) [(3, .int (x3_9 + 8)), (0, .ref x0), (1, .ref μ.2.1), (2, .ref m4.2.1)] dL_law_1740 rfl rfl (Nat.le_of_ble_eq_true rfl) rfl ?_
            refine zr_goto 18 dL_law_1743 (by decide) ?_
            refine zr_widen (k := KC + 64) (n := KS + 4000) (by omega) (by omega) ?_
            exact zr_lv [1, 2, 3, 0] rfl (ih12 (KC + 64) (KS + 4000) (x3_9 + 8) m624 (by omega) (by omega) hf)
          · rw [if_neg hc] at hf
            refine zr_iconst 0 dL_law_1669 (by decide) ?_
            refine zr_widen (k := 600000) (n := 7302250) (by omega) (by omega) ?_
            cases hf
            exact zr_zret rfl dL_law_1670
        rw [if_neg hs626] at hf
        rcases zdec ((v13 &&& 63) = 32) with hs636 | hs636
        · rw [if_pos hs636] at hf
          refine zr_tableIn (off := 1638) 1671 dL_law_33 (by rw [hs636]; decide) (by rw [hs636]; decide) (by rw [hs636]; rfl) (by decide) ?_
          refine zr_aload_n 1 dL_law_1671 rfl ?_
          refine zr_aload_n 0 dL_law_1672 rfl ?_
          refine zr_iload_n 3 dL_law_1673 rfl ?_
          refine zr_iconst 1 dL_law_1674 (by decide) ?_
          refine zr_iadd dL_law_1675 ?_
          replace hf := zb1_s hf
          obtain ⟨v627, h628, hf⟩ := hf
          refine zr_sld hX hbl hbA h628 dL_law_1676 ?_
          replace hf := zb1_s hf
          obtain ⟨v630, h629, hf⟩ := hf
          refine zr_callV (ci := 11) [.int v627] (cX11_count_ok h629) zvs_X11_count zl_1576 zl_1577 (fX11_count_ck h629) rfl rfl zl_1575 rfl (Nat.le_of_ble_eq_true rfl) (by show _ ≤ 600000; omega) (by show _ ≤ 7302250; omega) (Nat.le_of_ble_eq_true rfl) dL_law_1677 rfl ?_
          refine zr_aload_n 2 dL_law_1680 rfl ?_
          refine zr_aload_n 0 dL_law_1681 rfl ?_
          refine zr_iload_n 3 dL_law_1682 rfl ?_
          refine zr_iconst 1 dL_law_1683 (by decide) ?_
          refine zr_iadd dL_law_1684 ?_
          replace hf := zb1_s hf
          obtain ⟨v631, h632, hf⟩ := hf
          refine zr_sld hX hbl hbA h632 dL_law_1685 ?_
          replace hf := zb2_s hf
          obtain ⟨v635, m634, h633, hf⟩ := hf
          refine zr_callV (ci := 12) [.int v631] (cX12_count_ok h633) zvs_X12_count zl_1580 zl_1581 (fX12_count_ck h633) rfl rfl zl_1579 rfl (Nat.le_of_ble_eq_true rfl) (by show _ ≤ 600000; omega) (by show _ ≤ 7302250; omega) (Nat.le_of_ble_eq_true rfl) dL_law_1686 rfl ?_
          refine zr_icmp_eq 1740 dL_law_1689 (by decide) (fun hc => ?_) (fun hc => ?_)
          · rw [if_pos hc] at hf
            refine zr_iinc (j := 3) (x3_9 + 8) [(3, .int (x3_9 + 8)), (0, .ref x0), (1, .ref μ.2.1), (2, .ref m4.2.1)] dL_law_1740 rfl rfl (Nat.le_of_ble_eq_true rfl) rfl ?_
            refine zr_goto 18 dL_law_1743 (by decide) ?_
            refine zr_widen (k := KC + 64) (n := KS + 4000) (by omega) (by omega) ?_
            exact zr_lv [1, 2, 3, 0] rfl (ih12 (KC + 64) (KS + 4000) (x3_9 + 8) m634 (by omega) (by omega) hf)
          · rw [if_neg hc] at hf
            refine zr_iconst 0 dL_law_1692 (by decide) ?_
            refine zr_widen (k := 600000) (n := 7302250) (by omega) (by omega) ?_
            cases hf
            exact zr_zret rfl dL_law_1693
        rw [if_neg hs636] at hf
        rcases zdec ((v13 &&& 63) = 33) with hs647 | hs647
        · rw [if_pos hs647] at hf
          refine zr_tableIn (off := 1661) 1694 dL_law_33 (by rw [hs647]; decide) (by rw [hs647]; decide) (by rw [hs647]; rfl) (by decide) ?_
          refine zr_aload_n 1 dL_law_1694 rfl ?_
          refine zr_aload_n 0 dL_law_1695 rfl ?_
          refine zr_iload_n 3 dL_law_1696 rfl ?_
          refine zr_iconst 1 dL_law_1697 (by decide) ?_
          refine zr_iadd dL_law_1698 ?_
          replace hf := zb1_s hf
          obtain ⟨v637, h638, hf⟩ := hf
          refine zr_sld hX hbl hbA h638 dL_law_1699 ?_
          replace hf := zb2_s hf
          obtain ⟨v641, m640, h639, hf⟩ := hf
          refine zr_callV (ci := 11) [.int v637] (cX11_image_ok h639) zvs_X11_image zl_1584 zl_1585 (fX11_image_ck h639) rfl rfl zl_1583 rfl (Nat.le_of_ble_eq_true rfl) (by show _ ≤ 600000; omega) (by show _ ≤ 7302250; omega) (Nat.le_of_ble_eq_true rfl) dL_law_1700 rfl ?_
          refine zr_aload_n 2 dL_law_1703 rfl ?_
          refine zr_aload_n 0 dL_law_1704 rfl ?_
          refine zr_iload_n 3 dL_law_1705 rfl ?_
          refine zr_iconst 1 dL_law_1706 (by decide) ?_
          refine zr_iadd dL_law_1707 ?_
          replace hf := zb1_s hf
          obtain ⟨v642, h643, hf⟩ := hf
          refine zr_sld hX hbl hbA h643 dL_law_1708 ?_
          replace hf := zb2_s hf
          obtain ⟨v646, m645, h644, hf⟩ := hf
          refine zr_callV (ci := 12) [.int v642] (cX12_image_ok h644) zvs_X12_image zl_1588 zl_1589 (fX12_image_ck h644) rfl rfl zl_1587 rfl (Nat.le_of_ble_eq_true rfl) (by show _ ≤ 600000; omega) (by show _ ≤ 7302250; omega) (Nat.le_of_ble_eq_true rfl) dL_law_1709 rfl ?_
          refine zr_icmp_eq 1740 dL_law_1712 (by decide) (fun hc => ?_) (fun hc => ?_)
          · rw [if_pos hc] at hf
            refine zr_iinc (j := 3) (x3_9 + 8) [(3, .int (x3_9 + 8)), (0, .ref x0), (1, .ref μ.2.1), (2, .ref m4.2.1)] dL_law_1740 rfl rfl (Nat.le_of_ble_eq_true rfl) rfl ?_
            refine zr_goto 18 dL_law_1743 (by decide) ?_
            refine zr_widen (k := KC + 64) (n := KS + 4000) (by omega) (by omega) ?_
            exact zr_lv [1, 2, 3, 0] rfl (ih12 (KC + 64) (KS + 4000) (x3_9 + 8) m645 (by omega) (by omega) hf)
          · rw [if_neg hc] at hf
            refine zr_iconst 0 dL_law_1715 (by decide) ?_
            refine zr_widen (k := 600000) (n := 7302250) (by omega) (by omega) ?_
            cases hf
            exact zr_zret rfl dL_law_1716
        rw [if_neg hs647] at hf
        rcases zdec ((v13 &&& 63) = 34) with hs658 | hs658
        · rw [if_pos hs658] at hf
          refine zr_tableIn (off := 1684) 1717 dL_law_33 (by rw [hs658]; decide) (by rw [hs658]; decide) (by rw [hs658]; rfl) (by decide) ?_
          refine zr_aload_n 1 dL_law_1717 rfl ?_
          refine zr_aload_n 0 dL_law_1718 rfl ?_
          refine zr_iload_n 3 dL_law_1719 rfl ?_
          refine zr_iconst 1 dL_law_1720 (by decide) ?_
          refine zr_iadd dL_law_1721 ?_
          replace hf := zb1_s hf
          obtain ⟨v648, h649, hf⟩ := hf
          refine zr_sld hX hbl hbA h649 dL_law_1722 ?_
          replace hf := zb2_s hf
          obtain ⟨v652, m651, h650, hf⟩ := hf
          refine zr_callV (ci := 11) [.int v648] (cX11_again_ok h650) zvs_X11_again zl_1592 zl_1593 (fX11_again_ck h650) rfl rfl zl_1591 rfl (Nat.le_of_ble_eq_true rfl) (by show _ ≤ 600000; omega) (by show _ ≤ 7302250; omega) (Nat.le_of_ble_eq_true rfl) dL_law_1723 rfl ?_
          refine zr_aload_n 2 dL_law_1726 rfl ?_
          refine zr_aload_n 0 dL_law_1727 rfl ?_
          refine zr_iload_n 3 dL_law_1728 rfl ?_
          refine zr_iconst 1 dL_law_1729 (by decide) ?_
          refine zr_iadd dL_law_1730 ?_
          replace hf := zb1_s hf
          obtain ⟨v653, h654, hf⟩ := hf
          refine zr_sld hX hbl hbA h654 dL_law_1731 ?_
          replace hf := zb2_s hf
          obtain ⟨v657, m656, h655, hf⟩ := hf
          refine zr_callV (ci := 12) [.int v653] (cX12_again_ok h655) zvs_X12_again zl_1596 zl_1597 (fX12_again_ck h655) rfl rfl zl_1595 rfl (Nat.le_of_ble_eq_true rfl) (by show _ ≤ 600000; omega) (by show _ ≤ 7302250; omega) (Nat.le_of_ble_eq_true rfl) dL_law_1732 rfl ?_
          refine zr_icmp_eq 1740 dL_law_1735 (by decide) (fun hc => ?_) (fun hc => ?_)
          · rw [if_pos hc] at hf
            refine zr_iinc (j := 3) (x3_9 + 8) [(3, .int (x3_9 + 8)), (0, .ref x0), (1, .ref μ.2.1), (2, .ref m4.2.1)] dL_law_1740 rfl rfl (Nat.le_of_ble_eq_true rfl) rfl ?_
            refine zr_goto 18 dL_law_1743 (by decide) ?_
            refine zr_widen (k := KC + 64) (n := KS + 4000) (by omega) (by omega) ?_
            exact zr_lv [1, 2, 3, 0] rfl (ih12 (KC + 64) (KS + 4000) (x3_9 + 8) m656 (by omega) (by omega) hf)
          · rw [if_neg hc] at hf
            refine zr_iconst 0 dL_law_1738 (by decide) ?_
            refine zr_widen (k := 600000) (n := 7302250) (by omega) (by omega) ?_
            cases hf
            exact zr_zret rfl dL_law_1739
        rw [if_neg hs658] at hf
        refine zr_tableOut 1740 dL_law_33 (by simp only [← Int32.toInt_inj] at hs41 hs52 hs67 hs77 hs91 hs125 hs147 hs165 hs180 hs203 hs233 hs259 hs277 hs295 hs309 hs336 hs351 hs365 hs379 hs397 hs415 hs438 hs461 hs475 hs497 hs524 hs538 hs552 hs574 hs597 hs611 hs626 hs636 hs647 hs658; simp at hs41 hs52 hs67 hs77 hs91 hs125 hs147 hs165 hs180 hs203 hs233 hs259 hs277 hs295 hs309 hs336 hs351 hs365 hs379 hs397 hs415 hs438 hs461 hs475 hs497 hs524 hs538 hs552 hs574 hs597 hs611 hs626 hs636 hs647 hs658; omega) (by decide) ?_
        refine zr_iinc (j := 3) (x3_9 + 8) [(3, .int (x3_9 + 8)), (0, .ref x0), (1, .ref μ.2.1), (2, .ref m4.2.1)] dL_law_1740 rfl rfl (Nat.le_of_ble_eq_true rfl) rfl ?_
        refine zr_goto 18 dL_law_1743 (by decide) ?_
        refine zr_widen (k := KC + 64) (n := KS + 4000) (by omega) (by omega) ?_
        exact zr_lv [1, 2, 3, 0] rfl (ih12 (KC + 64) (KS + 4000) (x3_9 + 8) m10 (by omega) (by omega) hf)
  exact zr_lv [3, 2, 1, 0] rfl (hL659 520 123 16145 0 m8 (by decide) (by decide) hf)
