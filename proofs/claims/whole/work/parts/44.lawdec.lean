theorem d_LAW_538 : decode code 538 = .ok (.ireturn, 1) := by decide +kernel
theorem d_LAW_539 : decode code 539 = .ok (.iload 5, 2) := by decide +kernel
theorem d_LAW_541 : decode code 541 = .ok (.ifCond .ne 15, 3) := by decide +kernel
theorem d_LAW_544 : decode code 544 = .ok (.aload_n 3, 1) := by decide +kernel
theorem d_LAW_545 : decode code 545 = .ok (.iconst 0, 1) := by decide +kernel
theorem d_LAW_546 : decode code 546 = .ok (.laload, 1) := by decide +kernel
theorem d_LAW_547 : decode code 547 = .ok (.iload 6, 2) := by decide +kernel
theorem d_LAW_549 : decode code 549 = .ok (.i2l, 1) := by decide +kernel
theorem d_LAW_550 : decode code 550 = .ok (.lcmp, 1) := by decide +kernel
theorem d_LAW_551 : decode code 551 = .ok (.ifCond .eq 5, 3) := by decide +kernel
theorem d_LAW_554 : decode code 554 = .ok (.iconst 0, 1) := by decide +kernel
theorem d_LAW_555 : decode code 555 = .ok (.ireturn, 1) := by decide +kernel
theorem d_LAW_556 : decode code 556 = .ok (.goto 139, 3) := by decide +kernel
theorem d_LAW_559 : decode code 559 = .ok (.aload_n 1, 1) := by decide +kernel
theorem d_LAW_560 : decode code 560 = .ok (.aload_n 0, 1) := by decide +kernel
theorem d_LAW_561 : decode code 561 = .ok (.iload 4, 2) := by decide +kernel
theorem d_LAW_563 : decode code 563 = .ok (.iconst 1, 1) := by decide +kernel
theorem d_LAW_564 : decode code 564 = .ok (.iadd, 1) := by decide +kernel
theorem d_LAW_565 : decode code 565 = .ok (.iaload, 1) := by decide +kernel
theorem d_LAW_566 : decode code 566 = .ok (.aload_n 0, 1) := by decide +kernel
theorem d_LAW_567 : decode code 567 = .ok (.iload 4, 2) := by decide +kernel
theorem d_LAW_569 : decode code 569 = .ok (.iconst 2, 1) := by decide +kernel
theorem d_LAW_570 : decode code 570 = .ok (.iadd, 1) := by decide +kernel
theorem d_LAW_571 : decode code 571 = .ok (.iaload, 1) := by decide +kernel
theorem d_LAW_572 : decode code 572 = .ok (.aload_n 3, 1) := by decide +kernel
theorem d_LAW_573 : decode code 573 = .ok (.invokestatic 80, 3) := by decide +kernel
theorem d_LAW_576 : decode code 576 = .ok (.istore 5, 2) := by decide +kernel
theorem d_LAW_578 : decode code 578 = .ok (.aload_n 2, 1) := by decide +kernel
theorem d_LAW_579 : decode code 579 = .ok (.aload_n 0, 1) := by decide +kernel
theorem d_LAW_580 : decode code 580 = .ok (.iload 4, 2) := by decide +kernel
theorem d_LAW_582 : decode code 582 = .ok (.iconst 1, 1) := by decide +kernel
theorem d_LAW_583 : decode code 583 = .ok (.iadd, 1) := by decide +kernel
theorem d_LAW_584 : decode code 584 = .ok (.iaload, 1) := by decide +kernel
theorem d_LAW_585 : decode code 585 = .ok (.aload_n 0, 1) := by decide +kernel
theorem d_LAW_586 : decode code 586 = .ok (.iload 4, 2) := by decide +kernel
theorem d_LAW_588 : decode code 588 = .ok (.iconst 2, 1) := by decide +kernel
theorem d_LAW_589 : decode code 589 = .ok (.iadd, 1) := by decide +kernel
theorem d_LAW_590 : decode code 590 = .ok (.iaload, 1) := by decide +kernel
theorem d_LAW_591 : decode code 591 = .ok (.invokevirtual 82, 3) := by decide +kernel
theorem d_LAW_594 : decode code 594 = .ok (.lstore 6, 2) := by decide +kernel
theorem d_LAW_596 : decode code 596 = .ok (.aload_n 2, 1) := by decide +kernel
theorem d_LAW_597 : decode code 597 = .ok (.invokevirtual 55, 3) := by decide +kernel
theorem d_LAW_600 : decode code 600 = .ok (.iload 5, 2) := by decide +kernel
theorem d_LAW_602 : decode code 602 = .ok (.if_icmp .eq 5, 3) := by decide +kernel
theorem d_LAW_605 : decode code 605 = .ok (.iconst 0, 1) := by decide +kernel
theorem d_LAW_606 : decode code 606 = .ok (.ireturn, 1) := by decide +kernel
theorem d_LAW_607 : decode code 607 = .ok (.iload 5, 2) := by decide +kernel
theorem d_LAW_609 : decode code 609 = .ok (.ifCond .ne 14, 3) := by decide +kernel
theorem d_LAW_612 : decode code 612 = .ok (.aload_n 3, 1) := by decide +kernel
theorem d_LAW_613 : decode code 613 = .ok (.iconst 0, 1) := by decide +kernel
theorem d_LAW_614 : decode code 614 = .ok (.laload, 1) := by decide +kernel
theorem d_LAW_615 : decode code 615 = .ok (.lload 6, 2) := by decide +kernel
theorem d_LAW_617 : decode code 617 = .ok (.lcmp, 1) := by decide +kernel
theorem d_LAW_618 : decode code 618 = .ok (.ifCond .eq 5, 3) := by decide +kernel
theorem d_LAW_621 : decode code 621 = .ok (.iconst 0, 1) := by decide +kernel
theorem d_LAW_622 : decode code 622 = .ok (.ireturn, 1) := by decide +kernel
theorem d_LAW_623 : decode code 623 = .ok (.goto 72, 3) := by decide +kernel
theorem d_LAW_626 : decode code 626 = .ok (.aload_n 1, 1) := by decide +kernel
theorem d_LAW_627 : decode code 627 = .ok (.invokevirtual 83, 3) := by decide +kernel
theorem d_LAW_630 : decode code 630 = .ok (.aload_n 2, 1) := by decide +kernel
theorem d_LAW_631 : decode code 631 = .ok (.invokevirtual 86, 3) := by decide +kernel
theorem d_LAW_634 : decode code 634 = .ok (.if_icmp .eq 61, 3) := by decide +kernel
theorem d_LAW_637 : decode code 637 = .ok (.iconst 0, 1) := by decide +kernel
theorem d_LAW_638 : decode code 638 = .ok (.ireturn, 1) := by decide +kernel
theorem d_LAW_639 : decode code 639 = .ok (.aload_n 1, 1) := by decide +kernel
theorem d_LAW_640 : decode code 640 = .ok (.aload_n 0, 1) := by decide +kernel
theorem d_LAW_641 : decode code 641 = .ok (.iload 4, 2) := by decide +kernel
theorem d_LAW_643 : decode code 643 = .ok (.iconst 1, 1) := by decide +kernel
theorem d_LAW_644 : decode code 644 = .ok (.iadd, 1) := by decide +kernel
theorem d_LAW_645 : decode code 645 = .ok (.iaload, 1) := by decide +kernel
theorem d_LAW_646 : decode code 646 = .ok (.aload_n 3, 1) := by decide +kernel
theorem d_LAW_647 : decode code 647 = .ok (.invokestatic 87, 3) := by decide +kernel
theorem d_LAW_650 : decode code 650 = .ok (.istore 5, 2) := by decide +kernel
theorem d_LAW_652 : decode code 652 = .ok (.aload_n 2, 1) := by decide +kernel
theorem d_LAW_653 : decode code 653 = .ok (.aload_n 0, 1) := by decide +kernel
theorem d_LAW_654 : decode code 654 = .ok (.iload 4, 2) := by decide +kernel
theorem d_LAW_656 : decode code 656 = .ok (.iconst 1, 1) := by decide +kernel
theorem d_LAW_657 : decode code 657 = .ok (.iadd, 1) := by decide +kernel
theorem d_LAW_658 : decode code 658 = .ok (.iaload, 1) := by decide +kernel
theorem d_LAW_659 : decode code 659 = .ok (.invokevirtual 89, 3) := by decide +kernel
theorem d_LAW_662 : decode code 662 = .ok (.istore 6, 2) := by decide +kernel
theorem d_LAW_664 : decode code 664 = .ok (.aload_n 2, 1) := by decide +kernel
theorem d_LAW_665 : decode code 665 = .ok (.invokevirtual 55, 3) := by decide +kernel
theorem d_LAW_668 : decode code 668 = .ok (.iload 5, 2) := by decide +kernel
theorem d_LAW_670 : decode code 670 = .ok (.if_icmp .eq 5, 3) := by decide +kernel
theorem d_LAW_673 : decode code 673 = .ok (.iconst 0, 1) := by decide +kernel
theorem d_LAW_674 : decode code 674 = .ok (.ireturn, 1) := by decide +kernel
theorem d_LAW_675 : decode code 675 = .ok (.iload 5, 2) := by decide +kernel
theorem d_LAW_677 : decode code 677 = .ok (.ifCond .ne 15, 3) := by decide +kernel
theorem d_LAW_680 : decode code 680 = .ok (.aload_n 3, 1) := by decide +kernel
theorem d_LAW_681 : decode code 681 = .ok (.iconst 0, 1) := by decide +kernel
theorem d_LAW_682 : decode code 682 = .ok (.laload, 1) := by decide +kernel
theorem d_LAW_683 : decode code 683 = .ok (.iload 6, 2) := by decide +kernel
theorem d_LAW_685 : decode code 685 = .ok (.i2l, 1) := by decide +kernel
theorem d_LAW_686 : decode code 686 = .ok (.lcmp, 1) := by decide +kernel
theorem d_LAW_687 : decode code 687 = .ok (.ifCond .eq 5, 3) := by decide +kernel
theorem d_LAW_690 : decode code 690 = .ok (.iconst 0, 1) := by decide +kernel
theorem d_LAW_691 : decode code 691 = .ok (.ireturn, 1) := by decide +kernel
theorem d_LAW_692 : decode code 692 = .ok (.goto 3, 3) := by decide +kernel
theorem d_LAW_695 : decode code 695 = .ok (.iinc 4 4, 3) := by decide +kernel
theorem d_LAW_698 : decode code 698 = .ok (.goto (-675), 3) := by decide +kernel
theorem d_LAW_701 : decode code 701 = .ok (.iconst 1, 1) := by decide +kernel
theorem d_LAW_702 : decode code 702 = .ok (.ireturn, 1) := by decide +kernel
