/** Each promise of the document by hand: ordinary inputs, the edges that it names, and wrong inputs. */
public final class PromisesTest extends Checks {
    public static void main(String[] args) {
        promise1();
        promise2();
        promise3();
        promise4();
        promise5();
        promise5Edges();
        promise6();
        promise7();
        promise8();
        promise9();
        promise10();
        promise11();
        promise12();
        promise13();
        promise13Waits();
        promise14();
        promise15();
        promise16();
        promise17();
        promise17Ties();
        promise17Rings();
        promise18();
        promise19();
        promise20();
        promise21();
        promise22();
        promise23();
        promise24();
        promise25();
        end("all promises hold");
    }

    private static void promise1() {
        TimedNet x = new TimedNet();
        due("1: status", x.status(), 0);
        due("1: out(0)", x.out(0), NONE);
        due("1: changes", x.changes(), 0);
        due("1: stand(0)", x.stand(0), 0);
        refused("1: no node", x, x.reached(0, 0, 0, 0), 1);
        refused("1: no line", x, x.told(0, 0), 1);
        due("1: the first node", x.node(0, NONE), 0);
        // Objects have nothing in common.
        due("1: another object", new TimedNet().node(0, NONE), 0);
        due("1: NONE", NONE, -1);
    }

    private static void promise2() {
        TimedNet x = netOf(2);
        x.first(0, 1, 0, 0);
        due("2: of first", x.status(), 5);
        due("2: status has none", x.status(), 5);
        x.out(0);
        x.out(-1);
        due("2: out has none", x.status(), 5);
        x.changes();
        due("2: changes has one", x.status(), 0);
        x.undo();
        due("2: of undo", x.status(), 6);
        x.stand(0);
        due("2: of stand", x.status(), 0);
    }

    private static void promise3() {
        TimedNet x = new TimedNet();
        refused("3: change -1", x, x.node(-1, NONE), 2);
        refused("3: change 201", x, x.node(201, NONE), 2);
        refused("3: longest -2", x, x.node(0, -2), 2);
        refused("3: longest 5001", x, x.node(0, 5001), 2);
        refused("3: longest below change", x, x.node(7, 6), 2);
        fine("3: least", x, x.node(0, 0), 0);
        fine("3: longest as change", x, x.node(200, 200), 1);
        fine("3: greatest", x, x.node(200, 5000), 2);
        fine("3: no longest", x, x.node(200, NONE), 3);
        for (int i = 4; i < 24; i++) {
            due("3: node", x.node(0, NONE), i);
        }
        refused("3: 2 ahead of 3", x, x.node(-1, NONE), 2);
        refused("3: one too many", x, x.node(0, NONE), 3);
        due("3: nodes are no changes", x.changes(), 0);
    }

    private static void promise4() {
        TimedNet x = netOf(3);
        once(x, 0, 1, 10, 5);
        once(x, 1, 2, 20, 5);
        due("4: wait of 5", x.first(0, 2, 0, 2), 25);
        fine("4: change 5", x, x.waits(1, 5, NONE));
        due("4: change as the wait", x.first(0, 2, 0, 2), 25);
        fine("4: change 6", x, x.waits(1, 6, NONE));
        due("4: change above the wait", x.first(0, 2, 0, 2), NONE);
        fine("4: longest 5", x, x.waits(1, 0, 5));
        due("4: longest as the wait", x.first(0, 2, 0, 2), 25);
        fine("4: longest 4", x, x.waits(1, 0, 4));
        due("4: longest below the wait", x.first(0, 2, 0, 2), NONE);
        refused("4: longest below change", x, x.waits(1, 5, 4), 2);
        refused("4: change 201", x, x.waits(1, 201, NONE), 2);
        refused("4: longest 5001", x, x.waits(1, 0, 5001), 2);
        refused("4: no such node", x, x.waits(3, 0, NONE), 1);
        refused("4: node -1", x, x.waits(-1, 0, NONE), 1);
        refused("4: 1 ahead of 2", x, x.waits(3, -1, NONE), 1);
        due("4: what was refused changes nothing", x.first(0, 2, 0, 2), NONE);
        x.waits(1, 0, NONE);
        due("4: no changes", x.changes(), 2);
        x.waits(0, 200, 200);
        x.waits(2, 200, 200);
        due("4: not at the ends", x.first(0, 2, 0, 2), 25);
    }

    private static void promise5() {
        TimedNet x = netOf(3);
        fine("5: once", x, x.line(0, 1, 0, 5000, 500, -7, -7), 0);
        fine("5: again", x, x.line(1, 2, 1, 0, 1, 60, 500), 1);
        fine("5: span, period not looked at", x, x.line(2, 0, 2, 10, 3, 2, -9), 2);
        due("5: each is a change", x.changes(), 3);
        due("5: again, its last run", x.run(1, 59, 3, 0), 29500);
        due("5: span, its last run", x.run(2, 1, 3, 0), 11);
        refused("5: like ones", x, x.line(1, 1, 0, 0, 1, 0, 0), 1);
        refused("5: from 3", x, x.line(3, 1, 0, 0, 1, 0, 0), 1);
        refused("5: to -1", x, x.line(0, -1, 0, 0, 1, 0, 0), 1);
        refused("5: 1 ahead of 2", x, x.line(0, 0, 9, 0, 1, 0, 0), 1);
        due("5: refused ones are no changes", x.changes(), 3);
    }

    private static void promise5Edges() {
        TimedNet x = netOf(2);
        refused("5: kind -1", x, x.line(0, 1, -1, 0, 1, 2, 1), 2);
        refused("5: kind 3", x, x.line(0, 1, 3, 0, 1, 2, 1), 2);
        refused("5: leaves -1", x, x.line(0, 1, 0, -1, 1, 0, 0), 2);
        refused("5: leaves 5001", x, x.line(0, 1, 0, 5001, 1, 0, 0), 2);
        refused("5: takes 0", x, x.line(0, 1, 0, 0, 0, 0, 0), 2);
        refused("5: takes 501", x, x.line(0, 1, 0, 0, 501, 0, 0), 2);
        refused("5: again once", x, x.line(0, 1, 1, 0, 1, 1, 1), 2);
        refused("5: again 61 times", x, x.line(0, 1, 1, 0, 1, 61, 1), 2);
        refused("5: span of one", x, x.line(0, 1, 2, 0, 1, 1, 1), 2);
        refused("5: span of 61", x, x.line(0, 1, 2, 0, 1, 61, 1), 2);
        refused("5: period 0", x, x.line(0, 1, 1, 0, 1, 2, 0), 2);
        refused("5: period 501", x, x.line(0, 1, 1, 0, 1, 2, 501), 2);
        due("5: nothing was put", x.changes(), 0);
        fine("5: again, least", x, x.line(0, 1, 1, 0, 1, 2, 1), 0);
        fine("5: span, greatest", x, x.line(0, 1, 2, 5000, 500, 60, 0), 1);
    }

    private static void promise6() {
        TimedNet x = netOf(2);
        once(x, 0, 1, 10, 5);
        fine("6: strike", x, x.strike(0));
        due("6: a change", x.changes(), 2);
        due("6: now", x.first(0, 1, 0, 2), NONE);
        due("6: ahead of it", x.first(0, 1, 0, 1), 15);
        refused("6: again", x, x.strike(0), 4);
        refused("6: no such line", x, x.strike(1), 1);
        refused("6: line -1", x, x.strike(-1), 1);
        due("6: the next line's number", once(x, 0, 1, 1, 1), 1);
    }

    private static void promise7() {
        TimedNet x = netOf(2);
        x.line(0, 1, 1, 10, 5, 3, 20);
        fine("7: delay", x, x.delay(0, 1, 7));
        due("7: its run", x.run(0, 1, 2, 0), 37);
        due("7: its coming", x.run(0, 1, 2, 1), 42);
        due("7: another run", x.run(0, 2, 2, 0), 50);
        due("7: ahead of it", x.run(0, 1, 1, 0), 30);
        fine("7: the latest counts", x, x.delay(0, 1, 500));
        due("7: not the sum", x.run(0, 1, 3, 0), 530);
        fine("7: none again", x, x.delay(0, 1, 0));
        due("7: on time", x.run(0, 1, 4, 0), 30);
        refused("7: -1 ticks", x, x.delay(0, 1, -1), 2);
        refused("7: 501 ticks", x, x.delay(0, 1, 501), 2);
        refused("7: run 3", x, x.delay(0, 3, 1), 1);
        refused("7: run -1", x, x.delay(0, -1, 1), 1);
        refused("7: line 1", x, x.delay(1, 0, 1), 1);
        refused("7: 1 ahead of 2", x, x.delay(0, 3, -1), 1);
        x.strike(0);
        refused("7: struck", x, x.delay(0, 1, 1), 4);
        refused("7: 2 ahead of 4", x, x.delay(0, 1, 501), 2);
        due("7: changes", x.changes(), 5);
    }

    private static void promise8() {
        TimedNet x = netOf(2);
        x.line(0, 1, 2, 10, 5, 5, 0);
        fine("8: close the goal", x, x.close(1, 16, 17));
        due("8: ahead of the span", x.run(0, 0, 2, 2), 1);
        due("8: its first tick", x.run(0, 1, 2, 2), 0);
        due("8: its last tick", x.run(0, 2, 2, 2), 0);
        due("8: behind it", x.run(0, 3, 2, 2), 1);
        due("8: before the change", x.run(0, 1, 1, 2), 1);
        fine("8: close the start", x, x.close(0, 13, 13));
        due("8: start ahead", x.run(0, 0, 3, 2), 1);
        due("8: start closed", x.run(0, 3, 3, 2), 0);
        due("8: start behind", x.run(0, 4, 3, 2), 1);
        fine("8: a start's closing bars no leaving later", x, x.close(0, 15, 15));
        due("8: nor a coming elsewhere", x.run(0, 0, 4, 2), 1);
        refused("8: from above to", x, x.close(0, 2, 1), 2);
        refused("8: from -1", x, x.close(0, -1, 1), 2);
        refused("8: to 5001", x, x.close(0, 0, 5001), 2);
        refused("8: no such node", x, x.close(2, 0, 1), 1);
        refused("8: 1 ahead of 2", x, x.close(-1, 2, 1), 1);
        fine("8: all ticks", x, x.close(0, 0, 5000));
        due("8: none stands", x.stand(5), 0);
        due("8: changes", x.changes(), 5);
    }

    private static void promise9() {
        TimedNet x = netOf(2);
        fine("9: none", x, x.changes(), 0);
        once(x, 0, 1, 10, 5);
        x.delay(0, 0, 1);
        x.close(0, 0, 1);
        x.strike(0);
        x.waits(0, 1, 2);
        x.node(0, NONE);
        refused("9: a refused call", x, x.strike(0), 4);
        fine("9: four", x, x.changes(), 4);
        x.undo();
        fine("9: one undone", x, x.changes(), 3);
    }

    private static void promise10() {
        TimedNet x = netOf(2);
        refused("10: none", x, x.undo(), 6);
        once(x, 0, 1, 10, 5);
        x.delay(0, 0, 3);
        x.delay(0, 0, 9);
        x.close(1, 13, 18);
        x.strike(0);
        fine("10: strike", x, x.undo());
        due("10: not struck", x.told(0, 7), 0);
        fine("10: it can be delayed", x, x.delay(0, 0, 4));
        fine("10: that delay", x, x.undo());
        due("10: closed no more at 24", x.first(0, 1, 0, 4), 24);
        fine("10: close", x, x.undo());
        fine("10: delay", x, x.undo());
        due("10: the delay ahead of it", x.first(0, 1, 0, 2), 18);
        refused("10: it is gone", x, x.first(0, 1, 0, 3), 6);
        fine("10: delay", x, x.undo());
        due("10: on time", x.first(0, 1, 0, 1), 15);
        fine("10: line", x, x.undo());
        refused("10: no line", x, x.told(0, 0), 1);
        refused("10: no change", x, x.undo(), 6);
        fine("10: its number is free", x, x.line(1, 0, 1, 7, 8, 2, 9), 0);
        due("10: nothing is left of the old one", x.run(0, 0, 1, 0), 7);
        due("10: nor its end", x.told(0, 0), 1);
        due("10: asked as it is now", x.stand(1), 2);
        x.undo();
        once(x, 0, 1, 3, 4);
        due("10: asked anew", x.stand(1), 1);
        x.delay(0, 0, 1);
        due("10: late", x.first(0, 1, 0, 2), 8);
        x.undo();
        x.close(0, 3, 3);
        due("10: another change of the same number", x.first(0, 1, 0, 2), NONE);
    }

    private static void promise11() {
        TimedNet x = netOf(3);
        x.line(0, 1, 0, 10, 5, 9, 9);
        x.line(1, 2, 1, 20, 6, 3, 7);
        x.line(2, 0, 2, 30, 8, 4, 9);
        int[][] want = {{0, 1, 0, 10, 5, 1, 0, 0}, {1, 2, 1, 20, 6, 3, 7, 0}, {2, 0, 2, 30, 8, 4, 0, 1}};
        x.strike(2);
        x.delay(1, 0, 5);
        for (int line = 0; line < 3; line++) {
            for (int what = 0; what < 8; what++) {
                fine("11: told(" + line + ", " + what + ")", x, x.told(line, what), want[line][what]);
            }
        }
        refused("11: line 3", x, x.told(3, 0), 1);
        refused("11: line -1", x, x.told(-1, 0), 1);
        refused("11: what 8", x, x.told(0, 8), 2);
        refused("11: what -1", x, x.told(0, -1), 2);
        refused("11: 1 ahead of 2", x, x.told(3, 8), 1);
    }

    private static void promise12() {
        TimedNet x = netOf(3);
        x.line(0, 1, 1, 10, 5, 3, 7);
        x.line(1, 2, 2, 4990, 8, 4, 0);
        fine("12: leaves", x, x.run(0, 2, 2, 0), 24);
        fine("12: comes", x, x.run(0, 2, 2, 1), 29);
        fine("12: stands", x, x.run(0, 2, 2, 2), 1);
        fine("12: comes at 5000", x, x.run(1, 2, 2, 2), 1);
        fine("12: comes at 5001", x, x.run(1, 3, 2, 2), 0);
        fine("12: is told all the same", x, x.run(1, 3, 2, 1), 5001);
        refused("12: a line not put then", x, x.run(1, 0, 1, 0), 1);
        refused("12: run 3", x, x.run(0, 3, 2, 0), 1);
        refused("12: run -1", x, x.run(0, -1, 2, 0), 1);
        refused("12: line 2", x, x.run(2, 0, 2, 0), 1);
        refused("12: line -1", x, x.run(-1, 0, 2, 0), 1);
        refused("12: what 3", x, x.run(0, 0, 2, 3), 2);
        refused("12: what -1", x, x.run(0, 0, 2, -1), 2);
        refused("12: v 3", x, x.run(0, 0, 3, 0), 6);
        refused("12: v -1", x, x.run(0, 0, -1, 0), 6);
        refused("12: 6 ahead of 1", x, x.run(9, 0, 3, 0), 6);
        refused("12: 1 ahead of 2", x, x.run(0, 3, 2, 3), 1);
        x.strike(0);
        fine("12: struck", x, x.run(0, 0, 3, 2), 0);
        fine("12: struck, it is told", x, x.run(0, 1, 3, 0), 17);
        fine("12: not struck then", x, x.run(0, 0, 2, 2), 1);
    }

    private static void promise13() {
        TimedNet x = netOf(4);
        once(x, 0, 1, 10, 5);
        once(x, 1, 2, 15, 5);
        once(x, 0, 2, 11, 30);
        fine("13: by way of 1", x, x.first(0, 2, 10, 3), 20);
        fine("13: too late for it", x, x.first(0, 2, 11, 3), 41);
        refused("13: too late", x, x.first(0, 2, 12, 3), 5);
        refused("13: not that way", x, x.first(2, 0, 0, 3), 5);
        refused("13: not yet", x, x.first(0, 2, 0, 0), 5);
        refused("13: like ones", x, x.first(0, 0, 0, 3), 1);
        refused("13: a -1", x, x.first(-1, 2, 0, 3), 1);
        refused("13: b 4", x, x.first(0, 4, 0, 3), 1);
        refused("13: tick -1", x, x.first(0, 2, -1, 3), 2);
        refused("13: tick 5001", x, x.first(0, 2, 5001, 3), 2);
        fine("13: tick 0", x, x.first(0, 2, 0, 3), 20);
        refused("13: tick 5000", x, x.first(0, 2, 5000, 3), 5);
        refused("13: v 4", x, x.first(0, 2, 0, 4), 6);
        refused("13: v -1", x, x.first(0, 2, 0, -1), 6);
        refused("13: 1 ahead of 2", x, x.first(0, 4, -1, 4), 1);
        refused("13: 2 ahead of 6", x, x.first(0, 2, -1, 4), 2);
        refused("13: 6 where no way is known", x, x.first(3, 2, 0, 4), 6);
    }

    // Coming sooner can be too soon where a longest wait is told: the later of two comings must not be lost.
    private static void promise13Waits() {
        TimedNet x = netOf(4);
        once(x, 0, 1, 0, 10);
        once(x, 0, 1, 5, 25);
        once(x, 1, 2, 35, 5);
        x.waits(1, 5, 5);
        fine("13: by the later coming", x, x.first(0, 2, 0, 3), 40);
        fine("13: waits(1, 6, 25)", x, x.waits(1, 6, 25));
        fine("13: by the sooner coming", x, x.first(0, 2, 0, 3), 40);
        refused("13: which left ahead", x, x.first(0, 2, 1, 3), 5);
        x.waits(1, 6, 24);
        refused("13: by neither", x, x.first(0, 2, 0, 3), 5);
        once(x, 1, 3, 31, 1);
        once(x, 3, 1, 32, 2);
        x.waits(1, 1, 4);
        fine("13: going round takes up the wait", x, x.first(0, 2, 0, 5), 40);
    }

    private static void promise14() {
        TimedNet x = netOf(3);
        once(x, 0, 1, 10, 5);
        once(x, 0, 1, 12, 9);
        once(x, 1, 2, 30, 5);
        once(x, 0, 2, 11, 19);
        fine("14: the later one", x, x.last(0, 2, 35, 4), 12);
        fine("14: as it comes", x, x.last(0, 2, 34, 4), 11);
        fine("14: at its tick", x, x.last(0, 2, 30, 4), 11);
        refused("14: too soon", x, x.last(0, 2, 29, 4), 5);
        x.waits(1, 10, NONE);
        fine("14: no time to change", x, x.last(0, 2, 35, 4), 11);
        once(x, 0, 2, 0, 1);
        fine("14: leaves at 0", x, x.last(0, 2, 1, 5), 0);
        refused("14: like ones", x, x.last(1, 1, 9, 5), 1);
        refused("14: b 3", x, x.last(0, 3, 9, 5), 1);
        refused("14: tick -1", x, x.last(0, 2, -1, 5), 2);
        refused("14: tick 5001", x, x.last(0, 2, 5001, 5), 2);
        refused("14: v 6", x, x.last(0, 2, 9, 6), 6);
        refused("14: v 0", x, x.last(0, 2, 9, 0), 5);
    }

    private static void promise15() {
        TimedNet x = netOf(3);
        once(x, 0, 1, 10, 5);
        once(x, 0, 1, 20, 5);
        once(x, 1, 2, 25, 5);
        once(x, 0, 2, 40, 10);
        once(x, 0, 2, 60, 11);
        fine("15: the lesser of like ones", x, x.quickest(0, 2, 0, 5000, 5), 10);
        fine("15: the later coming one", x, x.quickest(0, 2, 60, 71, 5), 11);
        refused("15: not in time", x, x.quickest(0, 2, 60, 70, 5), 5);
        refused("15: left already", x, x.quickest(0, 2, 61, 5000, 5), 5);
        fine("15: leaves at from, comes at to", x, x.quickest(0, 2, 20, 30, 5), 10);
        refused("15: from above to", x, x.quickest(0, 2, 50, 20, 5), 5);
        x.waits(1, 0, 0);
        fine("15: no wait at all", x, x.quickest(0, 2, 0, 30, 5), 10);
        x.waits(1, 5, 15);
        fine("15: the one that waits", x, x.quickest(0, 2, 0, 30, 5), 20);
        refused("15: like ones", x, x.quickest(0, 0, 0, 9, 5), 1);
        refused("15: from -1", x, x.quickest(0, 2, -1, 9, 5), 2);
        refused("15: to 5001", x, x.quickest(0, 2, 0, 5001, 5), 2);
        refused("15: v 6", x, x.quickest(0, 2, 0, 9, 6), 6);
        refused("15: 2 ahead of 6", x, x.quickest(0, 2, 0, -1, 6), 2);
    }

    private static void promise16() {
        TimedNet x = netOf(4);
        once(x, 0, 1, 0, 2);
        once(x, 1, 2, 2, 2);
        once(x, 2, 3, 4, 2);
        once(x, 0, 2, 1, 3);
        once(x, 0, 3, 30, 9);
        fine("16: one run", x, x.fewest(0, 3, 0, 39, 5), 1);
        fine("16: not in time", x, x.fewest(0, 3, 0, 38, 5), 2);
        x.strike(3);
        fine("16: all three", x, x.fewest(0, 3, 0, 38, 6), 3);
        fine("16: two as it was", x, x.fewest(0, 3, 0, 38, 5), 2);
        refused("16: too late", x, x.fewest(0, 3, 1, 38, 6), 5);
        refused("16: from above to", x, x.fewest(0, 3, 30, 29, 6), 5);
        refused("16: like ones", x, x.fewest(2, 2, 0, 9, 6), 1);
        refused("16: from 5001", x, x.fewest(0, 3, 5001, 9, 6), 2);
        refused("16: to -1", x, x.fewest(0, 3, 0, -1, 6), 2);
        refused("16: v -1", x, x.fewest(0, 3, 0, 9, -1), 6);
    }

    private static void promise17() {
        TimedNet x = netOf(3);
        x.line(0, 1, 1, 10, 5, 3, 5);
        x.line(1, 2, 2, 21, 5, 4, 0);
        fine("17: two runs", x, x.way(0, 2, 11, 2), 2);
        outIs("17: two runs", x, 0, 1, 1, 0);
        refused("17: none", x, x.way(0, 2, 21, 2), 5);
        outIs("17: none leaves OUT", x, 0, 1, 1, 0);
        refused("17: like ones", x, x.way(0, 0, 0, 2), 1);
        refused("17: tick -1", x, x.way(0, 2, -1, 2), 2);
        refused("17: v 3", x, x.way(0, 2, 0, 3), 6);
        outIs("17: nor does a fault", x, 0, 1, 1, 0);
        x.strike(0);
        x.undo();
        x.first(0, 1, 0, 2);
        x.weakest(0, 1, 0);
        outIs("17: nor do other calls", x, 0, 1, 1, 0);
        fine("17: a shorter one", x, x.way(0, 1, 0, 2), 1);
        outIs("17: a shorter one", x, 0, 0);
        refused("17: as of 0", x, x.way(0, 2, 0, 0), 5);
    }

    private static void promise17Ties() {
        TimedNet x = netOf(4);
        once(x, 2, 3, 20, 10);
        once(x, 1, 3, 20, 10);
        once(x, 0, 1, 5, 5);
        x.line(0, 2, 1, 1, 5, 3, 1);
        fine("17: two by two", x, x.way(0, 3, 0, 4), 2);
        outIs("17: the last run's line decides first, then the lesser run", x, 3, 0, 0, 0);
        fine("17: later", x, x.way(0, 3, 2, 4), 2);
        outIs("17: later", x, 3, 1, 0, 0);
        once(x, 0, 3, 0, 30);
        fine("17: fewer runs", x, x.way(0, 3, 0, 5), 1);
        outIs("17: fewer runs", x, 4, 0);
        x.delay(3, 0, 10);
        fine("17: as it was", x, x.way(0, 3, 0, 4), 2);
        fine("17: the fewer runs leave at 0", x, x.way(0, 3, 1, 6), 2);
        outIs("17: a delayed run comes in time all the same", x, 3, 0, 0, 0);
        once(x, 0, 3, 1, 28);
        fine("17: sooner", x, x.way(0, 3, 0, 7), 1);
        outIs("17: sooner", x, 5, 0);
    }

    // The only way goes round again and again, as one may not wait for long.
    private static void promise17Rings() {
        TimedNet x = netOf(3);
        x.line(0, 1, 1, 0, 1, 50, 2);
        x.line(1, 0, 1, 1, 1, 50, 2);
        once(x, 1, 2, 99, 1);
        x.waits(0, 0, 0);
        x.waits(1, 0, 0);
        fine("17: a run at once", x, x.way(0, 2, 0, 3), 2);
        outIs("17: a run at once", x, 0, 49, 2, 0);
        x.close(0, 98, 98);
        refused("17: that run alone comes in time", x, x.way(0, 2, 0, 4), 5);
        longRing();
    }

    private static void longRing() {
        TimedNet y = netOf(3);
        once(y, 0, 1, 0, 1);
        y.line(1, 2, 1, 1, 1, 20, 2);
        y.line(2, 1, 1, 2, 1, 20, 2);
        y.waits(1, 0, 0);
        y.waits(2, 0, 0);
        y.node(0, NONE);
        once(y, 1, 3, 41, 4);
        fine("17: all round", y, y.way(0, 3, 0, 4), 42);
        due("17: its first line", y.out(0), 0);
        due("17: its third run", y.out(4), 2);
        due("17: its third run's number", y.out(5), 0);
        due("17: its last but one", y.out(81), 19);
        due("17: its last line", y.out(82), 3);
        due("17: no more", y.out(84), NONE);
        fine("17: fewest", y, y.fewest(0, 3, 0, 5000, 4), 42);
        due("17: weakest of like ones", y.weakest(0, 3, 0), 0);
    }

    private static void promise18() {
        TimedNet x = netOf(2);
        x.line(0, 1, 1, 10, 5, 3, 5);
        due("18: empty", x.out(0), NONE);
        x.way(0, 1, 16, 1);
        due("18: out(-1)", x.out(-1), NONE);
        due("18: out(0)", x.out(0), 0);
        due("18: out(1)", x.out(1), 2);
        due("18: out(2)", x.out(2), NONE);
        due("18: out(2147483647)", x.out(Integer.MAX_VALUE), NONE);
        due("18: out(-2147483648)", x.out(Integer.MIN_VALUE), NONE);
    }

    private static TimedNet netOfPairs() {
        TimedNet x = netOf(3);
        once(x, 0, 1, 10, 10);
        once(x, 0, 1, 10, 11);
        once(x, 0, 1, 9, 11);
        once(x, 0, 1, 12, 10);
        once(x, 0, 2, 14, 3);
        once(x, 2, 1, 17, 5);
        once(x, 0, 1, 30, 1);
        once(x, 0, 1, 30, 1);
        once(x, 0, 1, 29, 3);
        return x;
    }

    private static void promise19() {
        TimedNet x = netOfPairs();
        fine("19: three", x, x.pairs(0, 1, 9), 3);
        fine("19: as it was", x, x.pairs(0, 1, 4), 2);
        fine("19: as it was at first", x, x.pairs(0, 1, 0), 0);
        fine("19: none", x, x.pairs(1, 0, 9), 0);
        refused("19: like ones", x, x.pairs(0, 0, 9), 1);
        refused("19: b 3", x, x.pairs(0, 3, 9), 1);
        refused("19: a -1", x, x.pairs(-1, 0, 9), 1);
        refused("19: v 10", x, x.pairs(0, 1, 10), 6);
        refused("19: v -1", x, x.pairs(0, 1, -1), 6);
        refused("19: 1 ahead of 6", x, x.pairs(0, 0, 10), 1);
    }

    private static void promise20() {
        TimedNet x = netOfPairs();
        int[][] want = {{10, 20}, {14, 22}, {30, 31}};
        for (int k = 0; k < 3; k++) {
            fine("20: leaving " + k, x, x.pair(0, 1, 9, k, false), want[k][0]);
            fine("20: coming " + k, x, x.pair(0, 1, 9, k, true), want[k][1]);
        }
        fine("20: as it was", x, x.pair(0, 1, 4, 1, false), 12);
        refused("20: k 3", x, x.pair(0, 1, 9, 3, false), 7);
        refused("20: k -1", x, x.pair(0, 1, 9, -1, true), 7);
        refused("20: none at all", x, x.pair(1, 0, 9, 0, true), 7);
        refused("20: v 10", x, x.pair(0, 1, 10, 0, true), 6);
        refused("20: 6 ahead of 7", x, x.pair(0, 1, 10, -1, true), 6);
        refused("20: b 3", x, x.pair(0, 3, 9, 0, true), 1);
        refused("20: like ones", x, x.pair(1, 1, 9, 0, true), 1);
    }

    private static void promise21() {
        TimedNet x = netOf(4);
        once(x, 0, 1, 10, 5);
        once(x, 1, 2, 15, 5);
        once(x, 2, 0, 30, 5);
        fine("21: itself", x, x.reached(0, 0, 14, 3), 1);
        fine("21: one more", x, x.reached(0, 10, 15, 3), 2);
        fine("21: two more", x, x.reached(0, 10, 20, 3), 3);
        fine("21: back at itself", x, x.reached(0, 0, 5000, 3), 3);
        fine("21: left already", x, x.reached(0, 11, 5000, 3), 1);
        fine("21: as it was", x, x.reached(0, 0, 5000, 1), 2);
        fine("21: from above to", x, x.reached(0, 10, 9, 3), 1);
        fine("21: none leaves", x, x.reached(3, 0, 5000, 3), 1);
        x.waits(1, 1, NONE);
        fine("21: no time to change", x, x.reached(0, 0, 5000, 3), 2);
        refused("21: a 4", x, x.reached(4, 0, 9, 3), 1);
        refused("21: from -1", x, x.reached(0, -1, 9, 3), 2);
        refused("21: to 5001", x, x.reached(0, 0, 5001, 3), 2);
        refused("21: v 4", x, x.reached(0, 0, 9, 4), 6);
        refused("21: 2 ahead of 6", x, x.reached(0, -1, 9, 4), 2);
    }

    private static void promise22() {
        TimedNet x = netOf(3);
        once(x, 0, 1, 10, 5);
        once(x, 1, 2, 15, 5);
        fine("22: itself", x, x.isReached(0, 0, 9, 0, 2), 1);
        fine("22: in time", x, x.isReached(0, 2, 10, 20, 2), 1);
        fine("22: not in time", x, x.isReached(0, 2, 10, 19, 2), 0);
        fine("22: left already", x, x.isReached(0, 2, 11, 5000, 2), 0);
        fine("22: not that way", x, x.isReached(2, 0, 0, 5000, 2), 0);
        fine("22: as it was", x, x.isReached(0, 2, 0, 5000, 1), 0);
        refused("22: a 3", x, x.isReached(3, 0, 0, 9, 2), 1);
        refused("22: b -1", x, x.isReached(0, -1, 0, 9, 2), 1);
        refused("22: like ones that are not there", x, x.isReached(3, 3, 0, 9, 2), 1);
        refused("22: from 5001", x, x.isReached(0, 1, 5001, 9, 2), 2);
        refused("22: to -1", x, x.isReached(0, 0, 0, -1, 2), 2);
        refused("22: v 3", x, x.isReached(0, 0, 0, 9, 3), 6);
    }

    private static void promise23() {
        TimedNet x = netOf(3);
        once(x, 0, 1, 10, 5);
        once(x, 1, 2, 15, 5);
        x.line(0, 2, 1, 8, 40, 2, 5);
        fine("23: by the other", x, x.without(0, 2, 0, 0), 48);
        fine("23: all its runs", x, x.without(0, 2, 0, 2), 20);
        fine("23: from a tick on", x, x.without(0, 2, 9, 1), 53);
        refused("23: none is left", x, x.without(0, 1, 0, 0), 5);
        refused("23: line 3", x, x.without(0, 2, 0, 3), 1);
        refused("23: line -1", x, x.without(0, 2, 0, -1), 1);
        refused("23: b 3", x, x.without(0, 3, 0, 0), 1);
        refused("23: like ones", x, x.without(1, 1, 0, 0), 1);
        refused("23: tick -1", x, x.without(0, 2, -1, 0), 2);
        refused("23: tick 5001", x, x.without(0, 2, 5001, 0), 2);
        refused("23: 1 ahead of 2", x, x.without(0, 2, -1, 3), 1);
        due("23: no change", x.changes(), 3);
        due("23: not struck", x.told(0, 7), 0);
        x.strike(2);
        fine("23: struck already", x, x.without(0, 2, 0, 2), 20);
        refused("23: now it is the only one", x, x.without(0, 2, 0, 0), 5);
        due("23: the net as it was is not asked", x.first(0, 2, 11, 3), 53);
    }

    private static void promise24() {
        TimedNet x = netOf(3);
        once(x, 1, 2, 20, 5);
        once(x, 0, 1, 10, 5);
        once(x, 0, 1, 12, 8);
        once(x, 1, 2, 30, 5);
        fine("24: the one that is missed", x, x.weakest(0, 2, 0), 0);
        fine("24: on the way alone", x, x.weakest(0, 2, 11), 2);
        refused("24: no way", x, x.weakest(0, 2, 13), 5);
        x.strike(2);
        fine("24: none at all is later than any", x, x.weakest(0, 2, 0), 1);
        x.strike(3);
        fine("24: of several the least", x, x.weakest(0, 2, 0), 0);
        refused("24: like ones", x, x.weakest(0, 0, 0), 1);
        refused("24: a 3", x, x.weakest(3, 0, 0), 1);
        refused("24: tick -1", x, x.weakest(0, 2, -1), 2);
        refused("24: tick 5001", x, x.weakest(0, 2, 5001), 2);
        refused("24: not that way", x, x.weakest(2, 0, 0), 5);
        due("24: OUT stays empty", x.out(0), NONE);
        due("24: no change", x.changes(), 6);
        x.way(0, 1, 0, 6);
        x.weakest(0, 2, 0);
        outIs("24: OUT stays", x, 1, 0);
        weakestAtTheEndOfTime();
        weakestOfTheWayAlone();
    }

    private static void weakestAtTheEndOfTime() {
        TimedNet x = netOf(3);
        once(x, 0, 1, 4400, 99);
        x.line(1, 2, 1, 4499, 1, 2, 500);
        once(x, 0, 1, 4600, 399);
        x.waits(1, 0, 0);
        fine("24: coming at 5000", x, x.without(0, 2, 0, 0), 5000);
        fine("24: none is later than 5000", x, x.weakest(0, 2, 0), 1);
    }

    private static void weakestOfTheWayAlone() {
        TimedNet x = netOf(2);
        once(x, 0, 1, 1, 9);
        once(x, 0, 1, 2, 3);
        once(x, 0, 1, 1, 4);
        fine("24: no other line, if none is missed", x, x.weakest(0, 1, 0), 1);
    }

    private static void promise25() {
        TimedNet x = netOf(2);
        fine("25: none", x, x.stand(0), 0);
        x.line(0, 1, 1, 4000, 500, 3, 250);
        fine("25: at 5000 still", x, x.stand(1), 3);
        x.delay(0, 2, 1);
        fine("25: above 5000", x, x.stand(2), 2);
        x.close(0, 4000, 4249);
        fine("25: closed", x, x.stand(3), 1);
        x.strike(0);
        fine("25: struck", x, x.stand(4), 0);
        fine("25: as it was", x, x.stand(2), 2);
        refused("25: v 5", x, x.stand(5), 6);
        refused("25: v -1", x, x.stand(-1), 6);
    }
}
