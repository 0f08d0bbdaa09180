import java.util.ArrayList;
import java.util.List;
import java.util.function.Predicate;

/**
 * A call that is refused (NONE, false) changes nothing but the tape, where it is told: two objects of the same calls,
 * one of them with the refused call behind, must answer every question alike. So must calls that only ask.
 */
public final class RefusalTest extends Answers {
    /** An object is good for 512 calls; a state takes less than 130 of them, and some questions are two calls. */
    private static final int QUESTIONS_OF_ONE = 170;
    private static final String FIRST_TWENTY = "=1+2+3+4+5+6+7+8+9+0";
    private static final String NEXT_TWENTY = "+1*A1-2/B1+3*C1-4*D1";
    private static final int[] NO_CELLS = {DEEP, -2, -1, 64, FAR};
    private static final int[] NO_SHEETS = {DEEP, -1, 6, FAR};
    private static final int[] NO_PUPILS = {DEEP, -1, 0, 6, FAR};
    private static final int[] NO_WORLDS = {DEEP, -1, 6, FAR};
    private static final int[] NO_NUMBERS = {DEEP, -10000, 10000, FAR};
    private static final int TAPE_QUESTION = 4;
    private static final int EMPTY = 0;
    private static final int MIDDLE = 1;
    private static final int FULL = 2;

    private interface Call {
        long on(SheetMarker x);
    }

    /** A call, and what is due; FREE if that is not asked here. */
    private record Told(String name, long due, Call call) {
        static final long FREE = Long.MIN_VALUE;
    }

    public static void main(String[] args) {
        for (int state = EMPTY; state <= FULL; state++) {
            sentence("A call that is refused changes nothing, state " + state);
            List<Told> calls = new ArrayList<>();
            refusedChanges(calls);
            refusedQuestions(calls);
            refusedInState(calls, state);
            changesNothing(calls, state);
            sentence("A call that asks changes nothing, state " + state);
            List<Told> asking = new ArrayList<>();
            asking(asking);
            changesNothing(asking, state);
        }
        faultedFormulas();
        end();
    }

    private static SheetMarker made(int state) {
        SheetMarker x = new SheetMarker();
        if (state == EMPTY) {
            return x;
        }
        int inputs = state == FULL ? 8 : 2;
        int wanted = state == FULL ? 16 : 6;
        int worlds = state == FULL ? 6 : 2;
        for (int w = 0; w < worlds; w++) {
            x.world();
        }
        for (int c = 0; c < inputs; c++) {
            x.input(c);
        }
        for (int w = 0; w < worlds; w++) {
            x.give(w, 0, 3 + w);
            x.give(w, 1, 7 - 5 * w);
        }
        for (int i = 0; i < wanted; i++) {
            x.wants(8 + i, 100 - 3 * i);
            write(x, 0, 8 + i, "=A1+" + i);
        }
        fillPupils(x);
        feedText(x, state == FULL ? FIRST_TWENTY + NEXT_TWENTY + NEXT_TWENTY : FIRST_TWENTY);
        return x;
    }

    private static void fillPupils(SheetMarker x) {
        for (int s = 1; s < 3; s++) {
            write(x, s, "A2", "=A1+0");
            write(x, s, "B2", "=A1-1");
            x.number(s, at("C2"), 5);
            write(x, s, "D2", "=D8+S(A2:B2)");
            write(x, s, "E2", "=A2+A2+B1");
            write(x, s, "D8", "=A2-M(B2,A2)+A1+2");
            write(x, s, "H8", "=H8");
        }
        x.number(3, 63, -9999);
        x.number(4, 0, 9999);
        write(x, 5, "A1", "=1/0");
        write(x, 5, "A2", "=A1*1");
    }

    /** Questions that tell the whole state, but for what is on the tape. */
    private static List<Call> questions() {
        List<Call> all = new ArrayList<>();
        countsAndLooks(all);
        figuresAndMarks(all);
        return all;
    }

    private static void countsAndLooks(List<Call> all) {
        for (int what = 0; what < 164; what++) {
            int asked = what;
            all.add(x -> x.count(asked));
        }
        for (int s = 0; s < 6; s++) {
            for (int c = 0; c < 64; c++) {
                int sheet = s;
                int cell = c;
                all.add(x -> x.look(sheet, cell, 0));
                all.add(x -> x.look(sheet, cell, 1));
                all.add(x -> x.look(sheet, cell, 2));
                for (int i = 0; i < (c < 16 || c > 55 ? 5 : 1); i++) {
                    int what = 10 + i;
                    all.add(x -> x.look(sheet, cell, what));
                }
            }
        }
    }

    private static void figuresAndMarks(List<Call> all) {
        int[] cells = {0, 1, 7, 8, 9, 10, 11, 12, 13, 23, 24, 59, 63};
        for (int s = 0; s < 6; s++) {
            int sheet = s;
            for (int c : cells) {
                for (int w = 0; w < 6; w++) {
                    int world = w;
                    all.add(x -> x.value(sheet, c, world));
                    all.add(x -> 10 * x.error(sheet, c, world) + x.rightError(sheet, c, world));
                    all.add(x -> x.right(sheet, c, world));
                }
                all.add(x -> x.kind(sheet, c));
                all.add(x -> x.points(sheet, c));
                all.add(x -> x.slip(sheet, c, 0));
                all.add(x -> x.slip(sheet, c, 1));
            }
            all.add(x -> x.points(sheet, -1));
            for (int i = 0; i < 17; i++) {
                int asked = i;
                all.add(x -> x.fault(sheet, asked));
                all.add(x -> x.copied(sheet, 2, asked));
            }
        }
    }

    /** All questions' answers; the last ones of each object are about its tape, and about changes behind it. */
    private static List<Long> answers(int state, Told told) {
        List<Call> questions = questions();
        List<Long> answers = new ArrayList<>();
        for (int from = 0; from < questions.size(); from += QUESTIONS_OF_ONE) {
            SheetMarker x = made(state);
            if (told != null) {
                long got = told.call().on(x);
                due(told.name(), got, told.due() == Told.FREE ? got : told.due());
            }
            for (int i = from; i < Math.min(questions.size(), from + QUESTIONS_OF_ONE); i++) {
                answers.add(questions.get(i).on(x));
            }
            answers.add((long) x.formula(5, 62, state == FULL ? 40 : 20));
            for (int i = 0; i < 41; i++) {
                answers.add((long) x.look(5, 62, 10 + i));
            }
            answers.add((long) x.world());
            answers.add(x.input(61) ? 1L : 0L);
            answers.add(x.wants(60, 1) ? 1L : 0L);
        }
        return answers;
    }

    private static void changesNothing(List<Told> calls, int state) {
        List<Long> before = answers(state, null);
        for (Told told : calls) {
            List<Long> behind = answers(state, told);
            int other = 0;
            for (int i = 0; i < before.size(); i++) {
                other += before.get(i).equals(behind.get(i)) ? 0 : 1;
            }
            due("answers that are others behind " + told.name(), other, 0);
        }
    }

    private static void refuse(List<Told> calls, String name, Call call) {
        calls.add(new Told(name, -1, call));
    }

    private static void deny(List<Told> calls, String name, Predicate<SheetMarker> call) {
        calls.add(new Told(name, 0, x -> call.test(x) ? 1 : 0));
    }

    private static void refusedChanges(List<Told> calls) {
        for (int s : NO_SHEETS) {
            deny(calls, "number in sheet " + s, x -> x.number(s, 8, 1));
            refuse(calls, "formula in sheet " + s, x -> x.formula(s, 8, 0));
            deny(calls, "clear in sheet " + s, x -> x.clear(s, 8));
        }
        for (int c : NO_CELLS) {
            deny(calls, "number in cell " + c, x -> x.number(1, c, 1));
            refuse(calls, "formula in cell " + c, x -> x.formula(1, c, 0));
            deny(calls, "clear of cell " + c, x -> x.clear(1, c));
            deny(calls, "input of cell " + c, x -> x.input(c));
            deny(calls, "wants of cell " + c, x -> x.wants(c, 1));
            deny(calls, "give to cell " + c, x -> x.give(0, c, 1));
        }
        for (int v : NO_NUMBERS) {
            deny(calls, "number " + v, x -> x.number(1, 8, v));
            deny(calls, "number " + v + " in an empty cell", x -> x.number(1, 40, v));
            deny(calls, "give " + v, x -> x.give(0, 0, v));
        }
        for (int n : new int[] {DEEP, -20, -1, 41, 61, FAR}) {
            refuse(calls, "formula of " + n, x -> x.formula(1, 8, n));
        }
        for (int points : new int[] {DEEP, -1, 0, 101, FAR}) {
            deny(calls, "wants " + points, x -> x.wants(9, points));
            deny(calls, "wants another " + points, x -> x.wants(30, points));
        }
        for (int w : NO_WORLDS) {
            deny(calls, "give in world " + w, x -> x.give(w, 0, 1));
        }
        deny(calls, "give to no input", x -> x.give(0, 8, 1));
        deny(calls, "clear of an empty cell", x -> x.clear(1, 40));
    }

    private static void refusedQuestions(List<Told> calls) {
        for (int s : NO_SHEETS) {
            refuse(calls, "value in sheet " + s, x -> x.value(s, 8, 0));
            refuse(calls, "error in sheet " + s, x -> x.error(s, 8, 0));
            refuse(calls, "right in sheet " + s, x -> x.right(s, 8, 0));
            refuse(calls, "rightError in sheet " + s, x -> x.rightError(s, 8, 0));
            refuse(calls, "look at sheet " + s, x -> x.look(s, 8, 0));
        }
        for (int s : NO_PUPILS) {
            refuse(calls, "kind in sheet " + s, x -> x.kind(s, 8));
            refuse(calls, "points in sheet " + s, x -> x.points(s, 8));
            refuse(calls, "total of sheet " + s, x -> x.points(s, -1));
            refuse(calls, "slip in sheet " + s, x -> x.slip(s, 8, 0));
            refuse(calls, "fault in sheet " + s, x -> x.fault(s, 0));
            refuse(calls, "copied by sheet " + s, x -> x.copied(s, 2, 0));
            refuse(calls, "copied by sheet " + s, x -> x.copied(1, s, 0));
        }
        for (int c : NO_CELLS) {
            refuse(calls, "value of cell " + c, x -> x.value(1, c, 0));
            refuse(calls, "rightError of cell " + c, x -> x.rightError(1, c, 0));
            refuse(calls, "kind of cell " + c, x -> x.kind(1, c));
            refuse(calls, "slip of cell " + c, x -> x.slip(1, c, 0));
            refuse(calls, "look at cell " + c, x -> x.look(1, c, 0));
        }
        for (int w : NO_WORLDS) {
            refuse(calls, "value in world " + w, x -> x.value(1, 8, w));
            refuse(calls, "right in world " + w, x -> x.right(1, 8, w));
        }
        for (int i : new int[] {DEEP, -1, 64, FAR}) {
            refuse(calls, "fault " + i, x -> x.fault(1, i));
            refuse(calls, "copied " + i, x -> x.copied(1, 2, i));
            refuse(calls, "slip's what " + i, x -> x.slip(1, 9, i));
            refuse(calls, "look's what " + i, x -> x.look(1, 9, i));
            refuse(calls, "count's what " + i, x -> x.count(i));
        }
    }

    private static void refusedInState(List<Told> calls, int state) {
        if (state == EMPTY) {
            refuse(calls, "formula of 1 of 0", x -> x.formula(1, 8, 1));
            deny(calls, "give without worlds", x -> x.give(0, 0, 1));
            refuse(calls, "value without worlds", x -> x.value(1, 8, 0));
            return;
        }
        deny(calls, "an input again", x -> x.input(0));
        deny(calls, "an input that is wanted", x -> x.input(8));
        deny(calls, "an input is wanted", x -> x.wants(1, 50));
        if (state == MIDDLE) {
            refuse(calls, "formula of 21 of 20", x -> x.formula(1, 8, 21));
            refuse(calls, "formula of 40 of 20", x -> x.formula(1, 8, 40));
            deny(calls, "give in a third world", x -> x.give(2, 0, 1));
            return;
        }
        deny(calls, "a ninth input", x -> x.input(40));
        deny(calls, "a seventeenth wanted", x -> x.wants(40, 50));
        refuse(calls, "a seventh world", SheetMarker::world);
        refuse(calls, "61 bytes", x -> x.feed(1, 2, 3, 4, 5));
    }

    private static void ask(List<Told> calls, String name, Call call) {
        calls.add(new Told(name, Told.FREE, call));
    }

    private static void asking(List<Told> calls) {
        for (int s = 0; s < 3; s++) {
            int sheet = s;
            ask(calls, "value in " + s, x -> x.value(sheet, 11, 1));
            ask(calls, "error in " + s, x -> x.error(sheet, 63, 1));
            ask(calls, "right in " + s, x -> x.right(sheet, 11, 0));
            ask(calls, "rightError in " + s, x -> x.rightError(sheet, 63, 0));
            ask(calls, "look in " + s, x -> x.look(sheet, 8, 2));
            for (int c = 8; c < 14; c++) {
                int cell = c;
                ask(calls, "kind in " + s, x -> x.kind(sheet, cell));
                ask(calls, "slip in " + s, x -> x.slip(sheet, cell, 1));
            }
            ask(calls, "total of " + s, x -> x.points(sheet, -1));
            ask(calls, "fault in " + s, x -> x.fault(sheet, 2));
            ask(calls, "copied by " + s, x -> x.copied(sheet, 1, 1));
        }
        ask(calls, "count", x -> x.count(3));
    }

    private static void faultedFormulas() {
        for (int state = MIDDLE; state <= FULL; state++) {
            sentence("A fault empties the tape, as is told, and changes nothing else, state " + state);
            List<Told> calls = new ArrayList<>();
            for (int n : new int[] {0, 1, 3, 19}) {
                calls.add(new Told("fault in an empty cell", 100 + n, x -> x.formula(3, 40, n)));
                calls.add(new Told("fault over a number", 100 + n, x -> x.formula(3, 63, n)));
                calls.add(new Told("fault over a formula", 100 + n, x -> x.formula(1, 8, n)));
                calls.add(new Told("fault in an input", 100 + n, x -> x.formula(5, 0, n)));
            }
            for (Told told : calls) {
                emptiesTheTape(told, state);
            }
        }
    }

    private static void emptiesTheTape(Told told, int state) {
        List<Call> questions = questions();
        for (int from = 0; from < questions.size(); from += QUESTIONS_OF_ONE) {
            SheetMarker faulted = made(state);
            SheetMarker other = made(state);
            due(told.name(), told.call().on(faulted), told.due());
            for (int i = from; i < Math.min(questions.size(), from + QUESTIONS_OF_ONE); i++) {
                long due = i == TAPE_QUESTION ? 0 : questions.get(i).on(other);
                due("question " + i + " behind a " + told.name(), questions.get(i).on(faulted), due);
            }
            due("tape behind a " + told.name(), faulted.count(4), 0);
            due("feed behind a " + told.name(), faulted.feed(0, 0, 0, 0, 0), 20);
        }
    }
}
