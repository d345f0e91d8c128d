import java.io.IOException;
import java.lang.reflect.Constructor;
import java.lang.reflect.Executable;
import java.lang.reflect.Field;
import java.lang.reflect.Method;
import java.lang.reflect.Modifier;
import java.nio.file.Files;
import java.nio.file.Path;
import java.util.Arrays;
import java.util.Set;
import java.util.TreeSet;
import java.util.regex.Matcher;
import java.util.regex.Pattern;

/** What of shared/LANGUAGE.md can be seen from outside: the face, the words, the measures. */
public final class LanguageTest {
    private static final String[] FACE = {"feed(int, long) int", "den() int", "want() int", "fault() int",
        "count(int) int", "thing(int, int) int", "hold(int, int) int", "hangs(int, int) int", "leans(int, int) int",
        "height(int) int", "gives(int, int) int", "rest(int, int) int", "event(int, int) int", "stands() int",
        "bears(int, int) int", "weakest(int) int", "room(int, int) int", "cells(int) long", "rooms(int) int",
        "light(int) int", "most(int, int, int, int) int", "fewest() int", "order(int, boolean, int) int",
        "heap(int) int", "change(int, int) int", "fasten(int, int, int) int", "tower(int) int", "met(int) int",
        "seed(int) int", "bumps(int, int) int", "keep(int) int", "goBack(int) int"};

    private LanguageTest() {
    }

    public static void main(String[] args) throws IOException {
        face();
        insides();
        words();
        measures();
        Check.end();
    }

    private static void none(String rule, String found) {
        Check.due(rule + (found.isEmpty() ? "" : ": " + found), found.isEmpty() ? 0 : 1, 0);
    }

    private static void face() {
        Set<String> due = new TreeSet<>(Arrays.asList(FACE));
        Set<String> got = new TreeSet<>();
        StringBuilder wrong = new StringBuilder();
        for (Method m : ChairDen.class.getDeclaredMethods()) {
            int mod = m.getModifiers();
            if (Modifier.isPublic(mod)) {
                StringBuilder s = new StringBuilder();
                for (Class<?> type : m.getParameterTypes()) {
                    s.append(s.length() == 0 ? "" : ", ").append(type.getName());
                }
                got.add(m.getName() + "(" + s + ") " + m.getReturnType().getName());
            } else if (!Modifier.isPrivate(mod) && !m.isSynthetic()) {
                wrong.append(m.getName()).append(' ');
            }
        }
        Check.due("the face is as due: " + got, got.equals(due) ? 1 : 0, 1);
        Set<String> constants = new TreeSet<>();
        for (Field f : ChairDen.class.getDeclaredFields()) {
            if (Modifier.isPublic(f.getModifiers())) {
                constants.add(f.getName());
            } else if (!Modifier.isPrivate(f.getModifiers())) {
                wrong.append(f.getName()).append(' ');
            }
        }
        Check.due("constants", constants.equals(Set.of("NONE", "UNKNOWN", "OUTSIDE", "NOT", "FULL")) ? 1 : 0, 1);
        for (Constructor<?> c : ChairDen.class.getDeclaredConstructors()) {
            Check.due("a public constructor of nothing", c.getParameterCount() == 0
                && Modifier.isPublic(c.getModifiers()) ? 1 : 0, 1);
        }
        Check.due("final", Modifier.isFinal(ChairDen.class.getModifiers()) ? 1 : 0, 1);
        none("no other member than private ones", wrong.toString());
    }

    private static void insides() {
        Set<String> publicNames = new TreeSet<>();
        for (String m : FACE) {
            publicNames.add(m.substring(0, m.indexOf('(')));
        }
        Class<?>[] inner = ChairDen.class.getDeclaredClasses();
        Check.due("at most 12 classes: " + (inner.length + 1), inner.length + 1 <= 12 ? 1 : 0, 1);
        for (Class<?> c : inner) {
            Check.due(c.getName() + " is static", Modifier.isStatic(c.getModifiers()) ? 1 : 0, 1);
            for (Method m : c.getDeclaredMethods()) {
                none("no method inside bears a public name", publicNames.contains(m.getName()) ? m.getName() : "");
            }
        }
        for (Class<?> c : withOuter(inner)) {
            int fields = 0;
            for (Field f : c.getDeclaredFields()) {
                if (Modifier.isStatic(f.getModifiers())) {
                    none("static fields are final", Modifier.isFinal(f.getModifiers()) ? "" : f.getName());
                } else {
                    fields++;
                }
            }
            Check.due(c.getName() + ": twenty fields at most: " + fields, fields <= 20 ? 1 : 0, 1);
            for (Executable e : c.getDeclaredMethods()) {
                Check.due(e.getName() + ": seven parameters at most", e.getParameterCount() <= 7 ? 1 : 0, 1);
            }
        }
    }

    private static Class<?>[] withOuter(Class<?>[] inner) {
        Class<?>[] all = Arrays.copyOf(inner, inner.length + 1);
        all[inner.length] = ChairDen.class;
        return all;
    }

    /** The file without its comments, and its texts without their signs. */
    private static String code() throws IOException {
        String s = Files.readString(Path.of("src/main/java/ChairDen.java"));
        s = s.replaceAll("\"[^\"\n]*\"", "\"\"").replaceAll("'[^'\n]*'", "'_'");
        s = Pattern.compile("/\\*.*?\\*/", Pattern.DOTALL).matcher(s).replaceAll("");
        return s.replaceAll("//[^\n]*", "");
    }

    private static void words() throws IOException {
        String code = code();
        String barred = "\\b(throw|throws|try|catch|finally|synchronized|assert|instanceof|Object|hashCode|toString"
            + "|equals|record|sealed|yield|var|native|volatile|transient|strictfp|default \\w+\\(|\\w+Exact|float|double"
            + "|Character|System\\.(?!arraycopy)\\w+)\\b|->|::|@|\\?\\s*(extends|super)";
        Matcher m = Pattern.compile(barred).matcher(code);
        StringBuilder found = new StringBuilder();
        while (m.find()) {
            found.append(m.group()).append(' ');
        }
        none("no word that is ruled out", found.toString());
        m = Pattern.compile("^import (.*);", Pattern.MULTILINE).matcher(code);
        found.setLength(0);
        while (m.find()) {
            found.append(Set.of("java.util.Arrays", "java.util.ArrayList", "java.util.List").contains(m.group(1))
                ? "" : m.group(1));
        }
        none("no other import", found.toString());
        none("no package line", code.contains("package ") ? "package" : "");
        none("texts are not joined by +", Pattern.compile("\"\"\\s*\\+|\\+\\s*\"\"").matcher(code).find() ? "+" : "");
        none("no while (true)", Pattern.compile("while \\(true\\)|for \\(;").matcher(code).find() ? "endless" : "");
        Check.due("all signs are 1 to 127",
            Files.readString(Path.of("src/main/java/ChairDen.java")).chars().allMatch(c -> c > 0 && c < 128) ? 1 : 0, 1);
    }

    /** Methods of some sixty lines at most, lines that can be read. */
    private static void measures() throws IOException {
        String name = "";
        int first = 0;
        int number = 0;
        for (String line : code().split("\n", -1)) {
            number++;
            Matcher start = Pattern.compile("^( {4}| {8})(?!private static final class|@)[a-zA-Z].*?(\\w+)\\(.*\\{$")
                .matcher(line);
            if (start.matches() && !line.contains(" class ")) {
                name = start.group(2);
                first = number;
            }
            if (line.matches("^( {4}| {8})\\}$") && !name.isEmpty()) {
                Check.due(name + " has sixty lines at most", number - first < 60 ? 1 : 0, 1);
                name = "";
            }
            Check.due("line " + number + " is not too long", line.length() <= 120 ? 1 : 0, 1);
        }
    }
}
